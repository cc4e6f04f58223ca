/-! THE WINDS -/
/-- of the first k rows the one that blows in minute m -/
def wnd (M : Nat → Nat) (m : Nat) : Nat → Option Nat
  | 0 => none
  | k + 1 => match wnd M m k with
    | none => if M k ≤ m then some k else none
    | some j => if M k ≤ m ∧ M j ≤ M k then some k else some j
theorem wnd_lt {M : Nat → Nat} {m : Nat} : ∀ k j, wnd M m k = some j → j < k := by
  intro k
  induction k with
  | zero => intro j h; cases h
  | succ k ih =>
    intro j h
    rw [wnd] at h
    cases e : wnd M m k with
    | none =>
      rw [e] at h
      simp only at h
      by_cases h1 : M k ≤ m
      · rw [if_pos h1] at h; cases h; omega
      · rw [if_neg h1] at h; cases h
    | some i =>
      rw [e] at h
      simp only at h
      have := ih i e
      by_cases h1 : M k ≤ m ∧ M i ≤ M k
      · rw [if_pos h1] at h; cases h; omega
      · rw [if_neg h1] at h; cases h; omega
def wval (P : Nat → Nat) : Option Nat → Nat
  | none => 0
  | some j => P j
/-- the rows of the wind, of both sides -/
def zWC (I : zPI) (w : Nat) (M P F : Nat → Nat) : Prop := I 9 3 = nI w ∧ w ≤ 60 ∧ ∀ j, j < w → (I 10 j = nI (M j) ∧ M j ≤ 100000) ∧ (I 11 j = nI (P j) ∧ P j < 32) ∧ (I 12 j = nI (F j) ∧ F j < 13)
def zWR (I : zPI) (w : Nat) (M P F : Nat → Nat) : Prop := I 48 39 = nI w ∧ w ≤ 60 ∧ ∀ j, j < w → (I 67 j = nI (M j) ∧ M j ≤ 100000) ∧ (I 68 j = nI (P j) ∧ P j < 32) ∧ (I 69 j = nI (F j) ∧ F j < 13)
theorem zWC_cong {I I' : zPI} {w : Nat} {M P F : Nat → Nat} (h : zWC I w M P F) (e1 : I' 9 3 = I 9 3) (e2 : ∀ a, a = 10 ∨ a = 11 ∨ a = 12 → ∀ b, I' a b = I a b) : zWC I' w M P F :=
  ⟨by rw [e1]; exact h.1, h.2.1, fun j hj => by rw [e2 10 (by simp), e2 11 (by simp), e2 12 (by simp)]; exact h.2.2 j hj⟩
theorem zWR_cong {I I' : zPI} {w : Nat} {M P F : Nat → Nat} (h : zWR I w M P F) (e1 : I' 48 39 = I 48 39) (e2 : ∀ a, a = 67 ∨ a = 68 ∨ a = 69 → ∀ b, I' a b = I a b) : zWR I' w M P F :=
  ⟨by rw [e1]; exact h.1, h.2.1, fun j hj => by rw [e2 67 (by simp), e2 68 (by simp), e2 69 (by simp)]; exact h.2.2 j hj⟩
theorem wi_find14 {K : zPI → Option zPI} {w m : Nat} {M P F : Nat → Nat} (hm : m < 2147483648) : ∀ (r n k : Nat) (I : zPI), k + r = w → r < n → zWC I w M P F → I 9 5 = nI (wval P (wnd M m k)) → I 9 6 = nI (wval F (wnd M m k)) →
    ∃ I', fX7_find_14 K n (nI m) (nI (wval M (wnd M m k))) (nI k) I = K I' ∧ I' 9 5 = nI (wval P (wnd M m w)) ∧ I' 9 6 = nI (wval F (wnd M m w)) ∧ (∀ a b, ¬ (a = 9 ∧ (b = 5 ∨ b = 6)) → I' a b = I a b) := by
  intro r
  induction r with
  | zero =>
    intro n k I hk hn hW h5 h6
    obtain ⟨n, rfl, -⟩ := zsucc hn
    have : k = w := by omega
    subst this
    exact ⟨I, by rw [fX7_find_14, hW.1, if_pos (nI_le (Nat.le_refl _) (by have := hW.2.1; omega))], h5, h6, fun a b _ => rfl⟩
  | succ r ih =>
    intro n k I hk hn hW h5 h6
    obtain ⟨n, rfl, hn⟩ := zsucc hn
    have hw := hW.2.1
    obtain ⟨⟨a1, a2⟩, ⟨b1, b2⟩, c1, c2⟩ := hW.2.2 k (by omega)
    have hz : zin (nI k) 60 = true := zin_nI (by omega) (by omega)
    rw [fX7_find_14, hW.1, if_neg (nI_ge (a := k) (b := w) (by omega) (by omega))]
    simp only [hz, if_true]
    rw [nI_clamp (by omega), a1]
    have skip : wnd M m (k + 1) = wnd M m k → ∃ I', fX7_find_14 K n (nI m) (nI (wval M (wnd M m k))) (nI k + 1) I = K I' ∧ I' 9 5 = nI (wval P (wnd M m w)) ∧ I' 9 6 = nI (wval F (wnd M m w)) ∧ (∀ a b, ¬ (a = 9 ∧ (b = 5 ∨ b = 6)) → I' a b = I a b) := by
      intro e
      have h9 := ih n (k + 1) I (by omega) (by omega) hW (by rw [e]; exact h5) (by rw [e]; exact h6)
      rw [e] at h9
      rw [nI_1]
      exact h9
    have hv : wval M (wnd M m k) ≤ 100000 := by
      cases e : wnd M m k with
      | none => simp [wval]
      | some j =>
        have := wnd_lt k j e
        exact (hW.2.2 j (by omega)).1.2
    by_cases g1 : m < M k
    · rw [if_pos (nI_lt g1 (by omega))]
      refine skip ?_
      rw [wnd]
      cases e : wnd M m k with
      | none => simp only; rw [if_neg (by omega)]
      | some j => simp only; rw [if_neg (by omega)]
    rw [if_neg (nI_nlt (by omega) (by omega))]
    by_cases g2 : M k < wval M (wnd M m k)
    · rw [if_pos (nI_lt g2 (by omega))]
      refine skip ?_
      rw [wnd]
      cases e : wnd M m k with
      | none => rw [e] at g2; simp [wval] at g2
      | some j =>
        rw [e] at g2
        simp only [wval] at g2
        simp only
        rw [if_neg (by omega)]
    rw [if_neg (nI_nlt (by omega) (by omega)), nI_1]
    have e : wnd M m (k + 1) = some k := by
      rw [wnd]
      cases e : wnd M m k with
      | none => simp only; rw [if_pos (by omega)]
      | some j =>
        rw [e] at g2
        simp only [wval] at g2
        simp only
        rw [if_pos (by omega)]
    have hW2 : zWC (zu (zu I 9 5 (I 11 k)) 9 6 (I 12 k)) w M P F := zWC_cong hW (by rw [zu_col (by decide), zu_col (by decide)]) (fun a ha b => by rw [zu_row (by omega), zu_row (by omega)])
    obtain ⟨I', x1, x2, x3, x4⟩ := ih n (k + 1) (zu (zu I 9 5 (I 11 k)) 9 6 (I 12 k)) (by omega) (by omega) hW2 (by rw [e, zu_col (by decide), zu_same, b1]; rfl) (by rw [e, zu_same, c1]; rfl)
    refine ⟨I', ?_, x2, x3, fun a b h => ?_⟩
    · rw [e] at x1
      rw [zu_row (show (12 : Nat) ≠ 9 by decide)]
      exact x1
    · rw [x4 a b h]
      by_cases h7 : a = 9
      · rw [zu_col (by omega), zu_col (by omega)]
      · rw [zu_row h7, zu_row h7]
theorem wi_find {I : zPI} {w m : Nat} {M P F : Nat → Nat} (hm : m < 2147483648) (hW : zWC I w M P F) : ∃ I', fX7_find I (nI m) = some I' ∧ I' 9 5 = nI (wval P (wnd M m w)) ∧ I' 9 6 = nI (wval F (wnd M m w)) ∧ (∀ a b, ¬ (a = 9 ∧ (b = 5 ∨ b = 6)) → I' a b = I a b) := by
  have hW2 : zWC (zu (zu I 9 5 0) 9 6 0) w M P F := zWC_cong hW (by rw [zu_col (by decide), zu_col (by decide)]) (fun a ha b => by rw [zu_row (by omega), zu_row (by omega)])
  obtain ⟨I', x1, x2, x3, x4⟩ := wi_find14 (K := fun I => some I) hm w zF 0 (zu (zu I 9 5 0) 9 6 0) (by omega) (zF_lt (by have := hW.2.1; omega)) hW2 (by rw [zu_col (by decide), zu_same]; rfl) (by rw [zu_same]; rfl)
  refine ⟨I', x1, x2, x3, fun a b h => ?_⟩
  rw [x4 a b h]
  by_cases h7 : a = 9
  · rw [zu_col (by omega), zu_col (by omega)]
  · rw [zu_row h7, zu_row h7]
theorem wi_now4 {K : Int32 → Option Int32} {w m : Nat} {M P F : Nat → Nat} {I : zPI} (hm : m < 2147483648) (hW : zWR I w M P F) (h29 : I 48 29 = nI m) : ∀ (r n k : Nat), k + r = w → r < n →
    fX9_windNow_4 I K n (match wnd M m k with | none => -1 | some j => nI j) (nI k) = K (match wnd M m w with | none => -1 | some j => nI j) := by
  have hw := hW.2.1
  intro r
  induction r with
  | zero =>
    intro n k hk hn
    obtain ⟨n, rfl, -⟩ := zsucc hn
    have : k = w := by omega
    subst this
    rw [fX9_windNow_4, hW.1, if_pos (nI_le (Nat.le_refl _) (by omega))]
  | succ r ih =>
    intro n k hk hn
    obtain ⟨n, rfl, hn⟩ := zsucc hn
    obtain ⟨⟨a1, a2⟩, -⟩ := hW.2.2 k (by omega)
    have h9 := ih n (k + 1) (by omega) (by omega)
    rw [fX9_windNow_4, hW.1, if_neg (nI_ge (a := k) (b := w) (by omega) (by omega)), zif_t (zin_nI (by omega) (by omega)), nI_clamp (by omega), a1, h29, nI_1]
    by_cases g1 : m < M k
    · rw [if_pos (nI_lt g1 (by omega)), ← h9]
      congr 1
      rw [wnd]
      cases e : wnd M m k with
      | none => simp only; rw [if_neg (by omega)]
      | some j => simp only; rw [if_neg (by omega)]
    rw [if_neg (nI_nlt (by omega) (by omega))]
    rw [wnd] at h9
    cases e : wnd M m k with
    | none =>
      rw [e] at h9
      simp only at h9 ⊢
      rw [if_pos (by omega)] at h9
      rw [if_pos (by decide)]
      exact h9
    | some j =>
      rw [e] at h9
      have hj := wnd_lt k j e
      obtain ⟨⟨d1, d2⟩, -⟩ := hW.2.2 j (by omega)
      simp only at h9 ⊢
      rw [if_neg (nI_pos (by omega)), zif_t (zin_nI (by omega) (by omega)), zif_t (zin_nI (by omega) (by omega)), nI_clamp (by omega), d1]
      by_cases g2 : M k < M j
      · rw [if_neg (by omega)] at h9
        rw [if_pos (nI_lt g2 (by omega))]
        exact h9
      · rw [if_pos (by omega)] at h9
        rw [if_neg (nI_nlt (by omega) (by omega))]
        exact h9
theorem wi_now {I : zPI} {w m : Nat} {M P F : Nat → Nat} (hm : m < 2147483648) (hW : zWR I w M P F) (h29 : I 48 29 = nI m) : fX9_windNow I = some (match wnd M m w with | none => -1 | some j => nI j) := wi_now4 (K := fun v => some v) hm hW h29 w zF 0 (by omega) (zF_lt (by have := hW.2.1; omega))
theorem wi_point {I : zPI} {w m : Nat} {M P F : Nat → Nat} (hm : m < 2147483648) (hW : zWR I w M P F) (h29 : I 48 29 = nI m) : fX9_point I = some (nI (wval P (wnd M m w))) := by
  rw [fX9_point, wi_now hm hW h29]
  have hw := hW.2.1
  cases e : wnd M m w with
  | none => rfl
  | some j =>
    have hj := wnd_lt w j e
    simp only [Option.bind_some]
    rw [if_pos (nI_pos' (by omega)), zif_t (zin_nI (by omega) (by omega)), nI_clamp (by omega), (hW.2.2 j hj).2.1.1]
    rfl
theorem wi_force {I : zPI} {w m : Nat} {M P F : Nat → Nat} (hm : m < 2147483648) (hW : zWR I w M P F) (h29 : I 48 29 = nI m) : fX9_force I = some (nI (wval F (wnd M m w))) := by
  rw [fX9_force, wi_now hm hW h29]
  have hw := hW.2.1
  cases e : wnd M m w with
  | none => rfl
  | some j =>
    have hj := wnd_lt w j e
    simp only [Option.bind_some]
    rw [if_pos (nI_pos' (by omega)), zif_t (zin_nI (by omega) (by omega)), nI_clamp (by omega), (hW.2.2 j hj).2.2.1]
    rfl
theorem wval_lt {P : Nat → Nat} {n k : Nat} {o : Option Nat} (hn : 0 < n) (ho : ∀ j, o = some j → j < k) (h : ∀ j, j < k → P j < n) : wval P o < n := by
  cases o with
  | none => exact hn
  | some j => exact h j (ho j rfl)
theorem wnd_cong {M M' : Nat → Nat} {m : Nat} : ∀ k, (∀ j, j < k → M' j = M j) → wnd M' m k = wnd M m k := by
  intro k
  induction k with
  | zero => intro _; rfl
  | succ k ih =>
    intro h
    rw [wnd, wnd, ih (fun j hj => h j (by omega)), h k (by omega)]
    cases e : wnd M m k with
    | none => rfl
    | some j =>
      have := wnd_lt k j e
      simp only
      rw [h j (by omega)]
/-- wind: a row is told -/
theorem q_wind {I : zPI} {w : Nat} {M P F : Nat → Nat} (hC : zWC I w M P F) (hR : zWR I w M P F) (p1 p2 p3 : Int32) : ∃ v I1 I2, fX8_wind I p1 p2 p3 = some (v, I1) ∧ fX9_wind I1 p1 p2 p3 = some (v, I2) ∧ (∀ a b, ¬ ((a = 9 ∧ (b = 3 ∨ b = 5 ∨ b = 6)) ∨ a = 10 ∨ a = 11 ∨ a = 12 ∨ (a = 48 ∧ (b = 0 ∨ b = 39)) ∨ a = 67 ∨ a = 68 ∨ a = 69) → I2 a b = I a b) ∧
    ∃ w' M' P' F', zWC I2 w' M' P' F' ∧ zWR I2 w' M' P' F' ∧ ((I2 9 5 = I 9 5 ∧ I2 9 6 = I 9 6 ∧ (I 9 4 = 0 → w' = w ∧ M' = M ∧ P' = P ∧ F' = F)) ∨ (I 9 4 = 0 ∧ I2 9 5 = nI (wval P' (wnd M' 0 w')) ∧ I2 9 6 = nI (wval F' (wnd M' 0 w')))) := by
  have hw := hC.2.1
  have frame0 : ∀ a b, ¬ ((a = 9 ∧ (b = 3 ∨ b = 5 ∨ b = 6)) ∨ a = 10 ∨ a = 11 ∨ a = 12 ∨ (a = 48 ∧ (b = 0 ∨ b = 39)) ∨ a = 67 ∨ a = 68 ∨ a = 69) → zu I 48 0 0 a b = I a b := fun a b h => by
    by_cases h7 : a = 48
    · exact zu_col (by omega)
    · exact zu_row h7
  have same : ∃ w' M' P' F', zWC (zu I 48 0 0) w' M' P' F' ∧ zWR (zu I 48 0 0) w' M' P' F' ∧ ((zu I 48 0 0 9 5 = I 9 5 ∧ zu I 48 0 0 9 6 = I 9 6 ∧ (I 9 4 = 0 → w' = w ∧ M' = M ∧ P' = P ∧ F' = F)) ∨ (I 9 4 = 0 ∧ zu I 48 0 0 9 5 = nI (wval P' (wnd M' 0 w')) ∧ zu I 48 0 0 9 6 = nI (wval F' (wnd M' 0 w')))) :=
    ⟨w, M, P, F, zWC_cong hC (zu_row (by decide)) (fun a ha b => zu_row (by omega)), zWR_cong hR (zu_col (by decide)) (fun a ha b => zu_row (by omega)), Or.inl ⟨zu_row (by decide), zu_row (by decide), fun _ => ⟨rfl, rfl, rfl, rfl⟩⟩⟩
  have e1 : (100000 : Int32).toInt = 100000 := by decide
  have e31 : (31 : Int32).toInt = 31 := by decide
  have e32 : (32 : Int32).toInt = 32 := by decide
  have e12 : (12 : Int32).toInt = 12 := by decide
  have e60 : (60 : Int32) = nI 60 := rfl
  unfold fX8_wind fX7_tell fX9_wind fX0_isWind
  by_cases h1 : p1 < 0
  · exact ⟨0, I, zu I 48 0 0, by rw [if_pos h1]; rfl, by rw [if_pos h1], frame0, same⟩
  by_cases h2 : 100000 < p1
  · exact ⟨0, I, zu I 48 0 0, by rw [if_neg h1, if_pos h2]; rfl, by rw [if_neg h1, if_pos h2], frame0, same⟩
  by_cases h3 : p2 < 0
  · exact ⟨0, I, zu I 48 0 0, by rw [if_neg h1, if_neg h2, if_pos h3]; rfl, by rw [if_neg h1, if_neg h2, if_pos h3], frame0, same⟩
  by_cases h4 : 32 ≤ p2
  · exact ⟨0, I, zu I 48 0 0, by rw [if_neg h1, if_neg h2, if_neg h3, if_pos h4]; rfl, by rw [if_neg h1, if_neg h2, if_neg h3, if_pos (show 31 < p2 by rw [zlt_i]; rw [zle_i] at h4; omega)], frame0, same⟩
  have h4' : ¬ 31 < p2 := by rw [zlt_i]; rw [zle_i] at h4; omega
  by_cases h5 : p3 < 0
  · exact ⟨0, I, zu I 48 0 0, by rw [if_neg h1, if_neg h2, if_neg h3, if_neg h4, if_pos h5]; rfl, by rw [if_neg h1, if_neg h2, if_neg h3, if_neg h4', if_pos h5], frame0, same⟩
  by_cases h6 : 12 < p3
  · exact ⟨0, I, zu I 48 0 0, by rw [if_neg h1, if_neg h2, if_neg h3, if_neg h4, if_neg h5, if_pos h6]; rfl, by rw [if_neg h1, if_neg h2, if_neg h3, if_neg h4', if_neg h5, if_pos h6], frame0, same⟩
  by_cases h8 : w = 60
  · refine ⟨0, I, zu I 48 0 0, ?_, ?_, frame0, same⟩
    · rw [if_neg h1, if_neg h2, if_neg h3, if_neg h4, if_neg h5, if_neg h6, if_neg (by decide), hC.1, h8, if_neg (by decide)]
      rfl
    · rw [if_neg h1, if_neg h2, if_neg h3, if_neg h4', if_neg h5, if_neg h6, zu_col (by decide), hR.1, h8, if_pos (show nI 60 = 60 from rfl)]
  rw [zlt_i, zi_n0] at h1 h3 h5
  rw [zlt_i] at h2 h6
  rw [zle_i] at h4
  obtain ⟨a, ha, rfl⟩ := zsmall (x := p1) (n := 100001) (by omega) (by omega)
  obtain ⟨b, hb, rfl⟩ := zsmall (x := p2) (n := 32) (by omega) (by omega)
  obtain ⟨c, hc, rfl⟩ := zsmall (x := p3) (n := 13) (by omega) (by omega)
  have n1 : ¬ nI a < 0 := nI_pos (by omega)
  have n2 : ¬ (100000 : Int32) < nI a := nI_nlt (a := 100000) (by omega) (by omega)
  have n3 : ¬ nI b < 0 := nI_pos (by omega)
  have n4 : ¬ (32 : Int32) ≤ nI b := nI_ge (b := 32) (by omega) (by omega)
  have n5 : ¬ nI c < 0 := nI_pos (by omega)
  have n6 : ¬ (12 : Int32) < nI c := nI_nlt (a := 12) (by omega) (by omega)
  -- the class's planes behind the row
  have hz : zin (nI w) 60 = true := zin_nI (by omega) (by omega)
  have cl : (nI w).toNatClampNeg = w := nI_clamp (by omega)
  rw [if_neg n1, if_neg n2, if_neg n3, if_neg n4, if_neg n5, if_neg n6, if_neg (by decide), hC.1, if_pos (show nI w < 60 from nI_lt (b := 60) (by omega) (by omega)), zif_t hz]
  simp only [cl, zu_row (show (9 : Nat) ≠ 10 by decide), zu_row (show (9 : Nat) ≠ 11 by decide), zu_row (show (9 : Nat) ≠ 12 by decide), hC.1, hz, if_true, zu_col (show (4 : Nat) ≠ 3 by decide), nI_1]
  -- the rows with the new one
  have M' : ∃ M' : Nat → Nat, M' = fun j => if j = w then a else M j := ⟨_, rfl⟩
  obtain ⟨M', hM'⟩ := M'
  obtain ⟨P', hP'⟩ : ∃ P' : Nat → Nat, P' = fun j => if j = w then b else P j := ⟨_, rfl⟩
  obtain ⟨F', hF'⟩ : ∃ F' : Nat → Nat, F' = fun j => if j = w then c else F j := ⟨_, rfl⟩
  have hC2 : ∀ J : zPI, (∀ x y, x = 9 ∧ y = 3 ∨ x = 10 ∨ x = 11 ∨ x = 12 → J x y = zu (zu (zu (zu I 10 w (nI a)) 11 w (nI b)) 12 w (nI c)) 9 3 (nI (w + 1)) x y) → zWC J (w + 1) M' P' F' := by
    intro J hJ
    refine ⟨by rw [hJ 9 3 (by simp), zu_same], by omega, fun j hj => ?_⟩
    rw [hJ 10 j (by simp), hJ 11 j (by simp), hJ 12 j (by simp), hM', hP', hF']
    by_cases e : j = w
    · simp [zu, e]
      omega
    · simp [zu, e]
      have h9 := hC.2.2 j (by omega)
      exact ⟨h9.1, h9.2.1, h9.2.2⟩
  have hR2 : ∀ J : zPI, (∀ x y, ¬ ((x = 9 ∧ (y = 3 ∨ y = 5 ∨ y = 6)) ∨ x = 10 ∨ x = 11 ∨ x = 12) → J x y = I x y) → ∃ I2, (if nI a < 0 then some (0, zu J 48 0 0) else (if 100000 < nI a then some (0, zu J 48 0 0) else (if nI b < 0 then some (0, zu J 48 0 0) else (if 31 < nI b then some (0, zu J 48 0 0) else (if nI c < 0 then some (0, zu J 48 0 0) else (if 12 < nI c then some (0, zu J 48 0 0) else (if ((zu J 48 0 0) 48 39) = 60 then some (0, zu J 48 0 0) else (if zin ((zu J 48 0 0) 48 39) 60 then (if zin ((zu (zu J 48 0 0) 67 ((zu J 48 0 0) 48 39).toNatClampNeg (nI a)) 48 39) 60 then (if zin ((zu (zu (zu J 48 0 0) 67 ((zu J 48 0 0) 48 39).toNatClampNeg (nI a)) 68 ((zu (zu J 48 0 0) 67 ((zu J 48 0 0) 48 39).toNatClampNeg (nI a)) 48 39).toNatClampNeg (nI b)) 48 39) 60 then some ((1 : Int32), zu (zu (zu (zu (zu J 48 0 0) 67 ((zu J 48 0 0) 48 39).toNatClampNeg (nI a)) 68 ((zu (zu J 48 0 0) 67 ((zu J 48 0 0) 48 39).toNatClampNeg (nI a)) 48 39).toNatClampNeg (nI b)) 69 ((zu (zu (zu J 48 0 0) 67 ((zu J 48 0 0) 48 39).toNatClampNeg (nI a)) 68 ((zu (zu J 48 0 0) 67 ((zu J 48 0 0) 48 39).toNatClampNeg (nI a)) 48 39).toNatClampNeg (nI b)) 48 39).toNatClampNeg (nI c)) 48 39 (((zu (zu (zu (zu J 48 0 0) 67 ((zu J 48 0 0) 48 39).toNatClampNeg (nI a)) 68 ((zu (zu J 48 0 0) 67 ((zu J 48 0 0) 48 39).toNatClampNeg (nI a)) 48 39).toNatClampNeg (nI b)) 69 ((zu (zu (zu J 48 0 0) 67 ((zu J 48 0 0) 48 39).toNatClampNeg (nI a)) 68 ((zu (zu J 48 0 0) 67 ((zu J 48 0 0) 48 39).toNatClampNeg (nI a)) 48 39).toNatClampNeg (nI b)) 48 39).toNatClampNeg (nI c)) 48 39) + 1)) else none) else none) else none)))))))) = some (1, I2) ∧ zWR I2 (w + 1) M' P' F' ∧ (∀ x y, ¬ ((x = 48 ∧ (y = 0 ∨ y = 39)) ∨ x = 67 ∨ x = 68 ∨ x = 69) → I2 x y = J x y) := by
    intro J hJ
    have j39 : J 48 39 = nI w := by rw [hJ _ _ (by decide)]; exact hR.1
    rw [if_neg n1, if_neg n2, if_neg n3, if_neg h4', if_neg n5, if_neg n6, zu_col (show (39 : Nat) ≠ 0 by decide), j39, if_neg (show ¬ nI w = 60 from fun h => h8 ((nI_eq (b := 60) (by omega) (by omega)).mp h)), zif_t hz]
    simp only [cl, zu_row (show (48 : Nat) ≠ 67 by decide), zu_row (show (48 : Nat) ≠ 68 by decide), zu_row (show (48 : Nat) ≠ 69 by decide), zu_col (show (39 : Nat) ≠ 0 by decide), j39, hz, if_true, nI_1]
    refine ⟨_, rfl, ⟨zu_same, by omega, fun j hj => ?_⟩, fun x y h => ?_⟩
    · rw [hM', hP', hF']
      by_cases e : j = w
      · simp [zu, e]
        omega
      · have h9 := hR.2.2 j (by omega)
        rw [← hJ 67 j (by omega), ← hJ 68 j (by omega), ← hJ 69 j (by omega)] at h9
        simp [zu, e]
        exact ⟨h9.1, h9.2.1, h9.2.2⟩
    · by_cases h7 : x = 48
      · rw [zu_col (by omega), zu_row (by omega), zu_row (by omega), zu_row (by omega), zu_col (by omega)]
      · rw [zu_row h7, zu_row (by omega), zu_row (by omega), zu_row (by omega), zu_row h7]
  have fr3 : ∀ x y, ¬ ((x = 9 ∧ (y = 3 ∨ y = 5 ∨ y = 6)) ∨ x = 10 ∨ x = 11 ∨ x = 12) → zu (zu (zu (zu I 10 w (nI a)) 11 w (nI b)) 12 w (nI c)) 9 3 (nI (w + 1)) x y = I x y := fun x y h => by
    by_cases h7 : x = 9
    · rw [zu_col (by omega), zu_row (by omega), zu_row (by omega), zu_row (by omega)]
    · rw [zu_row h7, zu_row (by omega), zu_row (by omega), zu_row (by omega)]
  by_cases hb4 : I 9 4 = 0
  · rw [if_pos hb4]
    obtain ⟨J, y1, y2, y3, y4⟩ := wi_find (m := 0) (by omega) (hC2 _ (fun _ _ _ => rfl))
    obtain ⟨I2, z1, z2, z3⟩ := hR2 J (fun x y h => by rw [y4 x y (by omega), fr3 x y h])
    refine ⟨1, J, I2, ?_, z1, fun x y h => by rw [z3 x y (by omega), y4 x y (by omega), fr3 x y (by omega)], w + 1, M', P', F', ?_, z2, Or.inr ⟨hb4, by rw [z3 _ _ (by decide)]; exact y2, by rw [z3 _ _ (by decide)]; exact y3⟩⟩
    · rw [show (0 : Int32) = nI 0 from rfl] at *
      rw [y1]
      rfl
    · exact hC2 I2 (fun x y h => by rw [z3 x y (by omega), y4 x y (by omega)])
  · rw [if_neg hb4]
    obtain ⟨I2, z1, z2, z3⟩ := hR2 _ fr3
    refine ⟨1, _, I2, rfl, z1, fun x y h => by rw [z3 x y (by omega), fr3 x y (by omega)], w + 1, M', P', F', hC2 I2 (fun x y h => z3 x y (by omega)), z2, Or.inl ⟨?_, ?_, fun h => absurd h hb4⟩⟩
    · rw [z3 _ _ (by decide), zu_col (by decide), zu_row (by decide), zu_row (by decide), zu_row (by decide)]
    · rw [z3 _ _ (by decide), zu_col (by decide), zu_row (by decide), zu_row (by decide), zu_row (by decide)]
