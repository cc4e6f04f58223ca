/-! THE PASSAGE: the reference's plan -/
def zR (W : Nat → Nat → Nat → Int) : Nat → Nat → Prop
  | 0, p => p = 1200
  | g + 1, q => ∃ p c, p < 2401 ∧ c < 32 ∧ zR W g p ∧ W g c p = (q : Int)
def zB (W : Nat → Nat → Nat → Int) (n t : Nat) : Nat → Nat → Prop
  | 0, p => p = t
  | k + 1, p => ∃ c q : Nat, c < 32 ∧ W (n - (k + 1)) c p = (q : Int) ∧ zB W n t k q
def zsol (W : Nat → Nat → Nat → Int) (n t g p c : Nat) : Prop := ∃ q : Nat, W g c p = (q : Int) ∧ zB W n t (n - (g + 1)) q
theorem pl_ix {g p : Nat} : (2401 : Int32) * nI g + nI p = nI (2401 * g + p) := by rw [show (2401 : Int32) = nI 2401 from rfl, pk_mul, nI_add]
theorem pl_ix1 {g p : Nat} : (2401 : Int32) * (nI g + 1) + nI p = nI (2401 * (g + 1) + p) := by rw [nI_1, pl_ix]
theorem pl_mf11 {W : Nat → Nat → Nat → Int} {K : Int32 → Int32 → zPI → Option zPI} {g p : Nat} (hg : g < 8) (hp : p < 2401) : ∀ (m n c : Nat) (I : zPI), zLd W I → c + m = 32 → m < n →
    ∃ I', fX9_marksForth_11 K n (nI g) (nI p) (nI c) I = K (nI g) (nI p) I' ∧ (∀ a b, ¬ (a = 73 ∧ 2401 * (g + 1) ≤ b ∧ b < 2401 * (g + 1) + 2401) → I' a b = I a b) ∧
      (∀ q, q < 2401 → (I' 73 (2401 * (g + 1) + q) ≠ 0 ↔ I 73 (2401 * (g + 1) + q) ≠ 0 ∨ (I 73 (2401 * g + p) ≠ 0 ∧ ∃ c', c ≤ c' ∧ c' < 32 ∧ W g c' p = (q : Int)))) := by
  intro m
  induction m with
  | zero =>
    intro n c I hL hc hn
    obtain ⟨n, rfl, -⟩ := zsucc hn
    have : c = 32 := by omega
    subst this
    refine ⟨I, by rw [fX9_marksForth_11, if_pos (show (32 : Int32) ≤ nI 32 by decide)], fun a b _ => rfl, fun q hq => ⟨Or.inl, ?_⟩⟩
    rintro (h | ⟨-, c', h1, h2, -⟩)
    · exact h
    · omega
  | succ m ih =>
    intro n c I hL hc hn
    obtain ⟨n, rfl, hn⟩ := zsucc hn
    obtain ⟨hl, w1, w2⟩ := hL g c p hg (by omega) hp
    have hx := pl_ix (g := g) (p := p)
    rw [fX9_marksForth_11, if_neg (show ¬ (32 : Int32) ≤ nI c from nI_ge (a := c) (b := 32) (by omega) (by omega)), hx, zif_t (zin_nI (by omega) (by omega)), nI_clamp (by omega)]
    by_cases h0 : I 73 (2401 * g + p) = 0
    · refine ⟨I, by rw [if_pos h0], fun a b _ => rfl, fun q hq => ⟨Or.inl, ?_⟩⟩
      rintro (h | ⟨h, -⟩)
      · exact h
      · exact absurd h0 h
    rw [if_neg h0, hl]
    simp only [Option.bind_some]
    by_cases hw : W g c p < 0
    · obtain ⟨I', e, f1, f2⟩ := ih n (c + 1) I hL (by omega) (by omega)
      refine ⟨I', ?_, f1, fun q hq => ?_⟩
      · rw [if_pos (by rw [zlt_i, zi_n0, iI_toInt (by omega) (by omega)]; exact hw), nI_1, e]
      · rw [f2 q hq]
        constructor
        · rintro (h | ⟨h, c', h1, h2, h3⟩)
          · exact Or.inl h
          · exact Or.inr ⟨h, c', by omega, h2, h3⟩
        · rintro (h | ⟨h, c', h1, h2, h3⟩)
          · exact Or.inl h
          · refine Or.inr ⟨h, c', ?_, h2, h3⟩
            have : c' ≠ c := fun e => by subst e; omega
            omega
    · obtain ⟨k, hk⟩ : ∃ k : Nat, W g c p = (k : Int) := ⟨(W g c p).toNat, by omega⟩
      rw [hk, iI_nat, if_neg (nI_pos (by omega)), pl_ix1, zif_t (zin_nI (by omega) (by omega)), nI_clamp (by omega), nI_1, vnar1]
      obtain ⟨I', e, f1, f2⟩ := ih n (c + 1) (zu I 73 (2401 * (g + 1) + k) 1) (zLd_cong hL (fun a ha b => zu_row (by omega))) (by omega) (by omega)
      refine ⟨I', e, fun a b h => ?_, fun q hq => ?_⟩
      · rw [f1 a b h]
        by_cases h7 : a = 73
        · exact zu_col (by omega)
        · exact zu_row h7
      · rw [f2 q hq, zu_col (o := 73) (b := 2401 * g + p) (by omega)]
        by_cases hq2 : q = k
        · subst hq2
          rw [zu_same]
          exact ⟨fun _ => Or.inr ⟨h0, c, by omega, by omega, hk⟩, fun _ => Or.inl (by decide)⟩
        · rw [zu_col (by omega)]
          constructor
          · rintro (h | ⟨h, c', h1, h2, h3⟩)
            · exact Or.inl h
            · exact Or.inr ⟨h, c', by omega, h2, h3⟩
          · rintro (h | ⟨h, c', h1, h2, h3⟩)
            · exact Or.inl h
            · refine Or.inr ⟨h, c', ?_, h2, h3⟩
              have : c' ≠ c := fun e => by subst e; omega
              omega
theorem pl_mf2 {W : Nat → Nat → Nat → Int} {K : zPI → Option zPI} {g : Nat} (hg : g < 8) : ∀ (m n p : Nat) (I : zPI), zLd W I → p + m = 2401 → m < n →
    ∃ I', fX9_marksForth_2 K n (nI g) (nI p) I = K I' ∧ (∀ a b, ¬ (a = 73 ∧ 2401 * (g + 1) ≤ b ∧ b < 2401 * (g + 1) + 2401) → I' a b = I a b) ∧
      (∀ q, q < 2401 → (I' 73 (2401 * (g + 1) + q) ≠ 0 ↔ I 73 (2401 * (g + 1) + q) ≠ 0 ∨ ∃ p' c, p ≤ p' ∧ p' < 2401 ∧ c < 32 ∧ I 73 (2401 * g + p') ≠ 0 ∧ W g c p' = (q : Int))) := by
  intro m
  induction m with
  | zero =>
    intro n p I hL hp hn
    obtain ⟨n, rfl, -⟩ := zsucc hn
    have : p = 2401 := by omega
    subst this
    refine ⟨I, by rw [fX9_marksForth_2, if_pos (show (2401 : Int32) ≤ nI 2401 by decide)], fun a b _ => rfl, fun q hq => ⟨Or.inl, ?_⟩⟩
    rintro (h | ⟨p', c, h1, h2, -⟩)
    · exact h
    · omega
  | succ m ih =>
    intro n p I hL hp hn
    obtain ⟨n, rfl, hn⟩ := zsucc hn
    rw [fX9_marksForth_2, if_neg (show ¬ (2401 : Int32) ≤ nI p from nI_ge (a := p) (b := 2401) (by omega) (by omega))]
    obtain ⟨I1, e1, f1, f2⟩ := pl_mf11 (W := W) (K := fun v1 v2 I => fX9_marksForth_2 K n v1 (v2 + 1) I) hg (p := p) (by omega) 32 zF 0 I hL (by omega) (zF_lt (by omega))
    obtain ⟨I2, e2, g1, g2⟩ := ih n (p + 1) I1 (zLd_cong hL (fun a ha b => f1 a b (by omega))) (by omega) (by omega)
    refine ⟨I2, ?_, fun a b h => by rw [g1 a b h, f1 a b h], fun q hq => ?_⟩
    · rw [show (0 : Int32) = nI 0 from rfl, e1]
      simp only [nI_1]
      exact e2
    · rw [g2 q hq, f2 q hq]
      have hrow : ∀ p', p' < 2401 → I1 73 (2401 * g + p') = I 73 (2401 * g + p') := fun p' hp' => f1 _ _ (by omega)
      constructor
      · rintro ((h | ⟨h, c, h1, h2, h3⟩) | ⟨p', c, h1, h2, h3, h4, h5⟩)
        · exact Or.inl h
        · exact Or.inr ⟨p, c, by omega, by omega, h2, h, h3⟩
        · exact Or.inr ⟨p', c, by omega, h2, h3, by rw [← hrow p' h2]; exact h4, h5⟩
      · rintro (h | ⟨p', c, h1, h2, h3, h4, h5⟩)
        · exact Or.inl (Or.inl h)
        · by_cases e : p' = p
          · subst e
            exact Or.inl (Or.inr ⟨h4, c, by omega, h3, h5⟩)
          · exact Or.inr ⟨p', c, by omega, h2, h3, by rw [hrow p' h2]; exact h4, h5⟩
/-- marksForth -/
theorem pl_mf {W : Nat → Nat → Nat → Int} {g : Nat} (hg : g < 8) {I : zPI} (hL : zLd W I) :
    ∃ I', fX9_marksForth I (nI g) = some I' ∧ (∀ a b, ¬ (a = 73 ∧ 2401 * (g + 1) ≤ b ∧ b < 2401 * (g + 1) + 2401) → I' a b = I a b) ∧
      (∀ q, q < 2401 → (I' 73 (2401 * (g + 1) + q) ≠ 0 ↔ I 73 (2401 * (g + 1) + q) ≠ 0 ∨ ∃ p' c, p' < 2401 ∧ c < 32 ∧ I 73 (2401 * g + p') ≠ 0 ∧ W g c p' = (q : Int))) := by
  obtain ⟨I', e, f1, f2⟩ := pl_mf2 (W := W) (K := fun I => some I) hg 2401 zF 0 I hL (by omega) (zF_lt (by omega))
  refine ⟨I', e, f1, fun q hq => ?_⟩
  rw [f2 q hq]
  constructor
  · rintro (h | ⟨p', c, -, h2⟩)
    · exact Or.inl h
    · exact Or.inr ⟨p', c, h2⟩
  · rintro (h | ⟨p', c, h2⟩)
    · exact Or.inl h
    · exact Or.inr ⟨p', c, by omega, h2⟩
theorem pl_mb14 {W : Nat → Nat → Nat → Int} {K : Int32 → Int32 → Int32 → zPI → Option zPI} {g p : Nat} (hg : g < 8) (hp : p < 2401) {I : zPI} (hL : zLd W I) : ∀ (m n c : Nat), c + m = 32 → m < n →
    ∃ r : Int32, fX9_marksBack_14 K n (nI g) (nI p) 0 (nI c) I = K (nI g) (nI p) r I ∧ (r = 0 ∨ r = 1) ∧ (r ≠ 0 ↔ I 73 (2401 * g + p) ≠ 0 ∧ ∃ c' q : Nat, c ≤ c' ∧ c' < 32 ∧ W g c' p = (q : Int) ∧ I 74 (2401 * (g + 1) + q) ≠ 0) := by
  intro m
  induction m with
  | zero =>
    intro n c hc hn
    obtain ⟨n, rfl, -⟩ := zsucc hn
    have : c = 32 := by omega
    subst this
    refine ⟨0, by rw [fX9_marksBack_14, if_pos (show (32 : Int32) ≤ nI 32 by decide)], Or.inl rfl, fun h => absurd rfl h, ?_⟩
    rintro ⟨-, c', q, h1, h2, -⟩
    omega
  | succ m ih =>
    intro n c hc hn
    obtain ⟨n, rfl, hn⟩ := zsucc hn
    obtain ⟨hl, w1, w2⟩ := hL g c p hg (by omega) hp
    have hx := pl_ix (g := g) (p := p)
    rw [fX9_marksBack_14, if_neg (show ¬ (32 : Int32) ≤ nI c from nI_ge (a := c) (b := 32) (by omega) (by omega)), if_pos rfl, hx, zif_t (zin_nI (by omega) (by omega)), nI_clamp (by omega)]
    by_cases h0 : I 73 (2401 * g + p) = 0
    · exact ⟨0, by rw [if_pos h0], Or.inl rfl, fun h => absurd rfl h, fun h => absurd h0 h.1⟩
    rw [if_neg h0, hl]
    simp only [Option.bind_some]
    have skip : (∀ q : Nat, W g c p = (q : Int) → I 74 (2401 * (g + 1) + q) = 0) → ∃ r : Int32, fX9_marksBack_14 K n (nI g) (nI p) 0 (nI (c + 1)) I = K (nI g) (nI p) r I ∧ (r = 0 ∨ r = 1) ∧ (r ≠ 0 ↔ I 73 (2401 * g + p) ≠ 0 ∧ ∃ c' q : Nat, c ≤ c' ∧ c' < 32 ∧ W g c' p = (q : Int) ∧ I 74 (2401 * (g + 1) + q) ≠ 0) := by
      intro hno
      obtain ⟨r, e, f1, f2⟩ := ih n (c + 1) (by omega) (by omega)
      refine ⟨r, e, f1, ?_⟩
      rw [f2]
      constructor
      · rintro ⟨h, c', q, h1, h2, h3, h4⟩
        exact ⟨h, c', q, by omega, h2, h3, h4⟩
      · rintro ⟨h, c', q, h1, h2, h3, h4⟩
        refine ⟨h, c', q, ?_, h2, h3, h4⟩
        have : c' ≠ c := fun e => by subst e; exact h4 (hno q h3)
        omega
    by_cases hw : W g c p < 0
    · rw [if_pos (by rw [zlt_i, zi_n0, iI_toInt (by omega) (by omega)]; exact hw), nI_1]
      exact skip (fun q hq => by omega)
    · obtain ⟨k, hk⟩ : ∃ k : Nat, W g c p = (k : Int) := ⟨(W g c p).toNat, by omega⟩
      rw [hk, iI_nat, if_neg (nI_pos (by omega)), pl_ix1, zif_t (zin_nI (by omega) (by omega)), nI_clamp (by omega), nI_1]
      by_cases hb : I 74 (2401 * (g + 1) + k) = 0
      · rw [if_pos hb]
        exact skip (fun q hq => by rw [show q = k by omega]; exact hb)
      · rw [if_neg hb]
        refine ⟨1, ?_, Or.inr rfl, fun _ => ⟨h0, c, k, by omega, by omega, hk, hb⟩, fun _ => by decide⟩
        obtain ⟨n, rfl, -⟩ := zsucc (m := 0) (n := n) (by omega)
        rw [fX9_marksBack_14, if_neg (show ¬ (1 : Int32) = 0 by decide), ite_self]
theorem pl_mb2 {W : Nat → Nat → Nat → Int} {K : zPI → Option zPI} {g : Nat} (hg : g < 8) : ∀ (m n p : Nat) (I : zPI), zLd W I → p + m = 2401 → m < n →
    ∃ I', fX9_marksBack_2 K n (nI g) (nI p) I = K I' ∧ (∀ a b, ¬ (a = 74 ∧ 2401 * g + p ≤ b ∧ b < 2401 * g + 2401) → I' a b = I a b) ∧
      (∀ p', p ≤ p' → p' < 2401 → (I' 74 (2401 * g + p') ≠ 0 ↔ I 73 (2401 * g + p') ≠ 0 ∧ ∃ c q : Nat, c < 32 ∧ W g c p' = (q : Int) ∧ I 74 (2401 * (g + 1) + q) ≠ 0)) := by
  intro m
  induction m with
  | zero =>
    intro n p I hL hp hn
    obtain ⟨n, rfl, -⟩ := zsucc hn
    have : p = 2401 := by omega
    subst this
    exact ⟨I, by rw [fX9_marksBack_2, if_pos (show (2401 : Int32) ≤ nI 2401 by decide)], fun a b _ => rfl, fun p' h1 h2 => by omega⟩
  | succ m ih =>
    intro n p I hL hp hn
    obtain ⟨n, rfl, hn⟩ := zsucc hn
    rw [fX9_marksBack_2, if_neg (show ¬ (2401 : Int32) ≤ nI p from nI_ge (a := p) (b := 2401) (by omega) (by omega))]
    obtain ⟨r, e1, f1, f2⟩ := pl_mb14 (W := W) (K := fun v1 v2 v3 I => (if zin ((2401 * v1) + v2) 21609 then fX9_marksBack_2 K n v1 (v2 + 1) (zu I 74 ((2401 * v1) + v2).toNatClampNeg (vp_nar .boolean v3)) else none)) hg (p := p) (by omega) hL 32 zF 0 (by omega) (zF_lt (by omega))
    have hr : vp_nar .boolean r = r := by
      rcases f1 with rfl | rfl
      · exact vnar0
      · exact vnar1
    obtain ⟨I2, e2, g1, g2⟩ := ih n (p + 1) (zu I 74 (2401 * g + p) r) (zLd_cong hL (fun a ha b => zu_row (by omega))) (by omega) (by omega)
    refine ⟨I2, ?_, fun a b h => ?_, fun p' h1 h2 => ?_⟩
    · rw [show (0 : Int32) = nI 0 from rfl] at e1 ⊢
      rw [e1]
      simp only [pl_ix]
      rw [zif_t (zin_nI (by omega) (by omega)), nI_clamp (by omega), hr, nI_1]
      exact e2
    · rw [g1 a b (by omega)]
      by_cases h7 : a = 74
      · exact zu_col (by omega)
      · exact zu_row h7
    · by_cases e : p' = p
      · subst e
        rw [g1 _ _ (by omega), zu_same, f2]
        constructor
        · rintro ⟨h, c, q, -, h3⟩
          exact ⟨h, c, q, h3⟩
        · rintro ⟨h, c, q, h3⟩
          exact ⟨h, c, q, by omega, h3⟩
      · rw [g2 p' (by omega) h2, zu_row (by decide)]
        have hq : ∀ q : Nat, zu I 74 (2401 * g + p) r 74 (2401 * (g + 1) + q) = I 74 (2401 * (g + 1) + q) := fun q => zu_col (by omega)
        simp only [hq]
/-- marksBack -/
theorem pl_mb {W : Nat → Nat → Nat → Int} {g : Nat} (hg : g < 8) {I : zPI} (hL : zLd W I) :
    ∃ I', fX9_marksBack I (nI g) = some I' ∧ (∀ a b, ¬ (a = 74 ∧ 2401 * g ≤ b ∧ b < 2401 * g + 2401) → I' a b = I a b) ∧
      (∀ p', p' < 2401 → (I' 74 (2401 * g + p') ≠ 0 ↔ I 73 (2401 * g + p') ≠ 0 ∧ ∃ c q : Nat, c < 32 ∧ W g c p' = (q : Int) ∧ I 74 (2401 * (g + 1) + q) ≠ 0)) := by
  obtain ⟨I', e, f1, f2⟩ := pl_mb2 (W := W) (K := fun I => some I) hg 2401 zF 0 I hL (by omega) (zF_lt (by omega))
  exact ⟨I', e, f1, fun p' hp' => f2 p' (by omega) hp'⟩
theorem pl_47 {K : Int32 → zPI → Option (Int32 × zPI)} {v : Int32} : ∀ (m n j : Nat) (I : zPI), j + m = 21609 → m < n →
    ∃ I', fX9_plan_47 K n v (nI j) I = K v I' ∧ (∀ a b, ¬ (a = 73 ∧ j ≤ b ∧ b < 21609) → I' a b = I a b) ∧ (∀ b, j ≤ b → b < 21609 → I' 73 b = 0) := by
  intro m
  induction m with
  | zero =>
    intro n j I hj hn
    obtain ⟨n, rfl, -⟩ := zsucc hn
    have : j = 21609 := by omega
    subst this
    exact ⟨I, by rw [fX9_plan_47, if_pos (show (21609 : Int32) ≤ nI 21609 by decide)], fun a b _ => rfl, fun b h1 h2 => by omega⟩
  | succ m ih =>
    intro n j I hj hn
    obtain ⟨n, rfl, hn⟩ := zsucc hn
    obtain ⟨I', e, f1, f2⟩ := ih n (j + 1) (zu I 73 j 0) (by omega) (by omega)
    refine ⟨I', ?_, fun a b h => ?_, fun b h1 h2 => ?_⟩
    · rw [fX9_plan_47, if_neg (show ¬ (21609 : Int32) ≤ nI j from nI_ge (a := j) (b := 21609) (by omega) (by omega)), zif_t (zin_nI (by omega) (by omega)), nI_clamp (by omega), vnar0, nI_1]
      exact e
    · rw [f1 a b (by omega)]
      by_cases h7 : a = 73
      · exact zu_col (by omega)
      · exact zu_row h7
    · by_cases e : b = j
      · subst e
        rw [f1 _ _ (by omega), zu_same]
      · exact f2 b (by omega) h2
