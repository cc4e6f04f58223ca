/-! THE PASSAGE: the reference's plan, from its loops -/
def zFo (W : Nat → Nat → Nat → Int) (I : zPI) (n : Nat) : Prop := (∀ g, g ≤ n → ∀ p, p < 2401 → (I 73 (2401 * g + p) ≠ 0 ↔ zR W g p)) ∧ (∀ g, n < g → g ≤ 8 → ∀ p, p < 2401 → I 73 (2401 * g + p) = 0)
theorem pl_90 {W : Nat → Nat → Nat → Int} {K : Int32 → Int32 → Int32 → zPI → Option (Int32 × zPI)} {t : Nat} {v4 : Int32} (ht : t < 2401) : ∀ (m n v : Nat) (I : zPI), zLd W I → zFo W I v → v + m = 8 → m < n →
    ∃ r I', fX9_plan_90 K n (nI t) v4 (nI v) I = K (nI t) v4 (nI r) I' ∧ (∀ a b, a ≠ 73 → I' a b = I a b) ∧ zFo W I' r ∧ v ≤ r ∧ r ≤ 8 ∧ (∀ g, v ≤ g → g < r → ¬ zR W g t) ∧ (r < 8 → zR W r t) := by
  intro m
  induction m with
  | zero =>
    intro n v I hL hF hv hn
    obtain ⟨n, rfl, -⟩ := zsucc hn
    have : v = 8 := by omega
    subst this
    exact ⟨8, I, by rw [fX9_plan_90, if_pos (show (8 : Int32) ≤ nI 8 by decide)], fun a b _ => rfl, hF, by omega, by omega, fun g h1 h2 => by omega, fun h => by omega⟩
  | succ m ih =>
    intro n v I hL hF hv hn
    obtain ⟨n, rfl, hn⟩ := zsucc hn
    have hx := pl_ix (g := v) (p := t)
    have hz := (hF.1 v (Nat.le_refl _) t ht)
    rw [fX9_plan_90, if_neg (show ¬ (8 : Int32) ≤ nI v from nI_ge (a := v) (b := 8) (by omega) (by omega)), hx, zif_t (zin_nI (by omega) (by omega)), nI_clamp (by omega)]
    by_cases h0 : I 73 (2401 * v + t) = 0
    · rw [if_pos h0]
      obtain ⟨I1, e1, f1, f2⟩ := pl_mf (g := v) (by omega) hL
      have hF1 : zFo W I1 (v + 1) := by
        constructor
        · intro g hg p hp
          by_cases e : g = v + 1
          · subst e
            rw [f2 p hp, hF.2 (v + 1) (by omega) (by omega) p hp]
            constructor
            · rintro (h | ⟨p', c, h1, h2, h3, h4⟩)
              · exact absurd rfl h
              · exact ⟨p', c, h1, h2, (hF.1 v (Nat.le_refl _) p' h1).mp h3, h4⟩
            · rintro ⟨p', c, h1, h2, h3, h4⟩
              exact Or.inr ⟨p', c, h1, h2, (hF.1 v (Nat.le_refl _) p' h1).mpr h3, h4⟩
          · rw [f1 _ _ (by omega)]
            exact hF.1 g (by omega) p hp
        · intro g h1 h2 p hp
          rw [f1 _ _ (by omega)]
          exact hF.2 g (by omega) h2 p hp
      obtain ⟨r, I', e2, g1, g2, g3, g4, g5, g6⟩ := ih n (v + 1) I1 (zLd_cong hL (fun a ha b => f1 a b (by omega))) hF1 (by omega) (by omega)
      refine ⟨r, I', ?_, fun a b h => by rw [g1 a b h, f1 a b (by omega)], g2, by omega, g4, fun g h1 h2 => ?_, g6⟩
      · rw [e1]
        simp only [Option.bind_some, nI_1]
        exact e2
      · by_cases e : g = v
        · subst e
          exact fun h => hz.mpr h h0
        · exact g5 g (by omega) h2
    · rw [if_neg h0]
      exact ⟨v, I, rfl, fun a b _ => rfl, hF, by omega, by omega, fun g h1 h2 => by omega, fun _ => hz.mp h0⟩
theorem pl_146 {K : Int32 → Int32 → zPI → Option (Int32 × zPI)} {t r : Nat} {v4 : Int32} (ht : t < 2401) (hr : r ≤ 8) : ∀ (m n p : Nat) (I : zPI), p + m = 2401 → m < n →
    ∃ I', fX9_plan_146 K n (nI t) v4 (nI r) (nI p) I = K v4 (nI r) I' ∧ (∀ a b, ¬ (a = 74 ∧ 2401 * r + p ≤ b ∧ b < 2401 * r + 2401) → I' a b = I a b) ∧ (∀ p', p ≤ p' → p' < 2401 → (I' 74 (2401 * r + p') ≠ 0 ↔ p' = t)) := by
  intro m
  induction m with
  | zero =>
    intro n p I hp hn
    obtain ⟨n, rfl, -⟩ := zsucc hn
    have : p = 2401 := by omega
    subst this
    exact ⟨I, by rw [fX9_plan_146, if_pos (show (2401 : Int32) ≤ nI 2401 by decide)], fun a b _ => rfl, fun p' h1 h2 => by omega⟩
  | succ m ih =>
    intro n p I hp hn
    obtain ⟨n, rfl, hn⟩ := zsucc hn
    have hx := pl_ix (g := r) (p := p)
    rw [fX9_plan_146, if_neg (show ¬ (2401 : Int32) ≤ nI p from nI_ge (a := p) (b := 2401) (by omega) (by omega)), hx]
    have key : ∀ x : Int32, (x ≠ 0 ↔ p = t) → ∃ I', fX9_plan_146 K n (nI t) v4 (nI r) (nI (p + 1)) (zu I 74 (2401 * r + p) x) = K v4 (nI r) I' ∧ (∀ a b, ¬ (a = 74 ∧ 2401 * r + p ≤ b ∧ b < 2401 * r + 2401) → I' a b = I a b) ∧ (∀ p', p ≤ p' → p' < 2401 → (I' 74 (2401 * r + p') ≠ 0 ↔ p' = t)) := by
      intro x hx
      obtain ⟨I', e, f1, f2⟩ := ih n (p + 1) (zu I 74 (2401 * r + p) x) (by omega) (by omega)
      refine ⟨I', e, fun a b h => ?_, fun p' h1 h2 => ?_⟩
      · rw [f1 a b (by omega)]
        by_cases h7 : a = 74
        · exact zu_col (by omega)
        · exact zu_row h7
      · by_cases e : p' = p
        · subst e
          rw [f1 _ _ (by omega), zu_same]
          exact hx
        · exact f2 p' (by omega) h2
    by_cases h0 : p = t
    · rw [if_pos (by rw [h0]), zif_t (zin_nI (by omega) (by omega)), nI_clamp (by omega), nI_1, vnar1]
      exact key 1 ⟨fun _ => h0, fun _ => by decide⟩
    · rw [if_neg (fun h => h0 ((nI_eq (by omega) (by omega)).mp h)), zif_t (zin_nI (by omega) (by omega)), nI_clamp (by omega), nI_1, vnar0]
      exact key 0 ⟨fun h => absurd rfl h, fun h => absurd h h0⟩
def zBk (W : Nat → Nat → Nat → Int) (r t : Nat) (I : zPI) (m : Nat) : Prop := ∀ g, m ≤ g → g ≤ r → ∀ p, p < 2401 → (I 74 (2401 * g + p) ≠ 0 ↔ zR W g p ∧ zB W r t (r - g) p)
theorem pl_191 {W : Nat → Nat → Nat → Int} {K : Int32 → Int32 → zPI → Option (Int32 × zPI)} {t r : Nat} {v4 v5 : Int32} (hr : r ≤ 8) : ∀ (m n : Nat) (I : zPI), zLd W I → (∀ g, g ≤ r → ∀ p, p < 2401 → (I 73 (2401 * g + p) ≠ 0 ↔ zR W g p)) → zBk W r t I m → m ≤ r → m < n →
    ∃ I', fX9_plan_191 K n v4 v5 (iI ((m : Int) - 1)) I = K v4 v5 I' ∧ (∀ a b, a ≠ 74 → I' a b = I a b) ∧ zBk W r t I' 0 := by
  intro m
  induction m with
  | zero =>
    intro n I hL hF hB hm hn
    obtain ⟨n, rfl, -⟩ := zsucc hn
    exact ⟨I, by rw [fX9_plan_191, if_pos (show iI (((0 : Nat) : Int) - 1) < 0 by decide)], fun a b _ => rfl, hB⟩
  | succ m ih =>
    intro n I hL hF hB hm hn
    obtain ⟨n, rfl, hn⟩ := zsucc hn
    have e0 : iI (((m + 1 : Nat) : Int) - 1) = nI m := by rw [show ((m + 1 : Nat) : Int) - 1 = (m : Int) by omega, iI_nat]
    obtain ⟨I1, e1, f1, f2⟩ := pl_mb (g := m) (by omega) hL
    have hB1 : zBk W r t I1 m := by
      intro g h1 h2 p hp
      by_cases e : g = m
      · subst e
        rw [f2 p hp, hF g h2 p hp]
        refine and_congr_right (fun hz => ?_)
        obtain ⟨k, hk⟩ : ∃ k, r - g = k + 1 := ⟨r - g - 1, by omega⟩
        rw [hk]
        simp only [zB]
        rw [show r - (k + 1) = g by omega]
        constructor
        · rintro ⟨c, q, a1, a2, a3⟩
          have hq : q < 2401 := by
            have := (hL g c p (by omega) a1 hp).2
            omega
          have h9 := ((hB (g + 1) (by omega) (by omega) q hq).mp a3).2
          rw [show r - (g + 1) = k by omega] at h9
          exact ⟨c, q, a1, a2, h9⟩
        · rintro ⟨c, q, a1, a2, a3⟩
          have hq : q < 2401 := by
            have := (hL g c p (by omega) a1 hp).2
            omega
          refine ⟨c, q, a1, a2, (hB (g + 1) (by omega) (by omega) q hq).mpr ⟨⟨p, c, hp, a1, hz, a2⟩, ?_⟩⟩
          rw [show r - (g + 1) = k by omega]
          exact a3
      · rw [f1 _ _ (by omega)]
        exact hB g (by omega) h2 p hp
    obtain ⟨I2, e2, g1, g2⟩ := ih n I1 (zLd_cong hL (fun a ha b => f1 a b (by omega))) (fun g hg p hp => by rw [f1 _ _ (by omega)]; exact hF g hg p hp) hB1 (by omega) (by omega)
    refine ⟨I2, ?_, fun a b h => by rw [g1 a b h, f1 a b (by omega)], g2⟩
    rw [fX9_plan_191, e0, if_neg (nI_pos (by omega)), e1]
    simp only [Option.bind_some]
    rw [show nI m + (-1) = iI ((m : Int) - 1) by rw [← iI_nat, show (-1 : Int32) = iI (-1) from rfl, iI_add, Int.sub_eq_add_neg]]
    exact e2
theorem pl_225 {W : Nat → Nat → Nat → Int} {K : Int32 → Int32 → Int32 → Int32 → zPI → Option (Int32 × zPI)} {t r g P : Nat} {v5 : Int32} {I : zPI} (hL : zLd W I) (hB : zBk W r t I 0) (hg : g < r) (hr : r ≤ 8) (hP : P < 2401) (hR : zR W g P) : ∀ (m n c : Nat), c + m < 32 → zsol W r t g P (c + m) → (∀ c', c ≤ c' → c' < c + m → ¬ zsol W r t g P c') → m < n →
    fX9_plan_225 K n v5 (nI P) (nI g) (nI c) I = K v5 (nI P) (nI g) (nI (c + m)) I := by
  have hs : ∀ c q : Nat, c < 32 → W g c P = (q : Int) → (I 74 (2401 * (g + 1) + q) ≠ 0 ↔ zsol W r t g P c) := by
    intro c q hc hw
    have hq : q < 2401 := by
      have := (hL g c P (by omega) hc hP).2
      omega
    rw [hB (g + 1) (by omega) (by omega) q hq]
    constructor
    · rintro ⟨-, h⟩
      exact ⟨q, hw, h⟩
    · rintro ⟨q', h1, h2⟩
      have : q' = q := by omega
      subst this
      exact ⟨⟨P, c, hP, hc, hR, hw⟩, h2⟩
  intro m
  induction m with
  | zero =>
    intro n c hc h1 h2 hn
    obtain ⟨n, rfl, -⟩ := zsucc hn
    obtain ⟨q, hw, hq⟩ := id h1
    obtain ⟨hl, w1, w2⟩ := hL g c P (by omega) (by omega) hP
    rw [show c + 0 = c from rfl] at hw
    rw [fX9_plan_225, hl]
    simp only [Option.bind_some]
    rw [hw, iI_nat, if_neg (nI_pos (by omega)), pl_ix1, zif_t (zin_nI (by omega) (by omega)), nI_clamp (by omega), if_neg ((hs c q (by omega) hw).mpr h1)]
    rfl
  | succ m ih =>
    intro n c hc h1 h2 hn
    obtain ⟨n, rfl, hn⟩ := zsucc hn
    have h9 := ih n (c + 1) (by omega) (by rw [show c + 1 + m = c + (m + 1) by omega]; exact h1) (fun c' a1 a2 => h2 c' (by omega) (by omega)) (by omega)
    rw [show c + 1 + m = c + (m + 1) by omega] at h9
    obtain ⟨hl, w1, w2⟩ := hL g c P (by omega) (by omega) hP
    rw [fX9_plan_225, hl]
    simp only [Option.bind_some]
    by_cases hw : W g c P < 0
    · rw [if_pos (by rw [zlt_i, zi_n0, iI_toInt (by omega) (by omega)]; exact hw), nI_1]
      exact h9
    · obtain ⟨k, hk⟩ : ∃ k : Nat, W g c P = (k : Int) := ⟨(W g c P).toNat, by omega⟩
      have h0 : I 74 (2401 * (g + 1) + k) = 0 := by
        refine Classical.byContradiction (fun h => ?_)
        exact h2 c (by omega) (by omega) ((hs c k (by omega) hk).mp h)
      rw [hk, iI_nat, if_neg (nI_pos (by omega)), pl_ix1, zif_t (zin_nI (by omega) (by omega)), nI_clamp (by omega), if_pos h0, nI_1]
      exact h9
/-- a chain of least courses, from glass g at P, m glasses on -/
def zCh (W : Nat → Nat → Nat → Int) (n t : Nat) (r : Nat → Int32) : Nat → Nat → Nat → Prop
  | 0, _, _ => True
  | m + 1, g, P => ∃ c q : Nat, c < 32 ∧ r g = nI c ∧ W g c P = (q : Int) ∧ zsol W n t g P c ∧ (∀ c', c' < c → ¬ zsol W n t g P c') ∧ zCh W n t r m (g + 1) q
theorem zCh_eq {W : Nat → Nat → Nat → Int} {n t : Nat} {r r' : Nat → Int32} : ∀ (m g P : Nat), zCh W n t r m g P → zCh W n t r' m g P → ∀ j, g ≤ j → j < g + m → r j = r' j := by
  intro m
  induction m with
  | zero => intro g P _ _ j h1 h2; omega
  | succ m ih =>
    intro g P h h' j h1 h2
    obtain ⟨c, q, a1, a2, a3, a4, a5, a6⟩ := h
    obtain ⟨c', q', b1, b2, b3, b4, b5, b6⟩ := h'
    have hc : c = c' := by
      rcases Nat.lt_trichotomy c c' with h | h | h
      · exact absurd a4 (b5 c h)
      · exact h
      · exact absurd b4 (a5 c' h)
    subst hc
    have hq : q = q' := by omega
    subst hq
    by_cases e : j = g
    · subst e
      rw [a2, b2]
    · exact ih (g + 1) q a6 b6 j (by omega) (by omega)
theorem zCh_cong {W : Nat → Nat → Nat → Int} {n t : Nat} {r r' : Nat → Int32} : ∀ (m g P : Nat), zCh W n t r m g P → (∀ j, g ≤ j → j < g + m → r' j = r j) → zCh W n t r' m g P := by
  intro m
  induction m with
  | zero => intro g P _ _; trivial
  | succ m ih =>
    intro g P h e
    obtain ⟨c, q, a1, a2, a3, a4, a5, a6⟩ := h
    exact ⟨c, q, a1, by rw [e g (Nat.le_refl _) (by omega)]; exact a2, a3, a4, a5, ih (g + 1) q a6 (fun j h1 h2 => e j (by omega) (by omega))⟩
theorem zsol_ex {W : Nat → Nat → Nat → Int} {r t g P : Nat} (hg : g < r) (h : zB W r t (r - g) P) : ∃ c, c < 32 ∧ zsol W r t g P c ∧ ∀ c', c' < c → ¬ zsol W r t g P c' := by
  obtain ⟨k, hk⟩ : ∃ k, r - g = k + 1 := ⟨r - g - 1, by omega⟩
  rw [hk] at h
  obtain ⟨c, q, h1, h2, h3⟩ := h
  rw [show r - (k + 1) = g by omega] at h2
  have hs : zsol W r t g P c := ⟨q, h2, by rw [show r - (g + 1) = k by omega]; exact h3⟩
  obtain ⟨c0, h4, h5⟩ := pk_least (fun c => zsol W r t g P c) ⟨c, hs⟩
  refine ⟨c0, ?_, h4, h5⟩
  by_cases h6 : c < c0
  · exact absurd hs (h5 c h6)
  · omega
theorem pl_215 {W : Nat → Nat → Nat → Int} {K : Int32 → zPI → Option (Int32 × zPI)} {t r : Nat} (hr : r ≤ 8) : ∀ (m n g P : Nat) (I : zPI), g + m = r → m < n → zLd W I → zBk W r t I 0 → zR W g P → P < 2401 → zB W r t (r - g) P →
    ∃ I', fX9_plan_215 K n (nI r) (nI P) (nI g) I = K (nI r) I' ∧ (∀ a b, ¬ (a = 75 ∧ g ≤ b ∧ b < r) → I' a b = I a b) ∧ zCh W r t (I' 75) m g P := by
  intro m
  induction m with
  | zero =>
    intro n g P I hg hn hL hB hR hP hb
    obtain ⟨n, rfl, -⟩ := zsucc hn
    exact ⟨I, by rw [fX9_plan_215, if_pos (nI_le (a := r) (b := g) (by omega) (by omega))], fun a b _ => rfl, trivial⟩
  | succ m ih =>
    intro n g P I hg hn hL hB hR hP hb
    obtain ⟨n, rfl, hn⟩ := zsucc hn
    obtain ⟨c, hc, h1, h2⟩ := zsol_ex (by omega) hb
    have e1 := pl_225 (W := W) (K := fun v5 v6 v7 v8 I => (if zin v7 8 then (fX9_leads (zu I 75 v7.toNatClampNeg v8) v7 v6 v8).bind (fun q25 => fX9_plan_215 K n v5 q25 (v7 + 1) (zu I 75 v7.toNatClampNeg v8)) else none)) (v5 := nI r) hL hB (g := g) (by omega) hr hP hR c zF 0 (by omega) (by rw [Nat.zero_add]; exact h1) (fun c' _ a2 => h2 c' (by omega)) (zF_lt (by omega))
    obtain ⟨q, hw, hq⟩ := id h1
    have hq9 : q < 2401 := by
      have := (hL g c P (by omega) hc hP).2
      omega
    have hL1 : zLd W (zu I 75 g (nI c)) := zLd_cong hL (fun a ha b => zu_row (by omega))
    obtain ⟨I2, e2, g1, g2⟩ := ih n (g + 1) q (zu I 75 g (nI c)) (by omega) (by omega) hL1 (fun g' a1 a2 p hp => by rw [zu_row (by decide)]; exact hB g' a1 a2 p hp) ⟨P, c, hP, hc, hR, hw⟩ hq9 hq
    refine ⟨I2, ?_, fun a b h => ?_, c, q, hc, ?_, hw, h1, h2, g2⟩
    · rw [fX9_plan_215, if_neg (nI_ge (a := g) (b := r) (by omega) (by omega)), show (0 : Int32) = nI 0 from rfl, e1]
      simp only [Nat.zero_add]
      rw [zif_t (zin_nI (by omega) (by omega)), nI_clamp (by omega), (hL1 g c P (by omega) hc hP).1, hw, iI_nat]
      simp only [Option.bind_some, nI_1]
      exact e2
    · rw [g1 a b (by omega)]
      by_cases h7 : a = 75
      · exact zu_col (by omega)
      · exact zu_row h7
    · rw [g1 _ _ (by omega), zu_same]
/-- the reference's plan -/
theorem pl_ref {W : Nat → Nat → Nat → Int} {I : zPI} (hL : zLd W I) {X Y : Nat} (hX : X < 49) (hY : Y < 49) : ∃ v I', fX9_plan I (iI ((X : Int) - 24)) (iI ((Y : Int) - 24)) = some (v, I') ∧ (∀ a b, ¬ (a = 73 ∨ a = 74 ∨ a = 75 ∨ (a = 48 ∧ (b = 0 ∨ b = 51))) → I' a b = I a b) ∧
    ((v = -1 ∧ I' 48 51 = 0 ∧ ∀ n, n ≤ 8 → ¬ zR W n (49 * Y + X)) ∨ (∃ n, n ≤ 8 ∧ v = nI n ∧ I' 48 51 = nI n ∧ zR W n (49 * Y + X) ∧ (∀ g, g < n → ¬ zR W g (49 * Y + X)) ∧ zCh W n (49 * Y + X) (I' 75) n 0 1200)) := by
  have ht : 49 * Y + X < 2401 := by omega
  have e24 : (24 : Int32) = iI 24 := rfl
  have em24 : (-24 : Int32) = iI (-24) := rfl
  unfold fX9_plan
  rw [em24, e24]
  rw [if_neg (by rw [iI_lt (by omega) (by omega) (by omega) (by omega)]; omega), if_neg (by rw [iI_lt (by omega) (by omega) (by omega) (by omega)]; omega), if_neg (by rw [iI_lt (by omega) (by omega) (by omega) (by omega)]; omega), if_pos (by rw [iI_le (by omega) (by omega) (by omega) (by omega)]; omega)]
  have ee : (49 : Int32) * (iI ((Y : Int) - 24) + iI 24) + iI ((X : Int) - 24) + iI 24 = nI (49 * Y + X) := by
    rw [iI_add, show (49 : Int32) = iI 49 from rfl, iI_mul, iI_add, iI_add, ← iI_nat]
    congr 1
    omega
  rw [ee]
  obtain ⟨I1, e1, f1, f2⟩ := pl_47 (K := fun v3 I => fX9_plan_90 (fun v3 v4 v5 I => fX9_plan_125 v3 v4 v5 I) zF v3 1200 0 (zu (zu I 73 1200 (vp_nar .boolean 1)) 48 51 0)) (v := nI (49 * Y + X)) 21609 zF 0 (zu I 48 0 0) (by omega) (zF_lt (by omega))
  rw [show (0 : Int32) = nI 0 from rfl] at e1 ⊢
  rw [e1]
  have h1L : ∀ J : zPI, (∀ a, a = 71 ∨ a = 72 → ∀ b, J a b = I a b) → zLd W J := fun J h => zLd_cong hL h
  have hI1 : ∀ a b, a ≠ 73 → ¬ (a = 48 ∧ b = 0) → I1 a b = I a b := by
    intro a b h h'
    rw [f1 a b (by omega)]
    by_cases h7 : a = 48
    · exact zu_col (by omega)
    · exact zu_row h7
  rw [vnar1]
  have hF0 : zFo W (zu (zu I1 73 1200 1) 48 51 (nI 0)) 0 := by
    constructor
    · intro g hg p hp
      have : g = 0 := by omega
      subst this
      rw [zu_row (by decide)]
      simp only [zR]
      by_cases e : p = 1200
      · subst e
        rw [show 2401 * 0 + 1200 = 1200 by omega, zu_same]
        exact ⟨fun _ => rfl, fun _ => by decide⟩
      · rw [zu_col (by omega), f2 _ (by omega) (by omega)]
        exact ⟨fun h => absurd rfl h, fun h => absurd h e⟩
    · intro g h1 h2 p hp
      rw [zu_row (by decide), zu_col (by omega), f2 _ (by omega) (by omega)]
  obtain ⟨r, I2, e2, g1, g2, g3, g4, g5, g6⟩ := pl_90 (W := W) (K := fun v3 v4 v5 I => fX9_plan_125 v3 v4 v5 I) (v4 := 1200) ht 8 zF 0 (zu (zu I1 73 1200 1) 48 51 (nI 0)) (h1L _ (fun a ha b => by rw [zu_row (by omega), zu_row (by omega), hI1 a b (by omega) (by omega)])) hF0 (by omega) (zF_lt (by omega))
  rw [e2]
  have hI2 : ∀ a b, a ≠ 73 → ¬ (a = 48 ∧ (b = 0 ∨ b = 51)) → I2 a b = I a b := by
    intro a b h h'
    rw [g1 a b h]
    by_cases h7 : a = 48
    · rw [zu_col (by omega), zu_row (by omega), hI1 a b h (by omega)]
    · rw [zu_row h7, zu_row h, hI1 a b h (by omega)]
  have h51 : I2 48 51 = nI 0 := by rw [g1 _ _ (by decide), zu_same]
  rw [fX9_plan_125, pl_ix, zif_t (zin_nI (by omega) (by omega)), nI_clamp (by omega)]
  have hz := g2.1 r (Nat.le_refl _) (49 * Y + X) ht
  by_cases h0 : I2 73 (2401 * r + (49 * Y + X)) = 0
  · rw [if_pos h0]
    refine ⟨-1, I2, rfl, fun a b h => hI2 a b (by omega) (by omega), Or.inl ⟨rfl, h51, fun n hn => ?_⟩⟩
    have hr8 : r = 8 := by
      refine Classical.byContradiction (fun h => ?_)
      exact hz.mpr (g6 (by omega)) h0
    by_cases e : n = 8
    · subst e
      rw [hr8] at hz h0
      exact fun h => hz.mpr h h0
    · exact g5 n (by omega) (by omega)
  · rw [if_neg h0]
    have hzr := hz.mp h0
    have hL2 : zLd W I2 := h1L _ (fun a ha b => hI2 a b (by omega) (by omega))
    obtain ⟨I3, e3, k1, k2⟩ := pl_146 (K := fun v4 v5 I => fX9_plan_191 (fun v4 v5 I => fX9_plan_215 (fun v5 I => some (v5, zu I 48 51 v5)) zF v5 v4 0 I) zF v4 v5 (v5 - 1) I) (v4 := 1200) ht g4 2401 zF 0 I2 (by omega) (zF_lt (by omega))
    have hL3 : zLd W I3 := zLd_cong hL2 (fun a ha b => k1 a b (by omega))
    have hB3 : zBk W r (49 * Y + X) I3 r := by
      intro g a1 a2 p hp
      have : g = r := by omega
      subst this
      rw [k2 p (by omega) hp, Nat.sub_self]
      simp only [zB]
      exact ⟨fun h => ⟨by rw [h]; exact hzr, h⟩, fun h => h.2⟩
    obtain ⟨I4, e4, l1, l2⟩ := pl_191 (W := W) (K := fun v4 v5 I => fX9_plan_215 (fun v5 I => some (v5, zu I 48 51 v5)) zF v5 v4 0 I) (v4 := 1200) (v5 := nI r) g4 r zF I3 hL3 (fun g hg p hp => by rw [k1 _ _ (by omega)]; exact g2.1 g hg p hp) hB3 (Nat.le_refl _) (zF_lt (by omega))
    have hR0 : zR W 0 1200 := rfl
    have hb0 : zB W r (49 * Y + X) (r - 0) 1200 := by
      -- somewhere in glass 0 the way begins; only 1200 is there
      have hback : ∀ k, k ≤ r → ∃ p, p < 2401 ∧ zR W (r - k) p ∧ zB W r (49 * Y + X) k p := by
        intro k
        induction k with
        | zero => exact fun _ => ⟨49 * Y + X, ht, hzr, rfl⟩
        | succ k ih =>
          intro hk
          obtain ⟨q, hq, hq1, hq2⟩ := ih (by omega)
          rw [show r - k = (r - (k + 1)) + 1 by omega] at hq1
          obtain ⟨p, c, a1, a2, a3, a4⟩ := hq1
          exact ⟨p, a1, a3, c, q, a2, a4, hq2⟩
      obtain ⟨p, hp, hp1, hp2⟩ := hback r (Nat.le_refl _)
      rw [Nat.sub_self] at hp1
      have : p = 1200 := hp1
      subst this
      exact hp2
    obtain ⟨I5, e5, o1, o2⟩ := pl_215 (W := W) (K := fun v5 I => some (v5, zu I 48 51 v5)) (t := 49 * Y + X) g4 r zF 0 1200 I4 (by omega) (zF_lt (by omega)) (zLd_cong hL3 (fun a ha b => l1 a b (by omega))) l2 hR0 (by omega) hb0
    refine ⟨nI r, zu I5 48 51 (nI r), ?_, fun a b h => ?_, Or.inr ⟨r, g4, rfl, zu_same, hzr, fun g hg => g5 g (by omega) hg, ?_⟩⟩
    · refine e3.trans ?_
      show fX9_plan_191 _ zF 1200 (nI r) (nI r - 1) I3 = _
      rw [show nI r - 1 = iI ((r : Int) - 1) by rw [← iI_nat, show (1 : Int32) = iI 1 from rfl, iI_sub], e4]
      exact e5
    · have hz9 : zu I5 48 51 (nI r) a b = I5 a b := by
        by_cases h7 : a = 48
        · exact zu_col (by omega)
        · exact zu_row h7
      rw [hz9, o1 a b (by omega), l1 a b (by omega), k1 a b (by omega), hI2 a b (by omega) (by omega)]
    · refine zCh_cong _ _ _ o2 (fun j _ _ => ?_)
      rw [zu_row (by decide)]
