/-! THE PASSAGE: the class's plan, and both beside each other -/
def zEN (I : zPI) : Prop := ∀ g c, g < 8 → c < 32 → (-12 ≤ (I 18 (g * 32 + c)).toInt ∧ (I 18 (g * 32 + c)).toInt ≤ 12) ∧ (-12 ≤ (I 19 (g * 32 + c)).toInt ∧ (I 19 (g * 32 + c)).toInt ≤ 12)
theorem zEN_of {I : zPI} (h : zPW I) : zEN I := by
  intro g c hg hc
  obtain ⟨P, F, h1, h2, h3, h4, h5⟩ := h g hg
  obtain ⟨-, t3, t4⟩ := pl_tab P h1 F h2 c hc
  rw [(h5 c hc).1, (h5 c hc).2]
  exact ⟨t3, t4⟩
theorem zdst_iff (I : zPI) (g c p q : Nat) (hq : q < 2401) : zdst I g c p = (q : Int) ↔ ((p % 49 : Nat) : Int) + (I 18 (g * 32 + c)).toInt = ((q % 49 : Nat) : Int) ∧ ((p / 49 : Nat) : Int) + (I 19 (g * 32 + c)).toInt = ((q / 49 : Nat) : Int) := by
  unfold zdst
  by_cases h : 0 ≤ ((p % 49 : Nat) : Int) + (I 18 (g * 32 + c)).toInt ∧ ((p % 49 : Nat) : Int) + (I 18 (g * 32 + c)).toInt < 49 ∧ 0 ≤ ((p / 49 : Nat) : Int) + (I 19 (g * 32 + c)).toInt ∧ ((p / 49 : Nat) : Int) + (I 19 (g * 32 + c)).toInt < 49
  · rw [if_pos h]
    omega
  · rw [if_neg h]
    omega
theorem pl_ix32 {g c : Nat} : nI g * 32 + nI c = nI (g * 32 + c) := by rw [show (32 : Int32) = nI 32 from rfl, pk_mul, nI_add]
theorem pl_sp12 {I : zPI} (hE : zEN I) {K : zPL → Option zPL} {g : Nat} (hg : g < 8) {S : Nat → Prop} : ∀ (m n c : Nat) (L : zPL) (T : Nat → Prop), c + m = 32 → m < n → zSe L 20 g S → zSe L 20 (g + 1) T →
    ∃ L', fX2_spread_12 I K n (nI g) (nI c) L = K L' ∧ (∀ a b, ¬ (a = 20 ∧ (g + 1) * 49 ≤ b ∧ b < (g + 1) * 49 + 49) → L' a b = L a b) ∧ zSe L' 20 (g + 1) (fun q => T q ∨ ∃ p c', c ≤ c' ∧ p < 2401 ∧ c' < 32 ∧ S p ∧ zdst I g c' p = (q : Int)) := by
  intro m
  induction m with
  | zero =>
    intro n c L T hc hn hS hT
    obtain ⟨n, rfl, -⟩ := zsucc hn
    have : c = 32 := by omega
    subst this
    refine ⟨L, by rw [fX2_spread_12, if_pos (show (32 : Int32) ≤ nI 32 by decide)], fun a b _ => rfl, zSe_iff hT (fun q hq => ⟨Or.inl, ?_⟩)⟩
    rintro (h | ⟨p, c', h1, -, h2, -⟩)
    · exact h
    · omega
  | succ m ih =>
    intro n c L T hc hn hS hT
    obtain ⟨n, rfl, hn⟩ := zsucc hn
    obtain ⟨b1, b2⟩ := hE g c hg (by omega)
    obtain ⟨L1, e1, f1, f2⟩ := pl_move (s := 20) (f := g) (t := g + 1) (by omega) (by omega) (by omega) b1.1 b1.2 b2.1 b2.2 hS hT
    rw [iI_of, iI_of] at e1
    obtain ⟨L2, e2, g1, g2⟩ := ih n (c + 1) L1 _ (by omega) (by omega) (zSe_cong hS (fun Y hY => f1 _ _ (by omega))) f2
    refine ⟨L2, ?_, fun a b h => by rw [g1 a b h, f1 a b h], zSe_iff g2 (fun q hq => ?_)⟩
    · rw [fX2_spread_12, if_neg (show ¬ (32 : Int32) ≤ nI c from nI_ge (a := c) (b := 32) (by omega) (by omega)), pl_ix32, zif_t (zin_nI (by omega) (by omega)), zif_t (zin_nI (by omega) (by omega)), nI_clamp (by omega), nI_1, e1]
      simp only [Option.bind_some, nI_1]
      exact e2
    · constructor
      · rintro ((h | ⟨p, h1, h2, h3⟩) | ⟨p, c', h1, h2⟩)
        · exact Or.inl h
        · exact Or.inr ⟨p, c, Nat.le_refl _, h1, by omega, h2, (zdst_iff I g c p q hq).mpr h3⟩
        · exact Or.inr ⟨p, c', by omega, h2⟩
      · rintro (h | ⟨p, c', h1, h2, h3, h4, h5⟩)
        · exact Or.inl (Or.inl h)
        · by_cases e : c' = c
          · subst e
            exact Or.inl (Or.inr ⟨p, h2, h4, (zdst_iff I g c' p q hq).mp h5⟩)
          · exact Or.inr ⟨p, c', by omega, h2, h3, h4, h5⟩
theorem pl_spread {I : zPI} (hE : zEN I) {g : Nat} (hg : g < 8) {S : Nat → Prop} {L : zPL} (hS : zSe L 20 g S) : ∃ L', fX2_spread I L (nI g) = some L' ∧ (∀ a b, ¬ (a = 20 ∧ (g + 1) * 49 ≤ b ∧ b < (g + 1) * 49 + 49) → L' a b = L a b) ∧ zSe L' 20 (g + 1) (fun q => ∃ p c, p < 2401 ∧ c < 32 ∧ S p ∧ zdst I g c p = (q : Int)) := by
  obtain ⟨L', e, f1, f2⟩ := pl_sp12 hE (K := fun L => some L) hg (S := S) 32 zF 0 (zclr L 20 (g + 1) 0) (fun _ => False) (by omega) (zF_lt (by omega)) (zSe_cong hS (fun Y hY => zclr_out (by omega))) zclr_se
  refine ⟨L', ?_, fun a b h => by rw [f1 a b h, zclr_out h], zSe_iff f2 (fun q hq => ?_)⟩
  · rw [fX2_spread, nI_1, pl_clear (by omega)]
    simp only [Option.bind_some]
    rw [show (0 : Int32) = nI 0 from rfl]
    exact e
  · constructor
    · rintro (h | ⟨p, c, -, h⟩)
      · exact h.elim
      · exact ⟨p, c, h⟩
    · rintro ⟨p, c, h⟩
      exact Or.inr ⟨p, c, Nat.zero_le _, h⟩
theorem pl_cg12 {I : zPI} (hE : zEN I) {K : Int32 → Int32 → zPL → Option (Int32 × zPL)} {X Y : Nat} (hX : X < 49) (hY : Y < 49) : ∀ (m n g : Nat) (L : zPL), g + m = 8 → m < n → zSe L 20 g (zR (zdst I) g) →
    ∃ L', (∀ a b, a ≠ 20 → L' a b = L a b) ∧ ((∃ r, g ≤ r ∧ r < 8 ∧ zR (zdst I) r (49 * Y + X) ∧ (∀ k, g ≤ k → k < r → ¬ zR (zdst I) k (49 * Y + X)) ∧ fX2_countGlasses_12 I K n (iI ((X : Int) - 24)) (iI ((Y : Int) - 24)) (nI g) L = some (nI r, L')) ∨ ((∀ k, g ≤ k → k < 8 → ¬ zR (zdst I) k (49 * Y + X)) ∧ zSe L' 20 8 (zR (zdst I) 8) ∧ fX2_countGlasses_12 I K n (iI ((X : Int) - 24)) (iI ((Y : Int) - 24)) (nI g) L = K (iI ((X : Int) - 24)) (iI ((Y : Int) - 24)) L')) := by
  intro m
  induction m with
  | zero =>
    intro n g L hg hn hS
    obtain ⟨n, rfl, -⟩ := zsucc hn
    have : g = 8 := by omega
    subst this
    exact ⟨L, fun a b _ => rfl, Or.inr ⟨fun k h1 h2 => by omega, hS, by rw [fX2_countGlasses_12, if_pos (show (8 : Int32) ≤ nI 8 by decide)]⟩⟩
  | succ m ih =>
    intro n g L hg hn hS
    obtain ⟨n, rfl, hn⟩ := zsucc hn
    obtain ⟨r, e1, h1⟩ := pl_has (s := 20) (g := g) (by omega) hS (x := (X : Int) - 24) (y := (Y : Int) - 24) (by omega) (by omega) (by omega) (by omega)
    rw [show ((Y : Int) - 24 + 24).toNat = Y by omega, show ((X : Int) - 24 + 24).toNat = X by omega] at h1
    rw [fX2_countGlasses_12, if_neg (show ¬ (8 : Int32) ≤ nI g from nI_ge (a := g) (b := 8) (by omega) (by omega)), e1]
    simp only [Option.bind_some]
    by_cases h0 : r = 0
    · rw [if_pos h0]
      obtain ⟨L1, e2, f1, f2⟩ := pl_spread hE (g := g) (by omega) hS
      have hno : ¬ zR (zdst I) g (49 * Y + X) := fun h => (h1.mpr ⟨by omega, by omega, by omega, by omega, h⟩) h0
      obtain ⟨L2, g1, g2⟩ := ih n (g + 1) L1 (by omega) (by omega) (zSe_iff f2 (fun q _ => Iff.rfl))
      refine ⟨L2, fun a b h => by rw [g1 a b h, f1 a b (by omega)], ?_⟩
      rw [e2]
      simp only [Option.bind_some, nI_1]
      rcases g2 with ⟨r, a1, a2, a3, a4, a5⟩ | ⟨a1, a2, a3⟩
      · refine Or.inl ⟨r, by omega, a2, a3, fun k k1 k2 => ?_, a5⟩
        by_cases e : k = g
        · subst e; exact hno
        · exact a4 k (by omega) k2
      · refine Or.inr ⟨fun k k1 k2 => ?_, a2, a3⟩
        by_cases e : k = g
        · subst e; exact hno
        · exact a1 k (by omega) k2
    · rw [if_neg h0]
      exact ⟨L, fun a b _ => rfl, Or.inl ⟨g, Nat.le_refl _, by omega, (h1.mp h0).2.2.2.2, fun k k1 k2 => by omega, rfl⟩⟩
/-- countGlasses -/
theorem pl_count {I : zPI} (hE : zEN I) {X Y : Nat} (hX : X < 49) (hY : Y < 49) (L : zPL) : ∃ v L', fX2_countGlasses I L (iI ((X : Int) - 24)) (iI ((Y : Int) - 24)) = some (v, L') ∧ (∀ a b, a ≠ 20 → L' a b = L a b) ∧
    ((v = -1 ∧ ∀ n, n ≤ 8 → ¬ zR (zdst I) n (49 * Y + X)) ∨ ∃ n, n ≤ 8 ∧ v = nI n ∧ zR (zdst I) n (49 * Y + X) ∧ ∀ g, g < n → ¬ zR (zdst I) g (49 * Y + X)) := by
  obtain ⟨L0, e0, f1, f2⟩ := pl_put (s := 20) (g := 0) (X := 24) (Y := 24) (by omega) (by omega) (by omega) L
  obtain ⟨L1, g1, g2⟩ := pl_cg12 hE (K := fun v1 v2 L => (fX2_has 20 L 8 v1 v2).bind (fun q9 => (if q9 = 0 then some ((-1), L) else some (8, L)))) hX hY 8 zF 0 L0 (by omega) (zF_lt (by omega)) (zSe_iff f2 (fun q _ => Iff.rfl))
  have e1 : fX2_putOnly 20 L 0 0 0 = some L0 := e0
  unfold fX2_countGlasses
  rw [e1]
  simp only [Option.bind_some]
  rw [show (0 : Int32) = nI 0 from rfl] at *
  rcases g2 with ⟨r, a1, a2, a3, a4, a5⟩ | ⟨a1, a2, a3⟩
  · exact ⟨nI r, L1, a5, fun a b h => by rw [g1 a b h, f1 a b (by omega)], Or.inr ⟨r, by omega, rfl, a3, fun g hg => a4 g (by omega) hg⟩⟩
  · obtain ⟨r, e2, h1⟩ := pl_has (s := 20) (g := 8) (by omega) a2 (x := (X : Int) - 24) (y := (Y : Int) - 24) (by omega) (by omega) (by omega) (by omega)
    rw [show ((Y : Int) - 24 + 24).toNat = Y by omega, show ((X : Int) - 24 + 24).toNat = X by omega] at h1
    rw [a3]
    have e3 : fX2_has 20 L1 8 (iI ((X : Int) - 24)) (iI ((Y : Int) - 24)) = some r := e2
    rw [e3]
    simp only [Option.bind_some]
    by_cases h0 : r = 0
    · refine ⟨-1, L1, by subst h0; rfl, fun a b h => by rw [g1 a b h, f1 a b (by omega)], Or.inl ⟨rfl, fun n hn => ?_⟩⟩
      by_cases e : n = 8
      · subst e
        exact fun h => (h1.mpr ⟨by omega, by omega, by omega, by omega, h⟩) h0
      · exact a1 n (by omega) (by omega)
    · exact ⟨8, L1, by rw [show nI 0 = (0 : Int32) from rfl, if_neg h0], fun a b h => by rw [g1 a b h, f1 a b (by omega)], Or.inr ⟨8, by omega, rfl, (h1.mp h0).2.2.2.2, fun g hg => a1 g (by omega) hg⟩⟩
theorem pl_tb35 {I : zPI} (hE : zEN I) {K : Int32 → zPL → Option zPL} {g : Nat} (hg : g < 8) {S : Nat → Prop} : ∀ (m n c : Nat) (L : zPL) (T : Nat → Prop), c + m = 32 → m < n → zSe L 21 (g + 1) S → zSe L 21 g T →
    ∃ L', fX2_traceBack_35 I K n (nI g) (nI c) L = K (nI g) L' ∧ (∀ a b, ¬ (a = 21 ∧ g * 49 ≤ b ∧ b < g * 49 + 49) → L' a b = L a b) ∧ zSe L' 21 g (fun p => T p ∨ ∃ c' q : Nat, c ≤ c' ∧ c' < 32 ∧ q < 2401 ∧ zdst I g c' p = (q : Int) ∧ S q) := by
  intro m
  induction m with
  | zero =>
    intro n c L T hc hn hS hT
    obtain ⟨n, rfl, -⟩ := zsucc hn
    have : c = 32 := by omega
    subst this
    refine ⟨L, by rw [fX2_traceBack_35, if_pos (show (32 : Int32) ≤ nI 32 by decide)], fun a b _ => rfl, zSe_iff hT (fun q hq => ⟨Or.inl, ?_⟩)⟩
    rintro (h | ⟨c', q, h1, h2, -⟩)
    · exact h
    · omega
  | succ m ih =>
    intro n c L T hc hn hS hT
    obtain ⟨n, rfl, hn⟩ := zsucc hn
    obtain ⟨b1, b2⟩ := hE g c hg (by omega)
    obtain ⟨L1, e1, f1, f2⟩ := pl_move (s := 21) (f := g + 1) (t := g) (e' := -(I 18 (g * 32 + c)).toInt) (n' := -(I 19 (g * 32 + c)).toInt) (by omega) (by omega) (by omega) (by omega) (by omega) (by omega) (by omega) hS hT
    rw [← iI_neg, ← iI_neg, iI_of, iI_of] at e1
    obtain ⟨L2, e2, g1, g2⟩ := ih n (c + 1) L1 _ (by omega) (by omega) (zSe_cong hS (fun Y hY => f1 _ _ (by omega))) f2
    refine ⟨L2, ?_, fun a b h => by rw [g1 a b h, f1 a b h], zSe_iff g2 (fun q hq => ?_)⟩
    · rw [fX2_traceBack_35, if_neg (show ¬ (32 : Int32) ≤ nI c from nI_ge (a := c) (b := 32) (by omega) (by omega)), pl_ix32, zif_t (zin_nI (by omega) (by omega)), zif_t (zin_nI (by omega) (by omega)), nI_clamp (by omega), nI_1, e1]
      simp only [Option.bind_some, nI_1]
      exact e2
    · constructor
      · rintro ((h | ⟨p, h1, h2, h3⟩) | ⟨c', p, h1, h2⟩)
        · exact Or.inl h
        · exact Or.inr ⟨c, p, Nat.le_refl _, by omega, h1, (zdst_iff I g c q p h1).mpr (by omega), h2⟩
        · exact Or.inr ⟨c', p, by omega, h2⟩
      · rintro (h | ⟨c', p, h1, h2, h3, h4, h5⟩)
        · exact Or.inl (Or.inl h)
        · by_cases e : c' = c
          · subst e
            have h9 := (zdst_iff I g c' q p h3).mp h4
            exact Or.inl (Or.inr ⟨p, h3, h5, by omega⟩)
          · exact Or.inr ⟨c', p, by omega, h2, h3, h4, h5⟩
theorem pl_tb20 {I : zPI} (hE : zEN I) {K : zPL → Option zPL} {r t : Nat} (hr : r ≤ 8) : ∀ (m n : Nat) (L : zPL), m < r → m < n → (∀ g, m < g → g ≤ r → zSe L 21 g (zB (zdst I) r t (r - g))) →
    ∃ L', fX2_traceBack_20 I K n (nI m) L = K L' ∧ (∀ a b, a ≠ 21 → L' a b = L a b) ∧ (∀ g, 0 < g → g ≤ r → zSe L' 21 g (zB (zdst I) r t (r - g))) := by
  intro m
  induction m with
  | zero =>
    intro n L hm hn hB
    obtain ⟨n, rfl, -⟩ := zsucc hn
    exact ⟨L, by rw [fX2_traceBack_20, if_pos (show nI 0 ≤ 0 by decide)], fun a b _ => rfl, hB⟩
  | succ m ih =>
    intro n L hm hn hB
    obtain ⟨n, rfl, hn⟩ := zsucc hn
    have hS : zSe (zclr L 21 (m + 1) 0) 21 (m + 1 + 1) (zB (zdst I) r t (r - (m + 2))) := zSe_cong (hB (m + 2) (by omega) (by omega)) (fun Y hY => zclr_out (by omega))
    obtain ⟨L1, e1, f1, f2⟩ := pl_tb35 hE (K := fun v3 L => fX2_traceBack_20 I K n (v3 + (-1)) L) (g := m + 1) (by omega) 32 zF 0 (zclr L 21 (m + 1) 0) (fun _ => False) (by omega) (zF_lt (by omega)) hS zclr_se
    have hB1 : ∀ g, m < g → g ≤ r → zSe L1 21 g (zB (zdst I) r t (r - g)) := by
      intro g h1 h2
      by_cases e : g = m + 1
      · subst e
        refine zSe_iff f2 (fun p hp => ?_)
        obtain ⟨k, hk⟩ : ∃ k, r - (m + 1) = k + 1 := ⟨r - (m + 2), by omega⟩
        rw [hk, show r - (m + 2) = k by omega]
        simp only [zB]
        rw [show r - (k + 1) = m + 1 by omega]
        constructor
        · rintro (h | ⟨c, q, -, a1, a2, a3, a4⟩)
          · exact h.elim
          · exact ⟨c, q, a1, a3, a4⟩
        · rintro ⟨c, q, a1, a3, a4⟩
          have := (zdst_lo I (m + 1) c p).2
          exact Or.inr ⟨c, q, Nat.zero_le _, a1, by omega, a3, a4⟩
      · exact zSe_cong (hB g (by omega) h2) (fun Y hY => by rw [f1 _ _ (by omega), zclr_out (by omega)])
    obtain ⟨L2, e2, g1, g2⟩ := ih n L1 (by omega) (by omega) hB1
    refine ⟨L2, ?_, fun a b h => by rw [g1 a b h, f1 a b (by omega), zclr_out (by omega)], g2⟩
    rw [fX2_traceBack_20, if_neg (nI_nle (n := m + 1) (by omega) (by omega)), pl_clear (by omega)]
    simp only [Option.bind_some]
    rw [show (0 : Int32) = nI 0 from rfl, e1]
    simp only [pk_m1]
    exact e2
theorem pl_ll3 {I : zPI} (hE : zEN I) {L : zPL} {K : Option Int32} {r t g X Y : Nat} (hg : g < r) (hr : r ≤ 8) (hX : X < 49) (hY : Y < 49) (hS : zSe L 21 (g + 1) (zB (zdst I) r t (r - (g + 1)))) : ∀ (m n c : Nat), c + m < 32 → zsol (zdst I) r t g (49 * Y + X) (c + m) → (∀ c', c ≤ c' → c' < c + m → ¬ zsol (zdst I) r t g (49 * Y + X) c') → m < n →
    fX2_leastLeading_3 I L K n (nI g) (iI ((X : Int) - 24)) (iI ((Y : Int) - 24)) (nI c) = some (nI (c + m)) := by
  have key : ∀ c, c < 32 → ∃ v, fX2_has 21 L (nI (g + 1)) (iI ((X : Int) - 24) + I 18 (g * 32 + c)) (iI ((Y : Int) - 24) + I 19 (g * 32 + c)) = some v ∧ (v ≠ 0 ↔ zsol (zdst I) r t g (49 * Y + X) c) := by
    intro c hc
    obtain ⟨b1, b2⟩ := hE g c (by omega) hc
    obtain ⟨v, e1, h1⟩ := pl_has (s := 21) (g := g + 1) (by omega) hS (x := (X : Int) - 24 + (I 18 (g * 32 + c)).toInt) (y := (Y : Int) - 24 + (I 19 (g * 32 + c)).toInt) (by omega) (by omega) (by omega) (by omega)
    rw [← iI_add, ← iI_add, iI_of, iI_of] at e1
    refine ⟨v, e1, ?_⟩
    rw [h1]
    have q1 : (49 * Y + X) % 49 = X := by omega
    have q2 : (49 * Y + X) / 49 = Y := by omega
    constructor
    · rintro ⟨a1, a2, a3, a4, a5⟩
      refine ⟨_, (zdst_iff I g c (49 * Y + X) _ (by omega)).mpr ⟨?_, ?_⟩, a5⟩
      · rw [q1]; omega
      · rw [q2]; omega
    · rintro ⟨q, a1, a2⟩
      have hq : q < 2401 := by
        have := (zdst_lo I g c (49 * Y + X)).2
        omega
      have h9 := (zdst_iff I g c (49 * Y + X) q hq).mp a1
      rw [q1, q2] at h9
      refine ⟨by omega, by omega, by omega, by omega, ?_⟩
      rw [show 49 * ((Y : Int) - 24 + (I 19 (g * 32 + c)).toInt + 24).toNat + ((X : Int) - 24 + (I 18 (g * 32 + c)).toInt + 24).toNat = q by omega]
      exact a2
  intro m
  induction m with
  | zero =>
    intro n c hc h1 h2 hn
    obtain ⟨n, rfl, -⟩ := zsucc hn
    obtain ⟨v, e1, k1⟩ := key c (by omega)
    rw [fX2_leastLeading_3, if_neg (show ¬ (32 : Int32) ≤ nI c from nI_ge (a := c) (b := 32) (by omega) (by omega)), pl_ix32, zif_t (zin_nI (by omega) (by omega)), zif_t (zin_nI (by omega) (by omega)), nI_clamp (by omega), nI_1, e1]
    simp only [Option.bind_some]
    rw [if_neg (k1.mpr h1)]
    rfl
  | succ m ih =>
    intro n c hc h1 h2 hn
    obtain ⟨n, rfl, hn⟩ := zsucc hn
    have h9 := ih n (c + 1) (by omega) (by rw [show c + 1 + m = c + (m + 1) by omega]; exact h1) (fun c' a1 a2 => h2 c' (by omega) (by omega)) (by omega)
    rw [show c + 1 + m = c + (m + 1) by omega] at h9
    obtain ⟨v, e1, k1⟩ := key c (by omega)
    rw [fX2_leastLeading_3, if_neg (show ¬ (32 : Int32) ≤ nI c from nI_ge (a := c) (b := 32) (by omega) (by omega)), pl_ix32, zif_t (zin_nI (by omega) (by omega)), zif_t (zin_nI (by omega) (by omega)), nI_clamp (by omega), nI_1, e1]
    simp only [Option.bind_some]
    have hv : v = 0 := by
      refine Classical.byContradiction (fun h => ?_)
      exact h2 c (Nat.le_refl _) (by omega) (k1.mp h)
    rw [if_pos hv, nI_1]
    exact h9
theorem zEN_cong {I I' : zPI} (h : zEN I) (e : ∀ a, a = 18 ∨ a = 19 → ∀ b, I' a b = I a b) : zEN I' := fun g c hg hc => by rw [e 18 (Or.inl rfl), e 19 (Or.inr rfl)]; exact h g c hg hc
theorem zdst_cong {I I' : zPI} (e : ∀ a, a = 18 ∨ a = 19 → ∀ b, I' a b = I a b) : zdst I' = zdst I := by
  funext g c p
  unfold zdst
  rw [e 18 (Or.inl rfl), e 19 (Or.inr rfl)]
theorem pl_cc6 {L : zPL} {K : zPI → Option zPI} {W : Nat → Nat → Nat → Int} {r t : Nat} (hr : r ≤ 8) (hS : ∀ g, 0 < g → g ≤ r → zSe L 21 g (zB W r t (r - g))) : ∀ (m n g X Y : Nat) (I : zPI), zEN I → zdst I = W → I 17 5 = nI r → g + m = r → m < n → X < 49 → Y < 49 → zB W r t (r - g) (49 * Y + X) →
    ∃ I', fX2_chooseCourses_6 L K n (iI ((X : Int) - 24)) (iI ((Y : Int) - 24)) (nI g) I = K I' ∧ (∀ a b, ¬ (a = 22 ∧ g ≤ b ∧ b < r) → I' a b = I a b) ∧ zCh W r t (I' 22) m g (49 * Y + X) := by
  intro m
  induction m with
  | zero =>
    intro n g X Y I hE hW h5 hg hn hX hY hb
    obtain ⟨n, rfl, -⟩ := zsucc hn
    exact ⟨I, by rw [fX2_chooseCourses_6, h5, if_pos (nI_le (a := r) (b := g) (by omega) (by omega))], fun a b _ => rfl, trivial⟩
  | succ m ih =>
    intro n g X Y I hE hW h5 hg hn hX hY hb
    obtain ⟨n, rfl, hn⟩ := zsucc hn
    obtain ⟨c, hc, h1, h2⟩ := zsol_ex (W := W) (by omega) hb
    subst hW
    have e1 := pl_ll3 hE (L := L) (K := some 0) (g := g) (by omega) hr hX hY (hS (g + 1) (by omega) (by omega)) c zF 0 (by omega) (by rw [Nat.zero_add]; exact h1) (fun c' _ a2 => h2 c' (by omega)) (zF_lt (by omega))
    rw [Nat.zero_add] at e1
    obtain ⟨q, hw, hq⟩ := id h1
    have hq9 : q < 2401 := by
      have := (zdst_lo I g c (49 * Y + X)).2
      omega
    have h9 := (zdst_iff I g c (49 * Y + X) q hq9).mp hw
    have q1 : (49 * Y + X) % 49 = X := by omega
    have q2 : (49 * Y + X) / 49 = Y := by omega
    rw [q1, q2] at h9
    have ee : zu I 22 g (nI c) 18 (g * 32 + c) = I 18 (g * 32 + c) := zu_row (by decide)
    have en : zu I 22 g (nI c) 19 (g * 32 + c) = I 19 (g * 32 + c) := zu_row (by decide)
    have ex : iI ((X : Int) - 24) + I 18 (g * 32 + c) = iI (((q % 49 : Nat) : Int) - 24) := by
      rw [← iI_of (I 18 (g * 32 + c)), iI_add]
      congr 1
      omega
    have ey : iI ((Y : Int) - 24) + I 19 (g * 32 + c) = iI (((q / 49 : Nat) : Int) - 24) := by
      rw [← iI_of (I 19 (g * 32 + c)), iI_add]
      congr 1
      omega
    have hrow : ∀ a, a = 18 ∨ a = 19 → ∀ b, zu I 22 g (nI c) a b = I a b := fun a ha b => zu_row (by omega)
    obtain ⟨I2, e2, g1, g2⟩ := ih n (g + 1) (q % 49) (q / 49) (zu I 22 g (nI c)) (zEN_cong hE hrow) (zdst_cong hrow) (by rw [zu_row (by decide)]; exact h5) (by omega) (by omega) (by omega) (by omega) (by rw [show 49 * (q / 49) + q % 49 = q by omega]; exact hq)
    rw [show 49 * (q / 49) + q % 49 = q by omega] at g2
    refine ⟨I2, ?_, fun a b h => ?_, c, q, hc, ?_, hw, h1, h2, g2⟩
    · rw [fX2_chooseCourses_6, h5, if_neg (nI_ge (a := g) (b := r) (by omega) (by omega)), fX2_leastLeading, show (0 : Int32) = nI 0 from rfl, show (some (nI 0) : Option Int32) = some 0 from rfl, e1]
      simp only [Option.bind_some, zlet]
      rw [zif_t (zin_nI (by omega) (by omega)), pl_ix32, zif_t (zin_nI (by omega) (by omega)), zif_t (zin_nI (by omega) (by omega)), nI_clamp (by omega), nI_clamp (by omega), ee, en, ex, ey, nI_1]
      exact e2
    · rw [g1 a b (by omega)]
      by_cases h7 : a = 22
      · exact zu_col (by omega)
      · exact zu_row h7
    · rw [g1 _ _ (by omega), zu_same]
/-- the plans of both sides are the same -/
def zPL2 (I : zPI) : Prop := I 17 5 = I 48 51 ∧ ∃ n, n ≤ 8 ∧ I 17 5 = nI n ∧ ∀ g, g < n → I 22 g = I 75 g
theorem pl_place (p1 p2 : Int32) : (fX2_isPlace p1 p2 = 0 ∧ ∀ I, fX9_plan I p1 p2 = some (-1, zu I 48 0 0)) ∨ (fX2_isPlace p1 p2 = 1 ∧ ∃ X Y : Nat, X < 49 ∧ Y < 49 ∧ p1 = iI ((X : Int) - 24) ∧ p2 = iI ((Y : Int) - 24)) := by
  have e24 : (24 : Int32).toInt = 24 := by decide
  have em24 : (-24 : Int32).toInt = -24 := by decide
  unfold fX2_isPlace fX9_plan
  by_cases h1 : p1 < -24
  · exact Or.inl ⟨by rw [if_pos h1], fun I => by rw [if_pos h1]⟩
  by_cases h2 : 24 < p1
  · exact Or.inl ⟨by rw [if_neg h1, if_pos h2], fun I => by rw [if_neg h1, if_pos h2]⟩
  by_cases h3 : p2 < -24
  · exact Or.inl ⟨by rw [if_neg h1, if_neg h2, if_pos h3], fun I => by rw [if_neg h1, if_neg h2, if_pos h3]⟩
  by_cases h4 : 24 < p2
  · exact Or.inl ⟨by rw [if_neg h1, if_neg h2, if_neg h3, if_pos h4], fun I => by rw [if_neg h1, if_neg h2, if_neg h3, if_neg (by rw [zle_i]; rw [zlt_i] at h4; omega)]⟩
  refine Or.inr ⟨by rw [if_neg h1, if_neg h2, if_neg h3, if_neg h4], ?_⟩
  rw [zlt_i] at h1 h2 h3 h4
  refine ⟨(p1.toInt + 24).toNat, (p2.toInt + 24).toNat, by omega, by omega, iI_eq (by omega), iI_eq (by omega)⟩
theorem q_plan {I : zPI} (hW : zPW I) (L : zPL) (p1 p2 : Int32) : ∃ v I1 L1 I2, fX8_plan I L p1 p2 = some (v, I1, L1) ∧ fX9_plan I1 p1 p2 = some (v, I2) ∧ (∀ a b, ¬ (a = 73 ∨ a = 74 ∨ a = 75 ∨ a = 22 ∨ (a = 17 ∧ b = 5) ∨ (a = 48 ∧ (b = 0 ∨ b = 51))) → I2 a b = I a b) ∧ (∀ a b, ¬ (a = 20 ∨ a = 21) → L1 a b = L a b) ∧ (zPL2 I → zPL2 I2) := by
  rcases pl_place p1 p2 with ⟨h1, h2⟩ | ⟨h1, X, Y, hX, hY, rfl, rfl⟩
  · refine ⟨-1, I, L, zu I 48 0 0, ?_, h2 I, fun a b h => ?_, fun _ _ _ => rfl, fun ⟨h3, n, h4, h5, h6⟩ => ⟨?_, n, h4, ?_, fun g hg => ?_⟩⟩
    · rw [fX8_plan, fX2_make, if_pos h1]
      rfl
    · by_cases h7 : a = 48
      · exact zu_col (by omega)
      · exact zu_row h7
    · rw [zu_row (by decide), zu_col (by decide)]; exact h3
    · rw [zu_row (by decide)]; exact h5
    · rw [zu_row (by decide), zu_row (by decide)]; exact h6 g hg
  have hE := zEN_of hW
  obtain ⟨v, L1, e1, f1, f2⟩ := pl_count hE hX hY L
  rcases f2 with ⟨rfl, hno⟩ | ⟨n, hn, rfl, hz, hmin⟩
  · have hc : zmmax 0 (-1) = 0 := by decide
    have hrow : ∀ a b, ¬ (a = 17 ∧ b = 5) → zu I 17 5 0 a b = I a b := fun a b h => by
      by_cases h7 : a = 17
      · exact zu_col (by omega)
      · exact zu_row h7
    have hW1 : zPW (zu I 17 5 0) := zPW_cong hW (fun a ha b => hrow a b (by omega))
    obtain ⟨v', I2, e2, g1, g2⟩ := pl_ref (zLd_of hW1) hX hY
    rw [zdst_cong (I := I) (I' := zu I 17 5 0) (fun a ha b => hrow a b (by omega))] at g2
    rcases g2 with ⟨rfl, h51, -⟩ | ⟨n, h3, -, -, h4, -⟩
    · refine ⟨-1, zu I 17 5 0, L1, I2, ?_, e2, fun a b h => by rw [g1 a b (by omega), hrow a b (by omega)], fun a b h => f1 a b (by omega), fun _ => ⟨?_, 0, by omega, ?_, fun g hg => by omega⟩⟩
      · rw [fX8_plan, fX2_make, if_neg (by rw [h1]; decide), e1]
        simp only [Option.bind_some]
        rw [hc, if_pos (by rw [zu_same]; decide)]
        rfl
      · rw [h51, g1 _ _ (by decide), zu_same]
      · rw [g1 _ _ (by decide), zu_same]; rfl
    · exact absurd h4 (hno n h3)
  · have hc : zmmax 0 (nI n) = nI n := by
      rw [zmmax]
      by_cases h : (0 : Int32) < nI n
      · rw [if_pos h]
      · rw [if_neg h]
        have : n = 0 := by
          refine Classical.byContradiction (fun h9 => h ?_)
          exact nI_lt (a := 0) (b := n) (by omega) (by omega)
        subst this
        rfl
    have hrow : ∀ a b, ¬ (a = 17 ∧ b = 5) → zu I 17 5 (nI n) a b = I a b := fun a b h => by
      by_cases h7 : a = 17
      · exact zu_col (by omega)
      · exact zu_row h7
    -- the class's own planes behind it
    have hcls : ∃ I1 L2, fX8_plan I L (iI ((X : Int) - 24)) (iI ((Y : Int) - 24)) = some (nI n, I1, L2) ∧ (∀ a b, ¬ (a = 22 ∨ (a = 17 ∧ b = 5)) → I1 a b = I a b) ∧ I1 17 5 = nI n ∧ (∀ a b, ¬ (a = 20 ∨ a = 21) → L2 a b = L a b) ∧ zCh (zdst I) n (49 * Y + X) (I1 22) n 0 1200 := by
      by_cases h0 : n = 0
      · subst h0
        refine ⟨zu I 17 5 (nI 0), L1, ?_, fun a b h => hrow a b (by omega), zu_same, fun a b h => f1 a b (by omega), trivial⟩
        rw [fX8_plan, fX2_make, if_neg (by rw [h1]; decide), e1]
        simp only [Option.bind_some]
        rw [hc, if_pos (by rw [zu_same]; decide)]
        rfl
      · obtain ⟨L2, e2, k1, k2⟩ := pl_put (s := 21) (g := n) (X := X) (Y := Y) hn hX hY L1
        have hE1 : zEN (zu I 17 5 (nI n)) := zEN_cong hE (fun a ha b => hrow a b (by omega))
        have hd1 : zdst (zu I 17 5 (nI n)) = zdst I := zdst_cong (fun a ha b => hrow a b (by omega))
        obtain ⟨m, hm⟩ : ∃ m, n = m + 1 := ⟨n - 1, by omega⟩
        obtain ⟨L3, e3, l1, l2⟩ := pl_tb20 hE1 (K := fun L => some L) (r := n) (t := 49 * Y + X) hn m zF L2 (by omega) (zF_lt (by omega)) (fun g a1 a2 => by
          have : g = n := by omega
          subst this
          rw [Nat.sub_self]
          exact zSe_iff k2 (fun _ _ => Iff.rfl))
        rw [hd1] at l2
        have hb0 : zB (zdst I) n (49 * Y + X) (n - 0) 1200 := by
          have hback : ∀ k, k ≤ n → ∃ p, p < 2401 ∧ zR (zdst I) (n - k) p ∧ zB (zdst I) n (49 * Y + X) k p := by
            intro k
            induction k with
            | zero => exact fun _ => ⟨49 * Y + X, by omega, hz, rfl⟩
            | succ k ih =>
              intro hk
              obtain ⟨q, hq, hq1, hq2⟩ := ih (by omega)
              rw [show n - k = (n - (k + 1)) + 1 by omega] at hq1
              obtain ⟨p, c, a1, a2, a3, a4⟩ := hq1
              exact ⟨p, a1, a3, c, q, a2, a4, hq2⟩
          obtain ⟨p, hp, hp1, hp2⟩ := hback n (Nat.le_refl _)
          rw [Nat.sub_self] at hp1
          have : p = 1200 := hp1
          subst this
          exact hp2
        obtain ⟨I3, e4, o1, o2⟩ := pl_cc6 (K := fun I => some I) (W := zdst I) (t := 49 * Y + X) hn l2 n zF 0 24 24 (zu I 17 5 (nI n)) hE1 hd1 zu_same (by omega) (zF_lt (by omega)) (by omega) (by omega) hb0
        refine ⟨I3, L3, ?_, fun a b h => by rw [o1 a b (by omega), hrow a b (by omega)], by rw [o1 _ _ (by omega), zu_same], fun a b h => by rw [l1 a b (by omega), k1 a b (by omega), f1 a b (by omega)], o2⟩
        rw [fX8_plan, fX2_make, if_neg (by rw [h1]; decide), e1]
        simp only [Option.bind_some]
        rw [hc, if_neg (by rw [zu_same]; exact nI_nle (by omega) (by omega)), fX2_traceBack, zu_same, e2]
        simp only [Option.bind_some]
        rw [show nI n - 1 = nI m by rw [hm]; exact nI_pred m, e3]
        simp only [Option.bind_some]
        have e5 : fX2_chooseCourses (zu I 17 5 (nI n)) L3 = some I3 := e4
        rw [e5]
        rfl
    obtain ⟨I1, L2, e2, k1, k2, k3, k4⟩ := hcls
    have hW1 : zPW I1 := zPW_cong hW (fun a ha b => k1 a b (by omega))
    obtain ⟨v', I2, e3, g1, g2⟩ := pl_ref (zLd_of hW1) hX hY
    rw [zdst_cong (I := I) (I' := I1) (fun a ha b => k1 a b (by omega))] at g2
    rcases g2 with ⟨-, -, hno⟩ | ⟨n', h3, rfl, h51, h4, h5, h6⟩
    · exact absurd hz (hno n hn)
    · have : n' = n := by
        rcases Nat.lt_trichotomy n' n with h | h | h
        · exact absurd h4 (hmin n' h)
        · exact h
        · exact absurd hz (h5 n h)
      subst this
      refine ⟨nI n', I1, L2, I2, e2, e3, fun a b h => by rw [g1 a b (by omega), k1 a b (by omega)], k3, fun _ => ⟨by rw [h51, g1 _ _ (by decide), k2], n', hn, by rw [g1 _ _ (by decide), k2], fun g hg => ?_⟩⟩
      rw [g1 22 g (by omega)]
      exact zCh_eq n' 0 1200 k4 h6 g (by omega) (by omega)
