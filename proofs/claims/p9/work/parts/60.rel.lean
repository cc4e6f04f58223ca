/-! WORKS, RIG: how the class's planes (I) and the reference's (J) stand to each other -/
theorem nI_inj {a b : Nat} (ha : a < 2147483648) (hb : b < 2147483648) (h : nI a = nI b) : a = b := (nI_eq (by omega) (by omega)).mp h
theorem nI_ne {a b : Nat} (ha : a < 2147483648) (hb : b < 2147483648) (h : a ≠ b) : ¬ nI a = nI b := fun e => h (nI_inj ha hb e)
theorem nI_m1 {a : Nat} (ha : a < 2147483648) : ¬ nI a = -1 := fun h => by
  have h9 := congrArg Int32.toInt h
  rw [nI_toInt (by omega)] at h9
  have e : (-1 : Int32).toInt = -1 := by decide
  omega
theorem nI_m1' {a : Nat} (ha : a < 2147483648) : ¬ (-1 : Int32) = nI a := fun h => nI_m1 ha h.symm
/-- hand f is the first of a work -/
def Lr (I : zPI) (n f : Nat) : Prop := f < n ∧ I 47 f = nI f
def zlim (jb : Nat) : Nat := if jb < 2 then 9 else if jb = 2 then 3 else 18
def zmk (I : zPI) (jb th : Nat) : Int32 := if jb = 2 then I 8 th else if jb = 3 then I 7 th else I 6 th
/-- what is known of the work whose first hand is f -/
def rWk (I J : zPI) (eb f k jb th am e : Nat) : Prop := k < 24 ∧ J 62 f = nI k ∧ jb < 4 ∧ I 43 f = nI jb ∧ J 63 k = nI (1 + jb) ∧ I 44 f = nI th ∧ J 64 k = nI th ∧ th < zlim jb ∧ I 45 f = nI am ∧ J 65 k = nI am ∧ am ≤ 8 ∧ I 46 f = nI e ∧ J 66 k = nI e ∧ eb ≤ e ∧ e < 2000000 ∧ zmk I jb th = nI f ∧ (jb = 0 → I 2 th = 0) ∧ (jb = 1 → I 2 th = 1)
def rW (I J : zPI) (n : Nat) (eb : Nat → Nat) : Prop :=
  (4 ≤ n ∧ n ≤ 24 ∧ I 42 0 = nI n ∧ J 48 18 = nI n) ∧
  (∀ h, h < n → (I 47 h = -1 ∧ J 62 h = -1) ∨ (∃ f k, f ≤ h ∧ k < 24 ∧ I 47 h = nI f ∧ J 62 h = nI k ∧ I 47 f = nI f ∧ J 62 f = nI k)) ∧
  (∀ h h', h < n → h' < n → ∀ k, k < 24 → J 62 h = nI k → J 62 h' = nI k → I 47 h = I 47 h') ∧
  (∀ f, Lr I n f → ∃ k jb th am e, rWk I J (eb f) f k jb th am e) ∧
  (∀ k, k < 24 → J 63 k = 0 ∨ ∃ f, Lr I n f ∧ J 62 f = nI k) ∧
  (∀ s, s < 9 → I 6 s = -1 ∨ ∃ f, Lr I n f ∧ I 6 s = nI f ∧ (I 43 f = 0 ∨ I 43 f = 1) ∧ I 44 f = nI s) ∧
  (∀ r, r < 18 → I 7 r = -1 ∨ ∃ f, Lr I n f ∧ I 7 r = nI f ∧ I 43 f = 3 ∧ I 44 f = nI r) ∧
  (∀ s, s < 3 → I 8 s = -1 ∨ ∃ f, Lr I n f ∧ I 8 s = nI f ∧ I 43 f = 2 ∧ I 44 f = nI s) ∧
  (∀ r, r < 18 → I 7 r ≠ -1 → I 6 (r / 2) = -1)
theorem rW_eb {I J : zPI} {n : Nat} {eb eb' : Nat → Nat} (h : rW I J n eb) (he : ∀ f k jb th am e, Lr I n f → rWk I J (eb f) f k jb th am e → eb' f ≤ e) : rW I J n eb' := by
  obtain ⟨h0, h1, h2, h3, h4⟩ := h
  refine ⟨h0, h1, h2, fun f hf => ?_, h4⟩
  obtain ⟨k, jb, th, am, e, hw⟩ := h3 f hf
  have := he f k jb th am e hf hw
  obtain ⟨a1, a2, a3, a4, a5, a6, a7, a8, a9, a10, a11, a12, a13, a14, a15⟩ := hw
  exact ⟨k, jb, th, am, e, a1, a2, a3, a4, a5, a6, a7, a8, a9, a10, a11, a12, a13, this, a15⟩
/-- rW is told by these rows alone -/
theorem rW_cong {I J I' J' : zPI} {n : Nat} {eb : Nat → Nat} (h : rW I J n eb) (e0 : I' 42 0 = I 42 0) (e1 : J' 48 18 = J 48 18) (eI : ∀ a, a = 2 ∨ a = 6 ∨ a = 7 ∨ a = 8 ∨ a = 43 ∨ a = 44 ∨ a = 45 ∨ a = 46 ∨ a = 47 → ∀ b, I' a b = I a b) (eJ : ∀ a, a = 62 ∨ a = 63 ∨ a = 64 ∨ a = 65 ∨ a = 66 → ∀ b, J' a b = J a b) : rW I' J' n eb := by
  have r2 := eI 2 (by simp)
  have r6 := eI 6 (by simp)
  have r7 := eI 7 (by simp)
  have r8 := eI 8 (by simp)
  have r43 := eI 43 (by simp)
  have r44 := eI 44 (by simp)
  have r45 := eI 45 (by simp)
  have r46 := eI 46 (by simp)
  have r47 := eI 47 (by simp)
  have q62 := eJ 62 (by simp)
  have q63 := eJ 63 (by simp)
  have q64 := eJ 64 (by simp)
  have q65 := eJ 65 (by simp)
  have q66 := eJ 66 (by simp)
  unfold rW Lr rWk zmk at *
  simp only [e0, e1, r2, r6, r7, r8, r43, r44, r45, r46, r47, q62, q63, q64, q65, q66]
  exact h
theorem Lr_lt {I : zPI} {n f : Nat} (h : Lr I n f) (hn : n ≤ 24) : f < 24 := by have := h.1; omega
/-- a slot tells its first hand -/
theorem rW_slot {I J : zPI} {n : Nat} {eb : Nat → Nat} (h : rW I J n eb) {f f' k : Nat} (hf : Lr I n f) (hf' : Lr I n f') (hk : k < 24) (e : J 62 f = nI k) (e' : J 62 f' = nI k) : f = f' := by
  have h9 := h.2.2.1 f f' hf.1 hf'.1 k hk e e'
  rw [hf.2, hf'.2] at h9
  have := h.1.2.1
  have := hf.1
  have := hf'.1
  exact nI_inj (by omega) (by omega) h9
/-- what isUnder asks -/
theorem rW_under {I J : zPI} {n : Nat} {eb : Nat → Nat} (h : rW I J n eb) {w a : Nat} (hw : w < 4) (ha : a < 100) : (∃ j, j < 24 ∧ J 63 j = 1 + nI w ∧ J 64 j = nI a) ↔ ∃ f, Lr I n f ∧ I 43 f = nI w ∧ I 44 f = nI a := by
  have e1 : (1 : Int32) + nI w = nI (1 + w) := nI_add 1 w
  have h4 := h.2.2.2.1
  have h5 := h.2.2.2.2.1
  rw [e1]
  constructor
  · rintro ⟨j, hj, a1, a2⟩
    rcases h5 j hj with h0 | ⟨f, hf, hs⟩
    · rw [h0] at a1
      exact absurd a1.symm (nI_ne0 (by omega) (by omega))
    · obtain ⟨k, jb, th, am, e, b1, b2, b3, b4, b5, b6, b7, b8, -⟩ := h4 f hf
      have hkj : k = j := nI_inj (by omega) (by omega) (b2.symm.trans hs)
      subst hkj
      refine ⟨f, hf, ?_, ?_⟩
      · have : 1 + w = 1 + jb := nI_inj (by omega) (by omega) (a1.symm.trans b5)
        rw [b4, show jb = w by omega]
      · rw [b6, ← b7, a2]
  · rintro ⟨f, hf, a1, a2⟩
    obtain ⟨k, jb, th, am, e, b1, b2, b3, b4, b5, b6, b7, b8, -⟩ := h4 f hf
    refine ⟨k, b1, ?_, ?_⟩
    · have : jb = w := nI_inj (by omega) (by omega) (b4.symm.trans a1)
      rw [b5, this]
    · rw [b7, ← b6, a2]
theorem rW_sail {I J : zPI} {n : Nat} {eb : Nat → Nat} (h : rW I J n eb) {s : Nat} (hs : s < 9) : I 6 s ≠ -1 ↔ ∃ f, Lr I n f ∧ (I 43 f = nI 0 ∨ I 43 f = nI 1) ∧ I 44 f = nI s := by
  have hn := h.1.2.1
  constructor
  · intro h0
    rcases h.2.2.2.2.2.1 s hs with h1 | ⟨f, a1, a2, a3, a4⟩
    · exact absurd h1 h0
    · exact ⟨f, a1, a3, a4⟩
  · rintro ⟨f, hf, a1, a2⟩
    obtain ⟨k, jb, th, am, e, b1, b2, b3, b4, b5, b6, b7, b8, b9, b10, b11, b12, b13, b14, b15, b16, -⟩ := h.2.2.2.1 f hf
    have hf9 := hf.1
    have hjb : jb = 0 ∨ jb = 1 := by
      rcases a1 with a1 | a1
      · exact Or.inl (nI_inj (by omega) (by omega) (b4.symm.trans a1))
      · exact Or.inr (nI_inj (by omega) (by omega) (b4.symm.trans a1))
    have hth : th = s := by
      have : th < 100 := by
        unfold zlim at b8
        rcases hjb with rfl | rfl <;> simp at b8 <;> omega
      exact nI_inj (by omega) (by omega) (b6.symm.trans a2)
    rw [zmk, if_neg (by omega), if_neg (by omega), hth] at b16
    rw [b16]
    exact nI_m1 (by omega)
theorem rW_rope {I J : zPI} {n : Nat} {eb : Nat → Nat} (h : rW I J n eb) {s : Nat} (hs : s < 18) : I 7 s ≠ -1 ↔ ∃ f, Lr I n f ∧ I 43 f = nI 3 ∧ I 44 f = nI s := by
  have hn := h.1.2.1
  constructor
  · intro h0
    rcases h.2.2.2.2.2.2.1 s hs with h1 | ⟨f, a1, a2, a3, a4⟩
    · exact absurd h1 h0
    · exact ⟨f, a1, a3, a4⟩
  · rintro ⟨f, hf, a1, a2⟩
    obtain ⟨k, jb, th, am, e, b1, b2, b3, b4, b5, b6, b7, b8, b9, b10, b11, b12, b13, b14, b15, b16, -⟩ := h.2.2.2.1 f hf
    have hf9 := hf.1
    have hjb : jb = 3 := nI_inj (by omega) (by omega) (b4.symm.trans a1)
    subst hjb
    have hth : th = s := by
      have : th < 100 := by
        unfold zlim at b8
        simp at b8
        omega
      exact nI_inj (by omega) (by omega) (b6.symm.trans a2)
    rw [zmk, if_neg (by omega), if_pos rfl, hth] at b16
    rw [b16]
    exact nI_m1 (by omega)
theorem rW_yard {I J : zPI} {n : Nat} {eb : Nat → Nat} (h : rW I J n eb) {s : Nat} (hs : s < 3) : I 8 s ≠ -1 ↔ ∃ f, Lr I n f ∧ I 43 f = nI 2 ∧ I 44 f = nI s := by
  have hn := h.1.2.1
  constructor
  · intro h0
    rcases h.2.2.2.2.2.2.2.1 s hs with h1 | ⟨f, a1, a2, a3, a4⟩
    · exact absurd h1 h0
    · exact ⟨f, a1, a3, a4⟩
  · rintro ⟨f, hf, a1, a2⟩
    obtain ⟨k, jb, th, am, e, b1, b2, b3, b4, b5, b6, b7, b8, b9, b10, b11, b12, b13, b14, b15, b16, -⟩ := h.2.2.2.1 f hf
    have hf9 := hf.1
    have hjb : jb = 2 := nI_inj (by omega) (by omega) (b4.symm.trans a1)
    subst hjb
    have hth : th = s := by
      have : th < 100 := by
        unfold zlim at b8
        simp at b8
        omega
      exact nI_inj (by omega) (by omega) (b6.symm.trans a2)
    rw [zmk, if_pos rfl, hth] at b16
    rw [b16]
    exact nI_m1 (by omega)
theorem zlim_le (jb : Nat) : zlim jb ≤ 18 := by
  unfold zlim
  split
  · omega
  · split <;> omega
/-- a work is taken away -/
theorem rW_drop {I J I2 J2 : zPI} {n : Nat} {eb : Nat → Nat} (h : rW I J n eb) {f k : Nat} (hf : Lr I n f) (hk : k < 24) (hfk : J 62 f = nI k)
    (e0 : I2 42 0 = I 42 0) (e1 : J2 48 18 = J 48 18) (e43 : ∀ a, a = 43 ∨ a = 44 ∨ a = 45 ∨ a = 46 → ∀ b, I2 a b = I a b) (e64 : ∀ a, a = 64 ∨ a = 65 ∨ a = 66 → ∀ b, J2 a b = J a b)
    (e47 : ∀ h, h < n → I2 47 h = if I 47 h = nI f then -1 else I 47 h) (e62 : ∀ h, h < n → J2 62 h = if J 62 h = nI k then -1 else J 62 h) (e63 : ∀ j, j < 24 → J2 63 j = if j = k then 0 else J 63 j)
    (e6 : ∀ s, s < 9 → I2 6 s = if I 6 s = nI f then -1 else I 6 s) (e7 : ∀ s, s < 18 → I2 7 s = if I 7 s = nI f then -1 else I 7 s) (e8 : ∀ s, s < 3 → I2 8 s = if I 8 s = nI f then -1 else I 8 s)
    (e2 : ∀ f' jb th, Lr I n f' → f' ≠ f → I 43 f' = nI jb → I 44 f' = nI th → jb < 2 → th < 9 → I2 2 th = I 2 th) : rW I2 J2 n eb := by
  have hn := h.1.2.1
  have hf9 := hf.1
  have sameLr : ∀ f', Lr I2 n f' ↔ Lr I n f' ∧ f' ≠ f := by
    intro f'
    constructor
    · rintro ⟨a1, a2⟩
      rw [e47 f' a1] at a2
      by_cases h9 : I 47 f' = nI f
      · rw [if_pos h9] at a2
        exact absurd a2 (nI_m1' (by omega))
      · rw [if_neg h9] at a2
        refine ⟨⟨a1, a2⟩, fun e => h9 ?_⟩
        rw [a2, e]
    · rintro ⟨⟨a1, a2⟩, a3⟩
      refine ⟨a1, ?_⟩
      rw [e47 f' a1, a2, if_neg (nI_ne (by omega) (by omega) a3)]
  have slotne : ∀ f', Lr I n f' → f' ≠ f → ¬ J 62 f' = nI k := fun f' a1 a2 a3 => a2 (rW_slot h a1 hf hk a3 hfk)
  obtain ⟨h0, hA, hB, hC, hD, hE6, hE7, hE8, hG⟩ := id h
  refine ⟨⟨h0.1, h0.2.1, by rw [e0]; exact h0.2.2.1, by rw [e1]; exact h0.2.2.2⟩, ?_, ?_, ?_, ?_, ?_, ?_, ?_, ?_⟩
  · intro x hx
    rcases hA x hx with ⟨a1, a2⟩ | ⟨f', k', a1, a2, a3, a4, a5, a6⟩
    · refine Or.inl ⟨?_, ?_⟩
      · rw [e47 x hx, a1, if_neg (nI_m1' (by omega))]
      · rw [e62 x hx, a2, if_neg (nI_m1' (by omega))]
    · have hl' : Lr I n f' := ⟨by omega, a5⟩
      by_cases e : f' = f
      · subst e
        have hkk : k' = k := nI_inj (by omega) (by omega) (a6.symm.trans hfk)
        subst hkk
        refine Or.inl ⟨?_, ?_⟩
        · rw [e47 x hx, a3, if_pos rfl]
        · rw [e62 x hx, a4, if_pos rfl]
      · have hkk : k' ≠ k := fun e9 => slotne f' hl' e (by rw [a6, e9])
        refine Or.inr ⟨f', k', a1, a2, ?_, ?_, ((sameLr f').mpr ⟨hl', e⟩).2, ?_⟩
        · rw [e47 x hx, a3, if_neg (nI_ne (by omega) (by omega) e)]
        · rw [e62 x hx, a4, if_neg (nI_ne (by omega) (by omega) hkk)]
        · rw [e62 f' (by omega), a6, if_neg (nI_ne (by omega) (by omega) hkk)]
  · intro x x' hx hx' k' hk' a1 a2
    rw [e62 x hx] at a1
    rw [e62 x' hx'] at a2
    by_cases c1 : J 62 x = nI k
    · rw [if_pos c1] at a1
      exact absurd a1 (nI_m1' (by omega))
    by_cases c2 : J 62 x' = nI k
    · rw [if_pos c2] at a2
      exact absurd a2 (nI_m1' (by omega))
    rw [if_neg c1] at a1
    rw [if_neg c2] at a2
    rw [e47 x hx, e47 x' hx', hB x x' hx hx' k' hk' a1 a2]
  · intro f' hf'
    obtain ⟨b1, b2⟩ := (sameLr f').mp hf'
    obtain ⟨k', jb, th, am, e, a1, a2, a3, a4, a5, a6, a7, a8, a9, a10, a11, a12, a13, a14, a15, a16, a17, a18⟩ := hC f' b1
    have hkk : k' ≠ k := fun e9 => slotne f' b1 b2 (by rw [a2, e9])
    have hth := zlim_le jb
    refine ⟨k', jb, th, am, e, a1, ?_, a3, by rw [e43 43 (by simp)]; exact a4, ?_, by rw [e43 44 (by simp)]; exact a6, by rw [e64 64 (by simp)]; exact a7, a8, by rw [e43 45 (by simp)]; exact a9, by rw [e64 65 (by simp)]; exact a10, a11, by rw [e43 46 (by simp)]; exact a12, by rw [e64 66 (by simp)]; exact a13, a14, a15, ?_, ?_, ?_⟩
    · rw [e62 f' b1.1, if_neg (slotne f' b1 b2)]; exact a2
    · rw [e63 k' a1, if_neg hkk]; exact a5
    · have hne : ¬ nI f' = nI f := nI_ne (by have := b1.1; omega) (by omega) b2
      rw [zmk] at a16 ⊢
      by_cases c1 : jb = 2
      · rw [if_pos c1] at a16 ⊢
        rw [e8 th (by unfold zlim at a8; simp [c1] at a8; exact a8), a16, if_neg hne]
      · rw [if_neg c1] at a16 ⊢
        by_cases c2 : jb = 3
        · rw [if_pos c2] at a16 ⊢
          rw [e7 th (by omega), a16, if_neg hne]
        · rw [if_neg c2] at a16 ⊢
          rw [e6 th (by unfold zlim at a8; rw [if_pos (by omega)] at a8; exact a8), a16, if_neg hne]
    · intro c1
      have h9 : th < 9 := by unfold zlim at a8; rw [if_pos (by omega)] at a8; exact a8
      rw [e2 f' jb th b1 b2 a4 a6 (by omega) h9]
      exact a17 c1
    · intro c1
      have h9 : th < 9 := by unfold zlim at a8; rw [if_pos (by omega)] at a8; exact a8
      rw [e2 f' jb th b1 b2 a4 a6 (by omega) h9]
      exact a18 c1
  · intro j hj
    rw [e63 j hj]
    by_cases c : j = k
    · exact Or.inl (by rw [if_pos c])
    · rw [if_neg c]
      rcases hD j hj with a1 | ⟨f', a1, a2⟩
      · exact Or.inl a1
      · have hne : f' ≠ f := fun e => c (nI_inj (by omega) (by omega) ((a2.symm.trans (by rw [e])).trans hfk))
        refine Or.inr ⟨f', (sameLr f').mpr ⟨a1, hne⟩, ?_⟩
        rw [e62 f' a1.1, a2, if_neg (nI_ne (by omega) (by omega) c)]
  · intro s hs
    rw [e6 s hs]
    by_cases c : I 6 s = nI f
    · exact Or.inl (by rw [if_pos c])
    · rw [if_neg c]
      rcases hE6 s hs with a1 | ⟨f', a1, a2, a3, a4⟩
      · exact Or.inl a1
      · refine Or.inr ⟨f', (sameLr f').mpr ⟨a1, fun e => c (by rw [a2, e])⟩, a2, ?_, ?_⟩
        · rw [e43 43 (by simp)]; exact a3
        · rw [e43 44 (by simp)]; exact a4
  · intro s hs
    rw [e7 s hs]
    by_cases c : I 7 s = nI f
    · exact Or.inl (by rw [if_pos c])
    · rw [if_neg c]
      rcases hE7 s hs with a1 | ⟨f', a1, a2, a3, a4⟩
      · exact Or.inl a1
      · refine Or.inr ⟨f', (sameLr f').mpr ⟨a1, fun e => c (by rw [a2, e])⟩, a2, ?_, ?_⟩
        · rw [e43 43 (by simp)]; exact a3
        · rw [e43 44 (by simp)]; exact a4
  · intro s hs
    rw [e8 s hs]
    by_cases c : I 8 s = nI f
    · exact Or.inl (by rw [if_pos c])
    · rw [if_neg c]
      rcases hE8 s hs with a1 | ⟨f', a1, a2, a3, a4⟩
      · exact Or.inl a1
      · refine Or.inr ⟨f', (sameLr f').mpr ⟨a1, fun e => c (by rw [a2, e])⟩, a2, ?_, ?_⟩
        · rw [e43 43 (by simp)]; exact a3
        · rw [e43 44 (by simp)]; exact a4
  · intro r hr hne
    rw [e7 r hr] at hne
    by_cases c : I 7 r = nI f
    · rw [if_pos c] at hne
      exact absurd rfl hne
    · rw [if_neg c] at hne
      have h9 := hG r hr hne
      rw [e6 (r / 2) (by omega), h9, if_neg (nI_m1' (by omega))]
/-- the rig of both sides -/
def rG (I J : zPI) : Prop := (∀ s, s < 9 → I 2 s = J 58 s ∧ ∃ k, k < 3 ∧ I 2 s = nI k) ∧ (∀ r, r < 18 → (I 3 r = J 59 r ∧ ∃ k, k < 3 ∧ I 3 r = nI k) ∧ (I 4 r = J 60 r ∧ ∃ w, w ≤ 900 ∧ I 4 r = nI w)) ∧ (∀ m, m < 3 → I 5 m = J 61 m ∧ ∃ y, y ≤ 8 ∧ I 5 m = nI y)
theorem rG_cong {I J I' J' : zPI} (h : rG I J) (eI : ∀ a, a = 2 ∨ a = 3 ∨ a = 4 ∨ a = 5 → ∀ b, I' a b = I a b) (eJ : ∀ a, a = 58 ∨ a = 59 ∨ a = 60 ∨ a = 61 → ∀ b, J' a b = J a b) : rG I' J' := by
  unfold rG at *
  simp only [eI 2 (by simp), eI 3 (by simp), eI 4 (by simp), eI 5 (by simp), eJ 58 (by simp), eJ 59 (by simp), eJ 60 (by simp), eJ 61 (by simp)]
  exact h
