/-! works begin -/
/-- a work is added: f its first hand, T its hands, k its slot -/
theorem rW_add {I J I2 J2 : zPI} {n : Nat} {eb : Nat → Nat} (h : rW I J n eb) {f k jb th am e : Nat} {T : Nat → Bool} (hf : f < n) (hTf : T f = true) (hTm : ∀ x, x < n → T x = true → f ≤ x) (hT : ∀ x, x < n → T x = true → I 47 x = -1) (hk : k < 24) (hk0 : J 63 k = 0)
    (hj : jb < 4) (ht : th < zlim jb) (ha : am ≤ 8) (he1 : eb f ≤ e) (he2 : e < 2000000)
    (e0 : I2 42 0 = I 42 0) (e1 : J2 48 18 = J 48 18) (e2 : ∀ b, I2 2 b = I 2 b)
    (e43 : ∀ x, I2 43 x = if x = f then nI jb else I 43 x) (e44 : ∀ x, I2 44 x = if x = f then nI th else I 44 x) (e45 : ∀ x, I2 45 x = if x = f then nI am else I 45 x) (e46 : ∀ x, I2 46 x = if x = f then nI e else I 46 x)
    (e47 : ∀ x, x < n → I2 47 x = if T x = true then nI f else I 47 x) (e62 : ∀ x, x < n → J2 62 x = if T x = true then nI k else J 62 x)
    (e63 : ∀ j, J2 63 j = if j = k then nI (1 + jb) else J 63 j) (e64 : ∀ j, J2 64 j = if j = k then nI th else J 64 j) (e65 : ∀ j, J2 65 j = if j = k then nI am else J 65 j) (e66 : ∀ j, J2 66 j = if j = k then nI e else J 66 j)
    (e6 : ∀ s, I2 6 s = if jb < 2 ∧ s = th then nI f else I 6 s) (e7 : ∀ s, I2 7 s = if jb = 3 ∧ s = th then nI f else I 7 s) (e8 : ∀ s, I2 8 s = if jb = 2 ∧ s = th then nI f else I 8 s)
    (hm : zmk I jb th = -1) (hs0 : jb = 0 → I 2 th = 0) (hs1 : jb = 1 → I 2 th = 1) (hb3 : jb = 3 → I 6 (th / 2) = -1) (hb2 : jb < 2 → I 7 (2 * th) = -1 ∧ I 7 (2 * th + 1) = -1) : rW I2 J2 n eb := by
  have hn := h.1.2.1
  have hthl := zlim_le jb
  obtain ⟨h0, hA, hB, hC, hD, hE6, hE7, hE8, hG⟩ := id h
  have noslot : ∀ x, x < n → ¬ J 62 x = nI k := by
    intro x hx h9
    rcases hA x hx with ⟨-, a2⟩ | ⟨f', k', a1, a2, a3, a4, a5, a6⟩
    · rw [a2] at h9
      exact nI_m1' (by omega) h9
    · have hkk : k' = k := nI_inj (by omega) (by omega) (a4.symm.trans h9)
      subst hkk
      obtain ⟨k2, jb2, th2, am2, e2, b1, b2, b3, b4, b5, -⟩ := hC f' ⟨by omega, a5⟩
      have hk2 : k2 = k' := nI_inj (by omega) (by omega) (b2.symm.trans a6)
      subst hk2
      rw [hk0] at b5
      exact nI_ne0 (n := 1 + jb2) (by omega) (by omega) b5.symm
  have sameLr : ∀ f', Lr I2 n f' ↔ Lr I n f' ∨ f' = f := by
    intro f'
    constructor
    · rintro ⟨a1, a2⟩
      rw [e47 f' a1] at a2
      by_cases h9 : T f' = true
      · rw [if_pos h9] at a2
        exact Or.inr (nI_inj (by omega) (by omega) a2).symm
      · rw [if_neg h9] at a2
        exact Or.inl ⟨a1, a2⟩
    · rintro (⟨a1, a2⟩ | rfl)
      · refine ⟨a1, ?_⟩
        rw [e47 f' a1, if_neg]
        · exact a2
        · intro h9
          rw [hT f' a1 h9] at a2
          exact nI_m1' (by omega) a2
      · exact ⟨hf, by rw [e47 f' hf, if_pos hTf]⟩
  have Tno : ∀ f', Lr I n f' → ¬ T f' = true := fun f' hl h9 => by
    have := hl.2
    rw [hT f' hl.1 h9] at this
    exact nI_m1' (by have := hl.1; omega) this
  have fne : ∀ f', Lr I n f' → f' ≠ f := fun f' hl e9 => Tno f' hl (by rw [e9]; exact hTf)
  refine ⟨⟨h0.1, h0.2.1, by rw [e0]; exact h0.2.2.1, by rw [e1]; exact h0.2.2.2⟩, ?_, ?_, ?_, ?_, ?_, ?_, ?_, ?_⟩
  · intro x hx
    by_cases c : T x = true
    · refine Or.inr ⟨f, k, hTm x hx c, hk, by rw [e47 x hx, if_pos c], by rw [e62 x hx, if_pos c], by rw [e47 f hf, if_pos hTf], by rw [e62 f hf, if_pos hTf]⟩
    · rw [e47 x hx, e62 x hx, if_neg c, if_neg c]
      rcases hA x hx with a1 | ⟨f', k', a1, a2, a3, a4, a5, a6⟩
      · exact Or.inl a1
      · have hno : ¬ T f' = true := Tno f' ⟨by omega, a5⟩
        exact Or.inr ⟨f', k', a1, a2, a3, a4, by rw [e47 f' (by omega), if_neg hno]; exact a5, by rw [e62 f' (by omega), if_neg hno]; exact a6⟩
  · intro x x' hx hx' k' hk' a1 a2
    rw [e62 x hx] at a1
    rw [e62 x' hx'] at a2
    rw [e47 x hx, e47 x' hx']
    by_cases c1 : T x = true
    · rw [if_pos c1] at a1 ⊢
      by_cases c2 : T x' = true
      · rw [if_pos c2]
      · rw [if_neg c2] at a2
        rw [← a1] at a2
        exact absurd a2 (noslot x' hx')
    · rw [if_neg c1] at a1 ⊢
      by_cases c2 : T x' = true
      · rw [if_pos c2] at a2
        rw [← a2] at a1
        exact absurd a1 (noslot x hx)
      · rw [if_neg c2] at a2 ⊢
        exact hB x x' hx hx' k' hk' a1 a2
  · intro f' hf'
    rcases (sameLr f').mp hf' with hl | rfl
    · obtain ⟨k', jb', th', am', e', a1, a2, a3, a4, a5, a6, a7, a8, a9, a10, a11, a12, a13, a14, a15, a16, a17, a18⟩ := hC f' hl
      have hne := fne f' hl
      have hkk : k' ≠ k := fun e9 => noslot f' hl.1 (by rw [a2, e9])
      have hth' := zlim_le jb'
      refine ⟨k', jb', th', am', e', a1, ?_, a3, by rw [e43, if_neg hne]; exact a4, by rw [e63, if_neg hkk]; exact a5, by rw [e44, if_neg hne]; exact a6, by rw [e64, if_neg hkk]; exact a7, a8, by rw [e45, if_neg hne]; exact a9, by rw [e65, if_neg hkk]; exact a10, a11, by rw [e46, if_neg hne]; exact a12, by rw [e66, if_neg hkk]; exact a13, a14, a15, ?_, by rw [e2]; exact a17, by rw [e2]; exact a18⟩
      · rw [e62 f' hl.1, if_neg (Tno f' hl)]; exact a2
      · have hm1 : ¬ nI f' = -1 := nI_m1 (by have := hl.1; omega)
        rw [zmk] at a16 ⊢
        rw [zmk] at hm
        by_cases c1 : jb' = 2
        · rw [if_pos c1] at a16 ⊢
          rw [e8, if_neg, a16]
          rintro ⟨x1, rfl⟩
          rw [if_pos x1, a16] at hm
          exact hm1 hm
        · rw [if_neg c1] at a16 ⊢
          by_cases c2 : jb' = 3
          · rw [if_pos c2] at a16 ⊢
            rw [e7, if_neg, a16]
            rintro ⟨x1, rfl⟩
            rw [if_neg (by omega), if_pos x1, a16] at hm
            exact hm1 hm
          · rw [if_neg c2] at a16 ⊢
            rw [e6, if_neg, a16]
            rintro ⟨x1, rfl⟩
            rw [if_neg (by omega), if_neg (by omega), a16] at hm
            exact hm1 hm
    · refine ⟨k, jb, th, am, e, hk, by rw [e62 f' hf, if_pos hTf], hj, by rw [e43, if_pos rfl], by rw [e63, if_pos rfl], by rw [e44, if_pos rfl], by rw [e64, if_pos rfl], ht, by rw [e45, if_pos rfl], by rw [e65, if_pos rfl], ha, by rw [e46, if_pos rfl], by rw [e66, if_pos rfl], he1, he2, ?_, by rw [e2]; exact hs0, by rw [e2]; exact hs1⟩
      rw [zmk]
      by_cases c1 : jb = 2
      · rw [if_pos c1, e8, if_pos ⟨c1, rfl⟩]
      · rw [if_neg c1]
        by_cases c2 : jb = 3
        · rw [if_pos c2, e7, if_pos ⟨c2, rfl⟩]
        · rw [if_neg c2, e6, if_pos ⟨by omega, rfl⟩]
  · intro j hj9
    rw [e63]
    by_cases c : j = k
    · exact Or.inr ⟨f, (sameLr f).mpr (Or.inr rfl), by rw [e62 f hf, if_pos hTf, c]⟩
    · rw [if_neg c]
      rcases hD j hj9 with a1 | ⟨f', a1, a2⟩
      · exact Or.inl a1
      · exact Or.inr ⟨f', (sameLr f').mpr (Or.inl a1), by rw [e62 f' a1.1, if_neg (Tno f' a1)]; exact a2⟩
  · intro s hs
    rw [e6]
    by_cases c : jb < 2 ∧ s = th
    · rw [if_pos c]
      refine Or.inr ⟨f, (sameLr f).mpr (Or.inr rfl), rfl, ?_, by rw [e44, if_pos rfl, c.2]⟩
      rw [e43, if_pos rfl]
      have : jb = 0 ∨ jb = 1 := by omega
      rcases this with rfl | rfl
      · exact Or.inl rfl
      · exact Or.inr rfl
    · rw [if_neg c]
      rcases hE6 s hs with a1 | ⟨f', a1, a2, a3, a4⟩
      · exact Or.inl a1
      · exact Or.inr ⟨f', (sameLr f').mpr (Or.inl a1), a2, by rw [e43, if_neg (fne f' a1)]; exact a3, by rw [e44, if_neg (fne f' a1)]; exact a4⟩
  · intro s hs
    rw [e7]
    by_cases c : jb = 3 ∧ s = th
    · rw [if_pos c]
      exact Or.inr ⟨f, (sameLr f).mpr (Or.inr rfl), rfl, by rw [e43, if_pos rfl, c.1]; rfl, by rw [e44, if_pos rfl, c.2]⟩
    · rw [if_neg c]
      rcases hE7 s hs with a1 | ⟨f', a1, a2, a3, a4⟩
      · exact Or.inl a1
      · exact Or.inr ⟨f', (sameLr f').mpr (Or.inl a1), a2, by rw [e43, if_neg (fne f' a1)]; exact a3, by rw [e44, if_neg (fne f' a1)]; exact a4⟩
  · intro s hs
    rw [e8]
    by_cases c : jb = 2 ∧ s = th
    · rw [if_pos c]
      exact Or.inr ⟨f, (sameLr f).mpr (Or.inr rfl), rfl, by rw [e43, if_pos rfl, c.1]; rfl, by rw [e44, if_pos rfl, c.2]⟩
    · rw [if_neg c]
      rcases hE8 s hs with a1 | ⟨f', a1, a2, a3, a4⟩
      · exact Or.inl a1
      · exact Or.inr ⟨f', (sameLr f').mpr (Or.inl a1), a2, by rw [e43, if_neg (fne f' a1)]; exact a3, by rw [e44, if_neg (fne f' a1)]; exact a4⟩
  · intro r hr hne
    rw [e7] at hne
    rw [e6]
    by_cases c : jb = 3 ∧ r = th
    · rw [if_neg (by omega), c.2]
      exact hb3 c.1
    · rw [if_neg c] at hne
      by_cases c2 : jb < 2 ∧ r / 2 = th
      · exfalso
        obtain ⟨x1, x2⟩ := hb2 c2.1
        have : r = 2 * th ∨ r = 2 * th + 1 := by omega
        rcases this with rfl | rfl
        · exact hne x1
        · exact hne x2
      · rw [if_neg c2]
        exact hG r hr hne
/-! who is ready -/
def rdy (I : zPI) (h : Nat) : Bool := decide (I 47 h = -1) && decide (¬ fX1_isOnDeck I (nI h) = 0)
theorem f_ready {I : zPI} {h : Nat} (hh : h < 24) : fX1_isReady I (nI h) = some (if rdy I h = true then 1 else 0) := by
  rw [fX1_isReady, zif_t (zin_nI hh (by omega)), nI_clamp (by omega)]
  unfold rdy
  by_cases h1 : I 47 h = -1
  · by_cases h2 : fX1_isOnDeck I (nI h) = 0
    · simp [h1, h2]
    · simp [h1, h2]
  · simp [h1]
theorem zcnt_mono (P : Nat → Bool) {h : Nat} : ∀ d, zcnt P h ≤ zcnt P (h + d) := by
  intro d
  induction d with
  | zero => exact Nat.le_refl _
  | succ d ih =>
    rw [show h + (d + 1) = (h + d) + 1 by omega, zcnt]
    omega
theorem zcnt_le2 (P : Nat → Bool) {h x : Nat} (hx : h ≤ x) : zcnt P h ≤ zcnt P x := by
  have := zcnt_mono P (h := h) (x - h)
  rw [show h + (x - h) = x by omega] at this
  exact this
theorem zcnt_cong {P Q : Nat → Bool} : ∀ n, (∀ x, x < n → P x = Q x) → zcnt P n = zcnt Q n := by
  intro n
  induction n with
  | zero => intro _; rfl
  | succ n ih =>
    intro h
    rw [zcnt, zcnt, ih (fun x hx => h x (by omega)), h n (by omega)]
theorem zcnt_pos {P : Nat → Bool} : ∀ n, 0 < zcnt P n → ∃ f, f < n ∧ P f = true ∧ ∀ x, x < f → P x = false := by
  intro n
  induction n with
  | zero => intro h; exact absurd h (Nat.lt_irrefl _)
  | succ n ih =>
    intro h
    by_cases h1 : 0 < zcnt P n
    · obtain ⟨f, a1, a2, a3⟩ := ih h1
      exact ⟨f, by omega, a2, a3⟩
    · rw [zcnt] at h
      by_cases h2 : P n = true
      · refine ⟨n, by omega, h2, fun x hx => ?_⟩
        refine Classical.byContradiction (fun h3 => ?_)
        have h4 : P x = true := by simpa using h3
        have h5 : zcnt P (x + 1) ≤ zcnt P n := zcnt_le2 P (by omega)
        rw [zcnt, if_pos h4] at h5
        omega
      · rw [if_neg h2] at h
        omega
theorem zcnt_zero {P : Nat → Bool} {f : Nat} (h : ∀ x, x < f → P x = false) : ∀ x, x ≤ f → zcnt P x = 0 := by
  intro x
  induction x with
  | zero => intro _; rfl
  | succ x ih =>
    intro hx
    rw [zcnt, ih (by omega), h x (by omega)]
    rfl
theorem f_mus4 {K : Int32 → Int32 → zPI → Option (Int32 × zPI)} {v1 : Int32} {I : zPI} {n : Nat} (hn : n ≤ 24) (h0 : I 42 0 = nI n) : ∀ (r fu h : Nat), h + r = n → r < fu → fX1_muster_4 K fu v1 (nI (zcnt (rdy I) h)) (nI h) I = K v1 (nI (zcnt (rdy I) n)) I := by
  intro r
  induction r with
  | zero =>
    intro fu h hh hf
    obtain ⟨fu, rfl, -⟩ := zsucc hf
    have : h = n := by omega
    subst this
    rw [fX1_muster_4, h0, if_pos (nI_le (Nat.le_refl _) (by omega))]
  | succ r ih =>
    intro fu h hh hf
    obtain ⟨fu, rfl, hf⟩ := zsucc hf
    have h9 := ih fu (h + 1) (by omega) (by omega)
    rw [fX1_muster_4, h0, if_neg (nI_ge (a := h) (b := n) (by omega) (by omega)), f_ready (by omega)]
    simp only [Option.bind_some]
    rw [zcnt] at h9
    by_cases c : rdy I h = true
    · rw [if_pos c] at h9 ⊢
      rw [if_neg (by decide), nI_1, nI_1]
      exact h9
    · rw [if_neg c] at h9 ⊢
      rw [if_pos rfl, nI_1, show nI (zcnt (rdy I) h) + 0 = nI (zcnt (rdy I) h + 0) from nI_add _ 0]
      exact h9
theorem f_mus49 {K : Int32 → zPI → Option (Int32 × zPI)} {I0 : zPI} {n need f0 : Nat} (hn : n ≤ 24) (h0 : I0 42 0 = nI n) (hneed : 0 < need) (hne9 : need ≤ 5) (hf0 : f0 < n) (hr0 : rdy I0 f0 = true) (hmin : ∀ x, x < f0 → rdy I0 x = false) (hcn : need ≤ zcnt (rdy I0) n) : ∀ (r fu h : Nat) (I : zPI), h + r = n → r < fu → zcnt (rdy I0) h ≤ need → (∀ a b, ¬ (a = 47 ∧ b < h) → I a b = I0 a b) → (∀ x, x < h → I 47 x = if (rdy I0 x && decide (zcnt (rdy I0) x < need)) = true then nI f0 else I0 47 x) →
    ∃ I', fX1_muster_49 K fu (if h ≤ f0 then -1 else nI f0) (nI (need - zcnt (rdy I0) h)) (nI h) I = K (nI f0) I' ∧ (∀ a b, a ≠ 47 → I' a b = I0 a b) ∧ (∀ x, x < n → I' 47 x = if (rdy I0 x && decide (zcnt (rdy I0) x < need)) = true then nI f0 else I0 47 x) := by
  have stop : ∀ (h : Nat) (I : zPI), h ≤ n → need ≤ zcnt (rdy I0) h → (∀ a b, ¬ (a = 47 ∧ b < h) → I a b = I0 a b) → (∀ x, x < h → I 47 x = if (rdy I0 x && decide (zcnt (rdy I0) x < need)) = true then nI f0 else I0 47 x) → f0 < h ∧ (∀ a b, a ≠ 47 → I a b = I0 a b) ∧ (∀ x, x < n → I 47 x = if (rdy I0 x && decide (zcnt (rdy I0) x < need)) = true then nI f0 else I0 47 x) := by
    intro h I hh hc f1 f2
    refine ⟨?_, fun a b h9 => f1 a b (by omega), fun x hx => ?_⟩
    · refine Classical.byContradiction (fun h9 => ?_)
      have := zcnt_zero hmin h (by omega)
      omega
    · by_cases c : x < h
      · exact f2 x c
      · have h8 : zcnt (rdy I0) h ≤ zcnt (rdy I0) x := zcnt_le2 _ (by omega)
        have h9 : ¬ zcnt (rdy I0) x < need := by omega
        rw [f1 _ _ (by omega)]
        simp [h9]
  intro r
  induction r with
  | zero =>
    intro fu h I hh hf hc f1 f2
    obtain ⟨fu, rfl, -⟩ := zsucc hf
    have : h = n := by omega
    subst this
    obtain ⟨s1, s2, s3⟩ := stop h I (Nat.le_refl _) hcn f1 f2
    refine ⟨I, ?_, s2, s3⟩
    rw [fX1_muster_49, f1 42 0 (by omega), h0, if_pos (nI_le (Nat.le_refl _) (by omega)), if_neg (by omega)]
  | succ r ih =>
    intro fu h I hh hf hc f1 f2
    obtain ⟨fu, rfl, hf⟩ := zsucc hf
    rw [fX1_muster_49, f1 42 0 (by omega), h0, if_neg (nI_ge (a := h) (b := n) (by omega) (by omega))]
    by_cases hm : need ≤ zcnt (rdy I0) h
    · obtain ⟨s1, s2, s3⟩ := stop h I (by omega) hm f1 f2
      refine ⟨I, ?_, s2, s3⟩
      rw [show need - zcnt (rdy I0) h = 0 by omega, if_pos (show nI 0 ≤ 0 by decide), if_neg (by omega)]
    · rw [if_neg (nI_nle (n := need - zcnt (rdy I0) h) (by omega) (by omega)), f_ready (by omega)]
      simp only [Option.bind_some]
      have hrd : rdy I h = rdy I0 h := by
        unfold rdy fX1_isOnDeck
        rw [f1 47 h (by omega), f1 42 6 (by omega)]
      rw [hrd]
      by_cases c : rdy I0 h = true
      · have hcs : zcnt (rdy I0) (h + 1) = zcnt (rdy I0) h + 1 := by rw [zcnt, if_pos c]
        have hlt : h < f0 → False := fun h9 => by
          have := hmin h h9
          rw [c] at this
          cases this
        have hge : f0 ≤ h := Nat.le_of_not_lt (fun h9 => hlt h9)
        have hz : zin (nI h) 24 = true := zin_nI (by omega) (by omega)
        rw [if_pos c, if_neg (by decide)]
        simp only [hz, if_true]
        have hms : nI (need - zcnt (rdy I0) h) + (-1) = nI (need - zcnt (rdy I0) (h + 1)) := by
          rw [hcs, show need - zcnt (rdy I0) h = (need - (zcnt (rdy I0) h + 1)) + 1 by omega]
          exact pk_m1 _
        have next : ∃ I', fX1_muster_49 K fu (nI f0) (nI (need - zcnt (rdy I0) (h + 1))) (nI (h + 1)) (zu I 47 h (nI f0)) = K (nI f0) I' ∧ (∀ a b, a ≠ 47 → I' a b = I0 a b) ∧ (∀ x, x < n → I' 47 x = if (rdy I0 x && decide (zcnt (rdy I0) x < need)) = true then nI f0 else I0 47 x) := by
          obtain ⟨I', e, g1, g2⟩ := ih fu (h + 1) (zu I 47 h (nI f0)) (by omega) (by omega) (by rw [hcs]; omega) (fun a b h9 => by
            by_cases h7 : a = 47
            · rw [zu_col (by omega), f1 a b (by omega)]
            · rw [zu_row h7, f1 a b (by omega)]) (fun x hx => by
            by_cases e : x = h
            · subst e
              have h9 : zcnt (rdy I0) x < need := by omega
              rw [zu_same]
              simp [c, h9]
            · rw [zu_col e]
              exact f2 x (by omega))
          rw [if_neg (by omega)] at e
          exact ⟨I', e, g1, g2⟩
        by_cases ch : h ≤ f0
        · have : h = f0 := by
            rcases Nat.lt_or_ge h f0 with h9 | h9
            · exact (hlt h9).elim
            · omega
          subst this
          rw [if_pos (Nat.le_refl h), if_pos rfl, nI_clamp (by omega), hms, nI_1]
          exact next
        · rw [if_neg ch, if_neg (nI_m1 (by omega)), nI_clamp (by omega), hms, nI_1]
          exact next
      · have hcs : zcnt (rdy I0) (h + 1) = zcnt (rdy I0) h := by rw [zcnt, if_neg c]; rfl
        have hne : h ≠ f0 := fun e => c (by rw [e]; exact hr0)
        rw [if_neg c, if_pos rfl, nI_1]
        obtain ⟨I', e, g1, g2⟩ := ih fu (h + 1) I (by omega) (by omega) (by rw [hcs]; exact hc) (fun a b h9 => f1 a b (by omega)) (fun x hx => by
          by_cases e : x = h
          · subst e
            rw [f1 _ _ (by omega)]
            simp [c]
          · exact f2 x (by omega))
        rw [hcs] at e
        refine ⟨I', ?_, g1, g2⟩
        by_cases ch : h ≤ f0
        · rw [if_pos (by omega)] at e
          rw [if_pos ch]
          exact e
        · rw [if_neg (by omega)] at e
          rw [if_neg ch]
          exact e
def rdyR (J : zPI) (h : Nat) : Bool := decide (¬ 0 ≤ J 62 h) && decide (¬ fX9_isOnDeck J (nI h) = 0)
theorem f_beg29 {K : Int32 → Int32 → Int32 → Int32 → zPI → Option (Int32 × zPI)} {v1 v2 v3 : Int32} {J : zPI} {n : Nat} (hn : n ≤ 24) (h0 : J 48 18 = nI n) : ∀ (r fu h : Nat), h + r = n → r < fu → fX9_begins_29 K fu v1 v2 v3 (nI (zcnt (rdyR J) h)) (nI h) J = K v1 v2 v3 (nI (zcnt (rdyR J) n)) J := by
  intro r
  induction r with
  | zero =>
    intro fu h hh hf
    obtain ⟨fu, rfl, -⟩ := zsucc hf
    have : h = n := by omega
    subst this
    rw [fX9_begins_29, h0, if_pos (nI_le (Nat.le_refl _) (by omega))]
  | succ r ih =>
    intro fu h hh hf
    obtain ⟨fu, rfl, hf⟩ := zsucc hf
    have h9 := ih fu (h + 1) (by omega) (by omega)
    rw [fX9_begins_29, h0, if_neg (nI_ge (a := h) (b := n) (by omega) (by omega)), zif_t (zin_nI (by omega) (by omega)), nI_clamp (by omega)]
    have e0 : nI (zcnt (rdyR J) h) + 0 = nI (zcnt (rdyR J) h + 0) := nI_add _ 0
    rw [zcnt] at h9
    by_cases c1 : 0 ≤ J 62 h
    · have : rdyR J h = false := by simp [rdyR, c1]
      rw [this] at h9
      rw [if_pos c1, nI_1, e0]
      exact h9
    · rw [if_neg c1]
      by_cases c2 : fX9_isOnDeck J (nI h) = 0
      · have : rdyR J h = false := by simp [rdyR, c2]
        rw [this] at h9
        rw [if_pos c2, nI_1, e0]
        exact h9
      · have : rdyR J h = true := by simp [rdyR, c1, c2]
        rw [this] at h9
        rw [if_neg c2, nI_1, nI_1]
        exact h9
theorem f_beg91 {K : Int32 → Int32 → Int32 → Int32 → Int32 → zPI → Option (Int32 × zPI)} {v1 v2 v3 v5 : Int32} {J : zPI} {k0 : Nat} (hk : k0 < 24) (h0 : J 63 k0 = 0) (hb : ∀ j, j < k0 → ¬ J 63 j ≤ 0) : ∀ (r fu k : Nat), k + r = k0 → r < fu → fX9_begins_91 K fu v1 v2 v3 v5 (nI k) J = K v1 v2 v3 v5 (nI k0) J := by
  intro r
  induction r with
  | zero =>
    intro fu k hh hf
    obtain ⟨fu, rfl, -⟩ := zsucc hf
    have : k = k0 := by omega
    subst this
    rw [fX9_begins_91, zif_t (zin_nI hk (by omega)), nI_clamp (by omega), h0, if_pos (by decide)]
  | succ r ih =>
    intro fu k hh hf
    obtain ⟨fu, rfl, hf⟩ := zsucc hf
    rw [fX9_begins_91, zif_t (zin_nI (by omega) (by omega)), nI_clamp (by omega), if_neg (hb k (by omega)), nI_1]
    exact ih fu (k + 1) (by omega) (by omega)
theorem f_beg195 {K : zPI → Option (Int32 × zPI)} {J0 : zPI} {n need k0 : Nat} (hn : n ≤ 24) (h0 : J0 48 18 = nI n) (hne9 : need ≤ 5) (hcn : need ≤ zcnt (rdyR J0) n) : ∀ (r fu h : Nat) (J : zPI), h + r = n → r < fu → zcnt (rdyR J0) h ≤ need → (∀ a b, ¬ (a = 62 ∧ b < h) → J a b = J0 a b) → (∀ x, x < h → J 62 x = if (rdyR J0 x && decide (zcnt (rdyR J0) x < need)) = true then nI k0 else J0 62 x) →
    ∃ J', fX9_begins_195 K fu (nI (need - zcnt (rdyR J0) h)) (nI k0) (nI h) J = K J' ∧ (∀ a b, a ≠ 62 → J' a b = J0 a b) ∧ (∀ x, x < n → J' 62 x = if (rdyR J0 x && decide (zcnt (rdyR J0) x < need)) = true then nI k0 else J0 62 x) := by
  have stop : ∀ (h : Nat) (I : zPI), h ≤ n → need ≤ zcnt (rdyR J0) h → (∀ a b, ¬ (a = 62 ∧ b < h) → I a b = J0 a b) → (∀ x, x < h → I 62 x = if (rdyR J0 x && decide (zcnt (rdyR J0) x < need)) = true then nI k0 else J0 62 x) → (∀ a b, a ≠ 62 → I a b = J0 a b) ∧ (∀ x, x < n → I 62 x = if (rdyR J0 x && decide (zcnt (rdyR J0) x < need)) = true then nI k0 else J0 62 x) := by
    intro h I hh hc f1 f2
    refine ⟨fun a b h9 => f1 a b (by omega), fun x hx => ?_⟩
    by_cases c : x < h
    · exact f2 x c
    · have h8 : zcnt (rdyR J0) h ≤ zcnt (rdyR J0) x := zcnt_le2 _ (by omega)
      have h9 : ¬ zcnt (rdyR J0) x < need := by omega
      rw [f1 _ _ (by omega)]
      simp [h9]
  intro r
  induction r with
  | zero =>
    intro fu h J hh hf hc f1 f2
    obtain ⟨fu, rfl, -⟩ := zsucc hf
    have : h = n := by omega
    subst this
    obtain ⟨s2, s3⟩ := stop h J (Nat.le_refl _) hcn f1 f2
    exact ⟨J, by rw [fX9_begins_195, f1 48 18 (by omega), h0, if_pos (nI_le (Nat.le_refl _) (by omega))], s2, s3⟩
  | succ r ih =>
    intro fu h J hh hf hc f1 f2
    obtain ⟨fu, rfl, hf⟩ := zsucc hf
    rw [fX9_begins_195, f1 48 18 (by omega), h0, if_neg (nI_ge (a := h) (b := n) (by omega) (by omega))]
    by_cases hm : need ≤ zcnt (rdyR J0) h
    · obtain ⟨s2, s3⟩ := stop h J (by omega) hm f1 f2
      exact ⟨J, by rw [show need - zcnt (rdyR J0) h = 0 by omega, if_pos (show nI 0 ≤ 0 by decide)], s2, s3⟩
    · have hz : zin (nI h) 24 = true := zin_nI (by omega) (by omega)
      rw [if_neg (nI_nle (n := need - zcnt (rdyR J0) h) (by omega) (by omega))]
      simp only [hz, if_true]
      rw [nI_clamp (by omega), nI_1, f1 62 h (by omega)]
      have hdk : fX9_isOnDeck J (nI h) = fX9_isOnDeck J0 (nI h) := by unfold fX9_isOnDeck; rw [f1 48 28 (by omega)]
      rw [hdk]
      have skip : rdyR J0 h = false → ∃ J', fX9_begins_195 K fu (nI (need - zcnt (rdyR J0) h)) (nI k0) (nI (h + 1)) J = K J' ∧ (∀ a b, a ≠ 62 → J' a b = J0 a b) ∧ (∀ x, x < n → J' 62 x = if (rdyR J0 x && decide (zcnt (rdyR J0) x < need)) = true then nI k0 else J0 62 x) := by
        intro c
        have hcs : zcnt (rdyR J0) (h + 1) = zcnt (rdyR J0) h := by rw [zcnt, c]; rfl
        obtain ⟨J', e, g1, g2⟩ := ih fu (h + 1) J (by omega) (by omega) (by rw [hcs]; exact hc) (fun a b h9 => f1 a b (by omega)) (fun x hx => by
          by_cases e : x = h
          · subst e
            rw [f1 _ _ (by omega)]
            simp [c]
          · exact f2 x (by omega))
        rw [hcs] at e
        exact ⟨J', e, g1, g2⟩
      by_cases c1 : 0 ≤ J0 62 h
      · rw [if_pos c1]
        exact skip (by simp [rdyR, c1])
      · rw [if_neg c1]
        by_cases c2 : fX9_isOnDeck J0 (nI h) = 0
        · rw [if_pos c2]
          exact skip (by simp [rdyR, c2])
        · rw [if_neg c2]
          have c : rdyR J0 h = true := by simp [rdyR, c1, c2]
          have hcs : zcnt (rdyR J0) (h + 1) = zcnt (rdyR J0) h + 1 := by rw [zcnt, if_pos c]
          have hms : nI (need - zcnt (rdyR J0) h) + (-1) = nI (need - zcnt (rdyR J0) (h + 1)) := by
            rw [hcs, show need - zcnt (rdyR J0) h = (need - (zcnt (rdyR J0) h + 1)) + 1 by omega]
            exact pk_m1 _
          rw [hms]
          exact ih fu (h + 1) (zu J 62 h (nI k0)) (by omega) (by omega) (by rw [hcs]; omega) (fun a b h9 => by
            by_cases h7 : a = 62
            · rw [zu_col (by omega), f1 a b (by omega)]
            · rw [zu_row h7, f1 a b (by omega)]) (fun x hx => by
            by_cases e : x = h
            · subst e
              have h9 : zcnt (rdyR J0) x < need := by omega
              rw [zu_same]
              simp [c, h9]
            · rw [zu_col e]
              exact f2 x (by omega))
/-- pigeons -/
theorem php : ∀ (N : Nat) (g : Nat → Nat), (∀ k, k < N + 1 → g k < N) → ∃ i j, i < j ∧ j < N + 1 ∧ g i = g j := by
  intro N
  induction N with
  | zero =>
    intro g h
    have := h 0 (by omega)
    omega
  | succ N ih =>
    intro g h
    -- where the last one sits is taken out
    by_cases hc : ∃ i, i < N + 1 ∧ g i = g (N + 1)
    · obtain ⟨i, h1, h2⟩ := hc
      exact ⟨i, N + 1, by omega, by omega, h2⟩
    · obtain ⟨i, j, h1, h2, h3⟩ := ih (fun k => if g k > g (N + 1) then g k - 1 else g k) (fun k hk => by
        have a1 := h k (by omega)
        have a2 := h (N + 1) (by omega)
        have a3 : g k ≠ g (N + 1) := fun e => hc ⟨k, hk, e⟩
        split <;> omega)
      refine ⟨i, j, h1, by omega, ?_⟩
      have a1 : g i ≠ g (N + 1) := fun e => hc ⟨i, by omega, e⟩
      have a2 : g j ≠ g (N + 1) := fun e => hc ⟨j, by omega, e⟩
      by_cases c1 : g i > g (N + 1)
      · by_cases c2 : g j > g (N + 1)
        · rw [if_pos c1, if_pos c2] at h3
          omega
        · rw [if_pos c1, if_neg c2] at h3
          omega
      · by_cases c2 : g j > g (N + 1)
        · rw [if_neg c1, if_pos c2] at h3
          omega
        · rw [if_neg c1, if_neg c2] at h3
          exact h3
/-- where a hand is free, a slot is free -/
theorem rW_free {I J : zPI} {n : Nat} {eb : Nat → Nat} (h : rW I J n eb) {x : Nat} (hx : x < n) (hx0 : I 47 x = -1) : ∃ k, k < 24 ∧ J 63 k = 0 ∧ ∀ j, j < k → ¬ J 63 j ≤ 0 := by
  have hn := h.1.2.1
  have ex : ∃ k, k < 24 ∧ J 63 k = 0 := by
    refine Classical.byContradiction (fun hno => ?_)
    have h1 : ∀ k : Nat, ∃ f, k < 24 → Lr I n f ∧ J 62 f = nI k := by
      intro k
      by_cases hk : k < 24
      · rcases h.2.2.2.2.1 k hk with h0 | ⟨f, h2⟩
        · exact absurd ⟨k, hk, h0⟩ hno
        · exact ⟨f, fun _ => h2⟩
      · exact ⟨0, fun h9 => absurd h9 hk⟩
    obtain ⟨g, hg⟩ := Classical.axiomOfChoice h1
    have hne : ∀ k, k < 24 → g k ≠ x := fun k hk e => by
      have := (hg k hk).1.2
      rw [e, hx0] at this
      exact nI_m1' (by omega) this
    obtain ⟨i, j, a1, a2, a3⟩ := php 23 (fun k => if g k > x then g k - 1 else g k) (fun k hk => by
      have b1 := (hg k (by omega)).1.1
      have b2 := hne k (by omega)
      split <;> omega)
    have b1 := hne i (by omega)
    have b2 := hne j (by omega)
    have e : g i = g j := by
      by_cases c1 : g i > x
      · by_cases c2 : g j > x
        · rw [if_pos c1, if_pos c2] at a3
          omega
        · rw [if_pos c1, if_neg c2] at a3
          omega
      · by_cases c2 : g j > x
        · rw [if_neg c1, if_pos c2] at a3
          omega
        · rw [if_neg c1, if_neg c2] at a3
          exact a3
    have c1 := (hg i (by omega)).2
    have c2 := (hg j (by omega)).2
    rw [e, c2] at c1
    have := nI_inj (by omega) (by omega) c1
    omega
  obtain ⟨k, ⟨h1, h2⟩, h3⟩ := pk_least (fun k => k < 24 ∧ J 63 k = 0) ex
  refine ⟨k, h1, h2, fun j hj h4 => ?_⟩
  rcases h.2.2.2.2.1 j (by omega) with h0 | ⟨f, hl, hs⟩
  · exact h3 j hj ⟨by omega, h0⟩
  · obtain ⟨k2, jb, th, am, e, b1, b2, b3, b4, b5, -⟩ := h.2.2.2.1 f hl
    have : k2 = j := nI_inj (by omega) (by omega) (b2.symm.trans hs)
    subst this
    rw [b5] at h4
    exact nI_nle (n := 1 + jb) (by omega) (by omega) h4
