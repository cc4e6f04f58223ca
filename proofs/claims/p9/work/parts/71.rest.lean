/-! the text is told by its half of the codes -/
theorem sok_congR {J J' : zPI} {p m : Nat} (e : ∀ a, a = 54 ∨ a = 55 → ∀ b, p ≤ b → b ≤ p + 2 * m → J' a b = J a b) (h : sok J p m) : sok J' p m := by
  have tk : ∀ b, p ≤ b → b ≤ p + 2 * m → tok J b → tok J' b := fun b h1 h2 h3 => by
    unfold tok at *
    rw [e 54 (Or.inl rfl) b h1 h2, e 55 (Or.inr rfl) b h1 h2]
    exact h3
  exact ⟨tk p (by omega) (by omega) h.1, fun k hk => ⟨tk _ (by omega) (by omega) (h.2 k hk).1, by rw [e 54 (Or.inl rfl) _ (by omega) (by omega)]; exact (h.2 k hk).2⟩⟩
theorem sv_congR {J J' : zPI} {p : Nat} (V : Nat → Int) : ∀ m, (∀ a, a = 54 ∨ a = 55 → ∀ b, p ≤ b → b ≤ p + 2 * m → J' a b = J a b) → sv J' V p m = sv J V p m := by
  intro m
  induction m with
  | zero =>
    intro e
    show tv J' V p = tv J V p
    unfold tv
    rw [e 54 (Or.inl rfl) p (by omega) (by omega), e 55 (Or.inr rfl) p (by omega) (by omega)]
  | succ m ih =>
    intro e
    have ht : tv J' V (p + 2 * m + 1) = tv J V (p + 2 * m + 1) := by
      unfold tv
      rw [e 54 (Or.inl rfl) _ (by omega) (by omega), e 55 (Or.inr rfl) _ (by omega) (by omega)]
    rw [sv, sv, ih (fun a ha b h1 h2 => e a ha b h1 (by omega)), ht, e 54 (Or.inl rfl) _ (by omega) (by omega)]
theorem EX_congR {I J J' : zPI} {a i f A U : Nat} (e : ∀ x, x = 54 ∨ x = 55 → ∀ b, A ≤ b → b ≤ U → J' x b = J x b) (h : EX I J a i f A U) : EX I J' a i f A U := by
  obtain ⟨W, ml, h1, h2, h3, h4⟩ := h
  rcases h4 with ⟨a1, rfl, a3⟩ | ⟨mr, a1, rfl, a3, a4, a5⟩
  · exact ⟨W, ml, h1, h2, sok_congR (fun x hx b q1 q2 => e x hx b q1 (by omega)) h3, Or.inl ⟨a1, rfl, fun V hV => by rw [sv_congR V ml (fun x hx b q1 q2 => e x hx b q1 (by omega))]; exact a3 V hV⟩⟩
  · exact ⟨W, ml, h1, h2, sok_congR (fun x hx b q1 q2 => e x hx b q1 (by omega)) h3, Or.inr ⟨mr, a1, rfl, sok_congR (fun x hx b q1 q2 => e x hx b (by omega) (by omega)) a3, by rw [e 54 (Or.inl rfl) _ (by omega) (by omega)]; exact a4, fun V hV => by rw [sv_congR V ml (fun x hx b q1 q2 => e x hx b q1 (by omega)), sv_congR V mr (fun x hx b q1 q2 => e x hx b (by omega) (by omega))]; exact a5 V hV⟩⟩
theorem TX_congH {I J J' : zPI} {hh a cnt : Nat} {A U : Nat → Nat} (h : TX I J hh a cnt A U) (eJ : ∀ x, x = 54 ∨ x = 55 ∨ x = 56 → ∀ b, inH hh b → J' x b = J x b) : TX I J' hh a cnt A U := by
  have e : ∀ x, x = 54 ∨ x = 55 → ∀ b, inH hh b → J' x b = J x b := fun x hx b hb => eJ x (by omega) b hb
  obtain ⟨h1, h2, h3, h4, h5⟩ := h
  refine ⟨h1, h2, h3, by rw [eJ 54 (by simp) _ h3]; exact h4, fun i hi => ?_⟩
  obtain ⟨a0, v, f, s, af, a1, a2, a3, a4, a5, a6⟩ := h5 i hi
  refine ⟨a0, v, f, s, af, a1, a2, a3, a4, a5, ?_⟩
  rw [eJ 54 (by simp) _ a0, eJ 55 (by simp) _ a0, eJ 56 (by simp) _ a0]
  rcases a6 with ⟨b1, b2, b3, b4, b5, b6, b7, b8⟩ | ⟨b1, b2, b3, b4, b5, b6⟩ | ⟨b1, b2, b3, b4, b5, b6⟩ | ⟨b1, b2, b3, b4, b5, b6, b7⟩ | ⟨b1, b2, b3, b3', b4, b5, wt, wf, tg, b6, b7, b8, b9, b10, b11, b12, b13⟩
  · exact Or.inl ⟨b1, b2, b3, b4, b5, b6, b7, LdE_congH e b8⟩
  · exact Or.inr (Or.inl ⟨b1, b2, b3, b4, b5, LdE_congH e b6⟩)
  · exact Or.inr (Or.inr (Or.inl ⟨b1, b2, b3, b4, b5, LdE_congH e b6⟩))
  · exact Or.inr (Or.inr (Or.inr (Or.inl ⟨b1, b2, b3, b4, b5, b6, LdE_congH e b7⟩)))
  · have hU : inH hh (U i) := by omega
    exact Or.inr (Or.inr (Or.inr (Or.inr ⟨b1, b2, b3, b3', EX_congR (fun x hx b q1 q2 => e x hx b (by omega)) b4, by rw [eJ 54 (by simp) _ hU]; exact b5, wt, wf, tg, b6, b7, b8, b9, b10, by rw [eJ 55 (by simp) _ hU]; exact b11, LdE_congH e b12, LdE_congH e b13⟩)))
/-- rM is told by the class's rows of the one, the reference's of the other -/
theorem rM_cong {I J I' J' : zPI} {hh n m a cnt : Nat} {A U : Nat → Nat} {at' WT w : Nat} {M P F : Nat → Nat} (ha : a = 24 ∨ a = 33) (h : rM I J hh n m a cnt A U at' WT w M P F) (eI : ∀ x y, x < 48 → ¬ (x = 9 ∧ (y = 4 ∨ y = 5 ∨ y = 6)) → ¬ (13 ≤ x ∧ x ≤ 23) → I' x y = I x y) (eJ : ∀ x y, (x = 48 ∧ 17 < y ∧ y < 47) ∨ (54 ≤ x ∧ x ≤ 56) ∨ (58 ≤ x ∧ x < 71) → J' x y = J x y) : rM I' J' hh n m a cnt A U at' WT w M P F := by
  obtain ⟨hT, ⟨h9, hat, pc, hpc, h37, hL⟩, h46, ⟨h10, h38, hWT⟩, hW, hG, ⟨dk, hdk, hk1, hk2⟩, ⟨ws, hws, hw1, hw2⟩, h11, ⟨h12, h29⟩, ⟨c, hc, hc1, hc2⟩, ⟨hs1, hs2, hs3⟩, ⟨p, hp, hp1, hp2⟩, hC, hR⟩ := h
  refine ⟨TX_cong hT (fun k hk b => eI _ _ (by omega) (by omega) (by omega)) (fun x hx b => eJ _ _ (by omega)), ⟨by rw [eI _ _ (by decide) (by decide) (by decide)]; exact h9, hat, pc, hpc, by rw [eJ _ _ (by decide)]; exact h37, LdE_cong (fun x hx b => eJ _ _ (by omega)) hL⟩, by rw [eJ _ _ (by decide)]; exact h46, ⟨by rw [eI _ _ (by decide) (by decide) (by decide)]; exact h10, by rw [eJ _ _ (by decide)]; exact h38, hWT⟩, rW_cong hW (eI _ _ (by decide) (by decide) (by decide)) (eJ _ _ (by decide)) (fun x hx b => eI _ _ (by omega) (by omega) (by omega)) (fun x hx b => eJ _ _ (by omega)), rG_cong hG (fun x hx b => eI _ _ (by omega) (by omega) (by omega)) (fun x hx b => eJ _ _ (by omega)), ⟨dk, hdk, by rw [eI _ _ (by decide) (by decide) (by decide)]; exact hk1, by rw [eJ _ _ (by decide)]; exact hk2⟩, ⟨ws, hws, by rw [eI _ _ (by decide) (by decide) (by decide)]; exact hw1, by rw [eJ _ _ (by decide)]; exact hw2⟩, by rw [eI _ _ (by decide) (by decide) (by decide), eJ _ _ (by decide)]; exact h11, ⟨by rw [eI _ _ (by decide) (by decide) (by decide)]; exact h12, by rw [eJ _ _ (by decide)]; exact h29⟩, ⟨c, hc, by rw [eI _ _ (by decide) (by decide) (by decide)]; exact hc1, by rw [eJ _ _ (by decide)]; exact hc2⟩, ⟨by rw [eI _ _ (by decide) (by decide) (by decide), eJ _ _ (by decide)]; exact hs1, by rw [eI _ _ (by decide) (by decide) (by decide)]; exact hs2, by rw [eI _ _ (by decide) (by decide) (by decide)]; exact hs3⟩, ⟨p, hp, by rw [eI _ _ (by decide) (by decide) (by decide)]; exact hp1, by rw [eJ _ _ (by decide)]; exact hp2⟩, zWC_cong hC (eI _ _ (by decide) (by decide) (by decide)) (fun x hx b => eI _ _ (by omega) (by omega) (by omega)), zWR_cong hR (eJ _ _ (by decide)) (fun x hx b => eJ _ _ (by omega))⟩
/-- n minutes -/
theorem f_mins {K K' : zPI → Option (Int32 × zPI)} {hh n a cnt : Nat} {A U : Nat → Nat} {w : Nat} {M P F : Nat → Nat} {N : Nat} (ha : a = 24 ∨ a = 33) (hN : N ≤ 120) : ∀ (r fu fu' k m : Nat) (I J : zPI) (at' WT : Nat), k + r = N → r < fu → r < fu' → m + r < 800000 → rM I J hh n m a cnt A U at' WT w M P F →
    ∃ I' J' at2 WT2, fX8_minutes_14 a K fu (nI N) (nI k) I = K I' ∧ fX9_minutes_19 K' fu' (nI N) (nI k) J = K' J' ∧ rM I' J' hh n (m + r) a cnt A U at2 WT2 w M P F ∧
      (∀ x y, ¬ (x ≤ 9 ∨ x = 23 ∨ (42 ≤ x ∧ x ≤ 47)) → I' x y = I x y) ∧ (∀ x y, ¬ ((x = 48 ∧ 28 ≤ y ∧ y ≤ 46) ∨ (58 ≤ x ∧ x ≤ 66) ∨ x = 70) → J' x y = J x y) := by
  intro r
  induction r with
  | zero =>
    intro fu fu' k m I J at' WT hk hf hf' hm h
    obtain ⟨fu, rfl, -⟩ := zsucc hf
    obtain ⟨fu', rfl, -⟩ := zsucc hf'
    have : k = N := by omega
    subst this
    exact ⟨I, J, at', WT, by rw [fX8_minutes_14, if_pos (nI_le (Nat.le_refl _) (by omega))], by rw [fX9_minutes_19, if_pos (nI_le (Nat.le_refl _) (by omega))], h, fun _ _ _ => rfl, fun _ _ _ => rfl⟩
  | succ r ih =>
    intro fu fu' k m I J at' WT hk hf hf' hm h
    obtain ⟨fu, rfl, hf⟩ := zsucc hf
    obtain ⟨fu', rfl, hf'⟩ := zsucc hf'
    obtain ⟨I1, J1, at1, WT1, e1, e2, e3, e4, e5⟩ := f_minute (by omega) ha h
    obtain ⟨I2, J2, at2, WT2, g1, g2, g3, g4, g5⟩ := ih fu fu' (k + 1) (m + 1) I1 J1 at1 WT1 (by omega) (by omega) (by omega) (by omega) e3
    refine ⟨I2, J2, at2, WT2, ?_, ?_, by rw [show m + (r + 1) = m + 1 + r by omega]; exact g3, fun x y hxy => by rw [g4 x y hxy, e4 x y hxy], fun x y hxy => by rw [g5 x y hxy, e5 x y hxy]⟩
    · rw [fX8_minutes_14, if_neg (nI_ge (a := k) (b := N) (by omega) (by omega)), e1]
      simp only [Option.bind_some, nI_1]
      exact g1
    · rw [fX9_minutes_19, if_neg (nI_ge (a := k) (b := N) (by omega) (by omega)), e2]
      simp only [Option.bind_some, nI_1]
      exact g2
/-- minutes -/
theorem q_minutes {I : zPI} {hh n m a cnt : Nat} {A U : Nat → Nat} {at' WT w : Nat} {M P F : Nat → Nat} (ha : a = 24 ∨ a = 33) (hm : m < 700000) (h : rM I I hh n m a cnt A U at' WT w M P F) (x : Int32) :
    ∃ v I1 I2 m2 at2 WT2, fX8_minutes a I x = some (v, I1) ∧ fX9_minutes I1 x = some (v, I2) ∧ m2 ≤ m + 120 ∧ rM I2 I2 hh n m2 a cnt A U at2 WT2 w M P F ∧ (∀ p y, ¬ (p ≤ 9 ∨ p = 23 ∨ (42 ≤ p ∧ p ≤ 47) ∨ (p = 48 ∧ (y = 0 ∨ (28 ≤ y ∧ y ≤ 46))) ∨ (58 ≤ p ∧ p ≤ 66) ∨ p = 70) → I2 p y = I p y) := by
  have e120 : (120 : Int32).toInt = 120 := by decide
  have fz : ∀ (J : zPI) p y, ¬ (p = 48 ∧ y = 0) → zu J 48 0 0 p y = J p y := fun J p y hxy => by
    by_cases h7 : p = 48
    · exact zu_col (by omega)
    · exact zu_row h7
  unfold fX8_minutes fX9_minutes
  by_cases h0 : x < 0
  · exact ⟨-1, I, zu I 48 0 0, m, at', WT, by rw [if_pos h0], by rw [if_pos h0], by omega, rM_cong ha h (fun p y _ _ _ => fz I p y (by omega)) (fun p y _ => fz I p y (by omega)), fun p y hxy => fz I p y (by omega)⟩
  by_cases h1 : x ≤ 120
  · have h0' := h0
    have h1' := h1
    rw [zlt_i, zi_n0] at h0'
    rw [zle_i] at h1'
    obtain ⟨N, hN, rfl⟩ := zsmall (x := x) (n := 121) (by omega) (by omega)
    obtain ⟨I1, -, -, -, a1, -, a3, a4, -⟩ := f_mins (K := fun I => some (I 0 12, I)) (K' := fun I => some (I 48 29, I)) (N := N) ha (by omega) N zF zF 0 m I I at' WT (by omega) (zF_lt (by omega)) (zF_lt (by omega)) (by omega) h
    have hJ : rM I (zu I1 48 0 0) hh n m a cnt A U at' WT w M P F := rM_cong ha h (fun _ _ _ _ _ => rfl) (fun p y hxy => by rw [fz _ _ _ (by omega), a4 p y (by omega)])
    obtain ⟨I1', I2, at2, WT2, b1, b2, b3, b4, b5⟩ := f_mins (K := fun I => some (I 0 12, I)) (K' := fun I => some (I 48 29, I)) (N := N) ha (by omega) N zF zF 0 m I (zu I1 48 0 0) at' WT (by omega) (zF_lt (by omega)) (zF_lt (by omega)) (by omega) hJ
    have e11 : I1' = I1 := by
      have := b1.symm.trans a1
      exact (Prod.mk.inj (Option.some.inj this)).2
    subst e11
    refine ⟨nI (m + N), I1', I2, m + N, at2, WT2, ?_, ?_, by omega, ?_, ?_⟩
    · rw [if_neg h0, if_pos h1]
      refine a1.trans ?_
      rw [b3.2.2.2.2.2.2.2.2.2.1.1]
    · rw [if_neg h0, if_pos h1]
      refine b2.trans ?_
      rw [b3.2.2.2.2.2.2.2.2.2.1.2]
    · exact rM_cong ha b3 (fun p y q1 q2 q3 => by rw [b5 p y (by omega), fz _ _ _ (by omega)]) (fun _ _ _ => rfl)
    · intro p y hxy
      rw [b5 p y (by omega), fz _ _ _ (by omega), a4 p y (by omega)]
  · exact ⟨-1, I, zu I 48 0 0, m, at', WT, by rw [if_neg h0, if_neg h1], by rw [if_neg h0, if_neg h1], by omega, rM_cong ha h (fun p y _ _ _ => fz I p y (by omega)) (fun p y _ => fz I p y (by omega)), fun p y hxy => fz I p y (by omega)⟩
