/-! beginWork and begins -/
theorem rW_neg {I J : zPI} {n : Nat} {eb : Nat → Nat} (h : rW I J n eb) {x : Nat} (hx : x < n) : (¬ 0 ≤ J 62 x) ↔ I 47 x = -1 := by
  have hn := h.1.2.1
  rcases h.2.1 x hx with ⟨a1, a2⟩ | ⟨f, k, a1, a2, a3, a4, -⟩
  · rw [a1, a2]
    exact ⟨fun _ => rfl, fun _ => by decide⟩
  · rw [a3, a4]
    exact ⟨fun h9 => absurd (nI_pos' (by omega)) h9, fun h9 => absurd h9 (nI_m1 (by omega))⟩
theorem deck_eq {I J : zPI} (h : I 42 6 = J 48 28) (x : Int32) : fX9_isOnDeck J x = fX1_isOnDeck I x := by
  unfold fX9_isOnDeck fX1_isOnDeck
  rw [h]
  by_cases h1 : J 48 28 = 2
  · rw [if_pos h1, if_pos h1]
  · rw [if_neg h1, if_neg h1]
    by_cases h2 : zrm x 2 = J 48 28
    · rw [if_pos h2, if_pos h2.symm]
    · rw [if_neg h2, if_neg (fun h9 => h2 h9.symm)]
theorem rdy_eq {I J : zPI} {n : Nat} {eb : Nat → Nat} (h : rW I J n eb) (hd : I 42 6 = J 48 28) : ∀ x, x < n → rdyR J x = rdy I x := by
  intro x hx
  unfold rdyR rdy
  rw [deck_eq hd]
  have := rW_neg h hx
  by_cases c : I 47 x = -1
  · have c2 := this.mpr c
    simp [c, c2]
  · have c2 : 0 ≤ J 62 x := Classical.byContradiction (fun h9 => c (this.mp h9))
    simp [c, c2]
/-- isBarred -/
theorem f_barred {I J : zPI} {n : Nat} {eb : Nat → Nat} (h : rW I J n eb) {jb th : Nat} (hj : jb < 4) (ht : th < zlim jb) : ∃ b b', fX4_isBarred I (nI jb) (nI th) = some b ∧ fX9_isBarred J (nI jb) (nI th) = some b' ∧ (b = 0 ↔ b' = 0) ∧ (b = 0 → zmk I jb th = -1 ∧ (jb = 3 → I 6 (th / 2) = -1) ∧ (jb < 2 → I 7 (2 * th) = -1 ∧ I 7 (2 * th + 1) = -1)) := by
  have und : ∀ w a : Nat, w < 4 → a < 100 → ∃ r, fX9_isUnder J (nI w) (nI a) = some r ∧ (r ≠ 0 ↔ ∃ f, Lr I n f ∧ I 43 f = nI w ∧ I 44 f = nI a) := by
    intro w a hw ha
    obtain ⟨r, e, -, f2⟩ := f_under J (nI w) (nI a)
    exact ⟨r, e, f2.trans (rW_under h hw ha)⟩
  have hcase : jb = 2 ∨ jb = 3 ∨ jb < 2 := by omega
  rcases hcase with rfl | rfl | hjb
  · have ht : th < 3 := ht
    obtain ⟨r, e, f2⟩ := und 2 th (by omega) (by omega)
    have hy := rW_yard h ht
    have e9 : fX9_isBarred J (nI 2) (nI th) = some r := by
      rw [fX9_isBarred, show nI 2 = (2 : Int32) from rfl, if_pos rfl, show (2 : Int32) = nI 2 from rfl, e]
      rfl
    by_cases c : I 8 th = -1
    · refine ⟨0, r, ?_, e9, ⟨fun _ => ?_, fun _ => rfl⟩, fun _ => ⟨by rw [zmk, if_pos rfl]; exact c, fun h9 => by omega, fun h9 => by omega⟩⟩
      · rw [fX4_isBarred, show nI 2 = (2 : Int32) from rfl, if_pos rfl, zif_t (zin_nI ht (by omega)), nI_clamp (by omega), if_pos c]
      · refine Classical.byContradiction (fun h9 => ?_)
        exact hy.mpr (f2.mp h9) c
    · refine ⟨1, r, ?_, e9, ⟨fun h9 => absurd h9 (by decide), fun h9 => absurd h9 ?_⟩, fun h9 => absurd h9 (by decide)⟩
      · rw [fX4_isBarred, show nI 2 = (2 : Int32) from rfl, if_pos rfl, zif_t (zin_nI ht (by omega)), nI_clamp (by omega), if_neg c]
      · exact f2.mpr (hy.mp c)
  · have ht : th < 18 := ht
    obtain ⟨r, e, f2⟩ := und 3 th (by omega) (by omega)
    obtain ⟨r0, e0, f0⟩ := und 0 (th / 2) (by omega) (by omega)
    obtain ⟨r1, e1, f1⟩ := und 1 (th / 2) (by omega) (by omega)
    have hy := rW_rope h ht
    have hs := rW_sail h (s := th / 2) (by omega)
    have eC : fX4_isBarred I (nI 3) (nI th) = some (if I 7 th = -1 then (if I 6 (th / 2) = -1 then 0 else 1) else 1) := by
      rw [fX4_isBarred, show nI 3 = (3 : Int32) from rfl, if_neg (by decide), if_pos rfl, zif_t (zin_nI ht (by omega)), nI_clamp (by omega), half_r (by omega)]
      by_cases c : I 7 th = -1
      · rw [if_pos c, if_pos c, zif_t (zin_nI (by omega) (by omega)), nI_clamp (by omega)]
        by_cases c2 : I 6 (th / 2) = -1
        · rw [if_pos c2, if_pos c2]
        · rw [if_neg c2, if_neg c2]
      · rw [if_neg c, if_neg c]
    have eR : fX9_isBarred J (nI 3) (nI th) = some (if r = 0 then (if r0 = 0 then (if r1 = 0 then 0 else 1) else 1) else 1) := by
      rw [fX9_isBarred, show nI 3 = (3 : Int32) from rfl, if_neg (by decide), if_pos rfl, half_r (by omega), show (3 : Int32) = nI 3 from rfl, e, show (0 : Int32) = nI 0 from rfl, e0, show (1 : Int32) = nI 1 from rfl, e1]
      simp only [Option.bind_some, show nI 0 = (0 : Int32) from rfl, show nI 1 = (1 : Int32) from rfl]
      by_cases c : r = 0
      · rw [if_pos c, if_pos c]
        by_cases c2 : r0 = 0
        · rw [if_pos c2, if_pos c2]
          by_cases c3 : r1 = 0
          · rw [if_pos c3, if_pos c3]
          · rw [if_neg c3, if_neg c3]
        · rw [if_neg c2, if_neg c2]
      · rw [if_neg c, if_neg c]
    refine ⟨_, _, eC, eR, ?_, ?_⟩
    · have k1 : I 7 th = -1 ↔ r = 0 := by
        constructor
        · intro h9
          exact Classical.byContradiction (fun h8 => hy.mpr (f2.mp h8) h9)
        · intro h9
          exact Classical.byContradiction (fun h8 => f2.mpr (hy.mp h8) h9)
      have k2 : I 6 (th / 2) = -1 ↔ r0 = 0 ∧ r1 = 0 := by
        constructor
        · intro h9
          constructor
          · refine Classical.byContradiction (fun h8 => ?_)
            obtain ⟨f, x1, x2, x3⟩ := f0.mp h8
            exact hs.mpr ⟨f, x1, Or.inl x2, x3⟩ h9
          · refine Classical.byContradiction (fun h8 => ?_)
            obtain ⟨f, x1, x2, x3⟩ := f1.mp h8
            exact hs.mpr ⟨f, x1, Or.inr x2, x3⟩ h9
        · rintro ⟨h9, h8⟩
          refine Classical.byContradiction (fun h7 => ?_)
          obtain ⟨f, x1, x2, x3⟩ := hs.mp h7
          rcases x2 with x2 | x2
          · exact f0.mpr ⟨f, x1, x2, x3⟩ h9
          · exact f1.mpr ⟨f, x1, x2, x3⟩ h8
      by_cases c : I 7 th = -1
      · have c' := k1.mp c
        by_cases c2 : I 6 (th / 2) = -1
        · obtain ⟨d1, d2⟩ := k2.mp c2
          simp [c, c2, c', d1, d2]
        · by_cases d1 : r0 = 0
          · have d2 : ¬ r1 = 0 := fun h9 => c2 (k2.mpr ⟨d1, h9⟩)
            simp [c, c2, c', d1, d2]
          · simp [c, c2, c', d1]
      · have c' : ¬ r = 0 := fun h9 => c (k1.mpr h9)
        simp [c, c']
    · intro h9
      by_cases c : I 7 th = -1
      · rw [if_pos c] at h9
        by_cases c2 : I 6 (th / 2) = -1
        · exact ⟨by rw [zmk, if_neg (by decide), if_pos rfl]; exact c, fun _ => c2, fun h8 => by omega⟩
        · rw [if_neg c2] at h9
          exact absurd h9 (by decide)
      · rw [if_neg c] at h9
        exact absurd h9 (by decide)
  · have ht : th < 9 := by
      unfold zlim at ht
      rw [if_pos hjb] at ht
      exact ht
    obtain ⟨r0, e0, f0⟩ := und 0 th (by omega) (by omega)
    obtain ⟨r1, e1, f1⟩ := und 1 th (by omega) (by omega)
    obtain ⟨r2, e2, f2⟩ := und 3 (2 * th) (by omega) (by omega)
    obtain ⟨r3, e3, f3⟩ := und 3 (2 * th + 1) (by omega) (by omega)
    have hs := rW_sail h ht
    have hy := rW_rope h (s := 2 * th) (by omega)
    have hy2 := rW_rope h (s := 2 * th + 1) (by omega)
    have j2 : ¬ nI jb = 2 := nI_ne (b := 2) (by omega) (by omega) (by omega)
    have j3 : ¬ nI jb = 3 := nI_ne (b := 3) (by omega) (by omega) (by omega)
    have eC : fX4_isBarred I (nI jb) (nI th) = some (if I 6 th = -1 then (if I 7 (2 * th) = -1 then (if I 7 (2 * th + 1) = -1 then 0 else 1) else 1) else 1) := by
      rw [fX4_isBarred, if_neg j2, if_neg j3, zif_t (zin_nI ht (by omega)), nI_clamp (by omega), two_s, nI_1]
      by_cases c : I 6 th = -1
      · rw [if_pos c, if_pos c, zif_t (zin_nI (by omega) (by omega)), nI_clamp (by omega)]
        by_cases c2 : I 7 (2 * th) = -1
        · rw [if_pos c2, if_pos c2, zif_t (zin_nI (by omega) (by omega)), nI_clamp (by omega)]
          by_cases c3 : I 7 (2 * th + 1) = -1
          · rw [if_pos c3, if_pos c3]
          · rw [if_neg c3, if_neg c3]
        · rw [if_neg c2, if_neg c2]
      · rw [if_neg c, if_neg c]
    have eR : fX9_isBarred J (nI jb) (nI th) = some (if r0 = 0 then (if r1 = 0 then (if r2 = 0 then (if r3 = 0 then 0 else 1) else 1) else 1) else 1) := by
      rw [fX9_isBarred, if_neg j2, if_neg j3, two_s, nI_1, show (0 : Int32) = nI 0 from rfl, e0, show (1 : Int32) = nI 1 from rfl, e1, show (3 : Int32) = nI 3 from rfl, e2, e3]
      simp only [Option.bind_some, show nI 0 = (0 : Int32) from rfl, show nI 1 = (1 : Int32) from rfl]
      by_cases c0 : r0 = 0
      · rw [if_pos c0, if_pos c0]
        by_cases c1 : r1 = 0
        · rw [if_pos c1, if_pos c1]
          by_cases c2 : r2 = 0
          · rw [if_pos c2, if_pos c2]
            by_cases c3 : r3 = 0
            · rw [if_pos c3, if_pos c3]
            · rw [if_neg c3, if_neg c3]
          · rw [if_neg c2, if_neg c2]
        · rw [if_neg c1, if_neg c1]
      · rw [if_neg c0, if_neg c0]
    have k1 : I 6 th = -1 ↔ r0 = 0 ∧ r1 = 0 := by
      constructor
      · intro h9
        constructor
        · refine Classical.byContradiction (fun h8 => ?_)
          obtain ⟨f, x1, x2, x3⟩ := f0.mp h8
          exact hs.mpr ⟨f, x1, Or.inl x2, x3⟩ h9
        · refine Classical.byContradiction (fun h8 => ?_)
          obtain ⟨f, x1, x2, x3⟩ := f1.mp h8
          exact hs.mpr ⟨f, x1, Or.inr x2, x3⟩ h9
      · rintro ⟨h9, h8⟩
        refine Classical.byContradiction (fun h7 => ?_)
        obtain ⟨f, x1, x2, x3⟩ := hs.mp h7
        rcases x2 with x2 | x2
        · exact f0.mpr ⟨f, x1, x2, x3⟩ h9
        · exact f1.mpr ⟨f, x1, x2, x3⟩ h8
    have k2 : I 7 (2 * th) = -1 ↔ r2 = 0 := ⟨fun h9 => Classical.byContradiction (fun h8 => hy.mpr (f2.mp h8) h9), fun h9 => Classical.byContradiction (fun h8 => f2.mpr (hy.mp h8) h9)⟩
    have k3 : I 7 (2 * th + 1) = -1 ↔ r3 = 0 := ⟨fun h9 => Classical.byContradiction (fun h8 => hy2.mpr (f3.mp h8) h9), fun h9 => Classical.byContradiction (fun h8 => f3.mpr (hy2.mp h8) h9)⟩
    refine ⟨_, _, eC, eR, ?_, ?_⟩
    · by_cases c : I 6 th = -1
      · obtain ⟨d1, d2⟩ := k1.mp c
        by_cases c2 : I 7 (2 * th) = -1
        · have d3 := k2.mp c2
          by_cases c3 : I 7 (2 * th + 1) = -1
          · have d4 := k3.mp c3
            simp [c, c2, c3, d1, d2, d3, d4]
          · have d4 : ¬ r3 = 0 := fun h9 => c3 (k3.mpr h9)
            simp [c, c2, c3, d1, d2, d3, d4]
        · have d3 : ¬ r2 = 0 := fun h9 => c2 (k2.mpr h9)
          simp [c, c2, d1, d2, d3]
      · by_cases d1 : r0 = 0
        · have d2 : ¬ r1 = 0 := fun h9 => c (k1.mpr ⟨d1, h9⟩)
          simp [c, d1, d2]
        · simp [c, d1]
    · intro h9
      by_cases c : I 6 th = -1
      · rw [if_pos c] at h9
        by_cases c2 : I 7 (2 * th) = -1
        · rw [if_pos c2] at h9
          by_cases c3 : I 7 (2 * th + 1) = -1
          · exact ⟨by rw [zmk, if_neg (by omega), if_neg (by omega)]; exact c, fun h8 => by omega, fun _ => ⟨c2, c3⟩⟩
          · rw [if_neg c3] at h9
            exact absurd h9 (by decide)
        · rw [if_neg c2] at h9
          exact absurd h9 (by decide)
      · rw [if_neg c] at h9
        exact absurd h9 (by decide)
/-- isIdle and isMeant -/
theorem f_idle {I J : zPI} (hG : rG I J) {jb th am : Nat} (hj : jb < 4) (ht : th < zlim jb) (ha : am ≤ 8) : ∃ b b', fX4_isIdle I (nI jb) (nI th) (nI am) = some b ∧ fX9_isMeant J (nI jb) (nI th) (nI am) = some b' ∧ (b = 0 ↔ ¬ b' = 0) ∧ (b = 0 → (jb = 0 → I 2 th = 0) ∧ (jb = 1 → I 2 th = 1) ∧ (jb = 2 → ∃ y, y ≤ 8 ∧ y ≠ am ∧ I 5 th = nI y ∧ J 61 th = nI y)) := by
  have hcase : jb = 0 ∨ jb = 1 ∨ jb = 2 ∨ jb = 3 := by omega
  rcases hcase with rfl | rfl | rfl | rfl
  · have ht : th < 9 := ht
    obtain ⟨g1, -⟩ := hG.1 th ht
    have g2 := (hG.2.1 (2 * th) (by omega)).1.1
    have g3 := (hG.2.1 (2 * th + 1) (by omega)).1.1
    obtain ⟨p, hp, hp2⟩ := f_parted I ht
    have z1 : zin (nI th) 9 = true := zin_nI ht (by omega)
    have z2 : zin (nI (2 * th)) 18 = true := zin_nI (by omega) (by omega)
    have z3 : zin (nI (2 * th + 1)) 18 = true := zin_nI (by omega) (by omega)
    have eC : fX4_isIdle I (nI 0) (nI th) (nI am) = some (if I 2 th = 0 then (if p = 0 then 0 else 1) else 1) := by
      rw [fX4_isIdle, show nI 0 = (0 : Int32) from rfl, if_pos rfl, zif_t z1, nI_clamp (by omega), hp]
      simp only [Option.bind_some]
      by_cases c : I 2 th = 0
      · rw [if_pos c, if_pos c]
        by_cases c2 : p = 0
        · rw [if_pos c2, if_pos c2]
        · rw [if_neg c2, if_neg c2]
      · rw [if_neg c, if_neg c]
    have eR : fX9_isMeant J (nI 0) (nI th) (nI am) = some (if I 2 th = 0 then (if I 3 (2 * th) = 2 then 0 else if I 3 (2 * th + 1) = 2 then 0 else 1) else 0) := by
      rw [fX9_isMeant, show nI 0 = (0 : Int32) from rfl, if_pos rfl, two_s, nI_1]
      simp only [z1, z2, z3, if_true]
      rw [nI_clamp (by omega), nI_clamp (by omega), nI_clamp (by omega), ← g1, ← g2, ← g3]
      by_cases c : I 2 th = 0
      · rw [if_pos c, if_pos c]
        by_cases c2 : I 3 (2 * th) = 2
        · rw [if_pos c2, if_pos c2]
        · rw [if_neg c2, if_neg c2]
          by_cases c3 : I 3 (2 * th + 1) = 2
          · rw [if_pos c3, if_pos c3]
          · rw [if_neg c3, if_neg c3]
      · rw [if_neg c, if_neg c]
    refine ⟨_, _, eC, eR, ?_, ?_⟩
    · by_cases c : I 2 th = 0
      · by_cases c2 : I 3 (2 * th) = 2
        · have : ¬ p = 0 := hp2.mpr (Or.inl c2)
          simp [c, c2, this]
        · by_cases c3 : I 3 (2 * th + 1) = 2
          · have : ¬ p = 0 := hp2.mpr (Or.inr c3)
            simp [c, c2, c3, this]
          · have : p = 0 := Classical.byContradiction (fun h9 => (hp2.mp h9).elim c2 c3)
            simp [c, c2, c3, this]
      · simp [c]
    · intro h9
      refine ⟨fun _ => ?_, fun h8 => by omega, fun h8 => by omega⟩
      refine Classical.byContradiction (fun c => ?_)
      rw [if_neg c] at h9
      exact absurd h9 (by decide)
  · have ht : th < 9 := ht
    obtain ⟨g1, -⟩ := hG.1 th ht
    by_cases c : I 2 th = 1
    · refine ⟨0, 1, ?_, ?_, ⟨fun _ => by decide, fun _ => rfl⟩, fun _ => ⟨fun h8 => by omega, fun _ => c, fun h8 => by omega⟩⟩
      · rw [fX4_isIdle, show nI 1 = (1 : Int32) from rfl, if_neg (by decide), if_pos rfl, zif_t (zin_nI ht (by omega)), nI_clamp (by omega), if_pos c]
      · rw [fX9_isMeant, show nI 1 = (1 : Int32) from rfl, if_neg (by decide), if_pos rfl, zif_t (zin_nI ht (by omega)), nI_clamp (by omega), ← g1, if_pos c]
    · refine ⟨1, 0, ?_, ?_, ⟨fun h9 => absurd h9 (by decide), fun h9 => absurd rfl h9⟩, fun h9 => absurd h9 (by decide)⟩
      · rw [fX4_isIdle, show nI 1 = (1 : Int32) from rfl, if_neg (by decide), if_pos rfl, zif_t (zin_nI ht (by omega)), nI_clamp (by omega), if_neg c]
      · rw [fX9_isMeant, show nI 1 = (1 : Int32) from rfl, if_neg (by decide), if_pos rfl, zif_t (zin_nI ht (by omega)), nI_clamp (by omega), ← g1, if_neg c]
  · have ht : th < 3 := ht
    obtain ⟨g1, y, hy, g2⟩ := hG.2.2 th ht
    by_cases c : I 5 th = nI am
    · refine ⟨1, 0, ?_, ?_, ⟨fun h9 => absurd h9 (by decide), fun h9 => absurd rfl h9⟩, fun h9 => absurd h9 (by decide)⟩
      · rw [fX4_isIdle, show nI 2 = (2 : Int32) from rfl, if_neg (by decide), if_neg (by decide), if_pos rfl, zif_t (zin_nI ht (by omega)), nI_clamp (by omega), if_pos c]
      · rw [fX9_isMeant, show nI 2 = (2 : Int32) from rfl, if_neg (by decide), if_neg (by decide), if_pos rfl, zif_t (zin_nI ht (by omega)), nI_clamp (by omega), ← g1, if_pos c]
    · refine ⟨0, 1, ?_, ?_, ⟨fun _ => by decide, fun _ => rfl⟩, fun _ => ⟨fun h8 => by omega, fun h8 => by omega, fun _ => ⟨y, hy, fun e => c (by rw [g2, e]), g2, by rw [← g1]; exact g2⟩⟩⟩
      · rw [fX4_isIdle, show nI 2 = (2 : Int32) from rfl, if_neg (by decide), if_neg (by decide), if_pos rfl, zif_t (zin_nI ht (by omega)), nI_clamp (by omega), if_neg c]
      · rw [fX9_isMeant, show nI 2 = (2 : Int32) from rfl, if_neg (by decide), if_neg (by decide), if_pos rfl, zif_t (zin_nI ht (by omega)), nI_clamp (by omega), ← g1, if_neg c]
  · have ht : th < 18 := ht
    have g1 := (hG.2.1 th ht).1.1
    by_cases c : I 3 th = 1
    · refine ⟨1, 0, ?_, ?_, ⟨fun h9 => absurd h9 (by decide), fun h9 => absurd rfl h9⟩, fun h9 => absurd h9 (by decide)⟩
      · rw [fX4_isIdle, show nI 3 = (3 : Int32) from rfl, if_neg (by decide), if_neg (by decide), if_neg (by decide), zif_t (zin_nI ht (by omega)), nI_clamp (by omega), if_pos c]
      · rw [fX9_isMeant, show nI 3 = (3 : Int32) from rfl, if_neg (by decide), if_neg (by decide), if_neg (by decide), zif_t (zin_nI ht (by omega)), nI_clamp (by omega), ← g1, if_pos c]
    · refine ⟨0, 1, ?_, ?_, ⟨fun _ => by decide, fun _ => rfl⟩, fun _ => ⟨fun h8 => by omega, fun h8 => by omega, fun h8 => by omega⟩⟩
      · rw [fX4_isIdle, show nI 3 = (3 : Int32) from rfl, if_neg (by decide), if_neg (by decide), if_neg (by decide), zif_t (zin_nI ht (by omega)), nI_clamp (by omega), if_neg c]
      · rw [fX9_isMeant, show nI 3 = (3 : Int32) from rfl, if_neg (by decide), if_neg (by decide), if_neg (by decide), zif_t (zin_nI ht (by omega)), nI_clamp (by omega), ← g1, if_neg c]
