/-! sail, rope, hand, look -/
theorem zu48_rW {I : zPI} {n : Nat} {eb : Nat → Nat} (h : rW I I n eb) (t : Int32) : rW I (zu I 48 0 t) n eb := rW_cong h rfl (zu_col (by decide)) (fun _ _ _ => rfl) (fun x hx b => zu_row (by omega))
theorem q_sail {I : zPI} {n : Nat} {eb : Nat → Nat} (hW : rW I I n eb) (hG : rG I I) (x y : Int32) : ∃ v, fX8_sail I x y = some v ∧ fX9_sail I x y = some (v, zu I 48 0 0) := by
  have e8 : (8 : Int32).toInt = 8 := by decide
  have e9 : (9 : Int32).toInt = 9 := by decide
  have e1 : (1 : Int32).toInt = 1 := by decide
  unfold fX8_sail fX9_sail
  by_cases h0 : x < 0
  · exact ⟨-1, by rw [if_pos h0], by rw [if_pos h0]⟩
  by_cases h1 : x < 9
  · have h1' : ¬ 8 < x := by rw [zlt_i]; rw [zlt_i] at h1; omega
    rw [if_neg h0, if_pos h1, if_neg h0, if_neg h1']
    rw [zlt_i, zi_n0] at h0
    rw [zlt_i] at h1
    obtain ⟨s, hs, rfl⟩ := zsmall (x := x) (n := 9) (by omega) (by omega)
    by_cases h2 : y = 0
    · subst h2
      refine ⟨I 2 s, ?_, ?_⟩
      · rw [if_pos rfl, zif_t (zin_nI (by omega) (by omega)), nI_clamp (by omega)]
      · rw [if_neg (by decide), if_pos (by decide), if_pos rfl, zif_t (zin_nI (by omega) (by omega)), nI_clamp (by omega), zu_row (by decide), (hG.1 s hs).1]
    by_cases h3 : y = 1
    · subst h3
      have hW0 := zu48_rW hW 0
      have hss := rW_sail hW hs
      obtain ⟨r0, e0, -, f0⟩ := f_under (zu I 48 0 0) (nI 0) (nI s)
      obtain ⟨r1, e1', -, f1⟩ := f_under (zu I 48 0 0) (nI 1) (nI s)
      have g0 := f0.trans (rW_under hW0 (w := 0) (a := s) (by omega) (by omega))
      have g1 := f1.trans (rW_under hW0 (w := 1) (a := s) (by omega) (by omega))
      have eR : (if (1 : Int32) < 0 then some ((-1), zu I 48 0 0) else (if (1 : Int32) ≤ 1 then (if (1 : Int32) = 0 then (if zin (nI s) 9 then some ((zu I 48 0 0) 58 (nI s).toNatClampNeg, zu I 48 0 0) else none) else (fX9_isUnder (zu I 48 0 0) 0 (nI s)).bind (fun q1 => (if q1 = 0 then (fX9_isUnder (zu I 48 0 0) 1 (nI s)).bind (fun q3 => (if q3 = 0 then some (0, zu I 48 0 0) else some (1, zu I 48 0 0))) else some (1, zu I 48 0 0)))) else some ((-1), zu I 48 0 0))) = if r0 = 0 then (if r1 = 0 then some (0, zu I 48 0 0) else some (1, zu I 48 0 0)) else some (1, zu I 48 0 0) := by
        rw [if_neg (by decide), if_pos (by decide), if_neg (by decide), show fX9_isUnder (zu I 48 0 0) 0 (nI s) = some r0 from e0]
        simp only [Option.bind_some]
        rw [show fX9_isUnder (zu I 48 0 0) 1 (nI s) = some r1 from e1']
        rfl
      rw [eR, if_neg (by decide), if_pos rfl, zif_t (zin_nI (by omega) (by omega)), nI_clamp (by omega)]
      by_cases c : I 6 s = -1
      · have q0 : r0 = 0 := Classical.byContradiction (fun h9 => by
          obtain ⟨f, a1, a2, a3⟩ := g0.mp h9
          exact hss.mpr ⟨f, a1, Or.inl a2, a3⟩ c)
        have q1 : r1 = 0 := Classical.byContradiction (fun h9 => by
          obtain ⟨f, a1, a2, a3⟩ := g1.mp h9
          exact hss.mpr ⟨f, a1, Or.inr a2, a3⟩ c)
        exact ⟨0, by rw [if_pos c], by rw [if_pos q0, if_pos q1]⟩
      · refine ⟨1, by rw [if_neg c], ?_⟩
        obtain ⟨f, a1, a2, a3⟩ := hss.mp c
        by_cases q0 : r0 = 0
        · rw [if_pos q0]
          by_cases q1 : r1 = 0
          · rcases a2 with a2 | a2
            · exact absurd q0 (g0.mpr ⟨f, a1, a2, a3⟩)
            · exact absurd q1 (g1.mpr ⟨f, a1, a2, a3⟩)
          · rw [if_neg q1]
        · rw [if_neg q0]
    · refine ⟨-1, by rw [if_neg h2, if_neg h3], ?_⟩
      by_cases h4 : y < 0
      · rw [if_pos h4]
      · rw [if_neg h4, if_neg]
        intro h5
        rw [zlt_i, zi_n0] at h4
        rw [zle_i, e1] at h5
        obtain ⟨k, hk, rfl⟩ := zsmall (x := y) (n := 2) (by omega) (by omega)
        have : k = 0 ∨ k = 1 := by omega
        rcases this with rfl | rfl
        · exact h2 rfl
        · exact h3 rfl
  · have h1' : 8 < x := by rw [zlt_i]; rw [zlt_i] at h1; omega
    exact ⟨-1, by rw [if_neg h0, if_neg h1], by rw [if_neg h0, if_pos h1']⟩
theorem q_rope {I : zPI} {n : Nat} {eb : Nat → Nat} (hW : rW I I n eb) (hG : rG I I) (x y : Int32) : ∃ v, fX8_rope I x y = some v ∧ fX9_rope I x y = some (v, zu I 48 0 0) := by
  have e17 : (17 : Int32).toInt = 17 := by decide
  have e18 : (18 : Int32).toInt = 18 := by decide
  have e2 : (2 : Int32).toInt = 2 := by decide
  unfold fX8_rope fX9_rope
  by_cases h0 : x < 0
  · exact ⟨-1, by rw [if_pos h0], by rw [if_pos h0]⟩
  by_cases h1 : x < 18
  · have h1' : ¬ 17 < x := by rw [zlt_i]; rw [zlt_i] at h1; omega
    rw [if_neg h0, if_pos h1, if_neg h0, if_neg h1']
    rw [zlt_i, zi_n0] at h0
    rw [zlt_i] at h1
    obtain ⟨s, hs, rfl⟩ := zsmall (x := x) (n := 18) (by omega) (by omega)
    by_cases h2 : y = 0
    · subst h2
      refine ⟨I 3 s, ?_, ?_⟩
      · rw [if_pos rfl, zif_t (zin_nI (by omega) (by omega)), nI_clamp (by omega)]
      · rw [if_neg (by decide), if_pos (by decide), if_pos rfl, zif_t (zin_nI (by omega) (by omega)), nI_clamp (by omega), zu_row (by decide), (hG.2.1 s hs).1.1]
    by_cases h3 : y = 1
    · subst h3
      refine ⟨I 4 s, ?_, ?_⟩
      · rw [if_neg (by decide), if_pos rfl, zif_t (zin_nI (by omega) (by omega)), nI_clamp (by omega)]
      · rw [if_neg (by decide), if_pos (by decide), if_neg (by decide), if_pos rfl, zif_t (zin_nI (by omega) (by omega)), nI_clamp (by omega), zu_row (by decide), (hG.2.1 s hs).2.1]
    by_cases h4 : y = 2
    · subst h4
      have hW0 := zu48_rW hW 0
      have hss := rW_rope hW hs
      obtain ⟨r0, e0, -, f0⟩ := f_under (zu I 48 0 0) (nI 3) (nI s)
      have g0 := f0.trans (rW_under hW0 (w := 3) (a := s) (by omega) (by omega))
      have eR : (if (2 : Int32) < 0 then some ((-1), zu I 48 0 0) else (if (2 : Int32) ≤ 2 then (if (2 : Int32) = 0 then (if zin (nI s) 18 then some ((zu I 48 0 0) 59 (nI s).toNatClampNeg, zu I 48 0 0) else none) else (if (2 : Int32) = 1 then (if zin (nI s) 18 then some ((zu I 48 0 0) 60 (nI s).toNatClampNeg, zu I 48 0 0) else none) else (fX9_isUnder (zu I 48 0 0) 3 (nI s)).bind (fun q1 => (if q1 = 0 then some (0, zu I 48 0 0) else some (1, zu I 48 0 0))))) else some ((-1), zu I 48 0 0))) = if r0 = 0 then some (0, zu I 48 0 0) else some (1, zu I 48 0 0) := by
        rw [if_neg (by decide), if_pos (by decide), if_neg (by decide), if_neg (by decide), show fX9_isUnder (zu I 48 0 0) 3 (nI s) = some r0 from e0]
        rfl
      rw [eR, if_neg (by decide), if_neg (by decide), if_pos rfl, zif_t (zin_nI (by omega) (by omega)), nI_clamp (by omega)]
      by_cases c : I 7 s = -1
      · have q0 : r0 = 0 := Classical.byContradiction (fun h9 => hss.mpr (g0.mp h9) c)
        exact ⟨0, by rw [if_pos c], by rw [if_pos q0]⟩
      · exact ⟨1, by rw [if_neg c], by rw [if_neg (g0.mpr (hss.mp c))]⟩
    · refine ⟨-1, by rw [if_neg h2, if_neg h3, if_neg h4], ?_⟩
      by_cases h5 : y < 0
      · rw [if_pos h5]
      · rw [if_neg h5, if_neg]
        intro h6
        rw [zlt_i, zi_n0] at h5
        rw [zle_i, e2] at h6
        obtain ⟨k, hk, rfl⟩ := zsmall (x := y) (n := 3) (by omega) (by omega)
        have : k = 0 ∨ k = 1 ∨ k = 2 := by omega
        rcases this with rfl | rfl | rfl
        · exact h2 rfl
        · exact h3 rfl
        · exact h4 rfl
  · have h1' : 17 < x := by rw [zlt_i]; rw [zlt_i] at h1; omega
    exact ⟨-1, by rw [if_neg h0, if_neg h1], by rw [if_neg h0, if_pos h1']⟩
/-- hand: it answers, or it is thrown, on both sides -/
theorem q_hand {I : zPI} {n : Nat} {eb : Nat → Nat} (hW : rW I I n eb) (hd : I 42 6 = I 48 28) (x y : Int32) : ∃ (r : Option Int32) (v t : Int32), fX8_hand I x y = some r ∧ fX9_hand I x y = some (v, zu I 48 0 t) ∧ ((r = none ∧ t = 1) ∨ (r = some v ∧ t = 0)) := by
  have hn := hW.1.2.1
  have e2 : (2 : Int32).toInt = 2 := by decide
  have thr : ∀ v1 v2 : Int32, fX9_hand_26 v1 v2 I = some (0, zu I 48 0 1) := by
    intro v1 v2
    rw [fX9_hand_26, fX9_hand_27, zu_same, if_neg (by decide)]
  unfold fX8_hand fX9_hand
  rw [hW.1.2.2.1, hW.1.2.2.2]
  by_cases h0 : x < 0
  · exact ⟨none, 0, 1, by rw [if_pos h0], by rw [if_pos h0]; exact thr x y, Or.inl ⟨rfl, rfl⟩⟩
  by_cases h1 : x < nI n
  · have h1' : ¬ nI n ≤ x := by rw [zle_i]; rw [zlt_i] at h1; omega
    rw [if_neg h0, if_pos h1, if_neg h0, if_neg h1']
    rw [zlt_i, zi_n0] at h0
    rw [zlt_i, nI_toInt (by omega)] at h1
    obtain ⟨k, hk, rfl⟩ := zsmall (x := x) (n := n) (by omega) (by omega)
    have hz : zin (nI k) 24 = true := zin_nI (by omega) (by omega)
    have cl : (nI k).toNatClampNeg = k := nI_clamp (by omega)
    have r62 : zu I 48 0 0 62 k = I 62 k := zu_row (by decide)
    by_cases h2 : y = 0
    · subst h2
      have eR : (if (0 : Int32) < 0 then fX9_hand_26 (nI k) 0 I else (if 2 < (0 : Int32) then fX9_hand_26 (nI k) 0 I else fX9_hand_27 (nI k) 0 0 I)) = if 0 ≤ I 62 k then some (1, zu I 48 0 0) else some (0, zu I 48 0 0) := by
        rw [if_neg (by decide), if_neg (by decide), fX9_hand_27, zu_same, if_pos (by decide), if_pos rfl, zif_t hz, cl, r62]
      rw [eR, if_pos rfl, fX1_isFree, zif_t hz, cl]
      have hne := rW_neg hW hk
      by_cases c : I 47 k = -1
      · exact ⟨some 0, 0, 0, by rw [if_pos c]; rfl, by rw [if_neg (hne.mpr c)], Or.inr ⟨rfl, rfl⟩⟩
      · exact ⟨some 1, 1, 0, by rw [if_neg c]; rfl, by rw [if_pos (Classical.byContradiction (fun h9 => c (hne.mp h9)))], Or.inr ⟨rfl, rfl⟩⟩
    by_cases h3 : y = 1
    · subst h3
      have eR : (if (1 : Int32) < 0 then fX9_hand_26 (nI k) 1 I else (if 2 < (1 : Int32) then fX9_hand_26 (nI k) 1 I else fX9_hand_27 (nI k) 1 0 I)) = if 0 ≤ I 62 k then (if zin (I 62 k) 24 then some (zu I 48 0 0 66 (I 62 k).toNatClampNeg, zu I 48 0 0) else none) else some (0, zu I 48 0 0) := by
        rw [if_neg (by decide), if_neg (by decide), fX9_hand_27, zu_same, if_pos (by decide), if_neg (by decide), if_pos rfl]
        simp only [hz, if_true]
        rw [cl, r62]
      rw [eR, if_neg (by decide), if_pos rfl, fX1_endOf]
      simp only [hz, if_true]
      rw [cl]
      rcases hW.2.1 k hk with ⟨a1, a2⟩ | ⟨f, j, a1, a2, a3, a4, a5, a6⟩
      · rw [a1, a2, if_pos rfl, if_neg (by decide)]
        exact ⟨some 0, 0, 0, rfl, rfl, Or.inr ⟨rfl, rfl⟩⟩
      · obtain ⟨j', jb, th, am, e, b1, b2, b3, b4, b5, b6, b7, b8, b9, b10, b11, b12, b13, -⟩ := hW.2.2.2.1 f ⟨by omega, a5⟩
        have hjj : j' = j := nI_inj (by omega) (by omega) (b2.symm.trans a6)
        subst hjj
        rw [a3, a4, if_neg (nI_m1 (by omega)), if_pos (nI_pos' (by omega)), zif_t (zin_nI (by omega) (by omega)), zif_t (zin_nI (by omega) (by omega)), nI_clamp (by omega), nI_clamp (by omega), zu_row (by decide), b12, b13]
        exact ⟨some (nI e), nI e, 0, rfl, rfl, Or.inr ⟨rfl, rfl⟩⟩
    by_cases h4 : y = 2
    · subst h4
      have hdk : fX9_isOnDeck (zu I 48 0 0) (nI k) = fX1_isOnDeck I (nI k) := deck_eq (I := I) (J := zu I 48 0 0) (by rw [zu_col (by decide)]; exact hd) (nI k)
      have eR : (if (2 : Int32) < 0 then fX9_hand_26 (nI k) 2 I else (if 2 < (2 : Int32) then fX9_hand_26 (nI k) 2 I else fX9_hand_27 (nI k) 2 0 I)) = if fX1_isOnDeck I (nI k) = 0 then some (0, zu I 48 0 0) else some (1, zu I 48 0 0) := by
        rw [if_neg (by decide), if_neg (by decide), fX9_hand_27, zu_same, if_pos (by decide), if_neg (by decide), if_neg (by decide), hdk]
      rw [eR, if_neg (by decide), if_neg (by decide), if_pos rfl]
      by_cases c : fX1_isOnDeck I (nI k) = 0
      · exact ⟨some 0, 0, 0, by rw [if_pos c], by rw [if_pos c], Or.inr ⟨rfl, rfl⟩⟩
      · exact ⟨some 1, 1, 0, by rw [if_neg c], by rw [if_neg c], Or.inr ⟨rfl, rfl⟩⟩
    · rw [if_neg h2, if_neg h3, if_neg h4]
      refine ⟨none, 0, 1, rfl, ?_, Or.inl ⟨rfl, rfl⟩⟩
      by_cases h5 : y < 0
      · rw [if_pos h5]; exact thr _ _
      · rw [if_neg h5, if_pos]
        · exact thr _ _
        · rw [zlt_i, e2]
          rw [zlt_i, zi_n0] at h5
          refine Classical.byContradiction (fun h6 => ?_)
          obtain ⟨j, hj, rfl⟩ := zsmall (x := y) (n := 3) (by omega) (by omega)
          have : j = 0 ∨ j = 1 ∨ j = 2 := by omega
          rcases this with rfl | rfl | rfl
          · exact h2 rfl
          · exact h3 rfl
          · exact h4 rfl
  · have h1' : nI n ≤ x := by rw [zle_i]; rw [zlt_i] at h1; omega
    exact ⟨none, 0, 1, by rw [if_neg h0, if_neg h1], by rw [if_neg h0, if_pos h1']; exact thr x y, Or.inl ⟨rfl, rfl⟩⟩
theorem zE_if {c : Prop} {d : Decidable c} {A B : Option (Int32 × zPI)} {J : zPI} (h1 : ∃ v, A = some (v, J)) (h2 : ∃ v, B = some (v, J)) : ∃ v, (if c then A else B) = some (v, J) := by
  by_cases h : c
  · rw [if_pos h]; exact h1
  · rw [if_neg h]; exact h2
/-- look: the reference answers (what, is another matter) -/
theorem q_look {I : zPI} {m w hd pc : Nat} {M P F : Nat → Nat} (hR : zWR I w M P F) (hm : m < 1000000) (h29 : I 48 29 = nI m) (h13 : I 48 13 = nI hd) (hd2 : hd < 2) (h37 : I 48 37 = nI pc) (hpc : pc < 4400) (x : Int32) : ∃ v', fX9_look I x = some (v', zu I 48 0 0) := by
  have hR0 : zWR (zu I 48 0 0) w M P F := zWR_cong hR (zu_col (by decide)) (fun a ha b => zu_row (by omega))
  have fp := wi_point (m := m) (by omega) hR0 (by rw [zu_col (by decide)]; exact h29)
  have ff := wi_force (m := m) (by omega) hR0 (by rw [zu_col (by decide)]; exact h29)
  have e0 := f_look9 (K := fun v1 v2 I => (if v1 = 0 then some (I 48 29, I) else if v1 = 1 then some (I 48 30, I) else if v1 = 2 then some (I 48 31, I) else if v1 = 3 then some (I 48 32, I) else if v1 = 4 then some (I 48 33, I) else if v1 = 5 then some (I 48 34, I) else if v1 = 6 then some (I 48 28, I) else if v1 = 7 then some (v2, I) else if v1 = 8 then some (I 48 35, I) else if v1 = 9 then some (I 48 36, I) else if v1 = 10 then (if zin (I 48 13) 2 then some (I 57 (I 48 13).toNatClampNeg, I) else none) else if v1 = 11 then (if zin (I 48 37) 4400 then (if (I 54 (I 48 37).toNatClampNeg) = 0 then (if (I 48 29) < (I 48 38) then some (0, I) else some (1, I)) else some (0, I)) else none) else if v1 = 12 then some (I 48 2, I) else if v1 = 13 then (if (I 48 29) = 0 then (fX9_point I).bind (fun q22 => some (q22, I)) else some (I 48 43, I)) else if v1 = 14 then (if (I 48 29) = 0 then (fX9_force I).bind (fun q26 => some (q26, I)) else some (I 48 44, I)) else some ((-1), I))) (v1 := x) (I := zu I 48 0 0) 24 zF 0 (by omega) (zF_lt (by omega))
  unfold fX9_look
  suffices hh : ∃ v', (fun v1 v2 (I : zPI) => (if v1 = 0 then some (I 48 29, I) else if v1 = 1 then some (I 48 30, I) else if v1 = 2 then some (I 48 31, I) else if v1 = 3 then some (I 48 32, I) else if v1 = 4 then some (I 48 33, I) else if v1 = 5 then some (I 48 34, I) else if v1 = 6 then some (I 48 28, I) else if v1 = 7 then some (v2, I) else if v1 = 8 then some (I 48 35, I) else if v1 = 9 then some (I 48 36, I) else if v1 = 10 then (if zin (I 48 13) 2 then some (I 57 (I 48 13).toNatClampNeg, I) else none) else if v1 = 11 then (if zin (I 48 37) 4400 then (if (I 54 (I 48 37).toNatClampNeg) = 0 then (if (I 48 29) < (I 48 38) then some (0, I) else some (1, I)) else some (0, I)) else none) else if v1 = 12 then some (I 48 2, I) else if v1 = 13 then (if (I 48 29) = 0 then (fX9_point I).bind (fun q22 => some (q22, I)) else some (I 48 43, I)) else if v1 = 14 then (if (I 48 29) = 0 then (fX9_force I).bind (fun q26 => some (q26, I)) else some (I 48 44, I)) else some (((-1) : Int32), I))) x (nI (zcnt (zbusy (zu I 48 0 0)) 24)) (zu I 48 0 0) = some (v', zu I 48 0 0) by
    obtain ⟨v', hv⟩ := hh
    exact ⟨v', e0.trans hv⟩
  dsimp only
  have z13 : zin (zu I 48 0 0 48 13) 2 = true := zin_x (k := hd) (by rw [zu_col (by decide)]; exact h13) hd2 (by omega)
  have z37 : zin (zu I 48 0 0 48 37) 4400 = true := zin_x (k := pc) (by rw [zu_col (by decide)]; exact h37) hpc (by omega)
  rw [fp, ff]
  simp only [z13, z37, if_true, Option.bind_some]
  repeat' (first | exact ⟨_, rfl⟩ | refine zE_if ?_ ?_)
