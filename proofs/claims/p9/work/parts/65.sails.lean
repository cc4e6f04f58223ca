/-! course, draw, speed -/
theorem sa_turn : ∀ c, c < 32 → ∀ w, w < 32 → fX0_turned (nI c) (nI w) = (if nI c = nI w then nI c else if 16 < ((nI w - nI c) &&& 31) then ((nI c - 1) &&& 31) else ((nI c + 1) &&& 31)) ∧ (fX0_turned (nI c) (nI w)).toNatClampNeg < 32 ∧ nI (fX0_turned (nI c) (nI w)).toNatClampNeg = fX0_turned (nI c) (nI w) := by decide +kernel
theorem sa_apart : ∀ p, p < 32 → ∀ c, c < 32 → fX9_apart (nI p) (nI c) = fX0_apart (nI p) (nI c) ∧ (fX0_apart (nI p) (nI c)).toNatClampNeg < 17 ∧ nI (fX0_apart (nI p) (nI c)).toNatClampNeg = fX0_apart (nI p) (nI c) := by decide +kernel
theorem sa_area : ∀ s, s < 9 → zst2 (zrm (nI s) 3) = fX9_area (nI s) ∧ zin (zrm (nI s) 3) 3 = true ∧ zin (nI s / 3) 3 = true ∧ (nI s / 3).toNatClampNeg = s / 3 := by decide +kernel
theorem sa_pull : ∀ a, a < 17 → (¬ nI a < 0) ∧ nI a < 17 ∧ zin (nI a) 17 = true ∧ zst0 (nI a) = fX9_table (nI a) := by decide +kernel
theorem sa_best : ∀ a, a < 17 → fX0_best (nI a) = (if ((16 - nI a) * 8) / 10 ≤ 8 then ((16 - nI a) * 8) / 10 else 8) ∧ (fX0_best (nI a)).toNatClampNeg < 9 ∧ nI (fX0_best (nI a)).toNatClampNeg = fX0_best (nI a) := by decide +kernel
theorem sa_m : ∀ y, y < 9 → ∀ b, b < 9 → zmmax 0 (8 - (2 * (zmabs (nI y - nI b)))) = (if 0 ≤ 8 - 2 * (if nI y ≤ nI b then nI b - nI y else nI y - nI b) then 8 - 2 * (if nI y ≤ nI b then nI b - nI y else nI y - nI b) else 0) := by decide +kernel
theorem sa_dxy : ∀ c, c < 32 → zst1 ((nI c - 8) &&& 31) = fX9_dx (nI c) ∧ zst1 (nI c &&& 31) = fX9_dy (nI c) := by decide +kernel
theorem f_draw {I J : zPI} (hG : rG I J) {K : Int32 → Option Int32} {K' : Int32 → Int32 → Int32 → zPI → Option zPI} {a : Nat} {f ab be : Int32} (ha : a < 17) (hab : ab = if 5 ≤ nI a then 0 else 1) (hbe : be = fX0_best (nI a)) : ∀ (r fu fu' s : Nat) (v : Int32), s + r = 9 → r < fu → r < fu' →
    ∃ v', fX4_draw_5 I K fu (nI a) f v (nI s) = K v' ∧ fX9_sails_62 K' fu' f (nI a) ab be v (nI s) J = K' f ab v' J := by
  intro r
  induction r with
  | zero =>
    intro fu fu' s v hs hf hf'
    obtain ⟨fu, rfl, -⟩ := zsucc hf
    obtain ⟨fu', rfl, -⟩ := zsucc hf'
    have : s = 9 := by omega
    subst this
    exact ⟨v, by rw [fX4_draw_5, if_pos (show (9 : Int32) ≤ nI 9 by decide)], by rw [fX9_sails_62, if_pos (show (9 : Int32) ≤ nI 9 by decide)]⟩
  | succ r ih =>
    intro fu fu' s v hs hf hf'
    obtain ⟨fu, rfl, hf⟩ := zsucc hf
    obtain ⟨fu', rfl, hf'⟩ := zsucc hf'
    have g1 := (hG.1 s (by omega)).1
    have hz : zin (nI s) 9 = true := zin_nI (by omega) (by omega)
    rw [fX4_draw_5, if_neg (show ¬ (9 : Int32) ≤ nI s from nI_ge (a := s) (b := 9) (by omega) (by omega)), fX9_sails_62, if_neg (show ¬ (9 : Int32) ≤ nI s from nI_ge (a := s) (b := 9) (by omega) (by omega))]
    simp only [hz, if_true]
    rw [nI_clamp (by omega), nI_1, ← g1]
    by_cases c : I 2 s = 1
    · rw [if_pos c, if_pos c]
      obtain ⟨t1, t2, t3, t4⟩ := sa_area s (by omega)
      obtain ⟨p1, p2, p3, p4⟩ := sa_pull a ha
      obtain ⟨g2, y, hy, g3⟩ := hG.2.2 (s / 3) (by omega)
      obtain ⟨b1, b2, b3⟩ := sa_best a ha
      have hm := sa_m y (by omega) _ b2
      rw [b3] at hm
      simp only [t3, if_true]
      rw [t4, ← g2, g3]
      have key : ∃ d, fX4_drawOf I (nI s) (nI a) f = some d ∧ (∀ rec : Int32 → Int32 → Int32 → Int32 → Int32 → Int32 → zPI → Option zPI, (if nI y ≤ be then fX9_sails_124 rec f (nI a) ab be v (nI s) (be - nI y) J else fX9_sails_124 rec f (nI a) ab be v (nI s) (nI y - be) J) = rec f (nI a) ab be (v + d) (nI s + 1) J) := by
        subst hbe
        by_cases h5 : 5 ≤ nI a
        · have hab0 : ab = 0 := by rw [hab, if_pos h5]
          refine ⟨((((fX9_area (nI s)) * f) * (fX9_table (nI a))) * (zmmax 0 (8 - (2 * (zmabs (nI y - fX0_best (nI a))))))) / 64, ?_, ?_⟩
          · rw [fX4_drawOf, zif_t t2, fX0_isAback, if_pos h5, if_pos rfl, zif_t t3, f_pull ⟨p1, p2, p3⟩, t4, g3, t1, p4]
            rfl
          · intro rec
            rw [hm]
            unfold fX9_sails_124 fX9_sails_147
            by_cases c1 : nI y ≤ fX0_best (nI a)
            · simp only [if_pos c1, hab0, if_true]
              by_cases c2 : 0 ≤ 8 - 2 * (fX0_best (nI a) - nI y)
              · simp only [if_pos c2]
              · simp only [if_neg c2]
            · simp only [if_neg c1, hab0, if_true]
              by_cases c2 : 0 ≤ 8 - 2 * (nI y - fX0_best (nI a))
              · simp only [if_pos c2]
              · simp only [if_neg c2]
        · have hab1 : ab = 1 := by rw [hab, if_neg h5]
          refine ⟨-(((fX9_area (nI s)) * f) / 4), ?_, ?_⟩
          · rw [fX4_drawOf, zif_t t2, fX0_isAback, if_neg h5, if_neg (by decide), t1]
          · intro rec
            have n10 : ¬ (1 : Int32) = 0 := by decide
            unfold fX9_sails_124 fX9_sails_147
            simp only [hab1, if_neg n10]
            by_cases c1 : nI y ≤ fX0_best (nI a)
            · rw [if_pos c1]
              by_cases c2 : 0 ≤ 8 - 2 * (fX0_best (nI a) - nI y)
              · rw [if_pos c2]
              · rw [if_neg c2]
            · rw [if_neg c1]
              by_cases c2 : 0 ≤ 8 - 2 * (nI y - fX0_best (nI a))
              · rw [if_pos c2]
              · rw [if_neg c2]
      obtain ⟨d, k1, k2⟩ := key
      rw [k1, k2]
      simp only [Option.bind_some, nI_1]
      exact ih fu fu' (s + 1) (v + d) (by omega) (by omega) (by omega)
    · rw [if_neg c, if_neg c]
      exact ih fu fu' (s + 1) v (by omega) (by omega) (by omega)
/-- the target of the speed -/
def stgt (d : Int32) : Int32 := if d / 20 ≤ 14 then (if -3 ≤ d / 20 then d / 20 else -3) else 14
theorem stgt_c (d : Int32) : zmmax (-3) (zmmin 14 (d / 20)) = stgt d ∧ -3 ≤ (stgt d).toInt ∧ (stgt d).toInt ≤ 14 := by
  have e14 : (14 : Int32).toInt = 14 := by decide
  have e3 : (-3 : Int32).toInt = -3 := by decide
  unfold stgt zmmax zmmin
  generalize d / 20 = x
  by_cases c1 : x ≤ 14
  · rw [if_pos c1]
    have h1 := c1
    rw [zle_i, e14] at h1
    by_cases c2 : -3 ≤ x
    · rw [if_pos c2]
      have h2 := c2
      rw [zle_i, e3] at h2
      refine ⟨?_, by omega, by omega⟩
      by_cases c3 : x < 14
      · rw [if_pos c3]
        by_cases c4 : -3 < x
        · rw [if_pos c4]
        · rw [if_neg c4]
          rw [zlt_i, e3] at c4
          rw [zeq_i, e3]
          omega
      · rw [if_neg c3, if_pos (by decide)]
        rw [zlt_i, e14] at c3
        rw [zeq_i, e14]
        omega
    · rw [if_neg c2]
      have h2 := c2
      rw [zle_i, e3] at h2
      refine ⟨?_, by omega, by omega⟩
      rw [if_pos (show x < 14 by rw [zlt_i, e14]; omega), if_neg (show ¬ -3 < x by rw [zlt_i, e3]; omega)]
  · rw [if_neg c1]
    have h1 := c1
    rw [zle_i, e14] at h1
    refine ⟨?_, by omega, by omega⟩
    rw [if_neg (show ¬ x < 14 by rw [zlt_i, e14]; omega), if_pos (show (-3 : Int32) < 14 by decide)]
def snew (v t : Int32) : Int32 := if t ≤ v then (if v ≤ t then v else v - 1) else v + 1
theorem snew_b {v t : Int32} (v1 : -3 ≤ v.toInt) (v2 : v.toInt ≤ 14) (t1 : -3 ≤ t.toInt) (t2 : t.toInt ≤ 14) : -3 ≤ (snew v t).toInt ∧ (snew v t).toInt ≤ 14 := by
  have e1 : (1 : Int32).toInt = 1 := by decide
  unfold snew
  by_cases c1 : t ≤ v
  · rw [if_pos c1]
    by_cases c2 : v ≤ t
    · rw [if_pos c2]
      exact ⟨v1, v2⟩
    · rw [if_neg c2]
      rw [zle_i] at c1 c2
      rw [zsub_i (by omega) (by omega)]
      omega
  · rw [if_neg c1]
    rw [zle_i] at c1
    rw [zadd_i (by omega) (by omega)]
    omega
theorem f_chs (I : zPI) (d : Int32) : ∃ I', fX8_changeSpeed I d = I' ∧ I' 0 15 = snew (I 0 15) (stgt d) ∧ (∀ a b, ¬ (a = 0 ∧ b = 15) → I' a b = I a b) := by
  refine ⟨_, rfl, ?_, ?_⟩
  · unfold fX8_changeSpeed snew
    rw [(stgt_c d).1]
    by_cases c1 : stgt d ≤ I 0 15
    · rw [if_pos c1, if_pos c1]
      by_cases c2 : I 0 15 ≤ stgt d
      · rw [if_pos c2, if_pos c2]
      · rw [if_neg c2, if_neg c2, zu_same]
    · rw [if_neg c1, if_neg c1, zu_same]
  · intro a b h
    unfold fX8_changeSpeed
    rw [(stgt_c d).1]
    have hz : ∀ x : Int32, zu I 0 15 x a b = I a b := fun x => by
      by_cases h7 : a = 0
      · exact zu_col (by omega)
      · exact zu_row h7
    by_cases c1 : stgt d ≤ I 0 15
    · rw [if_pos c1]
      by_cases c2 : I 0 15 ≤ stgt d
      · rw [if_pos c2]
      · rw [if_neg c2]; exact hz _
    · rw [if_neg c1]; exact hz _
theorem f_chsR {v1 v3 d : Int32} (J : zPI) : (if (d / 20) ≤ 14 then (if (-3) ≤ (d / 20) then fX9_sails_228 v1 v3 (d / 20) J else fX9_sails_228 v1 v3 (-3) J) else fX9_sails_228 v1 v3 14 J) = fX9_sails_269 (fun I => some I) zF v1 v3 0 (zu J 48 32 (snew (J 48 32) (stgt d))) := by
  have e : (if (d / 20) ≤ 14 then (if (-3) ≤ (d / 20) then fX9_sails_228 v1 v3 (d / 20) J else fX9_sails_228 v1 v3 (-3) J) else fX9_sails_228 v1 v3 14 J) = fX9_sails_228 v1 v3 (stgt d) J := by
    unfold stgt
    by_cases c1 : d / 20 ≤ 14
    · rw [if_pos c1, if_pos c1]
      by_cases c2 : -3 ≤ d / 20
      · rw [if_pos c2, if_pos c2]
      · rw [if_neg c2, if_neg c2]
    · rw [if_neg c1, if_neg c1]
  rw [e]
  unfold fX9_sails_228 fX9_sails_262 snew
  by_cases c1 : stgt d ≤ J 48 32
  · rw [if_pos c1, if_pos c1]
    by_cases c2 : J 48 32 ≤ stgt d
    · rw [if_pos c2, if_pos c2, show J 48 32 + 0 = J 48 32 from Int32.add_zero _]
    · rw [if_neg c2, if_neg c2, show J 48 32 + (-1) = J 48 32 - 1 from (Int32.sub_eq_add_neg _ _).symm]
  · rw [if_neg c1, if_neg c1]
