/-! the first call on a fresh object -/
theorem zIp_val (p : Int32) (a b : Nat) : zIp p a b = if a = 62 ∧ b < 24 then -1 else if a = 48 ∧ b = 18 then zhands p else if a = 47 ∧ b < 24 then -1 else if a = 42 ∧ b = 0 then zhands p else if a = 8 ∧ b < 3 then -1 else if a = 7 ∧ b < 18 then -1 else if a = 6 ∧ b < 9 then -1 else 0 := by
  unfold zIp eI_X9_init_48 eI_X8_init_0 eI_X1_init_42 eI_X5_init_33 eI_X5_init_24 eI_X2_init_17 eI_X3_init_15 eI_X6_init_13 eI_X7_init_9 eI_X4_init_1 zI0
  simp only [zfill, zu]
  by_cases h1 : a = 62
  · subst h1
    by_cases h2 : b < 24 <;> simp [h2]
  · by_cases h3 : a = 48
    · subst h3
      by_cases h4 : b = 18 <;> simp [h4]
    · by_cases h5 : a = 47
      · subst h5
        by_cases h6 : b < 24 <;> simp [h6]
      · by_cases h7 : a = 42
        · subst h7
          by_cases h8 : b = 0 <;> simp [h8]
        · simp [h1, h3, h5, h7]
theorem zhands_s (p : Int32) : ∃ s, 4 ≤ s ∧ s ≤ 24 ∧ zhands p = nI s := by
  unfold zhands
  by_cases h1 : p < 4
  · exact ⟨12, by omega, by omega, by rw [if_pos h1]; rfl⟩
  · by_cases h2 : 24 < p
    · exact ⟨12, by omega, by omega, by rw [if_neg h1, if_pos h2]; rfl⟩
    · rw [if_neg h1, if_neg h2]
      have e4 : (4 : Int32).toInt = 4 := by decide
      have e24 : (24 : Int32).toInt = 24 := by decide
      rw [zlt_i] at h1 h2
      obtain ⟨s, hs, rfl⟩ := zsmall (x := p) (n := 25) (by omega) (by omega)
      rw [nI_toInt (by omega)] at h1
      exact ⟨s, by omega, by omega, rfl⟩
theorem zwfR_zu {n o k x : Nat} {F : zPF} (h : zwfR n F) (hx : x < n) : zwfR n (zu F o k (some x)) := by
  intro a b y hy
  simp only [zu] at hy
  by_cases h1 : a = o
  · rw [if_pos h1] at hy
    by_cases h2 : b = k
    · rw [if_pos h2] at hy
      cases hy
      exact Or.inl hx
    · rw [if_neg h2] at hy
      exact h a b y hy
  · rw [if_neg h1] at hy
    exact h a b y hy
theorem zwfR_0 {n : Nat} : zwfR n zF0 := fun _ _ _ h => by cases h
set_option maxRecDepth 100000 in
theorem zFp_wf : zwfR zS0.length zFp := by
  have h77 : zS0.length = 77 := rfl
  rw [h77]
  unfold zFp eF_X9_init_48 eF_X8_init_0 eF_X1_init_42 eF_X5_init_33 eF_X5_init_24 eF_X2_init_17 eF_X3_init_15 eF_X6_init_13 eF_X7_init_9 eF_X4_init_1
  repeat (refine zwfR_zu ?_ (by omega))
  exact zwfR_0
theorem zFp_in : zRin zFp 24 33 none := ⟨by decide +kernel, rfl, rfl, rfl, Or.inl rfl, Or.inr rfl⟩
def zRel1 : zRelT := fun i I L F a b c => (i = 1 ∧ (∃ p, I = zIp p) ∧ L = zLp ∧ F = zFp ∧ a = 24 ∧ b = 33 ∧ c = none) ∨ (8 ≤ i ∧ zRin F a b c ∧ zwfR zS0.length F)
theorem r1_R : zStR zRel1 := by
  rintro i I L F a b c (⟨rfl, -, rfl, rfl, rfl, rfl, rfl⟩ | ⟨h1, h2, h3⟩)
  · exact ⟨zFp_in, zFp_wf, Or.inr ⟨by omega, zFp_in, zFp_wf⟩⟩
  · exact ⟨h2, h3, Or.inr ⟨by omega, h2, h3⟩⟩
theorem r1_init : zInit zRel1 := fun p => Or.inl ⟨rfl, ⟨p, rfl⟩, rfl, rfl, rfl, rfl, rfl⟩
theorem r1_at {i : Nat} {I : zPI} {L : zPL} {F : zPF} {a b : Nat} {c : Option Nat} (hi : i + 7 ≤ 8) (h : zRel1 i I L F a b c) : i = 1 ∧ (∃ p, I = zIp p) ∧ L = zLp ∧ F = zFp ∧ a = 24 ∧ b = 33 ∧ c = none := by
  rcases h with h | ⟨h, -⟩
  · exact h
  · omega
theorem r1_end {L : zPL} {I : zPI} : zRel1 (1 + 7) I L zFp 24 33 none := Or.inr ⟨by omega, zFp_in, zFp_wf⟩
theorem r1_T (p : Int32) : zTC (zIp p) (0, fun _ => 0) ∧ zTR (zIp p) (0, fun _ => 0) := by
  refine ⟨⟨?_, by simp, fun j hj => by simp at hj⟩, ⟨?_, by simp, fun j hj => by simp at hj⟩⟩
  · rw [zIp_val]; rfl
  · rw [zIp_val]; rfl
theorem r1_W (p : Int32) : zWC (zIp p) 0 (fun _ => 0) (fun _ => 0) (fun _ => 0) ∧ zWR (zIp p) 0 (fun _ => 0) (fun _ => 0) (fun _ => 0) := by
  refine ⟨⟨?_, by simp, fun j hj => by simp at hj⟩, ⟨?_, by simp, fun j hj => by simp at hj⟩⟩
  · rw [zIp_val]; rfl
  · rw [zIp_val]; rfl
theorem zIp_0 (p : Int32) {a b : Nat} (h : a ≠ 62 ∧ a ≠ 48 ∧ a ≠ 47 ∧ a ≠ 42 ∧ a ≠ 8 ∧ a ≠ 7 ∧ a ≠ 6) : zIp p a b = 0 := by
  rw [zIp_val]
  simp [h]
theorem eE_0 : ∀ c, c < 32 → eE (nI 0) (nI 0) (nI c) = 0 ∧ eN (nI 0) (nI 0) (nI c) = 0 := by decide +kernel
theorem r1_PW (p : Int32) : zPW (zIp p) := by
  intro g hg
  refine ⟨0, 0, by omega, by omega, zIp_0 p (by decide), zIp_0 p (by decide), fun c hc => ?_⟩
  rw [zIp_0 p (by decide), zIp_0 p (by decide), (eE_0 c hc).1, (eE_0 c hc).2]
  exact ⟨rfl, rfl⟩
theorem r1_PL (p : Int32) : zPL2 (zIp p) := ⟨by rw [zIp_val, zIp_val]; rfl, 0, by omega, by rw [zIp_val]; rfl, fun g hg => by omega⟩
theorem r1_IdC (p : Int32) : zIdC (zIp p) 0 := by
  obtain ⟨s, h1, h2, h3⟩ := zhands_s p
  refine ⟨zIp_0 p (by decide), zIp_0 p (by decide), zIp_0 p (by decide), zIp_0 p (by decide), zIp_0 p (by decide), zIp_0 p (by decide), zIp_0 p (by decide), ⟨s, h2, by rw [zIp_val]; simpa using h3⟩, fun h hh => by rw [zIp_val]; simp [hh], fun h hh => zIp_0 p (by decide), zIp_0 p (by decide)⟩
theorem r1_IdR (p : Int32) : zIdR (zIp p) 0 := by
  obtain ⟨s, h1, h2, h3⟩ := zhands_s p
  refine ⟨by rw [zIp_val]; rfl, by rw [zIp_val]; rfl, by rw [zIp_val]; rfl, by rw [zIp_val]; rfl, ⟨s, h2, by rw [zIp_val]; simpa using h3⟩, fun h hh => by rw [zIp_val]; simp [hh], fun h hh => zIp_0 p (by decide), by rw [zIp_val]; rfl, by rw [zIp_val]; rfl, zIp_0 p (by decide), by rw [zIp_val]; rfl⟩
theorem r1_feed : zSt_feed zRel1 := by
  intro i I L F a b c x y z hi h
  obtain ⟨rfl, ⟨p, rfl⟩, rfl, rfl, rfl, rfl, rfl⟩ := r1_at hi h
  obtain ⟨v, I1, I2, q, e1, e2, -⟩ := q_feed (r1_T p).1 (r1_T p).2 x y z
  exact ⟨v, I1, I2, e1, e2, r1_end⟩
theorem r1_wind : zSt_wind zRel1 := by
  intro i I L F a b c x y z hi h
  obtain ⟨rfl, ⟨p, rfl⟩, rfl, rfl, rfl, rfl, rfl⟩ := r1_at hi h
  obtain ⟨v, I1, I2, e1, e2, -⟩ := q_wind (r1_W p).1 (r1_W p).2 x y z
  exact ⟨v, I1, I2, e1, e2, r1_end⟩
theorem r1_foretell : zSt_foretell zRel1 := by
  intro i I L F a b c x y z hi h
  obtain ⟨rfl, ⟨p, rfl⟩, rfl, rfl, rfl, rfl, rfl⟩ := r1_at hi h
  obtain ⟨v, I1, I2, e1, e2, -⟩ := q_foretell (I := zIp p) x y z
  exact ⟨v, I1, I2, e1, e2, r1_end⟩
theorem r1_plan : zSt_plan zRel1 := by
  intro i I L F a b c x y hi h
  obtain ⟨rfl, ⟨p, rfl⟩, rfl, rfl, rfl, rfl, rfl⟩ := r1_at hi h
  obtain ⟨v, I1, L1, I2, e1, e2, -⟩ := q_plan (r1_PW p) zLp x y
  exact ⟨v, I1, L1, I2, e1, e2, r1_end⟩
theorem r1_leg : zSt_leg zRel1 := by
  intro i I L F a b c x hi h
  obtain ⟨rfl, ⟨p, rfl⟩, rfl, rfl, rfl, rfl, rfl⟩ := r1_at hi h
  obtain ⟨v, e1, e2⟩ := q_leg (r1_PL p) x
  exact ⟨v, _, e1, e2, r1_end⟩
theorem r1_braced : zSt_braced zRel1 := by
  intro i I L F a b c x hi h
  obtain ⟨rfl, ⟨p, rfl⟩, rfl, rfl, rfl, rfl, rfl⟩ := r1_at hi h
  obtain ⟨v, e1, e2⟩ := q_braced (I := zIp p) (fun m hm => by rw [zIp_0 p (by decide), zIp_0 p (by decide)]) x
  exact ⟨v, _, e1, e2, r1_end⟩
theorem r1_minutes : zSt_minutes zRel1 := by
  intro i I L F a b c x hi h
  obtain ⟨rfl, ⟨p, rfl⟩, rfl, rfl, rfl, rfl, rfl⟩ := r1_at hi h
  obtain ⟨v, I1, I2, e1, e2⟩ := id_minutes (r1_IdC p) (r1_IdR p) x
  exact ⟨v, I1, I2, e1, e2, r1_end⟩
theorem r1_under (p : Int32) {I : zPI} (hI : ∀ b, I 63 b = zIp p 63 b) (w a : Int32) (hw : (1 : Int32) + w ≠ 0) : fX9_isUnder I w a = some 0 := by
  obtain ⟨r, e, f1, f2⟩ := f_under I w a
  rcases f1 with rfl | rfl
  · exact e
  · obtain ⟨j, -, h, -⟩ := f2.mp (by decide)
    rw [hI, zIp_0 p (by decide)] at h
    exact absurd h.symm hw
theorem r1_sail : zSt_sail zRel1 := by
  intro i I L F a b c x y hi h
  obtain ⟨rfl, ⟨p, rfl⟩, rfl, rfl, rfl, rfl, rfl⟩ := r1_at hi h
  have e8 : (8 : Int32).toInt = 8 := by decide
  have e9 : (9 : Int32).toInt = 9 := by decide
  have e1 : (1 : Int32).toInt = 1 := by decide
  suffices hh : ∃ v, fX8_sail (zIp p) x y = some v ∧ fX9_sail (zIp p) x y = some (v, zu (zIp p) 48 0 0) by
    obtain ⟨v, a1, a2⟩ := hh
    exact ⟨v, _, a1, a2, r1_end⟩
  unfold fX8_sail fX9_sail
  by_cases h0 : x < 0
  · exact ⟨-1, by rw [if_pos h0], by rw [if_pos h0]⟩
  by_cases h1 : x < 9
  · have h1' : ¬ 8 < x := by rw [zlt_i]; rw [zlt_i] at h1; omega
    rw [if_neg h0, if_pos h1, if_neg h0, if_neg h1']
    rw [zlt_i, zi_n0] at h0
    rw [zlt_i] at h1
    obtain ⟨s, hs, rfl⟩ := zsmall (x := x) (n := 9) (by omega) (by omega)
    by_cases h2 : y = 0
    · subst h2
      refine ⟨0, ?_, ?_⟩
      · rw [if_pos rfl, zif_t (zin_nI (by omega) (by omega)), nI_clamp (by omega), zIp_0 p (by decide)]
      · rw [if_neg (by decide), if_pos (by decide), if_pos rfl, zif_t (zin_nI (by omega) (by omega)), nI_clamp (by omega), zu_row (by decide), zIp_0 p (by decide)]
    by_cases h3 : y = 1
    · subst h3
      refine ⟨0, ?_, ?_⟩
      · rw [if_neg (by decide), if_pos rfl, zif_t (zin_nI (by omega) (by omega)), nI_clamp (by omega), zIp_val, if_pos (by simp [hs])]
      · rw [if_neg (by decide), if_pos (by decide), if_neg (by decide), r1_under p (fun b => zu_row (by decide)) 0 _ (by decide)]
        simp only [Option.bind_some, if_true]
        rw [r1_under p (fun b => zu_row (by decide)) 1 _ (by decide)]
        rfl
    · refine ⟨-1, by rw [if_neg h2, if_neg h3], ?_⟩
      by_cases h4 : y < 0
      · rw [if_pos h4]
      · rw [if_neg h4, if_neg]
        intro h5
        rw [zlt_i, zi_n0] at h4
        rw [zle_i, e1] at h5
        obtain ⟨k, hk, rfl⟩ := zsmall (x := y) (n := 2) (by omega) (by omega)
        have : k = 0 ∨ k = 1 := by omega
        rcases this with rfl | rfl
        · exact h2 rfl
        · exact h3 rfl
  · have h1' : 8 < x := by rw [zlt_i]; rw [zlt_i] at h1; omega
    exact ⟨-1, by rw [if_neg h0, if_neg h1], by rw [if_neg h0, if_pos h1']⟩
theorem r1_rope : zSt_rope zRel1 := by
  intro i I L F a b c x y hi h
  obtain ⟨rfl, ⟨p, rfl⟩, rfl, rfl, rfl, rfl, rfl⟩ := r1_at hi h
  have e17 : (17 : Int32).toInt = 17 := by decide
  have e18 : (18 : Int32).toInt = 18 := by decide
  have e2 : (2 : Int32).toInt = 2 := by decide
  suffices hh : ∃ v, fX8_rope (zIp p) x y = some v ∧ fX9_rope (zIp p) x y = some (v, zu (zIp p) 48 0 0) by
    obtain ⟨v, a1, a2⟩ := hh
    exact ⟨v, _, a1, a2, r1_end⟩
  unfold fX8_rope fX9_rope
  by_cases h0 : x < 0
  · exact ⟨-1, by rw [if_pos h0], by rw [if_pos h0]⟩
  by_cases h1 : x < 18
  · have h1' : ¬ 17 < x := by rw [zlt_i]; rw [zlt_i] at h1; omega
    rw [if_neg h0, if_pos h1, if_neg h0, if_neg h1']
    rw [zlt_i, zi_n0] at h0
    rw [zlt_i] at h1
    obtain ⟨s, hs, rfl⟩ := zsmall (x := x) (n := 18) (by omega) (by omega)
    by_cases h2 : y = 0
    · subst h2
      refine ⟨0, ?_, ?_⟩
      · rw [if_pos rfl, zif_t (zin_nI (by omega) (by omega)), nI_clamp (by omega), zIp_0 p (by decide)]
      · rw [if_neg (by decide), if_pos (by decide), if_pos rfl, zif_t (zin_nI (by omega) (by omega)), nI_clamp (by omega), zu_row (by decide), zIp_0 p (by decide)]
    by_cases h3 : y = 1
    · subst h3
      refine ⟨0, ?_, ?_⟩
      · rw [if_neg (by decide), if_pos rfl, zif_t (zin_nI (by omega) (by omega)), nI_clamp (by omega), zIp_0 p (by decide)]
      · rw [if_neg (by decide), if_pos (by decide), if_neg (by decide), if_pos rfl, zif_t (zin_nI (by omega) (by omega)), nI_clamp (by omega), zu_row (by decide), zIp_0 p (by decide)]
    by_cases h4 : y = 2
    · subst h4
      refine ⟨0, ?_, ?_⟩
      · rw [if_neg (by decide), if_neg (by decide), if_pos rfl, zif_t (zin_nI (by omega) (by omega)), nI_clamp (by omega), zIp_val, if_pos (by simp [hs])]
      · rw [if_neg (by decide), if_pos (by decide), if_neg (by decide), if_neg (by decide), r1_under p (fun b => zu_row (by decide)) 3 _ (by decide)]
        rfl
    · refine ⟨-1, by rw [if_neg h2, if_neg h3, if_neg h4], ?_⟩
      by_cases h5 : y < 0
      · rw [if_pos h5]
      · rw [if_neg h5, if_neg]
        intro h6
        rw [zlt_i, zi_n0] at h5
        rw [zle_i, e2] at h6
        obtain ⟨k, hk, rfl⟩ := zsmall (x := y) (n := 3) (by omega) (by omega)
        have : k = 0 ∨ k = 1 ∨ k = 2 := by omega
        rcases this with rfl | rfl | rfl
        · exact h2 rfl
        · exact h3 rfl
        · exact h4 rfl
  · have h1' : 17 < x := by rw [zlt_i]; rw [zlt_i] at h1; omega
    exact ⟨-1, by rw [if_neg h0, if_neg h1], by rw [if_neg h0, if_pos h1']⟩
theorem r1_hand : zSt_hand zRel1 := by
  intro i I L F a b c x y hi h
  obtain ⟨rfl, ⟨p, rfl⟩, rfl, rfl, rfl, rfl, rfl⟩ := r1_at hi h
  obtain ⟨s, s1, s2, s3⟩ := zhands_s p
  have hc : zIp p 42 0 = nI s := by rw [zIp_val]; simpa using s3
  have hr : zIp p 48 18 = nI s := by rw [zIp_val]; simpa using s3
  have hd : zIp p 42 6 = 0 := by rw [zIp_val]; rfl
  have e2 : (2 : Int32).toInt = 2 := by decide
  suffices hh : ∃ r v t, fX8_hand (zIp p) x y = some r ∧ fX9_hand (zIp p) x y = some (v, zu (zIp p) 48 0 t) ∧ t = zhA r ∧ (∀ z, r = some z → v = z) by
    obtain ⟨r, v, t, a1, a2, a3, a4⟩ := hh
    exact ⟨r, v, _, a1, a2, by rw [fX9_thrown, zu_same]; exact a3, a4, r1_end⟩
  have thr : ∀ v1 v2 : Int32, fX9_hand_26 v1 v2 (zIp p) = some (0, zu (zIp p) 48 0 1) := by
    intro v1 v2
    rw [fX9_hand_26, fX9_hand_27, zu_same, if_neg (by decide)]
  unfold fX8_hand fX9_hand
  rw [hc, hr]
  by_cases h0 : x < 0
  · exact ⟨none, 0, 1, by rw [if_pos h0], by rw [if_pos h0]; exact thr x y, rfl, fun z hz => by cases hz⟩
  by_cases h1 : x < nI s
  · have h1' : ¬ nI s ≤ x := by rw [zle_i]; rw [zlt_i] at h1; omega
    rw [if_neg h0, if_pos h1, if_neg h0, if_neg h1']
    rw [zlt_i, zi_n0] at h0
    rw [zlt_i, nI_toInt (by omega)] at h1
    obtain ⟨k, hk, rfl⟩ := zsmall (x := x) (n := s) (by omega) (by omega)
    have hz : zin (nI k) 24 = true := zin_nI (by omega) (by omega)
    have hl : zIp p 47 k = -1 := by rw [zIp_val]; simp; omega
    have hw : zu (zIp p) 48 0 0 62 k = -1 := by rw [zu_row (by decide), zIp_val]; simp; omega
    have neg : ¬ (0 : Int32) ≤ -1 := by decide
    by_cases h2 : y = 0
    · subst h2
      refine ⟨some 0, 0, 0, ?_, ?_, rfl, fun z hz => by cases hz; rfl⟩
      · rw [if_pos rfl, fX1_isFree, zif_t hz, nI_clamp (by omega), hl, if_pos rfl]
        rfl
      · rw [if_neg (by decide), if_neg (by decide), fX9_hand_27, zu_same, if_pos (by decide), if_pos rfl, zif_t hz, nI_clamp (by omega), hw, if_neg neg]
    by_cases h3 : y = 1
    · subst h3
      refine ⟨some 0, 0, 0, ?_, ?_, rfl, fun z hz => by cases hz; rfl⟩
      · rw [if_neg (by decide), if_pos rfl, fX1_endOf, zif_t hz, nI_clamp (by omega), hl, if_pos rfl]
        rfl
      · rw [if_neg (by decide), if_neg (by decide), fX9_hand_27, zu_same, if_pos (by decide), if_neg (by decide), if_pos rfl, zif_t hz, nI_clamp (by omega), hw, if_neg neg]
    by_cases h4 : y = 2
    · subst h4
      have hdr : zu (zIp p) 48 0 0 48 28 = 0 := by rw [zu_col (by decide), zIp_val]; rfl
      have hR : ∀ v : Int32, (if fX9_isOnDeck (zu (zIp p) 48 0 0) (nI k) = 0 then some (0, zu (zIp p) 48 0 0) else some (1, zu (zIp p) 48 0 0)) = some (v, zu (zIp p) 48 0 0) → (if (2 : Int32) < 0 then fX9_hand_26 (nI k) 2 (zIp p) else if (2 : Int32) < 2 then fX9_hand_26 (nI k) 2 (zIp p) else fX9_hand_27 (nI k) 2 0 (zIp p)) = some (v, zu (zIp p) 48 0 0) := by
        intro v hv
        rw [if_neg (by decide), if_neg (by decide), fX9_hand_27, zu_same, if_pos (by decide), if_neg (by decide), if_neg (by decide)]
        exact hv
      have hC : ∀ v : Option (Option Int32), (if fX1_isOnDeck (zIp p) (nI k) = 0 then some (some 0) else some (some 1)) = v → (if (2 : Int32) = 0 then (fX1_isFree (zIp p) (nI k)).bind (fun q2 => (if q2 = 0 then some (some 1) else some (some 0))) else if (2 : Int32) = 1 then (fX1_endOf (zIp p) (nI k)).bind (fun q6 => some (some q6)) else if (2 : Int32) = 2 then (if fX1_isOnDeck (zIp p) (nI k) = 0 then some (some 0) else some (some 1)) else some none) = v := by
        intro v hv
        rw [if_neg (by decide), if_neg (by decide), if_pos rfl]
        exact hv
      have o1 : fX1_isOnDeck (zIp p) (nI k) = if zrm (nI k) 2 = 0 then 1 else 0 := by rw [fX1_isOnDeck, hd, if_neg (by decide)]
      have o2 : fX9_isOnDeck (zu (zIp p) 48 0 0) (nI k) = if 0 = zrm (nI k) 2 then 1 else 0 := by rw [fX9_isOnDeck, hdr, if_neg (by decide)]
      by_cases h5 : zrm (nI k) 2 = 0
      · rw [if_pos h5] at o1
        rw [if_pos h5.symm] at o2
        exact ⟨some 1, 1, 0, hC _ (by rw [o1, if_neg (by decide)]), hR _ (by rw [o2, if_neg (by decide)]), rfl, fun z hz => by cases hz; rfl⟩
      · rw [if_neg h5] at o1
        rw [if_neg (fun h => h5 h.symm)] at o2
        exact ⟨some 0, 0, 0, hC _ (by rw [o1, if_pos rfl]), hR _ (by rw [o2, if_pos rfl]), rfl, fun z hz => by cases hz; rfl⟩
    · rw [if_neg h2, if_neg h3, if_neg h4]
      refine ⟨none, 0, 1, rfl, ?_, rfl, fun z hz => by cases hz⟩
      by_cases h5 : y < 0
      · rw [if_pos h5]; exact thr _ _
      · rw [if_neg h5, if_pos]
        · exact thr _ _
        · rw [zlt_i, e2]
          rw [zlt_i, zi_n0] at h5
          refine Classical.byContradiction (fun h6 => ?_)
          obtain ⟨j, hj, rfl⟩ := zsmall (x := y) (n := 3) (by omega) (by omega)
          have : j = 0 ∨ j = 1 ∨ j = 2 := by omega
          rcases this with rfl | rfl | rfl
          · exact h2 rfl
          · exact h3 rfl
          · exact h4 rfl
  · have h1' : nI s ≤ x := by rw [zle_i]; rw [zlt_i] at h1; omega
    exact ⟨none, 0, 1, by rw [if_neg h0, if_neg h1], by rw [if_neg h0, if_pos h1']; exact thr x y, rfl, fun z hz => by cases hz⟩
theorem r1_look : zSt_look zRel1 := by
  intro i I L F a b c x hi h
  obtain ⟨rfl, ⟨p, rfl⟩, rfl, rfl, rfl, rfl, rfl⟩ := r1_at hi h
  have hcnt : ∀ k, zcnt (zbusy (zu (zIp p) 48 0 0)) k = 0 := by
    intro k
    induction k with
    | zero => rfl
    | succ k ih =>
      rw [zcnt, ih]
      have : zbusy (zu (zIp p) 48 0 0) k = false := by
        rw [zbusy, zu_row (by decide), zIp_0 p (by decide)]
        rfl
      rw [this]
      rfl
  have f0 : ∀ a b, ¬ (a = 62 ∧ b < 24) → ¬ (a = 48 ∧ b = 18) → ¬ (a = 47 ∧ b < 24) → ¬ (a = 42 ∧ b = 0) → a ≠ 8 → a ≠ 7 → a ≠ 6 → zIp p a b = 0 := fun a b h1 h2 h3 h4 h5 h6 h7 => by
    rw [zIp_val, if_neg h1, if_neg h2, if_neg h3, if_neg h4, if_neg (fun h => h5 h.1), if_neg (fun h => h6 h.1), if_neg (fun h => h7 h.1)]
  have g0 : ∀ a b, ¬ (a = 62 ∧ b < 24) → ¬ (a = 48 ∧ b = 18) → ¬ (a = 47 ∧ b < 24) → ¬ (a = 42 ∧ b = 0) → a ≠ 8 → a ≠ 7 → a ≠ 6 → zu (zIp p) 48 0 0 a b = 0 := fun a b h1 h2 h3 h4 h5 h6 h7 => by
    by_cases e : a = 48 ∧ b = 0
    · obtain ⟨rfl, rfl⟩ := e
      exact zu_same
    · have : zu (zIp p) 48 0 0 a b = zIp p a b := by
        by_cases e1 : a = 48
        · exact zu_col (fun h => e ⟨e1, h⟩)
        · exact zu_row e1
      rw [this]
      exact f0 a b h1 h2 h3 h4 h5 h6 h7
  have hW : zWR (zu (zIp p) 48 0 0) 0 (fun _ => 0) (fun _ => 0) (fun _ => 0) := zWR_cong (r1_W p).2 (zu_col (by decide)) (fun a ha b => zu_row (by omega))
  have hp : fX9_point (zu (zIp p) 48 0 0) = some 0 := wi_point (m := 0) (by omega) hW (g0 _ _ (by decide) (by decide) (by decide) (by decide) (by decide) (by decide) (by decide))
  have hf : fX9_force (zu (zIp p) 48 0 0) = some 0 := wi_force (m := 0) (by omega) hW (g0 _ _ (by decide) (by decide) (by decide) (by decide) (by decide) (by decide) (by decide))
  suffices hh : fX9_look (zIp p) x = some (fX8_look 24 (zIp p) x, zu (zIp p) 48 0 0) from ⟨_, _, rfl, hh, r1_end⟩
  have e0 := f_look9 (K := fun v1 v2 I => (if v1 = 0 then some (I 48 29, I) else if v1 = 1 then some (I 48 30, I) else if v1 = 2 then some (I 48 31, I) else if v1 = 3 then some (I 48 32, I) else if v1 = 4 then some (I 48 33, I) else if v1 = 5 then some (I 48 34, I) else if v1 = 6 then some (I 48 28, I) else if v1 = 7 then some (v2, I) else if v1 = 8 then some (I 48 35, I) else if v1 = 9 then some (I 48 36, I) else if v1 = 10 then (if zin (I 48 13) 2 then some (I 57 (I 48 13).toNatClampNeg, I) else none) else if v1 = 11 then (if zin (I 48 37) 4400 then (if (I 54 (I 48 37).toNatClampNeg) = 0 then (if (I 48 29) < (I 48 38) then some (0, I) else some (1, I)) else some (0, I)) else none) else if v1 = 12 then some (I 48 2, I) else if v1 = 13 then (if (I 48 29) = 0 then (fX9_point I).bind (fun q22 => some (q22, I)) else some (I 48 43, I)) else if v1 = 14 then (if (I 48 29) = 0 then (fX9_force I).bind (fun q26 => some (q26, I)) else some (I 48 44, I)) else some ((-1), I))) (v1 := x) (I := zu (zIp p) 48 0 0) 24 zF 0 (by omega) (zF_lt (by omega))
  unfold fX9_look
  refine e0.trans ?_
  simp only [hcnt]
  have z1 : zin (0 : Int32) 2 = true := by decide
  have z2 : zin (0 : Int32) 4400 = true := by decide
  have c0 : (0 : Int32).toNatClampNeg = 0 := by decide
  have m0 : nI 0 = (0 : Int32) := rfl
  have q1 : zu (zIp p) 48 0 0 48 29 = 0 := g0 _ _ (by decide) (by decide) (by decide) (by decide) (by decide) (by decide) (by decide)
  have q2 : zu (zIp p) 48 0 0 48 30 = 0 := g0 _ _ (by decide) (by decide) (by decide) (by decide) (by decide) (by decide) (by decide)
  have q3 : zu (zIp p) 48 0 0 48 31 = 0 := g0 _ _ (by decide) (by decide) (by decide) (by decide) (by decide) (by decide) (by decide)
  have q4 : zu (zIp p) 48 0 0 48 32 = 0 := g0 _ _ (by decide) (by decide) (by decide) (by decide) (by decide) (by decide) (by decide)
  have q5 : zu (zIp p) 48 0 0 48 33 = 0 := g0 _ _ (by decide) (by decide) (by decide) (by decide) (by decide) (by decide) (by decide)
  have q6 : zu (zIp p) 48 0 0 48 34 = 0 := g0 _ _ (by decide) (by decide) (by decide) (by decide) (by decide) (by decide) (by decide)
  have q7 : zu (zIp p) 48 0 0 48 28 = 0 := g0 _ _ (by decide) (by decide) (by decide) (by decide) (by decide) (by decide) (by decide)
  have q8 : zu (zIp p) 48 0 0 48 35 = 0 := g0 _ _ (by decide) (by decide) (by decide) (by decide) (by decide) (by decide) (by decide)
  have q9 : zu (zIp p) 48 0 0 48 36 = 0 := g0 _ _ (by decide) (by decide) (by decide) (by decide) (by decide) (by decide) (by decide)
  have q10 : zu (zIp p) 48 0 0 48 13 = 0 := g0 _ _ (by decide) (by decide) (by decide) (by decide) (by decide) (by decide) (by decide)
  have q11 : zu (zIp p) 48 0 0 48 37 = 0 := g0 _ _ (by decide) (by decide) (by decide) (by decide) (by decide) (by decide) (by decide)
  have q12 : zu (zIp p) 48 0 0 48 38 = 0 := g0 _ _ (by decide) (by decide) (by decide) (by decide) (by decide) (by decide) (by decide)
  have q13 : zu (zIp p) 48 0 0 48 2 = 0 := g0 _ _ (by decide) (by decide) (by decide) (by decide) (by decide) (by decide) (by decide)
  have q14 : zu (zIp p) 48 0 0 57 0 = 0 := g0 _ _ (by decide) (by decide) (by decide) (by decide) (by decide) (by decide) (by decide)
  have q15 : zu (zIp p) 48 0 0 54 0 = 0 := g0 _ _ (by decide) (by decide) (by decide) (by decide) (by decide) (by decide) (by decide)
  have r : ∀ a b, ¬ (a = 62 ∧ b < 24) → ¬ (a = 48 ∧ b = 18) → ¬ (a = 47 ∧ b < 24) → ¬ (a = 42 ∧ b = 0) → a ≠ 8 → a ≠ 7 → a ≠ 6 → zIp p a b = 0 := f0
  unfold fX8_look
  rw [r 0 12 (by decide) (by decide) (by decide) (by decide) (by decide) (by decide) (by decide), r 0 13 (by decide) (by decide) (by decide) (by decide) (by decide) (by decide) (by decide), r 0 14 (by decide) (by decide) (by decide) (by decide) (by decide) (by decide) (by decide), r 0 15 (by decide) (by decide) (by decide) (by decide) (by decide) (by decide) (by decide), r 0 16 (by decide) (by decide) (by decide) (by decide) (by decide) (by decide) (by decide), r 0 17 (by decide) (by decide) (by decide) (by decide) (by decide) (by decide) (by decide), r 42 6 (by decide) (by decide) (by decide) (by decide) (by decide) (by decide) (by decide), r 42 7 (by decide) (by decide) (by decide) (by decide) (by decide) (by decide) (by decide), r 1 7 (by decide) (by decide) (by decide) (by decide) (by decide) (by decide) (by decide), r 0 11 (by decide) (by decide) (by decide) (by decide) (by decide) (by decide) (by decide), r 24 0 (by decide) (by decide) (by decide) (by decide) (by decide) (by decide) (by decide), r 0 9 (by decide) (by decide) (by decide) (by decide) (by decide) (by decide) (by decide), r 0 10 (by decide) (by decide) (by decide) (by decide) (by decide) (by decide) (by decide), r 13 1 (by decide) (by decide) (by decide) (by decide) (by decide) (by decide) (by decide), r 9 5 (by decide) (by decide) (by decide) (by decide) (by decide) (by decide) (by decide), r 9 6 (by decide) (by decide) (by decide) (by decide) (by decide) (by decide) (by decide)]
  simp only [q1, q2, q3, q4, q5, q6, q7, q8, q9, q10, q11, q12, q13, c0, q14, q15, z1, z2, hp, hf, m0, Option.bind_some, if_true]
  have n0 : ¬ (0 : Int32) < 0 := by decide
  simp only [if_neg n0]
  by_cases k0 : x = 0
  · simp only [if_pos k0]
  by_cases k1 : x = 1
  · simp only [if_neg k0, if_pos k1]
  by_cases k2 : x = 2
  · simp only [if_neg k0, if_neg k1, if_pos k2]
  by_cases k3 : x = 3
  · simp only [if_neg k0, if_neg k1, if_neg k2, if_pos k3]
  by_cases k4 : x = 4
  · simp only [if_neg k0, if_neg k1, if_neg k2, if_neg k3, if_pos k4]
  by_cases k5 : x = 5
  · simp only [if_neg k0, if_neg k1, if_neg k2, if_neg k3, if_neg k4, if_pos k5]
  by_cases k6 : x = 6
  · simp only [if_neg k0, if_neg k1, if_neg k2, if_neg k3, if_neg k4, if_neg k5, if_pos k6]
  by_cases k7 : x = 7
  · simp only [if_neg k0, if_neg k1, if_neg k2, if_neg k3, if_neg k4, if_neg k5, if_neg k6, if_pos k7]
  by_cases k8 : x = 8
  · simp only [if_neg k0, if_neg k1, if_neg k2, if_neg k3, if_neg k4, if_neg k5, if_neg k6, if_neg k7, if_pos k8]
  by_cases k9 : x = 9
  · simp only [if_neg k0, if_neg k1, if_neg k2, if_neg k3, if_neg k4, if_neg k5, if_neg k6, if_neg k7, if_neg k8, if_pos k9]
  by_cases k10 : x = 10
  · simp only [if_neg k0, if_neg k1, if_neg k2, if_neg k3, if_neg k4, if_neg k5, if_neg k6, if_neg k7, if_neg k8, if_neg k9, if_pos k10]
  by_cases k11 : x = 11
  · simp only [if_neg k0, if_neg k1, if_neg k2, if_neg k3, if_neg k4, if_neg k5, if_neg k6, if_neg k7, if_neg k8, if_neg k9, if_neg k10, if_pos k11]
  by_cases k12 : x = 12
  · simp only [if_neg k0, if_neg k1, if_neg k2, if_neg k3, if_neg k4, if_neg k5, if_neg k6, if_neg k7, if_neg k8, if_neg k9, if_neg k10, if_neg k11, if_pos k12]
  by_cases k13 : x = 13
  · simp only [if_neg k0, if_neg k1, if_neg k2, if_neg k3, if_neg k4, if_neg k5, if_neg k6, if_neg k7, if_neg k8, if_neg k9, if_neg k10, if_neg k11, if_neg k12, if_pos k13]
  by_cases k14 : x = 14
  · simp only [if_neg k0, if_neg k1, if_neg k2, if_neg k3, if_neg k4, if_neg k5, if_neg k6, if_neg k7, if_neg k8, if_neg k9, if_neg k10, if_neg k11, if_neg k12, if_neg k13, if_pos k14]
  simp only [if_neg k0, if_neg k1, if_neg k2, if_neg k3, if_neg k4, if_neg k5, if_neg k6, if_neg k7, if_neg k8, if_neg k9, if_neg k10, if_neg k11, if_neg k12, if_neg k13, if_neg k14]
