/-! THE START -/
theorem zIp_val (p : Int32) (a b : Nat) : zIp p a b = if a = 62 ∧ b < 24 then -1 else if a = 48 ∧ b = 18 then zhands p else if a = 47 ∧ b < 24 then -1 else if a = 42 ∧ b = 0 then zhands p else if a = 8 ∧ b < 3 then -1 else if a = 7 ∧ b < 18 then -1 else if a = 6 ∧ b < 9 then -1 else 0 := by
  unfold zIp eI_X9_init_48 eI_X8_init_0 eI_X1_init_42 eI_X5_init_33 eI_X5_init_24 eI_X2_init_17 eI_X3_init_15 eI_X6_init_13 eI_X7_init_9 eI_X4_init_1 zI0
  simp only [zfill, zu]
  by_cases h1 : a = 62
  · subst h1
    by_cases h2 : b < 24 <;> simp [h2]
  · by_cases h3 : a = 48
    · subst h3
      by_cases h4 : b = 18 <;> simp [h4]
    · by_cases h5 : a = 47
      · subst h5
        by_cases h6 : b < 24 <;> simp [h6]
      · by_cases h7 : a = 42
        · subst h7
          by_cases h8 : b = 0 <;> simp [h8]
        · simp [h1, h3, h5, h7]
theorem zhands_s (p : Int32) : ∃ s, 4 ≤ s ∧ s ≤ 24 ∧ zhands p = nI s := by
  unfold zhands
  by_cases h1 : p < 4
  · exact ⟨12, by omega, by omega, by rw [if_pos h1]; rfl⟩
  · by_cases h2 : 24 < p
    · exact ⟨12, by omega, by omega, by rw [if_neg h1, if_pos h2]; rfl⟩
    · rw [if_neg h1, if_neg h2]
      have e4 : (4 : Int32).toInt = 4 := by decide
      have e24 : (24 : Int32).toInt = 24 := by decide
      rw [zlt_i] at h1 h2
      obtain ⟨s, hs, rfl⟩ := zsmall (x := p) (n := 25) (by omega) (by omega)
      rw [nI_toInt (by omega)] at h1
      exact ⟨s, by omega, by omega, rfl⟩
theorem zwfR_zu {n o k x : Nat} {F : zPF} (h : zwfR n F) (hx : x < n) : zwfR n (zu F o k (some x)) := by
  intro a b y hy
  simp only [zu] at hy
  by_cases h1 : a = o
  · rw [if_pos h1] at hy
    by_cases h2 : b = k
    · rw [if_pos h2] at hy
      cases hy
      exact Or.inl hx
    · rw [if_neg h2] at hy
      exact h a b y hy
  · rw [if_neg h1] at hy
    exact h a b y hy
theorem zwfR_0 {n : Nat} : zwfR n zF0 := fun _ _ _ h => by cases h
set_option maxRecDepth 100000 in
theorem zFp_wf : zwfR zS0.length zFp := by
  have h77 : zS0.length = 77 := rfl
  rw [h77]
  unfold zFp eF_X9_init_48 eF_X8_init_0 eF_X1_init_42 eF_X5_init_33 eF_X5_init_24 eF_X2_init_17 eF_X3_init_15 eF_X6_init_13 eF_X7_init_9 eF_X4_init_1
  repeat (refine zwfR_zu ?_ (by omega))
  exact zwfR_0
theorem zFp_in : zRin zFp 24 33 none := ⟨by decide +kernel, rfl, rfl, rfl, Or.inl rfl, Or.inr rfl⟩
theorem r1_T (p : Int32) : zTC (zIp p) (0, fun _ => 0) ∧ zTR (zIp p) (0, fun _ => 0) := by
  refine ⟨⟨?_, by simp, fun j hj => by simp at hj⟩, ⟨?_, by simp, fun j hj => by simp at hj⟩⟩
  · rw [zIp_val]; rfl
  · rw [zIp_val]; rfl
theorem r1_W (p : Int32) : zWC (zIp p) 0 (fun _ => 0) (fun _ => 0) (fun _ => 0) ∧ zWR (zIp p) 0 (fun _ => 0) (fun _ => 0) (fun _ => 0) := by
  refine ⟨⟨?_, by simp, fun j hj => by simp at hj⟩, ⟨?_, by simp, fun j hj => by simp at hj⟩⟩
  · rw [zIp_val]; rfl
  · rw [zIp_val]; rfl
theorem zIp_0 (p : Int32) {a b : Nat} (h : a ≠ 62 ∧ a ≠ 48 ∧ a ≠ 47 ∧ a ≠ 42 ∧ a ≠ 8 ∧ a ≠ 7 ∧ a ≠ 6) : zIp p a b = 0 := by
  rw [zIp_val]
  simp [h]
theorem eE_0 : ∀ c, c < 32 → eE (nI 0) (nI 0) (nI c) = 0 ∧ eN (nI 0) (nI 0) (nI c) = 0 := by decide +kernel
theorem r1_PW (p : Int32) : zPW (zIp p) := by
  intro g hg
  refine ⟨0, 0, by omega, by omega, zIp_0 p (by decide), zIp_0 p (by decide), fun c hc => ?_⟩
  rw [zIp_0 p (by decide), zIp_0 p (by decide), (eE_0 c hc).1, (eE_0 c hc).2]
  exact ⟨rfl, rfl⟩
theorem r1_PL (p : Int32) : zPL2 (zIp p) := ⟨by rw [zIp_val, zIp_val]; rfl, 0, by omega, by rw [zIp_val]; rfl, fun g hg => by omega⟩
set_option maxRecDepth 100000 in
theorem r1_K : rK zLp := by
  have h : ∀ w, w < 17 → zLp 53 w = nL (hv w) := by decide +kernel
  exact h
theorem zIp_Lr (p : Int32) {n f : Nat} (hn : n ≤ 24) : ¬ Lr (zIp p) n f := by
  rintro ⟨h1, h2⟩
  rw [zIp_val, if_neg (by omega), if_neg (by omega), if_pos ⟨rfl, by omega⟩] at h2
  exact nI_m1' (by omega) h2
theorem r1_rW (p : Int32) : ∃ n, rW (zIp p) (zIp p) n (fun _ => 0 + 1) := by
  obtain ⟨s, s1, s2, s3⟩ := zhands_s p
  have v6 : ∀ a b, (a = 6 ∧ b < 9) ∨ (a = 7 ∧ b < 18) ∨ (a = 8 ∧ b < 3) ∨ (a = 47 ∧ b < 24) ∨ (a = 62 ∧ b < 24) → zIp p a b = -1 := by
    intro a b h
    rw [zIp_val]
    rcases h with ⟨rfl, h⟩ | ⟨rfl, h⟩ | ⟨rfl, h⟩ | ⟨rfl, h⟩ | ⟨rfl, h⟩ <;> simp [h]
  refine ⟨s, ⟨s1, s2, ?_, ?_⟩, fun h hh => Or.inl ⟨v6 _ _ (by omega), v6 _ _ (by omega)⟩, fun h h' a1 a2 k _ _ _ => by rw [v6 47 h (by omega), v6 47 h' (by omega)], fun f hf => absurd hf (zIp_Lr p s2), fun k hk => Or.inl (zIp_0 p (by decide)), fun x hx => Or.inl (v6 _ _ (by omega)), fun x hx => Or.inl (v6 _ _ (by omega)), fun x hx => Or.inl (v6 _ _ (by omega)), fun r hr h => absurd (v6 _ _ (by omega)) h⟩
  · rw [zIp_val, if_neg (by omega), if_neg (by omega), if_neg (by omega), if_pos ⟨rfl, rfl⟩]; exact s3
  · rw [zIp_val, if_neg (by omega), if_pos ⟨rfl, rfl⟩]; exact s3
theorem r1_rM (p : Int32) : ∃ n, rM (zIp p) (zIp p) 0 n 0 24 0 (fun _ => 0) (fun _ => 0) 0 0 0 (fun _ => 0) (fun _ => 0) (fun _ => 0) := by
  obtain ⟨n, hn⟩ := r1_rW p
  have z48 : ∀ b, b ≠ 18 → zIp p 48 b = 0 := fun b h => by
    rw [zIp_val]
    simp [h]
  have z42 : zIp p 42 6 = 0 := by rw [zIp_val]; rfl
  have z : ∀ a b, a ≠ 62 ∧ a ≠ 48 ∧ a ≠ 47 ∧ a ≠ 42 ∧ a ≠ 8 ∧ a ≠ 7 ∧ a ≠ 6 → zIp p a b = 0 := fun a b h => zIp_0 p h
  refine ⟨n, ⟨z _ _ (by decide), ⟨by omega, by omega⟩, ⟨Nat.le_refl 0, (show 0 < 2200 by omega)⟩, z _ _ (by decide), fun i hi => absurd hi (by omega)⟩, ⟨z _ _ (by decide), Nat.le_refl _, 0, ⟨by omega, by omega⟩, z48 _ (by decide), 0, by omega, rfl⟩, z48 _ (by decide), ⟨z _ _ (by decide), z48 _ (by decide), by omega⟩, hn, ?_, ⟨0, by omega, z42, z48 _ (by decide)⟩, ⟨0, by omega, z _ _ (by decide), z48 _ (by decide)⟩, ?_, ⟨z _ _ (by decide), z48 _ (by decide)⟩, ⟨0, by omega, z _ _ (by decide), z48 _ (by decide)⟩, ?_, ⟨0, by omega, z _ _ (by decide), z48 _ (by decide)⟩, (r1_W p).1, (r1_W p).2⟩
  · refine ⟨fun s hs => ⟨?_, 0, by omega, z _ _ (by decide)⟩, fun r hr => ⟨⟨?_, 0, by omega, z _ _ (by decide)⟩, ?_, 0, by omega, z _ _ (by decide)⟩, fun m hm => ⟨?_, 0, by omega, z _ _ (by decide)⟩⟩
    · rw [z _ _ (by decide), z _ _ (by decide)]
    · rw [z _ _ (by decide), z _ _ (by decide)]
    · rw [z _ _ (by decide), z _ _ (by decide)]
    · rw [z _ _ (by decide), z _ _ (by decide)]
  · rw [z _ _ (by decide), z48 _ (by decide)]
  · rw [z _ _ (by decide), z48 _ (by decide)]
    exact ⟨rfl, by decide, by decide⟩
