/-! an idle minute (no work, no text, no sail set) -/
theorem zF_succ : zF = 99999 + 1 := rfl
theorem f_weigh (I : zPI) : ∃ I', fX8_weighParts I = some I' ∧ (∀ a b, a ≠ 23 → I' a b = I a b) ∧ I' 23 0 = 1 ∧ I' 23 1 = I 9 6 ∧ I' 23 2 = I 9 5 ∧ I' 23 3 = (if fX0_isAback (fX0_apart (I 9 5) (I 0 13)) = 0 then 0 else 1) ∧ I' 23 4 = I 0 15 ∧ I' 23 5 = I 0 13 ∧ I' 23 6 = zrm (I 0 12 / 60) 24 ∧ I' 23 7 = gw (I 3) (I 4) 18 := by
  have h3 : zin (3 : Int32) 8 = true := by decide
  have c3 : (3 : Int32).toNatClampNeg = 3 := by decide
  have key : ∀ x : Int32, ∃ I', fX8_weighParts_65 3 x (zu (zu (zu I 23 0 1) 23 1 ((zu I 23 0 1) 9 6)) 23 2 ((zu (zu I 23 0 1) 23 1 ((zu I 23 0 1) 9 6)) 9 5)) = some I' ∧ (∀ a b, a ≠ 23 → I' a b = I a b) ∧ I' 23 0 = 1 ∧ I' 23 1 = I 9 6 ∧ I' 23 2 = I 9 5 ∧ I' 23 3 = x ∧ I' 23 4 = I 0 15 ∧ I' 23 5 = I 0 13 ∧ I' 23 6 = zrm (I 0 12 / 60) 24 ∧ I' 23 7 = gw (I 3) (I 4) 18 := by
    intro x
    unfold fX8_weighParts_65
    rw [zif_t h3, f_gw, c3]
    simp only [Option.bind_some]
    refine ⟨_, rfl, fun a b h => ?_, ?_, ?_, ?_, ?_, ?_, ?_, ?_, ?_⟩
    · simp [zu, h]
    all_goals simp [zu]
    have e3 : (fun b => I 3 b) = I 3 := rfl
    first | done | rfl | (congr 1)
  unfold fX8_weighParts
  by_cases h : fX0_isAback (fX0_apart (I 9 5) (I 0 13)) = 0
  · rw [if_pos h, if_pos h]
    exact key 0
  · rw [if_neg h, if_neg h]
    exact key 1
theorem id_ew2 {K : zPI → Option zPI} {I : zPI} {s : Nat} (hs : s ≤ 24) (h0 : I 42 0 = nI s) (hl : ∀ h, h < 24 → I 47 h = -1) : ∀ (m n k : Nat), k + m = s → m < n → fX8_endWorks_2 K n (nI k) I = K I := by
  intro m
  induction m with
  | zero =>
    intro n k hk hn
    obtain ⟨n, rfl, -⟩ := zsucc hn
    rw [fX8_endWorks_2, h0, if_pos (nI_le (a := s) (b := k) (by omega) (by omega))]
  | succ m ih =>
    intro n k hk hn
    obtain ⟨n, rfl, hn⟩ := zsucc hn
    have hne : ¬ (-1 : Int32) = nI k := fun h => by
      have := congrArg Int32.toInt h
      rw [nI_toInt (by omega)] at this
      have e : (-1 : Int32).toInt = -1 := by decide
      omega
    rw [fX8_endWorks_2, h0, if_neg (nI_ge (a := k) (b := s) (by omega) (by omega)), fX1_isDue, zif_t (zin_nI (by omega) (by omega)), nI_clamp (by omega), hl k (by omega), if_neg hne]
    simp only [Option.bind_some, if_true]
    rw [nI_1]
    exact ih n (k + 1) (by omega) (by omega)
theorem id_draw5 {K : Int32 → Option Int32} {I : zPI} {x f v : Int32} (hl : ∀ s, s < 9 → I 2 s ≠ 1) : ∀ (m n k : Nat), k + m = 9 → m < n → fX4_draw_5 I K n x f v (nI k) = K v := by
  intro m
  induction m with
  | zero =>
    intro n k hk hn
    obtain ⟨n, rfl, -⟩ := zsucc hn
    have : k = 9 := by omega
    subst this
    rw [fX4_draw_5, if_pos (show (9 : Int32) ≤ nI 9 by decide)]
  | succ m ih =>
    intro n k hk hn
    obtain ⟨n, rfl, hn⟩ := zsucc hn
    rw [fX4_draw_5, if_neg (show ¬ (9 : Int32) ≤ nI k from nI_ge (a := k) (b := 9) (by omega) (by omega)), zif_t (zin_nI (by omega) (by omega)), nI_clamp (by omega), if_neg (hl k (by omega)), nI_1]
    exact ih n (k + 1) (by omega) (by omega)
theorem id_ss2 {K : zPI → Option zPI} {I : zPI} {x : Int32} (hl : ∀ s, s < 9 → I 2 s ≠ 1) : ∀ (m n k : Nat), k + m = 9 → m < n → fX8_strainSails_2 K n x (nI k) I = K I := by
  intro m
  induction m with
  | zero =>
    intro n k hk hn
    obtain ⟨n, rfl, -⟩ := zsucc hn
    have : k = 9 := by omega
    subst this
    rw [fX8_strainSails_2, if_pos (show (9 : Int32) ≤ nI 9 by decide)]
  | succ m ih =>
    intro n k hk hn
    obtain ⟨n, rfl, hn⟩ := zsucc hn
    rw [fX8_strainSails_2, if_neg (show ¬ (9 : Int32) ≤ nI k from nI_ge (a := k) (b := 9) (by omega) (by omega)), zif_t (zin_nI (by omega) (by omega)), zif_t (zin_nI (by omega) (by omega)), nI_clamp (by omega), if_neg (hl k (by omega)), nI_1]
    exact ih n (k + 1) (by omega) (by omega)
def zIdC (I : zPI) (m : Nat) : Prop := I 0 9 = 0 ∧ I 0 10 = 0 ∧ I 24 0 = 0 ∧ I 0 12 = nI m ∧ I 0 13 = 0 ∧ I 0 14 = 0 ∧ I 0 15 = 0 ∧ (∃ s, s ≤ 24 ∧ I 42 0 = nI s) ∧ (∀ h, h < 24 → I 47 h = -1) ∧ (∀ s, s < 9 → I 2 s = 0) ∧ I 9 3 = 0
def zIdR (I : zPI) (m : Nat) : Prop := I 48 29 = nI m ∧ I 48 30 = 0 ∧ I 48 31 = 0 ∧ I 48 32 = 0 ∧ (∃ s, s ≤ 24 ∧ I 48 18 = nI s) ∧ (∀ h, h < 24 → I 62 h = -1) ∧ (∀ s, s < 9 → I 58 s = 0) ∧ I 48 39 = 0 ∧ I 48 37 = 0 ∧ I 54 0 = 0 ∧ I 48 38 = 0
theorem id_pass {I : zPI} {m : Nat} (hm : m < 1000) (h : zIdC I m) : ∃ I', fX8_passMinute 24 I = some I' ∧ zIdC I' (m + 1) ∧ (∀ a b, 48 ≤ a → I' a b = I a b) := by
  obtain ⟨c1, c2, c3, c4, c5, c6, c7, ⟨s, hs, c8⟩, c9, c10, c11⟩ := h
  -- the wind
  have hW : zWC (zu (zu I 0 12 (nI (m + 1))) 9 4 1) 0 (fun _ => 0) (fun _ => 0) (fun _ => 0) := ⟨by rw [zu_col (by decide), zu_row (by decide)]; exact c11, by omega, fun j hj => by omega⟩
  obtain ⟨A, a1, a2, a3, a4⟩ := wi_find (m := m + 1) (by omega) hW
  have hA : ∀ a b, a ≠ 9 → ¬ (a = 0 ∧ b = 12) → A a b = I a b := fun a b h1 h2 => by
    rw [a4 a b (by omega), zu_row h1]
    by_cases h7 : a = 0
    · exact zu_col (by omega)
    · exact zu_row h7
  have hA93 : A 9 3 = 0 := by rw [a4 _ _ (by decide), zu_col (by decide), zu_row (by decide)]; exact c11
  have hA12 : A 0 12 = nI (m + 1) := by rw [a4 _ _ (by decide), zu_row (by decide), zu_same]
  have eb : fX7_blow (zu I 0 12 (nI (m + 1))) (nI (m + 1)) = some A := by rw [fX7_blow, a1]; rfl
  have ew : fX8_endWorks A = some A := id_ew2 (K := fun I => some I) hs (by rw [hA _ _ (by decide) (by decide)]; exact c8) (fun h hh => by rw [hA _ _ (by decide) (by omega)]; exact c9 h hh) s zF 0 (by omega) (zF_lt (by omega))
  obtain ⟨B, b1, b2, -⟩ := f_weigh A
  have hB : ∀ a b, a ≠ 9 → a ≠ 23 → ¬ (a = 0 ∧ b = 12) → B a b = I a b := fun a b h1 h2 h3 => by rw [b2 a b h2, hA a b h1 h3]
  have ec : fX8_carryOut 24 A = some B := by
    rw [fX8_carryOut, b1]
    simp only [Option.bind_some]
    rw [zF_succ, fX8_carryOut_6, if_neg (by decide), hB 0 10 (by decide) (by decide) (by decide), c2, if_pos rfl, hB 24 0 (by decide) (by decide) (by decide), c3, hB 0 9 (by decide) (by decide) (by decide), c1, if_pos (by decide), fX8_carryOut_63, hB 0 10 (by decide) (by decide) (by decide), c2, if_pos (by decide)]
  have hB12 : B 0 12 = nI (m + 1) := by rw [b2 _ _ (by decide)]; exact hA12
  have ht : fX0_turned (B 0 13) (B 0 14) = 0 := by rw [hB 0 13 (by decide) (by decide) (by decide), hB 0 14 (by decide) (by decide) (by decide), c5, c6]; decide
  have hd : ∀ x f : Int32, ∀ J : zPI, (∀ b, J 2 b = I 2 b) → fX4_draw J x f = some 0 := fun x f J hJ => id_draw5 (K := fun v => some v) (v := 0) (fun s hs => by rw [hJ, c10 s hs]; decide) 9 zF 0 (by omega) (zF_lt (by omega))
  have hst : ∀ x : Int32, ∀ J : zPI, (∀ b, J 2 b = I 2 b) → fX8_strainSails J x = some J := fun x J hJ => id_ss2 (K := fun I => some I) (fun s hs => by rw [hJ, c10 s hs]; decide) 9 zF 0 (by omega) (zF_lt (by omega))
  have hch : fX8_changeSpeed (zu B 0 13 0) 0 = zu B 0 13 0 := by
    unfold fX8_changeSpeed
    rw [zu_col (show (15 : Nat) ≠ 13 by decide), hB 0 15 (by decide) (by decide) (by decide), c7, if_pos (by decide), if_pos (by decide)]
  have row2 : ∀ b, zu B 0 13 0 2 b = I 2 b := fun b => by rw [zu_row (by decide), hB 2 b (by decide) (by decide) (by omega)]
  refine ⟨zu (zu (zu B 0 13 0) 0 16 (((zu B 0 13 0) 0 16) + (((zu B 0 13 0) 0 15) * zst1 (((zu B 0 13 0 0 13) - 8) &&& 31)))) 0 17 (((zu (zu B 0 13 0) 0 16 (((zu B 0 13 0) 0 16) + (((zu B 0 13 0) 0 15) * zst1 (((zu B 0 13 0 0 13) - 8) &&& 31)))) 0 17) + (((zu (zu B 0 13 0) 0 16 (((zu B 0 13 0) 0 16) + (((zu B 0 13 0) 0 15) * zst1 (((zu B 0 13 0 0 13) - 8) &&& 31)))) 0 15) * zst1 (((zu (zu B 0 13 0) 0 16 (((zu B 0 13 0) 0 16) + (((zu B 0 13 0) 0 15) * zst1 (((zu B 0 13 0 0 13) - 8) &&& 31)))) 0 13) &&& 31))), ?_, ?_, ?_⟩
  · unfold fX8_passMinute
    rw [c4, nI_1, zu_same, eb]
    simp only [Option.bind_some]
    rw [ew]
    simp only [Option.bind_some]
    rw [ec]
    simp only [Option.bind_some, zlet]
    rw [ht, hd _ _ _ row2]
    simp only [Option.bind_some]
    rw [hch, hst _ _ row2]
    simp only [Option.bind_some]
    rw [f_east]
    simp only [Option.bind_some]
    rw [f_north]
    rfl
  · have hfin : ∀ a b, ¬ (a = 0 ∧ (b = 12 ∨ b = 13 ∨ b = 16 ∨ b = 17)) → a ≠ 9 → a ≠ 23 → zu (zu (zu B 0 13 0) 0 16 (((zu B 0 13 0) 0 16) + (((zu B 0 13 0) 0 15) * zst1 (((zu B 0 13 0 0 13) - 8) &&& 31)))) 0 17 (((zu (zu B 0 13 0) 0 16 (((zu B 0 13 0) 0 16) + (((zu B 0 13 0) 0 15) * zst1 (((zu B 0 13 0 0 13) - 8) &&& 31)))) 0 17) + (((zu (zu B 0 13 0) 0 16 (((zu B 0 13 0) 0 16) + (((zu B 0 13 0) 0 15) * zst1 (((zu B 0 13 0 0 13) - 8) &&& 31)))) 0 15) * zst1 (((zu (zu B 0 13 0) 0 16 (((zu B 0 13 0) 0 16) + (((zu B 0 13 0) 0 15) * zst1 (((zu B 0 13 0 0 13) - 8) &&& 31)))) 0 13) &&& 31))) a b = I a b := fun a b h1 h2 h3 => by
      by_cases h7 : a = 0
      · rw [zu_col (by omega), zu_col (by omega), zu_col (by omega), hB a b h2 h3 (by omega)]
      · rw [zu_row h7, zu_row h7, zu_row h7, hB a b h2 h3 (by omega)]
    refine ⟨?_, ?_, ?_, ?_, ?_, ?_, ?_, ⟨s, hs, ?_⟩, ?_, ?_, ?_⟩
    · rw [hfin _ _ (by decide) (by decide) (by decide)]; exact c1
    · rw [hfin _ _ (by decide) (by decide) (by decide)]; exact c2
    · rw [hfin _ _ (by decide) (by decide) (by decide)]; exact c3
    · rw [zu_col (by decide), zu_col (by decide), zu_col (by decide)]; exact hB12
    · rw [zu_col (by decide), zu_col (by decide), zu_same]
    · rw [hfin _ _ (by decide) (by decide) (by decide)]; exact c6
    · rw [hfin _ _ (by decide) (by decide) (by decide)]; exact c7
    · rw [hfin _ _ (by decide) (by decide) (by decide)]; exact c8
    · intro h hh; rw [hfin _ _ (by omega) (by decide) (by decide)]; exact c9 h hh
    · intro h hh; rw [hfin _ _ (by omega) (by decide) (by decide)]; exact c10 h hh
    · rw [zu_row (by decide), zu_row (by decide), zu_row (by decide), b2 _ _ (by decide)]; exact hA93
  · intro a b h
    rw [zu_row (by omega), zu_row (by omega), zu_row (by omega), hB a b (by omega) (by omega) (by omega)]
theorem id_rew2 {K : zPI → Option zPI} {I : zPI} {s : Nat} (hs : s ≤ 24) (h0 : I 48 18 = nI s) (hl : ∀ h, h < 24 → I 62 h = -1) : ∀ (m n k : Nat), k + m = s → m < n → fX9_endWorks_2 K n (nI k) I = K I := by
  intro m
  induction m with
  | zero =>
    intro n k hk hn
    obtain ⟨n, rfl, -⟩ := zsucc hn
    rw [fX9_endWorks_2, h0, if_pos (nI_le (a := s) (b := k) (by omega) (by omega))]
  | succ m ih =>
    intro n k hk hn
    obtain ⟨n, rfl, hn⟩ := zsucc hn
    rw [fX9_endWorks_2, h0, if_neg (nI_ge (a := k) (b := s) (by omega) (by omega)), zif_t (zin_nI (by omega) (by omega)), nI_clamp (by omega), hl k (by omega), if_pos (by decide), nI_1]
    exact ih n (k + 1) (by omega) (by omega)
theorem id_s62 {K : Int32 → Int32 → Int32 → zPI → Option zPI} {I : zPI} {v1 v2 v3 v4 v5 : Int32} (hl : ∀ s, s < 9 → I 58 s ≠ 1) : ∀ (m n k : Nat), k + m = 9 → m < n → fX9_sails_62 K n v1 v2 v3 v4 v5 (nI k) I = K v1 v3 v5 I := by
  intro m
  induction m with
  | zero =>
    intro n k hk hn
    obtain ⟨n, rfl, -⟩ := zsucc hn
    have : k = 9 := by omega
    subst this
    rw [fX9_sails_62, if_pos (show (9 : Int32) ≤ nI 9 by decide)]
  | succ m ih =>
    intro n k hk hn
    obtain ⟨n, rfl, hn⟩ := zsucc hn
    rw [fX9_sails_62, if_neg (show ¬ (9 : Int32) ≤ nI k from nI_ge (a := k) (b := 9) (by omega) (by omega)), zif_t (zin_nI (by omega) (by omega)), nI_clamp (by omega), if_neg (hl k (by omega)), nI_1]
    exact ih n (k + 1) (by omega) (by omega)
theorem id_s269 {K : zPI → Option zPI} {I : zPI} {v1 v3 : Int32} (hl : ∀ s, s < 9 → I 58 s ≠ 1) : ∀ (m n k : Nat), k + m = 9 → m < n → fX9_sails_269 K n v1 v3 (nI k) I = K I := by
  intro m
  induction m with
  | zero =>
    intro n k hk hn
    obtain ⟨n, rfl, -⟩ := zsucc hn
    have : k = 9 := by omega
    subst this
    rw [fX9_sails_269, if_pos (show (9 : Int32) ≤ nI 9 by decide)]
  | succ m ih =>
    intro n k hk hn
    obtain ⟨n, rfl, hn⟩ := zsucc hn
    rw [fX9_sails_269, if_neg (show ¬ (9 : Int32) ≤ nI k from nI_ge (a := k) (b := 9) (by omega) (by omega)), zif_t (zin_nI (by omega) (by omega)), nI_clamp (by omega), if_neg (hl k (by omega)), nI_1]
    exact ih n (k + 1) (by omega) (by omega)
theorem id_goes {I : zPI} {m : Nat} (hm : m < 1000) (h : zIdR I m) : ∃ I', fX9_goes I = some I' ∧ zIdR I' (m + 1) := by
  obtain ⟨c1, c2, c3, c4, ⟨s, hs, c5⟩, c6, c7, c8, c9, c10, c11⟩ := h
  have w0 : wnd (fun _ => 0) (m + 1) 0 = none := rfl
  have hWR : ∀ J : zPI, J 48 39 = 0 → zWR J 0 (fun _ => 0) (fun _ => 0) (fun _ => 0) := fun J hJ => ⟨hJ, by omega, fun j hj => by omega⟩
  have hp : ∀ J : zPI, J 48 39 = 0 → J 48 29 = nI (m + 1) → fX9_point J = some 0 ∧ fX9_force J = some 0 := fun J h1 h2 => ⟨wi_point (m := m + 1) (by omega) (hWR J h1) h2, wi_force (m := m + 1) (by omega) (hWR J h1) h2⟩
  have hA : ∃ A : zPI, A = zu (zu (zu I 48 29 (nI (m + 1))) 48 43 0) 48 44 0 := ⟨_, rfl⟩
  obtain ⟨A, hA⟩ := hA
  have fA : ∀ a b, ¬ (a = 48 ∧ (b = 29 ∨ b = 43 ∨ b = 44)) → A a b = I a b := fun a b h => by
    rw [hA]
    by_cases h7 : a = 48
    · rw [zu_col (by omega), zu_col (by omega), zu_col (by omega)]
    · rw [zu_row h7, zu_row h7, zu_row h7]
  have A29 : A 48 29 = nI (m + 1) := by rw [hA, zu_col (by decide), zu_col (by decide), zu_same]
  have ew : fX9_endWorks A = some A := id_rew2 (K := fun I => some I) hs (by rw [fA _ _ (by decide)]; exact c5) (fun h hh => by rw [fA _ _ (by omega)]; exact c6 h hh) s zF 0 (by omega) (zF_lt (by omega))
  have ec : fX9_carries A = some A := by
    have z0 : zin (0 : Int32) 4400 = true := by decide
    rw [fX9_carries, zF_succ, fX9_carries_2, if_neg (by decide), A29, fA 48 38 (by decide), c11, if_neg (nI_pos (by omega)), fA 48 37 (by decide), c9, zif_t z0]
    rw [show (0 : Int32).toNatClampNeg = 0 by decide, fA 54 0 (by decide), c10, if_pos rfl]
  have es : ∃ B, fX9_sails A = some B ∧ (∀ a b, ¬ (a = 48 ∧ b = 32) → B a b = A a b) ∧ B 48 32 = 0 := by
    have hl : ∀ J : zPI, (∀ b, J 58 b = A 58 b) → ∀ s, s < 9 → J 58 s ≠ 1 := fun J hJ s hs => by rw [hJ, fA _ _ (by omega), c7 s hs]; decide
    have k1 : ∀ v1 v2 v3 s0 : Int32, fX9_sails_54 v1 v2 v3 s0 A = some (zu A 48 32 0) := by
      intro v1 v2 v3 s0
      unfold fX9_sails_54
      have h9 := id_s62 (K := fun v1 v3 v5 I => (if (v5 / 20) ≤ 14 then (if (-3) ≤ (v5 / 20) then fX9_sails_228 v1 v3 (v5 / 20) I else fX9_sails_228 v1 v3 (-3) I) else fX9_sails_228 v1 v3 14 I)) (v1 := v1) (v2 := v2) (v3 := v3) (v4 := s0) (v5 := 0) (hl A (fun _ => rfl)) 9 zF 0 (by omega) (zF_lt (by omega))
      refine h9.trans ?_
      rw [if_pos (by decide), if_pos (by decide)]
      unfold fX9_sails_228
      rw [fA 48 32 (by decide), c4, if_pos (by decide), if_pos (by decide)]
      unfold fX9_sails_262
      exact id_s269 (K := fun I => some I) (hl _ (fun b => zu_row (by decide))) 9 zF 0 (by omega) (zF_lt (by omega))
    have k2 : ∀ v1 v2 s0 : Int32, fX9_sails_27 v1 v2 s0 A = some (zu A 48 32 0) := by
      intro v1 v2 s0
      unfold fX9_sails_27
      by_cases h : (((16 - v2) * 8) / 10) ≤ 8
      · rw [if_pos h]; exact k1 _ _ _ _
      · rw [if_neg h]; exact k1 _ _ _ _
    obtain ⟨p1, p2⟩ := hp A (by rw [fA _ _ (by decide)]; exact c8) A29
    refine ⟨zu A 48 32 0, ?_, fun a b h => ?_, zu_same⟩
    · rw [fX9_sails, p2]
      simp only [Option.bind_some]
      rw [p1]
      simp only [Option.bind_some]
      by_cases h : 5 ≤ fX9_apart 0 (A 48 30)
      · rw [if_pos h]; exact k2 _ _ _
      · rw [if_neg h]; exact k2 _ _ _
    · by_cases h7 : a = 48
      · exact zu_col (by omega)
      · exact zu_row h7
  obtain ⟨B, e1, e2, e3⟩ := es
  refine ⟨zu (zu B 48 33 ((B 48 33) + ((B 48 32) * (fX9_dx (B 48 30))))) 48 34 (((zu B 48 33 ((B 48 33) + ((B 48 32) * (fX9_dx (B 48 30))))) 48 34) + (((zu B 48 33 ((B 48 33) + ((B 48 32) * (fX9_dx (B 48 30))))) 48 32) * (fX9_dy ((zu B 48 33 ((B 48 33) + ((B 48 32) * (fX9_dx (B 48 30))))) 48 30)))), ?_, ?_⟩
  · unfold fX9_goes
    rw [c1, nI_1, (hp _ (by rw [zu_col (by decide)]; exact c8) zu_same).1]
    simp only [Option.bind_some]
    rw [(hp _ (by rw [zu_col (by decide), zu_col (by decide)]; exact c8) (by rw [zu_col (by decide), zu_same])).2]
    simp only [Option.bind_some]
    rw [← hA, ew]
    simp only [Option.bind_some]
    rw [ec]
    simp only [Option.bind_some]
    rw [fA 48 30 (by decide), fA 48 31 (by decide), c2, c3, if_pos rfl, fX9_goes_87, e1]
    rfl
  · have hfin : ∀ a b, ¬ (a = 48 ∧ (b = 29 ∨ b = 43 ∨ b = 44 ∨ b = 32 ∨ b = 33 ∨ b = 34)) → zu (zu B 48 33 ((B 48 33) + ((B 48 32) * (fX9_dx (B 48 30))))) 48 34 (((zu B 48 33 ((B 48 33) + ((B 48 32) * (fX9_dx (B 48 30))))) 48 34) + (((zu B 48 33 ((B 48 33) + ((B 48 32) * (fX9_dx (B 48 30))))) 48 32) * (fX9_dy ((zu B 48 33 ((B 48 33) + ((B 48 32) * (fX9_dx (B 48 30))))) 48 30)))) a b = I a b := fun a b h => by
      by_cases h7 : a = 48
      · rw [zu_col (by omega), zu_col (by omega), e2 a b (by omega), fA a b (by omega)]
      · rw [zu_row h7, zu_row h7, e2 a b (by omega), fA a b (by omega)]
    refine ⟨?_, ?_, ?_, ?_, ⟨s, hs, ?_⟩, ?_, ?_, ?_, ?_, ?_, ?_⟩
    · rw [zu_col (by decide), zu_col (by decide), e2 _ _ (by decide)]; exact A29
    · rw [hfin _ _ (by decide)]; exact c2
    · rw [hfin _ _ (by decide)]; exact c3
    · rw [zu_col (by decide), zu_col (by decide)]; exact e3
    · rw [hfin _ _ (by decide)]; exact c5
    · intro h hh; rw [hfin _ _ (by omega)]; exact c6 h hh
    · intro h hh; rw [hfin _ _ (by omega)]; exact c7 h hh
    · rw [hfin _ _ (by decide)]; exact c8
    · rw [hfin _ _ (by decide)]; exact c9
    · rw [hfin _ _ (by decide)]; exact c10
    · rw [hfin _ _ (by decide)]; exact c11
theorem id_m14 {K : zPI → Option (Int32 × zPI)} {N : Nat} (hN : N ≤ 120) : ∀ (m n k : Nat) (I : zPI), k + m = N → m < n → zIdC I k → ∃ I', fX8_minutes_14 24 K n (nI N) (nI k) I = K I' ∧ zIdC I' N ∧ (∀ a b, 48 ≤ a → I' a b = I a b) := by
  intro m
  induction m with
  | zero =>
    intro n k I hk hn h
    obtain ⟨n, rfl, -⟩ := zsucc hn
    have : k = N := by omega
    subst this
    exact ⟨I, by rw [fX8_minutes_14, if_pos (nI_le (Nat.le_refl _) (by omega))], h, fun _ _ _ => rfl⟩
  | succ m ih =>
    intro n k I hk hn h
    obtain ⟨n, rfl, hn⟩ := zsucc hn
    obtain ⟨I1, e1, e2, e3⟩ := id_pass (by omega) h
    obtain ⟨I2, f1, f2, f3⟩ := ih n (k + 1) I1 (by omega) (by omega) e2
    refine ⟨I2, ?_, f2, fun a b h => by rw [f3 a b h, e3 a b h]⟩
    rw [fX8_minutes_14, if_neg (nI_ge (a := k) (b := N) (by omega) (by omega)), e1]
    simp only [Option.bind_some, nI_1]
    exact f1
theorem id_m19 {K : zPI → Option (Int32 × zPI)} {N : Nat} (hN : N ≤ 120) : ∀ (m n k : Nat) (I : zPI), k + m = N → m < n → zIdR I k → ∃ I', fX9_minutes_19 K n (nI N) (nI k) I = K I' ∧ zIdR I' N := by
  intro m
  induction m with
  | zero =>
    intro n k I hk hn h
    obtain ⟨n, rfl, -⟩ := zsucc hn
    have : k = N := by omega
    subst this
    exact ⟨I, by rw [fX9_minutes_19, if_pos (nI_le (Nat.le_refl _) (by omega))], h⟩
  | succ m ih =>
    intro n k I hk hn h
    obtain ⟨n, rfl, hn⟩ := zsucc hn
    obtain ⟨I1, e1, e2⟩ := id_goes (by omega) h
    obtain ⟨I2, f1, f2⟩ := ih n (k + 1) I1 (by omega) (by omega) e2
    refine ⟨I2, ?_, f2⟩
    rw [fX9_minutes_19, if_neg (nI_ge (a := k) (b := N) (by omega) (by omega)), e1]
    simp only [Option.bind_some, nI_1]
    exact f1
theorem id_minutes {I : zPI} (hC : zIdC I 0) (hR : zIdR I 0) (p : Int32) : ∃ v I1 I2, fX8_minutes 24 I p = some (v, I1) ∧ fX9_minutes I1 p = some (v, I2) := by
  have e120 : (120 : Int32).toInt = 120 := by decide
  unfold fX8_minutes fX9_minutes
  by_cases h0 : p < 0
  · exact ⟨-1, I, zu I 48 0 0, by rw [if_pos h0], by rw [if_pos h0]⟩
  by_cases h1 : p ≤ 120
  · have h0' := h0
    have h1' := h1
    rw [zlt_i, zi_n0] at h0'
    rw [zle_i] at h1'
    obtain ⟨N, hN, rfl⟩ := zsmall (x := p) (n := 121) (by omega) (by omega)
    obtain ⟨I1, e1, e2, e3⟩ := id_m14 (K := fun I => some (I 0 12, I)) (N := N) (by omega) N zF 0 I (by omega) (zF_lt (by omega)) hC
    have hR1 : zIdR (zu I1 48 0 0) 0 := by
      obtain ⟨c1, c2, c3, c4, ⟨s, hs, c5⟩, c6, c7, c8, c9, c10, c11⟩ := hR
      have fr : ∀ a b, 48 ≤ a → ¬ (a = 48 ∧ b = 0) → zu I1 48 0 0 a b = I a b := fun a b h1 h2 => by
        by_cases h7 : a = 48
        · rw [zu_col (by omega), e3 a b h1]
        · rw [zu_row h7, e3 a b h1]
      refine ⟨?_, ?_, ?_, ?_, ⟨s, hs, ?_⟩, ?_, ?_, ?_, ?_, ?_, ?_⟩
      · rw [fr _ _ (by decide) (by decide)]; exact c1
      · rw [fr _ _ (by decide) (by decide)]; exact c2
      · rw [fr _ _ (by decide) (by decide)]; exact c3
      · rw [fr _ _ (by decide) (by decide)]; exact c4
      · rw [fr _ _ (by decide) (by decide)]; exact c5
      · intro h hh; rw [fr _ _ (by decide) (by omega)]; exact c6 h hh
      · intro h hh; rw [fr _ _ (by decide) (by omega)]; exact c7 h hh
      · rw [fr _ _ (by decide) (by decide)]; exact c8
      · rw [fr _ _ (by decide) (by decide)]; exact c9
      · rw [fr _ _ (by decide) (by decide)]; exact c10
      · rw [fr _ _ (by decide) (by decide)]; exact c11
    obtain ⟨I2, f1, f2⟩ := id_m19 (K := fun I => some (I 48 29, I)) (N := N) (by omega) N zF 0 (zu I1 48 0 0) (by omega) (zF_lt (by omega)) hR1
    refine ⟨nI N, I1, I2, ?_, ?_⟩
    · rw [if_neg h0, if_pos h1]
      refine e1.trans ?_
      rw [e2.2.2.2.1]
    · rw [if_neg h0, if_pos h1]
      refine f1.trans ?_
      rw [f2.1]
  · exact ⟨-1, I, zu I 48 0 0, by rw [if_neg h0, if_neg h1], by rw [if_neg h0, if_neg h1]⟩
