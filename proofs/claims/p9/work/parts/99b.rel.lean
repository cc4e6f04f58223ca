/-! THE RELATION, and that every call keeps it -/
def zRelP : zRelT := fun i I L F a b c => (zRin F a b c ∧ zwfR zS0.length F) ∧ ((a = 24 ∧ b = 33) ∨ (a = 33 ∧ b = 24)) ∧ (∃ t ch, zTC I (t, ch) ∧ zTR I (t, ch)) ∧ zPW I ∧ zPL2 I ∧ rK L ∧ ∃ hh n m cnt A U at' WT w M P Fo, (m ≤ 120 * i ∧ I 48 13 = nI hh) ∧ rM I I hh n m a cnt A U at' WT w M P Fo
theorem zPL2_cong {I I' : zPI} (h : zPL2 I) (e : ∀ p y, p = 22 ∨ p = 75 ∨ (p = 17 ∧ y = 5) ∨ (p = 48 ∧ y = 51) → I' p y = I p y) : zPL2 I' := by
  obtain ⟨h1, n, h2, h3, h4⟩ := h
  exact ⟨by rw [e 17 5 (by decide), e 48 51 (by decide)]; exact h1, n, h2, by rw [e 17 5 (by decide)]; exact h3, fun g hg => by rw [e 22 g (by omega), e 75 g (by omega)]; exact h4 g hg⟩
theorem rP_init : zInit zRelP := by
  intro p
  obtain ⟨n, hM⟩ := r1_rM p
  exact ⟨⟨zFp_in, zFp_wf⟩, Or.inl ⟨rfl, rfl⟩, ⟨0, fun _ => 0, (r1_T p).1, (r1_T p).2⟩, r1_PW p, r1_PL p, r1_K, 0, n, 0, 0, _, _, 0, 0, 0, _, _, _, ⟨by omega, by rw [zIp_val]; rfl⟩, hM⟩
theorem rP_R : zStR zRelP := by
  rintro i I L F a b c ⟨hF, hab, hT, hPW, hPL, hK, hh, n, m, cnt, A, U, at', WT, w, M, P, Fo, ⟨hm, h13⟩, hM⟩
  exact ⟨hF.1, hF.2, hF, hab, hT, hPW, hPL, hK, hh, n, m, cnt, A, U, at', WT, w, M, P, Fo, ⟨by omega, h13⟩, hM⟩
/-- nothing changed but the mark of what was thrown -/
theorem rP_same {i : Nat} {I I' : zPI} {L L' : zPL} {F : zPF} {a b : Nat} {c : Option Nat} (h : zRelP i I L F a b c) (e : ∀ p y, ¬ (p = 48 ∧ y = 0) → I' p y = I p y) (hL : ∀ y, L' 53 y = L 53 y) : zRelP (i + 7) I' L' F a b c := by
  obtain ⟨hF, hab, ⟨t, ch, hC, hR⟩, hPW, hPL, hK, hh, n, m, cnt, A, U, at', WT, w, M, P, Fo, ⟨hm, h13⟩, hM⟩ := h
  have ha : a = 24 ∨ a = 33 := by omega
  exact ⟨hF, hab, ⟨t, ch, zTC_cong hC (e _ _ (by omega)) (fun y => e _ _ (by omega)), zTR_cong hR (e _ _ (by omega)) (fun y => e _ _ (by omega))⟩, zPW_cong hPW (fun p hp y => e _ _ (by omega)), zPL2_cong hPL (fun p y hp => e _ _ (by omega)), fun x hx => by rw [hL]; exact hK x hx, hh, n, m, cnt, A, U, at', WT, w, M, P, Fo, ⟨by omega, by rw [e _ _ (by omega)]; exact h13⟩, rM_cong ha hM (fun x y _ _ _ => e _ _ (by omega)) (fun x y _ => e _ _ (by omega))⟩
theorem z480 {I : zPI} {x : Int32} : ∀ p y, ¬ (p = 48 ∧ y = 0) → zu I 48 0 x p y = I p y := fun p y h => by
  by_cases h7 : p = 48
  · exact zu_col (by omega)
  · exact zu_row h7
theorem rP_feed : zSt_feed zRelP := by
  rintro i I L F a b c p1 p2 p3 hi ⟨hF, hab, ⟨t, ch, hC, hR⟩, hPW, hPL, hK, hh, n, m, cnt, A, U, at', WT, w, M, P, Fo, ⟨hm, h13⟩, hM⟩
  have ha : a = 24 ∨ a = 33 := by omega
  obtain ⟨v, I1, I2, ⟨t', ch'⟩, e1, e2, hC', hR', fr⟩ := q_feed hC hR p1 p2 p3
  exact ⟨v, I1, I2, e1, e2, hF, hab, ⟨t', ch', hC', hR'⟩, zPW_cong hPW (fun p hp y => fr p y (by omega)), zPL2_cong hPL (fun p y hp => fr p y (by omega)), hK, hh, n, m, cnt, A, U, at', WT, w, M, P, Fo, ⟨by omega, by rw [fr _ _ (by omega)]; exact h13⟩, rM_cong ha hM (fun x y _ _ _ => fr _ _ (by omega)) (fun x y _ => fr _ _ (by omega))⟩
theorem rP_foretell : zSt_foretell zRelP := by
  rintro i I L F a b c p1 p2 p3 hi ⟨hF, hab, ⟨t, ch, hC, hR⟩, hPW, hPL, hK, hh, n, m, cnt, A, U, at', WT, w, M, P, Fo, ⟨hm, h13⟩, hM⟩
  have ha : a = 24 ∨ a = 33 := by omega
  obtain ⟨v, I1, I2, e1, e2, fr, hp⟩ := q_foretell (I := I) p1 p2 p3
  exact ⟨v, I1, I2, e1, e2, hF, hab, ⟨t, ch, zTC_cong hC (fr _ _ (by omega)) (fun y => fr _ _ (by omega)), zTR_cong hR (fr _ _ (by omega)) (fun y => fr _ _ (by omega))⟩, hp hPW, zPL2_cong hPL (fun p y hp => fr p y (by omega)), hK, hh, n, m, cnt, A, U, at', WT, w, M, P, Fo, ⟨by omega, by rw [fr _ _ (by omega)]; exact h13⟩, rM_cong ha hM (fun x y _ _ _ => fr _ _ (by omega)) (fun x y _ => fr _ _ (by omega))⟩
theorem rP_plan : zSt_plan zRelP := by
  rintro i I L F a b c p1 p2 hi ⟨hF, hab, ⟨t, ch, hC, hR⟩, hPW, hPL, hK, hh, n, m, cnt, A, U, at', WT, w, M, P, Fo, ⟨hm, h13⟩, hM⟩
  have ha : a = 24 ∨ a = 33 := by omega
  obtain ⟨v, I1, L1, I2, e1, e2, fr, fl, hp⟩ := q_plan hPW L p1 p2
  exact ⟨v, I1, L1, I2, e1, e2, hF, hab, ⟨t, ch, zTC_cong hC (fr _ _ (by omega)) (fun y => fr _ _ (by omega)), zTR_cong hR (fr _ _ (by omega)) (fun y => fr _ _ (by omega))⟩, zPW_cong hPW (fun p hp y => fr p y (by omega)), hp hPL, fun x hx => by rw [fl _ _ (by omega)]; exact hK x hx, hh, n, m, cnt, A, U, at', WT, w, M, P, Fo, ⟨by omega, by rw [fr _ _ (by omega)]; exact h13⟩, rM_cong ha hM (fun x y _ _ _ => fr _ _ (by omega)) (fun x y _ => fr _ _ (by omega))⟩
theorem rP_minutes : zSt_minutes zRelP := by
  rintro i I L F a b c p1 hi ⟨hF, hab, ⟨t, ch, hC, hR⟩, hPW, hPL, hK, hh, n, m, cnt, A, U, at', WT, w, M, P, Fo, ⟨hm, h13⟩, hM⟩
  have ha : a = 24 ∨ a = 33 := by omega
  obtain ⟨v, I1, I2, m2, at2, WT2, e1, e2, hm2, hM2, fr⟩ := q_minutes ha (by omega) hM p1
  exact ⟨v, I1, I2, e1, e2, hF, hab, ⟨t, ch, zTC_cong hC (fr _ _ (by omega)) (fun y => fr _ _ (by omega)), zTR_cong hR (fr _ _ (by omega)) (fun y => fr _ _ (by omega))⟩, zPW_cong hPW (fun p hp y => fr p y (by omega)), zPL2_cong hPL (fun p y hp => fr p y (by omega)), hK, hh, n, m2, cnt, A, U, at2, WT2, w, M, P, Fo, ⟨by omega, by rw [fr _ _ (by omega)]; exact h13⟩, hM2⟩
/-- what a text, the winds have no part in -/
def rM0 (I J : zPI) (n m : Nat) : Prop := J 48 46 = nI 0 ∧ rW I J n (fun _ => m + 1) ∧ rG I J ∧ (∃ d, d < 3 ∧ I 42 6 = nI d ∧ J 48 28 = nI d) ∧ (∃ v, v < 32 ∧ I 0 14 = nI v ∧ J 48 31 = nI v) ∧ I 0 11 = J 48 36 ∧ (I 0 12 = nI m ∧ J 48 29 = nI m) ∧ (∃ c, c < 32 ∧ I 0 13 = nI c ∧ J 48 30 = nI c) ∧ (I 0 15 = J 48 32 ∧ -3 ≤ (I 0 15).toInt ∧ (I 0 15).toInt ≤ 14) ∧ (∃ p, p ≤ 18 * m ∧ I 1 7 = nI p ∧ J 48 35 = nI p)
theorem rM0_cong {I J I' J' : zPI} {n m : Nat} (h : rM0 I J n m) (eI : ∀ x y, (x ≤ 8 ∧ ¬ (x = 0 ∧ (y = 9 ∨ y = 10))) ∨ (42 ≤ x ∧ x ≤ 47) → I' x y = I x y) (eJ : ∀ x y, (x = 48 ∧ 17 < y ∧ y < 47 ∧ y ≠ 37 ∧ y ≠ 38 ∧ y ≠ 39) ∨ (58 ≤ x ∧ x ≤ 66) → J' x y = J x y) : rM0 I' J' n m := by
  obtain ⟨h46, hW, hG, ⟨dk, hdk, hk1, hk2⟩, ⟨ws, hws, hw1, hw2⟩, h11, ⟨h12, h29⟩, ⟨c, hc, hc1, hc2⟩, ⟨hs1, hs2, hs3⟩, ⟨p, hp, hp1, hp2⟩⟩ := h
  exact ⟨by rw [eJ _ _ (by decide)]; exact h46, rW_cong hW (eI _ _ (by decide)) (eJ _ _ (by decide)) (fun x hx b => eI _ _ (by omega)) (fun x hx b => eJ _ _ (by omega)), rG_cong hG (fun x hx b => eI _ _ (by omega)) (fun x hx b => eJ _ _ (by omega)), ⟨dk, hdk, by rw [eI _ _ (by decide)]; exact hk1, by rw [eJ _ _ (by decide)]; exact hk2⟩, ⟨ws, hws, by rw [eI _ _ (by decide)]; exact hw1, by rw [eJ _ _ (by decide)]; exact hw2⟩, by rw [eI _ _ (by decide), eJ _ _ (by decide)]; exact h11, ⟨by rw [eI _ _ (by decide)]; exact h12, by rw [eJ _ _ (by decide)]; exact h29⟩, ⟨c, hc, by rw [eI _ _ (by decide)]; exact hc1, by rw [eJ _ _ (by decide)]; exact hc2⟩, ⟨by rw [eI _ _ (by decide), eJ _ _ (by decide)]; exact hs1, by rw [eI _ _ (by decide)]; exact hs2, by rw [eI _ _ (by decide)]; exact hs3⟩, ⟨p, hp, by rw [eI _ _ (by decide)]; exact hp1, by rw [eJ _ _ (by decide)]; exact hp2⟩⟩
theorem rP_wind : zSt_wind zRelP := by
  rintro i I L F a b c p1 p2 p3 hi ⟨hF, hab, ⟨t, ch, hC, hR⟩, hPW, hPL, hK, hh, n, m, cnt, A, U, at', WT, w, M, P, Fo, ⟨hm, h13⟩, hT, ⟨h9, hat, pc, hpc, h37, hL⟩, h46, ⟨h10, h38, hWT⟩, hW, hG, hdk, hws, h11, h12, hc, hs, hpt, hC9, hR9⟩
  have ha : a = 24 ∨ a = 33 := by omega
  obtain ⟨v, I1, I2, e1, e2, fr, w', M', P', F', hC', hR', -⟩ := q_wind hC9 hR9 p1 p2 p3
  have h0 : rM0 I I n m := ⟨h46, hW, hG, hdk, hws, h11, h12, hc, hs, hpt⟩
  obtain ⟨g46, gW, gG, gdk, gws, g11, g12, gc, gs, gpt⟩ := rM0_cong (I' := I2) (J' := I2) h0 (fun x y hx => fr _ _ (by omega)) (fun x y hx => fr _ _ (by omega))
  exact ⟨v, I1, I2, e1, e2, hF, hab, ⟨t, ch, zTC_cong hC (fr _ _ (by omega)) (fun y => fr _ _ (by omega)), zTR_cong hR (fr _ _ (by omega)) (fun y => fr _ _ (by omega))⟩, zPW_cong hPW (fun p hp y => fr p y (by omega)), zPL2_cong hPL (fun p y hp => fr p y (by omega)), hK, hh, n, m, cnt, A, U, at', WT, w', M', P', F', ⟨by omega, by rw [fr _ _ (by omega)]; exact h13⟩, TX_cong hT (fun k hk y => fr _ _ (by omega)) (fun x hx y => fr _ _ (by omega)), ⟨by rw [fr _ _ (by omega)]; exact h9, hat, pc, hpc, by rw [fr _ _ (by omega)]; exact h37, LdE_cong (fun x hx y => fr _ _ (by omega)) hL⟩, g46, ⟨by rw [fr _ _ (by omega)]; exact h10, by rw [fr _ _ (by omega)]; exact h38, hWT⟩, gW, gG, gdk, gws, g11, g12, gc, gs, gpt, hC', hR'⟩
theorem rP_sail : zSt_sail zRelP := by
  intro i I L F a b c p1 p2 hi h
  have h' := h
  obtain ⟨-, -, -, -, -, -, hh, n, m, cnt, A, U, at', WT, w, M, P, Fo, -, -, -, -, -, hW, hG, -⟩ := h'
  obtain ⟨v, e1, e2⟩ := q_sail hW hG p1 p2
  exact ⟨v, _, e1, e2, rP_same h z480 (fun _ => rfl)⟩
theorem rP_rope : zSt_rope zRelP := by
  intro i I L F a b c p1 p2 hi h
  have h' := h
  obtain ⟨-, -, -, -, -, -, hh, n, m, cnt, A, U, at', WT, w, M, P, Fo, -, -, -, -, -, hW, hG, -⟩ := h'
  obtain ⟨v, e1, e2⟩ := q_rope hW hG p1 p2
  exact ⟨v, _, e1, e2, rP_same h z480 (fun _ => rfl)⟩
theorem rP_braced : zSt_braced zRelP := by
  intro i I L F a b c p1 hi h
  have h' := h
  obtain ⟨-, -, -, -, -, -, hh, n, m, cnt, A, U, at', WT, w, M, P, Fo, -, -, -, -, -, hW, hG, -⟩ := h'
  obtain ⟨v, e1, e2⟩ := q_braced (fun m hm => (hG.2.2 m hm).1) p1
  exact ⟨v, _, e1, e2, rP_same h z480 (fun _ => rfl)⟩
theorem rP_leg : zSt_leg zRelP := by
  intro i I L F a b c p1 hi h
  obtain ⟨v, e1, e2⟩ := q_leg h.2.2.2.2.1 p1
  exact ⟨v, _, e1, e2, rP_same h z480 (fun _ => rfl)⟩
theorem rP_look : zSt_look zRelP := by
  intro i I L F a b c p1 hi h
  have h' := h
  obtain ⟨-, -, -, -, -, -, hh, n, m, cnt, A, U, at', WT, w, M, P, Fo, ⟨hm, h13⟩, hT, ⟨h9, hat, pc, hpc, h37, hL⟩, -, -, -, -, -, -, -, ⟨-, h29⟩, -, -, -, -, hR9⟩ := h'
  have h2 := hT.2.1.2
  obtain ⟨v1, e2⟩ := q_look hR9 (by omega) h29 h13 h2 h37 (by omega) p1
  exact ⟨_, v1, _, rfl, e2, rP_same h z480 (fun _ => rfl)⟩
