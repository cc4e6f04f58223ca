/-! works end -/
theorem rG_u2 {I J : zPI} {s k : Nat} (h : rG I J) (hk : k < 3) : rG (zu I 2 s (nI k)) (zu J 58 s (nI k)) := by
  obtain ⟨h1, h2, h3⟩ := h
  refine ⟨fun x hx => ?_, fun x hx => ?_, fun x hx => ?_⟩
  · by_cases e : x = s
    · subst e
      rw [zu_same, zu_same]
      exact ⟨rfl, k, hk, rfl⟩
    · rw [zu_col e, zu_col e]
      exact h1 x hx
  · rw [zu_row (by decide), zu_row (by decide), zu_row (by decide), zu_row (by decide)]; exact h2 x hx
  · rw [zu_row (by decide), zu_row (by decide)]; exact h3 x hx
theorem rG_u3 {I J : zPI} {s k : Nat} (h : rG I J) (hk : k < 3) : rG (zu I 3 s (nI k)) (zu J 59 s (nI k)) := by
  obtain ⟨h1, h2, h3⟩ := h
  refine ⟨fun x hx => ?_, fun x hx => ?_, fun x hx => ?_⟩
  · rw [zu_row (by decide), zu_row (by decide)]; exact h1 x hx
  · rw [zu_row (show (4 : Nat) ≠ 3 by decide), zu_row (show (60 : Nat) ≠ 59 by decide)]
    by_cases e : x = s
    · subst e
      rw [zu_same, zu_same]
      exact ⟨⟨rfl, k, hk, rfl⟩, (h2 x hx).2⟩
    · rw [zu_col e, zu_col e]
      exact h2 x hx
  · rw [zu_row (by decide), zu_row (by decide)]; exact h3 x hx
theorem rG_u4 {I J : zPI} {s w : Nat} (h : rG I J) (hw : w ≤ 900) : rG (zu I 4 s (nI w)) (zu J 60 s (nI w)) := by
  obtain ⟨h1, h2, h3⟩ := h
  refine ⟨fun x hx => ?_, fun x hx => ?_, fun x hx => ?_⟩
  · rw [zu_row (by decide), zu_row (by decide)]; exact h1 x hx
  · rw [zu_row (show (3 : Nat) ≠ 4 by decide), zu_row (show (59 : Nat) ≠ 60 by decide)]
    by_cases e : x = s
    · subst e
      rw [zu_same, zu_same]
      exact ⟨(h2 x hx).1, rfl, w, hw, rfl⟩
    · rw [zu_col e, zu_col e]
      exact h2 x hx
  · rw [zu_row (by decide), zu_row (by decide)]; exact h3 x hx
theorem rG_u5 {I J : zPI} {s y : Nat} (h : rG I J) (hy : y ≤ 8) : rG (zu I 5 s (nI y)) (zu J 61 s (nI y)) := by
  obtain ⟨h1, h2, h3⟩ := h
  refine ⟨fun x hx => ?_, fun x hx => ?_, fun x hx => ?_⟩
  · rw [zu_row (by decide), zu_row (by decide)]; exact h1 x hx
  · rw [zu_row (by decide), zu_row (by decide), zu_row (by decide), zu_row (by decide)]; exact h2 x hx
  · by_cases e : x = s
    · subst e
      rw [zu_same, zu_same]
      exact ⟨rfl, y, hy, rfl⟩
    · rw [zu_col e, zu_col e]
      exact h3 x hx
theorem zu_self (I : zPI) (o k : Nat) : zu I o k (I o k) = I := by
  funext a b
  by_cases h1 : a = o
  · by_cases h2 : b = k
    · subst h1 h2; exact zu_same
    · exact zu_col h2
  · exact zu_row h1
theorem two_s (s : Nat) : (2 : Int32) * nI s = nI (2 * s) := by rw [show (2 : Int32) = nI 2 from rfl, pk_mul]
theorem two_s1 (s : Nat) : (2 : Int32) * nI s + 1 = nI (2 * s + 1) := by rw [two_s, nI_1]
theorem half_r {r : Nat} (h : r < 1000) : nI r / 2 = nI (r / 2) := pk_div (a := r) (d := 2) (by omega) (by omega) (by omega)
theorem f_parted (I : zPI) {s : Nat} (hs : s < 9) : ∃ b, fX4_hasParted I (nI s) = some b ∧ (b ≠ 0 ↔ I 3 (2 * s) = 2 ∨ I 3 (2 * s + 1) = 2) := by
  rw [fX4_hasParted, two_s, nI_1, zif_t (zin_nI (by omega) (by omega)), nI_clamp (by omega)]
  by_cases h1 : I 3 (2 * s) = 2
  · exact ⟨1, by rw [if_pos h1], fun _ => Or.inl h1, fun _ => by decide⟩
  · rw [if_neg h1, zif_t (zin_nI (by omega) (by omega)), nI_clamp (by omega)]
    by_cases h2 : I 3 (2 * s + 1) = 2
    · exact ⟨1, by rw [if_pos h2], fun _ => Or.inr h2, fun _ => by decide⟩
    · exact ⟨0, by rw [if_neg h2], fun h => absurd rfl h, fun h => (h.elim h1 h2).elim⟩
/-- a work's end: finish, ended -/
theorem f_finish {I J : zPI} (hG : rG I J) {jb th am : Nat} (hj : jb < 4) (ht : th < zlim jb) (ha : am ≤ 8) : ∃ I1 J1, fX4_finish I (nI jb) (nI th) (nI am) = some I1 ∧ fX9_ended J (nI jb) (nI th) (nI am) = some J1 ∧ rG I1 J1 ∧
    (∀ a b, ¬ (a = 2 ∨ a = 3 ∨ a = 4 ∨ a = 5 ∨ a = 6 ∨ a = 7 ∨ a = 8) → I1 a b = I a b) ∧ (∀ a b, ¬ (a = 58 ∨ a = 59 ∨ a = 60 ∨ a = 61) → J1 a b = J a b) ∧
    (∀ s, I1 6 s = if jb < 2 ∧ s = th then -1 else I 6 s) ∧ (∀ s, I1 7 s = if jb = 3 ∧ s = th then -1 else I 7 s) ∧ (∀ s, I1 8 s = if jb = 2 ∧ s = th then -1 else I 8 s) ∧
    (∀ s, ¬ (jb < 2 ∧ s = th) → ¬ (jb = 3 ∧ s = th / 2) → I1 2 s = I 2 s) := by
  have hcase : jb = 0 ∨ jb = 1 ∨ jb = 2 ∨ jb = 3 := by omega
  have n0 : nI 0 = (0 : Int32) := rfl
  have n1 : nI 1 = (1 : Int32) := rfl
  have n2 : nI 2 = (2 : Int32) := rfl
  have n3 : nI 3 = (3 : Int32) := rfl
  rcases hcase with rfl | rfl | rfl | rfl
  · have ht : th < 9 := ht
    refine ⟨zu (zu (zu (zu I 6 th (-1)) 2 th 1) 3 (2 * th) 1) 3 (2 * th + 1) 1, zu (zu (zu J 58 th 1) 59 (2 * th) 1) 59 (2 * th + 1) 1, ?_, ?_, ?_, fun a b h => ?_, fun a b h => ?_, fun s => ?_, fun s => ?_, fun s => ?_, fun s h1 h2 => ?_⟩
    · rw [n0, fX4_finish, fX4_mark, if_neg (by decide), if_neg (by decide), zif_t (zin_nI ht (by omega)), nI_clamp (by omega)]
      simp only [Option.bind_some, if_true]
      rw [fX4_become, two_s, nI_1, zif_t (zin_nI ht (by omega)), zif_t (zin_nI (by omega) (by omega)), zif_t (zin_nI (by omega) (by omega)), nI_clamp (by omega), nI_clamp (by omega), nI_clamp (by omega)]
      rfl
    · rw [n0, fX9_ended, if_pos rfl, two_s, nI_1, zif_t (zin_nI ht (by omega)), zif_t (zin_nI (by omega) (by omega)), zif_t (zin_nI (by omega) (by omega)), nI_clamp (by omega), nI_clamp (by omega), nI_clamp (by omega)]
    · have h9 := rG_u3 (s := 2 * th + 1) (k := 1) (rG_u3 (s := 2 * th) (k := 1) (rG_u2 (s := th) (k := 1) (rG_cong (I' := zu I 6 th (-1)) (J' := J) hG (fun a ha b => zu_row (by omega)) (fun _ _ _ => rfl)) (by omega)) (by omega)) (by omega)
      exact h9
    · rw [zu_row (by omega), zu_row (by omega), zu_row (by omega), zu_row (by omega)]
    · rw [zu_row (by omega), zu_row (by omega), zu_row (by omega)]
    · rw [zu_row (by decide), zu_row (by decide), zu_row (by decide)]
      by_cases e : s = th
      · rw [if_pos ⟨by omega, e⟩, e, zu_same]
      · rw [if_neg (fun h => e h.2), zu_col e]
    · rw [zu_row (by decide), zu_row (by decide), zu_row (by decide), zu_row (by decide), if_neg (by omega)]
    · rw [zu_row (by decide), zu_row (by decide), zu_row (by decide), zu_row (by decide), if_neg (by omega)]
    · rw [zu_row (by decide), zu_row (by decide), zu_col (by omega), zu_row (by decide)]
  · have ht : th < 9 := ht
    refine ⟨zu (zu (zu (zu I 6 th (-1)) 2 th 0) 3 (2 * th) 0) 3 (2 * th + 1) 0, zu (zu (zu J 58 th 0) 59 (2 * th) 0) 59 (2 * th + 1) 0, ?_, ?_, ?_, fun a b h => ?_, fun a b h => ?_, fun s => ?_, fun s => ?_, fun s => ?_, fun s h1 h2 => ?_⟩
    · rw [n1, fX4_finish, fX4_mark, if_neg (by decide), if_neg (by decide), zif_t (zin_nI ht (by omega)), nI_clamp (by omega)]
      simp only [Option.bind_some, if_true]
      rw [if_neg (by decide), fX4_become, two_s, nI_1, zif_t (zin_nI ht (by omega)), zif_t (zin_nI (by omega) (by omega)), zif_t (zin_nI (by omega) (by omega)), nI_clamp (by omega), nI_clamp (by omega), nI_clamp (by omega)]
      rfl
    · rw [n1, fX9_ended, if_neg (by decide), if_pos rfl, two_s, nI_1, zif_t (zin_nI ht (by omega)), zif_t (zin_nI (by omega) (by omega)), zif_t (zin_nI (by omega) (by omega)), nI_clamp (by omega), nI_clamp (by omega), nI_clamp (by omega)]
    · have h9 := rG_u3 (s := 2 * th + 1) (k := 0) (rG_u3 (s := 2 * th) (k := 0) (rG_u2 (s := th) (k := 0) (rG_cong (I' := zu I 6 th (-1)) (J' := J) hG (fun a ha b => zu_row (by omega)) (fun _ _ _ => rfl)) (by omega)) (by omega)) (by omega)
      exact h9
    · rw [zu_row (by omega), zu_row (by omega), zu_row (by omega), zu_row (by omega)]
    · rw [zu_row (by omega), zu_row (by omega), zu_row (by omega)]
    · rw [zu_row (by decide), zu_row (by decide), zu_row (by decide)]
      by_cases e : s = th
      · rw [if_pos ⟨by omega, e⟩, e, zu_same]
      · rw [if_neg (fun h => e h.2), zu_col e]
    · rw [zu_row (by decide), zu_row (by decide), zu_row (by decide), zu_row (by decide), if_neg (by omega)]
    · rw [zu_row (by decide), zu_row (by decide), zu_row (by decide), zu_row (by decide), if_neg (by omega)]
    · rw [zu_row (by decide), zu_row (by decide), zu_col (by omega), zu_row (by decide)]
  · have ht : th < 3 := ht
    refine ⟨zu (zu I 8 th (-1)) 5 th (nI am), zu J 61 th (nI am), ?_, ?_, ?_, fun a b h => ?_, fun a b h => ?_, fun s => ?_, fun s => ?_, fun s => ?_, fun s h1 h2 => ?_⟩
    · rw [n2, fX4_finish, fX4_mark, if_pos rfl, zif_t (zin_nI ht (by omega)), nI_clamp (by omega)]
      simp only [Option.bind_some]
      rw [if_neg (by decide), if_neg (by decide), if_pos trivial, zif_t (zin_nI ht (by omega))]
    · rw [n2, fX9_ended, if_neg (by decide), if_neg (by decide), if_pos rfl, zif_t (zin_nI ht (by omega)), nI_clamp (by omega)]
    · exact rG_u5 (rG_cong (I' := zu I 8 th (-1)) (J' := J) hG (fun a ha b => zu_row (by omega)) (fun _ _ _ => rfl)) ha
    · rw [zu_row (by omega), zu_row (by omega)]
    · rw [zu_row (by omega)]
    · rw [zu_row (by decide), zu_row (by decide), if_neg (by omega)]
    · rw [zu_row (by decide), zu_row (by decide), if_neg (by omega)]
    · rw [zu_row (by decide)]
      by_cases e : s = th
      · rw [if_pos ⟨rfl, e⟩, e, zu_same]
      · rw [if_neg (fun h => e h.2), zu_col e]
    · rw [zu_row (by decide), zu_row (by decide)]
  · have ht : th < 18 := ht
    -- the planes behind the renewing, before the sail is looked at
    obtain ⟨A, hA⟩ : ∃ A : zPI, A = zu (zu (zu I 7 th (-1)) 3 th 0) 4 th 0 := ⟨_, rfl⟩
    obtain ⟨B, hB⟩ : ∃ B : zPI, B = zu (zu J 59 th 0) 60 th 0 := ⟨_, rfl⟩
    have hAB : rG A B := by
      rw [hA, hB]
      exact rG_u4 (w := 0) (rG_u3 (k := 0) (rG_cong (I' := zu I 7 th (-1)) (J' := J) hG (fun a ha b => zu_row (by omega)) (fun _ _ _ => rfl)) (by omega)) (by omega)
    have s2 : A 2 (th / 2) = B 58 (th / 2) := (hAB.1 (th / 2) (by omega)).1
    have fA : ∀ a b, ¬ (a = 3 ∨ a = 4 ∨ a = 7) → A a b = I a b := fun a b h => by rw [hA, zu_row (by omega), zu_row (by omega), zu_row (by omega)]
    have fB : ∀ a b, ¬ (a = 59 ∨ a = 60) → B a b = J a b := fun a b h => by rw [hB, zu_row (by omega), zu_row (by omega)]
    obtain ⟨b, hb, hb2⟩ := f_parted A (s := th / 2) (by omega)
    have r1 := (hAB.2.1 (2 * (th / 2)) (by omega)).1.1
    have r2 := (hAB.2.1 (2 * (th / 2) + 1) (by omega)).1.1
    have eC : fX4_finish I (nI 3) (nI th) (nI am) = if A 2 (th / 2) = 2 then (if b = 0 then some (zu A 2 (th / 2) 0) else some A) else some A := by
      rw [n3, fX4_finish, fX4_mark, if_neg (by decide), if_pos rfl, zif_t (zin_nI ht (by omega)), nI_clamp (by omega)]
      simp only [Option.bind_some]
      rw [if_neg (by decide), if_neg (by decide), if_neg (by decide), fX4_renew, half_r (by omega), zif_t (zin_nI ht (by omega)), zif_t (zin_nI ht (by omega)), zif_t (zin_nI (k := th / 2) (by omega) (by omega)), nI_clamp (by omega), nI_clamp (by omega), ← hA, hb]
      by_cases h1 : A 2 (th / 2) = 2
      · rw [if_pos h1, if_pos h1]
        simp only [Option.bind_some]
        by_cases h2 : b = 0
        · rw [if_pos h2, if_pos h2, zif_t (zin_nI (by omega) (by omega))]
          rfl
        · rw [if_neg h2, if_neg h2]
          rfl
      · rw [if_neg h1, if_neg h1]
        rfl
    have eR : fX9_ended J (nI 3) (nI th) (nI am) = if A 2 (th / 2) = 2 then (if b = 0 then some (zu B 58 (th / 2) 0) else some B) else some B := by
      rw [n3, fX9_ended, if_neg (by decide), if_neg (by decide), if_neg (by decide), half_r (by omega), zif_t (zin_nI ht (by omega)), zif_t (zin_nI ht (by omega)), zif_t (zin_nI (k := th / 2) (by omega) (by omega)), nI_clamp (by omega), nI_clamp (by omega), ← hB, two_s, nI_1, nI_clamp (by omega), nI_clamp (by omega), zu_self, ← s2]
      have z1 : zin (nI (th / 2)) 9 = true := zin_nI (by omega) (by omega)
      have z2 : zin (nI (2 * (th / 2))) 18 = true := zin_nI (by omega) (by omega)
      have z3 : zin (nI (2 * (th / 2) + 1)) 18 = true := zin_nI (by omega) (by omega)
      simp only [z1, z2, z3, if_true]
      rw [← r1, ← r2]
      by_cases h1 : A 2 (th / 2) = 2
      · rw [if_pos h1, if_pos h1]
        by_cases h2 : A 3 (2 * (th / 2)) = 2
        · rw [if_pos h2, if_neg (hb2.mpr (Or.inl h2))]
        · rw [if_neg h2]
          by_cases h3 : A 3 (2 * (th / 2) + 1) = 2
          · rw [if_pos h3, if_neg (hb2.mpr (Or.inr h3))]
          · rw [if_neg h3, if_pos (Classical.byContradiction (fun h => ((hb2.mp h).elim h2 h3)))]
      · rw [if_neg h1, if_neg h1]
    have marks : ∀ A' : zPI, (∀ a b, a ≠ 2 → A' a b = A a b) → (∀ s, A' 6 s = if 3 < 2 ∧ s = th then -1 else I 6 s) ∧ (∀ s, A' 7 s = if 3 = 3 ∧ s = th then -1 else I 7 s) ∧ (∀ s, A' 8 s = if 3 = 2 ∧ s = th then -1 else I 8 s) := by
      intro A' hA'
      refine ⟨fun s => ?_, fun s => ?_, fun s => ?_⟩
      · rw [hA' _ _ (by decide), if_neg (by omega), fA _ _ (by decide)]
      · rw [hA' _ _ (by decide), hA, zu_row (by decide), zu_row (by decide)]
        by_cases e : s = th
        · rw [if_pos ⟨rfl, e⟩, e, zu_same]
        · rw [if_neg (fun h => e h.2), zu_col e]
      · rw [hA' _ _ (by decide), if_neg (by omega), fA _ _ (by decide)]
    by_cases h1 : A 2 (th / 2) = 2 ∧ b = 0
    · refine ⟨zu A 2 (th / 2) 0, zu B 58 (th / 2) 0, by rw [eC, if_pos h1.1, if_pos h1.2], by rw [eR, if_pos h1.1, if_pos h1.2], rG_u2 (k := 0) hAB (by omega), fun a b h => by rw [zu_row (by omega), fA a b (by omega)], fun a b h => by rw [zu_row (by omega), fB a b (by omega)], (marks _ (fun a b h => zu_row h)).1, (marks _ (fun a b h => zu_row h)).2.1, (marks _ (fun a b h => zu_row h)).2.2, fun s g1 g2 => ?_⟩
      rw [zu_col (by omega), fA _ _ (by decide)]
    · refine ⟨A, B, ?_, ?_, hAB, fun a b h => fA a b (by omega), fun a b h => fB a b (by omega), (marks _ (fun _ _ _ => rfl)).1, (marks _ (fun _ _ _ => rfl)).2.1, (marks _ (fun _ _ _ => rfl)).2.2, fun s g1 g2 => fA _ _ (by decide)⟩
      · rw [eC]
        by_cases h2 : A 2 (th / 2) = 2
        · rw [if_pos h2, if_neg (fun h3 => h1 ⟨h2, h3⟩)]
        · rw [if_neg h2]
      · rw [eR]
        by_cases h2 : A 2 (th / 2) = 2
        · rw [if_pos h2, if_neg (fun h3 => h1 ⟨h2, h3⟩)]
        · rw [if_neg h2]
theorem f_rel8 {K : zPI → Option zPI} {n f : Nat} (hn : n ≤ 24) : ∀ (r fu h : Nat) (I : zPI), h + r = n → r < fu → I 42 0 = nI n →
    ∃ I', fX1_release_8 K fu (nI f) (nI h) I = K I' ∧ (∀ a b, ¬ (a = 47 ∧ h ≤ b ∧ b < n) → I' a b = I a b) ∧ (∀ x, h ≤ x → x < n → I' 47 x = if I 47 x = nI f then -1 else I 47 x) := by
  intro r
  induction r with
  | zero =>
    intro fu h I hh hf h0
    obtain ⟨fu, rfl, -⟩ := zsucc hf
    exact ⟨I, by rw [fX1_release_8, h0, if_pos (nI_le (a := n) (b := h) (by omega) (by omega))], fun a b _ => rfl, fun x h1 h2 => by omega⟩
  | succ r ih =>
    intro fu h I hh hf h0
    obtain ⟨fu, rfl, hf⟩ := zsucc hf
    have hz : zin (nI h) 24 = true := zin_nI (by omega) (by omega)
    rw [fX1_release_8, h0, if_neg (nI_ge (a := h) (b := n) (by omega) (by omega))]
    simp only [hz, if_true]
    rw [nI_clamp (by omega), nI_1]
    by_cases c : I 47 h = nI f
    · rw [if_pos c]
      obtain ⟨I', e, f1, f2⟩ := ih fu (h + 1) (zu I 47 h (-1)) (by omega) (by omega) (by rw [zu_row (by decide)]; exact h0)
      refine ⟨I', e, fun a b h9 => ?_, fun x h1 h2 => ?_⟩
      · rw [f1 a b (by omega)]
        by_cases h7 : a = 47
        · exact zu_col (by omega)
        · exact zu_row h7
      · by_cases e : x = h
        · subst e
          rw [f1 _ _ (by omega), zu_same, if_pos c]
        · rw [f2 x (by omega) h2, zu_col e]
    · rw [if_neg c]
      obtain ⟨I', e, f1, f2⟩ := ih fu (h + 1) I (by omega) (by omega) h0
      refine ⟨I', e, fun a b h9 => f1 a b (by omega), fun x h1 h2 => ?_⟩
      by_cases e : x = h
      · subst e
        rw [f1 _ _ (by omega), if_neg c]
      · exact f2 x (by omega) h2
/-- release -/
theorem f_release {I : zPI} {n f : Nat} (hn : n ≤ 24) (hf : f < n) (h0 : I 42 0 = nI n) (hle : ∀ x, x < n → I 47 x = nI f → f ≤ x) : ∃ I', fX1_release I (nI f) = some I' ∧ (∀ a b, ¬ (a = 47 ∨ (a = 42 ∧ b = 7)) → I' a b = I a b) ∧ (∀ x, x < n → I' 47 x = if I 47 x = nI f then -1 else I 47 x) := by
  obtain ⟨I', e, f1, f2⟩ := f_rel8 (K := fun I => some (zu I 42 7 ((I 42 7) - 1))) (f := f) hn (n - f) zF f I (by omega) (zF_lt (by omega)) h0
  refine ⟨zu I' 42 7 ((I' 42 7) - 1), ?_, fun a b h => ?_, fun x hx => ?_⟩
  · rw [fX1_release, if_neg (nI_m1 (by omega))]
    exact e
  · have h9 : zu I' 42 7 ((I' 42 7) - 1) a b = I' a b := by
      by_cases h7 : a = 42
      · exact zu_col (by omega)
      · exact zu_row h7
    rw [h9, f1 a b (by omega)]
  · rw [zu_row (by decide)]
    by_cases c : f ≤ x
    · exact f2 x c hx
    · rw [f1 _ _ (by omega), if_neg (fun h => c (hle x hx h))]
theorem f_giv9 {K : zPI → Option zPI} {n k : Nat} (hn : n ≤ 24) : ∀ (r fu h : Nat) (J : zPI), h + r = n → r < fu → J 48 18 = nI n →
    ∃ J', fX9_gives_9 K fu (nI k) (nI h) J = K J' ∧ (∀ a b, ¬ (a = 62 ∧ h ≤ b ∧ b < n) → J' a b = J a b) ∧ (∀ x, h ≤ x → x < n → J' 62 x = if J 62 x = nI k then -1 else J 62 x) := by
  intro r
  induction r with
  | zero =>
    intro fu h J hh hf h0
    obtain ⟨fu, rfl, -⟩ := zsucc hf
    exact ⟨J, by rw [fX9_gives_9, h0, if_pos (nI_le (a := n) (b := h) (by omega) (by omega))], fun a b _ => rfl, fun x h1 h2 => by omega⟩
  | succ r ih =>
    intro fu h J hh hf h0
    obtain ⟨fu, rfl, hf⟩ := zsucc hf
    have hz : zin (nI h) 24 = true := zin_nI (by omega) (by omega)
    rw [fX9_gives_9, h0, if_neg (nI_ge (a := h) (b := n) (by omega) (by omega))]
    simp only [hz, if_true]
    rw [nI_clamp (by omega), nI_1]
    by_cases c : J 62 h = nI k
    · rw [if_pos c]
      obtain ⟨J', e, f1, f2⟩ := ih fu (h + 1) (zu J 62 h (-1)) (by omega) (by omega) (by rw [zu_row (by decide)]; exact h0)
      refine ⟨J', e, fun a b h9 => ?_, fun x h1 h2 => ?_⟩
      · rw [f1 a b (by omega)]
        by_cases h7 : a = 62
        · exact zu_col (by omega)
        · exact zu_row h7
      · by_cases e : x = h
        · subst e
          rw [f1 _ _ (by omega), zu_same, if_pos c]
        · rw [f2 x (by omega) h2, zu_col e]
    · rw [if_neg c, zu_self]
      obtain ⟨J', e, f1, f2⟩ := ih fu (h + 1) J (by omega) (by omega) h0
      refine ⟨J', e, fun a b h9 => f1 a b (by omega), fun x h1 h2 => ?_⟩
      by_cases e : x = h
      · subst e
        rw [f1 _ _ (by omega), if_neg c]
      · exact f2 x (by omega) h2
/-- gives -/
theorem f_gives {J : zPI} {n k : Nat} (hn : n ≤ 24) (hk : k < 24) (h0 : J 48 18 = nI n) : ∃ J', fX9_gives J (nI k) = some J' ∧ (∀ a b, ¬ (a = 62 ∨ (a = 63 ∧ b = k)) → J' a b = J a b) ∧ (∀ x, x < n → J' 62 x = if J 62 x = nI k then -1 else J 62 x) ∧ J' 63 k = 0 := by
  obtain ⟨J', e, f1, f2⟩ := f_giv9 (K := fun I => some I) (k := k) hn n zF 0 (zu J 63 k 0) (by omega) (zF_lt (by omega)) (by rw [zu_row (by decide)]; exact h0)
  refine ⟨J', ?_, fun a b h => ?_, fun x hx => ?_, ?_⟩
  · rw [fX9_gives, zif_t (zin_nI hk (by omega)), nI_clamp (by omega)]
    exact e
  · rw [f1 a b (by omega)]
    by_cases h7 : a = 63
    · exact zu_col (by omega)
    · exact zu_row h7
  · rw [f2 x (by omega) hx, zu_row (by decide)]
  · rw [f1 _ _ (by omega), zu_same]
/-- endWorks, hand by hand on both sides -/
theorem f_endWorks2 {K K' : zPI → Option zPI} {n m : Nat} (hm : m < 1000000) : ∀ (r fu fu' h : Nat) (I J : zPI), h + r = n → r < fu → r < fu' → rW I J n (fun f => if f < h then m + 1 else m) → rG I J → I 0 12 = nI m → J 48 29 = nI m →
    ∃ I' J', fX8_endWorks_2 K fu (nI h) I = K I' ∧ fX9_endWorks_2 K' fu' (nI h) J = K' J' ∧ rW I' J' n (fun _ => m + 1) ∧ rG I' J' ∧ (∀ a b, ¬ (a = 2 ∨ a = 3 ∨ a = 4 ∨ a = 5 ∨ a = 6 ∨ a = 7 ∨ a = 8 ∨ a = 47 ∨ (a = 42 ∧ b = 7)) → I' a b = I a b) ∧ (∀ a b, ¬ (a = 58 ∨ a = 59 ∨ a = 60 ∨ a = 61 ∨ a = 62 ∨ a = 63) → J' a b = J a b) := by
  intro r
  induction r with
  | zero =>
    intro fu fu' h I J hh hf hf' hW hG hi hj
    obtain ⟨fu, rfl, -⟩ := zsucc hf
    obtain ⟨fu', rfl, -⟩ := zsucc hf'
    have hn := hW.1.2.1
    refine ⟨I, J, ?_, ?_, rW_eb hW (fun f k jb th am e hl hw => ?_), hG, fun _ _ _ => rfl, fun _ _ _ => rfl⟩
    · rw [fX8_endWorks_2, hW.1.2.2.1, if_pos (nI_le (a := n) (b := h) (by omega) (by omega))]
    · rw [fX9_endWorks_2, hW.1.2.2.2, if_pos (nI_le (a := n) (b := h) (by omega) (by omega))]
    · have h9 := hw.2.2.2.2.2.2.2.2.2.2.2.2.2.1
      rw [if_pos (by have := hl.1; omega)] at h9
      exact h9
  | succ r ih =>
    intro fu fu' h I J hh hf hf' hW hG hi hj
    obtain ⟨fu, rfl, hf⟩ := zsucc hf
    obtain ⟨fu', rfl, hf'⟩ := zsucc hf'
    have hn := hW.1.2.1
    have hz : zin (nI h) 24 = true := zin_nI (by omega) (by omega)
    rw [fX8_endWorks_2, hW.1.2.2.1, if_neg (nI_ge (a := h) (b := n) (by omega) (by omega)), fX1_isDue]
    rw [fX9_endWorks_2, hW.1.2.2.2, if_neg (nI_ge (a := h) (b := n) (by omega) (by omega))]
    simp only [hz, if_true]
    rw [nI_clamp (by omega), hi, nI_1]
    rcases hW.2.1 h (by omega) with ⟨a1, a2⟩ | ⟨f, k, a1, a2, a3, a4, a5, a6⟩
    · rw [a1, if_neg (nI_m1' (by omega)), a2, if_pos (by decide)]
      simp only [Option.bind_some, if_true]
      refine ih fu fu' (h + 1) I J (by omega) (by omega) (by omega) (rW_eb hW (fun f k jb th am e hl hw => ?_)) hG hi hj
      have h9 := hw.2.2.2.2.2.2.2.2.2.2.2.2.2.1
      have hne : f ≠ h := fun e => by
        have := hl.2
        rw [e, a1] at this
        exact nI_m1' (by omega) this
      by_cases c : f < h
      · rw [if_pos c] at h9
        rw [if_pos (by omega)]
        exact h9
      · rw [if_neg c] at h9
        rw [if_neg (by omega)]
        exact h9
    · have hl : Lr I n f := ⟨by omega, a5⟩
      obtain ⟨k', jb, th, am, e, b1, b2, b3, b4, b5, b6, b7, b8, b9, b10, b11, b12, b13, b14, b15, b16, b17, b18⟩ := hW.2.2.2.1 f hl
      have hkk : k' = k := nI_inj (by omega) (by omega) (b2.symm.trans a6)
      subst hkk
      have hzk : zin (nI k') 24 = true := zin_nI b1 (by omega)
      rw [a3, a4, if_neg (nI_pos (by omega))]
      simp only [hzk, if_true]
      rw [nI_clamp (show k' < 2 ^ 31 by omega), b13, hj]
      have keep : (f = h → m + 1 ≤ e) → rW I J n (fun f => if f < h + 1 then m + 1 else m) := by
        intro hge
        refine rW_eb hW (fun f2 k2 jb2 th2 am2 e2 hl2 hw2 => ?_)
        have h9 := hw2.2.2.2.2.2.2.2.2.2.2.2.2.2.1
        by_cases c : f2 < h
        · rw [if_pos c] at h9
          rw [if_pos (by omega)]
          exact h9
        · rw [if_neg c] at h9
          by_cases c2 : f2 = h
          · by_cases c3 : f = h
            · have hff : f2 = f := by omega
              subst hff
              have : e2 = e := nI_inj (by have := hw2.2.2.2.2.2.2.2.2.2.2.2.2.2.2.1; omega) (by omega) (hw2.2.2.2.2.2.2.2.2.2.2.2.1.symm.trans b12)
              have := hge c3
              rw [if_pos (by omega)]
              omega
            · exfalso
              have := hl2.2
              rw [c2, a3] at this
              exact c3 (nI_inj (by omega) (by omega) this)
          · rw [if_neg (by omega)]
            exact h9
      by_cases c : f = h
      · subst c
        simp only [if_neg (Nat.lt_irrefl f)] at b14
        rw [if_pos rfl, b12]
        by_cases ce : e = m
        · subst ce
          -- due
          rw [if_neg (nI_nlt (Nat.le_refl _) (by omega)), if_pos rfl]
          simp only [Option.bind_some]
          rw [if_neg (by decide), b4, b6, b9, b5, b7, b10, show nI (1 + jb) - 1 = nI jb by rw [Nat.add_comm]; exact nI_pred jb]
          obtain ⟨I1, J1, c1, c2, c3, c4, c5, c6, c7, c8, c9⟩ := f_finish hG b3 b8 b11
          rw [c1, c2]
          simp only [Option.bind_some]
          have r47 : ∀ x, I1 47 x = I 47 x := fun x => c4 _ _ (by decide)
          obtain ⟨I2, d1, d2, d3⟩ := f_release (I := I1) (n := n) (f := f) hn hl.1 (by rw [c4 _ _ (by decide)]; exact hW.1.2.2.1) (fun x hx hxx => by
            rw [r47] at hxx
            rcases hW.2.1 x hx with ⟨g1, -⟩ | ⟨f', k2, g1, g2, g3, -⟩
            · rw [g1] at hxx
              exact absurd hxx (nI_m1' (by omega))
            · have : f' = f := nI_inj (by omega) (by omega) (g3.symm.trans hxx)
              omega)
          obtain ⟨J2, o1, o2, o3, o4⟩ := f_gives (J := J1) (n := n) (k := k') hn b1 (by rw [c5 _ _ (by decide)]; exact hW.1.2.2.2)
          rw [d1, o1]
          simp only [Option.bind_some]
          have hth := zlim_le jb
          have only6 : ∀ s, s < 9 → (I 6 s = nI f ↔ jb < 2 ∧ s = th) := by
            intro s hs
            constructor
            · intro h9
              rcases hW.2.2.2.2.2.1 s hs with g1 | ⟨f', g1, g2, g3, g4⟩
              · rw [g1] at h9
                exact absurd h9 (nI_m1' (by omega))
              · have : f' = f := nI_inj (by have := g1.1; omega) (by omega) (g2.symm.trans h9)
                subst this
                refine ⟨?_, (nI_inj (by omega) (by omega) (b6.symm.trans g4)).symm⟩
                rcases g3 with g3 | g3
                · have : jb = 0 := nI_inj (by omega) (by omega) (b4.symm.trans g3)
                  omega
                · have : jb = 1 := nI_inj (by omega) (by omega) (b4.symm.trans g3)
                  omega
            · rintro ⟨g1, rfl⟩
              rw [zmk, if_neg (by omega), if_neg (by omega)] at b16
              exact b16
          have only7 : ∀ s, s < 18 → (I 7 s = nI f ↔ jb = 3 ∧ s = th) := by
            intro s hs
            constructor
            · intro h9
              rcases hW.2.2.2.2.2.2.1 s hs with g1 | ⟨f', g1, g2, g3, g4⟩
              · rw [g1] at h9
                exact absurd h9 (nI_m1' (by omega))
              · have : f' = f := nI_inj (by have := g1.1; omega) (by omega) (g2.symm.trans h9)
                subst this
                exact ⟨nI_inj (by omega) (by omega) (b4.symm.trans g3), (nI_inj (by omega) (by omega) (b6.symm.trans g4)).symm⟩
            · rintro ⟨g1, rfl⟩
              rw [zmk, if_neg (by omega), if_pos g1] at b16
              exact b16
          have only8 : ∀ s, s < 3 → (I 8 s = nI f ↔ jb = 2 ∧ s = th) := by
            intro s hs
            constructor
            · intro h9
              rcases hW.2.2.2.2.2.2.2.1 s hs with g1 | ⟨f', g1, g2, g3, g4⟩
              · rw [g1] at h9
                exact absurd h9 (nI_m1' (by omega))
              · have : f' = f := nI_inj (by have := g1.1; omega) (by omega) (g2.symm.trans h9)
                subst this
                exact ⟨nI_inj (by omega) (by omega) (b4.symm.trans g3), (nI_inj (by omega) (by omega) (b6.symm.trans g4)).symm⟩
            · rintro ⟨g1, rfl⟩
              rw [zmk, if_pos g1] at b16
              exact b16
          have hW2 : rW I2 J2 n (fun f2 => if f2 < f then e + 1 else e) := by
            refine rW_drop hW hl b1 b2 ?_ ?_ ?_ ?_ ?_ ?_ ?_ ?_ ?_ ?_ ?_
            · rw [d2 _ _ (by decide), c4 _ _ (by decide)]
            · rw [o2 _ _ (by omega), c5 _ _ (by decide)]
            · intro a ha b; rw [d2 _ _ (by omega), c4 _ _ (by omega)]
            · intro a ha b; rw [o2 _ _ (by omega), c5 _ _ (by omega)]
            · intro x hx; rw [d3 x hx, r47]
            · intro x hx; rw [o3 x hx, c5 _ _ (by decide)]
            · intro j hj9
              by_cases cj : j = k'
              · rw [if_pos cj, cj, o4]
              · rw [if_neg cj, o2 _ _ (by omega), c5 _ _ (by decide)]
            · intro s hs
              rw [d2 _ _ (by omega), c6]
              by_cases cs : jb < 2 ∧ s = th
              · rw [if_pos cs, if_pos ((only6 s hs).mpr cs)]
              · rw [if_neg cs, if_neg (fun h9 => cs ((only6 s hs).mp h9))]
            · intro s hs
              rw [d2 _ _ (by omega), c7]
              by_cases cs : jb = 3 ∧ s = th
              · rw [if_pos cs, if_pos ((only7 s hs).mpr cs)]
              · rw [if_neg cs, if_neg (fun h9 => cs ((only7 s hs).mp h9))]
            · intro s hs
              rw [d2 _ _ (by omega), c8]
              by_cases cs : jb = 2 ∧ s = th
              · rw [if_pos cs, if_pos ((only8 s hs).mpr cs)]
              · rw [if_neg cs, if_neg (fun h9 => cs ((only8 s hs).mp h9))]
            · intro f' jb' th' hl' hne g1 g2 g3 g4
              have h6' : I 6 th' = nI f' := by
                obtain ⟨k2, jb2, th2, am2, e2, w1, w2, w3, w4, w5, w6, w7, w8, w9, w10, w11, w12, w13, w14, w15, w16, -⟩ := hW.2.2.2.1 f' hl'
                have x1 : jb2 = jb' := nI_inj (by omega) (by omega) (w4.symm.trans g1)
                have x2 : th2 = th' := nI_inj (by have := zlim_le jb2; omega) (by omega) (w6.symm.trans g2)
                rw [zmk, if_neg (by omega), if_neg (by omega), x2] at w16
                exact w16
              rw [d2 _ _ (by omega), c9 th']
              · rintro ⟨x1, x2⟩
                have := (only6 th' g4).mpr ⟨x1, x2⟩
                rw [h6'] at this
                exact hne (nI_inj (by have := hl'.1; omega) (by omega) this)
              · rintro ⟨x1, x2⟩
                have h7 := (only7 th (by omega)).mpr ⟨x1, rfl⟩
                have h8 := hW.2.2.2.2.2.2.2.2 th (by omega) (by rw [h7]; exact nI_m1 (by omega))
                rw [← x2, h6'] at h8
                exact nI_m1 (by have := hl'.1; omega) h8
          have hW3 : rW I2 J2 n (fun f2 => if f2 < f + 1 then e + 1 else e) := by
            refine rW_eb hW2 (fun f2 k2 jb2 th2 am2 e2 hl2 hw2 => ?_)
            have h9 := hw2.2.2.2.2.2.2.2.2.2.2.2.2.2.1
            have hne : f2 ≠ f := fun e9 => by
              have := hl2.2
              rw [e9, d3 f hl.1, r47, a5, if_pos rfl] at this
              exact nI_m1' (by omega) this
            by_cases c : f2 < f
            · rw [if_pos c] at h9
              rw [if_pos (by omega)]
              exact h9
            · rw [if_neg c] at h9
              rw [if_neg (by omega)]
              exact h9
          have hG2 : rG I2 J2 := rG_cong c3 (fun a ha b => d2 a b (by omega)) (fun a ha b => o2 a b (by omega))
          obtain ⟨I', J', y1, y2, y3, y4, y5, y6⟩ := ih fu fu' (f + 1) I2 J2 (by omega) (by omega) (by omega) hW3 hG2 (by rw [d2 _ _ (by decide), c4 _ _ (by decide)]; exact hi) (by rw [o2 _ _ (by omega), c5 _ _ (by decide)]; exact hj)
          exact ⟨I', J', y1, y2, y3, y4, fun a b h9 => by rw [y5 a b h9, d2 a b (by omega), c4 a b (by omega)], fun a b h9 => by rw [y6 a b h9, o2 a b (by omega), c5 a b (by omega)]⟩
        · rw [if_pos (nI_lt (by omega) (by omega)), if_neg (nI_ne (by omega) (by omega) ce)]
          simp only [Option.bind_some, if_true]
          exact ih fu fu' (f + 1) I J (by omega) (by omega) (by omega) (keep (fun _ => by omega)) hG hi hj
      · simp only [if_pos (show f < h by omega)] at b14
        rw [if_neg (nI_ne (by omega) (by omega) c), if_neg (nI_ne (by omega) (by omega) (by omega))]
        simp only [Option.bind_some, if_true]
        exact ih fu fu' (h + 1) I J (by omega) (by omega) (by omega) (keep (fun h9 => absurd h9 c)) hG hi hj
theorem f_endWorks {I J : zPI} {n m : Nat} (hm : m < 1000000) (hW : rW I J n (fun _ => m)) (hG : rG I J) (hi : I 0 12 = nI m) (hj : J 48 29 = nI m) :
    ∃ I' J', fX8_endWorks I = some I' ∧ fX9_endWorks J = some J' ∧ rW I' J' n (fun _ => m + 1) ∧ rG I' J' ∧ (∀ a b, ¬ (a = 2 ∨ a = 3 ∨ a = 4 ∨ a = 5 ∨ a = 6 ∨ a = 7 ∨ a = 8 ∨ a = 47 ∨ (a = 42 ∧ b = 7)) → I' a b = I a b) ∧ (∀ a b, ¬ (a = 58 ∨ a = 59 ∨ a = 60 ∨ a = 61 ∨ a = 62 ∨ a = 63) → J' a b = J a b) :=
  f_endWorks2 (K := fun I => some I) (K' := fun I => some I) hm n zF zF 0 I J (by omega) (zF_lt (by have := hW.1.2.1; omega)) (zF_lt (by have := hW.1.2.1; omega)) (rW_eb hW (fun f k jb th am e _ hw => by rw [if_neg (by omega)]; exact hw.2.2.2.2.2.2.2.2.2.2.2.2.2.1)) hG hi hj
