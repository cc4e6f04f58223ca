/-! TOKENS -/
/-- as long as Q holds, from p on, k steps at most -/
def rn (Q : Nat → Bool) : Nat → Nat → Nat
  | 0, p => p
  | k + 1, p => if Q p = true then rn Q k (p + 1) else p
theorem rn_le (Q : Nat → Bool) : ∀ k p, p ≤ rn Q k p ∧ rn Q k p ≤ p + k := by
  intro k
  induction k with
  | zero => intro p; exact ⟨Nat.le_refl _, Nat.le_refl _⟩
  | succ k ih =>
    intro p
    have := ih (p + 1)
    rw [rn]
    split <;> omega
theorem rn_in (Q : Nat → Bool) : ∀ k p x, p ≤ x → x < rn Q k p → Q x = true := by
  intro k
  induction k with
  | zero => intro p x h1 h2; rw [rn] at h2; omega
  | succ k ih =>
    intro p x h1 h2
    rw [rn] at h2
    by_cases c : Q p = true
    · rw [if_pos c] at h2
      by_cases e : x = p
      · rw [e]; exact c
      · exact ih (p + 1) x (by omega) h2
    · rw [if_neg c] at h2
      omega
theorem rn_out (Q : Nat → Bool) : ∀ k p, rn Q k p < p + k → Q (rn Q k p) = false := by
  intro k
  induction k with
  | zero => intro p h; rw [rn] at h; omega
  | succ k ih =>
    intro p h
    rw [rn] at h ⊢
    by_cases c : Q p = true
    · rw [if_pos c] at h ⊢
      exact ih (p + 1) (by omega)
    · rw [if_neg c]
      simpa using c
def qB (ch : Nat → Nat) (p : Nat) : Bool := decide (ch p = 10) || decide (ch p = 32)
def qL (ch : Nat → Nat) (p : Nat) : Bool := decide (97 ≤ ch p) && decide (ch p ≤ 122)
def qD (ch : Nat → Nat) (p : Nat) : Bool := decide (48 ≤ ch p) && decide (ch p ≤ 57)
def isSg (c : Nat) : Bool := decide (c = 123) || decide (c = 125) || decide (c = 60) || decide (c = 61) || decide (c = 43) || decide (c = 45) || decide (c = 59)
def fd (b : Nat) (g : Nat → Nat) : Nat → Nat → Nat → Nat
  | 0, _, v => v
  | k + 1, p, v => fd b g k (p + 1) (b * v + g p)
def skp (ch : Nat → Nat) (t p : Nat) : Nat := rn (qB ch) (t - p) p
def enL (ch : Nat → Nat) (t p : Nat) : Nat := rn (qL ch) (t - p) p
def enD (ch : Nat → Nat) (t p : Nat) : Nat := rn (qD ch) (t - p) p
/-- the token at place s (no blank there): kind, end, value -/
def tkS (ch : Nat → Nat) (t s : Nat) : Nat × Nat × Nat :=
  if t ≤ s then (0, t, 0)
  else if s < enL ch t s then (if enL ch t s - s ≤ 8 then 2 else 1, enL ch t s, fd 37 (fun x => ch x - 96) (enL ch t s - s) s 0)
  else if s < enD ch t s then (if enD ch t s - s ≤ 5 then 3 else 1, enD ch t s, fd 10 (fun x => ch x - 48) (enD ch t s - s) s 0)
  else (if isSg (ch s) = true then ch s else 1, s + 1, ch s)
def tkK (ch : Nat → Nat) (t p : Nat) : Nat := (tkS ch t (skp ch t p)).1
def tkE (ch : Nat → Nat) (t p : Nat) : Nat := (tkS ch t (skp ch t p)).2.1
def tkV (ch : Nat → Nat) (t p : Nat) : Nat := (tkS ch t (skp ch t p)).2.2
theorem skp_b (ch : Nat → Nat) {t p : Nat} (h : p ≤ t) : p ≤ skp ch t p ∧ skp ch t p ≤ t := by
  have := rn_le (qB ch) (t - p) p
  unfold skp
  omega
theorem enL_b (ch : Nat → Nat) {t p : Nat} (h : p ≤ t) : p ≤ enL ch t p ∧ enL ch t p ≤ t := by
  have := rn_le (qL ch) (t - p) p
  unfold enL
  omega
theorem enD_b (ch : Nat → Nat) {t p : Nat} (h : p ≤ t) : p ≤ enD ch t p ∧ enD ch t p ≤ t := by
  have := rn_le (qD ch) (t - p) p
  unfold enD
  omega
theorem tkE_b (ch : Nat → Nat) {t p : Nat} (h : p ≤ t) : tkE ch t p ≤ t ∧ (tkK ch t p ≠ 0 → p < tkE ch t p) ∧ (tkK ch t p = 0 → tkE ch t p = t ∧ skp ch t p = t) ∧ skp ch t p ≤ tkE ch t p := by
  have h1 := skp_b ch h
  have h2 := enL_b ch (p := skp ch t p) h1.2
  have h3 := enD_b ch (p := skp ch t p) h1.2
  unfold tkE tkK tkS
  by_cases c1 : t ≤ skp ch t p
  · simp only [if_pos c1]
    exact ⟨Nat.le_refl _, fun h9 => absurd rfl h9, fun _ => ⟨trivial, by omega⟩, h1.2⟩
  simp only [if_neg c1]
  by_cases c2 : skp ch t p < enL ch t (skp ch t p)
  · simp only [if_pos c2]
    refine ⟨h2.2, fun _ => by omega, fun h9 => ?_, by omega⟩
    split at h9 <;> omega
  simp only [if_neg c2]
  by_cases c3 : skp ch t p < enD ch t (skp ch t p)
  · simp only [if_pos c3]
    refine ⟨h3.2, fun _ => by omega, fun h9 => ?_, by omega⟩
    split at h9 <;> omega
  simp only [if_neg c3]
  refine ⟨by omega, fun _ => by omega, fun h9 => ?_, by omega⟩
  by_cases c4 : isSg (ch (skp ch t p)) = true
  · rw [if_pos c4] at h9
    rw [h9] at c4
    exact absurd c4 (by decide)
  · rw [if_neg c4] at h9
    exact absurd h9 (by decide)
/-! the class's tape -/
theorem lx_blank {I : zPI} {K : zPI → Option zPI} {t : Nat} {ch : Nat → Nat} (ht : t ≤ 1000) : ∀ (k fu x : Nat) (I : zPI), zTC I (t, ch) → x + k = t → k < fu → I 13 3 = nI x → fX6_advance_8 K fu I = K (zu I 13 3 (nI (rn (qB ch) k x))) := by
  intro k
  induction k with
  | zero =>
    intro fu x I hT hx hf h3
    obtain ⟨fu, rfl, -⟩ := zsucc hf
    rw [fX6_advance_8, hT.1, h3, if_pos (nI_le (a := t) (b := x) (by omega) (by omega)), rn, zu_eq h3]
  | succ k ih =>
    intro fu x I hT hx hf h3
    obtain ⟨fu, rfl, hf⟩ := zsucc hf
    obtain ⟨c1, c2⟩ := hT.2.2 x (by simp only; omega)
    simp only at c1 c2
    have hz : zin (nI x) 1000 = true := zin_nI (by omega) (by omega)
    have hcb : ch x < 200 := by unfold tpOk at c2; omega
    rw [fX6_advance_8, hT.1, h3, if_neg (nI_ge (a := x) (b := t) (by omega) (by omega))]
    simp only [hz, if_true]
    rw [nI_clamp (by omega), c1, nI_1, rn]
    have step : fX6_advance_8 K fu (zu I 13 3 (nI (x + 1))) = K (zu I 13 3 (nI (rn (qB ch) k (x + 1)))) := by
      rw [ih fu (x + 1) (zu I 13 3 (nI (x + 1))) (zTC_cong hT (zu_col (by decide)) (fun b => zu_row (by decide))) (by omega) (by omega) zu_same]
      congr 1
      funext a b
      simp only [zu]
      by_cases q1 : a = 13
      · by_cases q2 : b = 3 <;> simp [q1, q2]
      · simp [q1]
    by_cases b1 : ch x = 10
    · rw [if_pos (show nI (ch x) = 10 by rw [b1]; rfl), if_pos (show qB ch x = true by simp [qB, b1])]
      exact step
    · rw [if_neg (show ¬ nI (ch x) = 10 from nI_ne (b := 10) (by omega) (by omega) b1)]
      by_cases b2 : ch x = 32
      · rw [if_pos (show nI (ch x) = 32 by rw [b2]; rfl), if_pos (show qB ch x = true by simp [qB, b2])]
        exact step
      · rw [if_neg (show ¬ nI (ch x) = 32 from nI_ne (b := 32) (by omega) (by omega) b2), if_neg (show ¬ qB ch x = true by simp [qB, b1, b2]), zu_eq h3]
theorem lx_run {I : zPI} {K : Int32 → Option Int32} {t : Nat} {ch : Nat → Nat} {lo hi : Nat} (ht : t ≤ 1000) (hl : lo < 200) (hh : hi < 200) (hT : zTC I (t, ch)) : ∀ (k fu x : Nat), x + k = t → k < fu → fX6_endOfRun_5 I K fu (nI lo) (nI hi) (nI x) = K (nI (rn (fun x => decide (lo ≤ ch x) && decide (ch x ≤ hi)) k x)) := by
  intro k
  induction k with
  | zero =>
    intro fu x hx hf
    obtain ⟨fu, rfl, -⟩ := zsucc hf
    rw [fX6_endOfRun_5, hT.1, if_pos (nI_le (a := t) (b := x) (by omega) (by omega)), rn]
  | succ k ih =>
    intro fu x hx hf
    obtain ⟨fu, rfl, hf⟩ := zsucc hf
    obtain ⟨c1, c2⟩ := hT.2.2 x (by simp only; omega)
    simp only at c1 c2
    have hz : zin (nI x) 1000 = true := zin_nI (by omega) (by omega)
    have hcb : ch x < 200 := by unfold tpOk at c2; omega
    rw [fX6_endOfRun_5, hT.1, if_neg (nI_ge (a := x) (b := t) (by omega) (by omega))]
    simp only [hz, if_true]
    rw [nI_clamp (by omega), c1, nI_1, rn]
    by_cases b1 : ch x < lo
    · rw [if_pos (nI_lt b1 (by omega)), if_neg (by simp; omega)]
    · rw [if_neg (nI_nlt (by omega) (by omega))]
      by_cases b2 : hi < ch x
      · rw [if_pos (nI_lt b2 (by omega)), if_neg (by simp; omega)]
      · rw [if_neg (nI_nlt (by omega) (by omega)), if_pos (by simp; omega)]
        exact ih fu (x + 1) (by omega) (by omega)
theorem lx_num7 {I : zPI} {K : Int32 → Option Int32} {t e : Nat} {ch : Nat → Nat} (ht : t ≤ 1000) (hT : zTC I (t, ch)) (he : e ≤ t) (h5 : I 13 5 = nI e) : ∀ (k fu x v : Nat), x + k = e → k < fu → (∀ y, x ≤ y → y < e → 48 ≤ ch y) → fX6_numberHere_7 I K fu (nI v) (nI x) = K (nI (fd 10 (fun x => ch x - 48) k x v)) := by
  intro k
  induction k with
  | zero =>
    intro fu x v hx hf hd
    obtain ⟨fu, rfl, -⟩ := zsucc hf
    rw [fX6_numberHere_7, h5, if_pos (nI_le (a := e) (b := x) (by omega) (by omega)), fd]
  | succ k ih =>
    intro fu x v hx hf hd
    obtain ⟨fu, rfl, hf⟩ := zsucc hf
    obtain ⟨c1, c2⟩ := hT.2.2 x (by simp only; omega)
    simp only at c1 c2
    have hz : zin (nI x) 1000 = true := zin_nI (by omega) (by omega)
    have h48 := hd x (by omega) (by omega)
    rw [fX6_numberHere_7, h5, if_neg (nI_ge (a := x) (b := e) (by omega) (by omega)), zif_t hz, nI_clamp (by omega), c1, nI_1, show (48 : Int32) = nI 48 from rfl, pk_sub h48, show (10 : Int32) = nI 10 from rfl, pk_mul, nI_add, fd, ih fu (x + 1) _ (by omega) (by omega) (fun y h1 h2 => hd y (by omega) h2), Nat.mul_comm v 10]
/-- advance: the next token -/
theorem lx_adv {I : zPI} {t p : Nat} {ch : Nat → Nat} (hT : zTC I (t, ch)) (h5 : I 13 5 = nI p) (hp : p ≤ t) : ∃ I', fX6_advance I = some I' ∧ I' 13 2 = nI (tkK ch t p) ∧ I' 13 3 = nI (skp ch t p) ∧ I' 13 5 = nI (tkE ch t p) ∧ (tkK ch t p = 3 → I' 13 4 = nI (tkV ch t p)) ∧ (∀ a b, ¬ (a = 13 ∧ (b = 2 ∨ b = 3 ∨ b = 4 ∨ b = 5)) → I' a b = I a b) := by
  have ht : t ≤ 1000 := hT.2.1
  obtain ⟨s, hs⟩ : ∃ s, s = skp ch t p := ⟨_, rfl⟩
  have hsb := skp_b ch hp
  rw [← hs] at hsb
  have hE := enL_b ch (p := s) hsb.2
  have hD := enD_b ch (p := s) hsb.2
  have e8 := lx_blank (I := I) (K := fun I => fX6_advance_60 I) (ch := ch) ht (t - p) zF p (zu I 13 3 (nI p)) (zTC_cong hT (zu_col (by decide)) (fun b => zu_row (by decide))) (by omega) (zF_lt (by omega)) zu_same
  obtain ⟨J, hJ⟩ : ∃ J : zPI, J = zu I 13 3 (nI s) := ⟨_, rfl⟩
  have e9 : fX6_advance I = fX6_advance_60 J := by
    rw [fX6_advance, h5]
    refine e8.trans ?_
    congr 1
    rw [hJ, hs, skp]
    funext a b
    simp only [zu]
    by_cases q1 : a = 13
    · by_cases q2 : b = 3 <;> simp [q1, q2]
    · simp [q1]
  have fJ : ∀ a b, ¬ (a = 13 ∧ b = 3) → J a b = I a b := fun a b h => by
    rw [hJ]
    by_cases h7 : a = 13
    · exact zu_col (by omega)
    · exact zu_row h7
  have j3 : J 13 3 = nI s := by rw [hJ, zu_same]
  have j1 : J 13 1 = nI t := by rw [fJ _ _ (by decide)]; exact hT.1
  have hTJ : zTC J (t, ch) := zTC_cong hT (fJ _ _ (by decide)) (fun b => fJ _ _ (by omega))
  unfold tkK tkE tkV
  rw [← hs, e9]
  unfold fX6_advance_60 tkS
  rw [j1, j3]
  by_cases c1 : t ≤ s
  · rw [if_neg (nI_nlt c1 (by omega)), if_pos c1]
    refine ⟨_, rfl, by rw [zu_col (by decide), zu_same]; rfl, by rw [zu_col (by decide), zu_col (by decide)]; exact j3, by rw [zu_same, zu_col (by decide)]; exact j1, fun h9 => absurd h9 (by simp), fun a b h => ?_⟩
    by_cases h7 : a = 13
    · rw [zu_col (by omega), zu_col (by omega), fJ a b (by omega)]
    · rw [zu_row h7, zu_row h7, fJ a b (by omega)]
  rw [if_pos (nI_lt (by omega) (by omega)), if_neg c1]
  have r1 : fX6_endOfRun J 97 122 = some (nI (enL ch t s)) := by
    rw [fX6_endOfRun, j3]
    exact lx_run (K := fun v3 => some v3) (lo := 97) (hi := 122) ht (by omega) (by omega) hTJ (t - s) zF s (by omega) (zF_lt (by omega))
  rw [r1]
  simp only [Option.bind_some]
  obtain ⟨J2, hJ2⟩ : ∃ J2 : zPI, J2 = zu J 13 5 (nI (enL ch t s)) := ⟨_, rfl⟩
  rw [← hJ2]
  have fJ2 : ∀ a b, ¬ (a = 13 ∧ b = 5) → J2 a b = J a b := fun a b h => by
    rw [hJ2]
    by_cases h7 : a = 13
    · exact zu_col (by omega)
    · exact zu_row h7
  have k5 : J2 13 5 = nI (enL ch t s) := by rw [hJ2, zu_same]
  have k3 : J2 13 3 = nI s := by rw [fJ2 _ _ (by decide)]; exact j3
  have hTJ2 : zTC J2 (t, ch) := zTC_cong hTJ (fJ2 _ _ (by decide)) (fun b => fJ2 _ _ (by omega))
  rw [k5, k3]
  by_cases c2 : s < enL ch t s
  · rw [if_neg (nI_ge c2 (by omega)), if_pos c2, pk_sub (by omega)]
    by_cases c3 : enL ch t s - s ≤ 8
    · rw [if_pos (show nI (enL ch t s - s) ≤ 8 from nI_le (b := 8) c3 (by omega)), if_pos c3]
      refine ⟨_, rfl, by rw [zu_same]; rfl, by rw [zu_col (by decide)]; exact k3, by rw [zu_col (by decide)]; exact k5, fun h9 => absurd h9 (by simp), fun a b h => ?_⟩
      by_cases h7 : a = 13
      · rw [zu_col (by omega), fJ2 a b (by omega), fJ a b (by omega)]
      · rw [zu_row h7, fJ2 a b (by omega), fJ a b (by omega)]
    · rw [if_neg (show ¬ nI (enL ch t s - s) ≤ 8 from nI_ge (a := 8) (by omega) (by omega)), if_neg c3]
      refine ⟨_, rfl, by rw [zu_same]; rfl, by rw [zu_col (by decide)]; exact k3, by rw [zu_col (by decide)]; exact k5, fun h9 => absurd h9 (by simp), fun a b h => ?_⟩
      by_cases h7 : a = 13
      · rw [zu_col (by omega), fJ2 a b (by omega), fJ a b (by omega)]
      · rw [zu_row h7, fJ2 a b (by omega), fJ a b (by omega)]
  rw [if_pos (nI_le (by omega) (by omega)), if_neg c2]
  have r2 : fX6_endOfRun J2 48 57 = some (nI (enD ch t s)) := by
    rw [fX6_endOfRun, k3]
    exact lx_run (K := fun v3 => some v3) (lo := 48) (hi := 57) ht (by omega) (by omega) hTJ2 (t - s) zF s (by omega) (zF_lt (by omega))
  rw [r2]
  simp only [Option.bind_some]
  obtain ⟨J3, hJ3⟩ : ∃ J3 : zPI, J3 = zu J2 13 5 (nI (enD ch t s)) := ⟨_, rfl⟩
  rw [← hJ3]
  have fJ3 : ∀ a b, ¬ (a = 13 ∧ b = 5) → J3 a b = J2 a b := fun a b h => by
    rw [hJ3]
    by_cases h7 : a = 13
    · exact zu_col (by omega)
    · exact zu_row h7
  have l5 : J3 13 5 = nI (enD ch t s) := by rw [hJ3, zu_same]
  have l3 : J3 13 3 = nI s := by rw [fJ3 _ _ (by decide)]; exact k3
  have hTJ3 : zTC J3 (t, ch) := zTC_cong hTJ2 (fJ3 _ _ (by decide)) (fun b => fJ3 _ _ (by omega))
  have fin : ∀ a b, ¬ (a = 13 ∧ (b = 2 ∨ b = 3 ∨ b = 4 ∨ b = 5)) → J3 a b = I a b := fun a b h => by rw [fJ3 a b (by omega), fJ2 a b (by omega), fJ a b (by omega)]
  rw [l5, l3]
  by_cases c3 : s < enD ch t s
  · rw [if_neg (nI_ge c3 (by omega)), if_pos c3, pk_sub (by omega)]
    by_cases c4 : enD ch t s - s ≤ 5
    · rw [if_pos (show nI (enD ch t s - s) ≤ 5 from nI_le (b := 5) c4 (by omega)), if_pos c4]
      have hnum : fX6_numberHere (zu J3 13 2 3) = some (nI (fd 10 (fun x => ch x - 48) (enD ch t s - s) s 0)) := by
        rw [fX6_numberHere, zu_col (show (3 : Nat) ≠ 2 by decide), l3]
        exact lx_num7 (K := fun v1 => some v1) ht (zTC_cong hTJ3 (zu_col (by decide)) (fun b => zu_row (by decide))) hD.2 (by rw [zu_col (by decide)]; exact l5) (enD ch t s - s) zF s 0 (by omega) (zF_lt (by omega)) (fun y h1 h2 => by
          have := rn_in (qD ch) (t - s) s y h1 h2
          simp [qD] at this
          omega)
      refine ⟨zu (zu J3 13 2 3) 13 4 (nI (fd 10 (fun x => ch x - 48) (enD ch t s - s) s 0)), ?_, by rw [zu_col (by decide), zu_same]; rfl, by rw [zu_col (by decide), zu_col (by decide)]; exact l3, by rw [zu_col (by decide), zu_col (by decide)]; exact l5, fun _ => zu_same, fun a b h => ?_⟩
      · rw [fX6_advance_174, zu_same, if_pos rfl, hnum]
        rfl
      · by_cases h7 : a = 13
        · rw [zu_col (by omega), zu_col (by omega), fin a b h]
        · rw [zu_row h7, zu_row h7, fin a b h]
    · rw [if_neg (show ¬ nI (enD ch t s - s) ≤ 5 from nI_ge (a := 5) (by omega) (by omega)), if_neg c4]
      refine ⟨zu (zu J3 13 2 1) 13 4 0, ?_, by rw [zu_col (by decide), zu_same]; rfl, by rw [zu_col (by decide), zu_col (by decide)]; exact l3, by rw [zu_col (by decide), zu_col (by decide)]; exact l5, fun h9 => absurd h9 (by simp), fun a b h => ?_⟩
      · rw [fX6_advance_174, zu_same, if_neg (by decide)]
      · by_cases h7 : a = 13
        · rw [zu_col (by omega), zu_col (by omega), fin a b h]
        · rw [zu_row h7, zu_row h7, fin a b h]
  · rw [if_pos (nI_le (by omega) (by omega)), if_neg c3]
    obtain ⟨d1, d2⟩ := hT.2.2 s (by simp only; omega)
    simp only at d1 d2
    have hcb : ch s < 200 := by unfold tpOk at d2; omega
    have d3 : J3 14 s = nI (ch s) := by rw [fin _ _ (by omega)]; exact d1
    have hz : zin (nI s) 1000 = true := zin_nI (by omega) (by omega)
    simp only [hz, if_true]
    rw [nI_clamp (by omega), d3]
    have hsg : fX6_isSign (nI (ch s)) = if isSg (ch s) = true then 1 else 0 := by
      have : ∀ c, c < 200 → fX6_isSign (nI c) = if isSg c = true then 1 else 0 := by decide +kernel
      exact this _ hcb
    rw [hsg]
    by_cases c4 : isSg (ch s) = true
    · rw [if_pos c4, if_pos c4, if_neg (by decide)]
      refine ⟨_, rfl, by rw [zu_col (by decide), zu_same], by rw [zu_col (by decide), zu_col (by decide)]; exact l3, by rw [zu_same, zu_col (by decide), l3, nI_1], fun h9 => ?_, fun a b h => ?_⟩
      · rw [h9] at c4
        exact absurd c4 (by decide)
      · by_cases h7 : a = 13
        · rw [zu_col (by omega), zu_col (by omega), fin a b h]
        · rw [zu_row h7, zu_row h7, fin a b h]
    · rw [if_neg c4, if_neg c4, if_pos rfl]
      refine ⟨_, rfl, by rw [zu_col (by decide), zu_same]; rfl, by rw [zu_col (by decide), zu_col (by decide)]; exact l3, by rw [zu_same, zu_col (by decide), l3, nI_1], fun h9 => absurd h9 (by simp), fun a b h => ?_⟩
      by_cases h7 : a = 13
      · rw [zu_col (by omega), zu_col (by omega), fin a b h]
      · rw [zu_row h7, zu_row h7, fin a b h]
