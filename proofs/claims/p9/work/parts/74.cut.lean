/-! THE REFERENCE'S TOKENS -/
def nL (n : Nat) : Int64 := Int64.ofNat n
theorem nL_add (a b : Nat) : nL a + nL b = nL (a + b) := (Int64.ofNat_add a b).symm
theorem nL_mul (a b : Nat) : nL a * nL b = nL (a * b) := (Int64.ofNat_mul a b).symm
theorem nL_toInt {a : Nat} (h : a < 9223372036854775808) : (nL a).toInt = a := Int64.toInt_ofNat_of_lt (by omega)
theorem nL_inj {a b : Nat} (ha : a < 9223372036854775808) (hb : b < 9223372036854775808) (h : nL a = nL b) : a = b := by
  have h1 := nL_toInt ha
  have h2 := nL_toInt hb
  rw [h] at h1
  omega
theorem nL_of : ∀ c, c < 1000 → (nI c).toInt64 = nL c := by decide +kernel
theorem nL_sub (a b : Nat) : nL (a + b) - nL b = nL a := by rw [← nL_add]; exact Int64.add_sub_cancel _ _
theorem fd_snoc (b : Nat) (g : Nat → Nat) : ∀ k p v, fd b g (k + 1) p v = b * fd b g k p v + g (p + k) := by
  intro k
  induction k with
  | zero => intro p v; rfl
  | succ k ih =>
    intro p v
    rw [fd, ih (p + 1) (b * v + g p), ← fd, show p + 1 + k = p + (k + 1) from by omega]
theorem fd_bound (b : Nat) (g : Nat → Nat) (hb : 0 < b) : ∀ k p, (∀ x, x < k → g (p + x) < b) → fd b g k p 0 < b ^ k := by
  intro k
  induction k with
  | zero => intro p h; simp [fd]
  | succ k ih =>
    intro p h
    have h1 := ih p (fun x hx => h x (by omega))
    have h2 := h k (by omega)
    rw [fd_snoc, Nat.pow_succ]
    have h3 : b * (fd b g k p 0 + 1) ≤ b * b ^ k := Nat.mul_le_mul_left b h1
    rw [Nat.mul_add, Nat.mul_comm b (b ^ k)] at h3
    omega
def tps (ch : Nat → Nat) (t : Nat) : Nat → Nat
  | 0 => 0
  | j + 1 => tkE ch t (tps ch t j)
def kd (ch : Nat → Nat) (t j : Nat) : Nat := tkK ch t (tps ch t j)
def pl (ch : Nat → Nat) (t j : Nat) : Nat := skp ch t (tps ch t j)
def vl (ch : Nat → Nat) (t j : Nat) : Nat := tkV ch t (tps ch t j)
theorem tps_le (ch : Nat → Nat) (t : Nat) : ∀ j, tps ch t j ≤ t := by
  intro j
  induction j with
  | zero => exact Nat.zero_le _
  | succ j ih => exact (tkE_b ch ih).1
def srt (k : Nat) : Nat := if k = 0 then 0 else if k = 1 then 4 else if k = 2 then 1 else if k = 3 then 2 else 3
def rT3 (J : zPI) (ch : Nat → Nat) (t : Nat) : Prop := J 48 3 = nI t ∧ ∀ y, y < t → J 49 y = nI (ch y) ∧ ch y < 200
def rTb (J : zPI) (L : zPL) (ch : Nat → Nat) (t n : Nat) : Prop := ∀ j, j < n → J 50 j = nI (srt (kd ch t j)) ∧ J 51 j = nI (pl ch t j) ∧ (1 < kd ch t j → L 52 j = nL (vl ch t j))
theorem ct_let : ∀ c, c < 200 → (fX9_isLetter (nI c) = 0 ↔ ¬ (97 ≤ c ∧ c ≤ 122)) ∧ (fX9_isDigit (nI c) = 0 ↔ ¬ (48 ≤ c ∧ c ≤ 57)) ∧ (fX9_isSignOf (nI c) = 0 ↔ isSg c = false) ∧ (97 ≤ c → c ≤ 122 → (fX9_rank (nI c)).toInt64 = nL (c - 96)) := by decide +kernel
theorem ct_70 {K : Int32 → Int32 → Int32 → Int64 → zPI → zPL → Option (zPI × zPL)} {v1 : Int32} {J : zPI} {L : zPL} {ch : Nat → Nat} {t k : Nat} (ht : t ≤ 1000) (hT : rT3 J ch t) : ∀ (m fu x : Nat), x + m = t → m < fu → k ≤ x → fX9_cutAll_70 K fu v1 (nI x) (nI k) (nL (fd 37 (fun x => ch x - 96) (min (x - k) 8) k 0)) J L = K v1 (nI (rn (qL ch) m x)) (nI k) (nL (fd 37 (fun x => ch x - 96) (min (rn (qL ch) m x - k) 8) k 0)) J L := by
  intro m
  induction m with
  | zero =>
    intro fu x hx hf hk
    obtain ⟨fu, rfl, -⟩ := zsucc hf
    rw [fX9_cutAll_70, hT.1, if_pos (nI_le (a := t) (b := x) (by omega) (by omega)), rn]
  | succ m ih =>
    intro fu x hx hf hk
    obtain ⟨fu, rfl, hf⟩ := zsucc hf
    obtain ⟨c1, c2⟩ := hT.2 x (by omega)
    obtain ⟨l1, -, -, l4⟩ := ct_let (ch x) c2
    have hz : zin (nI x) 1000 = true := zin_nI (by omega) (by omega)
    rw [fX9_cutAll_70, hT.1, if_neg (nI_ge (a := x) (b := t) (by omega) (by omega))]
    simp only [hz, if_true]
    rw [nI_clamp (by omega), c1, nI_1, rn]
    by_cases b1 : 97 ≤ ch x ∧ ch x ≤ 122
    · rw [if_neg (fun h => l1.1 h b1), if_pos (show qL ch x = true by simp [qL, b1]), pk_sub (by omega), l4 b1.1 b1.2]
      by_cases b2 : 8 ≤ x - k
      · rw [if_pos (show (8 : Int32) ≤ nI (x - k) from nI_le (a := 8) b2 (by omega))]
        have := ih fu (x + 1) (by omega) (by omega) (by omega)
        rw [show min (x + 1 - k) 8 = min (x - k) 8 from by omega] at this
        exact this
      · rw [if_neg (show ¬ (8 : Int32) ≤ nI (x - k) from nI_ge (b := 8) (by omega) (by omega)), show (37 : Int64) = nL 37 from rfl, nL_mul, nL_add]
        have := ih fu (x + 1) (by omega) (by omega) (by omega)
        rw [show min (x + 1 - k) 8 = min (x - k) 8 + 1 from by omega, fd_snoc, show k + min (x - k) 8 = x from by omega] at this
        exact this
    · rw [if_pos (l1.2 b1), if_neg (show ¬ qL ch x = true by simp [qL]; omega)]
theorem ct_159 {K : Int32 → Int32 → Int32 → Int64 → zPI → zPL → Option (zPI × zPL)} {v1 : Int32} {J : zPI} {L : zPL} {ch : Nat → Nat} {t k : Nat} (ht : t ≤ 1000) (hT : rT3 J ch t) : ∀ (m fu x : Nat), x + m = t → m < fu → k ≤ x → fX9_cutAll_159 K fu v1 (nI x) (nI k) (nL (fd 10 (fun x => ch x - 48) (min (x - k) 5) k 0)) J L = K v1 (nI (rn (qD ch) m x)) (nI k) (nL (fd 10 (fun x => ch x - 48) (min (rn (qD ch) m x - k) 5) k 0)) J L := by
  intro m
  induction m with
  | zero =>
    intro fu x hx hf hk
    obtain ⟨fu, rfl, -⟩ := zsucc hf
    rw [fX9_cutAll_159, hT.1, if_pos (nI_le (a := t) (b := x) (by omega) (by omega)), rn]
  | succ m ih =>
    intro fu x hx hf hk
    obtain ⟨fu, rfl, hf⟩ := zsucc hf
    obtain ⟨c1, c2⟩ := hT.2 x (by omega)
    obtain ⟨-, l1, -, -⟩ := ct_let (ch x) c2
    have hz : zin (nI x) 1000 = true := zin_nI (by omega) (by omega)
    rw [fX9_cutAll_159, hT.1, if_neg (nI_ge (a := x) (b := t) (by omega) (by omega))]
    simp only [hz, if_true]
    rw [nI_clamp (by omega), c1, nI_1, rn]
    by_cases b1 : 48 ≤ ch x ∧ ch x ≤ 57
    · rw [if_neg (fun h => l1.1 h b1), if_pos (show qD ch x = true by simp [qD, b1]), pk_sub (by omega), nL_of _ (by omega)]
      by_cases b2 : 5 ≤ x - k
      · rw [if_pos (show (5 : Int32) ≤ nI (x - k) from nI_le (a := 5) b2 (by omega))]
        have := ih fu (x + 1) (by omega) (by omega) (by omega)
        rw [show min (x + 1 - k) 5 = min (x - k) 5 from by omega] at this
        exact this
      · rw [if_neg (show ¬ (5 : Int32) ≤ nI (x - k) from nI_ge (b := 5) (by omega) (by omega)), show (10 : Int64) = nL 10 from rfl, nL_mul, nL_add, show (48 : Int64) = nL 48 from rfl]
        have e9 : 10 * fd 10 (fun x => ch x - 48) (min (x - k) 5) k 0 + ch x = 10 * fd 10 (fun x => ch x - 48) (min (x - k) 5) k 0 + (ch x - 48) + 48 := by omega
        rw [e9, nL_sub]
        have := ih fu (x + 1) (by omega) (by omega) (by omega)
        rw [show min (x + 1 - k) 5 = min (x - k) 5 + 1 from by omega, fd_snoc, show k + min (x - k) 5 = x from by omega] at this
        exact this
    · rw [if_pos (l1.2 b1), if_neg (show ¬ qD ch x = true by simp [qD]; omega)]
theorem rn_0 (Q : Nat → Bool) {k p : Nat} (h : Q p = false) : rn Q k p = p := by
  cases k with
  | zero => rfl
  | succ k => rw [rn, h]; rfl
theorem rn_1 (Q : Nat → Bool) {t p : Nat} (hp : p < t) (h : Q p = true) : rn Q (t - p) p = rn Q (t - (p + 1)) (p + 1) := by
  rw [show t - p = t - (p + 1) + 1 from by omega, rn, if_pos h]
theorem ct_17 {K : Int32 → zPI → zPL → Option (zPI × zPL)} {ch : Nat → Nat} {t : Nat} (ht : t ≤ 1000) : ∀ (m fu k n : Nat) (J : zPI) (L : zPL), t - k ≤ m → m < fu → k ≤ t → n ≤ k → rT3 J ch t → skp ch t (tps ch t n) = skp ch t k → (∀ j, j < n → kd ch t j ≠ 0) → rTb J L ch t n →
  ∃ N J' L', (n ≤ N ∧ N ≤ t ∧ kd ch t N = 0 ∧ pl ch t N = t) ∧ (∀ j, j < N → kd ch t j ≠ 0) ∧ rTb J' L' ch t N ∧ (∀ a b, a ≠ 50 → a ≠ 51 → J' a b = J a b) ∧ (∀ a b, a ≠ 52 → L' a b = L a b) ∧ fX9_cutAll_17 K fu (nI n) (nI k) J L = K (nI N) J' L' := by
  intro m
  induction m with
  | zero =>
    intro fu k n J L hm hf hk hn hT hs h0 hB
    obtain ⟨fu, rfl, -⟩ := zsucc hf
    have e : k = t := by omega
    subst e
    have e2 : skp ch k k = k := by unfold skp; rw [Nat.sub_self, rn]
    refine ⟨n, J, L, ⟨Nat.le_refl _, hn, ?_, by unfold pl; rw [hs, e2]⟩, h0, hB, fun _ _ _ _ => rfl, fun _ _ _ => rfl, ?_⟩
    · unfold kd tkK tkS
      rw [hs, e2, if_pos (Nat.le_refl _)]
    · rw [fX9_cutAll_17, hT.1, if_pos (nI_le (Nat.le_refl _) (by omega))]
  | succ m ih =>
    intro fu k n J L hm hf hk hn hT hs h0 hB
    by_cases ek : k = t
    · exact ih fu k n J L (by omega) (by omega) hk hn hT hs h0 hB
    obtain ⟨fu, rfl, hf⟩ := zsucc hf
    obtain ⟨c1, c2⟩ := hT.2 k (by omega)
    obtain ⟨l1, l2, l3, l4⟩ := ct_let (ch k) c2
    have hz : zin (nI k) 1000 = true := zin_nI (by omega) (by omega)
    have hz2 : zin (nI n) 1002 = true := zin_nI (by omega) (by omega)
    rw [fX9_cutAll_17, hT.1, if_neg (nI_ge (a := k) (b := t) (by omega) (by omega))]
    simp only [hz, hz2, if_true]
    rw [nI_clamp (by omega), nI_clamp (by omega), c1, nI_1, nI_1]
    by_cases b1 : ch k = 10
    · rw [if_pos (show nI (ch k) = 10 by rw [b1]; rfl)]
      exact ih fu (k + 1) n J L (by omega) (by omega) (by omega) (by omega) hT (by rw [hs]; exact rn_1 (qB ch) (by omega) (by simp [qB, b1])) h0 hB
    rw [if_neg (show ¬ nI (ch k) = 10 from nI_ne (b := 10) (by omega) (by omega) b1)]
    by_cases b2 : ch k = 32
    · rw [if_pos (show nI (ch k) = 32 by rw [b2]; rfl)]
      exact ih fu (k + 1) n J L (by omega) (by omega) (by omega) (by omega) hT (by rw [hs]; exact rn_1 (qB ch) (by omega) (by simp [qB, b2])) h0 hB
    rw [if_neg (show ¬ nI (ch k) = 32 from nI_ne (b := 32) (by omega) (by omega) b2)]
    have sk : skp ch t (tps ch t n) = k := by rw [hs]; exact rn_0 (qB ch) (by simp [qB, b1, b2])
    have hE := enL_b ch (p := k) hk
    have hD := enD_b ch (p := k) hk
    have fin : ∀ (e s : Nat) (v : Int64), tps ch t (n + 1) = e → k < e → e ≤ t → s = srt (kd ch t n) → (1 < kd ch t n → v = nL (vl ch t n)) → kd ch t n ≠ 0 → ∃ N J' L', (n ≤ N ∧ N ≤ t ∧ kd ch t N = 0 ∧ pl ch t N = t) ∧ (∀ j, j < N → kd ch t j ≠ 0) ∧ rTb J' L' ch t N ∧ (∀ a b, a ≠ 50 → a ≠ 51 → J' a b = J a b) ∧ (∀ a b, a ≠ 52 → L' a b = L a b) ∧ fX9_cutAll_17 K fu (nI (n + 1)) (nI e) (zu (zu J 51 n (nI k)) 50 n (nI s)) (zu L 52 n v) = K (nI N) J' L' := by
      intro e s v he h1 h2 hs2 hv hk0
      obtain ⟨N, J', L', ⟨g1, g2, g3, g4⟩, g5, g6, g7, g8, g9⟩ := ih fu e (n + 1) (zu (zu J 51 n (nI k)) 50 n (nI s)) (zu L 52 n v) (by omega) (by omega) h2 (by omega) ⟨by rw [zu_row (by decide), zu_row (by decide)]; exact hT.1, fun y hy => by rw [zu_row (by decide), zu_row (by decide)]; exact hT.2 y hy⟩ (by rw [he]) (fun j hj => by
          by_cases ej : j = n
          · rw [ej]; exact hk0
          · exact h0 j (by omega)) (fun j hj => by
          by_cases ej : j = n
          · subst ej
            rw [zu_same, zu_row (by decide), zu_same, zu_same, hs2]
            refine ⟨rfl, ?_, hv⟩
            unfold pl
            rw [sk]
          · obtain ⟨q1, q2, q3⟩ := hB j (by omega)
            rw [zu_col ej, zu_row (by decide), zu_row (by decide), zu_col ej, zu_col ej]
            exact ⟨q1, q2, q3⟩)
      exact ⟨N, J', L', ⟨by omega, g2, g3, g4⟩, g5, g6, fun a b h1 h2 => by rw [g7 a b h1 h2, zu_row h1, zu_row h2], fun a b h1 => by rw [g8 a b h1, zu_row h1], g9⟩
    have kE : tkS ch t k = (kd ch t n, tps ch t (n + 1), vl ch t n) := by
      show _ = (tkK ch t _, tkE ch t _, tkV ch t _)
      unfold tkK tkE tkV
      rw [sk]
    unfold tkS at kE
    rw [if_neg (show ¬ t ≤ k by omega)] at kE
    have hTu : rT3 (zu J 51 n (nI k)) ch t := ⟨by rw [zu_row (by decide)]; exact hT.1, fun y hy => by rw [zu_row (by decide)]; exact hT.2 y hy⟩
    by_cases d1 : 97 ≤ ch k ∧ ch k ≤ 122
    · have e1 : enL ch t k = rn (qL ch) (t - (k + 1)) (k + 1) := rn_1 (qL ch) (by omega) (by simp [qL, d1])
      have e2 := (rn_le (qL ch) (t - (k + 1)) (k + 1)).1
      rw [if_pos (show k < enL ch t k by omega)] at kE
      rw [if_neg (fun h => l1.1 h d1)]
      have e3 := ct_70 (K := fun v1 v2 v4 v5 I L => fX9_cutAll_129 (fX9_cutAll_17 K fu) v1 v2 v4 v5 I L) (v1 := nI n) (L := L) (k := k) ht hTu (t - k) zF k (by omega) (zF_lt (by omega)) (Nat.le_refl _)
      rw [show min (k - k) 8 = 0 from by omega, fd, ← enL] at e3
      rw [show (0 : Int64) = nL 0 from rfl, e3]
      unfold fX9_cutAll_129
      rw [pk_sub (by omega)]
      simp only [hz2, if_true]
      rw [nI_clamp (by omega), nI_1]
      simp only [Prod.mk.injEq] at kE
      by_cases d3 : enL ch t k - k ≤ 8
      · rw [if_pos (show nI (enL ch t k - k) ≤ 8 from nI_le (b := 8) d3 (by omega))]
        rw [if_pos d3] at kE
        exact fin (enL ch t k) 1 _ kE.2.1.symm (by omega) hE.2 (by rw [← kE.1]; rfl) (fun _ => by rw [← kE.2.2, show min (enL ch t k - k) 8 = enL ch t k - k from by omega]) (by rw [← kE.1]; decide)
      · rw [if_neg (show ¬ nI (enL ch t k - k) ≤ 8 from nI_ge (a := 8) (by omega) (by omega))]
        rw [if_neg d3] at kE
        exact fin (enL ch t k) 4 _ kE.2.1.symm (by omega) hE.2 (by rw [← kE.1]; rfl) (fun h => by omega) (by rw [← kE.1]; decide)
    have e0 : enL ch t k = k := rn_0 (qL ch) (by simp [qL]; omega)
    rw [if_neg (show ¬ k < enL ch t k by omega)] at kE
    rw [if_pos (l1.2 d1)]
    by_cases d2 : 48 ≤ ch k ∧ ch k ≤ 57
    · have e1 : enD ch t k = rn (qD ch) (t - (k + 1)) (k + 1) := rn_1 (qD ch) (by omega) (by simp [qD, d2])
      have e2 := (rn_le (qD ch) (t - (k + 1)) (k + 1)).1
      rw [if_pos (show k < enD ch t k by omega)] at kE
      rw [if_neg (fun h => l2.1 h d2)]
      have e3 := ct_159 (K := fun v1 v2 v4 v5 I L => fX9_cutAll_218 (fX9_cutAll_17 K fu) v1 v2 v4 v5 I L) (v1 := nI n) (L := L) (k := k) ht hTu (t - k) zF k (by omega) (zF_lt (by omega)) (Nat.le_refl _)
      rw [show min (k - k) 5 = 0 from by omega, fd, ← enD] at e3
      rw [show (0 : Int64) = nL 0 from rfl, e3]
      unfold fX9_cutAll_218
      rw [pk_sub (by omega)]
      simp only [hz2, if_true]
      rw [nI_clamp (by omega), nI_1]
      simp only [Prod.mk.injEq] at kE
      by_cases d3 : enD ch t k - k ≤ 5
      · rw [if_pos (show nI (enD ch t k - k) ≤ 5 from nI_le (b := 5) d3 (by omega))]
        rw [if_pos d3] at kE
        exact fin (enD ch t k) 2 _ kE.2.1.symm (by omega) hD.2 (by rw [← kE.1]; rfl) (fun _ => by rw [← kE.2.2, show min (enD ch t k - k) 5 = enD ch t k - k from by omega]) (by rw [← kE.1]; decide)
      · rw [if_neg (show ¬ nI (enD ch t k - k) ≤ 5 from nI_ge (a := 5) (by omega) (by omega))]
        rw [if_neg d3] at kE
        exact fin (enD ch t k) 4 _ kE.2.1.symm (by omega) hD.2 (by rw [← kE.1]; rfl) (fun h => by omega) (by rw [← kE.1]; decide)
    have e0' : enD ch t k = k := rn_0 (qD ch) (by simp [qD]; omega)
    rw [if_neg (show ¬ k < enD ch t k by omega)] at kE
    rw [if_pos (l2.2 d2), nL_of _ (by omega)]
    simp only [Prod.mk.injEq] at kE
    by_cases d3 : isSg (ch k) = true
    · rw [if_neg (fun h => by rw [l3.1 h] at d3; exact absurd d3 (by decide))]
      rw [if_pos d3] at kE
      have hc : ch k ≠ 0 ∧ ch k ≠ 1 ∧ ch k ≠ 2 ∧ ch k ≠ 3 := by
        refine ⟨?_, ?_, ?_, ?_⟩ <;> intro h9 <;> rw [h9] at d3 <;> exact absurd d3 (by decide)
      exact fin (k + 1) 3 _ kE.2.1.symm (by omega) (by omega) (by rw [← kE.1]; unfold srt; rw [if_neg hc.1, if_neg hc.2.1, if_neg hc.2.2.1, if_neg hc.2.2.2]) (fun _ => by rw [← kE.2.2]) (by rw [← kE.1]; exact hc.1)
    · rw [if_pos (l3.2 (by simpa using d3))]
      rw [if_neg d3] at kE
      exact fin (k + 1) 4 _ kE.2.1.symm (by omega) (by omega) (by rw [← kE.1]; rfl) (fun h => by omega) (by rw [← kE.1]; decide)
/-- cutAll: the table of tokens -/
theorem ct_all {I : zPI} {L : zPL} {ch : Nat → Nat} {t : Nat} (hT : zTR I (t, ch)) : ∃ N J' L', (N ≤ 1000 ∧ kd ch t N = 0) ∧ (∀ j, j < N → kd ch t j ≠ 0) ∧ rTb J' L' ch t (N + 1) ∧ (∀ a b, ¬ (a = 50 ∨ a = 51 ∨ (a = 48 ∧ (b = 2 ∨ b = 3 ∨ b = 7 ∨ b = 8))) → J' a b = I a b) ∧ (∀ a b, a ≠ 52 → L' a b = L a b) ∧ J' 48 2 = 0 ∧ J' 48 7 = nI 0 ∧ J' 48 8 = 0 ∧ fX9_cutAll I L = some (J', L') := by
  have ht : t ≤ 1000 := hT.2.1
  have hB0 : rTb (zu (zu I 48 3 (I 48 2)) 48 2 0) L ch t 0 := fun j hj => absurd hj (by omega)
  have hT3 : rT3 (zu (zu I 48 3 (I 48 2)) 48 2 0) ch t := ⟨by rw [zu_col (by decide), zu_same]; exact hT.1, fun y hy => by
    obtain ⟨h1, h2⟩ := hT.2.2 y hy
    simp only at h1 h2
    rw [zu_row (by decide), zu_row (by decide)]
    exact ⟨h1, by unfold tpOk at h2; omega⟩⟩
  obtain ⟨N, J', L', ⟨g1, g2, g3, g4⟩, g5, g6, g7, g8, g9⟩ := ct_17 (K := fun v1 I L => (if zin v1 1002 then (if zin v1 1002 then some (zu (zu (zu (zu I 50 v1.toNatClampNeg 0) 51 v1.toNatClampNeg ((zu I 50 v1.toNatClampNeg 0) 48 3)) 48 7 0) 48 8 0, L) else none) else none)) (ch := ch) ht t zF 0 0 _ L (by omega) (zF_lt (by omega)) (by omega) (by omega) hT3 rfl (fun j hj => absurd hj (by omega)) hB0
  have hz2 : zin (nI N) 1002 = true := zin_nI (by omega) (by omega)
  have j3 : J' 48 3 = nI t := by rw [g7 _ _ (by decide) (by decide)]; exact hT3.1
  refine ⟨N, zu (zu (zu (zu J' 50 N 0) 51 N (nI t)) 48 7 0) 48 8 0, L', ⟨by omega, g3⟩, g5, ?_, ?_, g8, ?_, ?_, ?_, ?_⟩
  · intro j hj
    rw [zu_row (show (50 : Nat) ≠ 48 by decide), zu_row (show (50 : Nat) ≠ 48 by decide), zu_row (show (50 : Nat) ≠ 51 by decide), zu_row (show (51 : Nat) ≠ 48 by decide), zu_row (show (51 : Nat) ≠ 48 by decide)]
    by_cases ej : j = N
    · subst ej
      rw [zu_same, zu_same, g3, g4]
      exact ⟨rfl, rfl, fun h9 => absurd h9 (by decide)⟩
    · rw [zu_col ej, zu_col ej, zu_row (show (51 : Nat) ≠ 50 by decide)]
      exact g6 j (by omega)
  · intro a b h
    by_cases h1 : a = 48
    · subst h1
      rw [zu_col (by omega), zu_col (by omega), zu_row (by decide), zu_row (by decide), g7 _ _ (by decide) (by decide), zu_col (by omega), zu_col (by omega)]
    · rw [zu_row h1, zu_row h1, zu_row (by omega), zu_row (by omega), g7 _ _ (by omega) (by omega), zu_row h1, zu_row h1]
  · rw [zu_col (by decide), zu_col (by decide), zu_row (by decide), zu_row (by decide), g7 _ _ (by decide) (by decide), zu_same]
  · rw [zu_col (by decide), zu_same]; rfl
  · rw [zu_same]
  · rw [fX9_cutAll]
    refine g9.trans ?_
    simp only [hz2, if_true]
    rw [nI_clamp (by omega), zu_row (show (48 : Nat) ≠ 50 by decide), j3]
