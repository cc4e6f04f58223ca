/-! A WHILE, AN IF: put together -/
theorem SQ_in {I J : zPI} {o : Nat} {G : Nat → Nat → Nat} {n k1 k2 c1 c2 lo hi top x : Nat} (hq : SQ I J o G (nI n) k1 k2 c1 c2) (h1 : lo ≤ c1) (h2 : c2 ≤ hi) (h3 : k2 ≤ top) (hn : n < k1) (x1 : k1 ≤ x) (x2 : x < k2) (hp : Nx I o G k2 c2 x → PN I o G top n x) : SF I J o G lo hi top x ∧ ∃ y, n ≤ y ∧ y < x ∧ I (o + 4) x = nI y ∧ PN I o G top y x := by
  obtain ⟨g1, g2, g3, g4⟩ := hq
  obtain ⟨b1, b2⟩ := g4 x x1 x2
  refine ⟨SF_mono b1 h1 h2 h3, ?_⟩
  rcases b2 with ⟨b2, b3⟩ | ⟨y, b2, b3, b4, b5⟩
  · exact ⟨n, Nat.le_refl _, by omega, b2, hp b3⟩
  · exact ⟨y, by omega, b3, b4, PN_mono b5 h3⟩
theorem ST_while {I J : zPI} {o : Nat} {G : Nat → Nat → Nat} {p : Int32} {n e c u xx : Nat} (hq : SQ I J o G (nI n) (n + 1) e (u + 1) xx) (g0 : G 0 n = c) (g1 : G 1 n = u) (g2 : G 2 n = xx + 1) (g3 : G 3 n = xx) (i1 : I (o + 1) n = nI 8) (i3 : I (o + 3) n = nI 0) (i4 : I (o + 4) n = p) (i6 : I (o + 6) n = nI e) (hE : ∃ fk, fk < 3 ∧ I (o + 2) n = nI fk ∧ EX I J o n fk c u) (cu : c ≤ u) (j1 : J 54 u = 11) (j2 : J 55 u = nI (xx + 1)) (j3 : J 54 xx = 12) (j4 : J 55 xx = nI c) : ST I J o G p n e c (xx + 1) := by
  have q := hq
  obtain ⟨q1, q2, q3, -⟩ := q
  refine ⟨by omega, g0, g2, i6, i4, ⟨8, e, i1, i6, by omega, Nat.le_refl _, ⟨by omega, by omega, by omega⟩, Or.inr (Or.inl ⟨rfl, ⟨by rw [g0, g1]; exact hE, i3, by omega, by omega, by omega, by rw [g1]; exact j1⟩, by rw [g1, g2]; exact j2, by omega, by rw [g3]; exact j3, by rw [g3, g0]; exact j4, by rw [g1, g3]; exact q3⟩)⟩, fun x x1 x2 => ?_⟩
  exact SQ_in hq (by omega) (by omega) (Nat.le_refl _) (by omega) (by omega) x2 (fun h => Or.inl ⟨i1, e, i6, Nat.le_refl _, x2, by rw [g3]; exact h⟩)
theorem ST_if1 {I J : zPI} {o : Nat} {G : Nat → Nat → Nat} {p : Int32} {n e c u xx : Nat} (hq : SQ I J o G (nI n) (n + 1) e (u + 1) xx) (g0 : G 0 n = c) (g1 : G 1 n = u) (g2 : G 2 n = xx) (g3 : G 3 n = xx) (i1 : I (o + 1) n = nI 7) (i3 : I (o + 3) n = nI 0) (i4 : I (o + 4) n = p) (i5 : I (o + 5) n = nI e) (i6 : I (o + 6) n = nI e) (hE : ∃ fk, fk < 3 ∧ I (o + 2) n = nI fk ∧ EX I J o n fk c u) (cu : c ≤ u) (j1 : J 54 u = 11) (j2 : J 55 u = nI xx) : ST I J o G p n e c xx := by
  have q := hq
  obtain ⟨q1, q2, q3, -⟩ := q
  refine ⟨by omega, g0, g2, i6, i4, ⟨7, e, i1, i6, by omega, Nat.le_refl _, ⟨by omega, by omega, by omega⟩, Or.inr (Or.inr ⟨rfl, ⟨by rw [g0, g1]; exact hE, i3, by omega, by omega, by omega, by rw [g1]; exact j1⟩, e, i5, by omega, Nat.le_refl _, by rw [g1, g3]; exact q3, Or.inl ⟨rfl, by omega, by rw [g1, g2]; exact j2⟩⟩)⟩, fun x x1 x2 => ?_⟩
  exact SQ_in hq (by omega) (by omega) (Nat.le_refl _) (by omega) (by omega) x2 (fun h => Or.inr ⟨i1, e, e, i5, i6, Nat.le_refl _, Nat.le_refl _, Or.inl ⟨x2, by rw [g3]; exact h⟩⟩)
theorem ST_if2 {I J : zPI} {o : Nat} {G : Nat → Nat → Nat} {p : Int32} {n m e c u xx ee : Nat} (hq : SQ I J o G (nI n) (n + 1) m (u + 1) xx) (hr : SQ I J o G (nI n) m e (xx + 1) ee) (g0 : G 0 n = c) (g1 : G 1 n = u) (g2 : G 2 n = ee) (g3 : G 3 n = xx) (i1 : I (o + 1) n = nI 7) (i3 : I (o + 3) n = nI 0) (i4 : I (o + 4) n = p) (i5 : I (o + 5) n = nI m) (i6 : I (o + 6) n = nI e) (hE : ∃ fk, fk < 3 ∧ I (o + 2) n = nI fk ∧ EX I J o n fk c u) (cu : c ≤ u) (j1 : J 54 u = 11) (j2 : J 55 u = nI (xx + 1)) (j3 : J 54 xx = 12) (j4 : J 55 xx = nI ee) : ST I J o G p n e c ee := by
  have q := hq
  obtain ⟨q1, q2, q3, -⟩ := q
  have r := hr
  obtain ⟨r1, r2, r3, -⟩ := r
  refine ⟨by omega, g0, g2, i6, i4, ⟨7, e, i1, i6, by omega, Nat.le_refl _, ⟨by omega, by omega, by omega⟩, Or.inr (Or.inr ⟨rfl, ⟨by rw [g0, g1]; exact hE, i3, by omega, by omega, by omega, by rw [g1]; exact j1⟩, m, i5, by omega, r1, by rw [g1, g3]; exact q3, Or.inr ⟨by omega, by rw [g3]; exact j3, by rw [g3, g2]; exact j4, by rw [g1, g3]; exact j2, by rw [g3, g2]; exact r3⟩⟩)⟩, fun x x1 x2 => ?_⟩
  by_cases xm : x < m
  · exact SQ_in hq (by omega) (by omega) r1 (by omega) (by omega) xm (fun h => Or.inr ⟨i1, m, e, i5, i6, r1, Nat.le_refl _, Or.inl ⟨xm, by rw [g3]; exact h⟩⟩)
  · exact SQ_in hr (by omega) (by omega) (Nat.le_refl _) (by omega) (by omega) x2 (fun h => Or.inr ⟨i1, m, e, i5, i6, r1, Nat.le_refl _, Or.inr ⟨by omega, x2, by rw [g2]; exact h⟩⟩)
/-- an order by itself -/
theorem ST_ord {I J : zPI} {o : Nat} {G : Nat → Nat → Nat} {p : Int32} {n c v : Nat} (hv : v < 7) (g0 : G 0 n = c) (g2 : G 2 n = c + 1) (i1 : I (o + 1) n = nI v) (i4 : I (o + 4) n = p) (i6 : I (o + 6) n = nI (n + 1)) (h : ∃ f s, I (o + 2) n = nI f ∧ I (o + 3) n = nI s ∧ (loO v ≤ f ∧ f ≤ hiO v ∧ s ≤ 8) ∧ wCode J c v (nI f) (nI s)) : ST I J o G p n (n + 1) c (c + 1) := by
  refine ⟨by omega, g0, g2, i6, i4, ⟨v, n + 1, i1, i6, by omega, Nat.le_refl _, ⟨by omega, by omega, by omega⟩, Or.inl ⟨hv, rfl, by omega, ?_⟩⟩, fun x x1 x2 => absurd x2 (by omega)⟩
  rw [g0]
  exact h
