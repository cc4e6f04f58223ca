/-! A STATEMENT: faults at its head, orders -/
def gUp (G : Nat → Nat → Nat) (n a u e x : Nat) (k y : Nat) : Nat := if y = n then (if k = 0 then a else if k = 1 then u else if k = 2 then e else x) else G k y
theorem gUp_at (G : Nat → Nat → Nat) (n a u e x : Nat) : gUp G n a u e x 0 n = a ∧ gUp G n a u e x 1 n = u ∧ gUp G n a u e x 2 n = e ∧ gUp G n a u e x 3 n = x := by
  unfold gUp
  simp
theorem gUp_ne (G : Nat → Nat → Nat) {n a u e x : Nat} (k : Nat) {y : Nat} (h : y ≠ n) : gUp G n a u e x k y = G k y := by
  unfold gUp
  rw [if_neg h]
theorem cvb_lt {w : Nat} (h : w < 8) : cvb w = nI w := by
  unfold cvb
  rw [if_neg (by omega), if_neg (by omega)]
theorem st_plain {stm : zPI → Option zPI} {I J : zPI} {L : zPL} {ch : Nat → Nat} {t N o hh d j n c B : Nat} {G : Nat → Nat → Nat} (ho : o = 24 ∨ o = 33) (ht : t ≤ 1000) (hB : 1001 ≤ B) (hM : mAt I J L ch t N o hh d j n c) (k0 : kd ch t j ≠ 0 ∨ 0 < d) (k1 : kd ch t j ≠ 125 ∨ d = 0) (hv : vrb ch t j < 7 ∨ vrb ch t j = 10 ∨ n = 80) : ∃ J', fX9_statement stm J L = some J' ∧ rFr J J' (2200 * hh + c) (2200 * hh + 2200) ∧ (∀ b, b ≠ hh → J' 57 b = J 57 b) ∧ (OutF I J' o hh d j n c B ∨ OutS I J' L ch t N o hh d j n c G) := by
  obtain ⟨hI, hJ, q, hc, ⟨h0, n80, h57⟩, hd, h17, d8⟩ := hM
  obtain ⟨s1, s2, s3⟩ := st_class ho hI h0 n80 hd d8
  obtain ⟨r1, r2, r3⟩ := st_ref (stm := stm) ht hJ q h57 n80
  have hp := pl_le ch t j
  have hN : N ≤ 1000 := hJ.1.2.2.1
  have hjN : j ≤ N := hJ.2.2.2
  have flt : ∀ f, 0 < f → f < 20000 → fX3_readStatement o I = some (nI f, I) → fX9_statement stm J L = some (zu J 48 8 (nI f)) → ∃ J', fX9_statement stm J L = some J' ∧ rFr J J' (2200 * hh + c) (2200 * hh + 2200) ∧ (∀ b, b ≠ hh → J' 57 b = J 57 b) ∧ (OutF I J' o hh d j n c B ∨ OutS I J' L ch t N o hh d j n c G) := fun f f0 f1 e1 e2 => by
    have kp : rKp J (zu J 48 8 (nI f)) hh c := rKp_78 (Or.inr rfl)
    exact ⟨_, e2, kp.1, fun b _ => kp.2.2 b, Or.inl ⟨f, I, c, ⟨f0, f1⟩, zu_same, rQ_cong q (zu_col (by decide)) (zu_col (by decide)), Nat.le_refl _, by omega, CF_st hI (by omega) hd d8 k0 k1 e1 f0 f1, cFr_refl _ _ _ _⟩⟩
  by_cases v10 : vrb ch t j = 10
  · exact flt _ (by omega) (by omega) (s1 v10) (r1 v10)
  by_cases n8 : n = 80
  · exact flt _ (by omega) (by omega) (s2 v10 n8) (r2 v10 n8)
  have v7 : vrb ch t j < 7 := by omega
  obtain ⟨I1, i1, i2, i3, i4, i5, i6, i7, i8, i9, i10, i11⟩ := s3 v10 (by omega)
  obtain ⟨J1, j1, j2, j3, j4, j5⟩ := r3 v10 (by omega)
  rw [if_neg (by omega)] at i2 j5
  obtain ⟨J', o1, o2, o3, o4⟩ := ord_all (stm := stm) (o := o) (i := n) ho (by omega) ht v7 i1 j1 j2 (by omega) i6
  have fr : rFr J J' (2200 * hh + c) (2200 * hh + 2200) := fun a b m1 m2 m3 => by rw [o3.1 a b m1 m2 m3, j4 a b (by omega) (by omega)]
  refine ⟨J', by rw [j5]; exact o1, fr, fun b hb => by rw [o3.2.2 b, j4 57 b (by omega) (by omega)], ?_⟩
  rcases o4 with ⟨f, I', y1, ⟨y2, y2'⟩, y3, y4⟩ | ⟨I', j', f, s, y1, y2, y3, y4, y5, y6, y7, y8, y9⟩
  · refine Or.inl ⟨f, I', c + 1, ⟨y2, y2'⟩, y3, o2, by omega, by omega, CF_st hI (by omega) hd d8 k0 k1 (by rw [i2]; exact y1) y2 y2', fun a b m1 m2 m3 m4 m5 m6 => ?_⟩
    rw [y4 a b m1 (by omega), i11 a b m1 m4 (by omega) (by omega)]
  · have hjN' : j' ≤ N := y3.2.2.2
    obtain ⟨g0, g1, g2, g3⟩ := gUp_at G n (2200 * hh + c) 0 (2200 * hh + c + 1) 0
    refine Or.inr ⟨I', gUp G n (2200 * hh + c) 0 (2200 * hh + c + 1) 0, j', n + 1, c + 1, ⟨y2, y3, o2, by omega, ⟨?_, by omega, ?_⟩, ?_, ?_, d8⟩, by omega, by omega, by omega, CR_st hI (by omega) hd d8 k0 k1 (by rw [i2]; exact y1) (by omega), fun a b m1 m2 m3 m4 m5 m6 => ?_, fun k x hx => gUp_ne G k (by omega), ?_⟩
    · rw [y9 _ _ (by omega) (by omega)]; exact i3
    · rw [o3.2.2]; exact j3
    · rw [y9 _ _ (by omega) (by omega), i11 _ _ (by omega) (by omega) (by omega) (by omega)]; exact hd
    · rw [o3.2.1, j4 _ _ (by omega) (by omega)]; exact h17
    · rw [y9 a b m1 (by omega), i11 a b m1 m4 (by omega) (by omega)]
    · refine ST_ord v7 g0 g2 ?_ ?_ ?_ ⟨f, s, y5, y6, y7, y8⟩
      · rw [y9 _ _ (by omega) (by omega), i4, cvb_lt (by omega)]
      · rw [y9 _ _ (by omega) (by omega)]; exact i7
      · rw [y9 _ _ (by omega) (by omega)]; exact i9
