/-! A STATEMENT, on both sides -/
theorem OutF_mono {I J' : zPI} {o hh d j n c B B' : Nat} (h : OutF I J' o hh d j n c B) (hb : B ≤ B') : OutF I J' o hh d j n c B' := by
  obtain ⟨f, I2, c2, a1, a2, a3, a4, a5, a6⟩ := h
  exact ⟨f, I2, c2, a1, a2, a3, a4, by omega, a6⟩
theorem HSt_step {stm : zPI → Option zPI} {L : zPL} {ch : Nat → Nat} {t N o hh d B : Nat} (ho : o = 24 ∨ o = 33) (ht : t ≤ 1000) (hB : 1005 ≤ B) (hB2 : B < 2100) (hst : HSt stm L ch t N o hh (d + 1) B) : HSt (fun J => fX9_statement stm J L) L ch t N o hh d (B + 1) := by
  intro I J j n c G hM k0 k1
  by_cases hv : vrb ch t j < 7 ∨ vrb ch t j = 10 ∨ n = 80
  · exact st_plain ho ht (by omega) hM k0 k1 hv
  obtain ⟨w1, w2, -⟩ := vrb_b ch t j
  have n80 := hM.2.2.2.2.1.2.1
  obtain ⟨J4, u, a1, ⟨a2, a2'⟩, a3, a4, a5⟩ := choice_1 (G := G) ho ht hB hst hM k0 k1 (by omega) (by omega)
  show ∃ J', fX9_statement stm J L = some J' ∧ _
  rw [a1]
  rcases a5 with ⟨f, I2, c4, ⟨f0, f1⟩, b1, b2, b3, b4, b5, b6⟩ | ⟨d7, I3, c2, j3, fk, rfl, b2, b3, b4, b5, b6, b7, b8, b9, b10⟩
  · obtain ⟨J', c', e1, e2, e3, e4, e5, e6, e7⟩ := ct_f (stm := stm) (L := L) (w := vrb ch t j) (p2 := nI (2200 * hh + c)) (lo := 2200 * hh + c) (u := u) (by omega) (show ¬ J4 48 8 = 0 by rw [b1]; exact nI_ne (b := 0) (by omega) (by omega) (by omega)) b2 (by omega) a2 (by omega) (by omega)
    exact ⟨J', e1, rFr_trans a3 e7 (Nat.le_refl _), fun b hb => by rw [e6, a4 b hb], Or.inl ⟨f, I2, c', ⟨f0, f1⟩, by rw [e2]; exact b1, e3, by omega, by omega, b5, b6⟩⟩
  · by_cases v9 : vrb ch t j = 9
    · rw [v9] at b7 ⊢
      obtain ⟨J', e1, e2, e3, e4⟩ := while_2 (stm := stm) ho (by omega) d7 b2 b3 b4 b5 b6 b7 b8 b9 b10
      exact ⟨J', e1, rFr_trans a3 e2 (Nat.le_refl _), fun b hb => by rw [e3, a4 b hb], Or.inr e4⟩
    · have v7 : vrb ch t j = 7 := by omega
      rw [v7] at b7 ⊢
      obtain ⟨I5, G5, j5, n5, c5, q1, q2, q3, q4, q5, q6, q7, q8, q9, q10, q11, q12, q13, q14, q15⟩ := b10
      by_cases hel : isw ch t (j5 + 1) 8
      · obtain ⟨J', e1, e2, e3, e4⟩ := if2_2 (stm := stm) ho ht hB hB2 hst (by omega) d7 b2 b3 b4 b5 b6 b7 b8 b9 q1 q2 q3 q4 q5 q6 q7 q8 q9 q10 q11 q12 q13 q14 q15 hel
        exact ⟨J', e1, rFr_trans a3 e2 (Nat.le_refl _), fun b hb => by rw [e3 b hb, a4 b hb], e4.imp (fun h => OutF_mono h (by omega)) id⟩
      · obtain ⟨J', e1, e2, e3, e4⟩ := if1_2 (stm := stm) ho (by omega) d7 b2 b3 b4 b5 b6 b7 b8 b9 q1 q2 q3 q4 q5 q6 q7 q8 q9 q10 q11 q12 q13 q14 q15 hel
        exact ⟨J', e1, rFr_trans a3 e2 (Nat.le_refl _), fun b hb => by rw [e3, a4 b hb], Or.inr e4⟩
theorem HSt_all {L : zPL} {ch : Nat → Nat} {t N o hh : Nat} (ho : o = 24 ∨ o = 33) (ht : t ≤ 1000) : ∀ r d, 9 ≤ d + r → r ≤ 12 → HSt (FX9_statement r L) L ch t N o hh d (1005 + r) := by
  intro r
  induction r with
  | zero =>
    intro d hd _ I J j n c G hM
    have := hM.2.2.2.2.2.2.2
    omega
  | succ r ih =>
    intro d hd hr
    exact HSt_step (B := 1005 + r) ho ht (by omega) (by omega) (ih (d + 1) (by omega) (by omega))
