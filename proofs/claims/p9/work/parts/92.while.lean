/-! A WHILE, closed -/
theorem while_2 {stm : zPI → Option zPI} {L : zPL} {ch : Nat → Nat} {t N o hh d j n c c2 j3 fk : Nat} {I I3 J4 : zPI} {G : Nat → Nat → Nat} (ho : o = 24 ∨ o = 33) (hn : n < 80) (d7 : d < 8) (hc : c ≤ c2) (cr : CR o I j I3 j3) (hj : j < j3) (cf : cFr I I3 o n d) (hfk : fk < 3) (hd : hdN I I3 o n d 9 fk) (hE : EX I3 J4 o n fk (2200 * hh + c) (2200 * hh + c2)) (h11 : J4 54 (2200 * hh + c2) = 11) (hB : OutB I3 J4 L ch t N o hh d j3 (n + 1) (c2 + 1) G) : ∃ J', cTail stm L (nI 9) (nI (2200 * hh + c)) (nI (2200 * hh + c2)) J4 = some J' ∧ rFr J4 J' (2200 * hh + c) (2200 * hh + 2200) ∧ (∀ b, J' 57 b = J4 57 b) ∧ OutS I J' L ch t N o hh d j n c G := by
  obtain ⟨e1, e2, e3, e4, e5, e6⟩ := hd
  obtain ⟨I5, G5, j5, n5, c5, b1, b2, b3, b4, b5, b6, ⟨b7, b8, b9⟩, b10, b11, b12, b13, b14, b15, b16, b17⟩ := hB
  have hN : N ≤ 1000 := b3.1.2.2.1
  have hjN : j5 + 1 ≤ N := b3.2.2.2
  have h2 := b4.2.1
  have v : ∀ a, o < a → a < o + 7 → I5 a n = I3 a n := fun a m1 m2 => b15 a n (by omega) (by omega) (by omega) (by omega) (by omega) (by omega)
  obtain ⟨I6, g1, g2, g3, g4, g5⟩ := cl_plain (d := d) ho b1 b10 d7 (show I5 16 d = nI n by rw [b15 _ _ (by omega) (by omega) (by omega) (by omega) (by omega) (by omega)]; exact e1) hn b7 (Or.inl (by rw [v _ (by omega) (by omega), e2]; decide))
  obtain ⟨J5, p1, p2, p3, p4, p5, p6⟩ := em_r b4 (by omega) 12 (nI (2200 * hh + c)) 0
  have hz : zin (nI (2200 * hh + c2)) 4400 = true := zin_nI (by omega) (by omega)
  have hJ : cTail stm L (nI 9) (nI (2200 * hh + c)) (nI (2200 * hh + c2)) J4 = some (zu J5 55 (2200 * hh + c2) (nI (2200 * hh + (c5 + 1)))) := by
    rw [cTail, if_pos (show nI 9 = (9 : Int32) from rfl), p1]
    simp only [Option.bind_some]
    rw [zif_t hz, nI_clamp (by omega), here_r p2]
  obtain ⟨J6, hJ6⟩ : ∃ J6 : zPI, J6 = zu J5 55 (2200 * hh + c2) (nI (2200 * hh + (c5 + 1))) := ⟨_, rfl⟩
  have f6 : ∀ a b, ¬ (a = 55 ∧ b = 2200 * hh + c2) → J6 a b = J5 a b := fun a b m => by
    rw [hJ6]
    by_cases e : a = 55
    · rw [e, zu_col (by omega)]
    · rw [zu_row e]
  obtain ⟨q0, q1, q2, q3⟩ := gUp_at G5 n (2200 * hh + c) (2200 * hh + c2) (2200 * hh + c5 + 1) (2200 * hh + c5)
  have f46 : ∀ a b, ¬ (a = 48 ∧ b = 15) → ¬ ((a = 54 ∨ a = 55 ∨ a = 56) ∧ b = 2200 * hh + c5) → ¬ (a = 55 ∧ b = 2200 * hh + c2) → J6 a b = J4 a b := fun a b m1 m2 m3 => by rw [f6 a b m3, p6 a b m1 m2]
  have pr : par I3 (d + 1) = nI n := by
    unfold par
    rw [if_neg (by omega)]
    exact e1
  rw [pr] at b17
  refine ⟨J6, by rw [hJ6]; exact hJ, fun a b m1 m2 m3 => f46 a b (by omega) (by omega) (by omega), fun b => f46 _ _ (by omega) (by omega) (by omega), I6, gUp G5 n (2200 * hh + c) (2200 * hh + c2) (2200 * hh + c5 + 1) (2200 * hh + c5), j5 + 1, n5, c5 + 1, ⟨g2, ?_, ?_, by omega, ⟨?_, b8, ?_⟩, g4, ?_, by omega⟩, by omega, by omega, by omega, ?_, ?_, ?_, ?_⟩
  · exact rA_to b3 (fun b => f46 _ _ (by omega) (by omega) (by omega)) (fun b => f46 _ _ (by omega) (by omega) (by omega)) (f46 _ _ (by omega) (by omega) (by omega)) (by rw [f46 _ _ (by omega) (by omega) (by omega)]; exact b3.2.1) hjN
  · exact rQ_cong p2 (f6 _ _ (by omega)) (f6 _ _ (by omega))
  · rw [g5 _ _ (by omega) (by omega) (by omega)]; exact b7
  · rw [f46 _ _ (by omega) (by omega) (by omega)]; exact b9
  · rw [f46 _ _ (by omega) (by omega) (by omega)]; exact b6
  · exact CR_trans cr (CR_trans b14 (CR_cl b1 (by omega) b10 (by omega) (by omega) b2 g1 (by omega)))
  · intro a b m1 m2 m3 m4 m5 m6
    rw [g5 a b m1 m2 (by omega), b15 a b m1 m2 (by omega) m4 (by omega) (by omega), cf a b m1 m2 m3 m4 m5 m6]
  · intro k x hx
    rw [gUp_ne G5 k (by omega), b16 k x (by omega)]
  · have w : ∀ a, o < a → a < o + 6 → I6 a n = I3 a n := fun a m1 m2 => by rw [g5 a n (by omega) (by omega) (by omega), v a m1 (by omega)]
    refine ST_while (u := 2200 * hh + c2) (xx := 2200 * hh + c5) (SQ_cong b17 ⟨fun a b m1 m2 m3 m4 => g5 a b (by omega) (by omega) (by omega), fun b m1 m2 => g5 _ b (by omega) (by omega) (by omega)⟩ (fun a b ha m1 m2 => f46 a b (by omega) (by omega) (by omega)) (fun k x m1 m2 => gUp_ne G5 k (by omega))) q0 q1 q2 q3 ?_ ?_ ?_ g3 ⟨fk, hfk, ?_, ?_⟩ (by omega) ?_ ?_ ?_ ?_
    · rw [w _ (by omega) (by omega), e2]; rfl
    · rw [w _ (by omega) (by omega), e4]; rfl
    · rw [w _ (by omega) (by omega), e5]
    · rw [w _ (by omega) (by omega), e3]
    · exact EX_congS (fun a ha b m1 m2 => f46 a b (by omega) (by omega) (by omega)) (EX_congI (fun p hp => by rw [g5 _ _ (by omega) (by omega) (by omega), b15 _ _ (by omega) (by omega) (by omega) (by omega) (by omega) (by omega)]) hE)
    · rw [f46 _ _ (by omega) (by omega) (by omega)]; exact h11
    · rw [hJ6, zu_same]; rfl
    · rw [f6 _ _ (by omega)]; exact p3
    · rw [f6 _ _ (by omega)]; exact p4
