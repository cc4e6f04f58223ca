/-! AN IF WITHOUT ELSE, closed -/
theorem if1_2 {stm : zPI → Option zPI} {L : zPL} {ch : Nat → Nat} {t N o hh d j n c c2 j3 fk : Nat} {I I3 J4 : zPI} {G : Nat → Nat → Nat} (ho : o = 24 ∨ o = 33) (hn : n < 80) (d7 : d < 8) (hc : c ≤ c2) (cr : CR o I j I3 j3) (hj : j < j3) (cf : cFr I I3 o n d) (hfk : fk < 3) (hd : hdN I I3 o n d 7 fk) (hE : EX I3 J4 o n fk (2200 * hh + c) (2200 * hh + c2)) (h11 : J4 54 (2200 * hh + c2) = 11) {I5 : zPI} {G5 : Nat → Nat → Nat} {j5 n5 c5 : Nat} (b1 : cA I5 ch t j5) (b2 : kd ch t j5 = 125) (b3 : rA J4 L ch t N (j5 + 1)) (b4 : rQ J4 hh c5) (b5 : c5 ≤ j5) (b6 : J4 48 17 = nI d) (b789 : I5 o 0 = nI n5 ∧ n5 ≤ 80 ∧ J4 57 hh = nI n5) (b10 : I5 15 2 = nI (d + 1)) (b11 : j3 ≤ j5) (b12 : c2 + 1 ≤ c5) (b13 : n + 1 ≤ n5) (b14 : CR o I3 j3 I5 j5) (b15 : cFr I3 I5 o (n + 1) (d + 1)) (b16 : ∀ k x, x < n + 1 → G5 k x = G k x) (b17 : SQ I5 J4 o G5 (par I3 (d + 1)) (n + 1) n5 (2200 * hh + (c2 + 1)) (2200 * hh + c5)) (hel : ¬ isw ch t (j5 + 1) 8) : ∃ J', cTail stm L (nI 7) (nI (2200 * hh + c)) (nI (2200 * hh + c2)) J4 = some J' ∧ rFr J4 J' (2200 * hh + c) (2200 * hh + 2200) ∧ (∀ b, J' 57 b = J4 57 b) ∧ OutS I J' L ch t N o hh d j n c G := by
  obtain ⟨e1, e2, e3, e4, e5, e6⟩ := hd
  obtain ⟨b7, b8, b9⟩ := b789
  have hN : N ≤ 1000 := b3.1.2.2.1
  have hjN : j5 + 1 ≤ N := b3.2.2.2
  have h2 := b4.2.1
  have v : ∀ a, o < a → a < o + 7 → I5 a n = I3 a n := fun a m1 m2 => b15 a n (by omega) (by omega) (by omega) (by omega) (by omega) (by omega)
  obtain ⟨I6, g1, g2, g3', g3, g4, g5⟩ := (cl_if (d := d) ho b1 b10 d7 (show I5 16 d = nI n by rw [b15 _ _ (by omega) (by omega) (by omega) (by omega) (by omega) (by omega)]; exact e1) hn b7 (by rw [v _ (by omega) (by omega), e2]; rfl) (by rw [v _ (by omega) (by omega), e6])).1 hel
  have hz : zin (nI (2200 * hh + c2)) 4400 = true := zin_nI (by omega) (by omega)
  have e0 : J4 48 7 + 0 = nI (j5 + 1) := by rw [b3.2.1]; exact nI_add (j5 + 1) 0
  have hJ : cTail stm L (nI 7) (nI (2200 * hh + c)) (nI (2200 * hh + c2)) J4 = some (zu (zu J4 48 7 (nI (j5 + 1))) 55 (2200 * hh + c2) (nI (2200 * hh + c5))) := by
    rw [cTail, if_neg (show ¬ nI 7 = (9 : Int32) by decide), fX9_hasWord, show fX9_isWord J4 L 8 = some (if isw ch t (j5 + 1) 8 then 1 else 0) from sp_r (w := 8) b3 (by decide), if_neg hel]
    simp only [Option.bind_some, if_true]
    rw [zif_t hz, nI_clamp (by omega), e0, here_r (rQ_cong b4 (zu_col (by decide)) (zu_col (by decide)))]
  obtain ⟨J6, hJ6⟩ : ∃ J6 : zPI, J6 = zu (zu J4 48 7 (nI (j5 + 1))) 55 (2200 * hh + c2) (nI (2200 * hh + c5)) := ⟨_, rfl⟩
  obtain ⟨q0, q1, q2, q3⟩ := gUp_at G5 n (2200 * hh + c) (2200 * hh + c2) (2200 * hh + c5) (2200 * hh + c5)
  have f46 : ∀ a b, ¬ (a = 48 ∧ b = 7) → ¬ (a = 55 ∧ b = 2200 * hh + c2) → J6 a b = J4 a b := fun a b m1 m3 => by
    rw [hJ6]
    by_cases e : a = 55
    · rw [e, zu_col (by omega), zu48 (by omega)]
    · rw [zu_row e, zu48 m1]
  have pr : par I3 (d + 1) = nI n := by
    unfold par
    rw [if_neg (by omega)]
    exact e1
  rw [pr] at b17
  refine ⟨J6, by rw [hJ6]; exact hJ, fun a b m1 m2 m3 => f46 a b (by omega) (by omega), fun b => f46 _ _ (by omega) (by omega), I6, gUp G5 n (2200 * hh + c) (2200 * hh + c2) (2200 * hh + c5) (2200 * hh + c5), j5 + 1, n5, c5, ⟨g2, ?_, ?_, by omega, ⟨?_, b8, ?_⟩, g4, ?_, by omega⟩, by omega, by omega, by omega, ?_, ?_, ?_, ?_⟩
  · exact rA_to b3 (fun b => f46 _ _ (by omega) (by omega)) (fun b => f46 _ _ (by omega) (by omega)) (f46 _ _ (by omega) (by omega)) (by rw [hJ6, zu_row (by decide), zu_same]) hjN
  · exact rQ_cong b4 (f46 _ _ (by omega) (by omega)) (f46 _ _ (by omega) (by omega))
  · rw [g5 _ _ (by omega) (by omega) (by omega)]; exact b7
  · rw [f46 _ _ (by omega) (by omega)]; exact b9
  · rw [f46 _ _ (by omega) (by omega)]; exact b6
  · exact CR_trans cr (CR_trans b14 (CR_cl b1 (by omega) b10 (by omega) (by omega) b2 g1 (by omega)))
  · intro a b m1 m2 m3 m4 m5 m6
    rw [g5 a b m1 m2 (by omega), b15 a b m1 m2 (by omega) m4 (by omega) (by omega), cf a b m1 m2 m3 m4 m5 m6]
  · intro k x hx
    rw [gUp_ne G5 k (by omega), b16 k x (by omega)]
  · have w : ∀ a, o < a → a < o + 5 → I6 a n = I3 a n := fun a m1 m2 => by rw [g5 a n (by omega) (by omega) (by omega), v a m1 (by omega)]
    refine ST_if1 (u := 2200 * hh + c2) (xx := 2200 * hh + c5) (SQ_cong b17 ⟨fun a b m1 m2 m3 m4 => g5 a b (by omega) (by omega) (by omega), fun b m1 m2 => g5 _ b (by omega) (by omega) (by omega)⟩ (fun a b ha m1 m2 => f46 a b (by omega) (by omega)) (fun k x m1 m2 => gUp_ne G5 k (by omega))) q0 q1 q2 q3 ?_ ?_ ?_ g3' g3 ⟨fk, hfk, ?_, ?_⟩ (by omega) ?_ ?_
    · rw [w _ (by omega) (by omega), e2]; rfl
    · rw [w _ (by omega) (by omega), e4]; rfl
    · rw [w _ (by omega) (by omega), e5]
    · rw [w _ (by omega) (by omega), e3]
    · exact EX_congS (fun a ha b m1 m2 => f46 a b (by omega) (by omega)) (EX_congI (fun p hp => by rw [g5 _ _ (by omega) (by omega) (by omega), b15 _ _ (by omega) (by omega) (by omega) (by omega) (by omega) (by omega)]) hE)
    · rw [f46 _ _ (by omega) (by omega)]; exact h11
    · rw [hJ6, zu_same]
