/-! AN IF WITH ELSE -/
theorem if2_2 {stm : zPI → Option zPI} {L : zPL} {ch : Nat → Nat} {t N o hh d j n c c2 j3 fk B : Nat} {I I3 J4 : zPI} {G : Nat → Nat → Nat} (ho : o = 24 ∨ o = 33) (ht : t ≤ 1000) (hBB : 1005 ≤ B) (hB2 : B < 2100) (hst : HSt stm L ch t N o hh (d + 1) B) (hn : n < 80) (d7 : d < 8) (hc : c ≤ c2) (cr : CR o I j I3 j3) (hj : j < j3) (cf : cFr I I3 o n d) (hfk : fk < 3) (hd : hdN I I3 o n d 7 fk) (hE : EX I3 J4 o n fk (2200 * hh + c) (2200 * hh + c2)) (h11 : J4 54 (2200 * hh + c2) = 11) {I5 : zPI} {G5 : Nat → Nat → Nat} {j5 n5 c5 : Nat} (b1 : cA I5 ch t j5) (b2 : kd ch t j5 = 125) (b3 : rA J4 L ch t N (j5 + 1)) (b4 : rQ J4 hh c5) (b5 : c5 ≤ j5) (b6 : J4 48 17 = nI d) (b789 : I5 o 0 = nI n5 ∧ n5 ≤ 80 ∧ J4 57 hh = nI n5) (b10 : I5 15 2 = nI (d + 1)) (b11 : j3 ≤ j5) (b12 : c2 + 1 ≤ c5) (b13 : n + 1 ≤ n5) (b14 : CR o I3 j3 I5 j5) (b15 : cFr I3 I5 o (n + 1) (d + 1)) (b16 : ∀ k x, x < n + 1 → G5 k x = G k x) (b17 : SQ I5 J4 o G5 (par I3 (d + 1)) (n + 1) n5 (2200 * hh + (c2 + 1)) (2200 * hh + c5)) (hel : isw ch t (j5 + 1) 8) : ∃ J', cTail stm L (nI 7) (nI (2200 * hh + c)) (nI (2200 * hh + c2)) J4 = some J' ∧ rFr J4 J' (2200 * hh + c) (2200 * hh + 2200) ∧ (∀ b, b ≠ hh → J' 57 b = J4 57 b) ∧ (OutF I J' o hh d j n c B ∨ OutS I J' L ch t N o hh d j n c G) := by
  obtain ⟨e1, e2, e3, e4, e5, e6⟩ := hd
  obtain ⟨b7, b8, b9⟩ := b789
  have hN : N ≤ 1000 := b3.1.2.2.1
  have hjN : j5 + 1 ≤ N := b3.2.2.2
  have h2 := b4.2.1
  have k1 : kd ch t (j5 + 1) ≠ 0 := by have := hel.1; omega
  have v : ∀ a, o < a → a < o + 7 → I5 a n = I3 a n := fun a m1 m2 => b15 a n (by omega) (by omega) (by omega) (by omega) (by omega) (by omega)
  have hz : zin (nI (2200 * hh + c2)) 4400 = true := zin_nI (by omega) (by omega)
  have hz5 : zin (nI (2200 * hh + c5)) 4400 = true := zin_nI (by omega) (by omega)
  obtain ⟨r1, r2⟩ := rA_plus b3 k1
  rw [r2] at r1
  obtain ⟨J6, p1, p2, p3, p4, p5, p6⟩ := em_r (J := zu J4 48 7 (nI (j5 + 1 + 1))) (rQ_cong b4 (zu_col (by decide)) (zu_col (by decide))) (by omega) 12 0 0
  obtain ⟨J7, hJ7⟩ : ∃ J7 : zPI, J7 = zu J6 55 (2200 * hh + c2) (nI (2200 * hh + (c5 + 1))) := ⟨_, rfl⟩
  have f7 : ∀ a b, ¬ (a = 55 ∧ b = 2200 * hh + c2) → J7 a b = J6 a b := fun a b m => by
    rw [hJ7]
    by_cases e : a = 55
    · rw [e, zu_col (by omega)]
    · rw [zu_row e]
  have f47 : ∀ a b, ¬ (a = 48 ∧ (b = 7 ∨ b = 15)) → ¬ ((a = 54 ∨ a = 55 ∨ a = 56) ∧ b = 2200 * hh + c5) → ¬ (a = 55 ∧ b = 2200 * hh + c2) → J7 a b = J4 a b := fun a b m1 m2 m3 => by rw [f7 a b m3, p6 a b (by omega) m2, zu48 (by omega)]
  have hT : cTail stm L (nI 7) (nI (2200 * hh + c)) (nI (2200 * hh + c2)) J4 = (fX9_block stm J7 L).bind (fun q13 => some (zu q13 55 (2200 * hh + c5) (fX9_here q13))) := by
    rw [cTail, if_neg (show ¬ nI 7 = (9 : Int32) by decide), fX9_hasWord, show fX9_isWord J4 L 8 = some (if isw ch t (j5 + 1) 8 then 1 else 0) from sp_r (w := 8) b3 (by decide), if_pos hel]
    simp only [Option.bind_some, show ¬ (1 : Int32) = 0 by decide, if_false]
    rw [r2, p1]
    simp only [Option.bind_some]
    rw [zif_t hz, nI_clamp (by omega), here_r p2, ← hJ7]
    simp only [hz5, if_true]
    rw [nI_clamp (by omega)]
  have r7 : rA J7 L ch t N (j5 + 2) := rA_to b3 (fun b => f47 _ _ (by omega) (by omega) (by omega)) (fun b => f47 _ _ (by omega) (by omega) (by omega)) (f47 _ _ (by omega) (by omega) (by omega)) (by rw [f7 _ _ (by omega), p6 _ _ (by omega) (by omega), zu_same]) r1.2.2.2
  have q7 : rQ J7 hh (c5 + 1) := rQ_cong p2 (f7 _ _ (by omega)) (f7 _ _ (by omega))
  obtain ⟨l1, l2, -⟩ := bl_ref (stm := stm) ht r7 (show J7 48 17 = nI d by rw [f47 _ _ (by omega) (by omega) (by omega)]; exact b6) (by omega)
  obtain ⟨-, m2, m3⟩ := cl_if (d := d) ho b1 b10 d7 (show I5 16 d = nI n by rw [b15 _ _ (by omega) (by omega) (by omega) (by omega) (by omega) (by omega)]; exact e1) hn b7 (by rw [v _ (by omega) (by omega), e2]; rfl) (by rw [v _ (by omega) (by omega), e6])
  have hp := pl_le ch t (j5 + 2)
  have c35 : cFr I I5 o n d := cFr_trans cf b15 (by omega) (by omega)
  have cr5 : CR o I j I5 j5 := CR_trans cr b14
  rw [hT]
  by_cases k : kd ch t (j5 + 2) = 123
  · obtain ⟨J8, x1, x2, x3, x4⟩ := l1 k d7
    obtain ⟨I6, y1, y2, y3, y4⟩ := m2 hel k
    have jN2 : j5 + 2 + 1 ≤ N := x2.2.2.2
    have c36 : cFr I I6 o n d := fun a b n1 n2 n3 n4 n5 n6 => by rw [y4 a b n1 (by omega), c35 a b n1 n2 n3 n4 n5 n6]
    have cr6 : CR o I j I6 (j5 + 3) := CR_trans cr5 (CR_cl b1 (by omega) b10 (by omega) (by omega) b2 y1 (by omega))
    obtain ⟨J9, z1, z2, z3, z4⟩ := blk_go (stm := stm) (G := G5) ho hst (show mAt I6 J8 L ch t N o hh (d + 1) (j5 + 3) n5 (c5 + 1) from ⟨y2, x2, rQ_cong q7 (x4 _ _ (by omega)) (x4 _ _ (by omega)), by omega, ⟨by rw [y4 _ _ (by omega) (by omega)]; exact b7, b8, by rw [x4 _ _ (by omega), f47 _ _ (by omega) (by omega) (by omega)]; exact b9⟩, by rw [y4 _ _ (by omega) (by omega)]; exact b10, x3, by omega⟩)
    have f49 : ∀ a b, ¬ (a = 48 ∧ (b = 7 ∨ b = 8 ∨ b = 15 ∨ b = 17)) → a ≠ 57 → ¬ ((a = 54 ∨ a = 55 ∨ a = 56) ∧ 2200 * hh + c5 ≤ b ∧ b < 2200 * hh + 2200) → ¬ (a = 55 ∧ b = 2200 * hh + c2) → J9 a b = J4 a b := fun a b n1 n2 n3 n4 => by rw [z2 a b n1 n2 (by omega), x4 a b (by omega), f47 a b (by omega) (by omega) n4]
    rw [x1, z1]
    simp only [Option.bind_some]
    obtain ⟨JA, hJA⟩ : ∃ JA : zPI, JA = zu J9 55 (2200 * hh + c5) (fX9_here J9) := ⟨_, rfl⟩
    have fA : ∀ a b, ¬ (a = 55 ∧ b = 2200 * hh + c5) → JA a b = J9 a b := fun a b m => by
      rw [hJA]
      by_cases e : a = 55
      · rw [e, zu_col (by omega)]
      · rw [zu_row e]
    rw [← hJA]
    refine ⟨JA, rfl, fun a b n1 n2 n3 => by rw [fA a b (by omega), f49 a b n1 n2 (by omega) (by omega)], fun b hb => by rw [fA _ _ (by omega), z3 b hb, x4 _ _ (by omega), f47 _ _ (by omega) (by omega) (by omega)], ?_⟩
    rcases z4 with ⟨f, I7, c7, g1, g2, g3, g4, g5, g6, g7⟩ | ⟨I7, G7, j7, n7, c7, a1, a2, a3, a4, a5, a6, ⟨a7, a8, a9⟩, a10, a11, a12, a13, a14, a15, a16, a17⟩
    · exact Or.inl ⟨f, I7, c7, g1, by rw [fA _ _ (by omega)]; exact g2, rQ_cong g3 (fA _ _ (by omega)) (fA _ _ (by omega)), by omega, g5, CR_CF cr6 g6, cFr_trans c36 g7 (by omega) (by omega)⟩
    · have hj7 : j7 + 1 ≤ N := a3.2.2.2
      have w6 : ∀ a, o < a → a < o + 7 → I7 a n = I6 a n := fun a n1 n2 => a15 a n (by omega) (by omega) (by omega) (by omega) (by omega) (by omega)
      have op7 : I7 16 d = nI n := by
        rw [a15 _ _ (by omega) (by omega) (by omega) (by omega) (by omega) (by omega), y4 _ _ (by omega) (by omega), b15 _ _ (by omega) (by omega) (by omega) (by omega) (by omega) (by omega)]
        exact e1
      obtain ⟨I8, h1, h2', h3, h4, h5⟩ := cl_plain (d := d) ho a1 a10 d7 op7 hn a7 (Or.inr (by
        rw [w6 _ (by omega) (by omega), y3]
        intro h9
        have : (nI n5).toInt = (-1 : Int32).toInt := by rw [h9]
        rw [nI_toInt (by omega)] at this
        have e9 : (-1 : Int32).toInt = -1 := by decide
        omega))
      obtain ⟨q0, q1, q2, q3⟩ := gUp_at G7 n (2200 * hh + c) (2200 * hh + c2) (2200 * hh + c7) (2200 * hh + c5)
      have pr : par I3 (d + 1) = nI n := by
        unfold par
        rw [if_neg (by omega)]
        exact e1
      have pr6 : par I6 (d + 1) = nI n := by
        unfold par
        rw [if_neg (by omega), show d + 1 - 1 = d from rfl, y4 _ _ (by omega) (by omega), b15 _ _ (by omega) (by omega) (by omega) (by omega) (by omega) (by omega)]
        exact e1
      rw [pr] at b17
      rw [pr6] at a17
      refine Or.inr ⟨I8, gUp G7 n (2200 * hh + c) (2200 * hh + c2) (2200 * hh + c7) (2200 * hh + c5), j7 + 1, n7, c7, ⟨h2', ?_, ?_, by omega, ⟨?_, a8, ?_⟩, h4, ?_, by omega⟩, by omega, by omega, by omega, ?_, ?_, ?_, ?_⟩
      · exact rA_to a3 (fun b => fA _ _ (by omega)) (fun b => fA _ _ (by omega)) (fA _ _ (by omega)) (by rw [fA _ _ (by omega)]; exact a3.2.1) hj7
      · exact rQ_cong a4 (fA _ _ (by omega)) (fA _ _ (by omega))
      · rw [h5 _ _ (by omega) (by omega) (by omega)]; exact a7
      · rw [fA _ _ (by omega)]; exact a9
      · rw [fA _ _ (by omega)]; exact a6
      · exact CR_trans cr6 (CR_trans a14 (CR_cl a1 (by omega) a10 (by omega) (by omega) a2 h1 (by omega)))
      · intro a b n1 n2 n3 n4 n5 n6
        rw [h5 a b n1 n2 (by omega), a15 a b n1 n2 (by omega) n4 (by omega) (by omega), c36 a b n1 n2 n3 n4 n5 n6]
      · intro k x hx
        rw [gUp_ne G7 k (by omega), a16 k x (by omega), b16 k x (by omega)]
      · have w : ∀ a, o < a → a < o + 5 → I8 a n = I3 a n := fun a n1 n2 => by rw [h5 a n (by omega) (by omega) (by omega), w6 a n1 (by omega), y4 a n (by omega) (by omega), v a n1 (by omega)]
        have fJ : ∀ a b, a = 54 ∨ a = 55 ∨ a = 56 → b < 2200 * hh + c5 → ¬ (a = 55 ∧ b = 2200 * hh + c2) → JA a b = J4 a b := fun a b ha n1 n2 => by rw [fA a b (by omega), f49 a b (by omega) (by omega) (by omega) n2]
        refine ST_if2 (m := n5) (u := 2200 * hh + c2) (xx := 2200 * hh + c5) (SQ_cong b17 ⟨fun a b n1 n2 n3 n4 => ?_, fun b n1 n2 => ?_⟩ (fun a b ha n1 n2 => fJ a b ha (by omega) (by omega)) (fun k x n1 n2 => by rw [gUp_ne G7 k (by omega), a16 k x n2])) (SQ_cong a17 ⟨fun a b n1 n2 n3 n4 => h5 a b (by omega) (by omega) (by omega), fun b n1 n2 => h5 _ b (by omega) (by omega) (by omega)⟩ (fun a b ha n1 n2 => fA a b (by omega)) (fun k x n1 n2 => gUp_ne G7 k (by omega))) q0 q1 q2 q3 ?_ ?_ ?_ ?_ h3 ⟨fk, hfk, ?_, ?_⟩ (by omega) ?_ ?_ ?_ ?_
        · rw [h5 a b (by omega) (by omega) (by omega), a15 a b (by omega) (by omega) (by omega) (by omega) (by omega) (by omega), y4 a b (by omega) (by omega)]
        · rw [h5 _ b (by omega) (by omega) (by omega), a15 _ b (by omega) (by omega) (by omega) (by omega) (by omega) (by omega), y4 _ b (by omega) (by omega)]
        · rw [w _ (by omega) (by omega), e2]; rfl
        · rw [w _ (by omega) (by omega), e4]; rfl
        · rw [w _ (by omega) (by omega), e5]
        · rw [h5 _ _ (by omega) (by omega) (by omega), w6 _ (by omega) (by omega)]; exact y3
        · rw [w _ (by omega) (by omega), e3]
        · exact EX_congS (fun a ha b n1 n2 => fJ a b (by omega) (by omega) (by omega)) (EX_congI (fun p hp => by rw [h5 _ _ (by omega) (by omega) (by omega), a15 _ _ (by omega) (by omega) (by omega) (by omega) (by omega) (by omega), y4 _ _ (by omega) (by omega), b15 _ _ (by omega) (by omega) (by omega) (by omega) (by omega) (by omega)]) hE)
        · rw [fJ _ _ (by omega) (by omega) (by omega)]; exact h11
        · rw [fA _ _ (by omega), z2 _ _ (by omega) (by omega) (by omega), x4 _ _ (by omega), hJ7, zu_same]; rfl
        · rw [fA _ _ (by omega), z2 _ _ (by omega) (by omega) (by omega), x4 _ _ (by omega), f7 _ _ (by omega)]; exact p3
        · rw [hJA, zu_same, here_r a4]
  · obtain ⟨J8, x1, x2, x3⟩ := l2 k
    obtain ⟨I6, y1, y2⟩ := m3 hel k
    refine ⟨zu J8 55 (2200 * hh + c5) (fX9_here J8), by rw [x1]; rfl, fun a b n1 n2 n3 => ?_, fun b hb => by rw [zu_row (by decide), x3 _ _ (by omega), f47 _ _ (by omega) (by omega) (by omega)], Or.inl ⟨_, I6, c5 + 1, ⟨by omega, by omega⟩, by rw [zu_row (by decide)]; exact x2, rQ_cong q7 (by rw [zu_row (by decide), x3 _ _ (by omega)]) (by rw [zu_row (by decide), x3 _ _ (by omega)]), by omega, by omega, CR_CF cr5 (CF_cl b1 (by omega) b10 (by omega) (by omega) b2 y1 (by omega) (by omega)), fun a b n1 n2 n3 n4 n5 n6 => ?_⟩⟩
    · by_cases e : a = 55
      · rw [e, zu_col (by omega), x3 _ _ (by omega), f47 _ _ (by omega) (by omega) (by omega)]
      · rw [zu_row e, x3 _ _ (by omega), f47 _ _ (by omega) (by omega) (by omega)]
    · rw [y2 a b n1 (by omega), c35 a b n1 n2 n3 n4 n5 n6]
