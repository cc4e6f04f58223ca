/-! A CHOICE: its E and its first block -/
def hdN (I I3 : zPI) (o n d w fk : Nat) : Prop := I3 16 d = nI n ∧ I3 (o + 1) n = cvb w ∧ I3 (o + 2) n = nI fk ∧ I3 (o + 3) n = 0 ∧ I3 (o + 4) n = par I d ∧ I3 (o + 5) n = -1
theorem EX_congS {I J J' : zPI} {a i f A U : Nat} (e : ∀ x, x = 54 ∨ x = 55 → ∀ b, A ≤ b → b < U → J' x b = J x b) (h : EX I J a i f A U) : EX I J' a i f A U := by
  obtain ⟨W, ml, h1, h2, h3, h4⟩ := h
  rcases h4 with ⟨a1, rfl, a3⟩ | ⟨mr, a1, rfl, a3, a4, a5⟩
  · exact ⟨W, ml, h1, h2, sok_congR (fun x hx b q1 q2 => e x hx b q1 (by omega)) h3, Or.inl ⟨a1, rfl, fun V hV => by rw [sv_congR V ml (fun x hx b q1 q2 => e x hx b q1 (by omega))]; exact a3 V hV⟩⟩
  · exact ⟨W, ml, h1, h2, sok_congR (fun x hx b q1 q2 => e x hx b q1 (by omega)) h3, Or.inr ⟨mr, a1, rfl, sok_congR (fun x hx b q1 q2 => e x hx b (by omega) (by omega)) a3, by rw [e 54 (Or.inl rfl) _ (by omega) (by omega)]; exact a4, fun V hV => by rw [sv_congR V ml (fun x hx b q1 q2 => e x hx b q1 (by omega)), sv_congR V mr (fun x hx b q1 q2 => e x hx b (by omega) (by omega))]; exact a5 V hV⟩⟩
theorem choice_1 {stm : zPI → Option zPI} {L : zPL} {ch : Nat → Nat} {t N o hh d B j n c : Nat} {I J : zPI} {G : Nat → Nat → Nat} (ho : o = 24 ∨ o = 33) (ht : t ≤ 1000) (hB : 1005 ≤ B) (hst : HSt stm L ch t N o hh (d + 1) B) (hM : mAt I J L ch t N o hh d j n c) (k0 : kd ch t j ≠ 0 ∨ 0 < d) (k1 : kd ch t j ≠ 125 ∨ d = 0) (hw : vrb ch t j = 7 ∨ vrb ch t j = 9) (hn : n < 80) :
  ∃ J4 u, fX9_statement stm J L = cTail stm L (nI (vrb ch t j)) (nI (2200 * hh + c)) (nI u) J4 ∧ (2200 * hh + c ≤ u ∧ u < 2200 * hh + 1004) ∧ rFr J J4 (2200 * hh + c) (2200 * hh + 2200) ∧ (∀ b, b ≠ hh → J4 57 b = J 57 b) ∧
  ((∃ f I'' c4, (0 < f ∧ f < 20000) ∧ J4 48 8 = nI f ∧ rQ J4 hh c4 ∧ c ≤ c4 ∧ c4 ≤ B ∧ CF o I j f I'' ∧ cFr I I'' o n d) ∨
   (d < 8 ∧ ∃ I3 c2 j3 fk, u = 2200 * hh + c2 ∧ c ≤ c2 ∧ CR o I j I3 j3 ∧ j < j3 ∧ cFr I I3 o n d ∧ fk < 3 ∧ hdN I I3 o n d (vrb ch t j) fk ∧ EX I3 J4 o n fk (2200 * hh + c) u ∧ J4 54 u = 11 ∧ OutB I3 J4 L ch t N o hh d j3 (n + 1) (c2 + 1) G)) := by
  obtain ⟨hI, hJ, q, hc, ⟨h0, n80, h57⟩, hd, h17, d8⟩ := hM
  obtain ⟨-, -, s3⟩ := st_class ho hI h0 n80 hd d8
  obtain ⟨-, -, r3⟩ := st_ref (stm := stm) ht hJ q h57 n80
  have hN : N ≤ 1000 := hJ.1.2.2.1
  have hjN : j ≤ N := hJ.2.2.2
  obtain ⟨I1, i1, i2, i3, i4, i5, i6, i7, i8, i9, i10, i11⟩ := s3 (by omega) hn
  obtain ⟨J1, j1, j2, j3, j4, j5⟩ := r3 (by omega) hn
  rw [if_pos hw] at i2 j5
  obtain ⟨J2, a1, a2, a3, a4, a5⟩ := expr_all (o := o) (i := n) ho hn ht i1 j1 j2 (by omega) i10 i5
  have fr2 : rFr J J2 (2200 * hh + c) (2200 * hh + 2200) := fun a b m1 m2 m3 => by rw [a2 a b m1 m2 m3, j4 a b (by omega) (by omega)]
  rw [j5, choice_eq, a1]
  simp only [Option.bind_some]
  rcases a5 with ⟨f, I2, c2, y1, ⟨y2, y2'⟩, y3, y4, ⟨y5, y5'⟩, y6⟩ | ⟨I2, t2, c2, fk, y1, y2, y3, y4, y5, y6, y7, y8, y9, y10, y11⟩
  · obtain ⟨J3, e1, e2, e3, e4, e5, e6⟩ := em_r y4 (by omega) 11 0 0
    have h8 : J3 48 8 = nI f := by rw [e6 _ _ (by omega) (by omega)]; exact y3
    obtain ⟨J4, g1, g2⟩ := block_f (stm := stm) (L := L) (show ¬ J3 48 8 = 0 by rw [h8]; exact nI_ne (b := 0) (by omega) (by omega) (by omega))
    refine ⟨J4, 2200 * hh + c2, ?_, ⟨by omega, by omega⟩, fun a b m1 m2 m3 => by rw [g2 a b (by omega), e6 a b (by omega) (by omega), fr2 a b m1 m2 m3], fun b hb => by rw [g2 _ _ (by omega), e6 _ _ (by omega) (by omega), a4, j4 _ _ (by omega) (by omega)], Or.inl ⟨f, I2, c2 + 1, ⟨y2, y2'⟩, by rw [g2 _ _ (by omega)]; exact h8, rQ_cong e2 (g2 _ _ (by omega)) (g2 _ _ (by omega)), by omega, by omega, CF_st hI (by omega) hd d8 k0 k1 (by rw [i2]; exact y1) y2 y2', fun a b m1 m2 m3 m4 m5 m6 => ?_⟩⟩
    · rw [e1]
      simp only [Option.bind_some]
      rw [g1]
      rfl
    · rw [y6 a b m1 (by omega) (by omega), i11 a b m1 m4 (by omega) (by omega)]
  · have ht2 : t2 ≤ N := y3.2.2.2
    have hp := pl_le ch t t2
    obtain ⟨J3, e1, e2, e3, e4, e5, e6⟩ := em_r y5 (by omega) 11 0 0
    have r3' : rA J3 L ch t N t2 := rA_to y3 (fun b => e6 _ _ (by omega) (by omega)) (fun b => e6 _ _ (by omega) (by omega)) (e6 _ _ (by omega) (by omega)) (by rw [e6 _ _ (by omega) (by omega)]; exact y3.2.1) ht2
    have d3 : J3 48 17 = nI d := by rw [e6 _ _ (by omega) (by omega), a3, j4 _ _ (by omega) (by omega)]; exact h17
    have fr3 : rFr J J3 (2200 * hh + c) (2200 * hh + 2200) := fun a b m1 m2 m3 => by rw [e6 a b (by omega) (by omega), fr2 a b m1 m2 m3]
    have s57 : ∀ b, J3 57 b = J1 57 b := fun b => by rw [e6 _ _ (by omega) (by omega), a4]
    have i15 : I2 15 2 = nI d := by rw [y11 _ _ (by omega) (by omega) (by omega), i11 _ _ (by omega) (by omega) (by omega) (by omega)]; exact hd
    have c12 : cFr I I2 o n d := fun a b m1 m2 m3 m4 m5 m6 => by rw [y11 a b m1 (by omega) (by omega), i11 a b m1 m4 (by omega) (by omega)]
    obtain ⟨b1, b2, b3⟩ := bl_ref (stm := stm) ht r3' d3 d8
    obtain ⟨p1, p2, p3⟩ := op_c (n := n) ho y2 i15 d8
    rw [e1]
    simp only [Option.bind_some]
    have flt : ∀ f J4, 0 < f → f < 20000 → fX3_readCondition_75 o (nI n) 0 I2 = some (nI f, I2) → fX9_block stm J3 L = some J4 → J4 48 8 = nI f → (∀ a b, ¬ (a = 48 ∧ (b = 8 ∨ b = 17)) → J4 a b = J3 a b) → ∃ J4 u, ((fX9_block stm J3 L).bind fun q5 => cTail stm L (nI (vrb ch t j)) (nI (2200 * hh + c)) (nI (2200 * hh + c2)) q5) = cTail stm L (nI (vrb ch t j)) (nI (2200 * hh + c)) (nI u) J4 ∧ (2200 * hh + c ≤ u ∧ u < 2200 * hh + 1004) ∧ rFr J J4 (2200 * hh + c) (2200 * hh + 2200) ∧ (∀ b, b ≠ hh → J4 57 b = J 57 b) ∧ ((∃ f I'' c4, (0 < f ∧ f < 20000) ∧ J4 48 8 = nI f ∧ rQ J4 hh c4 ∧ c ≤ c4 ∧ c4 ≤ B ∧ CF o I j f I'' ∧ cFr I I'' o n d) ∨ (d < 8 ∧ ∃ I3 c2 j3 fk, u = 2200 * hh + c2 ∧ c ≤ c2 ∧ CR o I j I3 j3 ∧ j < j3 ∧ cFr I I3 o n d ∧ fk < 3 ∧ hdN I I3 o n d (vrb ch t j) fk ∧ EX I3 J4 o n fk (2200 * hh + c) u ∧ J4 54 u = 11 ∧ OutB I3 J4 L ch t N o hh d j3 (n + 1) (c2 + 1) G)) := fun f J4 f0 f1 z1 z2 z3 z4 => by
      refine ⟨J4, 2200 * hh + c2, by rw [z2]; rfl, ⟨by omega, by omega⟩, fun a b m1 m2 m3 => by rw [z4 a b (by omega), fr3 a b m1 m2 m3], fun b hb => by rw [z4 _ _ (by omega), s57, j4 _ _ (by omega) (by omega)], Or.inl ⟨f, I2, c2 + 1, ⟨f0, f1⟩, z3, rQ_cong e2 (z4 _ _ (by omega)) (z4 _ _ (by omega)), by omega, by omega, CF_st hI (by omega) hd d8 k0 k1 (by rw [i2, y1]; exact z1) f0 f1, c12⟩⟩
    by_cases k : kd ch t t2 = 123
    · by_cases e8 : d = 8
      · obtain ⟨J4, z1, z2, z3⟩ := b3 k e8
        exact flt _ J4 (by omega) (by omega) (p2 k e8) z1 z2 z3
      · obtain ⟨J4, z1, z2, z3, z4⟩ := b1 k (by omega)
        obtain ⟨I3, w1, w2, w3, w4, w5⟩ := p3 k (by omega)
        have cr : CR o I j I3 (t2 + 1) := CR_st hI (by omega) hd d8 k0 k1 (by rw [i2, y1]; exact w1) (by omega)
        have c13 : cFr I I3 o n d := fun a b m1 m2 m3 m4 m5 m6 => by rw [w5 a b m1 m2 (by omega), c12 a b m1 m2 m3 m4 m5 m6]
        have v : ∀ a b, o < a → a < o + 9 → I3 a b = I2 a b := fun a b m1 m2 => w5 a b (by omega) (by omega) (by omega)
        obtain ⟨J5, x1, x2, x3, x4⟩ := blk_go (stm := stm) (G := G) ho hst (show mAt I3 J4 L ch t N o hh (d + 1) (t2 + 1) (n + 1) (c2 + 1) from ⟨w2, z2, rQ_cong e2 (z4 _ _ (by omega)) (z4 _ _ (by omega)), by omega, ⟨by rw [w5 _ _ (by omega) (by omega) (by omega), y11 _ _ (by omega) (by omega) (by omega)]; exact i3, by omega, by rw [z4 _ _ (by omega), s57]; exact j3⟩, w3, z3, by omega⟩)
        refine ⟨J5, 2200 * hh + c2, by rw [z1, x1]; rfl, ⟨by omega, by omega⟩, fun a b m1 m2 m3 => by rw [x2 a b m1 m2 (by omega), z4 a b (by omega), fr3 a b m1 m2 m3], fun b hb => by rw [x3 b hb, z4 _ _ (by omega), s57, j4 _ _ (by omega) (by omega)], ?_⟩
        rcases x4 with ⟨f, I4, c4, g1, g2, g3, g4, g5, g6, g7⟩ | x4
        · exact Or.inl ⟨f, I4, c4, g1, g2, g3, by omega, g5, CR_CF cr g6, cFr_trans c13 g7 (by omega) (by omega)⟩
        · refine Or.inr ⟨by omega, I3, c2, t2 + 1, fk, rfl, by omega, cr, by omega, c13, y9, ⟨w4, ?_, ?_, ?_, ?_, ?_⟩, ?_, ?_, x4⟩
          · rw [v _ _ (by omega) (by omega), y11 _ _ (by omega) (by omega) (by omega)]; exact i4
          · rw [v _ _ (by omega) (by omega)]; exact y8
          · rw [v _ _ (by omega) (by omega), y11 _ _ (by omega) (by omega) (by omega)]; exact i6
          · rw [v _ _ (by omega) (by omega), y11 _ _ (by omega) (by omega) (by omega)]; exact i7
          · rw [v _ _ (by omega) (by omega), y11 _ _ (by omega) (by omega) (by omega)]; exact i8
          · exact EX_congS (fun a ha b m1 m2 => by rw [x2 a b (by omega) (by omega) (by omega), z4 a b (by omega), e6 a b (by omega) (by omega)]) (EX_congI (fun p hp => v _ _ (by omega) (by omega)) y10)
          · rw [x2 _ _ (by omega) (by omega) (by omega), z4 _ _ (by omega)]; exact e3
    · obtain ⟨J4, z1, z2, z3⟩ := b2 k
      exact flt _ J4 (by omega) (by omega) (p1 k) z1 z2 z3
