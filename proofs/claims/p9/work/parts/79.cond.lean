/-! AN E, a condition -/
theorem sum_f {J : zPI} {L : zPL} (h : ¬ J 48 8 = 0) : fX9_sum J L = some J := by
  rw [fX9_sum, part_f h]
  simp only [Option.bind_some]
  rw [show zF = 99999 + 1 from rfl]
  exact sum4_f h
theorem sum_all {o i hh c0 t N j : Nat} {ch : Nat → Nat} {I J : zPI} {L : zPL} {W : Nat → Int} {sd : Int} (ho : o = 24 ∨ o = 33) (hi : i < 80) (ht : t ≤ 1000) (hI : cA I ch t j) (hJ : rA J L ch t N j) (hq : rQ J hh c0) (hc : c0 ≤ j) (hW : cW I o i W) :
  ∃ J', fX9_sum J L = some J' ∧ rFr J J' (2200 * hh + c0) (2200 * hh + 2200) ∧ J' 48 17 = J 48 17 ∧ (∀ b, J' 57 b = J 57 b) ∧
  ((∃ f I' c', fX3_readSum o I (nI i) (iI sd) = some (nI f, I') ∧ (0 < f ∧ f < 20000) ∧ J' 48 8 = nI f ∧ rQ J' hh c' ∧ (c0 ≤ c' ∧ c' ≤ 1002) ∧ cF8 I I' o i) ∨
   (∃ I' j' m' W', fX3_readSum o I (nI i) (iI sd) = some (0, I') ∧ cA I' ch t j' ∧ rA J' L ch t N j' ∧ j + 2 * m' + 1 ≤ j' ∧ rQ J' hh (c0 + 2 * m' + 1) ∧ c0 + 2 * m' + 1 ≤ j' ∧ sok J' (2200 * hh + c0) m' ∧ cW I' o i W' ∧ (∀ V, V 0 = 1 → w8 W' V = w8 W V + sd * sv J' V (2200 * hh + c0) m') ∧ cF8 I I' o i)) := by
  have hN : N ≤ 1000 := hJ.1.2.2.1
  have hjN : j ≤ N := hJ.2.2.2
  rw [fX3_readSum, fX9_sum, show (0 : Int32) = nI 0 from rfl, show zF = 99999 + 1 from rfl]
  by_cases hk : kd ch t j = 3 ∨ prt ch t j < 7
  · obtain ⟨I2, W2, t1, t2, t3, t4, t5⟩ := cs_term (nn := 0) (fu := 99999) (sg := sd) (v2 := iI sd) (K := fun I => some (nI 0, I)) ho hi hI hk hW (by omega)
    obtain ⟨J2, u1, u2, u3, u4, u5⟩ := part_ok hJ hq (by omega) hk
    obtain ⟨tk, tkv⟩ := tk_of hk u4
    obtain ⟨J', z1, z2, z3, z4, z5⟩ := sum_go (KC := fun I => some (nI 0, I)) (KR := fun I => some I) (B := fun V => w8 W V) (sd := sd) (c0 := c0) ho hi ht (N - (j + 1)) (j + 1) 0 0 99999 (99999 + 1) I2 J2 W2 (Nat.le_refl _) (by omega) (by omega) t2 u2 u3 (by omega) ⟨tk, fun k hk9 => absurd hk9 (by omega)⟩ t3 (fun V hV => by rw [t5 V hV, sv, tkv V]) (by omega)
    have fr : rFr J J2 (2200 * hh + c0) (2200 * hh + 2200) := fun a b n1 n2 n3 => by rw [u5 a b (by omega) (by omega)]
    refine ⟨J', ?_, rFr_trans fr z2 (by omega), by rw [z3, u5 _ _ (by omega) (by omega)], fun b => by rw [z4, u5 _ _ (by omega) (by omega)], ?_⟩
    · rw [u1]
      simp only [Option.bind_some]
      exact z1
    · have f12 : cF8 I I2 o i := t4
      rw [t1]
      rcases z5 with ⟨f, I', c', y1, y2, y3, y4, y5, y6⟩ | ⟨I', j', m', W', y1, y2, y3, y4, y5, y6, y7, y8, y9, y10⟩
      · exact Or.inl ⟨f, I', c', y1, y2, y3, y4, y5, cF8_trans f12 y6⟩
      · exact Or.inr ⟨I', j', m', W', y1, y2, y3, by omega, y5, y6, y7, y8, y9, cF8_trans f12 y10⟩
  · have k3 : kd ch t j ≠ 3 := by omega
    have p7 : prt ch t j = 7 := by
      have := (prt_b ch t j).1
      omega
    have hpl := pl_le ch t j
    have h80 : ¬ (zu J 48 8 (nI (1 + 16 * pl ch t j))) 48 8 = 0 := by rw [zu_same]; exact nI_ne (b := 0) (by omega) (by omega) (by omega)
    refine ⟨zu J 48 8 (nI (1 + 16 * pl ch t j)), ?_, fun a b n1 n2 n3 => ?_, zu_col (by decide), fun b => zu_row (by decide), Or.inl ⟨1 + 16 * pl ch t j, I, c0, cs_bad hI k3 p7 (by omega), by omega, zu_same, rQ_cong hq (zu_col (by decide)) (zu_col (by decide)), by omega, fun _ _ _ _ => rfl⟩⟩
    · rw [part_bad ht hJ k3 p7]
      simp only [Option.bind_some]
      exact sum4_f h80
    · by_cases e9 : a = 48
      · rw [e9, zu_col (by omega)]
      · rw [zu_row e9]
def cF9 (I I' : zPI) (o i : Nat) : Prop := ∀ a b, a ≠ 13 → ¬ (a = o + 8 ∧ i * 8 ≤ b ∧ b < i * 8 + 8) → ¬ (a = o + 2 ∧ b = i) → I' a b = I a b
theorem w8_0 (V : Nat → Int) : w8 (fun _ => 0) V = 0 := by simp [w8]
theorem expr_f {J : zPI} {L : zPL} (h : ¬ J 48 8 = 0) : fX9_expression J L = some J := by
  rw [fX9_expression, sum_f h]
  simp only [Option.bind_some]
  rw [sg_f h, sg_f h]
  simp only [Option.bind_some, if_true]
theorem expr_all {o i hh c0 t N j : Nat} {ch : Nat → Nat} {I J : zPI} {L : zPL} (ho : o = 24 ∨ o = 33) (hi : i < 80) (ht : t ≤ 1000) (hI : cA I ch t j) (hJ : rA J L ch t N j) (hq : rQ J hh c0) (hc : c0 ≤ j) (hW : cW I o i (fun _ => 0)) (hf : I (o + 2) i = 0) :
  ∃ J', fX9_expression J L = some J' ∧ rFr J J' (2200 * hh + c0) (2200 * hh + 2200) ∧ J' 48 17 = J 48 17 ∧ (∀ b, J' 57 b = J 57 b) ∧
  ((∃ f I' c', fX3_readCondition o I (nI i) = some (nI f, I') ∧ (0 < f ∧ f < 20000) ∧ J' 48 8 = nI f ∧ rQ J' hh c' ∧ (c0 ≤ c' ∧ c' ≤ 1003) ∧ cF9 I I' o i) ∨
   (∃ I' j' c' fk, fX3_readCondition o I (nI i) = fX3_readCondition_75 o (nI i) 0 I' ∧ cA I' ch t j' ∧ rA J' L ch t N j' ∧ j < j' ∧ rQ J' hh c' ∧ c0 < c' ∧ c' ≤ j' ∧ I' (o + 2) i = nI fk ∧ fk < 3 ∧ EX I' J' o i fk (2200 * hh + c0) (2200 * hh + c') ∧ cF9 I I' o i)) := by
  have hN : N ≤ 1000 := hJ.1.2.2.1
  have nz : ∀ f, 0 < f → f < 20000 → ¬ nI f = 0 := fun f h1 h2 => nI_ne (b := 0) (by omega) (by omega) (by omega)
  obtain ⟨J1, a1, a2, a3, a4, a5⟩ := sum_all (sd := 1) ho hi ht hI hJ hq hc hW
  rw [fX3_readCondition, fX9_expression, a1]
  simp only [Option.bind_some]
  rw [show (1 : Int32) = iI 1 from rfl]
  rcases a5 with ⟨f, I1, c1, y1, ⟨y2, y2'⟩, y3, y4, y5, y6⟩ | ⟨I1, j1, m1, W1, y1, y2, y3, y4, y5, y6, y7, y8, y9, y10⟩
  · have h80 : ¬ J1 48 8 = 0 := by rw [y3]; exact nz f y2 y2'
    refine ⟨J1, ?_, a2, a3, a4, Or.inl ⟨f, I1, c1, ?_, ⟨y2, y2'⟩, y3, y4, by omega, fun a b n1 n2 n3 => y6 a b n1 n2⟩⟩
    · rw [sg_f h80, sg_f h80]
      simp only [Option.bind_some, if_true]
    · rw [y1]
      simp only [Option.bind_some]
      rw [if_neg (nz f y2 y2'), fX3_readCondition_75, if_neg (nz f y2 y2')]
  rw [y1]
  simp only [Option.bind_some, if_true]
  have e60 : fX9_isSign J1 L 60 = some (if kd ch t j1 = 60 then 1 else 0) := sg_r (c := 60) y3 (by decide)
  have e61 : fX9_isSign J1 L 61 = some (if kd ch t j1 = 61 then 1 else 0) := sg_r (c := 61) y3 (by decide)
  have f1 : cF9 I I1 o i := fun a b n1 n2 n3 => y10 a b n1 n2
  have hj1 : j1 ≤ N := y3.2.2.2
  have v1 : ∀ V, V 0 = 1 → w8 W1 V = sv J1 V (2200 * hh + c0) m1 := fun V hV => by
    rw [y9 V hV, w8_0, Int.one_mul, Int.zero_add]
  rw [e60, e61]
  simp only [Option.bind_some, bt]
  by_cases k : ¬ (kd ch t j1 = 60 ∨ kd ch t j1 = 61)
  · refine ⟨J1, by rw [if_neg (by omega), if_neg (by omega)], a2, a3, a4, Or.inr ⟨I1, j1, c0 + 2 * m1 + 1, 0, ?_, y2, y3, by omega, y5, by omega, y6, ?_, by decide, ?_, f1⟩⟩
    · rw [if_neg (show ¬ I1 13 2 = 60 from fun h9 => k (Or.inl ((cA_kind (c := 60) y2 (by decide)).1 h9))), if_neg (show ¬ I1 13 2 = 61 from fun h9 => k (Or.inr ((cA_kind (c := 61) y2 (by decide)).1 h9)))]
    · rw [y10 _ _ (by omega) (by omega)]
      exact hf
    · exact ⟨W1, m1, y8, ⟨by omega, by omega⟩, y7, Or.inl ⟨rfl, by omega, v1⟩⟩
  have k0 : kd ch t j1 ≠ 0 := by omega
  obtain ⟨r1, r2⟩ := rA_plus y3 k0
  have jN := rA_lt y3 k0
  obtain ⟨fk, op, hfo, eC, eR⟩ : ∃ (fk : Nat) (op : Int32), ((fk = 1 ∧ op = 5) ∨ (fk = 2 ∧ op = 6)) ∧ (if I1 13 2 = 60 then fX3_readCondition_35 o (nI i) I1 else if I1 13 2 = 61 then fX3_readCondition_35 o (nI i) I1 else fX3_readCondition_75 o (nI i) 0 I1) = fX3_readCondition_60 o (nI i) (nI i) (nI fk) I1 ∧ (if kd ch t j1 = 60 then fX9_expression_24 L (if kd ch t j1 = 60 then 1 else 0) J1 else if kd ch t j1 = 61 then fX9_expression_24 L (if kd ch t j1 = 60 then 1 else 0) J1 else some J1) = (fX9_sum (zu J1 48 7 (J1 48 7 + 1)) L).bind (fun q5 => fX9_expression_49 L op q5) := by
    by_cases k6 : kd ch t j1 = 60
    · have k' : I1 13 2 = 60 := (cA_kind (c := 60) y2 (by decide)).2 k6
      refine ⟨1, 5, Or.inl ⟨rfl, rfl⟩, ?_, ?_⟩
      · rw [if_pos k', fX3_readCondition_35, if_pos k']
        rfl
      · rw [if_pos k6, if_pos k6, fX9_expression_24]
        simp only [show ¬ (1 : Int32) = 0 by decide, if_false]
    · have k7 : kd ch t j1 = 61 := by omega
      have k' : ¬ I1 13 2 = 60 := fun h9 => k6 ((cA_kind (c := 60) y2 (by decide)).1 h9)
      have k'' : I1 13 2 = 61 := (cA_kind (c := 61) y2 (by decide)).2 k7
      refine ⟨2, 6, Or.inr ⟨rfl, rfl⟩, ?_, ?_⟩
      · rw [if_neg k', if_pos k'', fX3_readCondition_35, if_neg k']
        rfl
      · rw [if_neg k6, if_pos k7, if_neg k6, fX9_expression_24]
        simp only [if_true]
  rw [eC, eR]
  have hz : zin (nI i) 80 = true := zin_nI (by omega) (by omega)
  obtain ⟨I2, g1, g2, g3⟩ := cA_adv (cA_cong y2 (I' := zu I1 (o + 2) i (nI fk)) (fun b => zu_row (by omega)) (fun b => zu_row (by omega)))
  have eC2 : fX3_readCondition_60 o (nI i) (nI i) (nI fk) I1 = (fX3_readSum o I2 (nI i) (iI (-1))).bind (fun q9 => fX3_readCondition_75 o (nI i) q9.1 q9.2) := by
    rw [fX3_readCondition_60, zif_t hz, nI_clamp (by omega), g1]
    rfl
  rw [eC2]
  have q2 : rQ (zu J1 48 7 (J1 48 7 + 1)) hh (c0 + 2 * m1 + 1) := rQ_cong y5 (zu_col (by decide)) (zu_col (by decide))
  have W2 : cW I2 o i W1 := fun p hp => by
    rw [g3 _ _ (by omega), zu_row (by omega)]
    exact y8 p hp
  have f2 : cF9 I1 I2 o i := fun a b n1 n2 n3 => by
    rw [g3 a b n1]
    by_cases e9 : a = o + 2
    · rw [e9, zu_col (by omega)]
    · rw [zu_row e9]
  have fr1 : rFr J1 (zu J1 48 7 (J1 48 7 + 1)) (2200 * hh + c0) (2200 * hh + 2200) := fun a b n1 n2 n3 => by
    by_cases e9 : a = 48
    · rw [e9, zu_col (by omega)]
    · rw [zu_row e9]
  obtain ⟨J3, b1, b2, b3, b4, b5⟩ := sum_all (sd := -1) ho hi ht g2 r1 q2 (by omega) W2
  rw [b1]
  simp only [Option.bind_some]
  rcases b5 with ⟨f, I3, c3, x1, ⟨x2, x2'⟩, x3, x4, x5, x6⟩ | ⟨I3, j3, m3, W3, x1, x2, x3, x4, x5, x6, x7, x8, x9, x10⟩
  · obtain ⟨J4, w1, w2, w3, w4, w5, w6⟩ := em_r x4 (by omega) op 0 0
    refine ⟨J4, by rw [fX9_expression_49, w1]; rfl, ?_, ?_, ?_, Or.inl ⟨f, I3, c3 + 1, ?_, ⟨x2, x2'⟩, ?_, w2, by omega, ?_⟩⟩
    · intro a b n1 n2 n3
      rw [w6 a b (by omega) (by omega), b2 a b n1 n2 (by omega), fr1 a b n1 n2 n3, a2 a b n1 n2 n3]
    · rw [w6 _ _ (by omega) (by omega), b3, zu_col (by decide), a3]
    · intro b
      rw [w6 _ _ (by omega) (by omega), b4, zu_row (by decide), a4]
    · rw [x1]
      simp only [Option.bind_some]
      rw [fX3_readCondition_75, if_neg (nz f x2 x2')]
    · rw [w6 _ _ (by omega) (by omega)]
      exact x3
    · intro a b n1 n2 n3
      rw [x6 a b n1 n2, f2 a b n1 n2 n3, f1 a b n1 n2 n3]
  · have hj3 : j3 ≤ N := x3.2.2.2
    obtain ⟨J4, w1, w2, w3, w4, w5, w6⟩ := em_r x5 (by omega) op 0 0
    have old : ∀ a, a = 54 ∨ a = 55 → ∀ b, b < 2200 * hh + c0 + 2 * m1 + 1 → J4 a b = J1 a b := fun a ha b hb => by
      rw [w6 a b (by omega) (by omega), b2 a b (by omega) (by omega) (by omega), zu_row (by omega)]
    have old3 : ∀ a, a = 54 ∨ a = 55 → ∀ b, b < 2200 * hh + (c0 + 2 * m1 + 1 + 2 * m3 + 1) → J4 a b = J3 a b := fun a ha b hb => by
      rw [w6 a b (by omega) (by omega)]
    refine ⟨J4, by rw [fX9_expression_49, w1]; rfl, ?_, ?_, ?_, Or.inr ⟨I3, j3, c0 + 2 * m1 + 1 + 2 * m3 + 1 + 1, fk, ?_, x2, ?_, by omega, w2, by omega, by omega, ?_, by omega, ?_, ?_⟩⟩
    · intro a b n1 n2 n3
      rw [w6 a b (by omega) (by omega), b2 a b n1 n2 (by omega), fr1 a b n1 n2 n3, a2 a b n1 n2 n3]
    · rw [w6 _ _ (by omega) (by omega), b3, zu_col (by decide), a3]
    · intro b
      rw [w6 _ _ (by omega) (by omega), b4, zu_row (by decide), a4]
    · rw [x1]
      rfl
    · exact rA_to x3 (fun b => w6 _ _ (by omega) (by omega)) (fun b => w6 _ _ (by omega) (by omega)) (w6 _ _ (by omega) (by omega)) (by rw [w6 _ _ (by omega) (by omega)]; exact x3.2.1) hj3
    · rw [x10 _ _ (by omega) (by omega), g3 _ _ (by omega), zu_same]
    · refine ⟨W3, m1, x8, ⟨by omega, by omega⟩, sok_congR (fun a ha b q1 q2 => old a ha b (by omega)) y7, Or.inr ⟨m3, by omega, by omega, ?_, ?_, fun V hV => ?_⟩⟩
      · rw [show 2200 * hh + c0 + 2 * m1 + 1 = 2200 * hh + (c0 + 2 * m1 + 1) from by omega]
        exact sok_congR (fun a ha b q1 q2 => old3 a ha b (by omega)) x7
      · have e5 : J4 54 (2200 * hh + c0 + 2 * m1 + 2 * m3 + 2) = op := by
          rw [show 2200 * hh + c0 + 2 * m1 + 2 * m3 + 2 = 2200 * hh + (c0 + 2 * m1 + 1 + 2 * m3 + 1) from by omega]
          exact w3
        rw [e5]
        exact hfo
      · rw [x9 V hV, v1 V hV, sv_congR V m1 (fun a ha b q1 q2 => old a ha b (by omega)), show 2200 * hh + c0 + 2 * m1 + 1 = 2200 * hh + (c0 + 2 * m1 + 1) from by omega, sv_congR V m3 (fun a ha b q1 q2 => old3 a ha b (by omega))]
        omega
    · intro a b n1 n2 n3
      rw [x10 a b n1 n2, f2 a b n1 n2 n3, f1 a b n1 n2 n3]
