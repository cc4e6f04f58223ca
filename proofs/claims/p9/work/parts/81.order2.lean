/-! AN ORDER, on both sides -/
def rKp (J J' : zPI) (hh c : Nat) : Prop := rFr J J' (2200 * hh + c) (2200 * hh + 2200) ∧ J' 48 17 = J 48 17 ∧ ∀ b, J' 57 b = J 57 b
theorem rKp_trans {J J' J'' : zPI} {hh c c' : Nat} (h1 : rKp J J' hh c) (h2 : rKp J' J'' hh c') (hc : c ≤ c') : rKp J J'' hh c := ⟨rFr_trans h1.1 h2.1 (by omega), by rw [h2.2.1, h1.2.1], fun b => by rw [h2.2.2, h1.2.2]⟩
theorem rKp_78 {J : zPI} {hh c b : Nat} {x : Int32} (hb : b = 7 ∨ b = 8) : rKp J (zu J 48 b x) hh c := by
  refine ⟨fun a b' n1 n2 n3 => ?_, zu_col (by omega), fun b' => zu_row (by decide)⟩
  by_cases e : a = 48
  · rw [e, zu_col (by omega)]
  · rw [zu_row e]
theorem rKp_em {J J' : zPI} {hh c : Nat} (hc : c < 2200) (h : ∀ a b, ¬ (a = 48 ∧ b = 15) → ¬ ((a = 54 ∨ a = 55 ∨ a = 56) ∧ b = 2200 * hh + c) → J' a b = J a b) : rKp J J' hh c := ⟨fun a b n1 n2 n3 => h a b (by omega) (by omega), h _ _ (by omega) (by omega), fun b => h _ _ (by omega) (by omega)⟩
def wCode (J : zPI) (p w : Nat) (v3 s0 : Int32) : Prop := J 54 p = opW w ∧ J 55 p = (if w < 4 then 32 * nI w + v3 else v3) ∧ J 56 p = (if w < 4 then s0 else 0)
theorem ot_ok {stm : zPI → Option zPI} {I J : zPI} {L : zPL} {ch : Nat → Nat} {o t N j hh c w : Nat} {v3 s0 : Int32} (hw : w < 7) (hI : cA I ch t j) (hJ : rA J L ch t N j) (q : rQ J hh c) (hc : c < 2200) : ∃ J', fX9_statement_195 stm L (nI w) v3 s0 J = some J' ∧ rQ J' hh (c + 1) ∧ rKp J J' hh c ∧ wCode J' (2200 * hh + c) w v3 s0 ∧ ((∃ I', fX3_readOrder_91 o I = some (0, I') ∧ cA I' ch t (j + 1) ∧ rA J' L ch t N (j + 1) ∧ ∀ a b, a ≠ 13 → I' a b = I a b) ∨ (fX3_readOrder_91 o I = some (nI (1 + 16 * pl ch t j), I) ∧ J' 48 8 = nI (1 + 16 * pl ch t j))) := by
  obtain ⟨c1, c2⟩ := rs_c (o := o) (c := 59) hI (by decide)
  have e59 : fX9_takeSign J L 59 = if kd ch t j = 59 then some (zu J 48 7 (nI (j + 1))) else some (zu J 48 8 (nI (1 + 16 * pl ch t j))) := ts_r (c := 59) hJ (by decide)
  rw [fX9_statement_195, e59]
  by_cases k : kd ch t j = 59
  · rw [if_pos k]
    simp only [Option.bind_some]
    obtain ⟨J', e1, e2, e3, e4, e5, e6⟩ := ow_r (stm := stm) (L := L) (J := zu J 48 7 (nI (j + 1))) (v3 := v3) (s0 := s0) hw (rQ_cong q (zu_col (by decide)) (zu_col (by decide))) hc
    obtain ⟨I', d1, d2, d3⟩ := c1 k
    refine ⟨J', e1, e2, rKp_trans (rKp_78 (Or.inl rfl)) (rKp_em hc e6) (Nat.le_refl _), ⟨e3, e4, e5⟩, Or.inl ⟨I', ?_, d2, ?_, d3⟩⟩
    · rw [fX3_readOrder_91, show (59 : Int32) = nI 59 from rfl, d1]
      rfl
    · have k0 : kd ch t j ≠ 0 := by omega
      have r1 := (rA_plus hJ k0).1
      rw [(rA_plus hJ k0).2] at r1
      exact rA_to r1 (fun b => e6 _ _ (by omega) (by omega)) (fun b => e6 _ _ (by omega) (by omega)) (e6 _ _ (by omega) (by omega)) (by rw [e6 _ _ (by omega) (by omega), zu_same]) r1.2.2.2
  · rw [if_neg k]
    simp only [Option.bind_some]
    obtain ⟨J', e1, e2, e3, e4, e5, e6⟩ := ow_r (stm := stm) (L := L) (J := zu J 48 8 (nI (1 + 16 * pl ch t j))) (v3 := v3) (s0 := s0) hw (rQ_cong q (zu_col (by decide)) (zu_col (by decide))) hc
    refine ⟨J', e1, e2, rKp_trans (rKp_78 (Or.inr rfl)) (rKp_em hc e6) (Nat.le_refl _), ⟨e3, e4, e5⟩, Or.inr ⟨?_, ?_⟩⟩
    · rw [fX3_readOrder_91, show (59 : Int32) = nI 59 from rfl, c2 k]
      rfl
    · rw [e6 _ _ (by omega) (by omega), zu_same]
theorem ot_f {stm : zPI → Option zPI} {J : zPI} {L : zPL} {hh c w : Nat} {v3 s0 : Int32} (hw : w < 7) (h : ¬ J 48 8 = 0) (q : rQ J hh c) (hc : c < 2200) : ∃ J', fX9_statement_195 stm L (nI w) v3 s0 J = some J' ∧ rQ J' hh (c + 1) ∧ rKp J J' hh c ∧ J' 48 8 = J 48 8 := by
  obtain ⟨J', e1, e2, e3, e4, e5, e6⟩ := ow_r (stm := stm) (L := L) (J := J) (v3 := v3) (s0 := s0) hw q hc
  refine ⟨J', ?_, e2, rKp_em hc e6, e6 _ _ (by omega) (by omega)⟩
  rw [fX9_statement_195, ts_f h]
  exact e1
def cFo (I I' : zPI) (o i : Nat) : Prop := ∀ a b, a ≠ 13 → ¬ ((a = o + 2 ∨ a = o + 3) ∧ b = i) → I' a b = I a b
theorem ord_all {stm : zPI → Option zPI} {I J : zPI} {L : zPL} {ch : Nat → Nat} {o t N j hh c w i : Nat} (ho : o = 24 ∨ o = 33) (hi : i < 80) (ht : t ≤ 1000) (hw : w < 7) (hI : cA I ch t j) (hJ : rA J L ch t N j) (q : rQ J hh c) (hc : c < 2200) (hs : I (o + 3) i = 0) : ∃ J', fX9_statement_128 stm L (nI w) (nI (loO w)) J = some J' ∧ rQ J' hh (c + 1) ∧ rKp J J' hh c ∧
  ((∃ f I', fX3_readOrder o I (nI i) (nI w) = some (nI f, I') ∧ (0 < f ∧ f < 20000) ∧ J' 48 8 = nI f ∧ cFo I I' o i) ∨
   (∃ I' j' f s, fX3_readOrder o I (nI i) (nI w) = some (0, I') ∧ cA I' ch t j' ∧ rA J' L ch t N j' ∧ j < j' ∧ I' (o + 2) i = nI f ∧ I' (o + 3) i = nI s ∧ (loO w ≤ f ∧ f ≤ hiO w ∧ s ≤ 8) ∧ wCode J' (2200 * hh + c) w (nI f) (nI s) ∧ cFo I I' o i)) := by
  obtain ⟨b1, b2⟩ := hiO_lt w
  have hz : zin (nI i) 80 = true := zin_nI (by omega) (by omega)
  have hpl := pl_le ch t
  have eC : fX3_readOrder o I (nI i) (nI w) = fX3_readOrder_12 o (nI i) (nI w) (nI (loO w)) I := by
    rw [fX3_readOrder]
    unfold loO
    by_cases w6 : w = 6
    · rw [if_pos (show nI w = 6 by rw [w6]; rfl), if_pos w6]
      rfl
    · rw [if_neg (show ¬ nI w = 6 from nI_ne (b := 6) (by omega) (by omega) w6), if_neg w6]
      rfl
  rw [eC, fX3_readOrder_12, hi_c o w hw, nb_c hI b2 b1, hi_r w hw, fX9_statement_175, nb_r ht hJ b2 b1]
  have nz : ∀ f, 0 < f → f < 20000 → ¬ nI f = 0 := fun f h1 h2 => nI_ne (b := 0) (by omega) (by omega) (by omega)
  have fNb : ∀ j lo hi, fN ch t j lo hi < 20000 := fun j lo hi => by
    have := hpl j
    unfold fN
    split
    · split <;> omega
    · omega
  by_cases k : fN ch t j (loO w) (hiO w) = 0
  · have k3 : kd ch t j = 3 ∧ loO w ≤ vl ch t j ∧ vl ch t j ≤ hiO w := by
      unfold fN at k
      by_cases e3 : kd ch t j = 3
      · rw [if_pos e3] at k
        by_cases e4 : loO w ≤ vl ch t j ∧ vl ch t j ≤ hiO w
        · exact ⟨e3, e4⟩
        · rw [if_neg e4] at k
          omega
      · rw [if_neg e3] at k
        omega
    have k0 : kd ch t j ≠ 0 := by omega
    rw [if_pos k, k, if_pos (show nI 0 = (0 : Int32) from rfl), zif_t hz, nI_clamp (by omega), hI.2.2.2.2 k3.1]
    simp only [Option.bind_some]
    have r1 := (rA_plus hJ k0).1
    rw [(rA_plus hJ k0).2] at r1
    have q1 : rQ (zu J 48 7 (nI (j + 1))) hh c := rQ_cong q (zu_col (by decide)) (zu_col (by decide))
    obtain ⟨I1, g1, g2, g3⟩ := cA_adv (cA_cong hI (I' := zu I (o + 2) i (nI (vl ch t j))) (fun b => zu_row (by omega)) (fun b => zu_row (by omega)))
    have f1 : cFo I I1 o i := fun a b n1 n2 => by
      rw [g3 a b n1]
      by_cases e9 : a = o + 2
      · rw [e9, zu_col (by omega)]
      · rw [zu_row e9]
    have v2 : I1 (o + 2) i = nI (vl ch t j) := by rw [g3 _ _ (by omega), zu_same]
    have v3 : I1 (o + 3) i = nI 0 := by rw [g3 _ _ (by omega), zu_row (by omega)]; exact hs
    rw [g1]
    simp only [Option.bind_some]
    by_cases w2 : w = 2
    · rw [if_pos (show nI w = 2 by rw [w2]; rfl), if_pos (show nI w = 2 by rw [w2]; rfl), show fX3_checkNumber o I1 0 8 = nI (fN ch t (j + 1) 0 8) from nb_c (lo := 0) (hi := 8) g2 (by omega) (by omega), show fX9_takeNumber (zu J 48 7 (nI (j + 1))) L 0 8 = if fN ch t (j + 1) 0 8 = 0 then some (nI (vl ch t (j + 1)), zu (zu J 48 7 (nI (j + 1))) 48 7 (nI (j + 1 + 1))) else some (0, zu (zu (zu J 48 7 (nI (j + 1))) 48 8 (nI (fN ch t (j + 1) 0 8))) 48 7 (nI (j + 1 + 1))) from nb_r (lo := 0) (hi := 8) ht r1 (by omega) (by omega)]
      by_cases l : fN ch t (j + 1) 0 8 = 0
      · have l3 : kd ch t (j + 1) = 3 ∧ vl ch t (j + 1) ≤ 8 := by
          unfold fN at l
          by_cases e3 : kd ch t (j + 1) = 3
          · rw [if_pos e3] at l
            by_cases e4 : 0 ≤ vl ch t (j + 1) ∧ vl ch t (j + 1) ≤ 8
            · exact ⟨e3, e4.2⟩
            · rw [if_neg e4] at l
              omega
          · rw [if_neg e3] at l
            omega
        have l0 : kd ch t (j + 1) ≠ 0 := by omega
        rw [if_pos l, l, if_pos (show nI 0 = (0 : Int32) from rfl), zif_t hz, g2.2.2.2.2 l3.1]
        simp only [Option.bind_some]
        have r2 := (rA_plus r1 l0).1
        rw [(rA_plus r1 l0).2] at r2
        have q2 : rQ (zu (zu J 48 7 (nI (j + 1))) 48 7 (nI (j + 1 + 1))) hh c := rQ_cong q1 (zu_col (by decide)) (zu_col (by decide))
        obtain ⟨I2, d1, d2, d3⟩ := cA_adv (cA_cong g2 (I' := zu I1 (o + 3) i (nI (vl ch t (j + 1)))) (fun b => zu_row (by omega)) (fun b => zu_row (by omega)))
        have f2 : cFo I1 I2 o i := fun a b n1 n2 => by
          rw [d3 a b n1]
          by_cases e9 : a = o + 3
          · rw [e9, zu_col (by omega)]
          · rw [zu_row e9]
        rw [d1]
        simp only [Option.bind_some]
        obtain ⟨J', e1, e2, e3, e4, e5⟩ := ot_ok (stm := stm) (o := o) (v3 := nI (vl ch t j)) (s0 := nI (vl ch t (j + 1))) hw d2 r2 q2 hc
        refine ⟨J', e1, e2, rKp_trans (rKp_trans (rKp_78 (Or.inl rfl)) (rKp_78 (Or.inl rfl)) (Nat.le_refl _)) e3 (Nat.le_refl _), ?_⟩
        rcases e5 with ⟨I3, x1, x2, x3, x4⟩ | ⟨x1, x2⟩
        · refine Or.inr ⟨I3, j + 1 + 1 + 1, vl ch t j, vl ch t (j + 1), x1, x2, x3, by omega, ?_, ?_, ⟨k3.2.1, k3.2.2, l3.2⟩, e4, fun a b n1 n2 => by rw [x4 a b n1, f2 a b n1 n2, f1 a b n1 n2]⟩
          · rw [x4 _ _ (by omega), d3 _ _ (by omega), zu_row (by omega)]
            exact v2
          · rw [x4 _ _ (by omega), d3 _ _ (by omega), zu_same]
        · exact Or.inl ⟨_, I2, x1, ⟨by omega, by have := hpl (j + 1 + 1); omega⟩, x2, fun a b n1 n2 => by rw [f2 a b n1 n2, f1 a b n1 n2]⟩
      · have l9 := fNb (j + 1) 0 8
        rw [if_neg l, if_neg (nz _ (by omega) l9)]
        simp only [Option.bind_some]
        have h8 : (zu (zu (zu J 48 7 (nI (j + 1))) 48 8 (nI (fN ch t (j + 1) 0 8))) 48 7 (nI (j + 1 + 1))) 48 8 = nI (fN ch t (j + 1) 0 8) := by rw [zu_col (by decide), zu_same]
        obtain ⟨J', e1, e2, e3, e4⟩ := ot_f (stm := stm) (L := L) (v3 := nI (vl ch t j)) (s0 := 0) hw (show ¬ (zu (zu (zu J 48 7 (nI (j + 1))) 48 8 (nI (fN ch t (j + 1) 0 8))) 48 7 (nI (j + 1 + 1))) 48 8 = 0 by rw [h8]; exact nz _ (by omega) l9) (rQ_cong q1 (by rw [zu_col (by decide), zu_col (by decide)]) (by rw [zu_col (by decide), zu_col (by decide)])) hc
        refine ⟨J', e1, e2, rKp_trans (rKp_trans (rKp_trans (rKp_78 (Or.inl rfl)) (rKp_78 (Or.inr rfl)) (Nat.le_refl _)) (rKp_78 (Or.inl rfl)) (Nat.le_refl _)) e3 (Nat.le_refl _), Or.inl ⟨_, I1, rfl, ⟨by omega, l9⟩, by rw [e4, h8], f1⟩⟩
    · rw [if_neg (show ¬ nI w = 2 from nI_ne (b := 2) (by omega) (by omega) w2), if_neg (show ¬ nI w = 2 from nI_ne (b := 2) (by omega) (by omega) w2)]
      obtain ⟨J', e1, e2, e3, e4, e5⟩ := ot_ok (stm := stm) (o := o) (v3 := nI (vl ch t j)) (s0 := nI 0) hw g2 r1 q1 hc
      refine ⟨J', e1, e2, rKp_trans (rKp_78 (Or.inl rfl)) e3 (Nat.le_refl _), ?_⟩
      rcases e5 with ⟨I3, x1, x2, x3, x4⟩ | ⟨x1, x2⟩
      · exact Or.inr ⟨I3, j + 1 + 1, vl ch t j, 0, x1, x2, x3, by omega, by rw [x4 _ _ (by omega)]; exact v2, by rw [x4 _ _ (by omega)]; exact v3, ⟨k3.2.1, k3.2.2, by omega⟩, e4, fun a b n1 n2 => by rw [x4 a b n1, f1 a b n1 n2]⟩
      · exact Or.inl ⟨_, I1, x1, ⟨by omega, by have := hpl (j + 1); omega⟩, x2, f1⟩
  · have k9 := fNb j (loO w) (hiO w)
    rw [if_neg k, if_neg (nz _ (by omega) k9)]
    simp only [Option.bind_some]
    have h8 : (zu (zu J 48 8 (nI (fN ch t j (loO w) (hiO w)))) 48 7 (nI (j + 1))) 48 8 = nI (fN ch t j (loO w) (hiO w)) := by rw [zu_col (by decide), zu_same]
    have h80 : ¬ (zu (zu J 48 8 (nI (fN ch t j (loO w) (hiO w)))) 48 7 (nI (j + 1))) 48 8 = 0 := by rw [h8]; exact nz _ (by omega) k9
    have q1 : rQ (zu (zu J 48 8 (nI (fN ch t j (loO w) (hiO w)))) 48 7 (nI (j + 1))) hh c := rQ_cong q (by rw [zu_col (by decide), zu_col (by decide)]) (by rw [zu_col (by decide), zu_col (by decide)])
    have kp : rKp J (zu (zu J 48 8 (nI (fN ch t j (loO w) (hiO w)))) 48 7 (nI (j + 1))) hh c := rKp_trans (rKp_78 (Or.inr rfl)) (rKp_78 (Or.inl rfl)) (Nat.le_refl _)
    by_cases w2 : w = 2
    · rw [if_pos (show nI w = 2 by rw [w2]; rfl), nb_f h8 (by omega) (by omega)]
      simp only [Option.bind_some]
      obtain ⟨J', e1, e2, e3, e4⟩ := ot_f (stm := stm) (L := L) (v3 := 0) (s0 := 0) hw (show ¬ (zu (zu (zu J 48 8 (nI (fN ch t j (loO w) (hiO w)))) 48 7 (nI (j + 1))) 48 7 ((zu (zu J 48 8 (nI (fN ch t j (loO w) (hiO w)))) 48 7 (nI (j + 1))) 48 7 + 1)) 48 8 = 0 by rw [zu_col (by decide)]; exact h80) (rQ_cong q1 (zu_col (by decide)) (zu_col (by decide))) hc
      exact ⟨J', e1, e2, rKp_trans (rKp_trans kp (rKp_78 (Or.inl rfl)) (Nat.le_refl _)) e3 (Nat.le_refl _), Or.inl ⟨_, I, rfl, ⟨by omega, k9⟩, by rw [e4, zu_col (by decide), h8], fun _ _ _ _ => rfl⟩⟩
    · rw [if_neg (show ¬ nI w = 2 from nI_ne (b := 2) (by omega) (by omega) w2)]
      obtain ⟨J', e1, e2, e3, e4⟩ := ot_f (stm := stm) (L := L) (v3 := 0) (s0 := 0) hw h80 q1 hc
      exact ⟨J', e1, e2, rKp_trans kp e3 (Nat.le_refl _), Or.inl ⟨_, I, rfl, ⟨by omega, k9⟩, by rw [e4, h8], fun _ _ _ _ => rfl⟩⟩
