/-! A CHOICE: the reference in a fault; opening and closing -/
theorem block_f {stm : zPI → Option zPI} {J : zPI} {L : zPL} (h : ¬ J 48 8 = 0) : ∃ J', fX9_block stm J L = some J' ∧ (∀ a b, ¬ (a = 48 ∧ b = 17) → J' a b = J a b) := by
  refine ⟨zu (zu J 48 17 (J 48 17 + 1)) 48 17 ((zu J 48 17 (J 48 17 + 1)) 48 17 - 1), ?_, fun a b n1 => ?_⟩
  · have h2 : ¬ (zu J 48 17 (J 48 17 + 1)) 48 8 = 0 := by rw [zu_col (by decide)]; exact h
    rw [fX9_block, sg_f h]
    simp only [Option.bind_some, if_true]
    rw [fX9_block_23, ts_f h]
    simp only [Option.bind_some]
    rw [show zF = 99999 + 1 from rfl, b39_f h2, fX9_block_62, ts_f h2]
    rfl
  · by_cases e : a = 48
    · rw [e, zu_col (by omega), zu_col (by omega)]
    · rw [zu_row e, zu_row e]
def cTail (stm : zPI → Option zPI) (L : zPL) (p1 p2 ov : Int32) (q5 : zPI) : Option zPI := (if p1 = 9 then (fX9_emit q5 12 p2 0).bind (fun q20 => (if zin ov 4400 then some (zu q20.2 55 ov.toNatClampNeg (fX9_here q20.2)) else none)) else (fX9_hasWord q5 L 8).bind (fun q7 => (if q7.1 = 0 then (if zin ov 4400 then some (zu q7.2 55 ov.toNatClampNeg (fX9_here q7.2)) else none) else (fX9_emit q7.2 12 0 0).bind (fun q9 => (if zin ov 4400 then (fX9_block stm (zu q9.2 55 ov.toNatClampNeg (fX9_here q9.2)) L).bind (fun q13 => (if zin q9.1 4400 then some (zu q13 55 q9.1.toNatClampNeg (fX9_here q13)) else none)) else none)))))
theorem choice_eq (stm : zPI → Option zPI) (I : zPI) (L : zPL) (p1 p2 : Int32) : fX9_choice stm I L p1 p2 = (fX9_expression I L).bind (fun q1 => (fX9_emit q1 11 0 0).bind (fun q3 => (fX9_block stm q3.2 L).bind (fun q5 => cTail stm L p1 p2 q3.1 q5))) := rfl
theorem rFr_55 {J : zPI} {lo hi u : Nat} {x : Int32} (h1 : lo ≤ u) (h2 : u < hi) : rFr J (zu J 55 u x) lo hi := fun a b n1 n2 n3 => by
  by_cases e : a = 55
  · rw [e, zu_col (by omega)]
  · rw [zu_row e]
theorem here_r {J : zPI} {hh c : Nat} (q : rQ J hh c) : fX9_here J = nI (2200 * hh + c) := by
  rw [fX9_here, q.1, q.2.2, show (2200 : Int32) = nI 2200 from rfl, pk_mul, nI_add]
theorem ct_f {stm : zPI → Option zPI} {J : zPI} {L : zPL} {hh c w u lo : Nat} {p2 : Int32} (hw : w = 7 ∨ w = 9) (h : ¬ J 48 8 = 0) (q : rQ J hh c) (hc : c < 2200) (hu : lo ≤ u) (hu2 : u < 2200 * hh + 2200) (hl : lo ≤ 2200 * hh + c) : ∃ J' c', cTail stm L (nI w) p2 (nI u) J = some J' ∧ J' 48 8 = J 48 8 ∧ rQ J' hh c' ∧ c ≤ c' ∧ c' ≤ c + 1 ∧ (∀ b, J' 57 b = J 57 b) ∧ rFr J J' lo (2200 * hh + 2200) := by
  have h2 := q.2.1
  have hz : zin (nI u) 4400 = true := zin_nI (by omega) (by omega)
  rcases hw with rfl | rfl
  · refine ⟨zu (zu J 48 7 (J 48 7 + 0)) 55 u (nI (2200 * hh + c)), c, ?_, by rw [zu_row (by decide), zu_col (by decide)], rQ_cong q (by rw [zu_row (by decide), zu_col (by decide)]) (by rw [zu_row (by decide), zu_col (by decide)]), Nat.le_refl _, by omega, fun b => by rw [zu_row (by decide), zu_row (by decide)], ?_⟩
    · rw [cTail, if_neg (show ¬ nI 7 = (9 : Int32) by decide), fX9_hasWord, fX9_isWord, if_neg h]
      simp only [Option.bind_some, if_true]
      rw [zif_t hz, nI_clamp (by omega), here_r (rQ_cong q (zu_col (by decide)) (zu_col (by decide)))]
    · refine rFr_trans (J' := zu J 48 7 (J 48 7 + 0)) (lo' := lo) (fun a b n1 n2 n3 => ?_) (rFr_55 hu hu2) (Nat.le_refl _)
      by_cases e : a = 48
      · rw [e, zu_col (by omega)]
      · rw [zu_row e]
  · obtain ⟨J', e1, e2, e3, e4, e5, e6⟩ := em_r q hc 12 p2 0
    refine ⟨zu J' 55 u (nI (2200 * hh + (c + 1))), c + 1, ?_, by rw [zu_row (by decide), e6 _ _ (by omega) (by omega)], rQ_cong e2 (zu_row (by decide)) (zu_row (by decide)), by omega, by omega, fun b => by rw [zu_row (by decide), e6 _ _ (by omega) (by omega)], ?_⟩
    · rw [cTail, if_pos (show nI 9 = (9 : Int32) from rfl), e1]
      simp only [Option.bind_some]
      rw [zif_t hz, nI_clamp (by omega), here_r e2]
    · exact rFr_trans (J' := J') (lo' := lo) (fun a b n1 n2 n3 => e6 a b (by omega) (by omega)) (rFr_55 hu hu2) (Nat.le_refl _)
/-- '{' of the class's condition -/
theorem op_c {o t j n d : Nat} {ch : Nat → Nat} {I : zPI} (ho : o = 24 ∨ o = 33) (h : cA I ch t j) (hd : I 15 2 = nI d) (d8 : d ≤ 8) : (kd ch t j ≠ 123 → fX3_readCondition_75 o (nI n) 0 I = some (nI (1 + 16 * pl ch t j), I)) ∧ (kd ch t j = 123 → d = 8 → fX3_readCondition_75 o (nI n) 0 I = some (nI (5 + 16 * pl ch t j), I)) ∧ (kd ch t j = 123 → d < 8 → ∃ I', fX3_readCondition_75 o (nI n) 0 I = some (0, I') ∧ cA I' ch t (j + 1) ∧ I' 15 2 = nI (d + 1) ∧ I' 16 d = nI n ∧ (∀ a b, a ≠ 13 → ¬ (a = 15 ∧ b = 2) → ¬ (a = 16 ∧ b = d) → I' a b = I a b)) := by
  refine ⟨fun k => ?_, fun k e8 => ?_, fun k e8 => ?_⟩
  · rw [fX3_readCondition_75, if_pos rfl, fX3_readOpening, if_neg (show ¬ I 13 2 = 123 from fun h9 => k ((cA_kind (c := 123) h (by decide)).1 h9)), show (1 : Int32) = nI 1 from rfl, fh_c h 1]
    rfl
  · rw [fX3_readCondition_75, if_pos rfl, fX3_readOpening, if_pos (show I 13 2 = 123 from (cA_kind (c := 123) h (by decide)).2 k), hd, if_neg (show ¬ nI d < 8 from nI_nlt (b := 8) (by omega) (by omega)), show (5 : Int32) = nI 5 from rfl, fh_c h 5]
    rfl
  · obtain ⟨I', g1, g2, g3⟩ := cA_adv (cA_cong h (I' := zu (zu I 16 d (nI n)) 15 2 (nI (d + 1))) (fun b => by rw [zu_row (by decide), zu_row (by decide)]) (fun b => by rw [zu_row (by decide), zu_row (by decide)]))
    refine ⟨I', ?_, g2, by rw [g3 _ _ (by decide), zu_same], by rw [g3 _ _ (by decide), zu_row (by decide), zu_same], fun a b n1 n2 n3 => ?_⟩
    · rw [fX3_readCondition_75, if_pos rfl, fX3_readOpening, if_pos (show I 13 2 = 123 from (cA_kind (c := 123) h (by decide)).2 k), hd, if_pos (show nI d < 8 from nI_lt (b := 8) e8 (by omega)), zif_t (zin_nI e8 (by omega)), nI_clamp (by omega), zu_row (show (15 : Nat) ≠ 16 by decide), hd, nI_1, g1]
      rfl
    · rw [g3 a b n1]
      by_cases e : a = 15
      · rw [e, zu_col (by omega), zu_row (by decide)]
      · rw [zu_row e]
        by_cases e2 : a = 16
        · rw [e2, zu_col (by omega)]
        · rw [zu_row e2]
