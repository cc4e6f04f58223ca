/-! A BLOCK OF THE REFERENCE -/
theorem zu48 {J : zPI} {k : Nat} {x : Int32} {a b : Nat} (h : ¬ (a = 48 ∧ b = k)) : zu J 48 k x a b = J a b := by
  by_cases e : a = 48
  · rw [e, zu_col (by omega)]
  · rw [zu_row e]
theorem b62_f {stm : zPI → Option zPI} {L : zPL} {J : zPI} (h : ¬ J 48 8 = 0) : ∃ J', fX9_block_62 stm L J = some J' ∧ (∀ a b, ¬ (a = 48 ∧ b = 17) → J' a b = J a b) := by
  refine ⟨zu J 48 17 (J 48 17 - 1), ?_, fun a b n1 => zu48 n1⟩
  rw [fX9_block_62, ts_f h]
  rfl
theorem b62_ok {stm : zPI → Option zPI} {L : zPL} {J : zPI} {ch : Nat → Nat} {t N j d : Nat} (h : rA J L ch t N j) (k : kd ch t j = 125) (hd : J 48 17 = nI (d + 1)) : ∃ J', fX9_block_62 stm L J = some J' ∧ rA J' L ch t N (j + 1) ∧ J' 48 17 = nI d ∧ (∀ a b, ¬ (a = 48 ∧ (b = 7 ∨ b = 17)) → J' a b = J a b) := by
  have e : fX9_takeSign J L 125 = some (zu J 48 7 (nI (j + 1))) := by
    rw [show (125 : Int32) = nI 125 from rfl, ts_r h (by decide), if_pos k]
  have r := rA_plus h (show kd ch t j ≠ 0 by omega)
  refine ⟨zu (zu J 48 7 (nI (j + 1))) 48 17 (nI d), ?_, ?_, zu_same, fun a b n1 => by rw [zu48 (by omega), zu48 (by omega)]⟩
  · rw [fX9_block_62, e]
    simp only [Option.bind_some]
    rw [zu_col (show (17 : Nat) ≠ 7 by decide), hd, show nI (d + 1) - 1 = nI d from pk_sub (a := d + 1) (b := 1) (by omega)]
  · exact rA_to h (fun b => by rw [zu48 (by omega), zu48 (by omega)]) (fun b => by rw [zu48 (by omega), zu48 (by omega)]) (by rw [zu48 (by omega), zu48 (by omega)]) (by rw [zu48 (by omega), zu_same]) r.1.2.2.2
theorem bl_ref {stm : zPI → Option zPI} {L : zPL} {J : zPI} {ch : Nat → Nat} {t N j d : Nat} (ht : t ≤ 1000) (h : rA J L ch t N j) (hd : J 48 17 = nI d) (d8 : d ≤ 8) :
  (kd ch t j = 123 → d < 8 → ∃ J1, fX9_block stm J L = fX9_block_39 stm L (fun I => fX9_block_62 stm L I) zF J1 ∧ rA J1 L ch t N (j + 1) ∧ J1 48 17 = nI (d + 1) ∧ (∀ a b, ¬ (a = 48 ∧ (b = 7 ∨ b = 17)) → J1 a b = J a b)) ∧
  (kd ch t j ≠ 123 → ∃ J', fX9_block stm J L = some J' ∧ J' 48 8 = nI (1 + 16 * pl ch t j) ∧ (∀ a b, ¬ (a = 48 ∧ (b = 8 ∨ b = 17)) → J' a b = J a b)) ∧
  (kd ch t j = 123 → d = 8 → ∃ J', fX9_block stm J L = some J' ∧ J' 48 8 = nI (5 + 16 * pl ch t j) ∧ (∀ a b, ¬ (a = 48 ∧ (b = 8 ∨ b = 17)) → J' a b = J a b)) := by
  have hp := pl_le ch t j
  have e1 : fX9_isSign J L 123 = some (if kd ch t j = 123 then 1 else 0) := sg_r (c := 123) h (by decide)
  have e2 : fX9_takeSign J L 123 = if kd ch t j = 123 then some (zu J 48 7 (nI (j + 1))) else some (zu J 48 8 (nI (1 + 16 * pl ch t j))) := ts_r (c := 123) h (by decide)
  have tail : ∀ J2 : zPI, ¬ J2 48 8 = 0 → ∃ J', fX9_block_39 stm L (fun I => fX9_block_62 stm L I) zF J2 = some J' ∧ (∀ a b, ¬ (a = 48 ∧ b = 17) → J' a b = J2 a b) := fun J2 h2 => by
    obtain ⟨J', a1, a2⟩ := b62_f (stm := stm) (L := L) h2
    refine ⟨J', ?_, a2⟩
    rw [show zF = 99999 + 1 from rfl, b39_f h2]
    exact a1
  have nz : ∀ k, 0 < k → k < 10 → ¬ nI (k + 16 * pl ch t j) = 0 := fun k h1 h2 => nI_ne (b := 0) (by omega) (by omega) (by omega)
  refine ⟨fun k d7 => ?_, fun k => ?_, fun k d7 => ?_⟩
  · have r := rA_plus h (show kd ch t j ≠ 0 by omega)
    refine ⟨zu (zu J 48 7 (nI (j + 1))) 48 17 (nI (d + 1)), ?_, ?_, zu_same, fun a b n1 => by rw [zu48 (by omega), zu48 (by omega)]⟩
    · rw [fX9_block, e1]
      simp only [Option.bind_some, bt]
      rw [if_pos k, hd, if_neg (show ¬ nI d = 8 from nI_ne (b := 8) (by omega) (by omega) (by omega)), fX9_block_23, e2, if_pos k]
      simp only [Option.bind_some]
      rw [zu_col (show (17 : Nat) ≠ 7 by decide), hd, nI_1]
    · exact rA_to h (fun b => by rw [zu48 (by omega), zu48 (by omega)]) (fun b => by rw [zu48 (by omega), zu48 (by omega)]) (by rw [zu48 (by omega), zu48 (by omega)]) (by rw [zu48 (by omega), zu_same]) r.1.2.2.2
  · obtain ⟨J', a1, a2⟩ := tail (zu (zu J 48 8 (nI (1 + 16 * pl ch t j))) 48 17 ((zu J 48 8 (nI (1 + 16 * pl ch t j))) 48 17 + 1)) (by rw [zu48 (by omega), zu_same]; exact nz 1 (by omega) (by omega))
    refine ⟨J', ?_, by rw [a2 _ _ (by omega), zu48 (by omega), zu_same], fun a b n1 => by rw [a2 a b (by omega), zu48 (by omega), zu48 (by omega)]⟩
    rw [fX9_block, e1]
    simp only [Option.bind_some, bt]
    rw [if_neg k, fX9_block_23, e2, if_neg k]
    exact a1
  · obtain ⟨J', a1, a2⟩ := tail (zu (zu J 48 8 (nI (5 + 16 * pl ch t j))) 48 17 ((zu J 48 8 (nI (5 + 16 * pl ch t j))) 48 17 + 1)) (by rw [zu48 (by omega), zu_same]; exact nz 5 (by omega) (by omega))
    refine ⟨J', ?_, by rw [a2 _ _ (by omega), zu48 (by omega), zu_same], fun a b n1 => by rw [a2 a b (by omega), zu48 (by omega), zu48 (by omega)]⟩
    rw [fX9_block, e1]
    simp only [Option.bind_some, bt]
    rw [if_pos k, hd, d7, if_pos (show nI 8 = (8 : Int32) from rfl), show (5 : Int32) = nI 5 from rfl, wr_r h 5]
    simp only [Option.bind_some]
    rw [fX9_block_23, ts_f (show ¬ (zu J 48 8 (nI (5 + 16 * pl ch t j))) 48 8 = 0 by rw [zu_same]; exact nz 5 (by omega) (by omega))]
    exact a1
