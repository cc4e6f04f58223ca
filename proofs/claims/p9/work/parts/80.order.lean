/-! AN ORDER: a statement without a block -/
theorem add_62 {o n : Nat} {K : Int32 → zPI → Option (Int32 × zPI)} (hn : n < 80) : ∀ (m fu v : Nat) (I : zPI), v + m = 8 → m < fu → ∃ I', fX5_add_62 o K fu (nI n) (nI v) I = K (nI n) I' ∧ (∀ p, v ≤ p → p < 8 → I' (o + 8) (n * 8 + p) = 0) ∧ (∀ a b, ¬ (a = o + 8 ∧ n * 8 + v ≤ b ∧ b < n * 8 + 8) → I' a b = I a b) := by
  intro m
  induction m with
  | zero =>
    intro fu v I hv hf
    obtain ⟨fu, rfl, -⟩ := zsucc hf
    refine ⟨I, by rw [fX5_add_62, if_pos (show (8 : Int32) ≤ nI v from nI_le (a := 8) (by omega) (by omega))], fun p h1 h2 => by omega, fun _ _ _ => rfl⟩
  | succ m ih =>
    intro fu v I hv hf
    obtain ⟨fu, rfl, hf⟩ := zsucc hf
    obtain ⟨I', h1, h2, h3⟩ := ih fu (v + 1) (zu I (o + 8) (n * 8 + v) 0) (by omega) (by omega)
    refine ⟨I', ?_, fun p q1 q2 => ?_, fun a b h => ?_⟩
    · rw [fX5_add_62, if_neg (show ¬ (8 : Int32) ≤ nI v from nI_ge (b := 8) (by omega) (by omega)), show nI n * 8 + nI v = nI (n * 8 + v) by rw [show (8 : Int32) = nI 8 from rfl, pk_mul, nI_add], zif_t (zin_nI (by omega) (by omega)), nI_clamp (by omega), nI_1]
      exact h1
    · by_cases e : p = v
      · subst e
        rw [h3 _ _ (by omega), zu_same]
      · exact h2 p (by omega) q2
    · rw [h3 a b (by omega)]
      by_cases e : a = o + 8
      · rw [e, zu_col (by omega)]
      · rw [zu_row e]
theorem add_c {o n : Nat} {I : zPI} (hn : n < 80) (h0 : I o 0 = nI n) (p1 p2 : Int32) : ∃ I', fX5_add o I p1 p2 = some (nI n, I') ∧ I' o 0 = nI (n + 1) ∧ I' (o + 1) n = p1 ∧ I' (o + 2) n = 0 ∧ I' (o + 3) n = 0 ∧ I' (o + 4) n = p2 ∧ I' (o + 5) n = -1 ∧ I' (o + 6) n = nI (n + 1) ∧ cW I' o n (fun _ => 0) ∧ (∀ a b, ¬ (a = o ∧ b = 0) → ¬ (o < a ∧ a < o + 7 ∧ b = n) → ¬ (a = o + 8 ∧ n * 8 ≤ b ∧ b < n * 8 + 8) → I' a b = I a b) := by
  have hz : zin (nI n) 80 = true := zin_nI (by omega) (by omega)
  obtain ⟨I', h1, h2, h3⟩ := add_62 (o := o) (K := fun v3 I => some (v3, I)) hn 8 zF 0 (zu (zu (zu (zu (zu (zu (zu I o 0 (nI (n + 1))) (o + 1) n p1) (o + 2) n 0) (o + 3) n 0) (o + 4) n p2) (o + 5) n (-1)) (o + 6) n (nI (n + 1))) rfl (zF_lt (by omega))
  refine ⟨I', ?_, ?_, ?_, ?_, ?_, ?_, ?_, ?_, fun p hp => ?_, fun a b n1 n2 n3 => ?_⟩
  · rw [fX5_add, h0]
    simp only [hz, if_true]
    rw [nI_clamp (by omega), nI_1]
    exact h1
  · rw [h3 _ _ (by omega), zu_row (by omega), zu_row (by omega), zu_row (by omega), zu_row (by omega), zu_row (by omega), zu_row (by omega), zu_same]
  · rw [h3 _ _ (by omega), zu_row (by omega), zu_row (by omega), zu_row (by omega), zu_row (by omega), zu_row (by omega), zu_same]
  · rw [h3 _ _ (by omega), zu_row (by omega), zu_row (by omega), zu_row (by omega), zu_row (by omega), zu_same]
  · rw [h3 _ _ (by omega), zu_row (by omega), zu_row (by omega), zu_row (by omega), zu_same]
  · rw [h3 _ _ (by omega), zu_row (by omega), zu_row (by omega), zu_same]
  · rw [h3 _ _ (by omega), zu_row (by omega), zu_same]
  · rw [h3 _ _ (by omega), zu_same]
  · rw [h2 p (by omega) hp]
    rfl
  · rw [h3 a b (by omega)]
    by_cases e : b = n
    · by_cases e0 : a = o
      · rw [zu_row (by omega), zu_row (by omega), zu_row (by omega), zu_row (by omega), zu_row (by omega), zu_row (by omega), e0, zu_col (by omega)]
      · rw [zu_row (by omega), zu_row (by omega), zu_row (by omega), zu_row (by omega), zu_row (by omega), zu_row (by omega), zu_row e0]
    · rw [zu_col e, zu_col e, zu_col e, zu_col e, zu_col e, zu_col e]
      by_cases e0 : a = o
      · rw [e0, zu_col (by omega)]
      · rw [zu_row e0]
theorem ts_r {J : zPI} {L : zPL} {ch : Nat → Nat} {t N j c : Nat} (h : rA J L ch t N j) (hc : 3 < c ∧ c < 200) : fX9_takeSign J L (nI c) = if kd ch t j = c then some (zu J 48 7 (nI (j + 1))) else some (zu J 48 8 (nI (1 + 16 * pl ch t j))) := by
  rw [fX9_takeSign, sg_r h hc]
  simp only [Option.bind_some, bt]
  by_cases k : kd ch t j = c
  · rw [if_pos k, if_pos k, h.2.1, nI_1]
  · rw [if_neg k, if_neg k, show (1 : Int32) = nI 1 from rfl, wr_r h 1]
    rfl
theorem rs_c {o : Nat} {I : zPI} {ch : Nat → Nat} {t j c : Nat} (h : cA I ch t j) (hc : c < 200) : (kd ch t j = c → ∃ I', fX3_readSign o I (nI c) = some (0, I') ∧ cA I' ch t (j + 1) ∧ ∀ a b, a ≠ 13 → I' a b = I a b) ∧ (kd ch t j ≠ c → fX3_readSign o I (nI c) = some (nI (1 + 16 * pl ch t j), I)) := by
  constructor
  · intro k
    obtain ⟨I', h1, h2, h3⟩ := cA_adv h
    exact ⟨I', by rw [fX3_readSign, if_pos ((cA_kind h hc).2 k), h1]; rfl, h2, h3⟩
  · intro k
    rw [fX3_readSign, if_neg (fun h9 => k ((cA_kind h hc).1 h9)), show (1 : Int32) = nI 1 from rfl, fh_c h 1]
def opW (w : Nat) : Int32 := if w < 4 then 7 else if w = 4 then 8 else if w = 5 then 9 else 10
/-- the code of an order -/
theorem ow_r {stm : zPI → Option zPI} {J : zPI} {L : zPL} {hh c w : Nat} {v3 s0 : Int32} (hw : w < 7) (q : rQ J hh c) (hc : c < 2200) : ∃ J', (if 4 ≤ nI w then (if nI w = 4 then fX9_statement_248 stm L v3 8 J else (if nI w = 5 then fX9_statement_248 stm L v3 9 J else fX9_statement_248 stm L v3 10 J)) else (fX9_emit J 7 ((32 * nI w) + v3) s0).bind (fun q21 => some (q21.2))) = some J' ∧ rQ J' hh (c + 1) ∧ J' 54 (2200 * hh + c) = opW w ∧ J' 55 (2200 * hh + c) = (if w < 4 then 32 * nI w + v3 else v3) ∧ J' 56 (2200 * hh + c) = (if w < 4 then s0 else 0) ∧ (∀ a b, ¬ (a = 48 ∧ b = 15) → ¬ ((a = 54 ∨ a = 55 ∨ a = 56) ∧ b = 2200 * hh + c) → J' a b = J a b) := by
  unfold opW
  by_cases w4 : w < 4
  · obtain ⟨J', e1, e2, e3, e4, e5, e6⟩ := em_r q hc 7 (32 * nI w + v3) s0
    refine ⟨J', ?_, e2, by rw [if_pos w4]; exact e3, by rw [if_pos w4]; exact e4, by rw [if_pos w4]; exact e5, e6⟩
    rw [if_neg (show ¬ (4 : Int32) ≤ nI w from nI_ge (b := 4) w4 (by omega)), e1]
    rfl
  · rw [if_neg w4, if_neg w4, if_neg w4, if_pos (show (4 : Int32) ≤ nI w from nI_le (a := 4) (by omega) (by omega))]
    have : w = 4 ∨ w = 5 ∨ w = 6 := by omega
    rcases this with rfl | rfl | rfl
    · obtain ⟨J', e1, e2, e3, e4, e5, e6⟩ := em_r q hc 8 v3 0
      refine ⟨J', ?_, e2, e3, e4, e5, e6⟩
      rw [if_pos (show nI 4 = (4 : Int32) from rfl), fX9_statement_248, e1]
      rfl
    · obtain ⟨J', e1, e2, e3, e4, e5, e6⟩ := em_r q hc 9 v3 0
      refine ⟨J', ?_, e2, e3, e4, e5, e6⟩
      rw [if_neg (show ¬ nI 5 = (4 : Int32) by decide), if_pos (show nI 5 = (5 : Int32) from rfl), fX9_statement_248, e1]
      rfl
    · obtain ⟨J', e1, e2, e3, e4, e5, e6⟩ := em_r q hc 10 v3 0
      refine ⟨J', ?_, e2, e3, e4, e5, e6⟩
      rw [if_neg (show ¬ nI 6 = (4 : Int32) by decide), if_neg (show ¬ nI 6 = (5 : Int32) by decide), fX9_statement_248, e1]
      rfl
def loO (w : Nat) : Nat := if w = 6 then 1 else 0
def hiO (w : Nat) : Nat := if w < 2 then 8 else if w = 2 then 2 else if w = 3 then 17 else if w = 4 then 31 else if w = 5 then 2 else 999
theorem hi_c (o : Nat) : ∀ w, w < 7 → fX3_highestOf o (nI w) = nI (hiO w) := by
  intro w hw
  have : w = 0 ∨ w = 1 ∨ w = 2 ∨ w = 3 ∨ w = 4 ∨ w = 5 ∨ w = 6 := by omega
  rcases this with rfl | rfl | rfl | rfl | rfl | rfl | rfl <;> rfl
theorem hi_r {stm : zPI → Option zPI} {L : zPL} {J : zPI} {s1 : Int32} : ∀ w, w < 7 → fX9_statement_128 stm L (nI w) s1 J = fX9_statement_175 stm L (nI w) s1 (nI (hiO w)) J := by
  intro w hw
  have : w = 0 ∨ w = 1 ∨ w = 2 ∨ w = 3 ∨ w = 4 ∨ w = 5 ∨ w = 6 := by omega
  rcases this with rfl | rfl | rfl | rfl | rfl | rfl | rfl <;> rfl
theorem hiO_lt (w : Nat) : hiO w < 1000 ∧ loO w < 1000 := by
  unfold hiO loO
  refine ⟨?_, ?_⟩
  · split
    · omega
    split
    · omega
    split
    · omega
    split
    · omega
    split <;> omega
  · split <;> omega
