/-! A SUM, on both sides -/
def rQ (J : zPI) (hh c : Nat) : Prop := J 48 14 = nI hh ∧ hh < 2 ∧ J 48 15 = nI c
theorem em_r {J : zPI} {hh c : Nat} (h : rQ J hh c) (hc : c < 2200) (p1 p2 p3 : Int32) : ∃ J', fX9_emit J p1 p2 p3 = some (nI (2200 * hh + c), J') ∧ rQ J' hh (c + 1) ∧ J' 54 (2200 * hh + c) = p1 ∧ J' 55 (2200 * hh + c) = p2 ∧ J' 56 (2200 * hh + c) = p3 ∧ (∀ a b, ¬ (a = 48 ∧ b = 15) → ¬ ((a = 54 ∨ a = 55 ∨ a = 56) ∧ b = 2200 * hh + c) → J' a b = J a b) := by
  obtain ⟨h1, h2, h3⟩ := h
  have e : (2200 : Int32) * J 48 14 + J 48 15 = nI (2200 * hh + c) := by rw [h1, h3, show (2200 : Int32) = nI 2200 from rfl, pk_mul, nI_add]
  have hz : zin (nI (2200 * hh + c)) 4400 = true := zin_nI (by omega) (by omega)
  refine ⟨zu (zu (zu (zu J 54 (2200 * hh + c) p1) 55 (2200 * hh + c) p2) 56 (2200 * hh + c) p3) 48 15 (nI (c + 1)), ?_, ?_, ?_, ?_, ?_, ?_⟩
  · rw [fX9_emit, e]
    simp only [hz, if_true]
    rw [nI_clamp (by omega), zu_row (show (48 : Nat) ≠ 56 by decide), zu_row (show (48 : Nat) ≠ 55 by decide), zu_row (show (48 : Nat) ≠ 54 by decide), h3, nI_1]
  · refine ⟨?_, h2, zu_same⟩
    rw [zu_col (by decide), zu_row (by decide), zu_row (by decide), zu_row (by decide)]
    exact h1
  · rw [zu_row (by decide), zu_row (by decide), zu_row (by decide), zu_same]
  · rw [zu_row (by decide), zu_row (by decide), zu_same]
  · rw [zu_row (by decide), zu_same]
  · intro a b n1 n2
    by_cases e1 : a = 48
    · rw [zu_col (by omega), zu_row (by omega), zu_row (by omega), zu_row (by omega)]
    rw [zu_row e1]
    by_cases e2 : b = 2200 * hh + c
    · rw [zu_row (by omega), zu_row (by omega), zu_row (by omega)]
    · rw [zu_col e2, zu_col e2, zu_col e2]
theorem rTb_cong {J J' : zPI} {L : zPL} {ch : Nat → Nat} {t n : Nat} (h : rTb J L ch t n) (e1 : ∀ b, J' 50 b = J 50 b) (e2 : ∀ b, J' 51 b = J 51 b) : rTb J' L ch t n := fun j hj => by rw [e1, e2]; exact h j hj
theorem rA_to {J J' : zPI} {L : zPL} {ch : Nat → Nat} {t N j j' : Nat} (h : rA J L ch t N j) (e1 : ∀ b, J' 50 b = J 50 b) (e2 : ∀ b, J' 51 b = J 51 b) (e3 : J' 48 8 = J 48 8) (e4 : J' 48 7 = nI j') (hj : j' ≤ N) : rA J' L ch t N j' := ⟨⟨rTb_cong h.1.1 e1 e2, h.1.2⟩, e4, by rw [e3]; exact h.2.2.1, hj⟩
theorem rA_lt {J : zPI} {L : zPL} {ch : Nat → Nat} {t N j : Nat} (h : rA J L ch t N j) (hk : kd ch t j ≠ 0) : j < N := by
  have h1 := h.2.2.2
  have h2 := h.1.2.2.2
  by_cases e : j = N
  · rw [e] at hk; exact absurd h2 hk
  · omega
/-- all but what the reading of a text writes, from code lo on -/
def rFr (J J' : zPI) (lo hi : Nat) : Prop := ∀ a b, ¬ (a = 48 ∧ (b = 7 ∨ b = 8 ∨ b = 15 ∨ b = 17)) → a ≠ 57 → ¬ ((a = 54 ∨ a = 55 ∨ a = 56) ∧ lo ≤ b ∧ b < hi) → J' a b = J a b
theorem rFr_refl (J : zPI) (lo hi : Nat) : rFr J J lo hi := fun _ _ _ _ _ => rfl
theorem rFr_trans {J J' J'' : zPI} {lo lo' hi : Nat} (h1 : rFr J J' lo hi) (h2 : rFr J' J'' lo' hi) (hl : lo ≤ lo') : rFr J J'' lo hi := fun a b n1 n2 n3 => by rw [h2 a b n1 n2 (by omega), h1 a b n1 n2 n3]
theorem rQ_cong {J J' : zPI} {hh c : Nat} (h : rQ J hh c) (e1 : J' 48 14 = J 48 14) (e2 : J' 48 15 = J 48 15) : rQ J' hh c := ⟨by rw [e1]; exact h.1, h.2.1, by rw [e2]; exact h.2.2⟩
theorem rA_plus {J : zPI} {L : zPL} {ch : Nat → Nat} {t N j : Nat} (h : rA J L ch t N j) (hk : kd ch t j ≠ 0) : rA (zu J 48 7 (J 48 7 + 1)) L ch t N (j + 1) ∧ J 48 7 + 1 = nI (j + 1) := by
  have h9 : J 48 7 + 1 = nI (j + 1) := by rw [h.2.1, nI_1]
  exact ⟨rA_to h (fun b => zu_row (by decide)) (fun b => zu_row (by decide)) (zu_col (by decide)) (by rw [zu_same, h9]) (rA_lt h hk), h9⟩
theorem part_ok {J : zPI} {L : zPL} {ch : Nat → Nat} {t N j hh c : Nat} (h : rA J L ch t N j) (q : rQ J hh c) (hc : c < 2200) (hk : kd ch t j = 3 ∨ prt ch t j < 7) : ∃ J', fX9_part J L = some J' ∧ rA J' L ch t N (j + 1) ∧ rQ J' hh (c + 1) ∧ ((kd ch t j = 3 ∧ J' 54 (2200 * hh + c) = 1 ∧ J' 55 (2200 * hh + c) = nI (vl ch t j)) ∨ (kd ch t j ≠ 3 ∧ J' 54 (2200 * hh + c) = 2 ∧ J' 55 (2200 * hh + c) = nI (prt ch t j))) ∧ (∀ a b, ¬ (a = 48 ∧ (b = 7 ∨ b = 15)) → ¬ ((a = 54 ∨ a = 55 ∨ a = 56) ∧ b = 2200 * hh + c) → J' a b = J a b) := by
  obtain ⟨-, s2, -, s4, s5, s6⟩ := so_r h
  obtain ⟨b1, b2⟩ := prt_b ch t j
  have f3 := (kd_facts ch t j).2.2.1
  have e1 : fX9_part J L = fX9_part_25 L (nI (prt ch t j)) J := by
    rw [fX9_part]
    exact pt_r (K := fun v1 I => fX9_part_25 L v1 I) h 7 0 zF rfl (zF_lt (by omega))
  have h8 : J 48 8 = 0 := h.2.2.1
  have fin : ∀ (s1 s2 : Int32), ∃ J', fX9_part_95 L s1 s2 J = some J' ∧ (kd ch t j ≠ 0 → rA J' L ch t N (j + 1)) ∧ rQ J' hh (c + 1) ∧ J' 54 (2200 * hh + c) = s1 ∧ J' 55 (2200 * hh + c) = s2 ∧ (∀ a b, ¬ (a = 48 ∧ (b = 7 ∨ b = 15)) → ¬ ((a = 54 ∨ a = 55 ∨ a = 56) ∧ b = 2200 * hh + c) → J' a b = J a b) := by
    intro s1 s2
    obtain ⟨J', g1, g2, g3, g4, g5, g6⟩ := em_r q hc s1 s2 0
    refine ⟨zu J' 48 7 (J' 48 7 + 1), by rw [fX9_part_95, g1]; rfl, fun h0 => ?_, rQ_cong g2 (zu_col (by decide)) (zu_col (by decide)), by rw [zu_row (by decide)]; exact g3, by rw [zu_row (by decide)]; exact g4, fun a b n1 n2 => ?_⟩
    · exact (rA_plus (rA_to h (fun b => g6 _ _ (by omega) (by omega)) (fun b => g6 _ _ (by omega) (by omega)) (g6 _ _ (by omega) (by omega)) (by rw [g6 _ _ (by omega) (by omega)]; exact h.2.1) h.2.2.2) h0).1
    · by_cases e9 : a = 48
      · rw [zu_col (by omega), g6 a b (by omega) n2]
      · rw [zu_row e9, g6 a b (by omega) n2]
  rw [e1, fX9_part_25, h8, if_pos rfl, zif_t s4, s5]
  by_cases k : kd ch t j = 3
  · have p7 : prt ch t j = 7 := by omega
    obtain ⟨J', g1, g2, g3, g4, g5, g6⟩ := fin 1 (nI (vl ch t j))
    refine ⟨J', ?_, g2 (by omega), g3, Or.inl ⟨k, g4, g5⟩, g6⟩
    rw [if_pos (s2.2 k), fX9_part_56, h8, if_pos rfl, p7, if_pos (by decide), fX9_part_75, if_pos (by decide), zif_t s4, s5, s6 (by omega), nL_32 (f3 k)]
    exact g1
  · have p7 : prt ch t j < 7 := by omega
    obtain ⟨J', g1, g2, g3, g4, g5, g6⟩ := fin 2 (nI (prt ch t j))
    refine ⟨J', ?_, g2 (by have := b2 p7; omega), g3, Or.inr ⟨k, g4, g5⟩, g6⟩
    rw [if_neg (fun h9 => k (s2.1 h9)), if_neg (show ¬ nI (prt ch t j) = 7 from nI_ne (b := 7) (by omega) (by omega) (by omega)), fX9_part_56, h8, if_pos rfl, if_neg (show ¬ (7 : Int32) ≤ nI (prt ch t j) from nI_ge (b := 7) (by omega) (by omega)), fX9_part_75, if_neg (show ¬ (7 : Int32) ≤ nI (prt ch t j) from nI_ge (b := 7) (by omega) (by omega))]
    exact g1
theorem part_f {J : zPI} {L : zPL} (h : ¬ J 48 8 = 0) : fX9_part J L = some J := by
  rw [fX9_part]
  refine (pt_rf (K := fun v1 I => fX9_part_25 L v1 I) h 7 0 zF rfl (zF_lt (by omega))).trans ?_
  rw [fX9_part_25, if_neg h, fX9_part_56, if_neg h]
theorem part_bad {J : zPI} {L : zPL} {ch : Nat → Nat} {t N j : Nat} (ht : t ≤ 1000) (h : rA J L ch t N j) (k : kd ch t j ≠ 3) (hp : prt ch t j = 7) : fX9_part J L = some (zu J 48 8 (nI (1 + 16 * pl ch t j))) := by
  obtain ⟨-, s2, -, s4, s5, s6⟩ := so_r h
  have hq := pl_le ch t j
  rw [fX9_part]
  refine (pt_r (K := fun v1 I => fX9_part_25 L v1 I) h 7 0 zF rfl (zF_lt (by omega))).trans ?_
  rw [show ptF ch t j 7 0 = 7 from hp, fX9_part_25, h.2.2.1, if_pos rfl, zif_t s4, s5, if_neg (fun h9 => k (s2.1 h9)), if_pos (by decide), show (1 : Int32) = nI 1 from rfl, wr_r h 1]
  simp only [Option.bind_some]
  rw [fX9_part_56, zu_same, if_neg (show ¬ nI (1 + 16 * pl ch t j) = 0 from nI_ne (b := 0) (by omega) (by omega) (by omega))]
/-! the class's weights -/
def cW (I : zPI) (o i : Nat) (W : Nat → Int) : Prop := ∀ p, p < 8 → I (o + 8) (i * 8 + p) = iI (W p)
def wUp (W : Nat → Int) (p : Nat) (x : Int) (q : Nat) : Int := if q = p then W q + x else W q
theorem w8_up (W V : Nat → Int) (x : Int) {p : Nat} (hp : p < 8) : w8 (wUp W p x) V = w8 W V + x * V p := by
  have : p = 0 ∨ p = 1 ∨ p = 2 ∨ p = 3 ∨ p = 4 ∨ p = 5 ∨ p = 6 ∨ p = 7 := by omega
  unfold w8 wUp
  rcases this with rfl | rfl | rfl | rfl | rfl | rfl | rfl | rfl <;> simp <;> rw [Int.add_mul] <;> omega
theorem cs_term {o i j nn fu : Nat} {I : zPI} {ch : Nat → Nat} {t : Nat} {W : Nat → Int} {sg : Int} {v2 : Int32} {K : zPI → Option (Int32 × zPI)} (ho : o = 24 ∨ o = 33) (hi : i < 80) (h : cA I ch t j) (hk : kd ch t j = 3 ∨ prt ch t j < 7) (hW : cW I o i W) (hn : nn ≤ 1000) : ∃ I' W', fX3_readSum_5 o K (fu + 1) (nI i) v2 (iI sg) (nI nn) I = (if (I' 13 2) = 43 then fX3_readSum_92 o (fX3_readSum_5 o K fu) (nI i) v2 (nI nn) I' else (if (I' 13 2) = 45 then fX3_readSum_92 o (fX3_readSum_5 o K fu) (nI i) v2 (nI nn) I' else some (0, I'))) ∧ cA I' ch t (j + 1) ∧ cW I' o i W' ∧ (∀ a b, a ≠ 13 → ¬ (a = o + 8 ∧ i * 8 ≤ b ∧ b < i * 8 + 8) → I' a b = I a b) ∧ (∀ V, V 0 = 1 → w8 W' V = w8 W V + sg * (if kd ch t j = 3 then (vl ch t j : Int) else V (prt ch t j + 1))) := by
  obtain ⟨b1, b2⟩ := prt_b ch t j
  have fin : ∀ (p : Nat) (x : Int), p < 8 → ∃ I', fX3_readSum_56 o (fX3_readSum_5 o K fu) (nI i) v2 (nI nn) (nI i) (nI p) (iI x) I = (if (I' 13 2) = 43 then fX3_readSum_92 o (fX3_readSum_5 o K fu) (nI i) v2 (nI nn) I' else (if (I' 13 2) = 45 then fX3_readSum_92 o (fX3_readSum_5 o K fu) (nI i) v2 (nI nn) I' else some (0, I'))) ∧ cA I' ch t (j + 1) ∧ cW I' o i (wUp W p x) ∧ (∀ a b, a ≠ 13 → ¬ (a = o + 8 ∧ i * 8 ≤ b ∧ b < i * 8 + 8) → I' a b = I a b) := by
    intro p x hp
    have e : nI i * 8 + nI p = nI (i * 8 + p) := by rw [show (8 : Int32) = nI 8 from rfl, pk_mul, nI_add]
    have hz : zin (nI (i * 8 + p)) 640 = true := zin_nI (by omega) (by omega)
    have ew : fX5_weigh o I (nI i) (nI p) (iI x) = some (zu I (o + 8) (i * 8 + p) (iI (W p + x))) := by
      rw [fX5_weigh, e]
      simp only [hz, if_true]
      rw [nI_clamp (by omega), hW p hp, iI_add]
    obtain ⟨I', g1, g2, g3⟩ := cA_adv (cA_cong h (I' := zu I (o + 8) (i * 8 + p) (iI (W p + x))) (fun b => zu_row (by omega)) (fun b => zu_row (by omega)))
    refine ⟨I', ?_, g2, fun q hq => ?_, fun a b n1 n2 => ?_⟩
    · rw [fX3_readSum_56, ew]
      simp only [Option.bind_some]
      rw [g1]
      rfl
    · rw [g3 _ _ (by omega)]
      unfold wUp
      by_cases eq : q = p
      · rw [eq, zu_same, if_pos rfl]
      · rw [zu_col (by omega), if_neg eq]
        exact hW q hq
    · rw [g3 a b n1]
      by_cases e9 : a = o + 8
      · rw [e9, zu_col (by omega)]
      · rw [zu_row e9]
  rw [fX3_readSum_5, if_neg (show ¬ (1000 : Int32) < nI nn from nI_nlt (a := 1000) (by omega) (by omega)), pt_c h]
  simp only [Option.bind_some]
  unfold cpt
  by_cases k : kd ch t j = 3
  · rw [if_pos k, if_neg (by decide), if_pos rfl, h.2.2.2.2 k, ← iI_nat (vl ch t j), iI_mul]
    obtain ⟨I', g1, g2, g3, g4⟩ := fin 0 (sg * (vl ch t j : Int)) (by decide)
    refine ⟨I', _, g1, g2, g3, g4, fun V hV => ?_⟩
    rw [w8_up W V _ (by decide), hV, if_pos k, Int.mul_one]
  · have p7 : prt ch t j < 7 := by omega
    rw [if_neg k, if_neg (show ¬ prt ch t j = 7 by omega)]
    have n1 : ¬ nI (prt ch t j + 1) = -1 := by
      intro h9
      have : (nI (prt ch t j + 1)).toInt = (-1 : Int32).toInt := by rw [h9]
      rw [nI_toInt (by omega)] at this
      have e9 : (-1 : Int32).toInt = -1 := by decide
      omega
    rw [if_neg n1, if_neg (show ¬ nI (prt ch t j + 1) = 0 from nI_ne (b := 0) (by omega) (by omega) (by omega))]
    obtain ⟨I', g1, g2, g3, g4⟩ := fin (prt ch t j + 1) sg (by omega)
    refine ⟨I', _, g1, g2, g3, g4, fun V hV => ?_⟩
    rw [w8_up W V _ (by omega), if_neg k]
theorem cs_bad {o i j nn fu : Nat} {I : zPI} {ch : Nat → Nat} {t : Nat} {v2 v3 : Int32} {K : zPI → Option (Int32 × zPI)} (h : cA I ch t j) (k : kd ch t j ≠ 3) (hp : prt ch t j = 7) (hn : nn ≤ 1000) : fX3_readSum_5 o K (fu + 1) (nI i) v2 v3 (nI nn) I = some (nI (1 + 16 * pl ch t j), I) := by
  rw [fX3_readSum_5, if_neg (show ¬ (1000 : Int32) < nI nn from nI_nlt (a := 1000) (by omega) (by omega)), pt_c h]
  simp only [Option.bind_some]
  unfold cpt
  rw [if_neg k, if_pos hp, if_pos rfl, show (1 : Int32) = nI 1 from rfl, fh_c h 1]
