/-! VERBS, PARTS, NUMBERS -/
theorem bt {α : Type} {c : Prop} [Decidable c] {A B : α} : (if (if c then (1 : Int32) else 0) = 0 then A else B) = if c then B else A := by
  by_cases h : c
  · rw [if_pos h, if_pos h, if_neg (by decide)]
  · rw [if_neg h, if_neg h, if_pos rfl]
def vrF (ch : Nat → Nat) (t j : Nat) : Nat → Nat → Nat
  | 0, w => w
  | m + 1, w => if w ≠ 8 ∧ isw ch t j w then w else vrF ch t j m (w + 1)
/-- the verb at token j, by the reference's words; 10: none -/
def vrb (ch : Nat → Nat) (t j : Nat) : Nat := vrF ch t j 10 0
theorem vrF_b (ch : Nat → Nat) (t j : Nat) : ∀ m w, w + m = 10 → w ≤ vrF ch t j m w ∧ vrF ch t j m w ≤ 10 ∧ (vrF ch t j m w < 10 → vrF ch t j m w ≠ 8 ∧ isw ch t j (vrF ch t j m w)) := by
  intro m
  induction m with
  | zero => intro w h; rw [vrF]; exact ⟨Nat.le_refl _, by omega, fun h9 => absurd h9 (by omega)⟩
  | succ m ih =>
    intro w h
    rw [vrF]
    by_cases c : w ≠ 8 ∧ isw ch t j w
    · rw [if_pos c]
      exact ⟨Nat.le_refl _, by omega, fun _ => c⟩
    · rw [if_neg c]
      obtain ⟨a1, a2, a3⟩ := ih (w + 1) (by omega)
      exact ⟨by omega, a2, a3⟩
theorem vrb_b (ch : Nat → Nat) (t j : Nat) : vrb ch t j ≤ 10 ∧ vrb ch t j ≠ 8 ∧ (vrb ch t j < 10 → isw ch t j (vrb ch t j)) := by
  obtain ⟨-, a2, a3⟩ := vrF_b ch t j 10 0 rfl
  refine ⟨a2, fun h => ?_, fun h => (a3 h).2⟩
  exact (a3 (by unfold vrb at h; omega)).1 h
theorem vbh_r {stm : zPI → Option zPI} {J : zPI} {L : zPL} {K : Int32 → zPI → Option zPI} {ch : Nat → Nat} {t N j : Nat} (h : rA J L ch t N j) : ∀ (m w fu : Nat), w + m = 10 → m < fu → fX9_statement_2 stm L K fu (nI w) J = K (nI (vrF ch t j m w)) J := by
  intro m
  induction m with
  | zero =>
    intro w fu hw hf
    obtain ⟨fu, rfl, -⟩ := zsucc hf
    rw [fX9_statement_2, if_pos (show (9 : Int32) < nI w from nI_lt (a := 9) (by omega) (by omega)), vrF]
  | succ m ih =>
    intro w fu hw hf
    obtain ⟨fu, rfl, hf⟩ := zsucc hf
    rw [fX9_statement_2, if_neg (show ¬ (9 : Int32) < nI w from nI_nlt (a := 9) (by omega) (by omega)), nI_1, vrF]
    by_cases e : w = 8
    · rw [if_pos (show nI w = 8 by rw [e]; rfl), if_neg (fun h9 => h9.1 e)]
      exact ih (w + 1) fu (by omega) (by omega)
    · rw [if_neg (show ¬ nI w = 8 from nI_ne (b := 8) (by omega) (by omega) e), sp_r h (by omega)]
      simp only [Option.bind_some]
      rw [bt]
      by_cases c : isw ch t j w
      · rw [if_pos c, if_pos ⟨e, c⟩]
      · rw [if_neg c, if_neg (fun h9 => c h9.2)]
        exact ih (w + 1) fu (by omega) (by omega)
/-- the class's verb -/
def cvb (w : Nat) : Int32 := if w = 10 then -1 else if w = 9 then 8 else nI w
theorem vbh_c {o : Nat} {I : zPI} {ch : Nat → Nat} {t j : Nat} (h : cA I ch t j) : fX3_verbHere o I = some (cvb (vrb ch t j)) := by
  have e1 : fX6_spells 1 I = some (if isw ch t j 0 then 1 else 0) := sp_c h (by decide)
  have e2 : fX6_spells 2 I = some (if isw ch t j 1 then 1 else 0) := sp_c h (by decide)
  have e3 : fX6_spells 3 I = some (if isw ch t j 2 then 1 else 0) := sp_c h (by decide)
  have e4 : fX6_spells 4 I = some (if isw ch t j 3 then 1 else 0) := sp_c h (by decide)
  have e5 : fX6_spells 5 I = some (if isw ch t j 4 then 1 else 0) := sp_c h (by decide)
  have e6 : fX6_spells 6 I = some (if isw ch t j 5 then 1 else 0) := sp_c h (by decide)
  have e7 : fX6_spells 7 I = some (if isw ch t j 6 then 1 else 0) := sp_c h (by decide)
  have e8 : fX6_spells 8 I = some (if isw ch t j 7 then 1 else 0) := sp_c h (by decide)
  have e9 : fX6_spells 9 I = some (if isw ch t j 9 then 1 else 0) := sp_c h (by decide)
  have v8 : ∀ m w, vrF ch t j (m + 1) w = if w ≠ 8 ∧ isw ch t j w then w else vrF ch t j m (w + 1) := fun _ _ => rfl
  have vt : ∀ m w, w ≠ 8 → isw ch t j w → vrF ch t j (m + 1) w = w := fun m w h1 h2 => by rw [v8, if_pos ⟨h1, h2⟩]
  have vn : ∀ m w, ¬ isw ch t j w → vrF ch t j (m + 1) w = vrF ch t j m (w + 1) := fun m w h1 => by rw [v8, if_neg (fun h9 => h1 h9.2)]
  rw [fX3_verbHere, e1, e2, e3, e4, e5, e6, e7, e8, e9]
  simp only [Option.bind_some, bt]
  unfold vrb
  by_cases c0 : isw ch t j 0
  · rw [if_pos c0, vt 9 0 (by decide) c0]; rfl
  rw [if_neg c0, vn 9 0 c0]
  by_cases c1 : isw ch t j 1
  · rw [if_pos c1, vt 8 1 (by decide) c1]; rfl
  rw [if_neg c1, vn 8 1 c1]
  by_cases c2 : isw ch t j 2
  · rw [if_pos c2, vt 7 2 (by decide) c2]; rfl
  rw [if_neg c2, vn 7 2 c2]
  by_cases c3 : isw ch t j 3
  · rw [if_pos c3, vt 6 3 (by decide) c3]; rfl
  rw [if_neg c3, vn 6 3 c3]
  by_cases c4 : isw ch t j 4
  · rw [if_pos c4, vt 5 4 (by decide) c4]; rfl
  rw [if_neg c4, vn 5 4 c4]
  by_cases c5 : isw ch t j 5
  · rw [if_pos c5, vt 4 5 (by decide) c5]; rfl
  rw [if_neg c5, vn 4 5 c5]
  by_cases c6 : isw ch t j 6
  · rw [if_pos c6, vt 3 6 (by decide) c6]; rfl
  rw [if_neg c6, vn 3 6 c6]
  by_cases c7 : isw ch t j 7
  · rw [if_pos c7, vt 2 7 (by decide) c7]; rfl
  rw [if_neg c7, vn 2 7 c7]
  rw [show vrF ch t j 2 (7 + 1) = vrF ch t j 1 9 from rfl]
  by_cases c9 : isw ch t j 9
  · rw [if_pos c9, vt 0 9 (by decide) c9]; rfl
  rw [if_neg c9, vn 0 9 c9]
  rfl
def ptF (ch : Nat → Nat) (t j : Nat) : Nat → Nat → Nat
  | 0, w => w
  | m + 1, w => if isw ch t j (10 + w) then w else ptF ch t j m (w + 1)
/-- the PART at token j; 7: none -/
def prt (ch : Nat → Nat) (t j : Nat) : Nat := ptF ch t j 7 0
theorem ptF_b (ch : Nat → Nat) (t j : Nat) : ∀ m w, w + m = 7 → ptF ch t j m w ≤ 7 ∧ (ptF ch t j m w < 7 → kd ch t j = 2) := by
  intro m
  induction m with
  | zero => intro w h; rw [ptF]; exact ⟨by omega, fun h9 => absurd h9 (by omega)⟩
  | succ m ih =>
    intro w h
    rw [ptF]
    by_cases c : isw ch t j (10 + w)
    · rw [if_pos c]
      exact ⟨by omega, fun _ => c.1⟩
    · rw [if_neg c]
      exact ih (w + 1) (by omega)
theorem prt_b (ch : Nat → Nat) (t j : Nat) : prt ch t j ≤ 7 ∧ (prt ch t j < 7 → kd ch t j = 2) := ptF_b ch t j 7 0 rfl
theorem pt_r {J : zPI} {L : zPL} {K : Int32 → zPI → Option zPI} {ch : Nat → Nat} {t N j : Nat} (h : rA J L ch t N j) : ∀ (m w fu : Nat), w + m = 7 → m < fu → fX9_part_2 L K fu (nI w) J = K (nI (ptF ch t j m w)) J := by
  intro m
  induction m with
  | zero =>
    intro w fu hw hf
    obtain ⟨fu, rfl, -⟩ := zsucc hf
    rw [fX9_part_2, if_pos (show (7 : Int32) ≤ nI w from nI_le (a := 7) (by omega) (by omega)), ptF]
  | succ m ih =>
    intro w fu hw hf
    obtain ⟨fu, rfl, hf⟩ := zsucc hf
    rw [fX9_part_2, if_neg (show ¬ (7 : Int32) ≤ nI w from nI_ge (b := 7) (by omega) (by omega)), show (10 : Int32) + nI w = nI (10 + w) from nI_add 10 w, nI_1, ptF, sp_r h (by omega)]
    simp only [Option.bind_some]
    rw [bt]
    by_cases c : isw ch t j (10 + w)
    · rw [if_pos c, if_pos c]
    · rw [if_neg c, if_neg c]
      exact ih (w + 1) fu (by omega) (by omega)
/-- the reference in a fault: nothing more is looked at -/
theorem pt_rf {J : zPI} {L : zPL} {K : Int32 → zPI → Option zPI} (h : ¬ J 48 8 = 0) : ∀ (m w fu : Nat), w + m = 7 → m < fu → fX9_part_2 L K fu (nI w) J = K (nI 7) J := by
  intro m
  induction m with
  | zero =>
    intro w fu hw hf
    obtain ⟨fu, rfl, -⟩ := zsucc hf
    rw [fX9_part_2, if_pos (show (7 : Int32) ≤ nI w from nI_le (a := 7) (by omega) (by omega)), show w = 7 from by omega]
  | succ m ih =>
    intro w fu hw hf
    obtain ⟨fu, rfl, hf⟩ := zsucc hf
    rw [fX9_part_2, if_neg (show ¬ (7 : Int32) ≤ nI w from nI_ge (b := 7) (by omega) (by omega)), nI_1, fX9_isWord, if_neg h]
    simp only [Option.bind_some, if_true]
    exact ih (w + 1) fu (by omega) (by omega)
def cpt (k w : Nat) : Int32 := if k = 3 then 0 else if w = 7 then -1 else nI (w + 1)
theorem pt_c {o : Nat} {I : zPI} {ch : Nat → Nat} {t j : Nat} (h : cA I ch t j) : fX3_partHere o I = some (cpt (kd ch t j) (prt ch t j)) := by
  have e1 : fX6_spells 10 I = some (if isw ch t j 10 then 1 else 0) := sp_c h (by decide)
  have e2 : fX6_spells 11 I = some (if isw ch t j 11 then 1 else 0) := sp_c h (by decide)
  have e3 : fX6_spells 12 I = some (if isw ch t j 12 then 1 else 0) := sp_c h (by decide)
  have e4 : fX6_spells 13 I = some (if isw ch t j 13 then 1 else 0) := sp_c h (by decide)
  have e5 : fX6_spells 14 I = some (if isw ch t j 14 then 1 else 0) := sp_c h (by decide)
  have e6 : fX6_spells 15 I = some (if isw ch t j 15 then 1 else 0) := sp_c h (by decide)
  have e7 : fX6_spells 16 I = some (if isw ch t j 16 then 1 else 0) := sp_c h (by decide)
  have vt : ∀ m w, isw ch t j (10 + w) → ptF ch t j (m + 1) w = w := fun m w h2 => by rw [ptF, if_pos h2]
  have vn : ∀ m w, ¬ isw ch t j (10 + w) → ptF ch t j (m + 1) w = ptF ch t j m (w + 1) := fun m w h1 => by rw [ptF, if_neg h1]
  rw [fX3_partHere, e1, e2, e3, e4, e5, e6, e7]
  simp only [Option.bind_some, bt]
  unfold cpt
  by_cases k : kd ch t j = 3
  · rw [if_pos (show I 13 2 = 3 from (cA_kind (c := 3) h (by decide)).2 k), if_pos k]
  rw [if_neg (show ¬ I 13 2 = 3 from fun h9 => k ((cA_kind (c := 3) h (by decide)).1 h9)), if_neg k]
  unfold prt
  by_cases c0 : isw ch t j 10
  · rw [if_pos c0, vt 6 0 c0]; rfl
  rw [if_neg c0, vn 6 0 c0]
  by_cases c1 : isw ch t j 11
  · rw [if_pos c1, vt 5 1 c1]; rfl
  rw [if_neg c1, vn 5 1 c1]
  by_cases c2 : isw ch t j 12
  · rw [if_pos c2, vt 4 2 c2]; rfl
  rw [if_neg c2, vn 4 2 c2]
  by_cases c3 : isw ch t j 13
  · rw [if_pos c3, vt 3 3 c3]; rfl
  rw [if_neg c3, vn 3 3 c3]
  by_cases c4 : isw ch t j 14
  · rw [if_pos c4, vt 2 4 c4]; rfl
  rw [if_neg c4, vn 2 4 c4]
  by_cases c5 : isw ch t j 15
  · rw [if_pos c5, vt 1 5 c5]; rfl
  rw [if_neg c5, vn 1 5 c5]
  by_cases c6 : isw ch t j 16
  · rw [if_pos c6, vt 0 6 c6]; rfl
  rw [if_neg c6, vn 0 6 c6]
  rfl
/-! numbers -/
def fN (ch : Nat → Nat) (t j lo hi : Nat) : Nat := if kd ch t j = 3 then (if lo ≤ vl ch t j ∧ vl ch t j ≤ hi then 0 else 4 + 16 * pl ch t j) else 1 + 16 * pl ch t j
theorem pl_le (ch : Nat → Nat) (t j : Nat) : pl ch t j ≤ t := (skp_b ch (tps_le ch t j)).2
theorem fh_c {o : Nat} {I : zPI} {ch : Nat → Nat} {t j : Nat} (h : cA I ch t j) (k : Nat) : fX3_faultHere o I (nI k) = nI (k + 16 * pl ch t j) := by
  rw [fX3_faultHere, h.2.2.1, show (16 : Int32) = nI 16 from rfl, pk_mul, nI_add]
theorem nb_c {o : Nat} {I : zPI} {ch : Nat → Nat} {t j lo hi : Nat} (h : cA I ch t j) (h1 : lo < 1000) (h2 : hi < 1000) : fX3_checkNumber o I (nI lo) (nI hi) = nI (fN ch t j lo hi) := by
  have f3 := (kd_facts ch t j).2.2.1
  unfold fX3_checkNumber fN fX3_checkNumber_43 fX3_checkNumber_44
  by_cases k : kd ch t j = 3
  · have f4 := f3 k
    rw [if_pos (show I 13 2 = 3 from (cA_kind (c := 3) h (by decide)).2 k), if_pos k, h.2.2.2.2 k]
    have e4 : fX3_faultHere o I 4 = nI (4 + 16 * pl ch t j) := fh_c h 4
    by_cases b1 : vl ch t j < lo
    · rw [if_pos (nI_lt b1 (by omega)), if_pos rfl, if_neg (by omega), e4]
    · rw [if_neg (nI_nlt (by omega) (by omega))]
      by_cases b2 : hi < vl ch t j
      · rw [if_pos (nI_lt b2 (by omega)), if_pos rfl, if_neg (by omega), e4]
      · rw [if_neg (nI_nlt (by omega) (by omega)), if_neg (by decide), if_pos (by omega)]
        rfl
  · rw [if_neg (show ¬ I 13 2 = 3 from fun h9 => k ((cA_kind (c := 3) h (by decide)).1 h9)), if_neg k]
    exact fh_c h 1
theorem wr_r {J : zPI} {L : zPL} {ch : Nat → Nat} {t N j : Nat} (h : rA J L ch t N j) (k : Nat) : fX9_wrong J (nI k) = some (zu J 48 8 (nI (k + 16 * pl ch t j))) := by
  obtain ⟨-, -, s3, s4, s5, -⟩ := so_r h
  rw [fX9_wrong, h.2.2.1, if_pos rfl, zif_t s4, s5, s3, show (16 : Int32) = nI 16 from rfl, pk_mul, nI_add]
theorem wr_f {J : zPI} (h : ¬ J 48 8 = 0) (p : Int32) : fX9_wrong J p = some J := by rw [fX9_wrong, if_neg h]
theorem sg_f {J : zPI} {L : zPL} (h : ¬ J 48 8 = 0) (p : Int32) : fX9_isSign J L p = some 0 := by rw [fX9_isSign, if_neg h]
theorem ts_f {J : zPI} {L : zPL} (h : ¬ J 48 8 = 0) (p : Int32) : fX9_takeSign J L p = some J := by
  rw [fX9_takeSign, sg_f h]
  simp only [Option.bind_some, if_true]
  rw [wr_f h]
  rfl
theorem lc_lt {a b : Nat} (ha : a < 1000000000) (hb : b < 1000000000) : (lg_cmp (nL a) (nL b) < 0 ↔ a < b) ∧ (lg_cmp (nL a) (nL b) ≤ 0 ↔ a ≤ b) := by
  have h1 := nL_toInt (a := a) (by omega)
  have h2 := nL_toInt (a := b) (by omega)
  unfold lg_cmp
  by_cases c : nL a > nL b
  · rw [if_pos c]
    have : b < a := by
      have := Int64.lt_iff_toInt_lt.1 c
      omega
    exact ⟨⟨fun h => absurd h (by decide), fun h => by omega⟩, ⟨fun h => absurd h (by decide), fun h => by omega⟩⟩
  · rw [if_neg c]
    have h3 : ¬ b < a := fun h9 => c (Int64.lt_iff_toInt_lt.2 (by omega))
    by_cases e : nL a = nL b
    · have e2 := nL_inj (by omega) (by omega) e
      subst e2
      simp
    · have : a ≠ b := fun h9 => e (by rw [h9])
      simp [e]
      omega
theorem nL_32 {v : Nat} (h : v < 100000) : (nL v).toInt32 = nI v := by
  apply Int32.toInt_inj.1
  rw [nI_toInt (by omega), Int64.toInt_toInt32, nL_toInt (by omega), Int.bmod_eq_of_le (by omega) (by omega)]
theorem nb_r {J : zPI} {L : zPL} {ch : Nat → Nat} {t N j lo hi : Nat} (ht : t ≤ 1000) (h : rA J L ch t N j) (h1 : lo < 1000) (h2 : hi < 1000) : fX9_takeNumber J L (nI lo) (nI hi) = if fN ch t j lo hi = 0 then some (nI (vl ch t j), zu J 48 7 (nI (j + 1))) else some (0, zu (zu J 48 8 (nI (fN ch t j lo hi))) 48 7 (nI (j + 1))) := by
  obtain ⟨-, s2, s3, s4, s5, s6⟩ := so_r h
  have f3 := (kd_facts ch t j).2.2.1
  have hp := pl_le ch t j
  have hj : J 48 7 = nI j := h.2.1
  have h8 : J 48 8 = 0 := h.2.2.1
  have hN : j ≤ N ∧ N ≤ 1000 := ⟨h.2.2.2, h.1.2.2.1⟩
  have bad : ∀ f, 0 < f → f < 100000 → fX9_takeNumber_70 L (zu J 48 8 (nI f)) = some (0, zu (zu J 48 8 (nI f)) 48 7 (nI (j + 1))) := fun f f1 f2 => by
    rw [fX9_takeNumber_70, zu_col (show (7 : Nat) ≠ 8 by decide), hj, nI_1, zu_col (show (8 : Nat) ≠ 7 by decide), zu_same, if_neg (show ¬ nI f ≤ 0 from nI_ge (a := 0) f1 (by omega))]
  unfold fX9_takeNumber fN
  rw [h8, if_pos rfl, zif_t s4, s5]
  by_cases k : kd ch t j = 3
  · have f4 := f3 k
    rw [if_pos (s2.2 k), if_pos k, fX9_takeNumber_28, h8, if_pos rfl, zif_t s4, s5, s6 (by omega), nL_of lo h1, nL_of hi h2]
    obtain ⟨l1, -⟩ := lc_lt (a := vl ch t j) (b := lo) (by omega) (by omega)
    obtain ⟨-, l2⟩ := lc_lt (a := vl ch t j) (b := hi) (by omega) (by omega)
    have e4 : fX9_takeNumber_65 L J = some (0, zu (zu J 48 8 (nI (4 + 16 * pl ch t j))) 48 7 (nI (j + 1))) := by
      rw [fX9_takeNumber_65, show (4 : Int32) = nI 4 from rfl, wr_r h 4]
      simp only [Option.bind_some]
      exact bad _ (by omega) (by omega)
    by_cases b1 : vl ch t j < lo
    · rw [if_pos (l1.2 b1), e4]
      rw [if_neg (show ¬ (lo ≤ vl ch t j ∧ vl ch t j ≤ hi) by omega), if_neg (by omega)]
    · rw [if_neg (fun h9 => b1 (l1.1 h9)), zif_t s4]
      by_cases b2 : vl ch t j ≤ hi
      · rw [if_pos (l2.2 b2), if_pos (show lo ≤ vl ch t j ∧ vl ch t j ≤ hi by omega), if_pos rfl, fX9_takeNumber_70, hj, nI_1, zu_col (show (8 : Nat) ≠ 7 by decide), h8, if_pos (by decide), zu_same, show nI (j + 1) - 1 = nI j from pk_sub (a := j + 1) (b := 1) (by omega), zif_t (zin_nI (by omega) (by omega)), nI_clamp (by omega), s6 (by omega), nL_32 f4]
      · rw [if_neg (fun h9 => b2 (l2.1 h9)), e4]
        rw [if_neg (show ¬ (lo ≤ vl ch t j ∧ vl ch t j ≤ hi) by omega), if_neg (by omega)]
  · rw [if_neg (fun h9 => k (s2.1 h9)), if_neg k, show (1 : Int32) = nI 1 from rfl, wr_r h 1]
    simp only [Option.bind_some]
    rw [bad _ (by omega) (by omega), if_neg (by omega)]
theorem nb_f {J : zPI} {L : zPL} {f : Nat} (h : J 48 8 = nI f) (f1 : 0 < f) (f2 : f < 100000) (p1 p2 : Int32) : fX9_takeNumber J L p1 p2 = some (0, zu J 48 7 (J 48 7 + 1)) := by
  have h0 : ¬ J 48 8 = 0 := by rw [h]; exact nI_ne (b := 0) (by omega) (by omega) (by omega)
  rw [fX9_takeNumber, if_neg h0, fX9_takeNumber_28, if_neg h0, fX9_takeNumber_70, zu_col (show (8 : Nat) ≠ 7 by decide), h, if_neg (show ¬ nI f ≤ 0 from nI_ge (a := 0) f1 (by omega))]
