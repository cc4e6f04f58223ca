/-! THE LOOP OF THE CLASS, THE HEAD OF A STATEMENT -/
def CR (o : Nat) (I : zPI) (j : Nat) (I' : zPI) (j' : Nat) : Prop := ∀ (K : Int32 → zPI → Option (Int32 × zPI)) (fu v3 : Nat), v3 ≤ j → 1100 ≤ fu + v3 → ∃ fu' v3', v3' ≤ j' ∧ 1100 ≤ fu' + v3' ∧ fX3_read_29 o K fu 0 (nI v3) I = fX3_read_29 o K fu' 0 (nI v3') I'
def CF (o : Nat) (I : zPI) (j f : Nat) (I' : zPI) : Prop := ∀ (K : Int32 → zPI → Option (Int32 × zPI)) (fu v3 : Nat), v3 ≤ j → 1100 ≤ fu + v3 → fX3_read_29 o K fu 0 (nI v3) I = K (nI f) I'
theorem CR_refl (o : Nat) (I : zPI) (j : Nat) : CR o I j I j := fun _ fu v3 h1 h2 => ⟨fu, v3, h1, h2, rfl⟩
theorem CR_trans {o j j' j'' : Nat} {I I' I'' : zPI} (h1 : CR o I j I' j') (h2 : CR o I' j' I'' j'') : CR o I j I'' j'' := fun K fu v3 a b => by
  obtain ⟨fu', v3', a', b', e⟩ := h1 K fu v3 a b
  obtain ⟨fu'', v3'', a'', b'', e'⟩ := h2 K fu' v3' a' b'
  exact ⟨fu'', v3'', a'', b'', e.trans e'⟩
theorem CR_CF {o j j' f : Nat} {I I' I'' : zPI} (h1 : CR o I j I' j') (h2 : CF o I' j' f I'') : CF o I j f I'' := fun K fu v3 a b => by
  obtain ⟨fu', v3', a', b', e⟩ := h1 K fu v3 a b
  exact e.trans (h2 K fu' v3' a' b')
theorem rd_end {o f v : Nat} {K : Int32 → zPI → Option (Int32 × zPI)} {fu : Nat} {I : zPI} (f0 : 0 < f) (f1 : f < 20000) : fX3_read_29 o K (fu + 1) (nI f) (nI v) I = K (nI f) I := by
  rw [fX3_read_29]
  by_cases h : (1000 : Int32) < nI v
  · rw [if_pos h]
  · rw [if_neg h, if_neg (show ¬ nI f = 0 from nI_ne (b := 0) (by omega) (by omega) (by omega))]
/-- a turn that reads a statement -/
theorem rd_st {o j d v t fu : Nat} {ch : Nat → Nat} {I : zPI} {K : Int32 → zPI → Option (Int32 × zPI)} (h : cA I ch t j) (hd : I 15 2 = nI d) (d8 : d ≤ 8) (h1 : kd ch t j ≠ 0 ∨ 0 < d) (h2 : kd ch t j ≠ 125 ∨ d = 0) (hv : v ≤ 1000) : fX3_read_29 o K (fu + 1) 0 (nI v) I = (fX3_readStatement o I).bind (fun q5 => fX3_read_29 o K fu q5.1 (nI (v + 1)) q5.2) := by
  have ov : fX3_isOver o I = 0 := by
    rw [fX3_isOver]
    by_cases k : kd ch t j = 0
    · rw [if_pos (show I 13 2 = 0 from (cA_kind (c := 0) h (by decide)).2 k), hd, if_neg (show ¬ nI d = 0 from nI_ne (b := 0) (by omega) (by omega) (by omega))]
    · rw [if_neg (show ¬ I 13 2 = 0 from fun h9 => k ((cA_kind (c := 0) h (by decide)).1 h9))]
  rw [fX3_read_29, if_neg (show ¬ (1000 : Int32) < nI v from nI_nlt (a := 1000) (by omega) (by omega)), if_pos rfl, ov, if_pos rfl]
  by_cases k : kd ch t j = 125
  · have d0 : d = 0 := by omega
    rw [if_pos (show I 13 2 = 125 from (cA_kind (c := 125) h (by decide)).2 k), hd, d0, if_pos (by decide), fX3_read_73, nI_1]
  · rw [if_neg (show ¬ I 13 2 = 125 from fun h9 => k ((cA_kind (c := 125) h (by decide)).1 h9)), fX3_read_73, nI_1]
/-- a turn that closes a block -/
theorem rd_cl {o j d v t fu : Nat} {ch : Nat → Nat} {I : zPI} {K : Int32 → zPI → Option (Int32 × zPI)} (h : cA I ch t j) (hd : I 15 2 = nI d) (d8 : d ≤ 8) (h1 : 0 < d) (h2 : kd ch t j = 125) (hv : v ≤ 1000) : fX3_read_29 o K (fu + 1) 0 (nI v) I = (fX3_readClosing o I).bind (fun q5 => fX3_read_29 o K fu q5.1 (nI (v + 1)) q5.2) := by
  have ov : fX3_isOver o I = 0 := by
    rw [fX3_isOver, if_neg (show ¬ I 13 2 = 0 from fun h9 => by have := (cA_kind (c := 0) h (by decide)).1 h9; omega)]
  rw [fX3_read_29, if_neg (show ¬ (1000 : Int32) < nI v from nI_nlt (a := 1000) (by omega) (by omega)), if_pos rfl, ov, if_pos rfl, if_pos (show I 13 2 = 125 from (cA_kind (c := 125) h (by decide)).2 h2), hd, if_neg (show ¬ nI d ≤ 0 from nI_ge (a := 0) h1 (by omega)), nI_1]
theorem CR_st {o j j' d t : Nat} {ch : Nat → Nat} {I I' : zPI} (h : cA I ch t j) (hj : j ≤ 1000) (hd : I 15 2 = nI d) (d8 : d ≤ 8) (h1 : kd ch t j ≠ 0 ∨ 0 < d) (h2 : kd ch t j ≠ 125 ∨ d = 0) (e : fX3_readStatement o I = some (0, I')) (hl : j < j') : CR o I j I' j' := fun K fu v3 a b => by
  obtain ⟨fu, rfl, -⟩ := zsucc (show 0 < fu by omega)
  refine ⟨fu, v3 + 1, by omega, by omega, ?_⟩
  rw [rd_st h hd d8 h1 h2 (by omega), e]
  rfl
theorem CF_st {o j d t f : Nat} {ch : Nat → Nat} {I I' : zPI} (h : cA I ch t j) (hj : j ≤ 1000) (hd : I 15 2 = nI d) (d8 : d ≤ 8) (h1 : kd ch t j ≠ 0 ∨ 0 < d) (h2 : kd ch t j ≠ 125 ∨ d = 0) (e : fX3_readStatement o I = some (nI f, I')) (f0 : 0 < f) (f1 : f < 20000) : CF o I j f I' := fun K fu v3 a b => by
  obtain ⟨fu, rfl, -⟩ := zsucc (show 0 < fu by omega)
  obtain ⟨fu, rfl, -⟩ := zsucc (show 0 < fu by omega)
  rw [rd_st h hd d8 h1 h2 (by omega), e]
  exact rd_end f0 f1
theorem CR_cl {o j j' d t : Nat} {ch : Nat → Nat} {I I' : zPI} (h : cA I ch t j) (hj : j ≤ 1000) (hd : I 15 2 = nI d) (d8 : d ≤ 8) (h1 : 0 < d) (h2 : kd ch t j = 125) (e : fX3_readClosing o I = some (0, I')) (hl : j < j') : CR o I j I' j' := fun K fu v3 a b => by
  obtain ⟨fu, rfl, -⟩ := zsucc (show 0 < fu by omega)
  refine ⟨fu, v3 + 1, by omega, by omega, ?_⟩
  rw [rd_cl h hd d8 h1 h2 (by omega), e]
  rfl
theorem CF_cl {o j d t f : Nat} {ch : Nat → Nat} {I I' : zPI} (h : cA I ch t j) (hj : j ≤ 1000) (hd : I 15 2 = nI d) (d8 : d ≤ 8) (h1 : 0 < d) (h2 : kd ch t j = 125) (e : fX3_readClosing o I = some (nI f, I')) (f0 : 0 < f) (f1 : f < 20000) : CF o I j f I' := fun K fu v3 a b => by
  obtain ⟨fu, rfl, -⟩ := zsucc (show 0 < fu by omega)
  obtain ⟨fu, rfl, -⟩ := zsucc (show 0 < fu by omega)
  rw [rd_cl h hd d8 h1 h2 (by omega), e]
  exact rd_end f0 f1
def mAt (I J : zPI) (L : zPL) (ch : Nat → Nat) (t N o hh d j n c : Nat) : Prop := cA I ch t j ∧ rA J L ch t N j ∧ rQ J hh c ∧ c ≤ j ∧ (I o 0 = nI n ∧ n ≤ 80 ∧ J 57 hh = nI n) ∧ (I 15 2 = nI d ∧ J 48 17 = nI d ∧ d ≤ 8)
def par (I : zPI) (d : Nat) : Int32 := if d = 0 then -1 else I 16 (d - 1)
theorem st_class {o t j n d : Nat} {ch : Nat → Nat} {I : zPI} (ho : o = 24 ∨ o = 33) (hI : cA I ch t j) (h0 : I o 0 = nI n) (n80 : n ≤ 80) (hd : I 15 2 = nI d) (d8 : d ≤ 8) :
  (vrb ch t j = 10 → fX3_readStatement o I = some (nI (1 + 16 * pl ch t j), I)) ∧
  (vrb ch t j ≠ 10 → n = 80 → fX3_readStatement o I = some (nI (5 + 16 * pl ch t j), I)) ∧
  (vrb ch t j ≠ 10 → n < 80 → ∃ I1, cA I1 ch t (j + 1) ∧ fX3_readStatement o I = (if vrb ch t j = 7 ∨ vrb ch t j = 9 then fX3_readCondition o I1 (nI n) else fX3_readOrder o I1 (nI n) (nI (vrb ch t j))) ∧ I1 o 0 = nI (n + 1) ∧ I1 (o + 1) n = cvb (vrb ch t j) ∧ I1 (o + 2) n = 0 ∧ I1 (o + 3) n = 0 ∧ I1 (o + 4) n = par I d ∧ I1 (o + 5) n = -1 ∧ I1 (o + 6) n = nI (n + 1) ∧ cW I1 o n (fun _ => 0) ∧ (∀ a b, a ≠ 13 → ¬ (a = o ∧ b = 0) → ¬ (o < a ∧ a < o + 7 ∧ b = n) → ¬ (a = o + 8 ∧ n * 8 ≤ b ∧ b < n * 8 + 8) → I1 a b = I a b)) := by
  obtain ⟨w1, w2, w3⟩ := vrb_b ch t j
  have ne : vrb ch t j ≠ 10 → ¬ cvb (vrb ch t j) = -1 := fun h => by
    unfold cvb
    rw [if_neg h]
    by_cases h9 : vrb ch t j = 9
    · rw [if_pos h9]; decide
    · rw [if_neg h9]
      intro h8
      have : (nI (vrb ch t j)).toInt = (-1 : Int32).toInt := by rw [h8]
      rw [nI_toInt (by omega)] at this
      have e9 : (-1 : Int32).toInt = -1 := by decide
      omega
  refine ⟨fun h => ?_, fun h hn => ?_, fun h hn => ?_⟩
  · rw [fX3_readStatement, vbh_c hI]
    simp only [Option.bind_some]
    rw [h, if_pos (show cvb 10 = -1 from rfl), show (1 : Int32) = nI 1 from rfl, fh_c hI 1]
  · rw [fX3_readStatement, vbh_c hI]
    simp only [Option.bind_some]
    rw [if_neg (ne h), h0, if_neg (show ¬ nI n < 80 from nI_nlt (b := 80) (by omega) (by omega)), show (5 : Int32) = nI 5 from rfl, fh_c hI 5]
  · obtain ⟨I0, a1, a2, a3, a4, a5, a6, a7, a8, a9, a10⟩ := add_c (o := o) hn h0 (cvb (vrb ch t j)) (par I d)
    obtain ⟨I1, g1, g2, g3⟩ := cA_adv (cA_cong hI (I' := I0) (fun b => a10 _ _ (by omega) (by omega) (by omega)) (fun b => a10 _ _ (by omega) (by omega) (by omega)))
    refine ⟨I1, g2, ?_, by rw [g3 _ _ (by omega)]; exact a2, by rw [g3 _ _ (by omega)]; exact a3, by rw [g3 _ _ (by omega)]; exact a4, by rw [g3 _ _ (by omega)]; exact a5, by rw [g3 _ _ (by omega)]; exact a6, by rw [g3 _ _ (by omega)]; exact a7, by rw [g3 _ _ (by omega)]; exact a8, fun p hp => by rw [g3 _ _ (by omega)]; exact a9 p hp, fun a b n1 n2 n3 n4 => by rw [g3 a b n1, a10 a b n2 n3 n4]⟩
    have e61 : fX3_readStatement o I = fX3_readStatement_61 o (cvb (vrb ch t j)) (cvb (vrb ch t j)) (par I d) I := by
      rw [fX3_readStatement, vbh_c hI]
      simp only [Option.bind_some]
      rw [if_neg (ne h), h0, if_pos (show nI n < 80 from nI_lt (b := 80) hn (by omega)), hd]
      unfold par
      by_cases d0 : d = 0
      · rw [d0, if_pos (by decide), if_pos rfl]
      · rw [if_neg (show ¬ nI d ≤ 0 from nI_ge (a := 0) (by omega) (by omega)), if_neg d0, show nI d - 1 = nI (d - 1) from pk_sub (a := d) (b := 1) (by omega), zif_t (zin_nI (by omega) (by omega)), nI_clamp (by omega)]
    rw [e61, fX3_readStatement_61, a1]
    simp only [Option.bind_some]
    rw [g1]
    simp only [Option.bind_some]
    by_cases k7 : vrb ch t j = 7
    · rw [k7, if_pos (show cvb 7 = 7 from rfl), if_pos (Or.inl rfl), fX3_readStatement_84]
      cases fX3_readCondition o I1 (nI n) <;> rfl
    by_cases k9 : vrb ch t j = 9
    · rw [k9, if_neg (show ¬ cvb 9 = 7 by decide), if_pos (show cvb 9 = 8 from rfl), if_pos (Or.inr rfl), fX3_readStatement_84]
      cases fX3_readCondition o I1 (nI n) <;> rfl
    have ev : cvb (vrb ch t j) = nI (vrb ch t j) := by
      unfold cvb
      rw [if_neg h, if_neg k9]
    rw [ev, if_neg (show ¬ nI (vrb ch t j) = 7 from nI_ne (b := 7) (by omega) (by omega) k7), if_neg (show ¬ nI (vrb ch t j) = 8 from nI_ne (b := 8) (by omega) (by omega) w2), if_neg (show ¬ (vrb ch t j = 7 ∨ vrb ch t j = 9) by omega)]
    cases fX3_readOrder o I1 (nI n) (nI (vrb ch t j)) <;> rfl
theorem st_ref {stm : zPI → Option zPI} {t N j n hh c : Nat} {ch : Nat → Nat} {J : zPI} {L : zPL} (ht : t ≤ 1000) (hJ : rA J L ch t N j) (q : rQ J hh c) (h0 : J 57 hh = nI n) (n80 : n ≤ 80) :
  (vrb ch t j = 10 → fX9_statement stm J L = some (zu J 48 8 (nI (1 + 16 * pl ch t j)))) ∧
  (vrb ch t j ≠ 10 → n = 80 → fX9_statement stm J L = some (zu J 48 8 (nI (5 + 16 * pl ch t j)))) ∧
  (vrb ch t j ≠ 10 → n < 80 → ∃ J1, rA J1 L ch t N (j + 1) ∧ rQ J1 hh c ∧ J1 57 hh = nI (n + 1) ∧ (∀ a b, ¬ (a = 48 ∧ b = 7) → ¬ (a = 57 ∧ b = hh) → J1 a b = J a b) ∧ fX9_statement stm J L = (if vrb ch t j = 7 ∨ vrb ch t j = 9 then fX9_choice stm J1 L (nI (vrb ch t j)) (nI (2200 * hh + c)) else fX9_statement_128 stm L (nI (vrb ch t j)) (nI (loO (vrb ch t j))) J1)) := by
  obtain ⟨w1, w2, w3⟩ := vrb_b ch t j
  have hp := pl_le ch t j
  have e2 : fX9_statement stm J L = fX9_statement_28 stm L (nI (vrb ch t j)) J := by
    rw [fX9_statement]
    exact vbh_r (K := fun v1 I => fX9_statement_28 stm L v1 I) hJ 10 0 zF rfl (zF_lt (by omega))
  have hz : zin (J 48 14) 2 = true := by rw [q.1]; exact zin_nI q.2.1 (by have := q.2.1; omega)
  have h2 := q.2.1
  have hcl : (J 48 14).toNatClampNeg = hh := by rw [q.1]; exact nI_clamp (by omega)
  have bad : ∀ k v1, 0 < k → k < 10 → fX9_statement_61 stm L v1 (zu J 48 8 (nI (k + 16 * pl ch t j))) = some (zu J 48 8 (nI (k + 16 * pl ch t j))) := fun k v1 k1 k2 => by
    rw [fX9_statement_61, zu_same, if_neg (show ¬ nI (k + 16 * pl ch t j) ≤ 0 from nI_ge (a := 0) (by omega) (by omega))]
  refine ⟨fun h => ?_, fun h hn => ?_, fun h hn => ?_⟩
  · rw [e2, fX9_statement_28, h, if_neg (show ¬ nI 10 ≤ 9 by decide), show (1 : Int32) = nI 1 from rfl, wr_r hJ 1]
    simp only [Option.bind_some]
    exact bad 1 _ (by omega) (by omega)
  · rw [e2, fX9_statement_28, if_pos (show nI (vrb ch t j) ≤ 9 from nI_le (b := 9) (by omega) (by omega)), zif_t hz, hcl, h0, hn, if_pos (show nI 80 = (80 : Int32) from rfl), show (5 : Int32) = nI 5 from rfl, wr_r hJ 5]
    simp only [Option.bind_some]
    exact bad 5 _ (by omega) (by omega)
  · have k0 : kd ch t j ≠ 0 := by
      have := (w3 (by omega)).1
      omega
    have r1 := (rA_plus hJ k0)
    refine ⟨zu (zu J 57 hh (nI (n + 1))) 48 7 (nI (j + 1)), ?_, ?_, ?_, ?_, ?_⟩
    · exact rA_to hJ (fun b => by rw [zu_row (by decide), zu_row (by decide)]) (fun b => by rw [zu_row (by decide), zu_row (by decide)]) (by rw [zu_col (by decide), zu_row (by decide)]) zu_same (rA_lt hJ k0)
    · exact rQ_cong q (by rw [zu_col (by decide), zu_row (by decide)]) (by rw [zu_col (by decide), zu_row (by decide)])
    · rw [zu_row (by decide), zu_same]
    · intro a b n1 n2
      by_cases e1 : a = 48
      · rw [e1, zu_col (by omega), zu_row (by decide)]
      · rw [zu_row e1]
        by_cases e3 : a = 57
        · rw [e3, zu_col (by omega)]
        · rw [zu_row e3]
    · rw [e2, fX9_statement_28, if_pos (show nI (vrb ch t j) ≤ 9 from nI_le (b := 9) (by omega) (by omega)), zif_t hz, hcl, h0, if_neg (show ¬ nI n = 80 from nI_ne (b := 80) (by omega) (by omega) (by omega)), fX9_statement_61, hJ.2.2.1, if_pos (by decide), zif_t hz, zif_t hz, hcl, h0, nI_1, zu_row (show (48 : Nat) ≠ 57 by decide), r1.2]
      have eh : fX9_here (zu J 57 hh (nI (n + 1))) = nI (2200 * hh + c) := by
        rw [fX9_here, zu_row (by decide), zu_row (by decide), q.1, q.2.2, show (2200 : Int32) = nI 2200 from rfl, pk_mul, nI_add]
      rw [eh]
      simp only [zlet]
      by_cases k7 : vrb ch t j = 7
      · rw [if_pos (show nI (vrb ch t j) = 7 by rw [k7]; rfl), if_pos (Or.inl k7), fX9_statement_109]
        cases fX9_choice stm (zu (zu J 57 hh (nI (n + 1))) 48 7 (nI (j + 1))) L (nI (vrb ch t j)) (nI (2200 * hh + c)) <;> rfl
      by_cases k9 : vrb ch t j = 9
      · rw [if_neg (show ¬ nI (vrb ch t j) = 7 from nI_ne (b := 7) (by omega) (by omega) k7), if_pos (show nI (vrb ch t j) = 9 by rw [k9]; rfl), if_pos (Or.inr k9), fX9_statement_109]
        cases fX9_choice stm (zu (zu J 57 hh (nI (n + 1))) 48 7 (nI (j + 1))) L (nI (vrb ch t j)) (nI (2200 * hh + c)) <;> rfl
      rw [if_neg (show ¬ nI (vrb ch t j) = 7 from nI_ne (b := 7) (by omega) (by omega) k7), if_neg (show ¬ nI (vrb ch t j) = 9 from nI_ne (b := 9) (by omega) (by omega) k9), if_neg (show ¬ (vrb ch t j = 7 ∨ vrb ch t j = 9) by omega)]
      unfold loO
      by_cases k6 : vrb ch t j = 6
      · rw [if_pos (show nI (vrb ch t j) = 6 by rw [k6]; rfl), if_pos k6]
        rfl
      · rw [if_neg (show ¬ nI (vrb ch t j) = 6 from nI_ne (b := 6) (by omega) (by omega) k6), if_neg k6]
        rfl
