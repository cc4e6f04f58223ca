/-! A SUM, AN E -/
def cF8 (I I' : zPI) (o i : Nat) : Prop := ∀ a b, a ≠ 13 → ¬ (a = o + 8 ∧ i * 8 ≤ b ∧ b < i * 8 + 8) → I' a b = I a b
theorem cF8_trans {I I' I'' : zPI} {o i : Nat} (h1 : cF8 I I' o i) (h2 : cF8 I' I'' o i) : cF8 I I'' o i := fun a b n1 n2 => by rw [h2 a b n1 n2, h1 a b n1 n2]
def sCl (o i nn fu : Nat) (sd : Int) (K : zPI → Option (Int32 × zPI)) (I : zPI) : Option (Int32 × zPI) := if (I 13 2) = 43 then fX3_readSum_92 o (fX3_readSum_5 o K fu) (nI i) (iI sd) (nI nn) I else (if (I 13 2) = 45 then fX3_readSum_92 o (fX3_readSum_5 o K fu) (nI i) (iI sd) (nI nn) I else some (0, I))
theorem tk_of {J : zPI} {ch : Nat → Nat} {t j p : Nat} (hk : kd ch t j = 3 ∨ prt ch t j < 7) (h : (kd ch t j = 3 ∧ J 54 p = 1 ∧ J 55 p = nI (vl ch t j)) ∨ (kd ch t j ≠ 3 ∧ J 54 p = 2 ∧ J 55 p = nI (prt ch t j))) : tok J p ∧ ∀ V, tv J V p = if kd ch t j = 3 then (vl ch t j : Int) else V (prt ch t j + 1) := by
  have f3 := (kd_facts ch t j).2.2.1
  rcases h with ⟨k, a, b⟩ | ⟨k, a, b⟩
  · refine ⟨Or.inl ⟨a, _, f3 k, b⟩, fun V => ?_⟩
    have := f3 k
    unfold tv
    rw [if_pos a, if_pos k, b, nI_toInt (by omega)]
  · refine ⟨Or.inr ⟨a, _, by omega, b⟩, fun V => ?_⟩
    unfold tv
    rw [if_neg (by rw [a]; decide), if_neg k, b, nI_clamp (by omega)]
theorem sum_end {o i nn fu t N j fuR : Nat} {sd : Int} {KC : zPI → Option (Int32 × zPI)} {KR : zPI → Option zPI} {I J : zPI} {L : zPL} {ch : Nat → Nat} (h : cA I ch t j) (r : rA J L ch t N j) (h1 : kd ch t j ≠ 43) (h2 : kd ch t j ≠ 45) : sCl o i nn fu sd KC I = some (0, I) ∧ fX9_sum_4 L KR (fuR + 1) J = KR J := by
  constructor
  · rw [sCl, if_neg (show ¬ I 13 2 = 43 from fun h9 => h1 ((cA_kind (c := 43) h (by decide)).1 h9)), if_neg (show ¬ I 13 2 = 45 from fun h9 => h2 ((cA_kind (c := 45) h (by decide)).1 h9))]
  · rw [fX9_sum_4, show fX9_isSign J L 43 = some (if kd ch t j = 43 then 1 else 0) from sg_r (c := 43) r (by decide), show fX9_isSign J L 45 = some (if kd ch t j = 45 then 1 else 0) from sg_r (c := 45) r (by decide)]
    simp only [Option.bind_some, bt]
    rw [if_neg h1, if_neg h2]
theorem sum4_f {L : zPL} {KR : zPI → Option zPI} {fuR : Nat} {J : zPI} (h : ¬ J 48 8 = 0) : fX9_sum_4 L KR (fuR + 1) J = KR J := by
  rw [fX9_sum_4, sg_f h, sg_f h]
  simp only [Option.bind_some, if_true]
theorem sum_go {o i hh c0 t N : Nat} {ch : Nat → Nat} {L : zPL} {sd : Int} {B : (Nat → Int) → Int} {KC : zPI → Option (Int32 × zPI)} {KR : zPI → Option zPI} (ho : o = 24 ∨ o = 33) (hi : i < 80) (ht : t ≤ 1000) : ∀ (r j m nn fuC fuR : Nat) (I J : zPI) (W : Nat → Int), N - j ≤ r → r < fuC → r < fuR → cA I ch t j → rA J L ch t N j → rQ J hh (c0 + 2 * m + 1) → c0 + 2 * m + 1 ≤ j → sok J (2200 * hh + c0) m → cW I o i W → (∀ V, V 0 = 1 → w8 W V = B V + sd * sv J V (2200 * hh + c0) m) → nn ≤ j →
  ∃ J', fX9_sum_4 L KR fuR J = KR J' ∧ rFr J J' (2200 * hh + c0 + 2 * m + 1) (2200 * hh + 2200) ∧ J' 48 17 = J 48 17 ∧ (∀ b, J' 57 b = J 57 b) ∧
  ((∃ f I' c', sCl o i nn fuC sd KC I = some (nI f, I') ∧ (0 < f ∧ f < 20000) ∧ J' 48 8 = nI f ∧ rQ J' hh c' ∧ (c0 ≤ c' ∧ c' ≤ 1002) ∧ cF8 I I' o i) ∨
   (∃ I' j' m' W', sCl o i nn fuC sd KC I = some (0, I') ∧ cA I' ch t j' ∧ rA J' L ch t N j' ∧ (j ≤ j' ∧ j + 2 * m' ≤ j' + 2 * m) ∧ rQ J' hh (c0 + 2 * m' + 1) ∧ c0 + 2 * m' + 1 ≤ j' ∧ sok J' (2200 * hh + c0) m' ∧ cW I' o i W' ∧ (∀ V, V 0 = 1 → w8 W' V = B V + sd * sv J' V (2200 * hh + c0) m') ∧ cF8 I I' o i)) := by
  intro r
  induction r with
  | zero =>
    intro j m nn fuC fuR I J W hr hC hR hI hJ hq hc hs hW hV hn
    obtain ⟨fuR, rfl, -⟩ := zsucc hR
    have k0 : kd ch t j = 0 := by
      by_cases k : kd ch t j = 0
      · exact k
      · have := rA_lt hJ k
        omega
    obtain ⟨e1, e2⟩ := sum_end (o := o) (i := i) (nn := nn) (fu := fuC) (sd := sd) (KC := KC) (KR := KR) (fuR := fuR) hI hJ (by omega) (by omega)
    exact ⟨J, e2, rFr_refl _ _ _, rfl, fun _ => rfl, Or.inr ⟨I, j, m, W, e1, hI, hJ, ⟨Nat.le_refl _, Nat.le_refl _⟩, hq, hc, hs, hW, hV, fun _ _ _ _ => rfl⟩⟩
  | succ r ih =>
    intro j m nn fuC fuR I J W hr hC hR hI hJ hq hc hs hW hV hn
    by_cases k43 : ¬ (kd ch t j = 43 ∨ kd ch t j = 45)
    · obtain ⟨fuR, rfl, -⟩ := zsucc hR
      obtain ⟨e1, e2⟩ := sum_end (o := o) (i := i) (nn := nn) (fu := fuC) (sd := sd) (KC := KC) (KR := KR) (fuR := fuR) hI hJ (by omega) (by omega)
      exact ⟨J, e2, rFr_refl _ _ _, rfl, fun _ => rfl, Or.inr ⟨I, j, m, W, e1, hI, hJ, ⟨Nat.le_refl _, Nat.le_refl _⟩, hq, hc, hs, hW, hV, fun _ _ _ _ => rfl⟩⟩
    have k0 : kd ch t j ≠ 0 := by omega
    have jN := rA_lt hJ k0
    have hN : N ≤ 1000 := hJ.1.2.2.1
    obtain ⟨fuC, rfl, hC⟩ := zsucc hC
    obtain ⟨fuR, rfl, hR⟩ := zsucc hR
    obtain ⟨I1, g1, g2, g3⟩ := cA_adv hI
    obtain ⟨r1, r2⟩ := rA_plus hJ k0
    rw [r2] at r1
    obtain ⟨J1, hJ1⟩ : ∃ J1 : zPI, J1 = zu J 48 7 (nI (j + 1)) := ⟨_, rfl⟩
    rw [← hJ1] at r1
    have fJ1 : ∀ a b, ¬ (a = 48 ∧ b = 7) → J1 a b = J a b := fun a b h => by
      rw [hJ1]
      by_cases h7 : a = 48
      · exact zu_col (by omega)
      · exact zu_row h7
    have q1 : rQ J1 hh (c0 + 2 * m + 1) := rQ_cong hq (fJ1 _ _ (by decide)) (fJ1 _ _ (by decide))
    -- sign and op
    obtain ⟨sg, op, hsg, eC, eR⟩ : ∃ (sg : Int) (op : Int32), ((op = 3 ∧ sg = sd) ∨ (op = 4 ∧ sg = -sd)) ∧ sCl o i nn (fuC + 1) sd KC I = fX3_readSum_5 o KC (fuC + 1) (nI i) (iI sd) (iI sg) (nI (nn + 1)) I1 ∧ fX9_sum_4 L KR (fuR + 1) J = fX9_sum_36 L (fX9_sum_4 L KR fuR) op J := by
      have e43 : fX9_isSign J L 43 = some (if kd ch t j = 43 then 1 else 0) := sg_r (c := 43) hJ (by decide)
      have e45 : fX9_isSign J L 45 = some (if kd ch t j = 45 then 1 else 0) := sg_r (c := 45) hJ (by decide)
      by_cases k : kd ch t j = 43
      · refine ⟨sd, 3, Or.inl ⟨rfl, rfl⟩, ?_, ?_⟩
        · have k' : I 13 2 = 43 := (cA_kind (c := 43) hI (by decide)).2 k
          rw [sCl, if_pos k', fX3_readSum_92, if_pos k', fX3_readSum_110, g1, nI_1]
          rfl
        · rw [fX9_sum_4, e43]
          simp only [Option.bind_some, bt]
          rw [if_pos k, fX9_sum_22, e43]
          simp only [Option.bind_some, bt]
          rw [if_pos k]
      · have k5 : kd ch t j = 45 := by omega
        refine ⟨-sd, 4, Or.inr ⟨rfl, rfl⟩, ?_, ?_⟩
        · have k' : ¬ I 13 2 = 43 := fun h9 => k ((cA_kind (c := 43) hI (by decide)).1 h9)
          have k'' : I 13 2 = 45 := (cA_kind (c := 45) hI (by decide)).2 k5
          rw [sCl, if_neg k', if_pos k'', fX3_readSum_92, if_neg k', fX3_readSum_110, g1, nI_1, iI_neg]
          rfl
        · rw [fX9_sum_4, e43, e45]
          simp only [Option.bind_some, bt]
          rw [if_neg k, if_pos k5, fX9_sum_22, e43]
          simp only [Option.bind_some, bt]
          rw [if_neg k]
    rw [eC, eR, fX9_sum_36, r2, ← hJ1]
    by_cases hk : kd ch t (j + 1) = 3 ∨ prt ch t (j + 1) < 7
    · obtain ⟨I2, W2, t1, t2, t3, t4, t5⟩ := cs_term (nn := nn + 1) (fu := fuC) (sg := sg) (v2 := iI sd) (K := KC) ho hi g2 hk (W := W) (fun p hp => by rw [g3 _ _ (by omega)]; exact hW p hp) (by omega)
      obtain ⟨J2, u1, u2, u3, u4, u5⟩ := part_ok r1 q1 (by omega) hk
      obtain ⟨J3, w1, w2, w3, w4, w5, w6⟩ := em_r u3 (by omega) op 0 0
      have k1 : kd ch t (j + 1) ≠ 0 := by
        have := (prt_b ch t (j + 1)).2
        omega
      have jN2 := rA_lt r1 k1
      have a3 : rA J3 L ch t N (j + 2) := rA_to u2 (fun b => w6 _ _ (by omega) (by omega)) (fun b => w6 _ _ (by omega) (by omega)) (w6 _ _ (by omega) (by omega)) (by rw [w6 _ _ (by omega) (by omega)]; exact u2.2.1) (by omega)
      have old : ∀ a, a = 54 ∨ a = 55 → ∀ b, b < 2200 * hh + c0 + 2 * m + 1 → J3 a b = J a b := fun a ha b hb => by
        rw [w6 a b (by omega) (by omega), u5 a b (by omega) (by omega), fJ1 a b (by omega)]
      have new : ∀ a, a = 54 ∨ a = 55 → J3 a (2200 * hh + c0 + 2 * m + 1) = J2 a (2200 * hh + (c0 + 2 * m + 1)) := fun a ha => by
        rw [w6 a _ (by omega) (by omega), Nat.add_assoc, Nat.add_assoc, ← Nat.add_assoc c0]
      have u4' : (kd ch t (j + 1) = 3 ∧ J3 54 (2200 * hh + c0 + 2 * m + 1) = 1 ∧ J3 55 (2200 * hh + c0 + 2 * m + 1) = nI (vl ch t (j + 1))) ∨ (kd ch t (j + 1) ≠ 3 ∧ J3 54 (2200 * hh + c0 + 2 * m + 1) = 2 ∧ J3 55 (2200 * hh + c0 + 2 * m + 1) = nI (prt ch t (j + 1))) := by
        rw [new 54 (Or.inl rfl), new 55 (Or.inr rfl)]
        exact u4
      obtain ⟨tk, tkv⟩ := tk_of hk u4'
      have op3 : J3 54 (2200 * hh + c0 + 2 * m + 2) = op := by
        rw [show 2200 * hh + c0 + 2 * m + 2 = 2200 * hh + (c0 + 2 * m + 1 + 1) from by omega]
        exact w3
      have sv0 : ∀ V, sv J3 V (2200 * hh + c0) m = sv J V (2200 * hh + c0) m := fun V => sv_congR V m (fun a ha b b1 b2 => old a ha b (by omega))
      have fr3 : rFr J J3 (2200 * hh + c0 + 2 * m + 1) (2200 * hh + 2200) := fun a b n1 n2 n3 => by
        rw [w6 a b (by omega) (by omega), u5 a b (by omega) (by omega), fJ1 a b (by omega)]
      obtain ⟨J', z1, z2, z3, z4, z5⟩ := ih (j + 2) (m + 1) (nn + 1) fuC fuR I2 J3 W2 (by omega) (by omega) (by omega) t2 a3 (by rw [show c0 + 2 * (m + 1) + 1 = c0 + 2 * m + 1 + 1 + 1 from by omega]; exact w2) (by omega) ⟨(sok_congR (fun a ha b b1 b2 => old a ha b (by omega)) hs).1, fun k hk9 => by
          by_cases ek : k = m
          · subst ek
            refine ⟨tk, ?_⟩
            rw [op3]
            rcases hsg with ⟨h9, -⟩ | ⟨h9, -⟩
            · exact Or.inl h9
            · exact Or.inr h9
          · exact (sok_congR (fun a ha b b1 b2 => old a ha b (by omega)) hs).2 k (by omega)⟩ t3 (fun V hV0 => by
          rw [t5 V hV0, hV V hV0, sv, op3, sv0, ← tkv V]
          rcases hsg with ⟨h9, h8⟩ | ⟨h9, h8⟩
          · rw [if_pos h9, h8, Int.mul_add]
            omega
          · rw [if_neg (by rw [h9]; decide), h8, Int.mul_sub, Int.neg_mul]
            omega) (by omega)
      refine ⟨J', ?_, rFr_trans fr3 z2 (by omega), ?_, ?_, ?_⟩
      · rw [u1]
        simp only [Option.bind_some]
        rw [w1]
        exact z1
      · rw [z3, w6 _ _ (by omega) (by omega), u5 _ _ (by omega) (by omega), fJ1 _ _ (by omega)]
      · intro b
        rw [z4, w6 _ _ (by omega) (by omega), u5 _ _ (by omega) (by omega), fJ1 _ _ (by omega)]
      · have f12 : cF8 I I2 o i := fun a b n1 n2 => by rw [t4 a b n1 n2, g3 a b n1]
        rw [t1]
        rcases z5 with ⟨f, I', c', y1, y2, y3, y4, y5, y6⟩ | ⟨I', j', m', W', y1, y2, y3, y4, y5, y6, y7, y8, y9, y10⟩
        · exact Or.inl ⟨f, I', c', y1, y2, y3, y4, y5, cF8_trans f12 y6⟩
        · exact Or.inr ⟨I', j', m', W', y1, y2, y3, by omega, y5, y6, y7, y8, y9, cF8_trans f12 y10⟩
    · have k3 : kd ch t (j + 1) ≠ 3 := by omega
      have p7 : prt ch t (j + 1) = 7 := by
        have := (prt_b ch t (j + 1)).1
        omega
      have hpl := pl_le ch t (j + 1)
      have u1 := part_bad ht r1 k3 p7
      obtain ⟨J3, w1, w2, w3, w4, w5, w6⟩ := em_r (J := zu J1 48 8 (nI (1 + 16 * pl ch t (j + 1)))) (rQ_cong q1 (zu_col (by decide)) (zu_col (by decide))) (by omega) op 0 0
      have h8 : J3 48 8 = nI (1 + 16 * pl ch t (j + 1)) := by rw [w6 _ _ (by omega) (by omega), zu_same]
      have h80 : ¬ J3 48 8 = 0 := by rw [h8]; exact nI_ne (b := 0) (by omega) (by omega) (by omega)
      refine ⟨J3, ?_, fun a b n1 n2 n3 => ?_, ?_, fun b => ?_, Or.inl ⟨1 + 16 * pl ch t (j + 1), I1, c0 + 2 * m + 2, cs_bad g2 k3 p7 (by omega), by omega, h8, w2, by omega, fun a b n1 n2 => g3 a b n1⟩⟩
      · rw [u1]
        simp only [Option.bind_some]
        rw [w1]
        obtain ⟨fuR, rfl, -⟩ := zsucc (show r < fuR by omega)
        exact sum4_f h80
      · rw [w6 a b (by omega) (by omega)]
        by_cases e9 : a = 48
        · rw [e9, zu_col (by omega), fJ1 _ _ (by omega)]
        · rw [zu_row e9, fJ1 _ _ (by omega)]
      · rw [w6 _ _ (by omega) (by omega), zu_col (by decide), fJ1 _ _ (by omega)]
      · rw [w6 _ _ (by omega) (by omega), zu_row (by decide), fJ1 _ _ (by omega)]
