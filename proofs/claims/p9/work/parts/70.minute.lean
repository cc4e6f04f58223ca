/-! a minute -/
def rM (I J : zPI) (hh n m a cnt : Nat) (A U : Nat → Nat) (at' WT w : Nat) (M P F : Nat → Nat) : Prop :=
  TX I J hh a cnt A U ∧ (I 0 9 = nI at' ∧ at' ≤ cnt ∧ ∃ pc, inH hh pc ∧ J 48 37 = nI pc ∧ LdE J hh pc (A at')) ∧ J 48 46 = nI 0 ∧ (I 0 10 = nI (WT - (m + 1)) ∧ J 48 38 = nI WT ∧ WT < 2000000) ∧
  rW I J n (fun _ => m + 1) ∧ rG I J ∧ (∃ d, d < 3 ∧ I 42 6 = nI d ∧ J 48 28 = nI d) ∧ (∃ v, v < 32 ∧ I 0 14 = nI v ∧ J 48 31 = nI v) ∧ I 0 11 = J 48 36 ∧ (I 0 12 = nI m ∧ J 48 29 = nI m) ∧ (∃ c, c < 32 ∧ I 0 13 = nI c ∧ J 48 30 = nI c) ∧ (I 0 15 = J 48 32 ∧ -3 ≤ (I 0 15).toInt ∧ (I 0 15).toInt ≤ 14) ∧ (∃ p, p ≤ 18 * m ∧ I 1 7 = nI p ∧ J 48 35 = nI p) ∧ zWC I w M P F ∧ zWR J w M P F
theorem gw_eq {I J : zPI} (h : rG I J) : gw (J 59) (J 60) 18 = gw (I 3) (I 4) 18 := gw_cong 18 (fun j hj => ⟨(h.2.1 j hj).1.1.symm, (h.2.1 j hj).2.1.symm⟩)
theorem gw_b {S V : Nat → Int32} : ∀ k, (∀ j, j < k → ∃ w, w ≤ 900 ∧ V j = nI w) → 0 ≤ (gw S V k).toInt ∧ (gw S V k).toInt ≤ 900 := by
  intro k
  induction k with
  | zero =>
    intro _
    rw [gw]
    decide
  | succ k ih =>
    intro h
    have h1 := ih (fun j hj => h j (by omega))
    obtain ⟨w, hw, e⟩ := h k (by omega)
    rw [gw]
    split
    · unfold zmmax
      split
      · rw [e, nI_toInt (by omega)]
        omega
      · exact h1
    · exact h1
/-- the reference's sails, against the class's draw, speed and strain -/
theorem f_sails {I J : zPI} {n m pt fo c : Nat} {w : Nat} {M P F : Nat → Nat} (hm : m < 900000) (hW : rW I J n (fun _ => m + 1)) (hG : rG I J) (hR : zWR J w M P F) (hpt : pt = wval P (wnd M m w)) (hfo : fo = wval F (wnd M m w)) (hp9 : pt < 32) (hf9 : fo < 13) (h29 : J 48 29 = nI m) (hc : c < 32) (h30 : J 48 30 = nI c) (i5 : I 9 5 = nI pt) (i6 : I 9 6 = nI fo) (i13 : I 0 13 = nI c) (hs : I 0 15 = J 48 32) {p : Nat} (hp : I 1 7 = nI p) (hq : J 48 35 = nI p) (hpb : p < 100000000) :
    ∃ dr I' J' p', fX4_draw I (fX0_apart (I 9 5) (I 0 13)) (I 9 6) = some dr ∧ fX8_strainSails (fX8_changeSpeed I dr) (fX0_isAback (fX0_apart (I 9 5) (I 0 13))) = some I' ∧ fX9_sails J = some J' ∧ p' ≤ p + 18 ∧ rW I' J' n (fun _ => m + 1) ∧ rG I' J' ∧ I' 1 7 = nI p' ∧ J' 48 35 = nI p' ∧ I' 0 15 = snew (I 0 15) (stgt dr) ∧ J' 48 32 = snew (I 0 15) (stgt dr) ∧
      (∀ x y, ¬ (x = 2 ∨ x = 3 ∨ x = 4 ∨ x = 6 ∨ x = 47 ∨ (x = 1 ∧ y = 7) ∨ (x = 42 ∧ y = 7) ∨ (x = 0 ∧ y = 15)) → I' x y = I x y) ∧ (∀ x y, ¬ (x = 58 ∨ x = 59 ∨ x = 60 ∨ x = 62 ∨ x = 63 ∨ (x = 48 ∧ (y = 35 ∨ y = 32))) → J' x y = J x y) := by
  obtain ⟨t1, t2, t3⟩ := sa_apart pt hp9 c hc
  obtain ⟨a, ha, hae⟩ : ∃ a, a < 17 ∧ fX0_apart (nI pt) (nI c) = nI a := ⟨_, t2, t3.symm⟩
  have fp : fX9_point J = some (nI pt) := by rw [wi_point (by omega) hR h29, hpt]
  have ff : fX9_force J = some (nI fo) := by rw [wi_force (by omega) hR h29, hfo]
  rw [i5, i6, i13, hae]
  obtain ⟨ab, hab⟩ : ∃ ab : Bool, (if ab then (1 : Int32) else 0) = (if 5 ≤ nI a then 0 else 1) := by
    by_cases h5 : 5 ≤ nI a
    · exact ⟨false, by rw [if_pos h5]; rfl⟩
    · exact ⟨true, by rw [if_neg h5]; rfl⟩
  obtain ⟨dr, d1, d2⟩ := f_draw hG (K := fun v3 => some v3) (K' := fun v1 v3 v5 I => (if (v5 / 20) ≤ 14 then (if (-3) ≤ (v5 / 20) then fX9_sails_228 v1 v3 (v5 / 20) I else fX9_sails_228 v1 v3 (-3) I) else fX9_sails_228 v1 v3 14 I)) (a := a) (f := nI fo) (ab := if 5 ≤ nI a then 0 else 1) (be := fX0_best (nI a)) ha rfl rfl 9 zF zF 0 0 (by omega) (zF_lt (by omega)) (zF_lt (by omega))
  obtain ⟨I1, c1, c2, c3⟩ := f_chs I dr
  have hW1 : rW I1 (zu J 48 32 (snew (J 48 32) (stgt dr))) n (fun _ => m + 1) := rW_cong hW (c3 _ _ (by decide)) (zu_col (by decide)) (fun x hx b => c3 _ _ (by omega)) (fun x hx b => zu_row (by omega))
  have hG1 : rG I1 (zu J 48 32 (snew (J 48 32) (stgt dr))) := rG_cong hG (fun x hx b => c3 _ _ (by omega)) (fun x hx b => zu_row (by omega))
  obtain ⟨I', J', p', e1, e2, e3, e4, e5, e6, e7, e8, e9⟩ := f_strain (K := fun I => some I) (K' := fun I => some I) (f := fo) (ab := ab) hf9 9 zF zF 0 p I1 (zu J 48 32 (snew (J 48 32) (stgt dr))) (by omega) (zF_lt (by omega)) (zF_lt (by omega)) hW1 hG1 (by rw [c3 _ _ (by decide)]; exact i6) (by rw [c3 _ _ (by decide)]; exact hp) (by rw [zu_col (by decide)]; exact hq) (by omega)
  refine ⟨dr, I', J', p', d1, ?_, ?_, by omega, e4, e5, e6, e7, by rw [e8 _ _ (by decide)]; exact c2, by rw [e9 _ _ (by decide), zu_same, hs], fun x y h => by rw [e8 x y (by omega), c3 x y (by omega)], fun x y h => ?_⟩
  · rw [c1, fX0_isAback, ← hab]
    exact e1
  · rw [fX9_sails, ff]
    simp only [Option.bind_some]
    rw [fp]
    simp only [Option.bind_some]
    rw [h30, t1, hae]
    have k54 : fX9_sails_54 (nI fo) (nI a) (if 5 ≤ nI a then 0 else 1) (fX0_best (nI a)) J = some J' := by
      unfold fX9_sails_54
      refine d2.trans ?_
      rw [f_chsR, ← hab]
      exact e2
    have k27 : fX9_sails_27 (nI fo) (nI a) (if 5 ≤ nI a then 0 else 1) J = some J' := by
      rw [(sa_best a ha).1] at k54
      unfold fX9_sails_27
      by_cases h8 : ((16 - nI a) * 8) / 10 ≤ 8
      · rw [if_pos h8] at k54 ⊢
        exact k54
      · rw [if_neg h8] at k54 ⊢
        exact k54
    by_cases h5 : 5 ≤ nI a
    · rw [if_pos h5] at k27 ⊢
      exact k27
    · rw [if_neg h5] at k27 ⊢
      exact k27
  · rw [e9 x y (by omega)]
    by_cases h7 : x = 48
    · exact zu_col (by omega)
    · exact zu_row h7
theorem zF_big : 60 * 1200 + 200 < zF := by decide
set_option maxRecDepth 1000000 in
theorem f_minute {I J : zPI} {hh n m a cnt : Nat} {A U : Nat → Nat} {at' WT w : Nat} {M P F : Nat → Nat} (hm : m < 800000) (ha : a = 24 ∨ a = 33) (h : rM I J hh n m a cnt A U at' WT w M P F) :
    ∃ I' J' at2 WT2, fX8_passMinute a I = some I' ∧ fX9_goes J = some J' ∧ rM I' J' hh n (m + 1) a cnt A U at2 WT2 w M P F ∧
      (∀ x y, ¬ (x ≤ 9 ∨ x = 23 ∨ (42 ≤ x ∧ x ≤ 47)) → I' x y = I x y) ∧ (∀ x y, ¬ ((x = 48 ∧ 28 ≤ y ∧ y ≤ 46) ∨ (58 ≤ x ∧ x ≤ 66) ∨ x = 70) → J' x y = J x y) := by
  obtain ⟨hT, ⟨h9, hat, pc, hpc, h37, hL⟩, h46, ⟨h10, h38, hWT⟩, hW, hG, ⟨dk, hdk, hk1, hk2⟩, ⟨ws, hws, hw1, hw2⟩, h11, ⟨h12, h29⟩, ⟨c, hc, hc1, hc2⟩, ⟨hs1, hs2, hs3⟩, ⟨p, hp, hp1, hp2⟩, hC, hR⟩ := h
  obtain ⟨pt, hpt⟩ : ∃ pt, pt = wval P (wnd M (m + 1) w) := ⟨_, rfl⟩
  obtain ⟨fo, hfo⟩ : ∃ fo, fo = wval F (wnd M (m + 1) w) := ⟨_, rfl⟩
  have bpt : pt < 32 := by rw [hpt]; exact wval_lt (k := w) (by omega) (fun j hj => wnd_lt w j hj) (fun j hj => (hR.2.2 j hj).2.1.2)
  have bfo : fo < 13 := by rw [hfo]; exact wval_lt (k := w) (by omega) (fun j hj => wnd_lt w j hj) (fun j hj => (hR.2.2 j hj).2.2.2)
  -- the minute, the wind
  have hWC : zWC (zu (zu I 0 12 (nI (m + 1))) 9 4 1) w M P F := zWC_cong hC (by rw [zu_col (by decide), zu_row (by decide)]) (fun x hx b => by rw [zu_row (by omega), zu_row (by omega)])
  obtain ⟨I1, u1, u2, u3, u4⟩ := wi_find (m := m + 1) (by omega) hWC
  rw [← hpt] at u2
  rw [← hfo] at u3
  have eb : fX7_blow (zu I 0 12 (nI (m + 1))) (nI (m + 1)) = some I1 := by rw [fX7_blow, u1]; rfl
  have g1 : ∀ x y, ¬ ((x = 0 ∧ y = 12) ∨ (x = 9 ∧ (y = 4 ∨ y = 5 ∨ y = 6))) → I1 x y = I x y := fun x y hxy => by
    rw [u4 x y (by omega)]
    by_cases h7 : x = 9
    · rw [zu_col (by omega), zu_row (by omega)]
    · rw [zu_row h7]
      by_cases h8 : x = 0
      · exact zu_col (by omega)
      · exact zu_row h8
  have g12 : I1 0 12 = nI (m + 1) := by rw [u4 _ _ (by decide), zu_row (by decide), zu_same]
  obtain ⟨J1, hJ1⟩ : ∃ J1 : zPI, J1 = zu (zu (zu J 48 29 (nI (m + 1))) 48 43 (nI pt)) 48 44 (nI fo) := ⟨_, rfl⟩
  have k1 : ∀ x y, ¬ (x = 48 ∧ (y = 29 ∨ y = 43 ∨ y = 44)) → J1 x y = J x y := fun x y hxy => by
    rw [hJ1]
    by_cases h7 : x = 48
    · rw [zu_col (by omega), zu_col (by omega), zu_col (by omega)]
    · rw [zu_row h7, zu_row h7, zu_row h7]
  have k29 : J1 48 29 = nI (m + 1) := by rw [hJ1, zu_col (by decide), zu_col (by decide), zu_same]
  -- works end
  obtain ⟨I2, J2, v1, v2, v3, v4, v5, v6⟩ := f_endWorks (m := m + 1) (by omega) (rW_cong (I' := I1) (J' := J1) hW (g1 _ _ (by decide)) (k1 _ _ (by decide)) (fun x hx b => g1 _ _ (by omega)) (fun x hx b => k1 _ _ (by omega))) (rG_cong (I' := I1) (J' := J1) hG (fun x hx b => g1 _ _ (by omega)) (fun x hx b => k1 _ _ (by omega))) g12 k29
  -- orders
  obtain ⟨I3, w1, w2, w3⟩ := rP_weigh (I := I2) (m := m + 1) (pt := pt) (fo := fo) (c := c) (by omega) (by rw [v5 _ _ (by decide)]; exact u2) (by rw [v5 _ _ (by decide)]; exact u3) (by rw [v5 _ _ (by decide), g1 _ _ (by decide)]; exact hc1) (by rw [v5 _ _ (by decide)]; exact g12)
  have sp2 : I2 0 15 = I 0 15 := by rw [v5 _ _ (by decide), g1 _ _ (by decide)]
  have gb := gw_b (S := I2 3) (V := I2 4) 18 (fun j hj => (v4.2.1 j hj).2.2)
  have hV := zVl_b (m := m + 1) (pt := pt) (fo := fo) (c := c) (sp := I2 0 15) (g := gw (I2 3) (I2 4) 18) bpt bfo hc (by rw [sp2]; exact hs2) (by rw [sp2]; exact hs3) gb.1 gb.2
  have hX2 : rX J2 (m + 1) pt fo c (I2 0 15) (gw (I2 3) (I2 4) 18) := ⟨w, M, P, F, zWR_cong hR (by rw [v6 _ _ (by decide), k1 _ _ (by decide)]) (fun x hx b => by rw [v6 _ _ (by omega), k1 _ _ (by omega)]), hpt, hfo, by rw [v6 _ _ (by decide)]; exact k29, by omega, by rw [v6 _ _ (by decide), k1 _ _ (by decide)]; exact hc2, hc, by rw [v6 _ _ (by decide), k1 _ _ (by decide), sp2]; exact hs1.symm, gw_eq v4⟩
  have hE : rE I3 J2 hh n (m + 1) a cnt A U pt fo c (I2 0 15) (gw (I2 3) (I2 4) 18) at' WT := by
    have z3 : ∀ x y, x ≠ 23 → ¬ (x = 2 ∨ x = 3 ∨ x = 4 ∨ x = 5 ∨ x = 6 ∨ x = 7 ∨ x = 8 ∨ x = 47 ∨ (x = 42 ∧ y = 7)) → ¬ ((x = 0 ∧ y = 12) ∨ (x = 9 ∧ (y = 4 ∨ y = 5 ∨ y = 6))) → I3 x y = I x y := fun x y q1 q2 q3 => by rw [w2 x y q1, v5 x y q2, g1 x y q3]
    have z4 : ∀ x y, ¬ (x = 58 ∨ x = 59 ∨ x = 60 ∨ x = 61 ∨ x = 62 ∨ x = 63) → ¬ (x = 48 ∧ (y = 29 ∨ y = 43 ∨ y = 44)) → J2 x y = J x y := fun x y q1 q2 => by rw [v6 x y q1, k1 x y q2]
    refine ⟨TX_cong hT (fun k hk b => z3 _ _ (by omega) (by omega) (by omega)) (fun x hx b => z4 _ _ (by omega) (by omega)), ⟨by rw [z3 _ _ (by decide) (by decide) (by decide)]; exact h9, hat, pc, hpc, by rw [z4 _ _ (by decide) (by decide)]; exact h37, LdE_cong (fun x hx b => z4 _ _ (by omega) (by omega)) hL⟩, by rw [z4 _ _ (by decide) (by decide)]; exact h46, ⟨by rw [z3 _ _ (by decide) (by decide) (by decide)]; exact h10, by rw [z4 _ _ (by decide) (by decide)]; exact h38, hWT⟩, rW_cong v3 (w2 _ _ (by decide)) rfl (fun x hx b => w2 _ _ (by omega)) (fun _ _ _ => rfl), rG_cong v4 (fun x hx b => w2 _ _ (by omega)) (fun _ _ _ => rfl), ⟨dk, hdk, by rw [z3 _ _ (by decide) (by decide) (by decide)]; exact hk1, by rw [z4 _ _ (by decide) (by decide)]; exact hk2⟩, ⟨ws, hws, by rw [z3 _ _ (by decide) (by decide) (by decide)]; exact hw1, by rw [z4 _ _ (by decide) (by decide)]; exact hw2⟩, by rw [z3 _ _ (by decide) (by decide) (by decide), z4 _ _ (by decide) (by decide)]; exact h11, by rw [w2 _ _ (by decide), v5 _ _ (by decide)]; exact g12, w3, hX2⟩
  obtain ⟨I4, J3, at2, WT2, x1, x2, x3, x4, x5⟩ := f_carry (K := fun I => fX8_carryOut_63 a I) ha hV 60 zF zF 0 I3 J2 at' WT (by omega) (zF_lt (by omega)) zF_big hE
  obtain ⟨hT3, ⟨h93, hat3, pc3, hpc3, h373, hL3⟩, h463, ⟨h103, h383, hWT3⟩, hW3, hG3, ⟨dk3, hdk3, hk13, hk23⟩, ⟨ws3, hws3, hw13, hw23⟩, h113, h123, hP3, hX3⟩ := x3
  -- the wait's minute
  obtain ⟨I5, y1, y2, y3⟩ : ∃ I5, fX8_carryOut_63 a I4 = some I5 ∧ I5 0 10 = nI (WT2 - (m + 1 + 1)) ∧ ∀ x y, ¬ (x = 0 ∧ y = 10) → I5 x y = I4 x y := by
    unfold fX8_carryOut_63
    rw [h103]
    by_cases cw : WT2 - (m + 1) = 0
    · refine ⟨I4, by rw [cw, if_pos (show nI 0 ≤ 0 by decide)], ?_, fun _ _ _ => rfl⟩
      rw [h103, show WT2 - (m + 1) = WT2 - (m + 1 + 1) by omega]
    · obtain ⟨q, hq⟩ : ∃ q, WT2 - (m + 1) = q + 1 := ⟨WT2 - (m + 1) - 1, by omega⟩
      refine ⟨zu I4 0 10 (nI (q + 1) - 1), by rw [hq, if_neg (nI_nle (by omega) (by omega))], by rw [zu_same, nI_pred, show q = WT2 - (m + 1 + 1) by omega], fun x y hxy => ?_⟩
      by_cases h7 : x = 0
      · exact zu_col (by omega)
      · exact zu_row h7
  have eco : fX8_carryOut a I2 = some I5 := by
    rw [fX8_carryOut, w1]
    simp only [Option.bind_some]
    rw [show (0 : Int32) = nI 0 from rfl]
    exact x1.trans y1
  have fI5 : ∀ x y, ¬ (x = 0 ∧ (y = 9 ∨ y = 10 ∨ y = 11 ∨ y = 14) ∨ x = 6 ∨ x = 7 ∨ x = 8 ∨ (x = 42 ∧ (y = 6 ∨ y = 7)) ∨ x = 43 ∨ x = 44 ∨ x = 45 ∨ x = 46 ∨ x = 47) → x ≠ 23 → I5 x y = I2 x y := fun x y q1 q2 => by rw [y3 x y (by omega), x4 x y q1, w2 x y q2]
  -- the course
  obtain ⟨t1, t2, t3⟩ := sa_turn c hc ws3 hws3
  obtain ⟨c', hc', hce⟩ : ∃ c', c' < 32 ∧ fX0_turned (nI c) (nI ws3) = nI c' := ⟨_, t2, t3.symm⟩
  have i13 : I5 0 13 = nI c := by rw [fI5 _ _ (by decide) (by decide), v5 _ _ (by decide), g1 _ _ (by decide)]; exact hc1
  have i14 : I5 0 14 = nI ws3 := by rw [y3 _ _ (by decide)]; exact hw13
  have j30 : J3 48 30 = nI c := by rw [x5 _ _ (by decide), v6 _ _ (by decide), k1 _ _ (by decide)]; exact hc2
  obtain ⟨I6, hI6⟩ : ∃ I6 : zPI, I6 = zu I5 0 13 (nI c') := ⟨_, rfl⟩
  obtain ⟨J4, hJ4⟩ : ∃ J4 : zPI, J4 = zu J3 48 30 (nI c') := ⟨_, rfl⟩
  have f6 : ∀ x y, ¬ (x = 0 ∧ y = 13) → I6 x y = I5 x y := fun x y hxy => by
    rw [hI6]
    by_cases h7 : x = 0
    · exact zu_col (by omega)
    · exact zu_row h7
  have f4 : ∀ x y, ¬ (x = 48 ∧ y = 30) → J4 x y = J3 x y := fun x y hxy => by
    rw [hJ4]
    by_cases h7 : x = 48
    · exact zu_col (by omega)
    · exact zu_row h7
  have j29 : J3 48 29 = nI (m + 1) := by obtain ⟨-, -, -, -, -, -, -, q, -⟩ := hX3; exact q
  have j32 : J3 48 32 = I2 0 15 := by obtain ⟨-, -, -, -, -, -, -, -, -, -, -, q, -⟩ := hX3; exact q
  have hR4 : zWR J4 w M P F := zWR_cong hR (by rw [f4 _ _ (by decide), x5 _ _ (by decide), v6 _ _ (by decide), k1 _ _ (by decide)]) (fun x hx b => by rw [f4 _ _ (by omega), x5 _ _ (by omega), v6 _ _ (by omega), k1 _ _ (by omega)])
  have i15 : I6 0 15 = I2 0 15 := by rw [f6 _ _ (by decide), fI5 _ _ (by decide) (by decide)]
  obtain ⟨dr, I7, J5, p', z1, z2, z3, z4, z5, z6, z7, z8, z9, z10, z11, z12⟩ := f_sails (I := I6) (J := J4) (n := n) (m := m + 1) (pt := pt) (fo := fo) (c := c') (w := w) (M := M) (P := P) (F := F) (p := p) (by omega)
    (rW_cong hW3 (by rw [f6 _ _ (by decide), y3 _ _ (by decide)]) (f4 _ _ (by decide)) (fun x hx b => by rw [f6 _ _ (by omega), y3 _ _ (by omega)]) (fun x hx b => f4 _ _ (by omega)))
    (rG_cong hG3 (fun x hx b => by rw [f6 _ _ (by omega), y3 _ _ (by omega)]) (fun x hx b => f4 _ _ (by omega))) hR4 hpt hfo bpt bfo (by rw [f4 _ _ (by decide)]; exact j29) hc' (by rw [hJ4, zu_same])
    (by rw [f6 _ _ (by decide), fI5 _ _ (by decide) (by decide), v5 _ _ (by decide)]; exact u2) (by rw [f6 _ _ (by decide), fI5 _ _ (by decide) (by decide), v5 _ _ (by decide)]; exact u3) (by rw [hI6, zu_same]) (by rw [i15, f4 _ _ (by decide), j32])
    (by rw [f6 _ _ (by decide), fI5 _ _ (by decide) (by decide), v5 _ _ (by decide), g1 _ _ (by decide)]; exact hp1) (by rw [f4 _ _ (by decide), x5 _ _ (by decide), v6 _ _ (by decide), k1 _ _ (by decide)]; exact hp2) (by omega)
  -- the way
  obtain ⟨I8, hI8⟩ : ∃ I8 : zPI, I8 = zu (zu I7 0 16 ((I7 0 16) + ((I7 0 15) * zst1 ((I7 0 13 - 8) &&& 31)))) 0 17 (((zu I7 0 16 ((I7 0 16) + ((I7 0 15) * zst1 ((I7 0 13 - 8) &&& 31)))) 0 17) + (((zu I7 0 16 ((I7 0 16) + ((I7 0 15) * zst1 ((I7 0 13 - 8) &&& 31)))) 0 15) * zst1 (((zu I7 0 16 ((I7 0 16) + ((I7 0 15) * zst1 ((I7 0 13 - 8) &&& 31)))) 0 13) &&& 31))) := ⟨_, rfl⟩
  have f8 : ∀ x y, ¬ (x = 0 ∧ (y = 16 ∨ y = 17)) → I8 x y = I7 x y := fun x y hxy => by
    rw [hI8]
    by_cases h7 : x = 0
    · rw [zu_col (by omega), zu_col (by omega)]
    · rw [zu_row h7, zu_row h7]
  have e8 : fX8_passMinute a I = some I8 := by
    unfold fX8_passMinute
    rw [h12, nI_1, zu_same, eb]
    simp only [Option.bind_some]
    rw [v1]
    simp only [Option.bind_some]
    rw [eco]
    simp only [Option.bind_some, zlet]
    rw [i13, i14, hce, ← hI6, z1]
    simp only [Option.bind_some]
    rw [z2]
    simp only [Option.bind_some]
    rw [f_east]
    simp only [Option.bind_some]
    rw [f_north]
    simp only [Option.bind_some]
    rw [hI8]
  obtain ⟨J6, hJ6⟩ : ∃ J6 : zPI, J6 = zu (zu J5 48 33 ((J5 48 33) + ((J5 48 32) * (fX9_dx (J5 48 30))))) 48 34 (((zu J5 48 33 ((J5 48 33) + ((J5 48 32) * (fX9_dx (J5 48 30))))) 48 34) + (((zu J5 48 33 ((J5 48 33) + ((J5 48 32) * (fX9_dx (J5 48 30))))) 48 32) * (fX9_dy ((zu J5 48 33 ((J5 48 33) + ((J5 48 32) * (fX9_dx (J5 48 30))))) 48 30)))) := ⟨_, rfl⟩
  have fj6 : ∀ x y, ¬ (x = 48 ∧ (y = 33 ∨ y = 34)) → J6 x y = J5 x y := fun x y hxy => by
    rw [hJ6]
    by_cases h7 : x = 48
    · rw [zu_col (by omega), zu_col (by omega)]
    · rw [zu_row h7, zu_row h7]
  have e87 : fX9_goes_87 J4 = some J6 := by
    rw [fX9_goes_87, z3]
    simp only [Option.bind_some]
    rw [hJ6]
  have eg : fX9_goes J = some J6 := by
    have q1 : fX9_point (zu J 48 29 (nI (m + 1))) = some (nI pt) := by rw [wi_point (m := m + 1) (by omega) (zWR_cong hR (zu_col (by decide)) (fun x hx b => zu_row (by omega))) zu_same, hpt]
    have q2 : fX9_force (zu (zu J 48 29 (nI (m + 1))) 48 43 (nI pt)) = some (nI fo) := by rw [wi_force (m := m + 1) (by omega) (zWR_cong hR (by rw [zu_col (by decide), zu_col (by decide)]) (fun x hx b => by rw [zu_row (by omega), zu_row (by omega)])) (by rw [zu_col (by decide), zu_same]), hfo]
    have ecar : fX9_carries J2 = some J3 := by
      rw [fX9_carries, show (0 : Int32) = nI 0 from rfl]
      exact x2
    unfold fX9_goes
    rw [h29, nI_1, q1]
    simp only [Option.bind_some]
    rw [q2]
    simp only [Option.bind_some]
    rw [← hJ1, v2]
    simp only [Option.bind_some]
    rw [ecar]
    simp only [Option.bind_some]
    rw [j30, hw23]
    rw [hce] at t1
    by_cases q3 : nI c = nI ws3
    · rw [if_pos q3] at t1 ⊢
      have : J4 = J3 := by rw [hJ4, t1]; exact zu_eq j30
      rw [← this]
      exact e87
    · rw [if_neg q3] at t1 ⊢
      by_cases q4 : 16 < ((nI ws3 - nI c) &&& 31)
      · rw [if_pos q4] at t1 ⊢
        rw [fX9_goes_84, ← t1, ← hJ4]
        exact e87
      · rw [if_neg q4] at t1 ⊢
        rw [fX9_goes_84, ← t1, ← hJ4]
        exact e87
  obtain ⟨sb1, sb2⟩ := snew_b (v := I6 0 15) (t := stgt dr) (by rw [i15, sp2]; exact hs2) (by rw [i15, sp2]; exact hs3) (stgt_c dr).2.1 (stgt_c dr).2.2
  refine ⟨I8, J6, at2, WT2, e8, eg, ?_, fun x y hxy => ?_, fun x y hxy => ?_⟩
  · have FI : ∀ x y, ¬ (x = 0 ∧ (y = 16 ∨ y = 17)) → ¬ (x = 2 ∨ x = 3 ∨ x = 4 ∨ x = 6 ∨ x = 47 ∨ (x = 1 ∧ y = 7) ∨ (x = 42 ∧ y = 7) ∨ (x = 0 ∧ y = 15)) → ¬ (x = 0 ∧ y = 13) → ¬ (x = 0 ∧ y = 10) → I8 x y = I4 x y := fun x y q1 q2 q3 q4 => by rw [f8 x y q1, z11 x y q2, f6 x y q3, y3 x y q4]
    have FJ : ∀ x y, ¬ (x = 48 ∧ (y = 33 ∨ y = 34)) → ¬ (x = 58 ∨ x = 59 ∨ x = 60 ∨ x = 62 ∨ x = 63 ∨ (x = 48 ∧ (y = 35 ∨ y = 32))) → ¬ (x = 48 ∧ y = 30) → J6 x y = J3 x y := fun x y q1 q2 q3 => by rw [fj6 x y q1, z12 x y q2, f4 x y q3]
    refine ⟨TX_cong hT3 (fun k hk b => FI _ _ (by omega) (by omega) (by omega) (by omega)) (fun x hx b => FJ _ _ (by omega) (by omega) (by omega)), ⟨by rw [FI _ _ (by decide) (by decide) (by decide) (by decide)]; exact h93, hat3, pc3, hpc3, by rw [FJ _ _ (by decide) (by decide) (by decide)]; exact h373, LdE_cong (fun x hx b => FJ _ _ (by omega) (by omega) (by omega)) hL3⟩, by rw [FJ _ _ (by decide) (by decide) (by decide)]; exact h463, ⟨by rw [f8 _ _ (by decide), z11 _ _ (by decide), f6 _ _ (by decide)]; exact y2, by rw [FJ _ _ (by decide) (by decide) (by decide)]; exact h383, hWT3⟩, ?_, ?_, ⟨dk3, hdk3, by rw [FI _ _ (by decide) (by decide) (by decide) (by decide)]; exact hk13, by rw [FJ _ _ (by decide) (by decide) (by decide)]; exact hk23⟩, ⟨ws3, hws3, by rw [FI _ _ (by decide) (by decide) (by decide) (by decide)]; exact hw13, by rw [FJ _ _ (by decide) (by decide) (by decide)]; exact hw23⟩, by rw [FI _ _ (by decide) (by decide) (by decide) (by decide), FJ _ _ (by decide) (by decide) (by decide)]; exact h113, ⟨by rw [FI _ _ (by decide) (by decide) (by decide) (by decide)]; exact h123, by rw [FJ _ _ (by decide) (by decide) (by decide)]; exact j29⟩, ⟨c', hc', by rw [f8 _ _ (by decide), z11 _ _ (by decide), hI6, zu_same], by rw [fj6 _ _ (by decide), z12 _ _ (by decide), hJ4, zu_same]⟩, ⟨by rw [f8 _ _ (by decide), fj6 _ _ (by decide), z9, z10], by rw [f8 _ _ (by decide), z9]; exact sb1, by rw [f8 _ _ (by decide), z9]; exact sb2⟩, ⟨p', by omega, by rw [f8 _ _ (by decide)]; exact z7, by rw [fj6 _ _ (by decide)]; exact z8⟩, ?_, ?_⟩
    · -- works: between minutes
      exact rW_cong z5 (f8 _ _ (by decide)) (fj6 _ _ (by decide)) (fun x hx b => f8 _ _ (by omega)) (fun x hx b => fj6 _ _ (by omega))
    · exact rG_cong z6 (fun x hx b => f8 _ _ (by omega)) (fun x hx b => fj6 _ _ (by omega))
    · refine zWC_cong hC ?_ (fun x hx b => ?_)
      · rw [FI _ _ (by decide) (by decide) (by decide) (by decide), x4 _ _ (by decide), w2 _ _ (by decide), v5 _ _ (by decide), g1 _ _ (by decide)]
      · rw [FI _ _ (by omega) (by omega) (by omega) (by omega), x4 _ _ (by omega), w2 _ _ (by omega), v5 _ _ (by omega), g1 _ _ (by omega)]
    · refine zWR_cong hR ?_ (fun x hx b => ?_)
      · rw [FJ _ _ (by decide) (by decide) (by decide), x5 _ _ (by decide), v6 _ _ (by decide), k1 _ _ (by decide)]
      · rw [FJ _ _ (by omega) (by omega) (by omega), x5 _ _ (by omega), v6 _ _ (by omega), k1 _ _ (by omega)]
  · rw [f8 x y (by omega), z11 x y (by omega), f6 x y (by omega), y3 x y (by omega), x4 x y (by omega), w2 x y (by omega), v5 x y (by omega), g1 x y (by omega)]
  · rw [fj6 x y (by omega), z12 x y (by omega), f4 x y (by omega), x5 x y (by omega), v6 x y (by omega), k1 x y (by omega)]
