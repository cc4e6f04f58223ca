/-! ORDERS, on both sides -/
def cOut (I I1 : zPI) (b : Nat) : Prop := ∀ p y, p ≠ 13 → ¬ (p = 15 ∧ y = 2) → p ≠ 16 → ¬ (b ≤ p ∧ p ≤ b + 8) → I1 p y = I p y
def rOut (J J2 : zPI) (nh : Nat) : Prop := ∀ p y, ¬ (p = 48 ∧ (y < 18 ∨ y = 37 ∨ y = 38)) → p ≠ 50 → p ≠ 51 → ¬ ((p = 54 ∨ p = 55 ∨ p = 56) ∧ 2200 * nh ≤ y ∧ y < 2200 * nh + 2200) → ¬ (p = 57 ∧ y = nh) → J2 p y = J p y
theorem ord_pair {I J : zPI} {L : zPL} {ch : Nat → Nat} {t b hh : Nat} (hb : b = 24 ∨ b = 33) (hT : zTC I (t, ch)) (hR : zTR J (t, ch)) (hh2 : hh < 2) (h13 : J 48 13 = nI hh) (hK : rK L) :
    (∃ f I1 J2 L2, (0 < f ∧ f < 20000) ∧ fX3_read b I = some (nI f, I1) ∧ fX9_orders J L = some (nI f, J2, L2) ∧ cOut I I1 b ∧ rOut J J2 (1 - hh) ∧ rK L2 ∧ J2 48 2 = 0 ∧ J2 48 13 = nI hh ∧ J2 48 37 = J 48 37 ∧ J2 48 38 = J 48 38) ∨
    (∃ I1 J2 L2 cnt A U, fX3_read b I = some (0, I1) ∧ fX9_orders J L = some (0, J2, L2) ∧ cOut I I1 b ∧ rOut J J2 (1 - hh) ∧ rK L2 ∧ J2 48 2 = 0 ∧ J2 48 13 = nI (1 - hh) ∧ J2 48 37 = nI (2200 * (1 - hh)) ∧ J2 48 38 = nI 0 ∧ TX I1 J2 (1 - hh) b cnt A U ∧ A 0 = 2200 * (1 - hh)) := by
  have ht : t ≤ 1000 := hT.2.1
  obtain ⟨N, J', L', ⟨n1, n2⟩, -, tb, fJ, fL, j2, j7, j8, ec⟩ := ct_all (I := zu J 48 0 0) (L := L) (zTR_cong hR (zu_col (by decide)) (fun b => zu_row (by decide)))
  obtain ⟨I1, er, hA, fI⟩ := cA_rew (I := zu (zu I b 0 0) 15 2 0) (zTC_cong hT (by rw [zu_row (by decide), zu_row (by omega)]) (fun y => by rw [zu_row (by decide), zu_row (by omega)]))
  have j13 : J' 48 13 = nI hh := by rw [fJ 48 13 (by decide), zu_col (by decide)]; exact h13
  have e14 : (1 : Int32) - nI hh = nI (1 - hh) := by
    rcases (show hh = 0 ∨ hh = 1 by omega) with rfl | rfl <;> decide
  obtain ⟨nh, hnh⟩ : ∃ nh, nh = 1 - hh := ⟨_, rfl⟩
  rw [← hnh] at e14
  rw [← hnh]
  have nh2 : nh < 2 := by omega
  obtain ⟨Js, hJs⟩ : ∃ Js : zPI, Js = zu (zu (zu (zu J' 48 14 (nI nh)) 48 15 0) 57 nh 0) 48 17 0 := ⟨_, rfl⟩
  have fs : ∀ p y, ¬ (p = 48 ∧ (y = 14 ∨ y = 15 ∨ y = 17)) → ¬ (p = 57 ∧ y = nh) → Js p y = J' p y := fun p y q1 q2 => by
    rw [hJs]
    by_cases h7 : p = 48
    · rw [zu_col (by omega), zu_row (by omega), zu_col (by omega), zu_col (by omega)]
    · rw [zu_row h7]
      by_cases h8 : p = 57
      · rw [zu_col (by omega), zu_row h7, zu_row h7]
      · rw [zu_row h8, zu_row h7, zu_row h7]
  have s14 : Js 48 14 = nI nh := by rw [hJs, zu_col (by decide), zu_row (by decide), zu_col (by decide), zu_same]
  have s15 : Js 48 15 = nI 0 := by rw [hJs, zu_col (by decide), zu_row (by decide), zu_same]; rfl
  have s57 : Js 57 nh = nI 0 := by rw [hJs, zu_row (by decide), zu_same]; rfl
  have s17 : Js 48 17 = nI 0 := by rw [hJs, zu_same]; rfl
  have hK' : rK L' := fun w hw => by rw [fL 53 w (by decide)]; exact hK w hw
  have i0 : I1 b 0 = nI 0 := by rw [fI b 0 (by omega), zu_row (by omega), zu_same]; rfl
  have i2 : I1 15 2 = nI 0 := by rw [fI 15 2 (by decide), zu_same]; rfl
  have hM : mAt I1 Js L' ch t N b nh 0 0 0 0 := ⟨hA, ⟨⟨fun j hj => by rw [fs 50 j (by omega) (by omega), fs 51 j (by omega) (by omega)]; exact tb j hj, hK', n1, n2⟩, by rw [fs 48 7 (by decide) (by omega)]; exact j7, by rw [fs 48 8 (by decide) (by omega)]; exact j8, Nat.zero_le _⟩, ⟨s14, nh2, s15⟩, Nat.le_refl _, ⟨i0, by omega, s57⟩, ⟨i2, s17, by omega⟩⟩
  obtain ⟨J2, t1, t2, t3, t4⟩ := top_go (K := fun I L => fX9_orders_65 I L) hb ht (N + 1) 0 0 0 zF I1 Js (fun _ _ => 0) (by omega) (zF_lt (by omega)) hM
  have s0 : zu (zu J' 48 14 (nI nh)) 48 15 0 48 14 = nI nh := by rw [zu_col (by decide), zu_same]
  have eo : fX9_orders J L = fX9_orders_65 J2 L' := by
    rw [fX9_orders, ec]
    simp only [Option.bind_some]
    rw [j13, e14, s0, zif_t (zin_nI (by omega) (by omega)), nI_clamp (by omega), ← hJs]
    exact t1
  have er3 : fX3_read b I = fX3_read_29 b (fun v2 I => fX3_read_84 b v2 I) zF 0 0 I1 := by
    rw [fX3_read, er]
    simp only [Option.bind_some]
  have zF1 : 1100 < zF := zF_lt (by omega)
  have n00 : nI 0 = (0 : Int32) := rfl
  have cO : ∀ I', cFr I1 I' b 0 0 → cOut I I' b := fun I' h p y p1 p2 p3 p4 => by
    rw [h p y p1 p2 (by omega) (by omega) (by omega) (by omega), fI p y p1]
    by_cases h7 : p = 15
    · rw [zu_col (by omega), zu_row (by omega)]
    · rw [zu_row h7, zu_row (by omega)]
  have z0 : ∀ p y, ¬ (p = 48 ∧ y = 0) → zu J 48 0 0 p y = J p y := fun p y h => by
    by_cases h7 : p = 48
    · exact zu_col (by omega)
    · exact zu_row h7
  have rO : rOut J J2 nh := fun p y p1 p2 p3 p4 p5 => by
    by_cases h57 : p = 57
    · subst h57
      rw [t3 y (by omega), fs 57 y (by omega) (by omega), fJ 57 y (by omega), z0 _ _ (by omega)]
    · rw [t2 p y (by omega) h57 (by omega), fs p y (by omega) (by omega), fJ p y (by omega), z0 _ _ (by omega)]
  have k2 : J2 48 2 = 0 := by rw [t2 48 2 (by decide) (by decide) (by omega), fs 48 2 (by decide) (by omega)]; exact j2
  rcases t4 with ⟨f, I'', c'', ⟨f0, f1⟩, e8, q, c1, c2, cf, fr⟩ | ⟨I', G, j', n', c', hM', k0, jj, cc, nn, cr, fr, -, sq⟩
  · have e9 := cf (fun v2 I => fX3_read_84 b v2 I) zF 0 (Nat.le_refl _) (by omega)
    rw [n00] at e9
    have q37 : ∀ y, y = 37 ∨ y = 38 → J2 48 y = J 48 y := fun y hy => by rw [t2 48 y (by omega) (by omega) (by omega), fs 48 y (by omega) (by omega), fJ 48 y (by omega), z0 _ _ (by omega)]
    refine Or.inl ⟨f, I'', J2, L', ⟨f0, f1⟩, ?_, ?_, cO _ fr, rO, hK', k2, ?_, q37 37 (by omega), q37 38 (by omega)⟩
    · rw [er3, e9, fX3_read_84, if_neg (show ¬ nI f = 0 from nI_ne (b := 0) (by omega) (by omega) (by omega))]
    · rw [eo, fX9_orders_65, e8, if_neg (show ¬ nI f ≤ 0 from nI_ge (a := 0) f0 (by omega))]
    · rw [t2 48 13 (by decide) (by decide) (by omega), fs 48 13 (by decide) (by omega)]; exact j13
  · obtain ⟨hA', ⟨⟨-, -, -, -⟩, -, j8', jN⟩, hQ', cj, ⟨ib, n80, -⟩, ⟨id, -, -⟩⟩ := hM'
    obtain ⟨J3, m1, m2, m3, -, -, m4⟩ := em_r hQ' (by omega) 0 0 0
    obtain ⟨J4, hJ4⟩ : ∃ J4 : zPI, J4 = zu (zu (zu J3 48 13 (J3 48 14)) 48 37 (2200 * ((zu J3 48 13 (J3 48 14)) 48 13))) 48 38 0 := ⟨_, rfl⟩
    have f4 : ∀ p y, ¬ (p = 48 ∧ (y = 13 ∨ y = 37 ∨ y = 38)) → J4 p y = J3 p y := fun p y h => by
      rw [hJ4]
      by_cases h7 : p = 48
      · rw [zu_col (by omega), zu_col (by omega), zu_col (by omega)]
      · rw [zu_row h7, zu_row h7, zu_row h7]
    have eo2 : fX9_orders_65 J2 L' = some (0, J4, L') := by
      rw [fX9_orders_65, if_pos (show J2 48 8 ≤ 0 by rw [j8']; decide), m1, hJ4]
      rfl
    have sq' : SQ I' J4 b G (-1) 0 n' (2200 * nh + 0) (2200 * nh + c') := SQ_cong sq ⟨fun _ _ _ _ _ _ => rfl, fun _ _ _ => rfl⟩ (fun a y ha h1 h2 => by rw [f4 a y (by omega), m4 a y (by omega) (by omega)]) (fun _ _ _ _ => rfl)
    obtain ⟨I3, l1, l2, l3⟩ := lk_all (J := J4) (hh := nh) n80 (by omega) (by omega) sq' ib
    obtain ⟨fu', v3', v1, v2, ev⟩ := cr (fun v2 I => fX3_read_84 b v2 I) zF 0 (Nat.le_refl _) (by omega)
    rw [n00] at ev
    obtain ⟨fu, rfl, -⟩ := zsucc (show 0 < fu' by omega)
    have ov : fX3_isOver b I' = 1 := by
      rw [fX3_isOver, if_pos (show I' 13 2 = 0 from (cA_kind (c := 0) hA' (by decide)).2 k0), if_pos (show I' 15 2 = 0 from id)]
    have ecl : fX3_read b I = some (0, I3) := by
      rw [er3, ev, fX3_read_29, if_neg (show ¬ (1000 : Int32) < nI v3' from nI_nlt (a := 1000) (by omega) (by omega)), if_pos rfl, ov, if_neg (by decide), fX3_read_84, if_pos rfl, l1]
      rfl
    have hTX : TX I3 J4 nh b n' (Af G n' (2200 * nh + c')) (G 1) := TX_new nh2 n80 (by omega) (by omega) (SQ_cong sq' (cSt_7 l2) (fun _ _ _ _ _ => rfl) (fun _ _ _ _ => rfl)) (by rw [l2 b 0 (by omega)]; exact ib) (by rw [f4 _ _ (by omega)]; exact m3) l3
    have m14 : J3 48 14 = nI nh := m2.1
    refine Or.inr ⟨I3, J4, L', n', Af G n' (2200 * nh + c'), G 1, ecl, by rw [eo, eo2], ?_, ?_, hK', ?_, ?_, ?_, ?_, hTX, ?_⟩
    · intro p y p1 p2 p3 p4
      rw [l2 p y (by omega)]
      exact cO _ fr p y p1 p2 p3 p4
    · intro p y p1 p2 p3 p4 p5
      rw [f4 p y (by omega), m4 p y (by omega) (by omega)]
      exact rO p y p1 p2 p3 p4 p5
    · rw [f4 _ _ (by decide), m4 _ _ (by decide) (by omega)]; exact k2
    · rw [hJ4, zu_col (by decide), zu_col (by decide), zu_same]; exact m14
    · rw [hJ4, zu_col (by decide), zu_same, zu_same, m14, show (2200 : Int32) = nI 2200 from rfl, pk_mul]
    · rw [hJ4, zu_same]; rfl
    · obtain ⟨-, -, bk, -⟩ := sq'
      rcases bk with ⟨r1, r2⟩ | ⟨r1, r2⟩
      · rw [← r1, Af_eq]; omega
      · rw [Af_lt r1]; omega
