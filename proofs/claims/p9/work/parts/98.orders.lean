/-! THE NEW TEXT -/
theorem wt_while {I : zPI} {o x e : Nat} (hx : x < 80) (v8 : I (o + 1) x = nI 8) (h6 : I (o + 6) x = nI e) (he : e ≤ 80) : fX5_whenTrue o I (nI x) = some (if e ≤ x + 1 then nI x else nI (x + 1)) := by
  have hz : zin (nI x) 80 = true := zin_nI (by omega) (by omega)
  have cl : (nI x).toNatClampNeg = x := nI_clamp (by omega)
  rw [fX5_whenTrue, zif_t hz, cl, if_pos (by rw [v8]; rfl), zif_t hz, h6, nI_1]
  by_cases c : e ≤ x + 1
  · rw [if_pos (nI_le c (by omega)), if_pos c]
  · rw [if_neg (nI_ge (by omega) (by omega)), if_neg c]
theorem wt_if {I : zPI} {o x m : Nat} (hx : x < 80) (v7 : I (o + 1) x = nI 7) (h5 : I (o + 5) x = nI m) (he : m ≤ 80) : fX5_whenTrue o I (nI x) = some (if m ≤ x + 1 then I (o + 7) x else nI (x + 1)) := by
  have hz : zin (nI x) 80 = true := zin_nI (by omega) (by omega)
  have cl : (nI x).toNatClampNeg = x := nI_clamp (by omega)
  rw [fX5_whenTrue, zif_t hz, cl, if_neg (by rw [v7]; decide), zif_t hz, h5, nI_1]
  by_cases c : m ≤ x + 1
  · rw [if_pos (nI_le c (by omega)), if_pos c, zif_t hz]
  · rw [if_neg (nI_ge (by omega) (by omega)), if_neg c]
theorem wf_while {I : zPI} {o x : Nat} (hx : x < 80) (v8 : I (o + 1) x = nI 8) : fX5_whenFalse o I (nI x) = some (I (o + 7) x) := by
  have hz : zin (nI x) 80 = true := zin_nI (by omega) (by omega)
  have cl : (nI x).toNatClampNeg = x := nI_clamp (by omega)
  rw [fX5_whenFalse, zif_t hz, cl, if_neg (by rw [v8]; decide), zif_t hz]
theorem wf_if {I : zPI} {o x m e : Nat} (hx : x < 80) (v7 : I (o + 1) x = nI 7) (h5 : I (o + 5) x = nI m) (h6 : I (o + 6) x = nI e) (he : e ≤ 80) (hm : m ≤ 80) : fX5_whenFalse o I (nI x) = some (if e ≤ m then I (o + 7) x else nI m) := by
  have hz : zin (nI x) 80 = true := zin_nI (by omega) (by omega)
  have cl : (nI x).toNatClampNeg = x := nI_clamp (by omega)
  rw [fX5_whenFalse, zif_t hz, cl, if_pos (by rw [v7]; rfl), zif_t hz, zif_t hz, h5, h6]
  by_cases c : e ≤ m
  · rw [if_pos (nI_le c (by omega)), if_pos c, zif_t hz]
  · rw [if_neg (nI_ge (by omega) (by omega)), if_neg c, zif_t hz]
theorem TX_new {I J : zPI} {o hh cnt cb ce : Nat} {G : Nat → Nat → Nat} (h2 : hh < 2) (c80 : cnt ≤ 80) (hlo : 2200 * hh ≤ cb) (hhi : ce < 2200 * hh + 2200) (h : SQ I J o G (-1) 0 cnt cb ce) (h0 : I o 0 = nI cnt) (hE : J 54 ce = 0) (hl : ∀ y, y < cnt → lkW J hh cnt ce G y (I (o + 7) y)) : TX I J hh o cnt (Af G cnt ce) (G 1) := by
  obtain ⟨-, hce, -, hS⟩ := h
  refine ⟨h0, ⟨c80, h2⟩, by rw [Af_eq]; exact ⟨by omega, hhi⟩, by rw [Af_eq]; exact hE, fun x hx => ?_⟩
  obtain ⟨sx, -⟩ := hS x (Nat.zero_le _) hx
  obtain ⟨a, k, w1, w2, w3, w4⟩ := hl x hx
  unfold TXs
  rw [Af_lt hx]
  obtain ⟨v, e, h1, h6, xe, ec, ⟨b1, b2, b3⟩, sx⟩ := sx
  have LA : LdE J hh (G 2 x) (Af G cnt ce a) := ⟨k, by omega, w4⟩
  rcases sx with ⟨v7, ex, g2, f, s, i2, i3, ⟨q1, q2, q3⟩, c1, c2, c3⟩ | ⟨rfl, ⟨⟨fk, f3, i2, ex⟩, i3, s1, s2, s3, j11⟩, ju, g2, j12, jj, bl⟩ | ⟨rfl, ⟨⟨fk, f3, i2, ex⟩, i3, s1, s2, s3, j11⟩, m, h5, xm, me, bl, alt⟩
  · refine ⟨⟨by omega, by omega⟩, v, f, s, a, h1, i2, i3, w1, w2, ?_⟩
    rw [g2] at LA
    have i1 : inH hh (G 0 x + 1) := ⟨by omega, by omega⟩
    by_cases v4 : v < 4
    · refine Or.inl ⟨v4, ?_, q3, ?_, ?_, ?_, i1, LA⟩
      · unfold hiO at q2
        unfold zlim
        by_cases y1 : v < 2
        · rw [if_pos y1] at q2
          rw [if_pos y1]
          omega
        · rw [if_neg y1] at q2
          rw [if_neg y1]
          by_cases y2 : v = 2
          · rw [if_pos y2] at q2
            rw [if_pos y2]
            omega
          · rw [if_neg y2, if_pos (by omega)] at q2
            rw [if_neg y2]
            omega
      · rw [c1, opW, if_pos v4]
      · rw [c2, if_pos v4, show (32 : Int32) = nI 32 from rfl, pk_mul, nI_add]
      · rw [c3, if_pos v4]
    · have : v = 4 ∨ v = 5 ∨ v = 6 := by omega
      rw [if_neg v4] at c2
      rcases this with rfl | rfl | rfl
      · exact Or.inr (Or.inl ⟨rfl, by have : hiO 4 = 31 := rfl
                                      omega, c1, c2, i1, LA⟩)
      · exact Or.inr (Or.inr (Or.inl ⟨rfl, by have : hiO 5 = 2 := rfl
                                              omega, c1, c2, i1, LA⟩))
      · exact Or.inr (Or.inr (Or.inr (Or.inl ⟨rfl, by have : loO 6 = 1 := rfl
                                                      omega, by have : hiO 6 = 999 := rfl
                                                                omega, c1, c2, i1, LA⟩)))
  · refine ⟨⟨by omega, by omega⟩, 8, fk, 0, a, h1, i2, i3, w1, w2, Or.inr (Or.inr (Or.inr (Or.inr ⟨Or.inr rfl, f3, ⟨by omega, by omega⟩, s1, ex, j11, ?_⟩)))⟩
    have t1 := wt_while (o := o) (by omega) h1 h6 (by omega)
    have t2 := wf_while (o := o) (I := I) (x := x) (by omega) h1
    rw [w1] at t2
    rcases bl with ⟨l1, l2⟩ | ⟨l1, l2⟩
    · rw [if_pos (by omega)] at t1
      refine ⟨x, a, G 2 x, by omega, w2, t1, t2, ⟨by omega, by omega⟩, ju, ⟨1, by omega, ?_⟩, LA⟩
      rw [Af_lt hx, l2]
      exact ⟨⟨by omega, by omega⟩, j12, G 0 x, ⟨by omega, by omega⟩, jj, rfl⟩
    · rw [if_neg (by omega)] at t1
      refine ⟨x + 1, a, G 2 x, by omega, w2, t1, t2, ⟨by omega, by omega⟩, ju, ⟨0, by omega, ?_⟩, LA⟩
      show G 1 x + 1 = Af G cnt ce (x + 1)
      rw [Af_lt (by omega)]
      exact l2.symm
  · refine ⟨⟨by omega, by omega⟩, 7, fk, 0, a, h1, i2, i3, w1, w2, Or.inr (Or.inr (Or.inr (Or.inr ⟨Or.inl rfl, f3, ⟨by omega, by omega⟩, s1, ex, j11, ?_⟩)))⟩
    have t1 := wt_if (o := o) (by omega) h1 h5 (by omega)
    have t2 := wf_if (o := o) (by omega) h1 h5 h6 (by omega) (by omega)
    rw [w1] at t1 t2
    -- behind the first block
    have L3 : LdE J hh (G 3 x) (Af G cnt ce a) := by
      rcases alt with ⟨-, r2, -⟩ | ⟨r1, r2, r3, -, -⟩
      · rw [← r2]; exact LA
      · exact ⟨k + 1, by omega, ⟨by omega, by omega⟩, r2, G 2 x, ⟨by omega, by omega⟩, r3, w4⟩
    have T : ∃ wt, wt ≤ cnt ∧ fX5_whenTrue o I (nI x) = some (nI wt) ∧ LdE J hh (G 1 x + 1) (Af G cnt ce wt) := by
      rcases bl with ⟨l1, l2⟩ | ⟨l1, l2⟩
      · rw [if_pos (by omega)] at t1
        exact ⟨a, w2, t1, by rw [l2]; exact L3⟩
      · rw [if_neg (by omega)] at t1
        exact ⟨x + 1, by omega, t1, 0, by omega, by rw [Af_lt (by omega)]; exact l2.symm⟩
    obtain ⟨wt, d1, d2, d3⟩ := T
    rcases alt with ⟨r1, r2, r3⟩ | ⟨r1, r2, r3, r4, r5⟩
    · rw [if_pos (by omega)] at t2
      exact ⟨wt, a, G 2 x, d1, w2, d2, t2, ⟨by omega, by omega⟩, r3, d3, LA⟩
    · rcases r5 with ⟨l1, l2⟩ | ⟨l1, l2⟩
      · rw [if_pos (by omega)] at t2
        exact ⟨wt, a, G 3 x + 1, d1, w2, d2, t2, ⟨by omega, by omega⟩, r4, d3, by rw [l2]; exact LA⟩
      · rw [if_neg (by omega)] at t2
        exact ⟨wt, m, G 3 x + 1, d1, by omega, d2, t2, ⟨by omega, by omega⟩, r4, d3, 0, by omega, by rw [Af_lt (by omega)]; exact l2.symm⟩
