/-! THE LINKS -/
def Af (G : Nat → Nat → Nat) (cnt ce k : Nat) : Nat := if k = cnt then ce else G 0 k
def lkW (J : zPI) (hh cnt ce : Nat) (G : Nat → Nat → Nat) (x : Nat) (w : Int32) : Prop := ∃ a m, w = nI a ∧ a ≤ cnt ∧ m ≤ x + 1 ∧ Ld J hh m (G 2 x) (Af G cnt ce a)
theorem Af_lt {G : Nat → Nat → Nat} {cnt ce k : Nat} (h : k < cnt) : Af G cnt ce k = G 0 k := by
  unfold Af
  rw [if_neg (by omega)]
theorem Af_eq {G : Nat → Nat → Nat} {cnt ce : Nat} : Af G cnt ce cnt = ce := by
  unfold Af
  rw [if_pos rfl]
/-- a statement by its verb -/
theorem SF_8 {I J : zPI} {o lo hi top x : Nat} {G : Nat → Nat → Nat} (h : SF I J o G lo hi top x) (hv : I (o + 1) x = nI 8) : ∃ e, I (o + 6) x = nI e ∧ x < e ∧ e ≤ top ∧ (lo ≤ G 0 x ∧ G 0 x < G 2 x ∧ G 2 x ≤ hi) ∧ SFw I J o G 8 e x := by
  obtain ⟨v, e, h1, h2, h3, h4, h5, h6⟩ := h
  refine ⟨e, h2, h3, h4, h5, ?_⟩
  rcases h6 with h6 | h6 | h6
  · have := nI_inj (by have := h6.1; omega) (by omega) (h1.symm.trans hv)
    have := h6.1
    omega
  · have e8 := h6.1
    subst e8
    exact h6
  · have e7 := h6.1
    subst e7
    exact absurd (nI_inj (by omega) (by omega) (h1.symm.trans hv)) (by omega)
theorem SF_7 {I J : zPI} {o lo hi top x : Nat} {G : Nat → Nat → Nat} (h : SF I J o G lo hi top x) (hv : I (o + 1) x = nI 7) : ∃ e, I (o + 6) x = nI e ∧ x < e ∧ e ≤ top ∧ (lo ≤ G 0 x ∧ G 0 x < G 2 x ∧ G 2 x ≤ hi) ∧ SFi I J o G 7 e x := by
  obtain ⟨v, e, h1, h2, h3, h4, h5, h6⟩ := h
  refine ⟨e, h2, h3, h4, h5, ?_⟩
  rcases h6 with h6 | h6 | h6
  · have := nI_inj (by have := h6.1; omega) (by omega) (h1.symm.trans hv)
    have := h6.1
    omega
  · have e8 := h6.1
    subst e8
    exact absurd (nI_inj (by omega) (by omega) (h1.symm.trans hv)) (by omega)
  · have e7 := h6.1
    subst e7
    exact h6
/-- one link: what is written, and where it leads -/
theorem lk_one {I J : zPI} {o hh cnt cb ce x : Nat} {G : Nat → Nat → Nat} (c80 : cnt ≤ 80) (hlo : 2200 * hh ≤ cb) (hhi : ce < 2200 * hh + 2200) (h : SQ I J o G (-1) 0 cnt cb ce) (h0 : I o 0 = nI cnt) (hx : x < cnt) (hp : ∀ y, y < x → lkW J hh cnt ce G y (I (o + 7) y)) : ∃ w : Int32, (∀ K fu, fX5_link_2 o K (fu + 1) (nI x) I = fX5_link_2 o K fu (nI (x + 1)) (zu I (o + 7) x w)) ∧ lkW J hh cnt ce G x w := by
  obtain ⟨-, hce, -, hS⟩ := h
  obtain ⟨sx, px⟩ := hS x (Nat.zero_le _) hx
  have hz : zin (nI x) 80 = true := zin_nI (by omega) (by omega)
  have cl : (nI x).toNatClampNeg = x := nI_clamp (by omega)
  have hle : ¬ I o 0 ≤ nI x := by rw [h0]; exact nI_ge hx (by omega)
  have stop : ∀ e, I (o + 4) x = -1 → I (o + 6) x = nI e → ∀ K fu, fX5_link_2 o K (fu + 1) (nI x) I = fX5_link_2 o K fu (nI (x + 1)) (zu I (o + 7) x (nI e)) := by
    intro e h4 h6 K fu
    rw [fX5_link_2, if_neg hle, zif_t hz, cl, if_pos h4, zif_t hz, zif_t hz, h6, nI_1]
  rcases px with ⟨h4, e, h6, xe, ec, n1, n2⟩ | ⟨y, -, yx, h4, pn⟩
  · refine ⟨nI e, stop e h4 h6, e, 0, rfl, ec, by omega, ?_⟩
    show G 2 x = Af G cnt ce e
    by_cases he : e = cnt
    · rw [he, Af_eq]; exact n1 he
    · rw [Af_lt (by omega)]; exact (n2 (by omega)).symm
  · obtain ⟨sy, -⟩ := hS y (Nat.zero_le _) (by omega)
    have hzy : zin (nI y) 80 = true := zin_nI (by omega) (by omega)
    have cly : (nI y).toNatClampNeg = y := nI_clamp (by omega)
    -- with the block's end known
    have go : ∀ (be ce' e : Nat) (w : Int32), fX5_blockEnd o I (nI y) (nI x) = some (nI be) → be ≤ cnt → I (o + 6) x = nI e → e ≤ be → (e < be → G 0 e = G 2 x) → (e = be → (∀ K fu, (if I (o + 1) y = 8 then fX5_link_2 o K fu (nI (x + 1)) (zu I (o + 7) x (nI y)) else fX5_link_2 o K fu (nI (x + 1)) (zu I (o + 7) x (I (o + 7) y))) = fX5_link_2 o K fu (nI (x + 1)) (zu I (o + 7) x w)) ∧ lkW J hh cnt ce G x w) → ∃ w : Int32, (∀ K fu, fX5_link_2 o K (fu + 1) (nI x) I = fX5_link_2 o K fu (nI (x + 1)) (zu I (o + 7) x w)) ∧ lkW J hh cnt ce G x w := by
      intro be ce' e w hb hbc h6 heb hn hw
      have hst : ∀ K fu, fX5_link_2 o K (fu + 1) (nI x) I = (if nI e = nI be then (if I (o + 1) y = 8 then fX5_link_2 o K fu (nI (x + 1)) (zu I (o + 7) x (nI y)) else fX5_link_2 o K fu (nI (x + 1)) (zu I (o + 7) x (I (o + 7) y))) else fX5_link_2 o K fu (nI (x + 1)) (zu I (o + 7) x (nI e))) := by
        intro K fu
        rw [fX5_link_2, if_neg hle, zif_t hz, cl, if_neg (by rw [h4]; exact nI_m1 (by omega)), zif_t hz, h4, hb]
        simp only [Option.bind_some, hzy, hz, if_true, cly, h6, nI_1]
      by_cases he : e = be
      · obtain ⟨a1, a2⟩ := hw he
        exact ⟨w, fun K fu => by rw [hst, if_pos (by rw [he])]; exact a1 K fu, a2⟩
      · refine ⟨nI e, fun K fu => by rw [hst, if_neg (nI_ne (by omega) (by omega) he)], e, 0, rfl, by omega, by omega, ?_⟩
        show G 2 x = Af G cnt ce e
        rw [Af_lt (by omega)]
        exact (hn (by omega)).symm
    rcases pn with ⟨v8, e1, g6, e1c, xe1, e, h6, xe, ee1, n1, n2⟩ | ⟨v7, m, e1, g5, g6, me1, e1c, pn⟩
    · obtain ⟨e1', -, -, -, ⟨b1, b2, b3⟩, -, ⟨-, -, s1, s2, s3, -⟩, -, s4, s5, s6, -⟩ := SF_8 sy v8
      refine go e1 0 e (nI y) ?_ e1c h6 ee1 n2 (fun he => ⟨fun K fu => by rw [if_pos (by rw [v8]; rfl)], y, 1, rfl, by omega, by omega, ?_⟩)
      · rw [fX5_blockEnd, zif_t hzy, cly, if_neg (by rw [v8]; decide), zif_t hzy, g6]
      · rw [Af_lt (by omega), n1 he]
        exact ⟨⟨by omega, by omega⟩, s5, G 0 y, ⟨by omega, by omega⟩, s6, rfl⟩
    · obtain ⟨e1', g6', -, t1, ⟨b1, b2, b3⟩, -, ⟨-, -, s1, s2, s3, -⟩, m', g5', s4, s5, -, s7⟩ := SF_7 sy v7
      have em : m' = m := nI_inj (by omega) (by omega) (g5'.symm.trans g5)
      subst em
      obtain ⟨a, k, w1, w2, w3, w4⟩ := hp y yx
      have n8 : ¬ I (o + 1) y = 8 := by rw [v7]; decide
      rcases pn with ⟨xm, e, h6, xe, em, n1, n2⟩ | ⟨mx, xe1, e, h6, xe, em, n1, n2⟩
      · refine go m' 0 e (I (o + 7) y) ?_ (by omega) h6 em n2 (fun he => ⟨fun K fu => by rw [if_neg n8], ?_⟩)
        · rw [fX5_blockEnd, zif_t hzy, cly, if_pos (by rw [v7]; rfl), zif_t hzy, g5, if_neg (nI_ge xm (by omega)), zif_t hzy]
        · rcases s7 with ⟨-, q1, -⟩ | ⟨q1, q2, q3, -, -⟩
          · exact ⟨a, k, w1, w2, by omega, by rw [n1 he, ← q1]; exact w4⟩
          · exact ⟨a, k + 1, w1, w2, by omega, by rw [n1 he]; exact ⟨⟨by omega, by omega⟩, q2, G 2 y, ⟨by omega, by omega⟩, q3, w4⟩⟩
      · refine go e1 0 e (I (o + 7) y) ?_ (by omega) h6 em n2 (fun he => ⟨fun K fu => by rw [if_neg n8], ?_⟩)
        · rw [fX5_blockEnd, zif_t hzy, cly, if_pos (by rw [v7]; rfl), zif_t hzy, g5, if_pos (nI_le mx (by omega)), zif_t hzy, g6]
        · exact ⟨a, k, w1, w2, by omega, by rw [n1 he]; exact w4⟩
theorem cSt_7 {I I' : zPI} {o n top : Nat} (e : ∀ a b, a ≠ o + 7 → I' a b = I a b) : cSt I I' o n top := ⟨fun a b h1 h2 _ _ => e a b (by omega), fun b _ _ => e _ b (by omega)⟩
theorem lk_go {I J : zPI} {o hh cnt cb ce : Nat} {G : Nat → Nat → Nat} {K : zPI → Option zPI} (c80 : cnt ≤ 80) (hlo : 2200 * hh ≤ cb) (hhi : ce < 2200 * hh + 2200) (h : SQ I J o G (-1) 0 cnt cb ce) (h0 : I o 0 = nI cnt) : ∀ (k x fu : Nat) (I' : zPI), x + k = cnt → k < fu → (∀ a b, a ≠ o + 7 → I' a b = I a b) → (∀ y, y < x → lkW J hh cnt ce G y (I' (o + 7) y)) → ∃ I'', fX5_link_2 o K fu (nI x) I' = K I'' ∧ (∀ a b, a ≠ o + 7 → I'' a b = I a b) ∧ ∀ y, y < cnt → lkW J hh cnt ce G y (I'' (o + 7) y) := by
  intro k
  induction k with
  | zero =>
    intro x fu I' hx hf e hp
    obtain ⟨fu, rfl, -⟩ := zsucc hf
    exact ⟨I', by rw [fX5_link_2, if_pos (by rw [e o 0 (by omega), h0]; exact nI_le (by omega) (by omega))], e, fun y hy => hp y (by omega)⟩
  | succ k ih =>
    intro x fu I' hx hf e hp
    obtain ⟨fu, rfl, hf⟩ := zsucc hf
    obtain ⟨w, a1, a2⟩ := lk_one (x := x) c80 hlo hhi (SQ_cong h (cSt_7 e) (fun _ _ _ _ _ => rfl) (fun _ _ _ _ => rfl)) (by rw [e o 0 (by omega)]; exact h0) (by omega) hp
    obtain ⟨I'', b1, b2, b3⟩ := ih (x + 1) fu (zu I' (o + 7) x w) (by omega) (by omega) (fun a b ha => by rw [zu_row ha]; exact e a b ha) (fun y hy => by
      by_cases yx : y = x
      · rw [yx, zu_same]; exact a2
      · rw [zu_col yx]; exact hp y (by omega))
    exact ⟨I'', by rw [a1]; exact b1, b2, b3⟩
theorem lk_all {I J : zPI} {o hh cnt cb ce : Nat} {G : Nat → Nat → Nat} (c80 : cnt ≤ 80) (hlo : 2200 * hh ≤ cb) (hhi : ce < 2200 * hh + 2200) (h : SQ I J o G (-1) 0 cnt cb ce) (h0 : I o 0 = nI cnt) : ∃ I'', fX5_link o I = some I'' ∧ (∀ a b, a ≠ o + 7 → I'' a b = I a b) ∧ ∀ y, y < cnt → lkW J hh cnt ce G y (I'' (o + 7) y) := by
  unfold fX5_link
  exact lk_go (K := fun I => some I) c80 hlo hhi h h0 cnt 0 zF I (by omega) (zF_lt (by omega)) (fun _ _ _ => rfl) (fun y hy => absurd hy (by omega))
