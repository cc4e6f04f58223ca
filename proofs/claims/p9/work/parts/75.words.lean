/-! WORDS AND SIGNS -/
theorem fd_inj {g g' : Nat → Nat} : ∀ k k' p p', (∀ x, x < k → 1 ≤ g (p + x) ∧ g (p + x) < 37) → (∀ x, x < k' → 1 ≤ g' (p' + x) ∧ g' (p' + x) < 37) → fd 37 g k p 0 = fd 37 g' k' p' 0 → k = k' ∧ ∀ x, x < k → g (p + x) = g' (p' + x) := by
  intro k
  induction k with
  | zero =>
    intro k' p p' h1 h2 h
    cases k' with
    | zero => exact ⟨rfl, fun x hx => absurd hx (by omega)⟩
    | succ k' =>
      rw [fd_snoc] at h
      have := h2 k' (by omega)
      rw [fd] at h
      omega
  | succ k ih =>
    intro k' p p' h1 h2 h
    cases k' with
    | zero =>
      rw [fd_snoc] at h
      have := h1 k (by omega)
      rw [show fd 37 g' 0 p' 0 = 0 from rfl] at h
      omega
    | succ k' =>
      rw [fd_snoc, fd_snoc] at h
      have a1 := h1 k (by omega)
      have a2 := h2 k' (by omega)
      obtain ⟨e, h9⟩ := ih k' p p' (fun x hx => h1 x (by omega)) (fun x hx => h2 x (by omega)) (by omega)
      subst e
      refine ⟨rfl, fun x hx => ?_⟩
      by_cases ex : x = k
      · subst ex; omega
      · exact h9 x (by omega)
theorem fd_cong {b : Nat} {g g' : Nat → Nat} : ∀ k p p' v, (∀ x, x < k → g (p + x) = g' (p' + x)) → fd b g k p v = fd b g' k p' v := by
  intro k
  induction k with
  | zero => intro p p' v h; rfl
  | succ k ih =>
    intro p p' v h
    rw [fd_snoc, fd_snoc, ih p p' v (fun x hx => h x (by omega)), h k (by omega)]
def hvL : List Nat := [26216, 333345, 4661561, 932886, 36629167, 153784, 1166741, 339, 270401, 43523697, 12029519, 329128, 1976958, 36426541, 237233349, 426554, 628412]
def hv (w : Nat) : Nat := hvL.getD w 0
/-- the class's word u among the reference's words -/
def um (u : Nat) : Nat := if u = 0 then 8 else if u < 9 then u - 1 else u
def wl (u : Nat) : Nat := (zwd u).length
def wc (u y : Nat) : Nat := ((zwd u).getD y 0).toNatClampNeg
theorem w_tab : ∀ u, u < 17 → wl u ≤ 8 ∧ (zwd u).length = wl u ∧ hv (um u) = fd 37 (fun y => wc u y - 96) (wl u) 0 0 ∧ um u < 17 ∧ ∀ y, y < 8 → y < wl u → 97 ≤ wc u y ∧ wc u y ≤ 122 ∧ zch (zwd u) (nI y) = nI (wc u y) := by decide +kernel
theorem hv_lt : ∀ w, w < 17 → hv w < 1000000000 := by decide +kernel
theorem hv_inj : ∀ w, w < 17 → ∀ w', w' < 17 → hv w = hv w' → w = w' := by decide +kernel
abbrev isw (ch : Nat → Nat) (t j w : Nat) : Prop := kd ch t j = 2 ∧ vl ch t j = hv w
theorem kd_facts (ch : Nat → Nat) (t j : Nat) : kd ch t j < 200 ∧ (kd ch t j = 2 → pl ch t j < tps ch t (j + 1) ∧ tps ch t (j + 1) - pl ch t j ≤ 8 ∧ vl ch t j = fd 37 (fun x => ch x - 96) (tps ch t (j + 1) - pl ch t j) (pl ch t j) 0 ∧ (∀ x, pl ch t j ≤ x → x < tps ch t (j + 1) → 97 ≤ ch x ∧ ch x ≤ 122) ∧ vl ch t j < 10000000000000) ∧ (kd ch t j = 3 → vl ch t j < 100000) ∧ (3 < kd ch t j → vl ch t j = kd ch t j) := by
  obtain ⟨s, hs⟩ : ∃ s, s = pl ch t j := ⟨_, rfl⟩
  have hp := skp_b ch (tps_le ch t j)
  rw [show skp ch t (tps ch t j) = s from hs.symm] at hp
  have kE : tkS ch t s = (kd ch t j, tps ch t (j + 1), vl ch t j) := by
    rw [hs]
    rfl
  rw [← hs]
  unfold tkS at kE
  by_cases c1 : t ≤ s
  · rw [if_pos c1] at kE
    simp only [Prod.mk.injEq] at kE
    omega
  rw [if_neg c1] at kE
  by_cases c2 : s < enL ch t s
  · rw [if_pos c2] at kE
    simp only [Prod.mk.injEq] at kE
    obtain ⟨k1, k2, k3⟩ := kE
    by_cases c3 : enL ch t s - s ≤ 8
    · rw [if_pos c3] at k1
      have hl : ∀ x, s ≤ x → x < enL ch t s → 97 ≤ ch x ∧ ch x ≤ 122 := fun x h1 h2 => by
        have := rn_in (qL ch) (t - s) s x h1 h2
        simpa [qL] using this
      refine ⟨by omega, fun _ => ?_, by omega, by omega⟩
      rw [← k2, ← k3]
      refine ⟨c2, c3, rfl, hl, ?_⟩
      have b := fd_bound 37 (fun x => ch x - 96) (by decide) (enL ch t s - s) s (fun x hx => by
        have := hl (s + x) (by omega) (by omega)
        omega)
      have : (37 : Nat) ^ (enL ch t s - s) ≤ 37 ^ 8 := Nat.pow_le_pow_right (by decide) c3
      have e8 : (37 : Nat) ^ 8 = 3512479453921 := by decide
      omega
    · rw [if_neg c3] at k1
      omega
  rw [if_neg c2] at kE
  by_cases c3 : s < enD ch t s
  · rw [if_pos c3] at kE
    simp only [Prod.mk.injEq] at kE
    obtain ⟨k1, k2, k3⟩ := kE
    by_cases c4 : enD ch t s - s ≤ 5
    · rw [if_pos c4] at k1
      refine ⟨by omega, by omega, fun _ => ?_, by omega⟩
      rw [← k3]
      have b := fd_bound 10 (fun x => ch x - 48) (by decide) (enD ch t s - s) s (fun x hx => by
        have := rn_in (qD ch) (t - s) s (s + x) (by omega) (by unfold enD at hx; omega)
        simp [qD] at this
        omega)
      have : (10 : Nat) ^ (enD ch t s - s) ≤ 10 ^ 5 := Nat.pow_le_pow_right (by decide) c4
      omega
    · rw [if_neg c4] at k1
      omega
  rw [if_neg c3] at kE
  simp only [Prod.mk.injEq] at kE
  obtain ⟨k1, k2, k3⟩ := kE
  by_cases c4 : isSg (ch s) = true
  · rw [if_pos c4] at k1
    have : ch s < 200 ∧ 3 < ch s := by
      simp only [isSg, Bool.or_eq_true, decide_eq_true_eq] at c4
      omega
    omega
  · rw [if_neg c4] at k1
    omega
/-- the class stands at token j -/
def cA (I : zPI) (ch : Nat → Nat) (t j : Nat) : Prop := zTC I (t, ch) ∧ I 13 2 = nI (kd ch t j) ∧ I 13 3 = nI (pl ch t j) ∧ I 13 5 = nI (tps ch t (j + 1)) ∧ (kd ch t j = 3 → I 13 4 = nI (vl ch t j))
theorem cA_cong {I I' : zPI} {ch : Nat → Nat} {t j : Nat} (h : cA I ch t j) (e1 : ∀ b, I' 13 b = I 13 b) (e2 : ∀ b, I' 14 b = I 14 b) : cA I' ch t j := ⟨zTC_cong h.1 (e1 1) e2, by rw [e1]; exact h.2.1, by rw [e1]; exact h.2.2.1, by rw [e1]; exact h.2.2.2.1, fun h9 => by rw [e1]; exact h.2.2.2.2 h9⟩
theorem cA_adv {I : zPI} {ch : Nat → Nat} {t j : Nat} (h : cA I ch t j) : ∃ I', fX6_advance I = some I' ∧ cA I' ch t (j + 1) ∧ (∀ a b, a ≠ 13 → I' a b = I a b) := by
  obtain ⟨I', h1, h2, h3, h4, h5, h6⟩ := lx_adv h.1 h.2.2.2.1 (tps_le ch t (j + 1))
  exact ⟨I', h1, ⟨zTC_cong h.1 (h6 13 1 (by decide)) (fun b => h6 14 b (by omega)), h2, h3, h4, h5⟩, fun a b ha => h6 a b (by omega)⟩
theorem cA_rew {I : zPI} {ch : Nat → Nat} {t : Nat} (h : zTC I (t, ch)) : ∃ I', fX6_rewind I = some I' ∧ cA I' ch t 0 ∧ (∀ a b, a ≠ 13 → I' a b = I a b) := by
  obtain ⟨I', h1, h2, h3, h4, h5, h6⟩ := lx_adv (I := zu I 13 5 0) (p := 0) (zTC_cong h (zu_col (by decide)) (fun b => zu_row (by decide))) (by rw [zu_same]; rfl) (by omega)
  refine ⟨I', ?_, ⟨zTC_cong h (by rw [h6 13 1 (by decide), zu_col (by decide)]) (fun b => by rw [h6 14 b (by omega), zu_row (by decide)]), h2, h3, h4, h5⟩, fun a b ha => by rw [h6 a b (by omega), zu_row ha]⟩
  rw [fX6_rewind, h1]
  rfl
theorem cA_kind {I : zPI} {ch : Nat → Nat} {t j c : Nat} (h : cA I ch t j) (hc : c < 200) : I 13 2 = nI c ↔ kd ch t j = c := by
  rw [h.2.1]
  have := (kd_facts ch t j).1
  exact ⟨fun e => nI_inj (by omega) (by omega) e, fun e => by rw [e]⟩
theorem sp_28 {I : zPI} {ch : Nat → Nat} {t s u : Nat} (hT : zTC I (t, ch)) (h3 : I 13 3 = nI s) (hu : u < 17) (hs : s + wl u ≤ t) : ∀ (m fu x : Nat), x + m = wl u → m < fu → fX6_spells_28 u I (some 1) fu (nI x) = some (if ∀ y, y < m → ch (s + (x + y)) = wc u (x + y) then 1 else 0) := by
  obtain ⟨a1, a2, a3, a4, a5⟩ := w_tab u hu
  have ht : t ≤ 1000 := hT.2.1
  intro m
  induction m with
  | zero =>
    intro fu x hx hf
    obtain ⟨fu, rfl, -⟩ := zsucc hf
    rw [fX6_spells_28, a2, if_pos (show Int32.ofNat (wl u) ≤ nI x from nI_le (a := wl u) (b := x) (by omega) (by omega)), if_pos (fun y hy => absurd hy (by omega))]
  | succ m ih =>
    intro fu x hx hf
    obtain ⟨fu, rfl, hf⟩ := zsucc hf
    obtain ⟨c1, c2⟩ := hT.2.2 (s + x) (by simp only; omega)
    simp only at c1 c2
    obtain ⟨b1, b2, b3⟩ := a5 x (by omega) (by omega)
    have hcb : ch (s + x) < 200 := by unfold tpOk at c2; omega
    rw [fX6_spells_28, a2, if_neg (show ¬ Int32.ofNat (wl u) ≤ nI x from nI_ge (a := x) (b := wl u) (by omega) (by omega)), h3, nI_add, zif_t (zin_nI (by omega) (by omega)), zif_t (zin_nI (by omega) (by omega)), nI_clamp (by omega), c1, b3, nI_1]
    by_cases e : ch (s + x) = wc u x
    · rw [if_pos (by rw [e]), ih fu (x + 1) (by omega) (by omega)]
      congr 1
      by_cases q : ∀ y, y < m → ch (s + (x + 1 + y)) = wc u (x + 1 + y)
      · rw [if_pos q, if_pos]
        intro y hy
        cases y with
        | zero => exact e
        | succ y => rw [show x + (y + 1) = x + 1 + y from by omega]; exact q y (by omega)
      · rw [if_neg q, if_neg]
        intro h9
        apply q
        intro y hy
        rw [show x + 1 + y = x + (y + 1) from by omega]
        exact h9 (y + 1) (by omega)
    · rw [if_neg (nI_ne (by omega) (by omega) e), if_neg (fun h9 => e (h9 0 (by omega)))]
theorem sp_c {I : zPI} {ch : Nat → Nat} {t j u : Nat} (h : cA I ch t j) (hu : u < 17) : fX6_spells u I = some (if isw ch t j (um u) then 1 else 0) := by
  obtain ⟨a1, a2, a3, a4, a5⟩ := w_tab u hu
  obtain ⟨f1, f2, -, -⟩ := kd_facts ch t j
  have ht : t ≤ 1000 := h.1.2.1
  have he := tps_le ch t (j + 1)
  unfold fX6_spells isw
  by_cases k : kd ch t j = 2
  · obtain ⟨g1, g2, g3, g4, -⟩ := f2 k
    rw [if_pos (show I 13 2 = 2 from (cA_kind (c := 2) h (by decide)).2 k), h.2.2.2.1, h.2.2.1, a2, pk_sub (by omega)]
    by_cases e : tps ch t (j + 1) - pl ch t j = wl u
    · rw [if_pos (by rw [e]; rfl)]
      refine (sp_28 h.1 h.2.2.1 hu (by omega) (wl u) zF 0 (by omega) (zF_lt (by omega))).trans ?_
      congr 1
      by_cases q : ∀ y, y < wl u → ch (pl ch t j + (0 + y)) = wc u (0 + y)
      · rw [if_pos q, if_pos]
        refine ⟨k, ?_⟩
        rw [g3, a3, e]
        refine fd_cong _ _ _ _ (fun x hx => ?_)
        have := q x hx
        rw [Nat.zero_add] at this
        simp only [Nat.zero_add]
        omega
      · rw [if_neg q, if_neg]
        rintro ⟨-, h9⟩
        rw [g3, a3] at h9
        obtain ⟨-, h8⟩ := fd_inj _ _ _ _ (fun x hx => by
            have := g4 (pl ch t j + x) (by omega) (by omega)
            omega) (fun x hx => by
            have := a5 x (by omega) hx
            simp only [Nat.zero_add]
            omega) h9
        apply q
        intro y hy
        have b1 := h8 y (by omega)
        have b2 := g4 (pl ch t j + y) (by omega) (by omega)
        have b3 := a5 y (by omega) hy
        simp only [Nat.zero_add] at b1 ⊢
        omega
    · rw [if_neg (show ¬ nI (tps ch t (j + 1) - pl ch t j) = Int32.ofNat (wl u) from nI_ne (b := wl u) (by omega) (by omega) e), if_neg]
      rintro ⟨-, h9⟩
      rw [g3, a3] at h9
      obtain ⟨h8, -⟩ := fd_inj _ _ _ _ (fun x hx => by
            have := g4 (pl ch t j + x) (by omega) (by omega)
            omega) (fun x hx => by
            have := a5 x (by omega) hx
            simp only [Nat.zero_add]
            omega) h9
      exact e h8
  · rw [if_neg (show ¬ I 13 2 = 2 from fun h9 => k ((cA_kind (c := 2) h (by decide)).1 h9)), if_neg (fun h9 => k h9.1)]
theorem srt_c : ∀ k, k < 200 → (nI (srt k) = 0 ↔ k = 0) ∧ (nI (srt k) = 1 ↔ k = 2) ∧ (nI (srt k) = 2 ↔ k = 3) ∧ (nI (srt k) = 3 ↔ 3 < k) := by decide +kernel
/-- the reference stands at token j, without a fault; N: its last token -/
def rK (L : zPL) : Prop := ∀ w, w < 17 → L 53 w = nL (hv w)
def rA (J : zPI) (L : zPL) (ch : Nat → Nat) (t N j : Nat) : Prop := (rTb J L ch t (N + 1) ∧ rK L ∧ N ≤ 1000 ∧ kd ch t N = 0) ∧ J 48 7 = nI j ∧ J 48 8 = 0 ∧ j ≤ N
theorem sp_r {J : zPI} {L : zPL} {ch : Nat → Nat} {t N j w : Nat} (h : rA J L ch t N j) (hw : w < 17) : fX9_isWord J L (nI w) = some (if isw ch t j w then 1 else 0) := by
  obtain ⟨⟨h1, h2, h3, h4⟩, h5, h6, h7⟩ := h
  obtain ⟨b1, b2, b3⟩ := h1 j (by omega)
  obtain ⟨f1, f2, -, -⟩ := kd_facts ch t j
  have hz : zin (nI j) 1002 = true := zin_nI (by omega) (by omega)
  rw [fX9_isWord, h6, if_pos rfl, h5, zif_t hz, nI_clamp (by omega), b1]
  unfold isw
  by_cases k : kd ch t j = 2
  · rw [k, if_pos (show nI (srt 2) = 1 from rfl), zif_t hz, zif_t (zin_nI hw (by omega)), nI_clamp (by omega), b3 (by omega), h2 w hw]
    have hw9 := hv_lt w hw
    by_cases e : vl ch t j = hv w
    · rw [e, if_pos ((zcmp_eq _ _).2 rfl), if_pos ⟨rfl, rfl⟩]
    · rw [if_neg (fun h9 => e (nL_inj (by have := (f2 k).2.2.2.2; omega) (by omega) ((zcmp_eq _ _).1 h9))), if_neg (fun h9 => e h9.2)]
  · have : ¬ nI (srt (kd ch t j)) = 1 := fun h9 => k ((srt_c _ f1).2.1.1 h9)
    rw [if_neg this, if_neg (fun h9 => k h9.1)]
theorem sg_r {J : zPI} {L : zPL} {ch : Nat → Nat} {t N j c : Nat} (h : rA J L ch t N j) (hc : 3 < c ∧ c < 200) : fX9_isSign J L (nI c) = some (if kd ch t j = c then 1 else 0) := by
  obtain ⟨⟨h1, h2, h3, h4⟩, h5, h6, h7⟩ := h
  obtain ⟨b1, b2, b3⟩ := h1 j (by omega)
  obtain ⟨f1, -, -, f4⟩ := kd_facts ch t j
  have hz : zin (nI j) 1002 = true := zin_nI (by omega) (by omega)
  rw [fX9_isSign, h6, if_pos rfl, h5, zif_t hz, nI_clamp (by omega), b1]
  by_cases k : 3 < kd ch t j
  · rw [if_pos ((srt_c _ f1).2.2.2.2 k), zif_t hz, b3 (by omega), nL_of _ (by omega), f4 k]
    by_cases e : kd ch t j = c
    · rw [e, if_pos ((zcmp_eq _ _).2 rfl), if_pos rfl]
    · rw [if_neg (fun h9 => e (nL_inj (by omega) (by omega) ((zcmp_eq _ _).1 h9))), if_neg e]
  · have : ¬ nI (srt (kd ch t j)) = 3 := fun h9 => k ((srt_c _ f1).2.2.2.1 h9)
    rw [if_neg this, if_neg (by omega)]
/-- the sort of the reference's token, asked for END and for NUMBER -/
theorem so_r {J : zPI} {L : zPL} {ch : Nat → Nat} {t N j : Nat} (h : rA J L ch t N j) : (J 50 j = 0 ↔ kd ch t j = 0) ∧ (J 50 j = 2 ↔ kd ch t j = 3) ∧ J 51 j = nI (pl ch t j) ∧ zin (J 48 7) 1002 = true ∧ (J 48 7).toNatClampNeg = j ∧ (1 < kd ch t j → L 52 j = nL (vl ch t j)) := by
  obtain ⟨⟨h1, h2, h3, h4⟩, h5, h6, h7⟩ := h
  obtain ⟨b1, b2, b3⟩ := h1 j (by omega)
  have f1 := srt_c _ (kd_facts ch t j).1
  exact ⟨by rw [b1]; exact f1.1, by rw [b1]; exact f1.2.2.1, b2, by rw [h5]; exact zin_nI (by omega) (by omega), by rw [h5]; exact nI_clamp (by omega), b3⟩
