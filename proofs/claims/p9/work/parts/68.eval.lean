/-! the reference reckons an E -/
def rS (J0 J : zPI) (p t : Nat) : Prop := (∀ a b, ¬ (a = 70 ∨ (a = 48 ∧ (b = 37 ∨ b = 46))) → J a b = J0 a b) ∧ J 48 37 = nI p ∧ J 48 46 = nI t
/-- the loop runs on: fewer than 60 done, no wait -/
def rRun (J : zPI) (v : Int32) : Prop := (¬ 60 ≤ v) ∧ ¬ J 48 29 < J 48 38
theorem rRun_cong {J J' : zPI} {v : Int32} (h : rRun J v) (e1 : J' 48 29 = J 48 29) (e2 : J' 48 38 = J 48 38) : rRun J' v := ⟨h.1, by rw [e1, e2]; exact h.2⟩
theorem zu_eq {I : zPI} {o k : Nat} {x : Int32} (h : I o k = x) : zu I o k x = I := by rw [← h]; exact zu_self I o k
theorem ex_jumps {K : zPI → Option zPI} {v : Int32} {hh : Nat} (hh2 : hh < 2) : ∀ (n fu p q : Nat) (J : zPI), Ld J hh n p q → rRun J v → J 48 37 = nI p → fX9_carries_2 K (fu + n) v J = fX9_carries_2 K fu v (zu J 48 37 (nI q)) := by
  intro n
  induction n with
  | zero =>
    intro fu p q J h hr hp
    have : p = q := h
    subst this
    rw [zu_eq hp]
    rfl
  | succ n ih =>
    intro fu p q J h hr hp
    obtain ⟨h1, h2, p', h3, h4, h5⟩ := h
    have hz : zin (nI p) 4400 = true := zin_nI (by omega) (by omega)
    have h9 := ih fu p' q (zu J 48 37 (nI p')) (Ld_cong (fun a ha b => zu_row (by omega)) n p' q h5) (rRun_cong hr (zu_col (by decide)) (zu_col (by decide))) zu_same
    have e : zu (zu J 48 37 (nI p')) 48 37 (nI q) = zu J 48 37 (nI q) := by
      funext a b
      simp only [zu]
      by_cases c1 : a = 48
      · by_cases c2 : b = 37 <;> simp [c1, c2]
      · simp [c1]
    rw [e] at h9
    rw [show fu + (n + 1) = (fu + n) + 1 by omega, fX9_carries_2, if_neg hr.1, if_neg hr.2, hp]
    simp only [hz, if_true]
    rw [nI_clamp (by omega), h2, if_neg (by decide), if_pos rfl, h4]
    exact h9
theorem ex_push {K : zPI → Option zPI} {v : Int32} {J0 J : zPI} {m pt fo c p t : Nat} {sp g : Int32} (hX : rX J0 m pt fo c sp g) (ht : tok J0 p) (hp : p < 4400) (ht9 : t < 1000) (hS : rS J0 J p t) (hr : rRun J0 v) :
    ∃ J', (∀ fu, fX9_carries_2 K (fu + 1) v J = fX9_carries_2 K fu v J') ∧ rS J0 J' (p + 1) (t + 1) ∧ J' 70 t = iI (tv J0 (zVl m pt fo c sp g) p) ∧ (∀ b, b ≠ t → J' 70 b = J 70 b) := by
  obtain ⟨s1, s2, s3⟩ := hS
  have hz : zin (nI p) 4400 = true := zin_nI hp (by omega)
  have hzt : zin (nI t) 1010 = true := zin_nI (by omega) (by omega)
  have hr' : rRun J v := rRun_cong hr (s1 _ _ (by decide)) (s1 _ _ (by decide))
  have hX' : rX J m pt fo c sp g := rX_cong hX (fun b hb => s1 _ _ (by omega)) (fun a ha b => s1 _ _ (by omega))
  have e54 : J 54 p = J0 54 p := s1 _ _ (by omega)
  have e55 : J 55 p = J0 55 p := s1 _ _ (by omega)
  refine ⟨zu (zu (zu J 70 t (iI (tv J0 (zVl m pt fo c sp g) p))) 48 46 (nI (t + 1))) 48 37 (nI (p + 1)), fun fu => ?_, ⟨fun a b h => ?_, zu_same, by rw [zu_col (by decide), zu_same]⟩, by rw [zu_row (by decide), zu_row (by decide), zu_same], fun b hb => by rw [zu_row (by decide), zu_row (by decide), zu_col hb]⟩
  · have e1 : zu J 70 t (iI (tv J0 (zVl m pt fo c sp g) p)) 48 46 = nI t := by rw [zu_row (by decide)]; exact s3
    have e2 : zu (zu J 70 t (iI (tv J0 (zVl m pt fo c sp g) p))) 48 46 (nI (t + 1)) 48 37 = nI p := by rw [zu_col (by decide), zu_row (by decide)]; exact s2
    rcases ht with ⟨a1, w, a2, a3⟩ | ⟨a1, w, a2, a3⟩
    · have hv : tv J0 (zVl m pt fo c sp g) p = (w : Int) := by rw [tv, if_pos a1, a3, nI_toInt (by omega)]
      rw [fX9_carries_2, if_neg hr'.1, if_neg hr'.2, s2]
      simp only [hz, if_true]
      rw [nI_clamp (by omega), e54, a1, if_neg (by decide), if_neg (by decide), if_neg (by decide), e55, a3, fX9_reckons, if_pos rfl, fX9_reckons_10, if_pos rfl, s3, zif_t hzt, nI_clamp (by omega)]
      rw [hv, iI_nat] at e1 e2 ⊢
      simp only [Option.bind_some]
      rw [e1, nI_1, e2, nI_1]
    · have hv : tv J0 (zVl m pt fo c sp g) p = zVl m pt fo c sp g (w + 1) := by rw [tv, if_neg (by rw [a1]; decide), a3, nI_clamp (by omega)]
      rw [fX9_carries_2, if_neg hr'.1, if_neg hr'.2, s2]
      simp only [hz, if_true]
      rw [nI_clamp (by omega), e54, a1, if_neg (by decide), if_neg (by decide), if_neg (by decide), e55, a3, fX9_reckons, if_neg (by decide), if_pos rfl, fX9_reckons_10, if_neg (by decide), rX_part hX' w a2]
      simp only [Option.bind_some]
      rw [s3, zif_t hzt, nI_clamp (by omega)]
      rw [hv] at e1 e2 ⊢
      simp only [Option.bind_some]
      rw [e1, nI_1, e2, nI_1]
  · by_cases h7 : a = 48
    · rw [zu_col (by omega), zu_col (by omega), zu_row (by omega), s1 a b h]
    · rw [zu_row h7, zu_row h7, zu_row (by omega), s1 a b h]
/-- an operation upon the two on top -/
theorem ex_op {K : zPI → Option zPI} {v : Int32} {J0 J : zPI} {p t o : Nat} {x y r : Int32} (ho : J0 54 p = nI o) (ho1 : 3 ≤ o) (ho2 : o < 7) (hp : p < 4400) (ht9 : t < 1000) (hS : rS J0 J p (t + 2)) (hr : rRun J0 v) (hx : J 70 t = x) (hy : J 70 (t + 1) = y)
    (hv : r = (if o = 3 then x + y else if o = 4 then x - y else if o = 5 then (if y ≤ x then 0 else 1) else (if x = y then 1 else 0))) :
    ∃ J', (∀ fu, fX9_carries_2 K (fu + 1) v J = fX9_carries_2 K fu v J') ∧ rS J0 J' (p + 1) (t + 1) ∧ J' 70 t = r ∧ (∀ b, b ≠ t → J' 70 b = J 70 b) := by
  obtain ⟨s1, s2, s3⟩ := hS
  have hz : zin (nI p) 4400 = true := zin_nI hp (by omega)
  have hz1 : zin (nI (t + 1)) 1010 = true := zin_nI (by omega) (by omega)
  have hz2 : zin (nI t) 1010 = true := zin_nI (by omega) (by omega)
  have hr' : rRun J v := rRun_cong hr (s1 _ _ (by decide)) (s1 _ _ (by decide))
  have e54 : J 54 p = nI o := by rw [s1 _ _ (by omega)]; exact ho
  have o0 : ¬ nI o = 0 := nI_ne0 (by omega) (by omega)
  have o12 : ¬ nI o = 12 := nI_ne (b := 12) (by omega) (by omega) (by omega)
  have o7 : ¬ (7 : Int32) ≤ nI o := nI_ge (b := 7) (by omega) (by omega)
  have o1 : ¬ nI o = 1 := nI_ne (b := 1) (by omega) (by omega) (by omega)
  have o2 : ¬ nI o = 2 := nI_ne (b := 2) (by omega) (by omega) (by omega)
  have m1 : nI (t + 2) - 1 = nI (t + 1) := nI_pred (t + 1)
  have m2 : nI (t + 1) - 1 = nI t := nI_pred t
  refine ⟨zu (zu (zu J 48 46 (nI (t + 1))) 70 t r) 48 37 (nI (p + 1)), fun fu => ?_, ⟨fun a b h => ?_, zu_same, by rw [zu_col (by decide), zu_row (by decide), zu_same]⟩, by rw [zu_row (by decide), zu_same], fun b hb => by rw [zu_row (by decide), zu_col hb, zu_row (by decide)]⟩
  · have e1 : ∀ q : Int32, zu (zu J 48 46 (nI (t + 1))) 70 t q 48 37 = nI p := fun q => by rw [zu_row (by decide), zu_col (by decide)]; exact s2
    have hrk : fX9_reckons J (nI o) (J 55 p) = some (zu (zu J 48 46 (nI (t + 1))) 70 t r) := by
      unfold fX9_reckons
      rw [if_neg o1, if_neg o2, s3, m1, zu_same, m2]
      simp only [hz1, hz2, if_true, zlet]
      rw [nI_clamp (by omega), nI_clamp (by omega), zu_row (show (70 : Nat) ≠ 48 by decide), zu_row (show (70 : Nat) ≠ 48 by decide), hx, hy]
      have : o = 3 ∨ o = 4 ∨ o = 5 ∨ o = 6 := by omega
      rcases this with rfl | rfl | rfl | rfl
      · have hv' : r = x + y := by simpa using hv
        rw [if_pos (show nI 3 = (3 : Int32) from rfl), hv']
      · have hv' : r = x - y := by simpa using hv
        rw [if_neg (by decide), if_pos (show nI 4 = (4 : Int32) from rfl), hv']
      · have hv' : r = if y ≤ x then 0 else 1 := by simpa using hv
        rw [if_neg (by decide), if_neg (by decide), if_pos (show nI 5 = (5 : Int32) from rfl), hv']
        by_cases c : y ≤ x
        · rw [if_pos c, if_pos c]
        · rw [if_neg c, if_neg c]
      · have hv' : r = if x = y then 1 else 0 := by simpa using hv
        rw [if_neg (by decide), if_neg (by decide), if_neg (by decide), hv']
        by_cases c : x = y
        · rw [if_pos c, if_pos c]
        · rw [if_neg c, if_neg c]
    rw [fX9_carries_2, if_neg hr'.1, if_neg hr'.2, s2]
    simp only [hz, if_true]
    rw [nI_clamp (by omega), e54, if_neg o0, if_neg o12, if_neg o7, hrk]
    simp only [Option.bind_some]
    rw [e1, nI_1]
  · by_cases h7 : a = 48
    · rw [zu_col (by omega), zu_row (by omega), zu_col (by omega), s1 a b h]
    · rw [zu_row h7, zu_row (by omega), zu_row h7, s1 a b h]
theorem ex_sum {K : zPI → Option zPI} {v : Int32} {J0 : zPI} {m9 pt fo c : Nat} {sp g : Int32} (hX : rX J0 m9 pt fo c sp g) (hr : rRun J0 v) {p t : Nat} (ht9 : t < 900) : ∀ (m : Nat) (J : zPI), sok J0 p m → p + 2 * m < 4400 → rS J0 J p t →
    ∃ J', (∀ fu, fX9_carries_2 K (fu + (2 * m + 1)) v J = fX9_carries_2 K fu v J') ∧ rS J0 J' (p + 2 * m + 1) (t + 1) ∧ J' 70 t = iI (sv J0 (zVl m9 pt fo c sp g) p m) ∧ (∀ b, b < t → J' 70 b = J 70 b) := by
  intro m
  induction m with
  | zero =>
    intro J hk hp hS
    obtain ⟨J', a1, a2, a3, a4⟩ := ex_push (K := K) hX hk.1 (by omega) (by omega) hS hr
    exact ⟨J', a1, a2, a3, fun b hb => a4 b (by omega)⟩
  | succ m ih =>
    intro J hk hp hS
    obtain ⟨J1, a1, a2, a3, a4⟩ := ih J ⟨hk.1, fun k hk9 => hk.2 k (by omega)⟩ (by omega) hS
    obtain ⟨k1, k2⟩ := hk.2 m (by omega)
    obtain ⟨J2, b1, b2, b3, b4⟩ := ex_push (K := K) hX k1 (by omega) (by omega) a2 hr
    have hx2 : J2 70 t = iI (sv J0 (zVl m9 pt fo c sp g) p m) := by rw [b4 t (by omega)]; exact a3
    obtain ⟨o, ho, ho1⟩ : ∃ o, J0 54 (p + 2 * m + 2) = nI o ∧ (o = 3 ∨ o = 4) := by
      rcases k2 with h | h
      · exact ⟨3, h, Or.inl rfl⟩
      · exact ⟨4, h, Or.inr rfl⟩
    obtain ⟨J3, c1, c2, c3, c4⟩ := ex_op (K := K) (p := p + 2 * m + 2) ho (by omega) (by omega) (by omega) (by omega) b2 hr hx2 b3 rfl
    refine ⟨J3, fun fu => ?_, ?_, ?_, fun b hb => by rw [c4 b (by omega), b4 b (by omega), a4 b hb]⟩
    · rw [show fu + (2 * (m + 1) + 1) = (fu + 1 + 1) + (2 * m + 1) by omega, a1, b1, c1]
    · rw [show p + 2 * (m + 1) + 1 = p + 2 * m + 2 + 1 by omega]
      exact c2
    · rw [c3, sv]
      rcases ho1 with rfl | rfl
      · rw [if_pos rfl, if_pos (show J0 54 (p + 2 * m + 2) = 3 from ho), iI_add]
      · rw [if_neg (by decide), if_pos rfl, if_neg (show ¬ J0 54 (p + 2 * m + 2) = 3 by rw [ho]; decide), iI_sub]
theorem tv_b {J : zPI} {V : Nat → Int} (hV : ∀ k, -100000 ≤ V k ∧ V k ≤ 100000) {p : Nat} (h : tok J p) : -100000 ≤ tv J V p ∧ tv J V p ≤ 100000 := by
  unfold tv
  rcases h with ⟨a1, w, a2, a3⟩ | ⟨a1, w, a2, a3⟩
  · rw [if_pos a1, a3, nI_toInt (by omega)]
    omega
  · rw [if_neg (by rw [a1]; decide)]
    exact hV _
theorem sv_b {J : zPI} {V : Nat → Int} (hV : ∀ k, -100000 ≤ V k ∧ V k ≤ 100000) {p : Nat} : ∀ m, sok J p m → -(100000 * ((m : Int) + 1)) ≤ sv J V p m ∧ sv J V p m ≤ 100000 * ((m : Int) + 1) := by
  intro m
  induction m with
  | zero =>
    intro h
    have := tv_b hV h.1
    rw [sv]
    omega
  | succ m ih =>
    intro h
    have h1 := ih ⟨h.1, fun k hk => h.2 k (by omega)⟩
    have h2 := tv_b hV (h.2 m (by omega)).1
    rw [sv]
    split <;> omega
/-- an E is reckoned: the class and the reference find the same -/
theorem ex_expr {K : zPI → Option zPI} {v : Int32} {I J0 J : zPI} {m9 pt fo c a i f A U : Nat} {sp g : Int32} (hX : rX J0 m9 pt fo c sp g) (hr : rRun J0 v) (hP : rP I (zVl m9 pt fo c sp g)) (hV : ∀ k, -100000 ≤ zVl m9 pt fo c sp g k ∧ zVl m9 pt fo c sp g k ≤ 100000) (hi : i < 80) (hf : I (a + 2) i = nI f) (hE : EX I J0 a i f A U) (hU : U < 4400) (hS : rS J0 J A 0) :
    ∃ J' n b, n ≤ 1100 ∧ (∀ fu, fX9_carries_2 K (fu + n) v J = fX9_carries_2 K fu v J') ∧ rS J0 J' U 1 ∧ fX5_isTrue a I (nI i) = some b ∧ (b = 0 ↔ J' 70 0 = 0) := by
  obtain ⟨W, ml, e1, e2, e3, e4⟩ := hE
  have hz : zin (nI i) 80 = true := zin_nI hi (by omega)
  have hT := f_isTrue hi e1 hP
  have V0 : zVl m9 pt fo c sp g 0 = 1 := rfl
  have b1 := sv_b hV ml e3
  rcases e4 with ⟨rfl, rfl, e5⟩ | ⟨mr, r1, rfl, r2, r3, r4⟩
  · obtain ⟨J', a1, a2, a3, -⟩ := ex_sum (K := K) hX hr (t := 0) (by omega) ml J e3 (by omega) hS
    rw [e5 _ V0, fX5_isTrue_45, zif_t hz, nI_clamp (by omega), hf, if_neg (by decide), if_neg (by decide)] at hT
    by_cases cs : iI (sv J0 (zVl m9 pt fo c sp g) A ml) = 0
    · exact ⟨J', _, 0, by omega, a1, a2, by rw [hT, if_pos cs], by rw [a3]; exact ⟨fun _ => cs, fun _ => rfl⟩⟩
    · exact ⟨J', _, 1, by omega, a1, a2, by rw [hT, if_neg cs], by rw [a3]; exact ⟨fun h => absurd h (by decide), fun h => absurd h cs⟩⟩
  · have b2 := sv_b hV mr r2
    obtain ⟨J1, a1, a2, a3, -⟩ := ex_sum (K := K) hX hr (t := 0) (by omega) ml J e3 (by omega) hS
    obtain ⟨J2, c1, c2, c3, c4⟩ := ex_sum (K := K) hX hr (t := 1) (by omega) mr J1 r2 (by omega) a2
    have hx : J2 70 0 = iI (sv J0 (zVl m9 pt fo c sp g) A ml) := by rw [c4 0 (by omega)]; exact a3
    have c2' : rS J0 J2 (A + 2 * ml + 2 * mr + 2) (0 + 2) := by
      rw [show A + 2 * ml + 2 * mr + 2 = A + 2 * ml + 1 + 2 * mr + 1 by omega]
      exact c2
    rw [r4 _ V0, fX5_isTrue_45, zif_t hz, nI_clamp (by omega), hf] at hT
    have n10 : ¬ (1 : Int32) = 0 := by decide
    rcases r3 with ⟨rfl, r5⟩ | ⟨rfl, r5⟩
    · obtain ⟨J3, d1, d2, d3, -⟩ := ex_op (K := K) (o := 5) r5 (by omega) (by omega) (by omega) (by omega) c2' hr hx c3 rfl
      rw [if_neg (by decide), if_neg (by decide), if_pos rfl] at d3
      rw [if_pos (show nI 1 = (1 : Int32) from rfl)] at hT
      have q1 : (0 : Int32) ≤ iI (sv J0 (zVl m9 pt fo c sp g) A ml - sv J0 (zVl m9 pt fo c sp g) (A + 2 * ml + 1) mr) ↔ 0 ≤ sv J0 (zVl m9 pt fo c sp g) A ml - sv J0 (zVl m9 pt fo c sp g) (A + 2 * ml + 1) mr := by
        rw [show (0 : Int32) = iI 0 from rfl]
        exact iI_le (by omega) (by omega) (by omega) (by omega)
      have q2 : iI (sv J0 (zVl m9 pt fo c sp g) (A + 2 * ml + 1) mr) ≤ iI (sv J0 (zVl m9 pt fo c sp g) A ml) ↔ sv J0 (zVl m9 pt fo c sp g) (A + 2 * ml + 1) mr ≤ sv J0 (zVl m9 pt fo c sp g) A ml := iI_le (by omega) (by omega) (by omega) (by omega)
      refine ⟨J3, 2 * ml + 1 + (2 * mr + 1) + 1, if 0 ≤ sv J0 (zVl m9 pt fo c sp g) A ml - sv J0 (zVl m9 pt fo c sp g) (A + 2 * ml + 1) mr then 0 else 1, by omega, fun fu => ?_, d2, ?_, ?_⟩
      · rw [show fu + (2 * ml + 1 + (2 * mr + 1) + 1) = (fu + 1 + (2 * mr + 1)) + (2 * ml + 1) by omega, a1, c1, d1]
      · rw [hT]
        by_cases cs : 0 ≤ sv J0 (zVl m9 pt fo c sp g) A ml - sv J0 (zVl m9 pt fo c sp g) (A + 2 * ml + 1) mr
        · rw [if_pos cs, if_pos (q1.mpr cs)]
        · rw [if_neg cs, if_neg (fun h => cs (q1.mp h))]
      · rw [d3]
        by_cases cs : 0 ≤ sv J0 (zVl m9 pt fo c sp g) A ml - sv J0 (zVl m9 pt fo c sp g) (A + 2 * ml + 1) mr
        · rw [if_pos cs, if_pos (q2.mpr (by omega))]
        · rw [if_neg cs, if_neg (fun h => cs (by have := q2.mp h; omega))]
    · obtain ⟨J3, d1, d2, d3, -⟩ := ex_op (K := K) (o := 6) r5 (by omega) (by omega) (by omega) (by omega) c2' hr hx c3 rfl
      rw [if_neg (by decide), if_neg (by decide), if_neg (by decide)] at d3
      rw [if_neg (by decide), if_pos (show nI 2 = (2 : Int32) from rfl)] at hT
      have q1 : iI (sv J0 (zVl m9 pt fo c sp g) A ml - sv J0 (zVl m9 pt fo c sp g) (A + 2 * ml + 1) mr) = 0 ↔ sv J0 (zVl m9 pt fo c sp g) A ml - sv J0 (zVl m9 pt fo c sp g) (A + 2 * ml + 1) mr = 0 := by
        rw [zeq_i, zi_n0, iI_toInt (by omega) (by omega)]
      have q2 : iI (sv J0 (zVl m9 pt fo c sp g) A ml) = iI (sv J0 (zVl m9 pt fo c sp g) (A + 2 * ml + 1) mr) ↔ sv J0 (zVl m9 pt fo c sp g) A ml = sv J0 (zVl m9 pt fo c sp g) (A + 2 * ml + 1) mr := by
        rw [zeq_i, iI_toInt (by omega) (by omega), iI_toInt (by omega) (by omega)]
      refine ⟨J3, 2 * ml + 1 + (2 * mr + 1) + 1, if sv J0 (zVl m9 pt fo c sp g) A ml - sv J0 (zVl m9 pt fo c sp g) (A + 2 * ml + 1) mr = 0 then 1 else 0, by omega, fun fu => ?_, d2, ?_, ?_⟩
      · rw [show fu + (2 * ml + 1 + (2 * mr + 1) + 1) = (fu + 1 + (2 * mr + 1)) + (2 * ml + 1) by omega, a1, c1, d1]
      · rw [hT]
        by_cases cs : sv J0 (zVl m9 pt fo c sp g) A ml - sv J0 (zVl m9 pt fo c sp g) (A + 2 * ml + 1) mr = 0
        · rw [if_pos cs, if_pos (q1.mpr cs)]
        · rw [if_neg cs, if_neg (fun h => cs (q1.mp h))]
      · rw [d3]
        by_cases cs : sv J0 (zVl m9 pt fo c sp g) A ml - sv J0 (zVl m9 pt fo c sp g) (A + 2 * ml + 1) mr = 0
        · rw [if_pos cs, if_pos (q2.mpr (by omega))]
        · rw [if_neg cs, if_neg (fun h => cs (by have := q2.mp h; omega))]
