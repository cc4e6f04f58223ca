/-! ropes wear and part -/
def zld (f s : Nat) (ab : Bool) : Nat := f * f * (if s % 3 = 0 then 6 else if s % 3 = 1 then 5 else 3) / 4 * (if ab then 2 else 1)
theorem st_load : ∀ f, f < 13 → ∀ s, s < 9 → (((nI f * nI f) * (zst2 (zrm (nI s) 3))) / 4 = nI (zld f s false) ∧ 2 * (((nI f * nI f) * (zst2 (zrm (nI s) 3))) / 4) = nI (zld f s true)) ∧ ((((nI f * nI f) * (fX9_area (nI s))) / 4) * 1 = nI (zld f s false) ∧ (((nI f * nI f) * (fX9_area (nI s))) / 4) * 2 = nI (zld f s true)) ∧ zld f s false ≤ 900 ∧ zld f s true ≤ 900 := by decide +kernel
/-- rW where the sails' row changes only where no work is upon the sail -/
theorem rW_sail2 {I J I' J' : zPI} {n : Nat} {eb : Nat → Nat} (h : rW I J n eb) (e0 : I' 42 0 = I 42 0) (e1 : J' 48 18 = J 48 18) (eI : ∀ a, a = 6 ∨ a = 7 ∨ a = 8 ∨ a = 43 ∨ a = 44 ∨ a = 45 ∨ a = 46 ∨ a = 47 → ∀ b, I' a b = I a b) (eJ : ∀ a, a = 62 ∨ a = 63 ∨ a = 64 ∨ a = 65 ∨ a = 66 → ∀ b, J' a b = J a b)
    (e2 : ∀ f jb th, Lr I n f → I 43 f = nI jb → I 44 f = nI th → jb < 2 → th < 9 → I' 2 th = I 2 th) : rW I' J' n eb := by
  have h9 : rW (fun a b => if a = 2 then I 2 b else I' a b) J' n eb := rW_cong h (by simpa using e0) e1 (fun a ha b => by
    by_cases c : a = 2
    · simp [c]
    · simp only [if_neg c]
      exact eI a (by omega) b) eJ
  obtain ⟨x0, xA, xB, xC, xD⟩ := h9
  have r47 : ∀ b, (if (47 : Nat) = 2 then I 2 b else I' 47 b) = I' 47 b := fun b => if_neg (by decide)
  refine ⟨by simpa using x0, by simpa using xA, by simpa using xB, ?_, by simpa [Lr] using xD⟩
  intro f hf
  have hf' : Lr (fun a b => if a = 2 then I 2 b else I' a b) n f := ⟨hf.1, by simpa using hf.2⟩
  obtain ⟨k, jb, th, am, e, hw⟩ := xC f hf'
  refine ⟨k, jb, th, am, e, ?_⟩
  have hlI : Lr I n f := ⟨hf.1, by rw [← eI 47 (by simp)]; exact hf.2⟩
  simp only [rWk, zmk] at hw ⊢
  obtain ⟨a1, a2, a3, a4, a5, a6, a7, a8, a9, a10, a11, a12, a13, a14, a15, a16, a17, a18⟩ := hw
  have g43 : I 43 f = nI jb := by rw [← eI 43 (by simp)]; exact a4
  have g44 : I 44 f = nI th := by rw [← eI 44 (by simp)]; exact a6
  have key : jb < 2 → I' 2 th = I 2 th := fun h8 => e2 f jb th hlI g43 g44 h8 (by unfold zlim at a8; rw [if_pos h8] at a8; exact a8)
  exact ⟨a1, a2, a3, a4, a5, a6, a7, a8, a9, a10, a11, a12, a13, a14, a15, a16, fun h8 => by rw [key (by omega)]; exact a17 h8, fun h8 => by rw [key (by omega)]; exact a18 h8⟩
/-- one rope -/
theorem st_rope {I J : zPI} (hG : rG I J) {r ld p : Nat} (hr : r < 18) (hl : ld ≤ 900) (hp : I 1 7 = nI p) (hq : J 48 35 = nI p) :
    ∃ I1 J1 d, fX4_strainRope I (nI r) (nI ld) = some I1 ∧ (∀ (K : Int32 → Int32 → zPI → Option zPI) (fu : Nat) (v1 v3 : Int32), ¬ ((2 * v1) + 2) ≤ nI r → fX9_loads_7 K (fu + 1) v1 (nI ld) v3 (nI r) J = fX9_loads_7 K fu v1 (nI ld) (if d = 1 then 1 else v3) (nI r + 1) J1) ∧ d ≤ 1 ∧ rG I1 J1 ∧ I1 1 7 = nI (p + d) ∧ J1 48 35 = nI (p + d) ∧
      (∀ a b, ¬ (a = 3 ∨ a = 4 ∨ (a = 1 ∧ b = 7)) → I1 a b = I a b) ∧ (∀ a b, ¬ (a = 59 ∨ a = 60 ∨ (a = 48 ∧ b = 35)) → J1 a b = J a b) := by
  obtain ⟨-, g1, w, hw, g2⟩ := hG.2.1 r hr
  have hz : zin (nI r) 18 = true := zin_nI hr (by omega)
  have g3 : J 60 r = nI w := by rw [← g1]; exact g2
  have e16 : nI ld / 16 = nI (ld / 16) := pk_div (a := ld) (d := 16) (by omega) (by omega) (by omega)
  by_cases c : w + ld ≤ 900
  · have c' : nI (w + ld) ≤ (900 : Int32) := nI_le (b := 900) c (by omega)
    refine ⟨zu I 4 r (nI (w + ld / 16)), zu J 60 r (nI (w + ld / 16)), 0, ?_, ?_, by omega, rG_u4 hG (by omega), by rw [zu_row (by decide)]; exact hp, by rw [zu_row (by decide)]; exact hq, fun a b h => zu_row (by omega), fun a b h => zu_row (by omega)⟩
    · unfold fX4_strainRope
      simp only [hz, if_true]
      rw [nI_clamp (by omega), g2, nI_add, if_pos c', e16, nI_add]
    · intro K fu v1 v3 hv
      rw [fX9_loads_7, if_neg hv]
      simp only [hz, if_true]
      rw [nI_clamp (by omega), g3, nI_add, if_pos c', e16, nI_add, if_neg (by decide)]
  · have c' : ¬ nI (w + ld) ≤ (900 : Int32) := nI_ge (a := 900) (b := w + ld) (by omega) (by omega)
    refine ⟨zu (zu I 3 r 2) 1 7 (nI (p + 1)), zu (zu J 59 r 2) 48 35 (nI (p + 1)), 1, ?_, ?_, by omega, ?_, zu_same, zu_same, fun a b h => ?_, fun a b h => ?_⟩
    · unfold fX4_strainRope
      simp only [hz, if_true]
      rw [nI_clamp (by omega), g2, nI_add, if_neg c', zu_row (by decide), hp, nI_1]
    · intro K fu v1 v3 hv
      rw [fX9_loads_7, if_neg hv]
      simp only [hz, if_true]
      rw [nI_clamp (by omega), g3, nI_add, if_neg c', zu_row (by decide), hq, nI_1 p]
    · exact rG_cong (rG_u3 (s := r) (k := 2) hG (by omega)) (fun a ha b => zu_row (by omega)) (fun a ha b => zu_row (by omega))
    · by_cases h7 : a = 1
      · rw [zu_col (by omega), zu_row (by omega)]
      · rw [zu_row h7, zu_row (by omega)]
    · by_cases h7 : a = 48
      · rw [zu_col (by omega), zu_row (by omega)]
      · rw [zu_row h7, zu_row (by omega)]
/-- a rope of a lost sail: what holds is loose -/
theorem st_loose {I J : zPI} (hG : rG I J) {r : Nat} (hr : r < 18) : ∃ I1 J1, (∀ (K : zPI → Option zPI) (fu : Nat) (v1 : Int32), ¬ ((2 * v1) + 1) < nI r → fX4_lose_18 K (fu + 1) v1 (nI r) I = fX4_lose_18 K fu v1 (nI r + 1) I1) ∧ (∀ (K : Int32 → zPI → Option zPI) (fu : Nat) (v1 : Int32), ¬ ((2 * v1) + 2) ≤ nI r → fX9_loads_92 K (fu + 1) v1 (nI r) J = fX9_loads_92 K fu v1 (nI r + 1) J1) ∧ rG I1 J1 ∧ (∀ a b, a ≠ 3 → I1 a b = I a b) ∧ (∀ a b, a ≠ 59 → J1 a b = J a b) := by
  have g1 := (hG.2.1 r hr).1.1
  have hz : zin (nI r) 18 = true := zin_nI hr (by omega)
  by_cases c : I 3 r = 1
  · refine ⟨zu I 3 r 0, zu J 59 r 0, fun K fu v1 hv => ?_, fun K fu v1 hv => ?_, rG_u3 (k := 0) hG (by omega), fun a b h => zu_row h, fun a b h => zu_row h⟩
    · rw [fX4_lose_18, if_neg hv]
      simp only [hz, if_true]
      rw [nI_clamp (by omega), if_pos c]
    · rw [fX9_loads_92, if_neg hv]
      simp only [hz, if_true]
      rw [nI_clamp (by omega), ← g1, if_pos c]
  · refine ⟨I, J, fun K fu v1 hv => ?_, fun K fu v1 hv => ?_, hG, fun a b h => rfl, fun a b h => rfl⟩
    · rw [fX4_lose_18, if_neg hv]
      simp only [hz, if_true]
      rw [nI_clamp (by omega), if_neg c]
    · rw [fX9_loads_92, if_neg hv]
      simp only [hz, if_true]
      rw [nI_clamp (by omega), zu_self, ← g1, if_neg c]
theorem st_140no {K : zPI → Option zPI} {J : zPI} {s : Nat} : ∀ (r fu k : Nat), k + r = 24 → r < fu → (∀ j, k ≤ j → j < 24 → ¬ (J 63 j = 2 ∧ J 64 j = nI s)) → fX9_loads_140 K fu (nI s) (nI k) J = K J := by
  intro r
  induction r with
  | zero =>
    intro fu k hk hf hno
    obtain ⟨fu, rfl, -⟩ := zsucc hf
    have : k = 24 := by omega
    subst this
    rw [fX9_loads_140, if_pos (show (24 : Int32) ≤ nI 24 by decide)]
  | succ r ih =>
    intro fu k hk hf hno
    obtain ⟨fu, rfl, hf⟩ := zsucc hf
    have hz : zin (nI k) 24 = true := zin_nI (by omega) (by omega)
    have h9 := ih fu (k + 1) (by omega) (by omega) (fun j h1 h2 => hno j (by omega) h2)
    rw [fX9_loads_140, if_neg (show ¬ (24 : Int32) ≤ nI k from nI_ge (a := k) (b := 24) (by omega) (by omega))]
    simp only [hz, if_true]
    rw [nI_clamp (by omega), nI_1]
    by_cases c : J 63 k = 2
    · rw [if_pos c, if_neg (fun h8 => hno k (Nat.le_refl _) (by omega) ⟨c, h8⟩)]
      exact h9
    · rw [if_neg c]
      exact h9
theorem st_140one {K : zPI → Option zPI} {J J1 : zPI} {s k0 : Nat} (hk0 : k0 < 24) (h1 : J 63 k0 = 2) (h2 : J 64 k0 = nI s) (hg : fX9_gives J (nI k0) = some J1) (hno : ∀ j, j < 24 → j ≠ k0 → ¬ (J 63 j = 2 ∧ J 64 j = nI s)) (hno1 : ∀ j, k0 < j → j < 24 → ¬ (J1 63 j = 2 ∧ J1 64 j = nI s)) : ∀ (r fu k : Nat), k + r = k0 → r + 24 < fu → fX9_loads_140 K fu (nI s) (nI k) J = K J1 := by
  intro r
  induction r with
  | zero =>
    intro fu k hk hf
    obtain ⟨fu, rfl, hf⟩ := zsucc hf
    have : k = k0 := by omega
    subst this
    have hz : zin (nI k) 24 = true := zin_nI (by omega) (by omega)
    rw [fX9_loads_140, if_neg (show ¬ (24 : Int32) ≤ nI k from nI_ge (a := k) (b := 24) (by omega) (by omega))]
    simp only [hz, if_true]
    rw [nI_clamp (by omega), nI_1, if_pos h1, if_pos h2, hg]
    simp only [Option.bind_some]
    exact st_140no (23 - k) fu (k + 1) (by omega) (by omega) (fun j a1 a2 => hno1 j (by omega) a2)
  | succ r ih =>
    intro fu k hk hf
    obtain ⟨fu, rfl, hf⟩ := zsucc hf
    have hz : zin (nI k) 24 = true := zin_nI (by omega) (by omega)
    have h9 := ih fu (k + 1) (by omega) (by omega)
    rw [fX9_loads_140, if_neg (show ¬ (24 : Int32) ≤ nI k from nI_ge (a := k) (b := 24) (by omega) (by omega))]
    simp only [hz, if_true]
    rw [nI_clamp (by omega), nI_1]
    by_cases c : J 63 k = 2
    · rw [if_pos c, if_neg (fun h8 => hno k (by omega) (by omega) ⟨c, h8⟩)]
      exact h9
    · rw [if_neg c]
      exact h9
/-- one sail that is set -/
theorem st_sail {I J : zPI} {n m : Nat} (hW : rW I J n (fun _ => m + 1)) (hG : rG I J) {f s p : Nat} {ab : Bool} (hf : f < 13) (hs : s < 9) (h1 : I 2 s = 1) (hp9 : p < 1000000000) (hp : I 1 7 = nI p) (hq : J 48 35 = nI p) :
    ∃ b I1 I2 J2 d, fX4_strain I (nI s) (nI f) (if ab then 1 else 0) = some (b, I1) ∧ (if b = 0 then some I1 else (fX4_lose I1 (nI s)).bind (fun q5 => fX1_release q5 (I 6 s))) = some I2 ∧ fX9_loads J (nI s) (nI (zld f s ab)) = some J2 ∧ d ≤ 2 ∧ rW I2 J2 n (fun _ => m + 1) ∧ rG I2 J2 ∧ I2 1 7 = nI (p + d) ∧ J2 48 35 = nI (p + d) ∧
      (∀ a b, ¬ (a = 2 ∨ a = 3 ∨ a = 4 ∨ a = 6 ∨ a = 47 ∨ (a = 1 ∧ b = 7) ∨ (a = 42 ∧ b = 7)) → I2 a b = I a b) ∧ (∀ a b, ¬ (a = 58 ∨ a = 59 ∨ a = 60 ∨ a = 62 ∨ a = 63 ∨ (a = 48 ∧ b = 35)) → J2 a b = J a b) := by
  have hn := hW.1.2.1
  obtain ⟨⟨l1, l2⟩, -, l3, l4⟩ := st_load f hf s hs
  have hl : zld f s ab ≤ 900 := by cases ab; exact l3; exact l4
  obtain ⟨t1, t2, -⟩ := sa_area s hs
  obtain ⟨A, A', d1, a1, a2, a3, a4, a5, a6, a7, a8⟩ := st_rope hG (r := 2 * s) (ld := zld f s ab) (by omega) hl hp hq
  obtain ⟨B, B', d2, b1, b2, b3, b4, b5, b6, b7, b8⟩ := st_rope a4 (r := 2 * s + 1) (ld := zld f s ab) (by omega) hl a5 a6
  have e25 : fX4_strain_25 (nI s) (nI (zld f s ab)) I = if d1 + d2 = 0 then some (0, B) else some (1, B) := by
    rw [fX4_strain_25, two_s, a1]
    simp only [Option.bind_some]
    rw [nI_1, b1]
    simp only [Option.bind_some]
    rw [b5, hp]
    by_cases c : d1 + d2 = 0
    · rw [if_pos c, if_pos (nI_le (by omega) (by omega))]
    · rw [if_neg c, if_neg (nI_ge (by omega) (by omega))]
  have eS : fX4_strain I (nI s) (nI f) (if ab then 1 else 0) = if d1 + d2 = 0 then some (0, B) else some (1, B) := by
    rw [← e25, fX4_strain, zif_t t2]
    cases ab
    · rw [if_pos (by decide), l1]
    · rw [if_neg (by decide), l2]
  have e7 : ∀ K : Int32 → Int32 → zPI → Option zPI, fX9_loads_7 K zF (nI s) (nI (zld f s ab)) 0 (2 * nI s) J = K (nI s) (if d1 + d2 = 0 then 0 else 1) B' := by
    intro K
    have n1 : ¬ ((2 * nI s) + 2) ≤ nI (2 * s) := by rw [two_s, show (2 : Int32) = nI 2 from rfl, nI_add]; exact nI_ge (by omega) (by omega)
    have n2 : ¬ ((2 * nI s) + 2) ≤ nI (2 * s + 1) := by rw [two_s, show (2 : Int32) = nI 2 from rfl, nI_add]; exact nI_ge (by omega) (by omega)
    have n3 : ((2 * nI s) + 2) ≤ nI (2 * s + 1 + 1) := by rw [two_s, show (2 : Int32) = nI 2 from rfl, nI_add]; exact nI_le (by omega) (by omega)
    rw [two_s, zF_succ, a2 K 99999 (nI s) 0 n1, nI_1, show (99999 : Nat) = 99998 + 1 from rfl, b2 K 99998 (nI s) _ n2, nI_1, show (99998 : Nat) = 99997 + 1 from rfl, fX9_loads_7, if_pos n3]
    congr 1
    have q1 : d1 = 0 ∨ d1 = 1 := by omega
    have q2 : d2 = 0 ∨ d2 = 1 := by omega
    rcases q1 with rfl | rfl <;> rcases q2 with rfl | rfl <;> simp
  have fB : ∀ a b, ¬ (a = 3 ∨ a = 4 ∨ (a = 1 ∧ b = 7)) → B a b = I a b := fun a b h => by rw [b7 a b h, a7 a b h]
  have fB' : ∀ a b, ¬ (a = 59 ∨ a = 60 ∨ (a = 48 ∧ b = 35)) → B' a b = J a b := fun a b h => by rw [b8 a b h, a8 a b h]
  have hWB : rW B B' n (fun _ => m + 1) := rW_cong hW (fB _ _ (by decide)) (fB' _ _ (by decide)) (fun a ha b => fB a b (by omega)) (fun a ha b => fB' a b (by omega))
  by_cases c : d1 + d2 = 0
  · refine ⟨0, B, B, B', 0, by rw [eS, if_pos c], by rw [if_pos rfl], ?_, by omega, hWB, b4, by rw [b5, show p + d1 + d2 = p + 0 by omega], by rw [b6, show p + d1 + d2 = p + 0 by omega], fun a b h => fB a b (by omega), fun a b h => fB' a b (by omega)⟩
    rw [fX9_loads, e7, if_pos c, if_pos rfl]
  · -- the sail is lost
    obtain ⟨C0, hC0⟩ : ∃ C0 : zPI, C0 = zu (zu B 2 s 2) 6 s (-1) := ⟨_, rfl⟩
    obtain ⟨D0, hD0⟩ : ∃ D0 : zPI, D0 = zu B' 58 s 2 := ⟨_, rfl⟩
    have g0 : rG C0 D0 := by
      rw [hC0, hD0]
      exact rG_cong (rG_u2 (s := s) (k := 2) b4 (by omega)) (fun a ha b => zu_row (by omega)) (fun _ _ _ => rfl)
    obtain ⟨C1, D1, x1, x2, x3, x4, x5⟩ := st_loose g0 (r := 2 * s) (by omega)
    obtain ⟨C2, D2, y1, y2, y3, y4, y5⟩ := st_loose x3 (r := 2 * s + 1) (by omega)
    have eL : fX4_lose B (nI s) = some C2 := by
      have hz : zin (nI s) 9 = true := zin_nI hs (by omega)
      have n1 : ¬ ((2 * nI s) + 1) < nI (2 * s) := by rw [two_s1]; exact nI_nlt (by omega) (by omega)
      have n2 : ¬ ((2 * nI s) + 1) < nI (2 * s + 1) := by rw [two_s1]; exact nI_nlt (by omega) (by omega)
      have n3 : ((2 * nI s) + 1) < nI (2 * s + 1 + 1) := by rw [two_s1]; exact nI_lt (by omega) (by omega)
      unfold fX4_lose
      simp only [hz, if_true]
      rw [nI_clamp (by omega), ← hC0, zF_succ]
      have e9 := x1 (fun I => some I) 99999 (nI s) n1
      have e8 := y1 (fun I => some I) 99998 (nI s) n2
      rw [nI_1] at e9 e8
      rw [two_s]
      refine e9.trans (Eq.trans (show fX4_lose_18 (fun I => some I) 99999 (nI s) (nI (2 * s + 1)) C1 = _ from e8) ?_)
      rw [show (99998 : Nat) = 99997 + 1 from rfl, fX4_lose_18, if_pos n3]
    have e92 : ∀ K : Int32 → zPI → Option zPI, fX9_loads_92 K zF (nI s) (2 * nI s) D0 = K (nI s) D2 := by
      intro K
      have n1 : ¬ ((2 * nI s) + 2) ≤ nI (2 * s) := by rw [two_s, show (2 : Int32) = nI 2 from rfl, nI_add]; exact nI_ge (by omega) (by omega)
      have n2 : ¬ ((2 * nI s) + 2) ≤ nI (2 * s + 1) := by rw [two_s, show (2 : Int32) = nI 2 from rfl, nI_add]; exact nI_ge (by omega) (by omega)
      have n3 : ((2 * nI s) + 2) ≤ nI (2 * s + 1 + 1) := by rw [two_s, show (2 : Int32) = nI 2 from rfl, nI_add]; exact nI_le (by omega) (by omega)
      rw [two_s, zF_succ, x2 K 99999 (nI s) n1, nI_1, show (99999 : Nat) = 99998 + 1 from rfl, y2 K 99998 (nI s) n2, nI_1, show (99998 : Nat) = 99997 + 1 from rfl, fX9_loads_92, if_pos n3]
    have fC : ∀ a b, ¬ (a = 2 ∨ a = 3 ∨ a = 4 ∨ a = 6 ∨ (a = 1 ∧ b = 7)) → C2 a b = I a b := fun a b h => by rw [y4 a b (by omega), x4 a b (by omega), hC0, zu_row (by omega), zu_row (by omega), fB a b (by omega)]
    have fD : ∀ a b, ¬ (a = 58 ∨ a = 59 ∨ a = 60 ∨ (a = 48 ∧ b = 35)) → D2 a b = J a b := fun a b h => by rw [y5 a b (by omega), x5 a b (by omega), hD0, zu_row (by omega), fB' a b (by omega)]
    have c6 : ∀ x, C2 6 x = if x = s then -1 else I 6 x := fun x => by
      rw [y4 _ _ (by decide), x4 _ _ (by decide), hC0]
      by_cases e : x = s
      · rw [if_pos e, e, zu_same]
      · rw [if_neg e, zu_col e, zu_row (by decide), fB _ _ (by omega)]
    have c2' : ∀ x, x ≠ s → C2 2 x = I 2 x := fun x hx => by rw [y4 _ _ (by decide), x4 _ _ (by decide), hC0, zu_row (by decide), zu_col hx, fB _ _ (by omega)]
    have c17 : C2 1 7 = nI (p + d1 + d2) := by rw [y4 _ _ (by decide), x4 _ _ (by decide), hC0, zu_row (by decide), zu_row (by decide)]; exact b5
    have d35 : D2 48 35 = nI (p + d1 + d2) := by rw [y5 _ _ (by decide), x5 _ _ (by decide), hD0, zu_row (by decide)]; exact b6
    have eLd : ∀ R : Option zPI, fX9_loads_140 (fun I => some I) zF (nI s) 0 D2 = R → fX9_loads J (nI s) (nI (zld f s ab)) = R := by
      intro R hR
      rw [fX9_loads, e7, if_neg c, if_neg (by decide), zif_t (zin_nI hs (by omega)), nI_clamp (by omega), ← hD0, e92]
      exact hR
    by_cases cl : I 6 s = -1
    · -- nobody is at it
      have hno : ∀ j, 0 ≤ j → j < 24 → ¬ (D2 63 j = 2 ∧ D2 64 j = nI s) := by
        rintro j - hj ⟨z1, z2⟩
        rw [fD _ _ (by omega)] at z1 z2
        obtain ⟨f', w1, w2, w3⟩ := (rW_under hW (w := 1) (a := s) (by omega) (by omega)).mp ⟨j, hj, z1, z2⟩
        exact (rW_sail hW hs).mpr ⟨f', w1, Or.inr w2, w3⟩ cl
      refine ⟨1, B, C2, D2, d1 + d2, by rw [eS, if_neg c], ?_, eLd _ (st_140no 24 zF 0 (by omega) (zF_lt (by omega)) hno), by omega, ?_, y3, by rw [c17, Nat.add_assoc], by rw [d35, Nat.add_assoc], fun a b h => fC a b (by omega), fun a b h => fD a b (by omega)⟩
      · rw [if_neg (by decide), eL]
        simp only [Option.bind_some]
        rw [cl, fX1_release, if_pos rfl]
      · refine rW_sail2 hW (fC _ _ (by decide)) (fD _ _ (by decide)) (fun a ha b => ?_) (fun a ha b => fD a b (by omega)) (fun f' jb th hl' g1 g2 g3 g4 => ?_)
        · by_cases e6 : a = 6
          · subst e6
            rw [c6]
            by_cases e : b = s
            · rw [if_pos e, e, cl]
            · rw [if_neg e]
          · exact fC a b (by omega)
        · refine c2' th (fun e => ?_)
          subst e
          refine (rW_sail hW hs).mpr ⟨f', hl', ?_, g2⟩ cl
          have : jb = 0 ∨ jb = 1 := by omega
          rcases this with rfl | rfl
          · exact Or.inl g1
          · exact Or.inr g1
    · -- a furl is given up
      obtain ⟨g, hg, hg6, hg43, hg44⟩ : ∃ g, Lr I n g ∧ I 6 s = nI g ∧ (I 43 g = 0 ∨ I 43 g = 1) ∧ I 44 g = nI s := by
        rcases hW.2.2.2.2.2.1 s hs with h9 | h9
        · exact absurd h9 cl
        · exact h9
      have hg9 := hg.1
      obtain ⟨k, jb, th, am, e, w1, w2, w3, w4, w5, w6, w7, w8, w9, w10, w11, w12, w13, w14, w15, w16, w17, w18⟩ := hW.2.2.2.1 g hg
      have hth := zlim_le jb
      have hths : th = s := nI_inj (by omega) (by omega) (w6.symm.trans hg44)
      subst hths
      have hjb : jb = 1 := by
        rcases hg43 with h9 | h9
        · have : jb = 0 := nI_inj (by omega) (by omega) (w4.symm.trans h9)
          have := w17 this
          rw [h1] at this
          exact absurd this (by decide)
        · exact nI_inj (by omega) (by omega) (w4.symm.trans h9)
      subst hjb
      have uniq : ∀ f' jb', Lr I n f' → I 43 f' = nI jb' → jb' < 2 → I 44 f' = nI th → f' = g := by
        intro f' jb' z1 z2 z3 z4
        obtain ⟨k2, jb2, th2, am2, e2, v1, v2, v3, v4, v5, v6, v7, v8, v9, v10, v11, v12, v13, v14, v15, v16, -⟩ := hW.2.2.2.1 f' z1
        have q1 : jb2 = jb' := nI_inj (by omega) (by omega) (v4.symm.trans z2)
        have q2 : th2 = th := nI_inj (by have := zlim_le jb2; omega) (by omega) (v6.symm.trans z4)
        rw [zmk, if_neg (by omega), if_neg (by omega), q2, hg6] at v16
        exact (nI_inj (by omega) (by have := z1.1; omega) v16).symm
      have hno : ∀ j, j < 24 → j ≠ k → ¬ (D2 63 j = 2 ∧ D2 64 j = nI th) := by
        rintro j hj hjk ⟨z1, z2⟩
        rw [fD _ _ (by omega)] at z1 z2
        rcases hW.2.2.2.2.1 j hj with h9 | ⟨f', u1, u2⟩
        · rw [h9] at z1
          exact absurd z1 (by decide)
        · obtain ⟨k2, jb2, th2, am2, e2, v1, v2, v3, v4, v5, v6, v7, v8, -⟩ := hW.2.2.2.1 f' u1
          have q0 : k2 = j := nI_inj (by omega) (by omega) (v2.symm.trans u2)
          subst q0
          have q1 : 1 + jb2 = 2 := nI_inj (b := 2) (by omega) (by omega) (v5.symm.trans z1)
          have q3 : I 44 f' = nI th := by rw [v6, ← v7, z2]
          have := uniq f' jb2 u1 v4 (by omega) q3
          subst this
          exact hjk (nI_inj (by omega) (by omega) (v2.symm.trans w2))
      obtain ⟨E2, o1, o2, o3, o4⟩ := f_gives (J := D2) (n := n) (k := k) hn w1 (by rw [fD _ _ (by decide)]; exact hW.1.2.2.2)
      have hno1 : ∀ j, k < j → j < 24 → ¬ (E2 63 j = 2 ∧ E2 64 j = nI th) := fun j hj1 hj2 h9 => by
        rw [o2 _ _ (by omega), o2 _ _ (by omega)] at h9
        exact hno j hj2 (by omega) h9
      obtain ⟨C3, r1, r2, r3⟩ := f_release (I := C2) (n := n) (f := g) hn hg9 (by rw [fC _ _ (by decide)]; exact hW.1.2.2.1) (fun x hx hxx => by
        rw [fC _ _ (by omega)] at hxx
        rcases hW.2.1 x hx with ⟨z1, -⟩ | ⟨f', k2, z1, z2, z3, -⟩
        · rw [z1] at hxx
          exact absurd hxx (nI_m1' (by omega))
        · have : f' = g := nI_inj (by omega) (by omega) (z3.symm.trans hxx)
          omega)
      have o140 := st_140one (K := fun I => some I) w1 (by rw [fD _ _ (by omega), w5]; rfl) (by rw [fD _ _ (by omega)]; exact w7) o1 hno hno1 k zF 0 (by omega) (zF_lt (by omega))
      refine ⟨1, B, C3, E2, d1 + d2, by rw [eS, if_neg c], ?_, eLd _ o140, by omega, ?_, rG_cong y3 (fun a ha b => r2 a b (by omega)) (fun a ha b => o2 a b (by omega)), by rw [r2 _ _ (by decide), c17, Nat.add_assoc], by rw [o2 _ _ (by omega), d35, Nat.add_assoc], fun a b h => by rw [r2 a b (by omega), fC a b (by omega)], fun a b h => by rw [o2 a b (by omega), fD a b (by omega)]⟩
      · rw [if_neg (by decide), eL]
        simp only [Option.bind_some]
        rw [hg6]
        exact r1
      · refine rW_drop hW hg w1 w2 ?_ ?_ ?_ ?_ ?_ ?_ ?_ ?_ ?_ ?_ ?_
        · rw [r2 _ _ (by decide), fC _ _ (by decide)]
        · rw [o2 _ _ (by omega), fD _ _ (by decide)]
        · intro a ha b; rw [r2 _ _ (by omega), fC _ _ (by omega)]
        · intro a ha b; rw [o2 _ _ (by omega), fD _ _ (by omega)]
        · intro x hx; rw [r3 x hx, fC _ _ (by omega)]
        · intro x hx; rw [o3 x hx, fD _ _ (by omega)]
        · intro j hj
          by_cases cj : j = k
          · rw [if_pos cj, cj, o4]
          · rw [if_neg cj, o2 _ _ (by omega), fD _ _ (by omega)]
        · intro x hx
          rw [r2 _ _ (by omega), c6]
          by_cases e : x = th
          · rw [if_pos e, e, hg6, if_pos rfl]
          · rw [if_neg e, if_neg]
            intro h9
            rcases hW.2.2.2.2.2.1 x hx with z1 | ⟨f', z1, z2, z3, z4⟩
            · rw [z1] at h9
              exact nI_m1' (by omega) h9
            · have : f' = g := nI_inj (by have := z1.1; omega) (by omega) (z2.symm.trans h9)
              subst this
              exact e (nI_inj (by omega) (by omega) (z4.symm.trans hg44))
        · intro x hx
          rw [r2 _ _ (by omega), fC _ _ (by omega), if_neg]
          intro h9
          rcases hW.2.2.2.2.2.2.1 x hx with z1 | ⟨f', z1, z2, z3, z4⟩
          · rw [z1] at h9
            exact nI_m1' (by omega) h9
          · have : f' = g := nI_inj (by have := z1.1; omega) (by omega) (z2.symm.trans h9)
            subst this
            rw [w4] at z3
            exact absurd z3 (by decide)
        · intro x hx
          rw [r2 _ _ (by omega), fC _ _ (by omega), if_neg]
          intro h9
          rcases hW.2.2.2.2.2.2.2.1 x hx with z1 | ⟨f', z1, z2, z3, z4⟩
          · rw [z1] at h9
            exact nI_m1' (by omega) h9
          · have : f' = g := nI_inj (by have := z1.1; omega) (by omega) (z2.symm.trans h9)
            subst this
            rw [w4] at z3
            exact absurd z3 (by decide)
        · intro f' jb' th' z1 z2 z3 z4 z5 z6
          rw [r2 _ _ (by omega), c2' th']
          intro e9
          subst e9
          exact z2 (uniq f' jb' z1 z3 z5 z4)
/-- strainSails and the reference's loads, sail by sail -/
theorem f_strain {K K' : zPI → Option zPI} {n m f : Nat} {ab : Bool} (hf : f < 13) : ∀ (r fu fu' s p : Nat) (I J : zPI), s + r = 9 → r < fu → r < fu' → rW I J n (fun _ => m + 1) → rG I J → I 9 6 = nI f → I 1 7 = nI p → J 48 35 = nI p → p + 2 * r < 1000000000 →
    ∃ I' J' p', fX8_strainSails_2 K fu (if ab then 1 else 0) (nI s) I = K I' ∧ fX9_sails_269 K' fu' (nI f) (if ab then 1 else 0) (nI s) J = K' J' ∧ p' ≤ p + 2 * r ∧ rW I' J' n (fun _ => m + 1) ∧ rG I' J' ∧ I' 1 7 = nI p' ∧ J' 48 35 = nI p' ∧
      (∀ a b, ¬ (a = 2 ∨ a = 3 ∨ a = 4 ∨ a = 6 ∨ a = 47 ∨ (a = 1 ∧ b = 7) ∨ (a = 42 ∧ b = 7)) → I' a b = I a b) ∧ (∀ a b, ¬ (a = 58 ∨ a = 59 ∨ a = 60 ∨ a = 62 ∨ a = 63 ∨ (a = 48 ∧ b = 35)) → J' a b = J a b) := by
  intro r
  induction r with
  | zero =>
    intro fu fu' s p I J hs hf1 hf2 hW hG h6 hp hq hpb
    obtain ⟨fu, rfl, -⟩ := zsucc hf1
    obtain ⟨fu', rfl, -⟩ := zsucc hf2
    have : s = 9 := by omega
    subst this
    exact ⟨I, J, p, by rw [fX8_strainSails_2, if_pos (show (9 : Int32) ≤ nI 9 by decide)], by rw [fX9_sails_269, if_pos (show (9 : Int32) ≤ nI 9 by decide)], by omega, hW, hG, hp, hq, fun _ _ _ => rfl, fun _ _ _ => rfl⟩
  | succ r ih =>
    intro fu fu' s p I J hs hf1 hf2 hW hG h6 hp hq hpb
    obtain ⟨fu, rfl, hf1⟩ := zsucc hf1
    obtain ⟨fu', rfl, hf2⟩ := zsucc hf2
    have g1 := (hG.1 s (by omega)).1
    have hz : zin (nI s) 9 = true := zin_nI (by omega) (by omega)
    rw [fX8_strainSails_2, if_neg (show ¬ (9 : Int32) ≤ nI s from nI_ge (a := s) (b := 9) (by omega) (by omega)), fX9_sails_269, if_neg (show ¬ (9 : Int32) ≤ nI s from nI_ge (a := s) (b := 9) (by omega) (by omega))]
    simp only [hz, if_true]
    rw [nI_clamp (by omega), nI_1, ← g1, h6]
    by_cases c : I 2 s = 1
    · rw [if_pos c, if_pos c]
      obtain ⟨b, I1, I2, J2, d, a1, a2, a3, a4, a5, a6, a7, a8, a9, a10⟩ := st_sail hW hG (ab := ab) hf (by omega) c (by omega) hp hq
      obtain ⟨I', J', p', x1, x2, x3, x4, x5, x6, x7, x8, x9⟩ := ih fu fu' (s + 1) (p + d) I2 J2 (by omega) (by omega) (by omega) a5 a6 (by rw [a9 _ _ (by decide)]; exact h6) a7 a8 (by omega)
      refine ⟨I', J', p', ?_, ?_, by omega, x4, x5, x6, x7, fun a b h => by rw [x8 a b h, a9 a b h], fun a b h => by rw [x9 a b h, a10 a b h]⟩
      · rw [a1]
        simp only [Option.bind_some]
        by_cases cb : b = 0
        · rw [if_pos cb] at a2 ⊢
          cases a2
          exact x1
        · rw [if_neg cb] at a2 ⊢
          obtain ⟨q5, y1, y2⟩ := zbind a2
          rw [y1]
          simp only [Option.bind_some]
          rw [y2]
          exact x1
      · obtain ⟨-, ⟨l1, l2⟩, -⟩ := st_load f hf s (by omega)
        have key : ∀ t : Int32, (((nI f * nI f) * (fX9_area (nI s))) / 4) * t = nI (zld f s ab) → fX9_sails_310 (fX9_sails_269 K' fu') (nI f) (if ab then 1 else 0) (nI s) (nI s) (((nI f * nI f) * (fX9_area (nI s))) / 4) t J = K' J' := by
          intro t ht
          rw [fX9_sails_310, ht, a3]
          simp only [Option.bind_some, nI_1]
          exact x2
        cases ab
        · rw [if_pos (by decide)]
          exact key 1 l1
        · rw [if_neg (by decide)]
          exact key 2 l2
    · rw [if_neg c, if_neg c]
      obtain ⟨I', J', p', x1, x2, x3, x4⟩ := ih fu fu' (s + 1) p I J (by omega) (by omega) (by omega) hW hG h6 hp hq (by omega)
      exact ⟨I', J', p', x1, x2, by omega, x4⟩
