/-! THE TEXT: what is carried out, on both sides; hh: the half of the codes that is in force -/
abbrev inH (hh p : Nat) : Prop := 2200 * hh ≤ p ∧ p < 2200 * hh + 2200
def Ld (J : zPI) (hh : Nat) : Nat → Nat → Nat → Prop
  | 0, p, q => p = q
  | n + 1, p, q => inH hh p ∧ J 54 p = 12 ∧ ∃ p', inH hh p' ∧ J 55 p = nI p' ∧ Ld J hh n p' q
def LdE (J : zPI) (hh p q : Nat) : Prop := ∃ n, n ≤ 90 ∧ Ld J hh n p q
theorem Ld_congH {J J' : zPI} {hh : Nat} (e : ∀ a, a = 54 ∨ a = 55 → ∀ b, inH hh b → J' a b = J a b) : ∀ n p q, Ld J hh n p q → Ld J' hh n p q := by
  intro n
  induction n with
  | zero => intro p q h; exact h
  | succ n ih =>
    rintro p q ⟨h1, h2, p', h3, h4, h5⟩
    exact ⟨h1, by rw [e 54 (Or.inl rfl) p h1]; exact h2, p', h3, by rw [e 55 (Or.inr rfl) p h1]; exact h4, ih p' q h5⟩
theorem Ld_cong {J J' : zPI} {hh : Nat} (e : ∀ a, a = 54 ∨ a = 55 → ∀ b, J' a b = J a b) : ∀ n p q, Ld J hh n p q → Ld J' hh n p q := Ld_congH (fun a ha b _ => e a ha b)
theorem LdE_congH {J J' : zPI} {hh : Nat} (e : ∀ a, a = 54 ∨ a = 55 → ∀ b, inH hh b → J' a b = J a b) {p q : Nat} (h : LdE J hh p q) : LdE J' hh p q := by
  obtain ⟨n, h1, h2⟩ := h
  exact ⟨n, h1, Ld_congH e n p q h2⟩
theorem LdE_cong {J J' : zPI} {hh : Nat} (e : ∀ a, a = 54 ∨ a = 55 → ∀ b, J' a b = J a b) {p q : Nat} (h : LdE J hh p q) : LdE J' hh p q := LdE_congH (fun a ha b _ => e a ha b) h
def tok (J : zPI) (p : Nat) : Prop := (J 54 p = 1 ∧ ∃ v, v < 100000 ∧ J 55 p = nI v) ∨ (J 54 p = 2 ∧ ∃ w, w < 7 ∧ J 55 p = nI w)
def tv (J : zPI) (V : Nat → Int) (p : Nat) : Int := if J 54 p = 1 then (J 55 p).toInt else V ((J 55 p).toNatClampNeg + 1)
def sok (J : zPI) (p m : Nat) : Prop := tok J p ∧ ∀ k, k < m → tok J (p + 2 * k + 1) ∧ (J 54 (p + 2 * k + 2) = 3 ∨ J 54 (p + 2 * k + 2) = 4)
def sv (J : zPI) (V : Nat → Int) (p : Nat) : Nat → Int
  | 0 => tv J V p
  | m + 1 => if J 54 (p + 2 * m + 2) = 3 then sv J V p m + tv J V (p + 2 * m + 1) else sv J V p m - tv J V (p + 2 * m + 1)
def w8 (W V : Nat → Int) : Int := W 0 * V 0 + W 1 * V 1 + W 2 * V 2 + W 3 * V 3 + W 4 * V 4 + W 5 * V 5 + W 6 * V 6 + W 7 * V 7
/-- the E of statement i: its weights, its codes from A to U -/
def EX (I J : zPI) (a i f A U : Nat) : Prop := ∃ (W : Nat → Int) (ml : Nat), (∀ p, p < 8 → I (a + 8) (i * 8 + p) = iI (W p)) ∧ (ml ≤ 520 ∧ U ≤ A + 1100) ∧ sok J A ml ∧
  ((f = 0 ∧ U = A + 2 * ml + 1 ∧ ∀ V, V 0 = 1 → w8 W V = sv J V A ml) ∨
   (∃ mr, mr ≤ 520 ∧ U = A + 2 * ml + 2 * mr + 3 ∧ sok J (A + 2 * ml + 1) mr ∧ ((f = 1 ∧ J 54 (A + 2 * ml + 2 * mr + 2) = 5) ∨ (f = 2 ∧ J 54 (A + 2 * ml + 2 * mr + 2) = 6)) ∧ ∀ V, V 0 = 1 → w8 W V = sv J V A ml - sv J V (A + 2 * ml + 1) mr))
def TXs (I J : zPI) (hh a cnt : Nat) (A U : Nat → Nat) (i : Nat) : Prop := inH hh (A i) ∧ ∃ v f s af, I (a + 1) i = nI v ∧ I (a + 2) i = nI f ∧ I (a + 3) i = nI s ∧ I (a + 7) i = nI af ∧ af ≤ cnt ∧
  ((v < 4 ∧ f < zlim v ∧ s ≤ 8 ∧ J 54 (A i) = 7 ∧ J 55 (A i) = nI (32 * v + f) ∧ J 56 (A i) = nI s ∧ inH hh (A i + 1) ∧ LdE J hh (A i + 1) (A af)) ∨
   (v = 4 ∧ f < 32 ∧ J 54 (A i) = 8 ∧ J 55 (A i) = nI f ∧ inH hh (A i + 1) ∧ LdE J hh (A i + 1) (A af)) ∨
   (v = 5 ∧ f < 3 ∧ J 54 (A i) = 9 ∧ J 55 (A i) = nI f ∧ inH hh (A i + 1) ∧ LdE J hh (A i + 1) (A af)) ∨
   (v = 6 ∧ 1 ≤ f ∧ f ≤ 999 ∧ J 54 (A i) = 10 ∧ J 55 (A i) = nI f ∧ inH hh (A i + 1) ∧ LdE J hh (A i + 1) (A af)) ∨
   ((v = 7 ∨ v = 8) ∧ f < 3 ∧ inH hh (U i + 1) ∧ A i ≤ U i ∧ EX I J a i f (A i) (U i) ∧ J 54 (U i) = 11 ∧ ∃ wt wf tg, wt ≤ cnt ∧ wf ≤ cnt ∧ fX5_whenTrue a I (nI i) = some (nI wt) ∧ fX5_whenFalse a I (nI i) = some (nI wf) ∧ inH hh tg ∧ J 55 (U i) = nI tg ∧ LdE J hh (U i + 1) (A wt) ∧ LdE J hh tg (A wf)))
def TX (I J : zPI) (hh a cnt : Nat) (A U : Nat → Nat) : Prop := I a 0 = nI cnt ∧ (cnt ≤ 80 ∧ hh < 2) ∧ inH hh (A cnt) ∧ J 54 (A cnt) = 0 ∧ ∀ i, i < cnt → TXs I J hh a cnt A U i
/-! the parts' values in a minute -/
def zVl (m pt fo c : Nat) (sp g : Int32) (k : Nat) : Int := match k with
  | 0 => 1
  | 1 => fo
  | 2 => pt
  | 3 => (if fX0_isAback (fX0_apart (nI pt) (nI c)) = 0 then 0 else 1)
  | 4 => sp.toInt
  | 5 => c
  | 6 => ((m / 60 % 24 : Nat) : Int)
  | _ => g.toInt
/-- what the reference's parts rest on -/
def rX (J : zPI) (m pt fo c : Nat) (sp g : Int32) : Prop := ∃ (w : Nat) (M P F : Nat → Nat), zWR J w M P F ∧ pt = wval P (wnd M m w) ∧ fo = wval F (wnd M m w) ∧ J 48 29 = nI m ∧ m < 1000000 ∧ J 48 30 = nI c ∧ c < 32 ∧ J 48 32 = sp ∧ gw (J 59) (J 60) 18 = g
theorem rX_cong {J J' : zPI} {m pt fo c : Nat} {sp g : Int32} (h : rX J m pt fo c sp g) (e1 : ∀ b, b = 29 ∨ b = 30 ∨ b = 32 ∨ b = 39 → J' 48 b = J 48 b) (e2 : ∀ a, a = 59 ∨ a = 60 ∨ a = 67 ∨ a = 68 ∨ a = 69 → ∀ b, J' a b = J a b) : rX J' m pt fo c sp g := by
  obtain ⟨w, M, P, F, h1, h2, h3, h4, h5, h6, h7, h8, h9⟩ := h
  refine ⟨w, M, P, F, zWR_cong h1 (e1 39 (by simp)) (fun a ha b => e2 a (by omega) b), h2, h3, by rw [e1 29 (by simp)]; exact h4, h5, by rw [e1 30 (by simp)]; exact h6, h7, by rw [e1 32 (by simp)]; exact h8, ?_⟩
  rw [← h9]
  exact gw_cong 18 (fun j _ => ⟨e2 59 (by simp) j, e2 60 (by simp) j⟩)
theorem rX_b {J : zPI} {m pt fo c : Nat} {sp g : Int32} (h : rX J m pt fo c sp g) : pt < 32 ∧ fo < 13 ∧ c < 32 ∧ m < 1000000 := by
  obtain ⟨w, M, P, F, h1, h2, h3, h4, h5, h6, h7, -⟩ := h
  refine ⟨?_, ?_, h7, h5⟩
  · rw [h2]; exact wval_lt (k := w) (by omega) (fun j hj => wnd_lt w j hj) (fun j hj => (h1.2.2 j hj).2.1.2)
  · rw [h3]; exact wval_lt (k := w) (by omega) (fun j hj => wnd_lt w j hj) (fun j hj => (h1.2.2 j hj).2.2.2)
theorem hour_eq {m : Nat} (hm : m < 1000000) : zrm (nI m / 60) 24 = nI (m / 60 % 24) := by
  rw [show nI m / 60 = nI (m / 60) from pk_div (a := m) (d := 60) (by omega) (by omega) (by omega)]
  exact pk_rem (a := m / 60) (d := 24) (by omega) (by omega) (by omega)
theorem rX_part {J : zPI} {m pt fo c : Nat} {sp g : Int32} (h : rX J m pt fo c sp g) : ∀ w, w < 7 → fX9_partOf J (nI w) = some (iI (zVl m pt fo c sp g (w + 1))) := by
  obtain ⟨b1, b2, b3, b4⟩ := rX_b h
  obtain ⟨w, M, P, F, h1, h2, h3, h4, h5, h6, h7, h8, h9⟩ := h
  have hp : fX9_point J = some (nI pt) := by rw [wi_point (by omega) h1 h4, h2]
  have hf : fX9_force J = some (nI fo) := by rw [wi_force (by omega) h1 h4, h3]
  intro k hk
  have : k = 0 ∨ k = 1 ∨ k = 2 ∨ k = 3 ∨ k = 4 ∨ k = 5 ∨ k = 6 := by omega
  unfold fX9_partOf
  rcases this with rfl | rfl | rfl | rfl | rfl | rfl | rfl
  · rw [if_pos (show nI 0 = (0 : Int32) from rfl), hf]
    simp only [Option.bind_some, zVl]
    rw [iI_nat]
  · rw [if_neg (by decide), if_pos (show nI 1 = (1 : Int32) from rfl), hp]
    simp only [Option.bind_some, zVl]
    rw [iI_nat]
  · rw [if_neg (by decide), if_neg (by decide), if_pos (show nI 2 = (2 : Int32) from rfl), hp]
    simp only [Option.bind_some, zVl]
    rw [h6, (sa_apart pt b1 c b3).1]
    unfold fX0_isAback
    by_cases c5 : 5 ≤ fX0_apart (nI pt) (nI c)
    · rw [if_pos c5]
      simp only [if_pos c5, if_true]
      rfl
    · rw [if_neg c5]
      simp only [if_neg c5]
      rfl
  · rw [if_neg (by decide), if_neg (by decide), if_neg (by decide), if_pos (show nI 3 = (3 : Int32) from rfl), h8]
    simp only [zVl]
    rw [iI_of]
  · rw [if_neg (by decide), if_neg (by decide), if_neg (by decide), if_neg (by decide), if_pos (show nI 4 = (4 : Int32) from rfl), h6]
    simp only [zVl]
    rw [iI_nat]
  · rw [if_neg (by decide), if_neg (by decide), if_neg (by decide), if_neg (by decide), if_neg (by decide), if_pos (show nI 5 = (5 : Int32) from rfl), h4, hour_eq h5]
    simp only [zVl]
    rw [iI_nat]
  · rw [if_neg (by decide), if_neg (by decide), if_neg (by decide), if_neg (by decide), if_neg (by decide), if_neg (by decide), f_ln, h9]
    simp only [Option.bind_some, zVl]
    rw [iI_of]
/-- the class's row of parts -/
def rP (I : zPI) (V : Nat → Int) : Prop := ∀ p, p < 8 → I 23 p = iI (V p)
theorem rP_weigh {I : zPI} {m pt fo c : Nat} (hm : m < 1000000) (h1 : I 9 5 = nI pt) (h2 : I 9 6 = nI fo) (h3 : I 0 13 = nI c) (h4 : I 0 12 = nI m) : ∃ I', fX8_weighParts I = some I' ∧ (∀ a b, a ≠ 23 → I' a b = I a b) ∧ rP I' (zVl m pt fo c (I 0 15) (gw (I 3) (I 4) 18)) := by
  obtain ⟨I', e, f, a0, a1, a2, a3, a4, a5, a6, a7⟩ := f_weigh I
  refine ⟨I', e, f, fun p hp => ?_⟩
  have : p = 0 ∨ p = 1 ∨ p = 2 ∨ p = 3 ∨ p = 4 ∨ p = 5 ∨ p = 6 ∨ p = 7 := by omega
  rcases this with rfl | rfl | rfl | rfl | rfl | rfl | rfl | rfl
  · rw [a0]; rfl
  · rw [a1, h2]; simp only [zVl]; rw [iI_nat]
  · rw [a2, h1]; simp only [zVl]; rw [iI_nat]
  · rw [a3, h1, h3]
    simp only [zVl]
    by_cases cc : fX0_isAback (fX0_apart (nI pt) (nI c)) = 0
    · rw [if_pos cc, if_pos cc]; rfl
    · rw [if_neg cc, if_neg cc]; rfl
  · rw [a4]; simp only [zVl]; rw [iI_of]
  · rw [a5, h3]; simp only [zVl]; rw [iI_nat]
  · rw [a6, h4, hour_eq hm]; simp only [zVl]; rw [iI_nat]
  · rw [a7]; simp only [zVl]; rw [iI_of]
theorem iI_lin (s a b : Int) : iI s + iI a * iI b = iI (s + a * b) := by rw [iI_mul, iI_add]
/-- isTrue: the sum -/
theorem f_isTrue {I : zPI} {a i : Nat} {W V : Nat → Int} (hi : i < 80) (hW : ∀ p, p < 8 → I (a + 8) (i * 8 + p) = iI (W p)) (hV : rP I V) : fX5_isTrue a I (nI i) = fX5_isTrue_45 a I (nI i) (iI (w8 W V)) := by
  have ix : ∀ p, nI i * 8 + nI p = nI (i * 8 + p) := fun p => by rw [show (8 : Int32) = nI 8 from rfl, pk_mul, nI_add]
  have step : ∀ (fu p : Nat) (s : Int), p < 8 → fX5_isTrue_5 a I (fun v1 v3 => fX5_isTrue_45 a I v1 v3) (fu + 1) (nI i) (iI s) (nI p) = fX5_isTrue_5 a I (fun v1 v3 => fX5_isTrue_45 a I v1 v3) fu (nI i) (iI (s + W p * V p)) (nI (p + 1)) := by
    intro fu p s hp
    have n1 : ¬ (8 : Int32) ≤ nI p := nI_ge (b := 8) hp (by omega)
    rw [fX5_isTrue_5, if_neg n1, if_neg n1, ix, zif_t (zin_nI (by omega) (by omega)), zif_t (zin_nI hp (by omega)), nI_clamp (by omega), nI_clamp (by omega), hW p hp, hV p hp, zlet, iI_lin, nI_1]
  unfold fX5_isTrue
  rw [zF_succ, show (99999 : Nat) = 99991 + 1 + 1 + 1 + 1 + 1 + 1 + 1 + 1 from rfl]
  have e := step (99991 + 1 + 1 + 1 + 1 + 1 + 1 + 1 + 1) 0 0 (by omega)
  refine e.trans ?_
  rw [step _ 1 _ (by omega), step _ 2 _ (by omega), step _ 3 _ (by omega), step _ 4 _ (by omega), step _ 5 _ (by omega), step _ 6 _ (by omega), step _ 7 _ (by omega), fX5_isTrue_5, if_pos (show (8 : Int32) ≤ nI (7 + 1) by decide)]
  have : (0 : Int) + W 0 * V 0 + W 1 * V 1 + W 2 * V 2 + W 3 * V 3 + W 4 * V 4 + W 5 * V 5 + W 6 * V 6 + W 7 * V 7 = w8 W V := by
    unfold w8
    omega
  rw [this]
