/-! carryOut and carries, statement by statement -/
theorem tok_cong {J J' : zPI} (e : ∀ a, a = 54 ∨ a = 55 → ∀ b, J' a b = J a b) {p : Nat} (h : tok J p) : tok J' p := by
  unfold tok at *
  rw [e 54 (Or.inl rfl), e 55 (Or.inr rfl)]
  exact h
theorem sok_cong {J J' : zPI} (e : ∀ a, a = 54 ∨ a = 55 → ∀ b, J' a b = J a b) {p m : Nat} (h : sok J p m) : sok J' p m :=
  ⟨tok_cong e h.1, fun k hk => ⟨tok_cong e (h.2 k hk).1, by rw [e 54 (Or.inl rfl)]; exact (h.2 k hk).2⟩⟩
theorem tv_cong {J J' : zPI} (e : ∀ a, a = 54 ∨ a = 55 → ∀ b, J' a b = J a b) (V : Nat → Int) (p : Nat) : tv J' V p = tv J V p := by
  unfold tv
  rw [e 54 (Or.inl rfl), e 55 (Or.inr rfl)]
theorem sv_cong {J J' : zPI} (e : ∀ a, a = 54 ∨ a = 55 → ∀ b, J' a b = J a b) (V : Nat → Int) (p : Nat) : ∀ m, sv J' V p m = sv J V p m := by
  intro m
  induction m with
  | zero => exact tv_cong e V p
  | succ m ih =>
    rw [sv, sv, ih, tv_cong e, e 54 (Or.inl rfl)]
theorem EX_cong {I I' J J' : zPI} {a i f A U : Nat} (eI : ∀ b, I' (a + 8) b = I (a + 8) b) (e : ∀ a, a = 54 ∨ a = 55 → ∀ b, J' a b = J a b) (h : EX I J a i f A U) : EX I' J' a i f A U := by
  obtain ⟨W, ml, h1, h2, h3, h4⟩ := h
  refine ⟨W, ml, fun p hp => by rw [eI]; exact h1 p hp, h2, sok_cong e h3, ?_⟩
  rcases h4 with ⟨a1, a2, a3⟩ | ⟨mr, a1, a2, a3, a4, a5⟩
  · exact Or.inl ⟨a1, a2, fun V hV => by rw [sv_cong e]; exact a3 V hV⟩
  · exact Or.inr ⟨mr, a1, a2, sok_cong e a3, by rw [e 54 (Or.inl rfl)]; exact a4, fun V hV => by rw [sv_cong e, sv_cong e]; exact a5 V hV⟩
theorem TX_cong {I I' J J' : zPI} {hh a cnt : Nat} {A U : Nat → Nat} (h : TX I J hh a cnt A U) (eI : ∀ k, k ≤ 8 → ∀ b, I' (a + k) b = I (a + k) b) (eJ : ∀ x, x = 54 ∨ x = 55 ∨ x = 56 → ∀ b, J' x b = J x b) : TX I' J' hh a cnt A U := by
  have e : ∀ x, x = 54 ∨ x = 55 → ∀ b, J' x b = J x b := fun x hx b => eJ x (by omega) b
  obtain ⟨h1, h2, h3, h4, h5⟩ := h
  refine ⟨by rw [← h1]; exact eI 0 (by omega) 0, h2, h3, by rw [eJ 54 (by simp)]; exact h4, fun i hi => ?_⟩
  obtain ⟨a0, v, f, s, af, a1, a2, a3, a4, a5, a6⟩ := h5 i hi
  have wT : fX5_whenTrue a I' (nI i) = fX5_whenTrue a I (nI i) := by
    unfold fX5_whenTrue
    rw [eI 1 (by omega), eI 5 (by omega), eI 6 (by omega), eI 7 (by omega)]
  have wF : fX5_whenFalse a I' (nI i) = fX5_whenFalse a I (nI i) := by
    unfold fX5_whenFalse
    rw [eI 1 (by omega), eI 5 (by omega), eI 6 (by omega), eI 7 (by omega)]
  refine ⟨a0, v, f, s, af, by rw [eI 1 (by omega)]; exact a1, by rw [eI 2 (by omega)]; exact a2, by rw [eI 3 (by omega)]; exact a3, by rw [eI 7 (by omega)]; exact a4, a5, ?_⟩
  rw [eJ 54 (by simp), eJ 55 (by simp), eJ 56 (by simp), eJ 54 (by simp) (U i), eJ 55 (by simp) (U i), wT, wF]
  rcases a6 with ⟨b1, b2, b3, b4, b5, b6, b7, b8⟩ | ⟨b1, b2, b3, b4, b5, b6⟩ | ⟨b1, b2, b3, b4, b5, b6⟩ | ⟨b1, b2, b3, b4, b5, b6, b7⟩ | ⟨b1, b2, b3, b3', b4, b5, wt, wf, tg, b6, b7, b8, b9, b10, b11, b12, b13⟩
  · exact Or.inl ⟨b1, b2, b3, b4, b5, b6, b7, LdE_cong e b8⟩
  · exact Or.inr (Or.inl ⟨b1, b2, b3, b4, b5, LdE_cong e b6⟩)
  · exact Or.inr (Or.inr (Or.inl ⟨b1, b2, b3, b4, b5, LdE_cong e b6⟩))
  · exact Or.inr (Or.inr (Or.inr (Or.inl ⟨b1, b2, b3, b4, b5, b6, LdE_cong e b7⟩)))
  · exact Or.inr (Or.inr (Or.inr (Or.inr ⟨b1, b2, b3, b3', EX_cong (eI 8 (by omega)) e b4, b5, wt, wf, tg, b6, b7, b8, b9, b10, b11, LdE_cong e b12, LdE_cong e b13⟩)))
/-- both sides in the middle of a minute's orders -/
def rE (I J : zPI) (hh n m a cnt : Nat) (A U : Nat → Nat) (pt fo c : Nat) (sp g : Int32) (at' WT : Nat) : Prop :=
  TX I J hh a cnt A U ∧ (I 0 9 = nI at' ∧ at' ≤ cnt ∧ ∃ pc, inH hh pc ∧ J 48 37 = nI pc ∧ LdE J hh pc (A at')) ∧ J 48 46 = nI 0 ∧ (I 0 10 = nI (WT - m) ∧ J 48 38 = nI WT ∧ WT < 2000000) ∧
  rW I J n (fun _ => m + 1) ∧ rG I J ∧ (∃ d, d < 3 ∧ I 42 6 = nI d ∧ J 48 28 = nI d) ∧ (∃ w, w < 32 ∧ I 0 14 = nI w ∧ J 48 31 = nI w) ∧ I 0 11 = J 48 36 ∧ I 0 12 = nI m ∧ rP I (zVl m pt fo c sp g) ∧ rX J m pt fo c sp g
/-- a statement is done: the next one -/
theorem rE_next {I J I' J' : zPI} {hh n m a cnt : Nat} {A U : Nat → Nat} {pt fo c : Nat} {sp g : Int32} {at0 at' WT WT' : Nat} (ha : a = 24 ∨ a = 33) (h : rE I J hh n m a cnt A U pt fo c sp g at0 WT) {pc : Nat} (hpc : inH hh pc) (hat : at' ≤ cnt) (hL : LdE J hh pc (A at'))
    (e9 : I' 0 9 = nI at') (e37 : J' 48 37 = nI pc) (e46 : J' 48 46 = nI 0) (e10 : I' 0 10 = nI (WT' - m)) (e38 : J' 48 38 = nI WT') (hWT : WT' < 2000000)
    (hW : rW I' J' n (fun _ => m + 1)) (hG : rG I' J') (hd : ∃ d, d < 3 ∧ I' 42 6 = nI d ∧ J' 48 28 = nI d) (hw : ∃ w, w < 32 ∧ I' 0 14 = nI w ∧ J' 48 31 = nI w) (e11 : I' 0 11 = J' 48 36)
    (fI : ∀ x y, ¬ (x = 0 ∨ x = 6 ∨ x = 7 ∨ x = 8 ∨ x = 42 ∨ x = 43 ∨ x = 44 ∨ x = 45 ∨ x = 46 ∨ x = 47) → I' x y = I x y) (e12 : I' 0 12 = I 0 12)
    (fJ : ∀ x y, ¬ (x = 62 ∨ x = 63 ∨ x = 64 ∨ x = 65 ∨ x = 66 ∨ x = 70 ∨ (x = 48 ∧ (y = 28 ∨ y = 31 ∨ y = 36 ∨ y = 37 ∨ y = 38 ∨ y = 46))) → J' x y = J x y) : rE I' J' hh n m a cnt A U pt fo c sp g at' WT' := by
  obtain ⟨h1, h2, h3, h4, h5, h6, h7, h8, h9, h10, h11, h12⟩ := h
  refine ⟨TX_cong h1 (fun k hk b => fI _ _ (by omega)) (fun x hx b => fJ _ _ (by omega)), ⟨e9, hat, pc, hpc, e37, LdE_cong (fun x hx b => fJ _ _ (by omega)) hL⟩, e46, ⟨e10, e38, hWT⟩, hW, hG, hd, hw, e11, by rw [e12]; exact h10, fun p hp => by rw [fI _ _ (by decide)]; exact h11 p hp, rX_cong h12 (fun b hb => fJ _ _ (by omega)) (fun x hx b => fJ _ _ (by omega))⟩
theorem zVl_b {m pt fo c : Nat} {sp g : Int32} (hpt : pt < 32) (hfo : fo < 13) (hc : c < 32) (s1 : -3 ≤ sp.toInt) (s2 : sp.toInt ≤ 14) (g1 : 0 ≤ g.toInt) (g2 : g.toInt ≤ 900) : ∀ k, -100000 ≤ zVl m pt fo c sp g k ∧ zVl m pt fo c sp g k ≤ 100000 := by
  intro k
  match k with
  | 0 => simp only [zVl]; omega
  | 1 => simp only [zVl]; omega
  | 2 => simp only [zVl]; omega
  | 3 => simp only [zVl]; split <;> omega
  | 4 => simp only [zVl]; omega
  | 5 => simp only [zVl]; omega
  | 6 => simp only [zVl]; omega
  | k + 7 => simp only [zVl]; omega
set_option maxRecDepth 100000 in
theorem f_carry {K : zPI → Option zPI} {hh n m a cnt : Nat} {A U : Nat → Nat} {pt fo c : Nat} {sp g : Int32} (ha : a = 24 ∨ a = 33) (hV : ∀ k, -100000 ≤ zVl m pt fo c sp g k ∧ zVl m pt fo c sp g k ≤ 100000) : ∀ (r fu fu' d : Nat) (I J : zPI) (at' WT : Nat), d + r = 60 → r < fu → r * 1200 + 200 < fu' → rE I J hh n m a cnt A U pt fo c sp g at' WT →
    ∃ I' J' at2 WT2, fX8_carryOut_6 a K fu (nI d) I = K I' ∧ fX9_carries_2 (fun I => some I) fu' (nI d) J = some J' ∧ rE I' J' hh n m a cnt A U pt fo c sp g at2 WT2 ∧
      (∀ x y, ¬ (x = 0 ∧ (y = 9 ∨ y = 10 ∨ y = 11 ∨ y = 14) ∨ x = 6 ∨ x = 7 ∨ x = 8 ∨ (x = 42 ∧ (y = 6 ∨ y = 7)) ∨ x = 43 ∨ x = 44 ∨ x = 45 ∨ x = 46 ∨ x = 47) → I' x y = I x y) ∧ (∀ x y, ¬ (x = 62 ∨ x = 63 ∨ x = 64 ∨ x = 65 ∨ x = 66 ∨ x = 70 ∨ (x = 48 ∧ (y = 28 ∨ y = 31 ∨ y = 36 ∨ y = 37 ∨ y = 38 ∨ y = 46))) → J' x y = J x y) := by
  intro r
  induction r with
  | zero =>
    intro fu fu' d I J at' WT hd hf hf' h
    obtain ⟨fu, rfl, -⟩ := zsucc hf
    obtain ⟨fu', rfl, -⟩ := zsucc hf'
    have : d = 60 := by omega
    subst this
    exact ⟨I, J, at', WT, by rw [fX8_carryOut_6, if_pos (show (60 : Int32) ≤ nI 60 by decide)], by rw [fX9_carries_2, if_pos (show (60 : Int32) ≤ nI 60 by decide)], h, fun _ _ _ => rfl, fun _ _ _ => rfl⟩
  | succ r ih =>
    intro fu fu' d I J at' WT hd hf hf' h
    obtain ⟨fu, rfl, hf⟩ := zsucc hf
    obtain ⟨hT, ⟨h9, hat, pc, hpc, h37, hL⟩, h46, ⟨h10, h38, hWT⟩, hW, hG, ⟨dk, hdk, hk1, hk2⟩, ⟨ws, hws, hw1, hw2⟩, h11, h12, hP, hX⟩ := id h
    obtain ⟨b1, b2, b3, b4⟩ := rX_b hX
    have h29 : J 48 29 = nI m := by obtain ⟨w, M, P, F, -, -, -, x4, -⟩ := hX; exact x4
    have n60 : ¬ (60 : Int32) ≤ nI d := nI_ge (b := 60) (by omega) (by omega)
    rw [fX8_carryOut_6, if_neg n60]
    by_cases cw : m < WT
    · -- a wait goes on
      obtain ⟨fu', rfl, hf'⟩ := zsucc hf'
      refine ⟨I, J, at', WT, ?_, ?_, h, fun _ _ _ => rfl, fun _ _ _ => rfl⟩
      · rw [h10, if_neg (nI_ne0 (by omega) (by omega))]
      · rw [fX9_carries_2, if_neg n60, h29, h38, if_pos (nI_lt cw (by omega))]
    have hrun : rRun J (nI d) := ⟨n60, by rw [h29, h38]; exact nI_nlt (by omega) (by omega)⟩
    rw [h10, show WT - m = 0 by omega, if_pos (show nI 0 = (0 : Int32) from rfl), hT.1, h9]
    -- the reference goes the jumps
    obtain ⟨nj, hnj, hLd⟩ := hL
    obtain ⟨J1, hJ1⟩ : ∃ J1 : zPI, J1 = zu J 48 37 (nI (A at')) := ⟨_, rfl⟩
    have f1 : ∀ x y, ¬ (x = 48 ∧ y = 37) → J1 x y = J x y := fun x y hxy => by
      rw [hJ1]
      by_cases h7 : x = 48
      · exact zu_col (by omega)
      · exact zu_row h7
    have hrun1 : rRun J1 (nI d) := rRun_cong hrun (f1 _ _ (by decide)) (f1 _ _ (by decide))
    have hgo : ∀ fu9, fX9_carries_2 (fun I => some I) (fu9 + nj) (nI d) J = fX9_carries_2 (fun I => some I) fu9 (nI d) J1 := fun fu9 => by rw [hJ1]; exact ex_jumps hT.2.1.2 nj fu9 pc (A at') J hLd hrun h37
    obtain ⟨fu9, hfu9⟩ : ∃ fu9, fu' = fu9 + nj := ⟨fu' - nj, by omega⟩
    subst hfu9
    rw [hgo]
    have A37 : J1 48 37 = nI (A at') := by rw [hJ1, zu_same]
    have c80 := hT.2.1
    by_cases ce : cnt ≤ at'
    · -- the text's end
      have : at' = cnt := by omega
      subst this
      obtain ⟨fu9, rfl, -⟩ := zsucc (n := fu9) (m := 0) (by omega)
      refine ⟨I, J1, at', WT, by rw [if_pos (nI_le ce (by omega))], ?_, ?_, fun _ _ _ => rfl, fun x y hxy => f1 x y (by omega)⟩
      · rw [fX9_carries_2, if_neg hrun1.1, if_neg hrun1.2, A37, zif_t (zin_nI (by have := hT.2.2.1; have := hT.2.1.2; omega) (by have := hT.2.2.1; have := hT.2.1.2; omega)), nI_clamp (by have := hT.2.2.1; have := hT.2.1.2; omega), f1 _ _ (by omega), hT.2.2.2.1, if_pos rfl]
      · exact rE_next ha h hT.2.2.1 (Nat.le_refl _) ⟨0, by omega, rfl⟩ h9 A37 (by rw [f1 _ _ (by decide)]; exact h46) h10 (by rw [f1 _ _ (by decide)]; exact h38) hWT (rW_cong hW rfl (f1 _ _ (by decide)) (fun _ _ _ => rfl) (fun x hx b => f1 _ _ (by omega))) (rG_cong hG (fun _ _ _ => rfl) (fun x hx b => f1 _ _ (by omega))) ⟨dk, hdk, hk1, by rw [f1 _ _ (by decide)]; exact hk2⟩ ⟨ws, hws, hw1, by rw [f1 _ _ (by decide)]; exact hw2⟩ (by rw [f1 _ _ (by decide)]; exact h11) (fun _ _ _ => rfl) rfl (fun x y hxy => f1 x y (by omega))
    · rw [if_neg (nI_ge (by omega) (by omega))]
      obtain ⟨fu8, hfu8⟩ : ∃ fu8, fu9 = fu8 + 1 := ⟨fu9 - 1, by omega⟩
      have hfuel : r * 1200 + 200 < fu8 := by omega
      have hlt : at' < cnt := by omega
      -- what is left to do behind a plain statement
      have fin : ∀ (I2 J2 : zPI) (at2 WT2 : Nat), rE (zu I2 0 11 (I2 0 11 + 1)) J2 hh n m a cnt A U pt fo c sp g at2 WT2 → (∀ fu7, r * 1200 + 200 < fu7 → fX9_carries_2 (fun I => some I) (fu7 + 1) (nI d) J1 = fX9_carries_2 (fun I => some I) fu7 (nI (d + 1)) J2) → (∀ x y, ¬ (x = 0 ∧ (y = 9 ∨ y = 10 ∨ y = 11 ∨ y = 14) ∨ x = 6 ∨ x = 7 ∨ x = 8 ∨ (x = 42 ∧ (y = 6 ∨ y = 7)) ∨ x = 43 ∨ x = 44 ∨ x = 45 ∨ x = 46 ∨ x = 47) → I2 x y = I x y) → (∀ x y, ¬ (x = 62 ∨ x = 63 ∨ x = 64 ∨ x = 65 ∨ x = 66 ∨ x = 70 ∨ (x = 48 ∧ (y = 28 ∨ y = 31 ∨ y = 36 ∨ y = 37 ∨ y = 38 ∨ y = 46))) → J2 x y = J x y) →
          ∃ I' J' at3 WT3, fX8_carryOut_6 a K fu (nI (d + 1)) (zu I2 0 11 (I2 0 11 + 1)) = K I' ∧ fX9_carries_2 (fun I => some I) fu9 (nI d) J1 = some J' ∧ rE I' J' hh n m a cnt A U pt fo c sp g at3 WT3 ∧ (∀ x y, ¬ (x = 0 ∧ (y = 9 ∨ y = 10 ∨ y = 11 ∨ y = 14) ∨ x = 6 ∨ x = 7 ∨ x = 8 ∨ (x = 42 ∧ (y = 6 ∨ y = 7)) ∨ x = 43 ∨ x = 44 ∨ x = 45 ∨ x = 46 ∨ x = 47) → I' x y = I x y) ∧ (∀ x y, ¬ (x = 62 ∨ x = 63 ∨ x = 64 ∨ x = 65 ∨ x = 66 ∨ x = 70 ∨ (x = 48 ∧ (y = 28 ∨ y = 31 ∨ y = 36 ∨ y = 37 ∨ y = 38 ∨ y = 46))) → J' x y = J x y) := by
        intro I2 J2 at2 WT2 g1 g2 g3 g4
        obtain ⟨I', J', at3, WT3, x1, x2, x3, x4, x5⟩ := ih fu fu8 (d + 1) (zu I2 0 11 (I2 0 11 + 1)) J2 at2 WT2 (by omega) (by omega) hfuel g1
        refine ⟨I', J', at3, WT3, x1, ?_, x3, fun x y hxy => ?_, fun x y hxy => by rw [x5 x y hxy, g4 x y hxy]⟩
        · rw [hfu8, g2 fu8 hfuel]
          exact x2
        · rw [x4 x y hxy]
          have h9 : zu I2 0 11 (I2 0 11 + 1) x y = I2 x y := by
            by_cases h7 : x = 0
            · exact zu_col (by omega)
            · exact zu_row h7
          rw [h9, g3 x y hxy]
      obtain ⟨hA, v, f, s, af, a1, a2, a3, a4, a5, a6⟩ := hT.2.2.2.2 at' hlt
      have hz80 : zin (nI at') 80 = true := zin_nI (by omega) (by omega)
      have hzA : zin (nI (A at')) 4400 = true := zin_nI (by omega) (by omega)
      have cl : (nI at').toNatClampNeg = at' := nI_clamp (by omega)
      have clA : (nI (A at')).toNatClampNeg = A at' := nI_clamp (by omega)
      have e54 : J1 54 (A at') = J 54 (A at') := f1 _ _ (by omega)
      have e55 : J1 55 (A at') = J 55 (A at') := f1 _ _ (by omega)
      have e56 : J1 56 (A at') = J 56 (A at') := f1 _ _ (by omega)
      have e46 : J1 48 46 = nI 0 := by rw [f1 _ _ (by decide)]; exact h46
      have e29 : J1 48 29 = nI m := by rw [f1 _ _ (by decide)]; exact h29
      have e36 : J1 48 36 = J 48 36 := f1 _ _ (by decide)
      have b4' := b4
      -- the reference's loop at a counted statement
      have cnt1 : ∀ (o : Nat) (fu7 : Nat) (J2 : zPI), J1 54 (A at') = nI o → 8 ≤ o → o ≤ 11 → fX9_carriesOut (zu J1 48 36 ((J1 48 36) + 1)) (nI o) = some J2 → fX9_carries_2 (fun I => some I) (fu7 + 1) (nI d) J1 = fX9_carries_2 (fun I => some I) fu7 (nI (d + 1)) J2 := by
        intro o fu7 J2 o1 o2 o3 o4
        rw [fX9_carries_2, if_neg hrun1.1, if_neg hrun1.2, A37]
        simp only [hzA, if_true]
        rw [clA, o1, if_neg (nI_ne0 (by omega) (by omega)), if_neg (show ¬ nI o = 12 from nI_ne (b := 12) (by omega) (by omega) (by omega)), if_pos (show (7 : Int32) ≤ nI o from nI_le (a := 7) (by omega) (by omega)), if_neg (show ¬ nI o = 7 from nI_ne (b := 7) (by omega) (by omega) (by omega)), fX9_carries_143, o4]
        simp only [Option.bind_some, nI_1]
      have rW1 : rW I J1 n (fun _ => m + 1) := rW_cong hW rfl (f1 _ _ (by decide)) (fun _ _ _ => rfl) (fun x hx b => f1 _ _ (by omega))
      have rG1 : rG I J1 := rG_cong hG (fun _ _ _ => rfl) (fun x hx b => f1 _ _ (by omega))
      have z37 : zu J1 48 36 ((J1 48 36) + 1) 48 37 = nI (A at') := by rw [zu_col (by decide)]; exact A37
      have z55 : zu J1 48 36 ((J1 48 36) + 1) 55 (A at') = J 55 (A at') := by rw [zu_row (by decide)]; exact e55
      have z29 : zu J1 48 36 ((J1 48 36) + 1) 48 29 = nI m := by rw [zu_col (by decide)]; exact e29
      rcases a6 with ⟨b1, b2, b3, b4, b5, b6, b7, b8⟩ | ⟨b1, b2, b3, b4, b5, b6⟩ | ⟨b1, b2, b3, b4, b5, b6⟩ | ⟨b1, b2, b3, b4, b5, b6, b7⟩ | ⟨b1, b2, b3, b3', b4, b5, wt, wf, tg, b6, b7, b8, b9, b10, b11, b12, b13⟩
      · -- a work
        have hfl := zlim_le v
        obtain ⟨bv, I2, J2, x1, x2, x3, x4, x5, x6, x7⟩ := f_begin b4' rW1 rG1 h12 e29 (by rw [hk1, f1 _ _ (by decide), hk2]) b1 b2 b3
        have q1 : nI (32 * v + f) / 32 = nI v := by rw [show nI (32 * v + f) / 32 = nI ((32 * v + f) / 32) from pk_div (a := 32 * v + f) (d := 32) (by omega) (by omega) (by omega), show (32 * v + f) / 32 = v by omega]
        have q2 : zrm (nI (32 * v + f)) 32 = nI f := by rw [show zrm (nI (32 * v + f)) 32 = nI ((32 * v + f) % 32) from pk_rem (a := 32 * v + f) (d := 32) (by omega) (by omega) (by omega), show (32 * v + f) % 32 = f by omega]
        have v4 : ¬ nI v = 4 := nI_ne (b := 4) (by omega) (by omega) (by omega)
        have v5 : ¬ nI v = 5 := nI_ne (b := 5) (by omega) (by omega) (by omega)
        have v6 : ¬ nI v = 6 := nI_ne (b := 6) (by omega) (by omega) (by omega)
        have v7 : ¬ nI v = 7 := nI_ne (b := 7) (by omega) (by omega) (by omega)
        have v8 : ¬ nI v = 8 := nI_ne (b := 8) (by omega) (by omega) (by omega)
        have eC : fX8_carryOutOne a I (nI at') = if bv = 0 then some (0, I2) else some (1, zu I2 0 9 (nI af)) := by
          unfold fX8_carryOutOne
          simp only [hz80, if_true]
          rw [cl, a1, if_neg v4, if_neg v5, if_neg v6, if_neg v7, if_neg v8, a2, a3, x1]
          simp only [Option.bind_some]
          by_cases cb : bv = 0
          · rw [if_pos cb, if_pos cb]
          · rw [if_neg cb, if_neg cb, x6 _ _ (by omega), a4]
        have eR : ∀ fu7, fX9_carries_2 (fun I => some I) (fu7 + 1) (nI d) J1 = if bv = 0 then some J2 else fX9_carries_143 (fX9_carries_2 (fun I => some I) fu7) (nI d) 7 J2 := by
          intro fu7
          rw [fX9_carries_2, if_neg hrun1.1, if_neg hrun1.2, A37]
          simp only [hzA, if_true]
          rw [clA, e54, b4, if_neg (by decide), if_neg (by decide), if_pos (by decide), if_pos rfl, e55, b5, e56, b6, q1, q2, x2]
          simp only [Option.bind_some]
        rw [eC]
        by_cases cb : bv = 0
        · rw [if_pos cb]
          simp only [Option.bind_some, if_true]
          refine ⟨I2, J2, at', WT, rfl, by rw [hfu8, eR, if_pos cb], ?_, fun x y hxy => x6 x y (by omega), fun x y hxy => by rw [x7 x y (by omega), f1 x y (by omega)]⟩
          exact rE_next ha h hA hat ⟨0, by omega, rfl⟩ (by rw [x6 _ _ (by decide)]; exact h9) (by rw [x7 _ _ (by decide)]; exact A37) (by rw [x7 _ _ (by decide)]; exact e46) (by rw [x6 _ _ (by decide)]; exact h10) (by rw [x7 _ _ (by decide), f1 _ _ (by decide)]; exact h38) hWT x4 x5 ⟨dk, hdk, by rw [x6 _ _ (by decide)]; exact hk1, by rw [x7 _ _ (by decide), f1 _ _ (by decide)]; exact hk2⟩ ⟨ws, hws, by rw [x6 _ _ (by decide)]; exact hw1, by rw [x7 _ _ (by decide), f1 _ _ (by decide)]; exact hw2⟩ (by rw [x6 _ _ (by decide), x7 _ _ (by decide), e36]; exact h11) (fun x y hxy => x6 x y (by omega)) (x6 _ _ (by decide)) (fun x y hxy => by rw [x7 x y (by omega), f1 x y (by omega)])
        · rw [if_neg cb]
          simp only [Option.bind_some]
          rw [if_neg (by decide), nI_1]
          obtain ⟨J3, hJ3⟩ : ∃ J3 : zPI, J3 = zu (zu J2 48 36 ((J2 48 36) + 1)) 48 37 (nI (A at' + 1)) := ⟨_, rfl⟩
          have f3 : ∀ x y, ¬ (x = 48 ∧ (y = 36 ∨ y = 37)) → J3 x y = J2 x y := fun x y hxy => by
            rw [hJ3]
            by_cases h7 : x = 48
            · rw [zu_col (by omega), zu_col (by omega)]
            · rw [zu_row h7, zu_row h7]
          have eO : fX9_carriesOut (zu J2 48 36 ((J2 48 36) + 1)) 7 = some J3 := by
            unfold fX9_carriesOut
            rw [zu_col (show (37 : Nat) ≠ 36 by decide), x7 _ _ (by decide), A37, zif_t hzA, if_neg (by decide), if_neg (by decide), if_neg (by decide), if_neg (by decide), nI_1, hJ3]
          refine fin (zu I2 0 9 (nI af)) J3 af WT ?_ ?_ (fun x y hxy => ?_) (fun x y hxy => by rw [f3 x y (by omega), x7 x y (by omega), f1 x y (by omega)])
          · have gI : ∀ x y, ¬ (x = 0 ∧ (y = 9 ∨ y = 11)) → zu (zu I2 0 9 (nI af)) 0 11 (zu I2 0 9 (nI af) 0 11 + 1) x y = I2 x y := fun x y hxy => by
              by_cases h7 : x = 0
              · rw [zu_col (by omega), zu_col (by omega)]
              · rw [zu_row h7, zu_row h7]
            refine rE_next ha h (pc := A at' + 1) b7 a5 b8 ?_ ?_ ?_ ?_ ?_ hWT ?_ ?_ ⟨dk, hdk, ?_, ?_⟩ ⟨ws, hws, ?_, ?_⟩ ?_ ?_ ?_ ?_
            · rw [zu_col (by decide), zu_same]
            · rw [hJ3, zu_same]
            · rw [f3 _ _ (by decide), x7 _ _ (by decide)]; exact e46
            · rw [gI _ _ (by decide), x6 _ _ (by decide)]; exact h10
            · rw [f3 _ _ (by decide), x7 _ _ (by decide), f1 _ _ (by decide)]; exact h38
            · exact rW_cong x4 (gI _ _ (by decide)) (f3 _ _ (by decide)) (fun x hx b => gI _ _ (by omega)) (fun x hx b => f3 _ _ (by omega))
            · exact rG_cong x5 (fun x hx b => gI _ _ (by omega)) (fun x hx b => f3 _ _ (by omega))
            · rw [gI _ _ (by decide), x6 _ _ (by decide)]; exact hk1
            · rw [f3 _ _ (by decide), x7 _ _ (by decide), f1 _ _ (by decide)]; exact hk2
            · rw [gI _ _ (by decide), x6 _ _ (by decide)]; exact hw1
            · rw [f3 _ _ (by decide), x7 _ _ (by decide), f1 _ _ (by decide)]; exact hw2
            · rw [zu_same, zu_col (by decide), x6 _ _ (by decide), hJ3, zu_col (by decide), zu_same, x7 _ _ (by decide), e36, h11]
            · intro x y hxy; rw [gI x y (by omega), x6 x y (by omega)]
            · rw [gI _ _ (by decide), x6 _ _ (by decide)]
            · intro x y hxy; rw [f3 x y (by omega), x7 x y (by omega), f1 x y (by omega)]
          · intro fu7 _
            rw [eR, if_neg cb, fX9_carries_143, eO]
            simp only [Option.bind_some, nI_1]
          · have h8 : zu I2 0 9 (nI af) x y = I2 x y := by
              by_cases h7 : x = 0
              · exact zu_col (by omega)
              · exact zu_row h7
            rw [h8, x6 x y (by omega)]
      · -- CASE
        obtain ⟨J2, hJ2⟩ : ∃ J2 : zPI, J2 = zu (zu (zu J1 48 36 ((J1 48 36) + 1)) 48 37 (nI (A at' + 1))) 48 31 (nI f) := ⟨_, rfl⟩
        have f2 : ∀ x y, ¬ (x = 48 ∧ (y = 36 ∨ y = 37 ∨ y = 31)) → J2 x y = J x y := fun x y hxy => by
          rw [hJ2]
          by_cases h7 : x = 48
          · rw [zu_col (by omega), zu_col (by omega), zu_col (by omega), f1 x y (by omega)]
          · rw [zu_row h7, zu_row h7, zu_row h7, f1 x y (by omega)]
        have eO : fX9_carriesOut (zu J1 48 36 ((J1 48 36) + 1)) (nI 8) = some J2 := by
          unfold fX9_carriesOut
          rw [z37, zif_t hzA, clA, z55, b4, nI_1, hJ2]
          rw [if_pos (show nI 8 = (8 : Int32) from rfl)]
        have eC : fX8_carryOutOne a I (nI at') = some (1, zu (zu I 0 14 (nI f)) 0 9 (nI af)) := by
          unfold fX8_carryOutOne
          simp only [hz80, if_true]
          rw [cl, a1, if_pos (show nI v = 4 by rw [b1]; rfl), a2, zu_row (show a + 7 ≠ 0 by omega), a4]
        rw [eC]
        simp only [Option.bind_some]
        rw [if_neg (by decide), nI_1]
        have gI : ∀ x y, ¬ (x = 0 ∧ (y = 9 ∨ y = 11)) → ¬ (x = 0 ∧ y = 14) → zu (zu (zu I 0 14 (nI f)) 0 9 (nI af)) 0 11 (zu (zu I 0 14 (nI f)) 0 9 (nI af) 0 11 + 1) x y = I x y := fun x y h1 h2 => by
          have h8 : zu (zu (zu I 0 14 (nI f)) 0 9 (nI af)) 0 11 (zu (zu I 0 14 (nI f)) 0 9 (nI af) 0 11 + 1) x y = zu I 0 14 (nI f) x y := by
            by_cases h7 : x = 0
            · rw [zu_col (by omega), zu_col (by omega)]
            · rw [zu_row h7, zu_row h7]
          rw [h8]
          by_cases h7 : x = 0
          · exact zu_col (fun h => h2 ⟨h7, h⟩)
          · exact zu_row h7
        refine fin (zu (zu I 0 14 (nI f)) 0 9 (nI af)) J2 af WT ?_ ?_ (fun x y hxy => ?_) (fun x y hxy => f2 x y (by omega))
        · refine rE_next ha h (pc := A at' + 1) b5 a5 b6 ?_ ?_ ?_ ?_ ?_ hWT ?_ ?_ ?_ ?_ ?_ ?_ ?_ ?_
          · rw [zu_col (by decide), zu_same]
          · rw [hJ2, zu_col (by decide), zu_same]
          · rw [f2 _ _ (by decide)]; exact h46
          · rw [gI _ _ (by decide) (by decide)]; exact h10
          · rw [f2 _ _ (by decide)]; exact h38
          · exact rW_cong hW (gI _ _ (by decide) (by decide)) (f2 _ _ (by decide)) (fun x hx b => gI _ _ (by omega) (by omega)) (fun x hx b => f2 _ _ (by omega))
          · exact rG_cong hG (fun x hx b => gI _ _ (by omega) (by omega)) (fun x hx b => f2 _ _ (by omega))
          · exact ⟨dk, hdk, by rw [gI _ _ (by decide) (by decide)]; exact hk1, by rw [f2 _ _ (by decide)]; exact hk2⟩
          · exact ⟨f, b2, by rw [zu_col (by decide), zu_col (by decide), zu_same], by rw [hJ2, zu_same]⟩
          · rw [zu_same, zu_col (by decide), zu_col (by decide), hJ2, zu_col (by decide), zu_col (by decide), zu_same, e36, h11]
          · intro x y hxy; exact gI x y (by omega) (by omega)
          · exact gI _ _ (by decide) (by decide)
          · intro x y hxy; exact f2 x y (by omega)
        · intro fu7 _
          exact cnt1 8 fu7 J2 (by rw [e54]; exact b3) (by omega) (by omega) eO
        · have h8 : zu (zu I 0 14 (nI f)) 0 9 (nI af) x y = zu I 0 14 (nI f) x y := by
            by_cases h7 : x = 0
            · exact zu_col (by omega)
            · exact zu_row h7
          rw [h8]
          by_cases h7 : x = 0
          · exact zu_col (by omega)
          · exact zu_row h7
      · -- CASE
        obtain ⟨J2, hJ2⟩ : ∃ J2 : zPI, J2 = zu (zu (zu J1 48 36 ((J1 48 36) + 1)) 48 37 (nI (A at' + 1))) 48 28 (nI f) := ⟨_, rfl⟩
        have f2 : ∀ x y, ¬ (x = 48 ∧ (y = 36 ∨ y = 37 ∨ y = 28)) → J2 x y = J x y := fun x y hxy => by
          rw [hJ2]
          by_cases h7 : x = 48
          · rw [zu_col (by omega), zu_col (by omega), zu_col (by omega), f1 x y (by omega)]
          · rw [zu_row h7, zu_row h7, zu_row h7, f1 x y (by omega)]
        have eO : fX9_carriesOut (zu J1 48 36 ((J1 48 36) + 1)) (nI 9) = some J2 := by
          unfold fX9_carriesOut
          rw [z37, zif_t hzA, clA, z55, b4, nI_1, hJ2]
          rw [if_neg (by decide), if_pos (show nI 9 = (9 : Int32) from rfl)]
        have eC : fX8_carryOutOne a I (nI at') = some (1, zu (zu I 42 6 (nI f)) 0 9 (nI af)) := by
          unfold fX8_carryOutOne
          simp only [hz80, if_true]
          rw [cl, a1, if_neg (show ¬ nI v = 4 by rw [b1]; decide), if_pos (show nI v = 5 by rw [b1]; rfl), a2, zu_row (show a + 7 ≠ 42 by omega), a4]
        rw [eC]
        simp only [Option.bind_some]
        rw [if_neg (by decide), nI_1]
        have gI : ∀ x y, ¬ (x = 0 ∧ (y = 9 ∨ y = 11)) → ¬ (x = 42 ∧ y = 6) → zu (zu (zu I 42 6 (nI f)) 0 9 (nI af)) 0 11 (zu (zu I 42 6 (nI f)) 0 9 (nI af) 0 11 + 1) x y = I x y := fun x y h1 h2 => by
          have h8 : zu (zu (zu I 42 6 (nI f)) 0 9 (nI af)) 0 11 (zu (zu I 42 6 (nI f)) 0 9 (nI af) 0 11 + 1) x y = zu I 42 6 (nI f) x y := by
            by_cases h7 : x = 0
            · rw [zu_col (by omega), zu_col (by omega)]
            · rw [zu_row h7, zu_row h7]
          rw [h8]
          by_cases h7 : x = 42
          · exact zu_col (fun h => h2 ⟨h7, h⟩)
          · exact zu_row h7
        refine fin (zu (zu I 42 6 (nI f)) 0 9 (nI af)) J2 af WT ?_ ?_ (fun x y hxy => ?_) (fun x y hxy => f2 x y (by omega))
        · refine rE_next ha h (pc := A at' + 1) b5 a5 b6 ?_ ?_ ?_ ?_ ?_ hWT ?_ ?_ ?_ ?_ ?_ ?_ ?_ ?_
          · rw [zu_col (by decide), zu_same]
          · rw [hJ2, zu_col (by decide), zu_same]
          · rw [f2 _ _ (by decide)]; exact h46
          · rw [gI _ _ (by decide) (by decide)]; exact h10
          · rw [f2 _ _ (by decide)]; exact h38
          · exact rW_cong hW (gI _ _ (by decide) (by decide)) (f2 _ _ (by decide)) (fun x hx b => gI _ _ (by omega) (by omega)) (fun x hx b => f2 _ _ (by omega))
          · exact rG_cong hG (fun x hx b => gI _ _ (by omega) (by omega)) (fun x hx b => f2 _ _ (by omega))
          · exact ⟨f, b2, by rw [zu_row (by decide), zu_row (by decide), zu_same], by rw [hJ2, zu_same]⟩
          · exact ⟨ws, hws, by rw [gI _ _ (by decide) (by decide)]; exact hw1, by rw [f2 _ _ (by decide)]; exact hw2⟩
          · rw [zu_same, zu_col (by decide), zu_row (by decide), hJ2, zu_col (by decide), zu_col (by decide), zu_same, e36, h11]
          · intro x y hxy; exact gI x y (by omega) (by omega)
          · exact gI _ _ (by decide) (by decide)
          · intro x y hxy; exact f2 x y (by omega)
        · intro fu7 _
          exact cnt1 9 fu7 J2 (by rw [e54]; exact b3) (by omega) (by omega) eO
        · have h8 : zu (zu I 42 6 (nI f)) 0 9 (nI af) x y = zu I 42 6 (nI f) x y := by
            by_cases h7 : x = 0
            · exact zu_col (by omega)
            · exact zu_row h7
          rw [h8]
          by_cases h7 : x = 42
          · exact zu_col (by omega)
          · exact zu_row h7
      · -- CASE
        obtain ⟨J2, hJ2⟩ : ∃ J2 : zPI, J2 = zu (zu (zu J1 48 36 ((J1 48 36) + 1)) 48 37 (nI (A at' + 1))) 48 38 (nI (m + f)) := ⟨_, rfl⟩
        have f2 : ∀ x y, ¬ (x = 48 ∧ (y = 36 ∨ y = 37 ∨ y = 38)) → J2 x y = J x y := fun x y hxy => by
          rw [hJ2]
          by_cases h7 : x = 48
          · rw [zu_col (by omega), zu_col (by omega), zu_col (by omega), f1 x y (by omega)]
          · rw [zu_row h7, zu_row h7, zu_row h7, f1 x y (by omega)]
        have eO : fX9_carriesOut (zu J1 48 36 ((J1 48 36) + 1)) (nI 10) = some J2 := by
          unfold fX9_carriesOut
          rw [z37, zif_t hzA, clA, z55, b5, nI_1, hJ2]
          rw [if_neg (by decide), if_neg (by decide), if_pos (show nI 10 = (10 : Int32) from rfl), zu_col (show (29 : Nat) ≠ 37 by decide), z29, nI_add]
        have eC : fX8_carryOutOne a I (nI at') = some (1, zu (zu I 0 10 (nI f)) 0 9 (nI af)) := by
          unfold fX8_carryOutOne
          simp only [hz80, if_true]
          rw [cl, a1, if_neg (show ¬ nI v = 4 by rw [b1]; decide), if_neg (show ¬ nI v = 5 by rw [b1]; decide), if_pos (show nI v = 6 by rw [b1]; rfl), a2, zu_row (show a + 7 ≠ 0 by omega), a4]
        rw [eC]
        simp only [Option.bind_some]
        rw [if_neg (by decide), nI_1]
        have gI : ∀ x y, ¬ (x = 0 ∧ (y = 9 ∨ y = 11)) → ¬ (x = 0 ∧ y = 10) → zu (zu (zu I 0 10 (nI f)) 0 9 (nI af)) 0 11 (zu (zu I 0 10 (nI f)) 0 9 (nI af) 0 11 + 1) x y = I x y := fun x y h1 h2 => by
          have h8 : zu (zu (zu I 0 10 (nI f)) 0 9 (nI af)) 0 11 (zu (zu I 0 10 (nI f)) 0 9 (nI af) 0 11 + 1) x y = zu I 0 10 (nI f) x y := by
            by_cases h7 : x = 0
            · rw [zu_col (by omega), zu_col (by omega)]
            · rw [zu_row h7, zu_row h7]
          rw [h8]
          by_cases h7 : x = 0
          · exact zu_col (fun h => h2 ⟨h7, h⟩)
          · exact zu_row h7
        refine fin (zu (zu I 0 10 (nI f)) 0 9 (nI af)) J2 af (m + f) ?_ ?_ (fun x y hxy => ?_) (fun x y hxy => f2 x y (by omega))
        · refine rE_next ha h (pc := A at' + 1) b6 a5 b7 ?_ ?_ ?_ ?_ ?_ (by omega) ?_ ?_ ?_ ?_ ?_ ?_ ?_ ?_
          · rw [zu_col (by decide), zu_same]
          · rw [hJ2, zu_col (by decide), zu_same]
          · rw [f2 _ _ (by decide)]; exact h46
          · rw [zu_col (by decide), zu_col (by decide), zu_same, show m + f - m = f by omega]
          · rw [hJ2, zu_same]
          · exact rW_cong hW (gI _ _ (by decide) (by decide)) (f2 _ _ (by decide)) (fun x hx b => gI _ _ (by omega) (by omega)) (fun x hx b => f2 _ _ (by omega))
          · exact rG_cong hG (fun x hx b => gI _ _ (by omega) (by omega)) (fun x hx b => f2 _ _ (by omega))
          · exact ⟨dk, hdk, by rw [gI _ _ (by decide) (by decide)]; exact hk1, by rw [f2 _ _ (by decide)]; exact hk2⟩
          · exact ⟨ws, hws, by rw [gI _ _ (by decide) (by decide)]; exact hw1, by rw [f2 _ _ (by decide)]; exact hw2⟩
          · rw [zu_same, zu_col (by decide), zu_col (by decide), hJ2, zu_col (by decide), zu_col (by decide), zu_same, e36, h11]
          · intro x y hxy; exact gI x y (by omega) (by omega)
          · exact gI _ _ (by decide) (by decide)
          · intro x y hxy; exact f2 x y (by omega)
        · intro fu7 _
          exact cnt1 10 fu7 J2 (by rw [e54]; exact b4) (by omega) (by omega) eO
        · have h8 : zu (zu I 0 10 (nI f)) 0 9 (nI af) x y = zu I 0 10 (nI f) x y := by
            by_cases h7 : x = 0
            · exact zu_col (by omega)
            · exact zu_row h7
          rw [h8]
          by_cases h7 : x = 0
          · exact zu_col (by omega)
          · exact zu_row h7
      · -- if, while
        have hX1 : rX J1 m pt fo c sp g := rX_cong hX (fun b hb => f1 _ _ (by omega)) (fun x hx b => f1 _ _ (by omega))
        have hE1 : EX I J1 a at' f (A at') (U at') := EX_cong (fun _ => rfl) (fun x hx b => f1 _ _ (by omega)) b4
        obtain ⟨J2, k, bt, k1, k2, k3, k4, k5⟩ := ex_expr (K := fun I => some I) hX1 hrun1 hP hV (by omega) a2 hE1 (by omega) ⟨fun _ _ _ => rfl, A37, e46⟩
        obtain ⟨s1, s2, s3⟩ := k3
        have hrun2 : rRun J2 (nI d) := rRun_cong hrun1 (s1 _ _ (by decide)) (s1 _ _ (by decide))
        have hzU : zin (nI (U at')) 4400 = true := zin_nI (by omega) (by omega)
        have clU : (nI (U at')).toNatClampNeg = U at' := nI_clamp (by omega)
        have u54 : J2 54 (U at') = 11 := by rw [s1 _ _ (by omega), f1 _ _ (by omega)]; exact b5
        have u55 : J2 55 (U at') = nI tg := by rw [s1 _ _ (by omega), f1 _ _ (by omega)]; exact b11
        obtain ⟨ti, hti1, hti2⟩ : ∃ ti, ti = (if bt = 0 then wf else wt) ∧ ti ≤ cnt := ⟨_, rfl, by split <;> omega⟩
        obtain ⟨tp, htp1, htp2⟩ : ∃ tp, tp = (if bt = 0 then tg else U at' + 1) ∧ inH hh tp := ⟨_, rfl, by split <;> assumption⟩
        have hLt : LdE J hh tp (A ti) := by
          rw [htp1, hti1]
          by_cases cb : bt = 0
          · rw [if_pos cb, if_pos cb]; exact b13
          · rw [if_neg cb, if_neg cb]; exact b12
        have e79 : fX8_carryOutOne_79 a (nI at') I = some (1, zu I 0 9 (nI ti)) := by
          rw [fX8_carryOutOne_79, k4]
          simp only [Option.bind_some]
          rw [b8, b9, hti1]
          by_cases cb : bt = 0
          · rw [if_pos cb, if_pos cb]; rfl
          · rw [if_neg cb, if_neg cb]; rfl
        have eC : fX8_carryOutOne a I (nI at') = some (1, zu I 0 9 (nI ti)) := by
          unfold fX8_carryOutOne
          simp only [hz80, if_true]
          rw [cl, a1]
          rcases b1 with rfl | rfl
          · rw [if_neg (by decide), if_neg (by decide), if_neg (by decide), if_pos (show nI 7 = (7 : Int32) from rfl)]
            exact e79
          · rw [if_neg (by decide), if_neg (by decide), if_neg (by decide), if_neg (by decide), if_pos (show nI 8 = (8 : Int32) from rfl)]
            exact e79
        obtain ⟨J3, hJ3⟩ : ∃ J3 : zPI, J3 = zu (zu (zu (zu J2 48 36 ((J2 48 36) + 1)) 48 37 (nI (U at' + 1))) 48 46 (nI 0)) 48 37 (nI tp) := ⟨_, rfl⟩
        have eO : fX9_carriesOut (zu J2 48 36 ((J2 48 36) + 1)) 11 = some J3 := by
          have y37 : zu J2 48 36 ((J2 48 36) + 1) 48 37 = nI (U at') := by rw [zu_col (by decide)]; exact s2
          have y46 : zu (zu J2 48 36 ((J2 48 36) + 1)) 48 37 (nI (U at' + 1)) 48 46 = nI 1 := by rw [zu_col (by decide), zu_col (by decide)]; exact s3
          have z0 : zin (nI 0) 1010 = true := by decide
          unfold fX9_carriesOut
          rw [y37, zif_t hzU, clU, nI_1, if_neg (by decide), if_neg (by decide), if_neg (by decide), if_pos rfl, y46, show nI 1 - 1 = nI 0 from nI_pred 0, zu_same, zif_t z0, nI_clamp (by omega), zu_row (show (70 : Nat) ≠ 48 by decide), zu_row (show (70 : Nat) ≠ 48 by decide), zu_row (show (70 : Nat) ≠ 48 by decide), zu_row (show (55 : Nat) ≠ 48 by decide), u55, zu_col (show (37 : Nat) ≠ 46 by decide), zu_same, hJ3, htp1]
          by_cases cb : bt = 0
          · rw [if_pos (k5.mp cb), if_pos cb]
          · rw [if_neg (fun h9 => cb (k5.mpr h9)), if_neg cb]
        have f3 : ∀ x y, ¬ (x = 70 ∨ (x = 48 ∧ (y = 36 ∨ y = 37 ∨ y = 46))) → J3 x y = J x y := fun x y hxy => by
          rw [hJ3]
          by_cases h7 : x = 48
          · rw [zu_col (by omega), zu_col (by omega), zu_col (by omega), zu_col (by omega), s1 x y (by omega), f1 x y (by omega)]
          · rw [zu_row h7, zu_row h7, zu_row h7, zu_row h7, s1 x y (by omega), f1 x y (by omega)]
        have eR : ∀ fu7, fX9_carries_2 (fun I => some I) (fu7 + 1) (nI d) J2 = fX9_carries_2 (fun I => some I) fu7 (nI (d + 1)) J3 := by
          intro fu7
          rw [fX9_carries_2, if_neg hrun2.1, if_neg hrun2.2, s2]
          simp only [hzU, if_true]
          rw [clU, u54, if_neg (by decide), if_neg (by decide), if_pos (by decide), if_neg (by decide), fX9_carries_143, eO]
          simp only [Option.bind_some, nI_1]
        rw [eC]
        simp only [Option.bind_some]
        rw [if_neg (by decide), nI_1]
        have gI : ∀ x y, ¬ (x = 0 ∧ (y = 9 ∨ y = 11)) → zu (zu I 0 9 (nI ti)) 0 11 (zu I 0 9 (nI ti) 0 11 + 1) x y = I x y := fun x y hxy => by
          by_cases h7 : x = 0
          · rw [zu_col (by omega), zu_col (by omega)]
          · rw [zu_row h7, zu_row h7]
        have hE3 : rE (zu (zu I 0 9 (nI ti)) 0 11 (zu I 0 9 (nI ti) 0 11 + 1)) J3 hh n m a cnt A U pt fo c sp g ti WT := by
          refine rE_next ha h (pc := tp) htp2 hti2 hLt ?_ ?_ ?_ ?_ ?_ hWT ?_ ?_ ?_ ?_ ?_ ?_ ?_ ?_
          · rw [zu_col (by decide), zu_same]
          · rw [hJ3, zu_same]
          · rw [hJ3, zu_col (by decide), zu_same]
          · rw [gI _ _ (by decide)]; exact h10
          · rw [f3 _ _ (by decide)]; exact h38
          · exact rW_cong hW (gI _ _ (by decide)) (f3 _ _ (by decide)) (fun x hx b => gI _ _ (by omega)) (fun x hx b => f3 _ _ (by omega))
          · exact rG_cong hG (fun x hx b => gI _ _ (by omega)) (fun x hx b => f3 _ _ (by omega))
          · exact ⟨dk, hdk, by rw [gI _ _ (by decide)]; exact hk1, by rw [f3 _ _ (by decide)]; exact hk2⟩
          · exact ⟨ws, hws, by rw [gI _ _ (by decide)]; exact hw1, by rw [f3 _ _ (by decide)]; exact hw2⟩
          · rw [zu_same, zu_col (by decide), hJ3, zu_col (by decide), zu_col (by decide), zu_col (by decide), zu_same, s1 _ _ (by decide), e36, h11]
          · intro x y hxy; exact gI x y (by omega)
          · exact gI _ _ (by decide)
          · intro x y hxy; exact f3 x y (by omega)
        obtain ⟨fu7, hfu7, hfu7'⟩ : ∃ fu7, fu9 = (fu7 + 1) + k ∧ r * 1200 + 200 < fu7 := ⟨fu9 - k - 1, by omega, by omega⟩
        obtain ⟨I', J', at3, WT3, x1, x2, x3, x4, x5⟩ := ih fu fu7 (d + 1) _ J3 ti WT (by omega) (by omega) hfu7' hE3
        refine ⟨I', J', at3, WT3, x1, ?_, x3, fun x y hxy => by rw [x4 x y hxy, gI x y (by omega)], fun x y hxy => by rw [x5 x y hxy, f3 x y (by omega)]⟩
        rw [hfu7, k2, eR]
        exact x2
