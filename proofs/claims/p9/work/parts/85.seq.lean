/-! A ROW OF STATEMENTS IN A BLOCK, on both sides -/
def cFr (I I' : zPI) (o n d : Nat) : Prop := ∀ a b, a ≠ 13 → ¬ (a = 15 ∧ b = 2) → ¬ (a = 16 ∧ d ≤ b) → ¬ (a = o ∧ b = 0) → ¬ (o < a ∧ a < o + 7 ∧ n ≤ b) → ¬ (a = o + 8 ∧ n * 8 ≤ b) → I' a b = I a b
theorem cFr_refl (I : zPI) (o n d : Nat) : cFr I I o n d := fun _ _ _ _ _ _ _ _ => rfl
theorem cFr_trans {I I' I'' : zPI} {o n n' d d' : Nat} (h1 : cFr I I' o n d) (h2 : cFr I' I'' o n' d') (hn : n ≤ n') (hd : d ≤ d') : cFr I I'' o n d := fun a b m1 m2 m3 m4 m5 m6 => by
  rw [h2 a b m1 m2 (by omega) m4 (by omega) (by omega), h1 a b m1 m2 m3 m4 m5 m6]
theorem cFr_cSt {I I' : zPI} {o n n1 d : Nat} (ho : o = 24 ∨ o = 33) (h : cFr I I' o n1 d) : cSt I I' o n n1 := ⟨fun a b h1 h2 h3 h4 => h a b (by omega) (by omega) (by omega) (by omega) (by omega) (by omega), fun b h1 h2 => h _ b (by omega) (by omega) (by omega) (by omega) (by omega) (by omega)⟩
def OutF (I J' : zPI) (o hh d j n c B : Nat) : Prop := ∃ f I'' c'', (0 < f ∧ f < 20000) ∧ J' 48 8 = nI f ∧ rQ J' hh c'' ∧ c ≤ c'' ∧ c'' ≤ B ∧ CF o I j f I'' ∧ cFr I I'' o n d
def OutS (I J' : zPI) (L : zPL) (ch : Nat → Nat) (t N o hh d j n c : Nat) (G : Nat → Nat → Nat) : Prop := ∃ I' G' j' n' c', mAt I' J' L ch t N o hh d j' n' c' ∧ j < j' ∧ c ≤ c' ∧ n ≤ n' ∧ CR o I j I' j' ∧ cFr I I' o n d ∧ (∀ k x, x < n → G' k x = G k x) ∧ ST I' J' o G' (par I d) n n' (2200 * hh + c) (2200 * hh + c')
def OutQ (I J' : zPI) (L : zPL) (ch : Nat → Nat) (t N o hh d j n c : Nat) (G : Nat → Nat → Nat) : Prop := ∃ I' G' j' n' c', mAt I' J' L ch t N o hh d j' n' c' ∧ kd ch t j' = 125 ∧ j ≤ j' ∧ c ≤ c' ∧ n ≤ n' ∧ CR o I j I' j' ∧ cFr I I' o n d ∧ (∀ k x, x < n → G' k x = G k x) ∧ SQ I' J' o G' (par I d) n n' (2200 * hh + c) (2200 * hh + c')
def HSt (stm : zPI → Option zPI) (L : zPL) (ch : Nat → Nat) (t N o hh d B : Nat) : Prop := ∀ (I J : zPI) (j n c : Nat) (G : Nat → Nat → Nat), mAt I J L ch t N o hh d j n c → (kd ch t j ≠ 0 ∨ 0 < d) → (kd ch t j ≠ 125 ∨ d = 0) → ∃ J', stm J = some J' ∧ rFr J J' (2200 * hh + c) (2200 * hh + 2200) ∧ (∀ b, b ≠ hh → J' 57 b = J 57 b) ∧ (OutF I J' o hh d j n c B ∨ OutS I J' L ch t N o hh d j n c G)
theorem par_keep {I I' : zPI} {o n d : Nat} (ho : o = 24 ∨ o = 33) (h : cFr I I' o n d) : par I' d = par I d := by
  unfold par
  by_cases d0 : d = 0
  · rw [if_pos d0, if_pos d0]
  · rw [if_neg d0, if_neg d0]
    exact h _ _ (by omega) (by omega) (by omega) (by omega) (by omega) (by omega)
theorem b39_f {stm : zPI → Option zPI} {L : zPL} {K : zPI → Option zPI} {fu : Nat} {J : zPI} (h : ¬ J 48 8 = 0) : fX9_block_39 stm L K (fu + 1) J = K J := by
  rw [fX9_block_39, if_neg h]
theorem seq_go {stm : zPI → Option zPI} {K : zPI → Option zPI} {L : zPL} {ch : Nat → Nat} {t N o hh d B : Nat} (ho : o = 24 ∨ o = 33) (hd : 0 < d) (hst : HSt stm L ch t N o hh d B) : ∀ (m j n c fu : Nat) (I J : zPI) (G : Nat → Nat → Nat), N - j < m → m < fu → mAt I J L ch t N o hh d j n c → ∃ J', fX9_block_39 stm L K fu J = K J' ∧ rFr J J' (2200 * hh + c) (2200 * hh + 2200) ∧ (∀ b, b ≠ hh → J' 57 b = J 57 b) ∧ (OutF I J' o hh d j n c B ∨ OutQ I J' L ch t N o hh d j n c G) := by
  intro m
  induction m with
  | zero => intro j n c fu I J G hm; exact absurd hm (by omega)
  | succ m ih =>
    intro j n c fu I J G hm hf hM
    obtain ⟨fu, rfl, hf⟩ := zsucc hf
    have hJ := hM.2.1
    have e1 : fX9_isSign J L 125 = some (if kd ch t j = 125 then 1 else 0) := sg_r (c := 125) hJ (by decide)
    rw [fX9_block_39, hJ.2.2.1, if_pos rfl, e1]
    simp only [Option.bind_some, bt]
    by_cases k : kd ch t j = 125
    · rw [if_pos k]
      exact ⟨J, rfl, rFr_refl _ _ _, fun _ _ => rfl, Or.inr ⟨I, G, j, n, c, hM, k, Nat.le_refl _, Nat.le_refl _, Nat.le_refl _, CR_refl _ _ _, cFr_refl _ _ _ _, fun _ _ _ => rfl, SQ_nil _ _ _ _ _ _ _⟩⟩
    · rw [if_neg k]
      obtain ⟨J1, a1, a2, a3, a4⟩ := hst I J j n c G hM (Or.inr hd) (Or.inl k)
      rw [a1]
      simp only [Option.bind_some]
      rcases a4 with a4 | a4
      · have a5 := a4
        obtain ⟨f, I2, c2, ⟨f0, f1⟩, b1, -⟩ := a5
        have h80 : ¬ J1 48 8 = 0 := by rw [b1]; exact nI_ne (b := 0) (by omega) (by omega) (by omega)
        obtain ⟨fu, rfl, -⟩ := zsucc (show 0 < fu by omega)
        exact ⟨J1, b39_f h80, a2, a3, Or.inl a4⟩
      · obtain ⟨I1, G1, j1, n1, c1, b1, b2, b3, b4, b5, b6, b7, b8⟩ := a4
        have hj1 : j1 ≤ N := b1.2.1.2.2.2
        obtain ⟨J2, d1, d2, d3, d4⟩ := ih j1 n1 c1 fu I1 J1 G1 (by omega) (by omega) b1
        refine ⟨J2, d1, rFr_trans a2 d2 (by omega), fun b hb => by rw [d3 b hb, a3 b hb], ?_⟩
        rcases d4 with ⟨f, I3, c3, g1, g2, g3, g4, g5, g6, g7⟩ | ⟨I3, G3, j3, n3, c3, g1, g2, g3, g4, g5, g6, g7, g8, g9⟩
        · exact Or.inl ⟨f, I3, c3, g1, g2, g3, by omega, g5, CR_CF b5 g6, cFr_trans b6 g7 b4 (Nat.le_refl _)⟩
        · refine Or.inr ⟨I3, G3, j3, n3, c3, g1, g2, by omega, by omega, by omega, CR_trans b5 g6, cFr_trans b6 g7 b4 (Nat.le_refl _), fun k x hx => by rw [g8 k x (by omega), b7 k x hx], ?_⟩
          rw [par_keep ho b6] at g9
          exact SQ_cons (ST_cong b8 (cFr_cSt ho g7) (fun a b ha h1 h2 => d2 a b (by omega) (by omega) (by omega)) (fun k x h1 h2 => g8 k x h2)) g9
