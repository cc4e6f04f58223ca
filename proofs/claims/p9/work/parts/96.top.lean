/-! THE WHOLE TEXT, on both sides -/
def OutT (I J' : zPI) (L : zPL) (ch : Nat → Nat) (t N o hh j n c : Nat) (G : Nat → Nat → Nat) : Prop := ∃ I' G' j' n' c', mAt I' J' L ch t N o hh 0 j' n' c' ∧ kd ch t j' = 0 ∧ j ≤ j' ∧ c ≤ c' ∧ n ≤ n' ∧ CR o I j I' j' ∧ cFr I I' o n 0 ∧ (∀ k x, x < n → G' k x = G k x) ∧ SQ I' J' o G' (-1) n n' (2200 * hh + c) (2200 * hh + c')
theorem top_go {K : zPI → zPL → Option (Int32 × zPI × zPL)} {L : zPL} {ch : Nat → Nat} {t N o hh : Nat} (ho : o = 24 ∨ o = 33) (ht : t ≤ 1000) : ∀ (m j n c fu : Nat) (I J : zPI) (G : Nat → Nat → Nat), N - j < m → m < fu → mAt I J L ch t N o hh 0 j n c → ∃ J', fX9_orders_39 K fu J L = K J' L ∧ rFr J J' (2200 * hh + c) (2200 * hh + 2200) ∧ (∀ b, b ≠ hh → J' 57 b = J 57 b) ∧ (OutF I J' o hh 0 j n c 1017 ∨ OutT I J' L ch t N o hh j n c G) := by
  have hst : HSt (FX9_statement 12 L) L ch t N o hh 0 1017 := HSt_all ho ht 12 0 (by omega) (by omega)
  intro m
  induction m with
  | zero => intro j n c fu I J G hm; exact absurd hm (by omega)
  | succ m ih =>
    intro j n c fu I J G hm hf hM
    obtain ⟨fu, rfl, hf⟩ := zsucc hf
    have hJ := hM.2.1
    obtain ⟨s1, -, -, s4, s5, -⟩ := so_r hJ
    rw [fX9_orders_39, hJ.2.2.1, if_pos rfl, zif_t s4, s5]
    by_cases k : kd ch t j = 0
    · rw [if_pos (s1.2 k)]
      exact ⟨J, rfl, rFr_refl _ _ _, fun _ _ => rfl, Or.inr ⟨I, G, j, n, c, hM, k, Nat.le_refl _, Nat.le_refl _, Nat.le_refl _, CR_refl _ _ _, cFr_refl _ _ _ _, fun _ _ _ => rfl, SQ_nil _ _ _ _ _ _ _⟩⟩
    · rw [if_neg (fun h9 => k (s1.1 h9))]
      obtain ⟨J1, a1, a2, a3, a4⟩ := hst I J j n c G hM (Or.inl k) (Or.inr rfl)
      rw [a1]
      simp only [Option.bind_some]
      rcases a4 with a4 | a4
      · have a5 := a4
        obtain ⟨f, I2, c2, ⟨f0, f1⟩, b1, -⟩ := a5
        have h80 : ¬ J1 48 8 = 0 := by rw [b1]; exact nI_ne (b := 0) (by omega) (by omega) (by omega)
        obtain ⟨fu, rfl, -⟩ := zsucc (show 0 < fu by omega)
        exact ⟨J1, by rw [fX9_orders_39, if_neg h80], a2, a3, Or.inl a4⟩
      · obtain ⟨I1, G1, j1, n1, c1, b1, b2, b3, b4, b5, b6, b7, b8⟩ := a4
        have hj1 : j1 ≤ N := b1.2.1.2.2.2
        obtain ⟨J2, d1, d2, d3, d4⟩ := ih j1 n1 c1 fu I1 J1 G1 (by omega) (by omega) b1
        refine ⟨J2, d1, rFr_trans a2 d2 (by omega), fun b hb => by rw [d3 b hb, a3 b hb], ?_⟩
        rcases d4 with ⟨f, I3, c3, g1, g2, g3, g4, g5, g6, g7⟩ | ⟨I3, G3, j3, n3, c3, g1, g2, g3, g4, g5, g6, g7, g8, g9⟩
        · exact Or.inl ⟨f, I3, c3, g1, g2, g3, by omega, g5, CR_CF b5 g6, cFr_trans b6 g7 b4 (Nat.le_refl _)⟩
        · refine Or.inr ⟨I3, G3, j3, n3, c3, g1, g2, by omega, by omega, by omega, CR_trans b5 g6, cFr_trans b6 g7 b4 (Nat.le_refl _), fun k x hx => by rw [g8 k x (by omega), b7 k x hx], ?_⟩
          have b8' : ST I1 J1 o G1 (-1) n n1 (2200 * hh + c) (2200 * hh + c1) := b8
          exact SQ_cons (ST_cong b8' (cFr_cSt ho g7) (fun a b ha h1 h2 => d2 a b (by omega) (by omega) (by omega)) (fun k x h1 h2 => g8 k x h2)) g9
