/-! A BLOCK, on both sides, from behind its '{' to its '}' (which the class has still to read) -/
theorem SQ_J {I J J' : zPI} {o : Nat} {G : Nat → Nat → Nat} {p : Int32} {n n' c c' : Nat} (h : SQ I J o G p n n' c c') (eJ : ∀ a b, a = 54 ∨ a = 55 ∨ a = 56 → c ≤ b → b < c' → J' a b = J a b) : SQ I J' o G p n n' c c' := SQ_cong h ⟨fun _ _ _ _ _ _ => rfl, fun _ _ _ => rfl⟩ eJ (fun _ _ _ _ => rfl)
def OutB (I J' : zPI) (L : zPL) (ch : Nat → Nat) (t N o hh d j n c : Nat) (G : Nat → Nat → Nat) : Prop := ∃ I' G' j' n' c', cA I' ch t j' ∧ kd ch t j' = 125 ∧ rA J' L ch t N (j' + 1) ∧ rQ J' hh c' ∧ c' ≤ j' ∧ J' 48 17 = nI d ∧ (I' o 0 = nI n' ∧ n' ≤ 80 ∧ J' 57 hh = nI n') ∧ I' 15 2 = nI (d + 1) ∧ j ≤ j' ∧ c ≤ c' ∧ n ≤ n' ∧ CR o I j I' j' ∧ cFr I I' o n (d + 1) ∧ (∀ k x, x < n → G' k x = G k x) ∧ SQ I' J' o G' (par I (d + 1)) n n' (2200 * hh + c) (2200 * hh + c')
theorem blk_go {stm : zPI → Option zPI} {L : zPL} {ch : Nat → Nat} {t N o hh d B j n c : Nat} {I J : zPI} {G : Nat → Nat → Nat} (ho : o = 24 ∨ o = 33) (hst : HSt stm L ch t N o hh (d + 1) B) (hM : mAt I J L ch t N o hh (d + 1) j n c) : ∃ J', fX9_block_39 stm L (fun I => fX9_block_62 stm L I) zF J = some J' ∧ rFr J J' (2200 * hh + c) (2200 * hh + 2200) ∧ (∀ b, b ≠ hh → J' 57 b = J 57 b) ∧ (OutF I J' o hh (d + 1) j n c B ∨ OutB I J' L ch t N o hh d j n c G) := by
  have hN : N ≤ 1000 := hM.2.1.1.2.2.1
  obtain ⟨J1, a1, a2, a3, a4⟩ := seq_go (K := fun I => fX9_block_62 stm L I) ho (by omega) hst (N + 1) j n c zF I J G (by omega) (zF_lt (by omega)) hM
  rcases a4 with ⟨f, I2, c2, ⟨f0, f1⟩, b1, b2, b3⟩ | ⟨I2, G2, j2, n2, c2, b1, b2, b3, b4, b5, b6, b7, b8, b9⟩
  · have h80 : ¬ J1 48 8 = 0 := by rw [b1]; exact nI_ne (b := 0) (by omega) (by omega) (by omega)
    obtain ⟨J', e1, e2⟩ := b62_f (stm := stm) (L := L) h80
    refine ⟨J', by rw [a1]; exact e1, fun a b n1 n2 n3 => by rw [e2 a b (by omega), a2 a b n1 n2 n3], fun b hb => by rw [e2 _ _ (by omega), a3 b hb], Or.inl ⟨f, I2, c2, ⟨f0, f1⟩, by rw [e2 _ _ (by omega)]; exact b1, rQ_cong b2 (e2 _ _ (by omega)) (e2 _ _ (by omega)), b3⟩⟩
  · obtain ⟨m1, m2, m3, m4, ⟨m5, m6, m7⟩, m8, m9, m10⟩ := b1
    obtain ⟨J', e1, e2, e3, e4⟩ := b62_ok (stm := stm) m2 b2 m9
    refine ⟨J', by rw [a1]; exact e1, fun a b n1 n2 n3 => by rw [e4 a b (by omega), a2 a b n1 n2 n3], fun b hb => by rw [e4 _ _ (by omega), a3 b hb], Or.inr ⟨I2, G2, j2, n2, c2, m1, b2, e2, rQ_cong m3 (e4 _ _ (by omega)) (e4 _ _ (by omega)), m4, e3, ⟨m5, m6, by rw [e4 _ _ (by omega)]; exact m7⟩, m8, b3, b4, b5, b6, b7, b8, SQ_J b9 (fun a b ha h1 h2 => e4 a b (by omega))⟩⟩
