/-! beginWork and begins, beside each other -/
def zhd (jb : Nat) : Nat := if jb = 0 then 3 else if jb = 1 then 4 else if jb = 2 then 5 else 2
def zmu (jb th am y : Nat) : Nat := if jb = 0 then 4 + 2 * (th % 3) else if jb = 1 then 6 + 2 * (th % 3) else if jb = 2 then 2 * (if am < y then y - am else am - y) else 10
theorem zhd_c : ∀ jb, jb < 4 → fX4_handsFor (nI jb) = nI (zhd jb) ∧ fX9_handsOf (nI jb) = nI (zhd jb) ∧ 0 < zhd jb ∧ zhd jb ≤ 5 := by decide +kernel
theorem zmu_abs : ∀ am, am < 9 → ∀ y, y < 9 → 2 * zmabs (nI am - nI y) = nI (2 * (if am < y then y - am else am - y)) := by decide +kernel
theorem zrm3 {th : Nat} (h : th < 100) : zrm (nI th) 3 = nI (th % 3) := pk_rem (a := th) (d := 3) (by omega) (by omega) (by omega)
theorem f_muster {I : zPI} {n need : Nat} (hn : n ≤ 24) (h0 : I 42 0 = nI n) (hneed : 0 < need) (h5 : need ≤ 5) :
    (zcnt (rdy I) n < need ∧ fX1_muster I (nI need) = some (-1, I)) ∨
    (need ≤ zcnt (rdy I) n ∧ ∃ I' f0, fX1_muster I (nI need) = some (nI f0, I') ∧ f0 < n ∧ rdy I f0 = true ∧ (∀ x, x < f0 → rdy I x = false) ∧ (∀ a b, a ≠ 47 → I' a b = I a b) ∧ (∀ x, x < n → I' 47 x = if (rdy I x && decide (zcnt (rdy I) x < need)) = true then nI f0 else I 47 x)) := by
  have hc := zcnt_le (rdy I) n
  have e4 := f_mus4 (K := fun v1 v2 I => (if v1 ≤ v2 then fX1_muster_49 (fun v3 I => some (v3, I)) zF (-1) v1 0 I else some ((-1), I))) (v1 := nI need) hn h0 n zF 0 (by omega) (zF_lt (by omega))
  have e5 : fX1_muster I (nI need) = if nI need ≤ nI (zcnt (rdy I) n) then fX1_muster_49 (fun v3 I => some (v3, I)) zF (-1) (nI need) 0 I else some ((-1), I) := e4
  by_cases c : need ≤ zcnt (rdy I) n
  · obtain ⟨f0, a1, a2, a3⟩ := zcnt_pos n (P := rdy I) (by omega)
    obtain ⟨I', e, g1, g2⟩ := f_mus49 (K := fun v3 I => some (v3, I)) (I0 := I) hn h0 hneed h5 a1 a2 a3 c n zF 0 I (by omega) (zF_lt (by omega)) (Nat.zero_le _) (fun _ _ _ => rfl) (fun x hx => by omega)
    refine Or.inr ⟨c, I', f0, ?_, a1, a2, a3, g1, g2⟩
    rw [e5, if_pos (nI_le c (by omega))]
    rw [if_pos (Nat.zero_le _)] at e
    exact e
  · exact Or.inl ⟨by omega, by rw [e5, if_neg (nI_ge (by omega) (by omega))]⟩
theorem f_minutes {I : zPI} {jb th am y : Nat} (hj : jb < 4) (ht : th < zlim jb) (ha : am ≤ 8) (hy : y ≤ 8) (h5 : jb = 2 → I 5 th = nI y) : fX4_minutesFor I (nI jb) (nI th) (nI am) = some (nI (zmu jb th am y)) := by
  have hcase : jb = 0 ∨ jb = 1 ∨ jb = 2 ∨ jb = 3 := by omega
  have htl := zlim_le jb
  have e2 : ∀ a : Nat, (2 : Int32) * nI a = nI (2 * a) := fun a => by rw [show (2 : Int32) = nI 2 from rfl, pk_mul]
  rcases hcase with rfl | rfl | rfl | rfl
  · rw [fX4_minutesFor, show nI 0 = (0 : Int32) from rfl, if_pos rfl, zrm3 (by omega), e2, show (4 : Int32) = nI 4 from rfl, nI_add]
    rfl
  · rw [fX4_minutesFor, show nI 1 = (1 : Int32) from rfl, if_neg (by decide), if_pos rfl, zrm3 (by omega), e2, show (6 : Int32) = nI 6 from rfl, nI_add]
    rfl
  · have ht : th < 3 := ht
    rw [fX4_minutesFor, show nI 2 = (2 : Int32) from rfl, if_neg (by decide), if_neg (by decide), if_pos rfl, zif_t (zin_nI ht (by omega)), nI_clamp (by omega), h5 rfl, zmu_abs am (by omega) y (by omega)]
    rfl
  · rw [fX4_minutesFor, show nI 3 = (3 : Int32) from rfl, if_neg (by decide), if_neg (by decide), if_neg (by decide)]
    rfl
theorem f_minutesR {jb th am y s : Nat} (hj : jb < 4) (ht : th < zlim jb) (hs : jb = 2 → s = (if am < y then y - am else am - y)) : fX9_minutesOf (nI jb) (nI th) (nI s) = nI (zmu jb th am y) := by
  have hcase : jb = 0 ∨ jb = 1 ∨ jb = 2 ∨ jb = 3 := by omega
  have htl := zlim_le jb
  have e2 : ∀ a : Nat, (2 : Int32) * nI a = nI (2 * a) := fun a => by rw [show (2 : Int32) = nI 2 from rfl, pk_mul]
  rcases hcase with rfl | rfl | rfl | rfl
  · rw [fX9_minutesOf, show nI 0 = (0 : Int32) from rfl, if_pos rfl, zrm3 (by omega), e2, show (4 : Int32) = nI 4 from rfl, nI_add]
    rfl
  · rw [fX9_minutesOf, show nI 1 = (1 : Int32) from rfl, if_neg (by decide), if_pos rfl, zrm3 (by omega), e2, show (6 : Int32) = nI 6 from rfl, nI_add]
    rfl
  · rw [fX9_minutesOf, show nI 2 = (2 : Int32) from rfl, if_neg (by decide), if_neg (by decide), if_pos rfl, e2, hs rfl]
    rfl
  · rw [fX9_minutesOf, show nI 3 = (3 : Int32) from rfl, if_neg (by decide), if_neg (by decide), if_neg (by decide)]
    rfl
theorem zmu_b {jb th am y : Nat} (hj : jb < 4) (ha : am ≤ 8) (hy : y ≤ 8) (hne : jb = 2 → y ≠ am) : 0 < zmu jb th am y ∧ zmu jb th am y ≤ 20 := by
  unfold zmu
  by_cases c0 : jb = 0
  · rw [if_pos c0]; omega
  rw [if_neg c0]
  by_cases c1 : jb = 1
  · rw [if_pos c1]; omega
  rw [if_neg c1]
  by_cases c2 : jb = 2
  · rw [if_pos c2]
    have := hne c2
    split <;> omega
  · rw [if_neg c2]; omega
theorem f_assign {I : zPI} {f : Nat} (hf : f < 24) (a b c d : Int32) : ∃ I', fX1_assign I (nI f) a b c d = some I' ∧ (∀ x y, ¬ (x = 43 ∨ x = 44 ∨ x = 45 ∨ x = 46 ∨ (x = 42 ∧ y = 7)) → I' x y = I x y) ∧ (∀ x, I' 43 x = if x = f then a else I 43 x) ∧ (∀ x, I' 44 x = if x = f then b else I 44 x) ∧ (∀ x, I' 45 x = if x = f then c else I 45 x) ∧ (∀ x, I' 46 x = if x = f then d else I 46 x) := by
  have hz : zin (nI f) 24 = true := zin_nI hf (by omega)
  refine ⟨zu (zu (zu (zu (zu I 43 f a) 44 f b) 45 f c) 46 f d) 42 7 (((zu (zu (zu (zu I 43 f a) 44 f b) 45 f c) 46 f d) 42 7) + 1), ?_, ?_, ?_, ?_, ?_, ?_⟩
  · unfold fX1_assign
    simp only [hz, if_true]
    rw [nI_clamp (by omega)]
  · intro x y h
    by_cases h7 : x = 42
    · rw [zu_col (by omega), zu_row (by omega), zu_row (by omega), zu_row (by omega), zu_row (by omega)]
    · rw [zu_row h7, zu_row (by omega), zu_row (by omega), zu_row (by omega), zu_row (by omega)]
  · intro x
    rw [zu_row (by decide), zu_row (by decide), zu_row (by decide), zu_row (by decide)]
    by_cases e : x = f
    · rw [if_pos e, e, zu_same]
    · rw [if_neg e, zu_col e]
  · intro x
    rw [zu_row (by decide), zu_row (by decide), zu_row (by decide)]
    by_cases e : x = f
    · rw [if_pos e, e, zu_same]
    · rw [if_neg e, zu_col e, zu_row (by decide)]
  · intro x
    rw [zu_row (by decide), zu_row (by decide)]
    by_cases e : x = f
    · rw [if_pos e, e, zu_same]
    · rw [if_neg e, zu_col e, zu_row (by decide), zu_row (by decide)]
  · intro x
    rw [zu_row (by decide)]
    by_cases e : x = f
    · rw [if_pos e, e, zu_same]
    · rw [if_neg e, zu_col e, zu_row (by decide), zu_row (by decide), zu_row (by decide)]
theorem f_mark {I : zPI} {jb th : Nat} (hj : jb < 4) (ht : th < zlim jb) (v : Int32) : ∃ I', fX4_mark I (nI jb) (nI th) v = some I' ∧ (∀ x y, ¬ (x = 6 ∨ x = 7 ∨ x = 8) → I' x y = I x y) ∧ (∀ s, I' 6 s = if jb < 2 ∧ s = th then v else I 6 s) ∧ (∀ s, I' 7 s = if jb = 3 ∧ s = th then v else I 7 s) ∧ (∀ s, I' 8 s = if jb = 2 ∧ s = th then v else I 8 s) := by
  have hcase : jb = 2 ∨ jb = 3 ∨ jb < 2 := by omega
  rcases hcase with rfl | rfl | hjb
  · have ht : th < 3 := ht
    refine ⟨zu I 8 th v, ?_, fun x y h => zu_row (by omega), fun s => ?_, fun s => ?_, fun s => ?_⟩
    · rw [fX4_mark, show nI 2 = (2 : Int32) from rfl, if_pos rfl, zif_t (zin_nI ht (by omega)), nI_clamp (by omega)]
    · rw [zu_row (by decide), if_neg (by omega)]
    · rw [zu_row (by decide), if_neg (by omega)]
    · by_cases e : s = th
      · rw [if_pos ⟨rfl, e⟩, e, zu_same]
      · rw [if_neg (fun h => e h.2), zu_col e]
  · have ht : th < 18 := ht
    refine ⟨zu I 7 th v, ?_, fun x y h => zu_row (by omega), fun s => ?_, fun s => ?_, fun s => ?_⟩
    · rw [fX4_mark, show nI 3 = (3 : Int32) from rfl, if_neg (by decide), if_pos rfl, zif_t (zin_nI ht (by omega)), nI_clamp (by omega)]
    · rw [zu_row (by decide), if_neg (by omega)]
    · by_cases e : s = th
      · rw [if_pos ⟨rfl, e⟩, e, zu_same]
      · rw [if_neg (fun h => e h.2), zu_col e]
    · rw [zu_row (by decide), if_neg (by omega)]
  · have ht : th < 9 := by
      unfold zlim at ht
      rw [if_pos hjb] at ht
      exact ht
    refine ⟨zu I 6 th v, ?_, fun x y h => zu_row (by omega), fun s => ?_, fun s => ?_, fun s => ?_⟩
    · rw [fX4_mark, if_neg (show ¬ nI jb = 2 from nI_ne (b := 2) (by omega) (by omega) (by omega)), if_neg (show ¬ nI jb = 3 from nI_ne (b := 3) (by omega) (by omega) (by omega)), zif_t (zin_nI ht (by omega)), nI_clamp (by omega)]
    · by_cases e : s = th
      · rw [if_pos ⟨hjb, e⟩, e, zu_same]
      · rw [if_neg (fun h => e h.2), zu_col e]
    · rw [zu_row (by decide), if_neg (by omega)]
    · rw [zu_row (by decide), if_neg (by omega)]
/-- the reference takes hands for a work -/
theorem f_beg145 {J : zPI} {n need k jb th am s : Nat} {e : Int32} (hn : n ≤ 24) (h0 : J 48 18 = nI n) (hk : k < 24) (h5 : need ≤ 5) (hc : need ≤ zcnt (rdyR J) n) (he : J 48 29 + fX9_minutesOf (nI jb) (nI th) (nI s) = e) :
    ∃ J', fX9_begins_145 (nI jb) (nI th) (nI am) (nI need) (nI k) (nI s) J = some (1, J') ∧ (∀ a b, ¬ (a = 62 ∨ a = 63 ∨ a = 64 ∨ a = 65 ∨ a = 66) → J' a b = J a b) ∧ (∀ j, J' 63 j = if j = k then nI (1 + jb) else J 63 j) ∧ (∀ j, J' 64 j = if j = k then nI th else J 64 j) ∧ (∀ j, J' 65 j = if j = k then nI am else J 65 j) ∧ (∀ j, J' 66 j = if j = k then e else J 66 j) ∧
      (∀ x, x < n → J' 62 x = if (rdyR J x && decide (zcnt (rdyR J) x < need)) = true then nI k else J 62 x) := by
  have hz : zin (nI k) 24 = true := zin_nI hk (by omega)
  obtain ⟨J1, hJ1⟩ : ∃ J1 : zPI, J1 = zu (zu (zu (zu J 63 k (nI (1 + jb))) 64 k (nI th)) 65 k (nI am)) 66 k e := ⟨_, rfl⟩
  have f1 : ∀ a b, ¬ (a = 63 ∨ a = 64 ∨ a = 65 ∨ a = 66) → J1 a b = J a b := fun a b h => by rw [hJ1, zu_row (by omega), zu_row (by omega), zu_row (by omega), zu_row (by omega)]
  have hr : rdyR J1 = rdyR J := by
    funext x
    unfold rdyR fX9_isOnDeck
    rw [f1 62 x (by decide), f1 48 28 (by decide)]
  obtain ⟨J', e1, g1, g2⟩ := f_beg195 (K := fun I => some (1, I)) (J0 := J1) (k0 := k) hn (by rw [f1 48 18 (by decide)]; exact h0) h5 (by rw [hr]; exact hc) n zF 0 J1 (by omega) (zF_lt (by omega)) (Nat.zero_le _) (fun _ _ _ => rfl) (fun x hx => by omega)
  refine ⟨J', ?_, fun a b h => by rw [g1 a b (by omega), f1 a b (by omega)], fun j => ?_, fun j => ?_, fun j => ?_, fun j => ?_, fun x hx => ?_⟩
  · unfold fX9_begins_145
    simp only [hz, if_true]
    rw [nI_clamp (by omega), zu_row (show (48 : Nat) ≠ 65 by decide), zu_row (show (48 : Nat) ≠ 64 by decide), zu_row (show (48 : Nat) ≠ 63 by decide), he, show (1 : Int32) + nI jb = nI (1 + jb) from nI_add 1 jb, ← hJ1]
    exact e1
  · rw [g1 _ _ (by decide), hJ1, zu_row (by decide), zu_row (by decide), zu_row (by decide)]
    by_cases c : j = k
    · rw [if_pos c, c, zu_same]
    · rw [if_neg c, zu_col c]
  · rw [g1 _ _ (by decide), hJ1, zu_row (by decide), zu_row (by decide)]
    by_cases c : j = k
    · rw [if_pos c, c, zu_same]
    · rw [if_neg c, zu_col c, zu_row (by decide)]
  · rw [g1 _ _ (by decide), hJ1, zu_row (by decide)]
    by_cases c : j = k
    · rw [if_pos c, c, zu_same]
    · rw [if_neg c, zu_col c, zu_row (by decide), zu_row (by decide)]
  · rw [g1 _ _ (by decide), hJ1]
    by_cases c : j = k
    · rw [if_pos c, c, zu_same]
    · rw [if_neg c, zu_col c, zu_row (by decide), zu_row (by decide), zu_row (by decide)]
  · rw [g2 x hx, hr, f1 62 x (by decide)]
/-- a work is begun, or not, on both sides alike -/
theorem f_begin {I J : zPI} {n m : Nat} (hm : m < 1000000) (hW : rW I J n (fun _ => m + 1)) (hG : rG I J) (hi : I 0 12 = nI m) (hj9 : J 48 29 = nI m) (hd : I 42 6 = J 48 28) {jb th am : Nat} (hj : jb < 4) (ht : th < zlim jb) (ha : am ≤ 8) :
    ∃ v I' J', fX8_beginWork I (nI jb) (nI th) (nI am) = some (v, I') ∧ fX9_begins J (nI jb) (nI th) (nI am) = some (v, J') ∧ (v = 0 ∨ v = 1) ∧ rW I' J' n (fun _ => m + 1) ∧ rG I' J' ∧
      (∀ a b, ¬ (a = 6 ∨ a = 7 ∨ a = 8 ∨ a = 43 ∨ a = 44 ∨ a = 45 ∨ a = 46 ∨ a = 47 ∨ (a = 42 ∧ b = 7)) → I' a b = I a b) ∧ (∀ a b, ¬ (a = 62 ∨ a = 63 ∨ a = 64 ∨ a = 65 ∨ a = 66) → J' a b = J a b) := by
  have hn := hW.1.2.1
  obtain ⟨b, b', e1, e2, e3, e4⟩ := f_barred hW hj ht
  obtain ⟨c, c', d1, d2, d3, d4⟩ := f_idle hG hj ht ha
  obtain ⟨hh1, hh2, hh3, hh4⟩ := zhd_c jb hj
  unfold fX8_beginWork fX9_begins
  rw [e1, e2]
  simp only [Option.bind_some]
  by_cases cb : b = 0
  · rw [if_pos cb, if_pos (e3.mp cb), d1, d2]
    simp only [Option.bind_some]
    by_cases cc : c = 0
    · rw [if_pos cc, if_neg (d3.mp cc), hh1]
      obtain ⟨k1, k2, k3⟩ := d4 cc
      obtain ⟨m1, m2, m3⟩ := e4 cb
      have hrd := rdy_eq hW hd
      have hcnt : ∀ x, x ≤ n → zcnt (rdyR J) x = zcnt (rdy I) x := fun x hx => zcnt_cong x (fun y hy => hrd y (by omega))
      have e29 := f_beg29 (K := fun v1 v2 v3 v4 I => (if (fX9_handsOf v1) ≤ v4 then fX9_begins_91 (fun v1 v2 v3 v5 v6 I => (if v1 = 2 then (if zin v2 3 then (if (I 61 v2.toNatClampNeg) ≤ v3 then (if zin v2 3 then fX9_begins_145 v1 v2 v3 v5 v6 (v3 - (I 61 v2.toNatClampNeg)) I else none) else (if zin v2 3 then fX9_begins_145 v1 v2 v3 v5 v6 ((I 61 v2.toNatClampNeg) - v3) I else none)) else none) else fX9_begins_145 v1 v2 v3 v5 v6 0 I)) zF v1 v2 v3 (fX9_handsOf v1) 0 I else some (0, I))) (v1 := nI jb) (v2 := nI th) (v3 := nI am) (J := J) hn hW.1.2.2.2 n zF 0 (by omega) (zF_lt (by omega))
      have hle := zcnt_le (rdy I) n
      rcases f_muster hn hW.1.2.2.1 hh3 hh4 with ⟨g1, g2⟩ | ⟨g1, I1, f0, g2, g3, g4, g5, g6, g7⟩
      · refine ⟨0, I, J, ?_, ?_, Or.inl rfl, hW, hG, fun _ _ _ => rfl, fun _ _ _ => rfl⟩
        · rw [g2]
          rfl
        · refine e29.trans ?_
          rw [hh2, hcnt n (Nat.le_refl _), if_neg (nI_ge (by omega) (by omega))]
      · -- the class
        have hf24 : f0 < 24 := by omega
        obtain ⟨y, hy, hy5⟩ : ∃ y, y ≤ 8 ∧ (jb = 2 → I 5 th = nI y ∧ J 61 th = nI y ∧ y ≠ am) := by
          by_cases cj : jb = 2
          · obtain ⟨y, a1, a2, a3, a4⟩ := k3 cj
            exact ⟨y, a1, fun _ => ⟨a3, a4, a2⟩⟩
          · exact ⟨0, by omega, fun h9 => absurd h9 cj⟩
        obtain ⟨mu1, mu2⟩ := zmu_b (th := th) hj ha hy (fun h9 => (hy5 h9).2.2)
        have emin : fX4_minutesFor I1 (nI jb) (nI th) (nI am) = some (nI (zmu jb th am y)) := f_minutes hj ht ha hy (fun h9 => by rw [g6 _ _ (by decide)]; exact (hy5 h9).1)
        obtain ⟨I2, o1, o2, o3, o4, o5, o6⟩ := f_assign (I := I1) hf24 (nI jb) (nI th) (nI am) (nI (m + zmu jb th am y))
        obtain ⟨I3, p1, p2, p3, p4, p5⟩ := f_mark (I := I2) hj ht (nI f0)
        have eC : fX1_muster I (nI (zhd jb)) = some (nI f0, I1) := g2
        have hx0 : I 47 f0 = -1 := by
          unfold rdy at g4
          simp only [Bool.and_eq_true, decide_eq_true_eq] at g4
          exact g4.1
        obtain ⟨k, q1, q2, q3⟩ := rW_free hW g3 hx0
        -- the reference
        obtain ⟨s, hs1, hs2⟩ : ∃ s : Nat, (jb = 2 → s = (if am < y then y - am else am - y)) ∧ (jb ≠ 2 → s = 0) := by
          by_cases cj : jb = 2
          · exact ⟨(if am < y then y - am else am - y), fun _ => rfl, fun h9 => absurd cj h9⟩
          · exact ⟨0, fun h9 => absurd h9 cj, fun _ => rfl⟩
        obtain ⟨J2, r1, r2, r3, r4, r5, r6, r7⟩ := f_beg145 (J := J) (n := n) (need := zhd jb) (k := k) (jb := jb) (th := th) (am := am) (s := s) (e := nI (m + zmu jb th am y)) hn hW.1.2.2.2 q1 hh4 (by rw [hcnt n (Nat.le_refl _)]; exact g1) (by rw [hj9, f_minutesR hj ht hs1, nI_add])
        have fI : ∀ a b, ¬ (a = 6 ∨ a = 7 ∨ a = 8 ∨ a = 43 ∨ a = 44 ∨ a = 45 ∨ a = 46 ∨ a = 47 ∨ (a = 42 ∧ b = 7)) → I3 a b = I a b := fun a b h => by rw [p2 a b (by omega), o2 a b (by omega), g6 a b (by omega)]
        refine ⟨1, I3, J2, ?_, ?_, Or.inr rfl, ?_, ?_, fI, r2⟩
        · rw [eC]
          simp only [Option.bind_some]
          rw [if_neg (nI_m1 (by omega)), emin]
          simp only [Option.bind_some]
          rw [g6 0 12 (by decide), hi, nI_add, o1]
          simp only [Option.bind_some]
          rw [p1]
          rfl
        · refine e29.trans ?_
          rw [hh2, hcnt n (Nat.le_refl _), if_pos (nI_le g1 (by omega))]
          have e91 := f_beg91 (K := fun v1 v2 v3 v5 v6 I => (if v1 = 2 then (if zin v2 3 then (if (I 61 v2.toNatClampNeg) ≤ v3 then (if zin v2 3 then fX9_begins_145 v1 v2 v3 v5 v6 (v3 - (I 61 v2.toNatClampNeg)) I else none) else (if zin v2 3 then fX9_begins_145 v1 v2 v3 v5 v6 ((I 61 v2.toNatClampNeg) - v3) I else none)) else none) else fX9_begins_145 v1 v2 v3 v5 v6 0 I)) (v1 := nI jb) (v2 := nI th) (v3 := nI am) (v5 := nI (zhd jb)) q1 q2 q3 k zF 0 (by omega) (zF_lt (by omega))
          refine e91.trans ?_
          by_cases cj : jb = 2
          · subst cj
            have ht3 : th < 3 := ht
            have hz3 : zin (nI th) 3 = true := zin_nI ht3 (by omega)
            rw [if_pos (show nI 2 = (2 : Int32) from rfl)]
            simp only [hz3, if_true]
            rw [nI_clamp (by omega), (hy5 rfl).2.1]
            by_cases cy : am < y
            · rw [if_neg (nI_ge (by omega) (by omega)), pk_sub (by omega), ← r1, hs1 rfl, if_pos cy]
            · rw [if_pos (nI_le (by omega) (by omega)), pk_sub (by omega), ← r1, hs1 rfl, if_neg cy]
          · rw [if_neg (show ¬ nI jb = 2 from nI_ne (b := 2) (by omega) (by omega) cj), ← r1, hs2 cj]
            rfl
        · refine rW_add hW (f := f0) (k := k) (jb := jb) (th := th) (am := am) (e := m + zmu jb th am y) (T := fun x => rdy I x && decide (zcnt (rdy I) x < zhd jb)) g3 ?_ ?_ ?_ q1 q2 hj ht ha (by omega) (by omega) (fI _ _ (by decide)) (r2 _ _ (by decide)) (fun b => fI _ _ (by omega)) ?_ ?_ ?_ ?_ ?_ ?_ r3 r4 r5 r6 ?_ ?_ ?_ m1 k1 k2 m2 m3
          · have : zcnt (rdy I) f0 = 0 := zcnt_zero g5 f0 (Nat.le_refl _)
            simp only [Bool.and_eq_true, decide_eq_true_eq]
            exact ⟨g4, by omega⟩
          · intro x hx h9
            simp only [Bool.and_eq_true, decide_eq_true_eq] at h9
            refine Classical.byContradiction (fun h8 => ?_)
            rw [g5 x (by omega)] at h9
            exact absurd h9.1 (by decide)
          · intro x hx h9
            simp only [Bool.and_eq_true, decide_eq_true_eq, rdy] at h9
            exact h9.1.1
          · intro x; rw [p2 _ _ (by decide), o3, g6 _ _ (by decide)]
          · intro x; rw [p2 _ _ (by decide), o4, g6 _ _ (by decide)]
          · intro x; rw [p2 _ _ (by decide), o5, g6 _ _ (by decide)]
          · intro x; rw [p2 _ _ (by decide), o6, g6 _ _ (by decide)]
          · intro x hx; rw [p2 _ _ (by decide), o2 _ _ (by omega), g7 x hx]
          · intro x hx
            rw [r7 x hx, hrd x hx, hcnt x (by omega)]
          · intro s; rw [p3, o2 _ _ (by omega), g6 _ _ (by decide)]
          · intro s; rw [p4, o2 _ _ (by omega), g6 _ _ (by decide)]
          · intro s; rw [p5, o2 _ _ (by omega), g6 _ _ (by decide)]
        · exact rG_cong hG (fun a ha b => fI a b (by omega)) (fun a ha b => r2 a b (by omega))
    · rw [if_neg cc, if_pos (Classical.byContradiction (fun h9 => cc (d3.mpr h9)))]
      exact ⟨1, I, J, rfl, rfl, Or.inr rfl, hW, hG, fun _ _ _ => rfl, fun _ _ _ => rfl⟩
  · rw [if_neg cb, if_neg (fun h9 => cb (e3.mpr h9))]
    exact ⟨0, I, J, rfl, rfl, Or.inl rfl, hW, hG, fun _ _ _ => rfl, fun _ _ _ => rfl⟩
