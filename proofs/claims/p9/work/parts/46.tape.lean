/-! THE TAPE: feed -/
theorem tp_byte (x : Int64) {s : Nat} (hs : s ≤ 56) : (x >>> ((nI s).toInt64 &&& 63)).toInt32 &&& 255 = (zushr x (nI s)).toInt32 &&& 255 := by
  apply Int32.toBitVec_inj.mp
  rw [Int32.toBitVec_and, Int32.toBitVec_and]
  apply BitVec.eq_of_getLsbD_eq
  intro i hi
  rw [BitVec.getLsbD_and, BitVec.getLsbD_and]
  have e : (255 : Int32).toBitVec = BitVec.ofNat 32 (2 ^ 8 - 1) := by decide
  rw [e, BitVec.getLsbD_ofNat, Nat.testBit_two_pow_sub_one]
  by_cases h : i < 8
  · congr 1
    have e1 : ∀ y : Int64, y.toInt32.toBitVec.getLsbD i = zb y i := by
      intro y
      rw [Int64.toBitVec_toInt32, BitVec.getLsbD_signExtend]
      have h2 : i < 64 := by omega
      simp [hi, h2, zb]
    rw [e1, e1, zb_shr x (by omega)]
    unfold zb
    rw [Int64.toBitVec_shiftRight, zwb_c s (by omega), zwb_tb, zwb_sm s (by omega), BitVec.sshiftRight_eq', BitVec.toNat_ofNat, Nat.mod_eq_of_lt (by omega), BitVec.getLsbD_sshiftRight]
    have h2 : s + i < 64 := by omega
    have h3 : ¬ 64 ≤ i := by omega
    simp [h2, h3]
  · simp [h]
/-- the m-th byte of x from below -/
def byt (x : Int64) (m : Nat) : Nat := ((zushr x (nI (8 * m))).toInt32 &&& 255).toNatClampNeg
theorem byt_c (x : Int64) (m : Nat) : ((zushr x (nI (8 * m))).toInt32 &&& 255) = nI (byt x m) ∧ byt x m < 256 := by
  obtain ⟨j, hj, e⟩ := pk_andE (zushr x (nI (8 * m))).toInt32 (m := 255) 8 (by decide)
  unfold byt
  rw [e, nI_clamp (by omega)]
  exact ⟨rfl, hj⟩
theorem byt_r (x : Int64) {m : Nat} (hm : m ≤ 7) : ((x >>> ((nI (8 * m)).toInt64 &&& 63)).toInt32 &&& 255) = nI (byt x m) := by rw [tp_byte x (by omega)]; exact (byt_c x m).1
abbrev tpOk (c : Nat) : Prop := c = 10 ∨ (32 ≤ c ∧ c ≤ 126)
def tpS (q : Nat × (Nat → Nat)) (c : Nat) : Nat × (Nat → Nat) := if tpOk c ∧ q.1 < 1000 then (q.1 + 1, fun j => if j = q.1 then c else q.2 j) else q
def tpB (x : Int64) : Nat → Nat × (Nat → Nat) → Nat × (Nat → Nat)
  | 0, q => q
  | m + 1, q => tpB x m (tpS q (byt x m))
/-- the class's tape, the reference's -/
def zTC (I : zPI) (q : Nat × (Nat → Nat)) : Prop := I 13 1 = nI q.1 ∧ q.1 ≤ 1000 ∧ ∀ j, j < q.1 → I 14 j = nI (q.2 j) ∧ tpOk (q.2 j)
def zTR (I : zPI) (q : Nat × (Nat → Nat)) : Prop := I 48 2 = nI q.1 ∧ q.1 ≤ 1000 ∧ ∀ j, j < q.1 → I 49 j = nI (q.2 j) ∧ tpOk (q.2 j)
theorem zTC_cong {I I' : zPI} {q : Nat × (Nat → Nat)} (h : zTC I q) (e1 : I' 13 1 = I 13 1) (e2 : ∀ b, I' 14 b = I 14 b) : zTC I' q := ⟨by rw [e1]; exact h.1, h.2.1, fun j hj => by rw [e2]; exact h.2.2 j hj⟩
theorem zTR_cong {I I' : zPI} {q : Nat × (Nat → Nat)} (h : zTR I q) (e1 : I' 48 2 = I 48 2) (e2 : ∀ b, I' 49 b = I 49 b) : zTR I' q := ⟨by rw [e1]; exact h.1, h.2.1, fun j hj => by rw [e2]; exact h.2.2 j hj⟩
theorem tp_char : ∀ c, c < 256 → vp_nar .char (zi2c (nI c)) = nI c := by decide +kernel
theorem tp_sh (m : Nat) (hm : m ≤ 7) : iI (8 * ((m + 1 : Nat) : Int) - 8) = nI (8 * m) ∧ nI (8 * m) + (-8) = iI (8 * ((m : Nat) : Int) - 8) := by
  constructor
  · rw [← iI_nat]
    congr 1
    omega
  · rw [← iI_nat, show (-8 : Int32) = iI (-8) from rfl, iI_add]
    congr 1
    (try omega)
theorem tp_add {K : zPI → Option zPI} {x : Int64} : ∀ (m n : Nat) (q : Nat × (Nat → Nat)) (I : zPI), m ≤ 8 → m < n → zTC I q →
    ∃ I', fX6_addBytes_3 K n x (iI (8 * (m : Int) - 8)) I = K I' ∧ zTC I' (tpB x m q) ∧ (∀ a b, ¬ (a = 14 ∨ (a = 13 ∧ b = 1)) → I' a b = I a b) := by
  intro m
  induction m with
  | zero =>
    intro n q I hm hn hT
    obtain ⟨n, rfl, -⟩ := zsucc hn
    exact ⟨I, by rw [fX6_addBytes_3, if_pos (show iI (8 * ((0 : Nat) : Int) - 8) < 0 by decide)], hT, fun a b _ => rfl⟩
  | succ m ih =>
    intro n q I hm hn hT
    obtain ⟨n, rfl, hn⟩ := zsucc hn
    obtain ⟨s1, s2⟩ := tp_sh m (by omega)
    obtain ⟨b1, b2⟩ := byt_c x m
    obtain ⟨h1, h2, h3⟩ := hT
    rw [fX6_addBytes_3, s1, if_neg (nI_pos (by omega)), b1]
    have skip : tpS q (byt x m) = q → ∃ I', fX6_addBytes_3 K n x (nI (8 * m) + (-8)) I = K I' ∧ zTC I' (tpB x (m + 1) q) ∧ (∀ a b, ¬ (a = 14 ∨ (a = 13 ∧ b = 1)) → I' a b = I a b) := by
      intro e
      rw [s2, tpB, e]
      exact ih n q I (by omega) (by omega) ⟨h1, h2, h3⟩
    have take : tpOk (byt x m) → ∃ I', fX6_addBytes_43 (fX6_addBytes_3 K n) x (nI (8 * m)) (nI (byt x m)) 1 I = K I' ∧ zTC I' (tpB x (m + 1) q) ∧ (∀ a b, ¬ (a = 14 ∨ (a = 13 ∧ b = 1)) → I' a b = I a b) := by
      intro hok
      rw [fX6_addBytes_43, if_neg (by decide), h1]
      by_cases hq : q.1 < 1000
      · rw [if_neg (show ¬ (1000 : Int32) ≤ nI q.1 from nI_ge (a := q.1) (b := 1000) hq (by omega)), zif_t (zin_nI hq (by omega)), nI_clamp (by omega), tp_char _ b2, zu_row (by decide), h1, nI_1, s2, tpB]
        have hS : tpS q (byt x m) = (q.1 + 1, fun j => if j = q.1 then byt x m else q.2 j) := by rw [tpS, if_pos ⟨hok, hq⟩]
        rw [hS]
        obtain ⟨I', e, f1, f2⟩ := ih n (q.1 + 1, fun j => if j = q.1 then byt x m else q.2 j) (zu (zu I 14 q.1 (nI (byt x m))) 13 1 (nI (q.1 + 1))) (by omega) (by omega) ⟨zu_same, by simp only; omega, fun j hj => by
          rw [zu_row (by decide)]
          simp only
          by_cases e : j = q.1
          · subst e
            rw [zu_same, if_pos rfl]
            exact ⟨rfl, hok⟩
          · rw [zu_col e, if_neg e]
            exact h3 j (by simp only at hj; omega)⟩
        refine ⟨I', e, f1, fun a b h => ?_⟩
        rw [f2 a b h]
        by_cases h7 : a = 13
        · rw [zu_col (by omega), zu_row (by omega)]
        · rw [zu_row h7, zu_row (by omega)]
      · rw [if_pos (show (1000 : Int32) ≤ nI q.1 from nI_le (a := 1000) (b := q.1) (by omega) (by omega))]
        exact skip (by rw [tpS, if_neg (fun h => hq h.2)])
    have drop : ¬ tpOk (byt x m) → ∃ I', fX6_addBytes_43 (fX6_addBytes_3 K n) x (nI (8 * m)) (nI (byt x m)) 0 I = K I' ∧ zTC I' (tpB x (m + 1) q) ∧ (∀ a b, ¬ (a = 14 ∨ (a = 13 ∧ b = 1)) → I' a b = I a b) := by
      intro hok
      rw [fX6_addBytes_43, if_pos rfl]
      exact skip (by rw [tpS, if_neg (fun h => hok h.1)])
    by_cases c1 : nI (byt x m) = 10
    · rw [if_pos c1, fX6_addBytes_38]
      exact take (Or.inl ((nI_eq (b := 10) (by omega) (by omega)).mp c1))
    · rw [if_neg c1]
      have d1 : byt x m ≠ 10 := fun h => c1 (by rw [h]; rfl)
      by_cases c2 : nI (byt x m) < 32
      · rw [if_pos c2, fX6_addBytes_42]
        have d2 : byt x m < 32 := (nI_ltI (b := 32) (by omega) (by omega)).mp c2
        exact drop (by unfold tpOk; omega)
      · rw [if_neg c2]
        have d2 : ¬ byt x m < 32 := fun h => c2 ((nI_ltI (b := 32) (by omega) (by omega)).mpr h)
        by_cases c3 : 126 < nI (byt x m)
        · rw [if_pos c3, fX6_addBytes_42]
          have d3 : 126 < byt x m := (nI_ltI (a := 126) (by omega) (by omega)).mp c3
          exact drop (by unfold tpOk; omega)
        · rw [if_neg c3, fX6_addBytes_38]
          have d3 : ¬ 126 < byt x m := fun h => c3 ((nI_ltI (a := 126) (by omega) (by omega)).mpr h)
          exact take (by unfold tpOk; omega)
theorem tp_lay {K : zPI → Option zPI} {x : Int64} : ∀ (m n : Nat) (q : Nat × (Nat → Nat)) (I : zPI), m ≤ 8 → m < n → zTR I q →
    ∃ I', fX9_lay_3 K n x (iI (8 * (m : Int) - 8)) I = K I' ∧ zTR I' (tpB x m q) ∧ (∀ a b, ¬ (a = 49 ∨ (a = 48 ∧ b = 2)) → I' a b = I a b) := by
  intro m
  induction m with
  | zero =>
    intro n q I hm hn hT
    obtain ⟨n, rfl, -⟩ := zsucc hn
    exact ⟨I, by rw [fX9_lay_3, if_pos (show iI (8 * ((0 : Nat) : Int) - 8) < 0 by decide)], hT, fun a b _ => rfl⟩
  | succ m ih =>
    intro n q I hm hn hT
    obtain ⟨n, rfl, hn⟩ := zsucc hn
    obtain ⟨s1, s2⟩ := tp_sh m (by omega)
    have b1 := byt_r x (m := m) (by omega)
    have b2 := (byt_c x m).2
    obtain ⟨h1, h2, h3⟩ := hT
    rw [fX9_lay_3, s1, if_neg (nI_pos (by omega)), b1]
    have skip : tpS q (byt x m) = q → ∃ I', fX9_lay_3 K n x (nI (8 * m) + (-8)) I = K I' ∧ zTR I' (tpB x (m + 1) q) ∧ (∀ a b, ¬ (a = 49 ∨ (a = 48 ∧ b = 2)) → I' a b = I a b) := by
      intro e
      rw [s2, tpB, e]
      exact ih n q I (by omega) (by omega) ⟨h1, h2, h3⟩
    have take : tpOk (byt x m) → ∃ I', fX9_lay_38 (fX9_lay_3 K n) x (nI (8 * m)) (nI (byt x m)) I = K I' ∧ zTR I' (tpB x (m + 1) q) ∧ (∀ a b, ¬ (a = 49 ∨ (a = 48 ∧ b = 2)) → I' a b = I a b) := by
      intro hok
      rw [fX9_lay_38, h1]
      by_cases hq : q.1 < 1000
      · rw [if_neg (show ¬ (1000 : Int32) ≤ nI q.1 from nI_ge (a := q.1) (b := 1000) hq (by omega)), zif_t (zin_nI hq (by omega)), nI_clamp (by omega), zu_row (by decide), h1, nI_1, s2, tpB]
        have hS : tpS q (byt x m) = (q.1 + 1, fun j => if j = q.1 then byt x m else q.2 j) := by rw [tpS, if_pos ⟨hok, hq⟩]
        rw [hS]
        obtain ⟨I', e, f1, f2⟩ := ih n (q.1 + 1, fun j => if j = q.1 then byt x m else q.2 j) (zu (zu I 49 q.1 (nI (byt x m))) 48 2 (nI (q.1 + 1))) (by omega) (by omega) ⟨zu_same, by simp only; omega, fun j hj => by
          rw [zu_row (by decide)]
          simp only
          by_cases e : j = q.1
          · subst e
            rw [zu_same, if_pos rfl]
            exact ⟨rfl, hok⟩
          · rw [zu_col e, if_neg e]
            exact h3 j (by simp only at hj; omega)⟩
        refine ⟨I', e, f1, fun a b h => ?_⟩
        rw [f2 a b h]
        by_cases h7 : a = 48
        · rw [zu_col (by omega), zu_row (by omega)]
        · rw [zu_row h7, zu_row (by omega)]
      · rw [if_pos (show (1000 : Int32) ≤ nI q.1 from nI_le (a := 1000) (b := q.1) (by omega) (by omega))]
        exact skip (by rw [tpS, if_neg (fun h => hq h.2)])
    have drop : ¬ tpOk (byt x m) → ∃ I', fX9_lay_3 K n x (nI (8 * m) + (-8)) I = K I' ∧ zTR I' (tpB x (m + 1) q) ∧ (∀ a b, ¬ (a = 49 ∨ (a = 48 ∧ b = 2)) → I' a b = I a b) := fun hok => skip (by rw [tpS, if_neg (fun h => hok h.1)])
    by_cases c1 : nI (byt x m) = 10
    · rw [if_pos c1]
      exact take (Or.inl ((nI_eq (b := 10) (by omega) (by omega)).mp c1))
    · rw [if_neg c1]
      have d1 : byt x m ≠ 10 := fun h => c1 (by rw [h]; rfl)
      by_cases c2 : nI (byt x m) < 32
      · rw [if_pos c2]
        have d2 : byt x m < 32 := (nI_ltI (b := 32) (by omega) (by omega)).mp c2
        exact drop (by unfold tpOk; omega)
      · rw [if_neg c2]
        have d2 : ¬ byt x m < 32 := fun h => c2 ((nI_ltI (b := 32) (by omega) (by omega)).mpr h)
        by_cases c3 : 126 < nI (byt x m)
        · rw [if_pos c3]
          have d3 : 126 < byt x m := (nI_ltI (a := 126) (by omega) (by omega)).mp c3
          exact drop (by unfold tpOk; omega)
        · rw [if_neg c3]
          have d3 : ¬ 126 < byt x m := fun h => c3 ((nI_ltI (a := 126) (by omega) (by omega)).mpr h)
          exact take (by unfold tpOk; omega)
theorem tp_addBytes {I : zPI} {q : Nat × (Nat → Nat)} (x : Int64) (h : zTC I q) : ∃ I', fX6_addBytes I x = some I' ∧ zTC I' (tpB x 8 q) ∧ (∀ a b, ¬ (a = 14 ∨ (a = 13 ∧ b = 1)) → I' a b = I a b) := tp_add (K := fun I => some I) 8 zF q I (by omega) (zF_lt (by omega)) h
theorem tp_layB {I : zPI} {q : Nat × (Nat → Nat)} (x : Int64) (h : zTR I q) : ∃ I', fX9_lay I x = some I' ∧ zTR I' (tpB x 8 q) ∧ (∀ a b, ¬ (a = 49 ∨ (a = 48 ∧ b = 2)) → I' a b = I a b) := tp_lay (K := fun I => some I) 8 zF q I (by omega) (zF_lt (by omega)) h
theorem q_feed {I : zPI} {q : Nat × (Nat → Nat)} (hC : zTC I q) (hR : zTR I q) (x y z : Int64) : ∃ v I1 I2 q', fX8_feed I x y z = some (v, I1) ∧ fX9_feed I1 x y z = some (v, I2) ∧ zTC I2 q' ∧ zTR I2 q' ∧ (∀ a b, ¬ (a = 14 ∨ (a = 13 ∧ b = 1) ∨ a = 49 ∨ (a = 48 ∧ (b = 0 ∨ b = 2))) → I2 a b = I a b) := by
  obtain ⟨A1, a1, a2, a3⟩ := tp_addBytes x hC
  obtain ⟨A2, b1, b2, b3⟩ := tp_addBytes y a2
  obtain ⟨A3, c1, c2, c3⟩ := tp_addBytes z b2
  have hA : ∀ a b, ¬ (a = 14 ∨ (a = 13 ∧ b = 1)) → A3 a b = I a b := fun a b h => by rw [c3 a b h, b3 a b h, a3 a b h]
  have hR0 : zTR (zu A3 48 0 0) q := zTR_cong hR (by rw [zu_col (by decide), hA _ _ (by decide)]) (fun b => by rw [zu_row (by decide), hA _ _ (by omega)])
  obtain ⟨B1, d1, d2, d3⟩ := tp_layB x hR0
  obtain ⟨B2, e1, e2, e3⟩ := tp_layB y d2
  obtain ⟨B3, f1, f2, f3⟩ := tp_layB z e2
  have hB : ∀ a b, ¬ (a = 49 ∨ (a = 48 ∧ b = 2)) → B3 a b = zu A3 48 0 0 a b := fun a b h => by rw [f3 a b h, e3 a b h, d3 a b h]
  have hv : A3 13 1 = B3 48 2 := by rw [c2.1, f2.1]
  refine ⟨A3 13 1, A3, B3, _, ?_, ?_, ?_, f2, fun a b h => ?_⟩
  · rw [fX8_feed, a1]
    simp only [Option.bind_some]
    rw [b1]
    simp only [Option.bind_some]
    rw [c1]
    rfl
  · rw [fX9_feed, d1]
    simp only [Option.bind_some]
    rw [e1]
    simp only [Option.bind_some]
    rw [f1, hv]
    rfl
  · exact zTC_cong c2 (by rw [hB _ _ (by decide), zu_row (by decide)]) (fun b => by rw [hB _ _ (by omega), zu_row (by decide)])
  · rw [hB a b (by omega)]
    by_cases h7 : a = 48
    · rw [zu_col (by omega), hA a b (by omega)]
    · rw [zu_row h7, hA a b (by omega)]
