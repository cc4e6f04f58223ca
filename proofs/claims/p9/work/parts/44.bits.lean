/-! rows of bits -/
theorem zwb_tb (n : Nat) : (lN n).toBitVec = BitVec.ofNat 64 n := rfl
theorem zwb_c : ∀ k, k < 64 → ((nI k).toInt64 &&& 63) = lN k := by decide +kernel
theorem zwb_cu : ∀ k, k < 64 → ((nI k).toInt64.toUInt64 &&& Int64.toUInt64 63) = UInt64.ofNat k := by decide +kernel
theorem zwb_sm : ∀ k, k < 64 → (BitVec.ofNat 64 k).smod 64 = BitVec.ofNat 64 k := by decide +kernel
def zb (x : Int64) (j : Nat) : Bool := x.toBitVec.getLsbD j
theorem zb_0 (j : Nat) : zb 0 j = false := by
  show (0#64).getLsbD j = false
  simp
theorem zb_or (a b : Int64) (j : Nat) : zb (a ||| b) j = (zb a j || zb b j) := by
  unfold zb
  rw [Int64.toBitVec_or, BitVec.getLsbD_or]
theorem zb_mask (a : Int64) (j : Nat) : zb (a &&& 562949953421311) j = (zb a j && decide (j < 49)) := by
  unfold zb
  rw [Int64.toBitVec_and, BitVec.getLsbD_and]
  have e : (562949953421311 : Int64).toBitVec = BitVec.ofNat 64 (2 ^ 49 - 1) := by decide
  rw [e, BitVec.getLsbD_ofNat, Nat.testBit_two_pow_sub_one]
  by_cases h : j < 49
  · have h2 : j < 64 := by omega
    simp [h, h2]
  · simp [h]
theorem zb_shl (a : Int64) {e : Nat} (he : e < 64) (j : Nat) : zb (a <<< ((nI e).toInt64 &&& 63)) j = (decide (j < 64) && (decide (e ≤ j) && zb a (j - e))) := by
  unfold zb
  rw [zwb_c e he, Int64.toBitVec_shiftLeft, zwb_tb, zwb_sm e he, BitVec.shiftLeft_eq', BitVec.toNat_ofNat, Nat.mod_eq_of_lt (by omega), BitVec.getLsbD_shiftLeft]
  by_cases h : e ≤ j
  · have h2 : ¬ j < e := by omega
    simp [h, h2]
  · have h2 : j < e := by omega
    simp [h, h2]
theorem zb_shr (a : Int64) {e : Nat} (he : e < 64) (j : Nat) : zb (zushr a (nI e)) j = zb a (e + j) := by
  unfold zb zushr
  rw [zwb_cu e he]
  have h1 : (UInt64.ofNat e).toNat = e := by
    show (BitVec.ofNat 64 e).toNat = e
    rw [BitVec.toNat_ofNat, Nat.mod_eq_of_lt (by omega)]
  have h2 : (a.toUInt64 >>> UInt64.ofNat e).toInt64.toBitVec = a.toBitVec >>> e := by
    apply BitVec.eq_of_toNat_eq
    show (a.toUInt64 >>> UInt64.ofNat e).toNat = _
    rw [UInt64.toNat_shiftRight, h1, Nat.mod_eq_of_lt he, BitVec.toNat_ushiftRight]
    rfl
  rw [h2, BitVec.getLsbD_ushiftRight]
theorem zb_hi (a : Int64) {j : Nat} (h : 64 ≤ j) : zb a j = false := BitVec.getLsbD_of_ge _ _ h
theorem zb_one {X : Nat} (hX : X < 64) (j : Nat) : zb (1 <<< ((nI X).toInt64 &&& 63)) j = decide (j = X) := by
  rw [zb_shl 1 hX]
  have h1 : ∀ k, zb 1 k = decide (k = 0) := by
    intro k
    show (1#64).getLsbD k = _
    simp
  rw [h1]
  by_cases h : j = X
  · subst h
    simp [hX]
  · by_cases h2 : X ≤ j
    · have h3 : ¬ j - X = 0 := by omega
      simp [h, h3]
    · simp [h, h2]
theorem zcmp_eq (x y : Int64) : lg_cmp x y = 0 ↔ x = y := by
  unfold lg_cmp
  by_cases h : x > y
  · rw [if_pos h]
    constructor
    · intro h9
      exact absurd h9 (by decide)
    · intro h9
      subst h9
      exact (Int64.lt_irrefl h).elim
  · rw [if_neg h]
    by_cases e : x = y
    · simp [e]
    · simp [e]
theorem zb_test (w : Int64) {X : Nat} (hX : X < 64) : lg_cmp (zushr w (nI X) &&& 1) 0 = 0 ↔ zb w X = false := by
  rw [zcmp_eq]
  have e : ∀ a : Int64, (a &&& 1) = 0 ↔ zb a 0 = false := by
    intro a
    unfold zb
    rw [← Int64.toBitVec_inj, Int64.toBitVec_and]
    show a.toBitVec &&& 1#64 = 0#64 ↔ _
    constructor
    · intro h
      have t := congrArg (fun x => x.getLsbD 0) h
      simpa using t
    · intro h
      apply BitVec.eq_of_getLsbD_eq
      intro i hi
      rw [BitVec.getLsbD_and]
      by_cases h0 : i = 0
      · subst h0
        rw [h]
        simp
      · simp [h0]
  rw [e, zb_shr w hX]
  exact Iff.rfl
theorem pl_ix49 {g j : Nat} : nI g * 49 + nI j = nI (g * 49 + j) := by rw [show (49 : Int32) = nI 49 from rfl, pk_mul, nI_add]
theorem pl_ix49i {g Y : Nat} : nI g * 49 + iI ((Y : Int) - 24) + 24 = nI (g * 49 + Y) := by
  rw [show (49 : Int32) = nI 49 from rfl, pk_mul, show (24 : Int32) = iI 24 from rfl, ← iI_nat, iI_add, iI_add, ← iI_nat]
  congr 1
  omega
/-- the row s holds for glass g the set S -/
def zSe (L : zPL) (s g : Nat) (S : Nat → Prop) : Prop := ∀ Y, Y < 49 → ∀ j, (zb (L s (g * 49 + Y)) j = true ↔ j < 49 ∧ S (49 * Y + j))
theorem zSe_cong {L L' : zPL} {s g : Nat} {S : Nat → Prop} (h : zSe L s g S) (e : ∀ Y, Y < 49 → L' s (g * 49 + Y) = L s (g * 49 + Y)) : zSe L' s g S := fun Y hY j => by rw [e Y hY]; exact h Y hY j
theorem zSe_iff {L : zPL} {s g : Nat} {S T : Nat → Prop} (h : zSe L s g S) (e : ∀ p, p < 2401 → (S p ↔ T p)) : zSe L s g T := fun Y hY j => by
  rw [h Y hY j]
  exact and_congr_right (fun hj => e _ (by omega))
def zclr (L : zPL) (s g j : Nat) : zPL := fun a b => if a = s ∧ g * 49 + j ≤ b ∧ b < g * 49 + 49 then 0 else L a b
theorem pl_clear2 {s : Nat} {K : zPL → Option zPL} {g : Nat} (hg : g ≤ 8) : ∀ (m n j : Nat) (L : zPL), j + m = 49 → m < n → fX2_clear_2 s K n (nI g) (nI j) L = K (zclr L s g j) := by
  intro m
  induction m with
  | zero =>
    intro n j L hj hn
    obtain ⟨n, rfl, -⟩ := zsucc hn
    have : j = 49 := by omega
    subst this
    rw [fX2_clear_2, if_pos (show (49 : Int32) ≤ nI 49 by decide)]
    congr 1
    funext a b
    rw [zclr, if_neg (by omega)]
  | succ m ih =>
    intro n j L hj hn
    obtain ⟨n, rfl, hn⟩ := zsucc hn
    rw [fX2_clear_2, if_neg (show ¬ (49 : Int32) ≤ nI j from nI_ge (a := j) (b := 49) (by omega) (by omega)), pl_ix49, zif_t (zin_nI (by omega) (by omega)), nI_clamp (by omega), nI_1, ih n (j + 1) _ (by omega) (by omega)]
    congr 1
    funext a b
    simp only [zclr, zu]
    by_cases h1 : a = s
    · by_cases h2 : b = g * 49 + j
      · subst h2
        rw [if_neg (by omega), if_pos h1, if_pos rfl, if_pos (by omega)]
      · rw [if_pos h1, if_neg h2]
        by_cases h3 : g * 49 + j ≤ b ∧ b < g * 49 + 49
        · rw [if_pos (by omega), if_pos (by omega)]
        · rw [if_neg (by omega), if_neg (by omega)]
    · rw [if_neg (fun h => h1 h.1), if_neg h1, if_neg (fun h => h1 h.1)]
theorem pl_clear {s g : Nat} (hg : g ≤ 8) (L : zPL) : fX2_clear s L (nI g) = some (zclr L s g 0) := pl_clear2 (K := fun L => some L) hg 49 zF 0 L (by omega) (zF_lt (by omega))
theorem zclr_out {L : zPL} {s g a b : Nat} (h : ¬ (a = s ∧ g * 49 ≤ b ∧ b < g * 49 + 49)) : zclr L s g 0 a b = L a b := by rw [zclr, if_neg (by omega)]
theorem zclr_in {L : zPL} {s g Y : Nat} (h : Y < 49) : zclr L s g 0 s (g * 49 + Y) = 0 := by rw [zclr, if_pos (by omega)]
theorem zclr_se {L : zPL} {s g : Nat} : zSe (zclr L s g 0) s g (fun _ => False) := fun Y hY j => by
  rw [zclr_in hY, zb_0]
  simp
theorem pl_put {s g X Y : Nat} (hg : g ≤ 8) (hX : X < 49) (hY : Y < 49) (L : zPL) : ∃ L', fX2_putOnly s L (nI g) (iI ((X : Int) - 24)) (iI ((Y : Int) - 24)) = some L' ∧ (∀ a b, ¬ (a = s ∧ g * 49 ≤ b ∧ b < g * 49 + 49) → L' a b = L a b) ∧ zSe L' s g (fun p => p = 49 * Y + X) := by
  have e1 : iI ((X : Int) - 24) + 24 = nI X := by
    rw [show (24 : Int32) = iI 24 from rfl, iI_add, ← iI_nat]
    congr 1
    omega
  refine ⟨zu (zclr L s g 0) s (g * 49 + Y) (1 <<< ((nI X).toInt64 &&& 63)), ?_, fun a b h => ?_, fun Y' hY' j => ?_⟩
  · rw [fX2_putOnly, pl_clear hg]
    simp only [Option.bind_some]
    rw [pl_ix49i, zif_t (zin_nI (by omega) (by omega)), nI_clamp (by omega), e1]
  · have h9 : zu (zclr L s g 0) s (g * 49 + Y) (1 <<< ((nI X).toInt64 &&& 63)) a b = zclr L s g 0 a b := by
      by_cases h1 : a = s
      · exact zu_col (by omega)
      · exact zu_row h1
    rw [h9, zclr_out h]
  · by_cases h1 : Y' = Y
    · subst h1
      rw [zu_same, zb_one (by omega), decide_eq_true_eq]
      constructor
      · intro h; subst h; exact ⟨hX, rfl⟩
      · intro h; omega
    · rw [zu_col (by omega), zclr_in hY', zb_0]
      constructor
      · intro h; cases h
      · intro h; omega
theorem pl_has {s g : Nat} (hg : g ≤ 8) {L : zPL} {S : Nat → Prop} (hS : zSe L s g S) {x y : Int} (x1 : -1000 ≤ x) (x2 : x ≤ 1000) (y1 : -1000 ≤ y) (y2 : y ≤ 1000) : ∃ r, fX2_has s L (nI g) (iI x) (iI y) = some r ∧ (r ≠ 0 ↔ 0 ≤ x + 24 ∧ x + 24 < 49 ∧ 0 ≤ y + 24 ∧ y + 24 < 49 ∧ S (49 * (y + 24).toNat + (x + 24).toNat)) := by
  have e24 : (24 : Int32) = iI 24 := rfl
  have em24 : (-24 : Int32) = iI (-24) := rfl
  unfold fX2_has fX2_isPlace
  by_cases h : 0 ≤ x + 24 ∧ x + 24 < 49 ∧ 0 ≤ y + 24 ∧ y + 24 < 49
  · obtain ⟨X, hX⟩ : ∃ X : Nat, x = (X : Int) - 24 := ⟨(x + 24).toNat, by omega⟩
    obtain ⟨Y, hY⟩ : ∃ Y : Nat, y = (Y : Int) - 24 := ⟨(y + 24).toNat, by omega⟩
    have n1 : ¬ iI x < -24 := by rw [em24, iI_lt (by omega) (by omega) (by omega) (by omega)]; omega
    have n2 : ¬ 24 < iI x := by rw [e24, iI_lt (by omega) (by omega) (by omega) (by omega)]; omega
    have n3 : ¬ iI y < -24 := by rw [em24, iI_lt (by omega) (by omega) (by omega) (by omega)]; omega
    have n4 : ¬ 24 < iI y := by rw [e24, iI_lt (by omega) (by omega) (by omega) (by omega)]; omega
    rw [if_neg n1, if_neg n2, if_neg n3, if_neg n4, if_neg (by decide)]
    subst hX hY
    have e1 : iI ((X : Int) - 24) + 24 = nI X := by
      rw [e24, iI_add, ← iI_nat]
      congr 1
      omega
    rw [pl_ix49i, zif_t (zin_nI (by omega) (by omega)), nI_clamp (by omega), e1]
    have t := zb_test (L s (g * 49 + Y)) (X := X) (by omega)
    have hs := hS Y (by omega) X
    have q1 : ((Y : Int) - 24 + 24).toNat = Y := by omega
    have q2 : ((X : Int) - 24 + 24).toNat = X := by omega
    rw [q1, q2]
    by_cases hb : zb (L s (g * 49 + Y)) X = false
    · refine ⟨0, by rw [if_pos (t.mpr hb)], fun h => absurd rfl h, fun h9 => ?_⟩
      rw [hs.mpr ⟨by omega, h9.2.2.2.2⟩] at hb
      cases hb
    · have hb' : zb (L s (g * 49 + Y)) X = true := by simpa using hb
      exact ⟨1, by rw [if_neg (fun h9 => hb (t.mp h9))], fun _ => ⟨h.1, h.2.1, h.2.2.1, h.2.2.2, (hs.mp hb').2⟩, fun _ => by decide⟩
  · refine ⟨0, ?_, fun h => absurd rfl h, fun h9 => absurd ⟨h9.1, h9.2.1, h9.2.2.1, h9.2.2.2.1⟩ h⟩
    have key : (if iI x < -24 then (0 : Int32) else if 24 < iI x then 0 else if iI y < -24 then 0 else if 24 < iI y then 0 else 1) = 0 := by
      have c1 : iI x < -24 ↔ x < -24 := by rw [em24]; exact iI_lt (by omega) (by omega) (by omega) (by omega)
      have c2 : 24 < iI x ↔ 24 < x := by rw [e24]; exact iI_lt (by omega) (by omega) (by omega) (by omega)
      have c3 : iI y < -24 ↔ y < -24 := by rw [em24]; exact iI_lt (by omega) (by omega) (by omega) (by omega)
      have c4 : 24 < iI y ↔ 24 < y := by rw [e24]; exact iI_lt (by omega) (by omega) (by omega) (by omega)
      by_cases a1 : x < -24
      · rw [if_pos (c1.mpr a1)]
      · rw [if_neg (fun h => a1 (c1.mp h))]
        by_cases a2 : 24 < x
        · rw [if_pos (c2.mpr a2)]
        · rw [if_neg (fun h => a2 (c2.mp h))]
          by_cases a3 : y < -24
          · rw [if_pos (c3.mpr a3)]
          · rw [if_neg (fun h => a3 (c3.mp h)), if_pos (c4.mpr (by omega))]
    rw [if_pos key]
def zshf (e : Int32) (x : Int64) : Int64 := if 0 ≤ e then x <<< (e.toInt64 &&& 63) else zushr x (-e)
theorem pl_mv21 {s : Nat} {K : zPL → Option zPL} {f t last : Nat} {e : Int32} {n' : Int} (hf : f ≤ 8) (ht : t ≤ 8) (hft : f ≠ t) (hn1 : -12 ≤ n') (hn2 : n' ≤ 12) (hlast : last ≤ 49) (hl2 : (last : Int) + n' ≤ 49) : ∀ (m n row : Nat) (L : zPL), row + m = last → 0 ≤ (row : Int) + n' → m < n →
    ∃ L', fX2_move_21 s K n (nI f) (nI t) e (iI n') (nI last) (nI row) L = K L' ∧ (∀ a b, ¬ (a = s ∧ t * 49 ≤ b ∧ b < t * 49 + 49) → L' a b = L a b) ∧
      (∀ Y, Y < 49 → L' s (t * 49 + Y) = if (row : Int) ≤ (Y : Int) - n' ∧ (Y : Int) - n' < last then (L s (t * 49 + Y)) ||| (zshf e (L s (f * 49 + ((Y : Int) - n').toNat)) &&& 562949953421311) else L s (t * 49 + Y)) := by
  intro m
  induction m with
  | zero =>
    intro n row L hr h0 hn
    obtain ⟨n, rfl, -⟩ := zsucc hn
    exact ⟨L, by rw [fX2_move_21, if_pos (nI_le (a := last) (b := row) (by omega) (by omega))], fun a b _ => rfl, fun Y hY => by rw [if_neg (by omega)]⟩
  | succ m ih =>
    intro n row L hr h0 hn
    obtain ⟨n, rfl, hn⟩ := zsucc hn
    obtain ⟨r2, hr2⟩ : ∃ r2 : Nat, (row : Int) + n' = (r2 : Int) := ⟨((row : Int) + n').toNat, by omega⟩
    have hix : nI t * 49 + nI row + iI n' = nI (t * 49 + r2) := by
      rw [pl_ix49, ← iI_nat, iI_add, ← iI_nat]
      congr 1
      omega
    obtain ⟨L', e1, f1, f2⟩ := ih n (row + 1) (zu L s (t * 49 + r2) ((L s (t * 49 + r2)) ||| (zshf e (L s (f * 49 + row)) &&& 562949953421311))) (by omega) (by omega) (by omega)
    refine ⟨L', ?_, fun a b h => ?_, fun Y hY => ?_⟩
    · rw [fX2_move_21, if_neg (nI_ge (a := row) (b := last) (by omega) (by omega)), pl_ix49, zif_t (zin_nI (by omega) (by omega)), nI_clamp (by omega)]
      unfold fX2_move_55
      simp only [hix, nI_1]
      unfold zshf at e1
      by_cases he : 0 ≤ e
      · rw [if_pos he] at e1
        rw [if_pos he, zif_t (zin_nI (by omega) (by omega)), zif_t (zin_nI (by omega) (by omega)), nI_clamp (by omega)]
        exact e1
      · rw [if_neg he] at e1
        rw [if_neg he, zif_t (zin_nI (by omega) (by omega)), zif_t (zin_nI (by omega) (by omega)), nI_clamp (by omega)]
        exact e1
    · rw [f1 a b h]
      by_cases h7 : a = s
      · exact zu_col (by omega)
      · exact zu_row h7
    · rw [f2 Y hY]
      have hfr : zu L s (t * 49 + r2) ((L s (t * 49 + r2)) ||| (zshf e (L s (f * 49 + row)) &&& 562949953421311)) s (f * 49 + ((Y : Int) - n').toNat) = L s (f * 49 + ((Y : Int) - n').toNat) ∨ ¬ ((Y : Int) - n' < last ∧ 0 ≤ (Y : Int) - n') := by
        by_cases h9 : (Y : Int) - n' < last ∧ 0 ≤ (Y : Int) - n'
        · refine Or.inl (zu_col ?_)
          have : ((Y : Int) - n').toNat < 49 := by omega
          omega
        · exact Or.inr h9
      by_cases e : Y = r2
      · subst e
        rw [if_neg (by omega), if_pos (by omega), zu_same, show ((Y : Int) - n').toNat = row by omega]
      · rw [zu_col (by omega)]
        by_cases h9 : (row : Int) ≤ (Y : Int) - n' ∧ (Y : Int) - n' < last
        · rcases hfr with hfr | hfr
          · rw [if_pos (by omega), if_pos h9, hfr]
          · omega
        · rw [if_neg (by omega), if_neg h9]
/-- a set moved: what was in f, moved, comes into t -/
theorem pl_move {s f t : Nat} {e' n' : Int} (hf : f ≤ 8) (ht : t ≤ 8) (hft : f ≠ t) (he1 : -12 ≤ e') (he2 : e' ≤ 12) (hn1 : -12 ≤ n') (hn2 : n' ≤ 12) {L : zPL} {S T : Nat → Prop} (hS : zSe L s f S) (hT : zSe L s t T) :
    ∃ L', fX2_move s L (nI f) (nI t) (iI e') (iI n') = some L' ∧ (∀ a b, ¬ (a = s ∧ t * 49 ≤ b ∧ b < t * 49 + 49) → L' a b = L a b) ∧
      zSe L' s t (fun q => T q ∨ ∃ p : Nat, p < 2401 ∧ S p ∧ ((p % 49 : Nat) : Int) + e' = ((q % 49 : Nat) : Int) ∧ ((p / 49 : Nat) : Int) + n' = ((q / 49 : Nat) : Int)) := by
  obtain ⟨last, hl⟩ : ∃ last : Nat, (last : Int) = min 49 (49 - n') := ⟨(min 49 (49 - n')).toNat, by omega⟩
  have hl49 : (last : Int) ≤ 49 := by omega
  obtain ⟨row, hr⟩ : ∃ row : Nat, (row : Int) = max 0 (-n') := ⟨(max 0 (-n')).toNat, by omega⟩
  have e1 : zmmin 49 (49 - iI n') = nI last := by
    rw [show (49 : Int32) = iI 49 from rfl, iI_sub, zmmin, ← iI_nat]
    have c1 : iI (49 - n') < iI 49 ↔ 49 - n' < 49 := iI_lt (by omega) (by omega) (by omega) (by omega)
    by_cases h : 49 - n' < 49
    · rw [if_pos (c1.mpr h)]; congr 1; omega
    · rw [if_neg (fun h9 => h (c1.mp h9))]; congr 1; omega
  have e2 : zmmax 0 (-iI n') = nI row := by
    rw [iI_neg, zmmax, show (0 : Int32) = iI 0 from rfl, ← iI_nat]
    have c1 : iI 0 < iI (-n') ↔ 0 < -n' := iI_lt (by omega) (by omega) (by omega) (by omega)
    by_cases h : 0 < -n'
    · rw [if_pos (c1.mpr h)]; congr 1; omega
    · rw [if_neg (fun h9 => h (c1.mp h9))]; congr 1; omega
  obtain ⟨L', g1, g2, g3⟩ := pl_mv21 (s := s) (K := fun L => some L) (e := iI e') hf ht hft hn1 hn2 (last := last) (by omega) (by omega) (last - row) zF row L (by omega) (by omega) (zF_lt (by omega))
  refine ⟨L', by rw [fX2_move, e1, e2]; exact g1, g2, fun Y hY j => ?_⟩
  rw [g3 Y hY]
  have hTj := hT Y hY j
  have rhs : ∀ hj : j < 49, (∃ p : Nat, p < 2401 ∧ S p ∧ ((p % 49 : Nat) : Int) + e' = (((49 * Y + j) % 49 : Nat) : Int) ∧ ((p / 49 : Nat) : Int) + n' = (((49 * Y + j) / 49 : Nat) : Int)) ↔ (0 ≤ (Y : Int) - n' ∧ (Y : Int) - n' < 49 ∧ 0 ≤ (j : Int) - e' ∧ (j : Int) - e' < 49 ∧ S (49 * ((Y : Int) - n').toNat + ((j : Int) - e').toNat)) := by
    intro hj
    have q1 : (49 * Y + j) % 49 = j := by omega
    have q2 : (49 * Y + j) / 49 = Y := by omega
    rw [q1, q2]
    constructor
    · rintro ⟨p, h1, h2, h3, h4⟩
      refine ⟨by omega, by omega, by omega, by omega, ?_⟩
      rw [show 49 * ((Y : Int) - n').toNat + ((j : Int) - e').toNat = p by omega]
      exact h2
    · rintro ⟨h1, h2, h3, h4, h5⟩
      refine ⟨49 * ((Y : Int) - n').toNat + ((j : Int) - e').toNat, by omega, h5, by omega, by omega⟩
  by_cases hc : (row : Int) ≤ (Y : Int) - n' ∧ (Y : Int) - n' < last
  · rw [if_pos hc, zb_or, zb_mask, Bool.or_eq_true, Bool.and_eq_true, decide_eq_true_eq, hTj]
    have hSj : j < 49 → (zb (zshf (iI e') (L s (f * 49 + ((Y : Int) - n').toNat))) j = true ↔ 0 ≤ (j : Int) - e' ∧ (j : Int) - e' < 49 ∧ S (49 * ((Y : Int) - n').toNat + ((j : Int) - e').toNat)) := by
      intro hj
      unfold zshf
      by_cases h0 : 0 ≤ e'
      · obtain ⟨k, rfl⟩ : ∃ k : Nat, e' = (k : Int) := ⟨e'.toNat, by omega⟩
        rw [iI_nat, if_pos (nI_pos' (by omega)), zb_shl _ (by omega), Bool.and_eq_true, Bool.and_eq_true, decide_eq_true_eq, decide_eq_true_eq, hS _ (by omega)]
        constructor
        · rintro ⟨a1, a2, a3, a4⟩
          refine ⟨by omega, by omega, ?_⟩
          rw [show ((j : Int) - (k : Int)).toNat = j - k by omega]
          exact a4
        · rintro ⟨a1, a2, a3⟩
          rw [show ((j : Int) - (k : Int)).toNat = j - k by omega] at a3
          exact ⟨by omega, by omega, by omega, a3⟩
      · obtain ⟨k, rfl⟩ : ∃ k : Nat, e' = -(k : Int) := ⟨(-e').toNat, by omega⟩
        have hneg : ¬ (0 : Int32) ≤ iI (-(k : Int)) := by
          rw [show (0 : Int32) = iI 0 from rfl, iI_le (by omega) (by omega) (by omega) (by omega)]
          omega
        rw [if_neg hneg, iI_neg, show - -(k : Int) = (k : Int) by omega, iI_nat, zb_shr _ (by omega), hS _ (by omega)]
        constructor
        · rintro ⟨a1, a2⟩
          refine ⟨by omega, by omega, ?_⟩
          rw [show ((j : Int) - -(k : Int)).toNat = k + j by omega]
          exact a2
        · rintro ⟨a1, a2, a3⟩
          rw [show ((j : Int) - -(k : Int)).toNat = k + j by omega] at a3
          exact ⟨by omega, a3⟩
    constructor
    · rintro (⟨a1, a2⟩ | ⟨a1, a2⟩)
      · exact ⟨a1, Or.inl a2⟩
      · have h9 := (hSj a2).mp a1
        have w1 : 0 ≤ (Y : Int) - n' := by omega
        have w2 : (Y : Int) - n' < 49 := Int.lt_of_lt_of_le hc.2 hl49
        exact ⟨a2, Or.inr ((rhs a2).mpr ⟨w1, w2, h9.1, h9.2.1, h9.2.2⟩)⟩
    · rintro ⟨a1, a2 | a2⟩
      · exact Or.inl ⟨a1, a2⟩
      · have h9 := (rhs a1).mp a2
        exact Or.inr ⟨(hSj a1).mpr ⟨h9.2.2.1, h9.2.2.2.1, h9.2.2.2.2⟩, a1⟩
  · rw [if_neg hc, hTj]
    constructor
    · rintro ⟨a1, a2⟩
      exact ⟨a1, Or.inl a2⟩
    · rintro ⟨a1, a2 | a2⟩
      · exact ⟨a1, a2⟩
      · have h9 := (rhs a1).mp a2
        omega
