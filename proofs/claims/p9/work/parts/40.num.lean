/-! THE PURE PART: numbers -/
theorem zlt_i (x y : Int32) : x < y ↔ x.toInt < y.toInt := Int32.lt_iff_toInt_lt
theorem zle_i (x y : Int32) : x ≤ y ↔ x.toInt ≤ y.toInt := Int32.le_iff_toInt_le
theorem zeq_i (x y : Int32) : x = y ↔ x.toInt = y.toInt := Int32.toInt_inj.symm
theorem zclamp {x : Int32} (h : ¬ x < 0) : (x.toNatClampNeg : Int) = x.toInt := by
  obtain ⟨j, hj, rfl⟩ := nI_of h
  rw [nI_clamp hj, nI_toInt hj]
theorem zin_of {x : Int32} {n : Nat} (h0 : ¬ x < 0) (h1 : x.toInt < n) : zin x n = true := by
  have h2 := zclamp h0
  simp only [zin, Bool.and_eq_true, Bool.not_eq_true', decide_eq_false_iff_not, decide_eq_true_eq]
  exact ⟨h0, by omega⟩
theorem zin_nI {k n : Nat} (h : k < n) (hk : k < 2147483648) : zin (nI k) n = true := zin_of (nI_pos (by omega)) (by rw [nI_toInt (by omega)]; omega)
theorem zin_x {x : Int32} {k n : Nat} (e : x = nI k) (h : k < n) (hk : k < 2147483648) : zin x n = true := by rw [e]; exact zin_nI h hk
theorem zcl_x {x : Int32} {k : Nat} (e : x = nI k) (hk : k < 2147483648) : x.toNatClampNeg = k := by rw [e]; exact nI_clamp (by omega)
theorem zif_t {α : Type} {c : Bool} {A B : α} (h : c = true) : (if c = true then A else B) = A := if_pos h
def iI (z : Int) : Int32 := Int32.ofInt z
theorem iI_toInt {z : Int} (h1 : -2147483648 ≤ z) (h2 : z < 2147483648) : (iI z).toInt = z := Int32.toInt_ofInt_of_le (by omega) (by omega)
theorem iI_of (x : Int32) : iI x.toInt = x := Int32.ofInt_toInt x
theorem iI_eq {x : Int32} {z : Int} (h : x.toInt = z) : x = iI z := by rw [← h, iI_of]
theorem iI_add (a b : Int) : iI a + iI b = iI (a + b) := (Int32.ofInt_add a b).symm
theorem iI_sub (a b : Int) : iI a - iI b = iI (a - b) := (Int32.ofInt_sub a b).symm
theorem iI_mul (a b : Int) : iI a * iI b = iI (a * b) := (Int32.ofInt_mul a b).symm
theorem iI_neg (a : Int) : -iI a = iI (-a) := (Int32.ofInt_neg a).symm
theorem iI_nat (n : Nat) : iI (n : Int) = nI n := Int32.ofInt_eq_ofNat
theorem iI_lt {a b : Int} (a1 : -2147483648 ≤ a) (a2 : a < 2147483648) (b1 : -2147483648 ≤ b) (b2 : b < 2147483648) : iI a < iI b ↔ a < b := by rw [zlt_i, iI_toInt a1 a2, iI_toInt b1 b2]
theorem iI_le {a b : Int} (a1 : -2147483648 ≤ a) (a2 : a < 2147483648) (b1 : -2147483648 ≤ b) (b2 : b < 2147483648) : iI a ≤ iI b ↔ a ≤ b := by rw [zle_i, iI_toInt a1 a2, iI_toInt b1 b2]
theorem zi_n0 : (0 : Int32).toInt = 0 := by decide
theorem zadd_i {x y : Int32} (h1 : -2147483648 ≤ x.toInt + y.toInt) (h2 : x.toInt + y.toInt < 2147483648) : (x + y).toInt = x.toInt + y.toInt := Jvm.Kit.i32_add (by omega) (by omega)
theorem zsub_i {x y : Int32} (h1 : -2147483648 ≤ x.toInt - y.toInt) (h2 : x.toInt - y.toInt < 2147483648) : (x - y).toInt = x.toInt - y.toInt := Jvm.Kit.i32_sub (by omega) (by omega)
theorem zmul_i {x y : Int32} (h1 : -2147483648 ≤ x.toInt * y.toInt) (h2 : x.toInt * y.toInt < 2147483648) : (x * y).toInt = x.toInt * y.toInt := Jvm.Kit.i32_mul (by omega) (by omega)
theorem zneg_i {x : Int32} (h : -2147483648 < x.toInt) : (-x).toInt = -x.toInt := Jvm.Kit.i32_neg (by omega)
/-- a number of 0 .. n-1, told as such -/
theorem zsmall {x : Int32} {n : Nat} (h0 : 0 ≤ x.toInt) (h1 : x.toInt < n) : ∃ k : Nat, k < n ∧ x = nI k := by
  obtain ⟨k, hk, rfl⟩ := nI_of (x := x) (by rw [zlt_i, zi_n0]; omega)
  rw [nI_toInt hk] at h1
  exact ⟨k, by omega, rfl⟩
theorem zF_lt {m : Nat} (h : m < 100000) : m < zF := h
theorem vnar0 : vp_nar .boolean 0 = 0 := by decide
theorem vnar1 : vp_nar .boolean 1 = 1 := by decide
/-- a fuelled loop that counts up: what one turn does, what the end is -/
theorem zsucc {n m : Nat} (h : m < n) : ∃ k, n = k + 1 ∧ m ≤ k := ⟨n - 1, by omega, by omega⟩
