/-! THE PICTURE: objects by numbers (in the order in which they are made), three planes: ints, longs, references. -/
abbrev zV : Type := Int32 ⊕ (Int64 ⊕ Option Nat)
abbrev zi (x : Int32) : zV := Sum.inl x
abbrev zl (x : Int64) : zV := Sum.inr (Sum.inl x)
abbrev zq (r : Option Nat) : zV := Sum.inr (Sum.inr r)
abbrev zr (o : Nat) : zV := Sum.inr (Sum.inr (some o))
def zc (ad : Nat → Nat) (v : zV) : Value := match v with
  | .inl x => .int x
  | .inr (.inl x) => .long x
  | .inr (.inr r) => va_rf (r.map ad)
def zcat (v : zV) : Nat := match v with
  | .inr (.inl _) => 2
  | _ => 1
theorem zc_cat (ad : Nat → Nat) (v : zV) : (zc ad v).category = zcat v := by
  rcases v with x | x | r
  · rfl
  · rfl
  · cases r <;> rfl
/-- a shape: an object of a class of vwCl, or an array of a type and a length -/
abbrev zS : Type := Nat ⊕ (FieldType × Nat)
abbrev zW : Type := List zS × (Nat → Nat → Int32) × (Nat → Nat → Int64) × (Nat → Nat → Option Nat)
def zu {α : Type} (f : Nat → Nat → α) (o k : Nat) (x : α) : Nat → Nat → α := fun a b => if a = o then (if b = k then x else f a b) else f a b
theorem zu_same {α : Type} {f : Nat → Nat → α} {o k : Nat} {x : α} : zu f o k x o k = x := by simp [zu]
theorem zu_row {α : Type} {f : Nat → Nat → α} {o k a b : Nat} {x : α} (h : a ≠ o) : zu f o k x a b = f a b := by simp [zu, h]
theorem zu_col {α : Type} {f : Nat → Nat → α} {o k a b : Nat} {x : α} (h : b ≠ k) : zu f o k x a b = f a b := by simp [zu, h]
theorem zu_rowf {α : Type} {f : Nat → Nat → α} {o k a : Nat} {x : α} (h : a ≠ o) : zu f o k x a = f a := by funext b; exact zu_row h
def zn (ci : Nat) : Nat := match vwCl[ci]? with
  | some q => q.2.2
  | none => 0
def zty (ci : Nat) : Nat → FieldType := match ci with
  | 0 => tyX1
  | 1 => tyX2
  | 2 => tyX3
  | 3 => tyX4
  | 4 => tyX5
  | 5 => tyX6
  | 6 => tyX7
  | 7 => tyX8
  | _ => tyX9
def zkind (ty : FieldType) : Nat := match ty with
  | .long => 1
  | .object _ => 2
  | .array _ => 2
  | _ => 0
def zfv (ad : Nat → Nat) (σ : zW) (o ci k : Nat) : Value := match zkind (zty ci k) with
  | 0 => .int (σ.2.1 o k)
  | 1 => .long (σ.2.2.1 o k)
  | _ => va_rf ((σ.2.2.2 o k).map ad)
def zfs (ad : Nat → Nat) (σ : zW) (o ci : Nat) : List Value := (List.range (zn ci)).map (zfv ad σ o ci)
def zar (ty : FieldType) (n : Nat) (σ : zW) (o : Nat) : vp_A := match zkind ty with
  | 1 => (n, .inr (.inl (σ.2.2.1 o)))
  | _ => (n, .inl (σ.2.1 o))
def zce (dA : FieldType → ClassId) (ad : Nat → Nat) (σ : zW) (o : Nat) : va_E := match σ.1[o]? with
  | some (.inl ci) => .inr (ci, zfs ad σ o ci)
  | some (.inr (ty, n)) => .inl (dA ty, zar ty n σ o)
  | none => .inr (0, [])
def zws (dA : FieldType → ClassId) (ad : Nat → Nat) (σ : zW) : va_W := (List.range σ.1.length).map (fun o => (ad o, zce dA ad σ o))
theorem zlt {α : Type} {S : List α} {o : Nat} {x : α} (h : S[o]? = some x) : o < S.length := (List.getElem?_eq_some_iff.mp h).1
theorem zws_at {dA : FieldType → ClassId} {ad : Nat → Nat} {σ : zW} {o : Nat} (h : o < σ.1.length) : (zws dA ad σ)[o]? = some (ad o, zce dA ad σ o) := by
  simp [zws, List.getElem?_map, List.getElem?_range h]
theorem zws_len {dA : FieldType → ClassId} {ad : Nat → Nat} {σ : zW} : (zws dA ad σ).length = σ.1.length := by simp [zws]
theorem zws_obj {dA : FieldType → ClassId} {ad : Nat → Nat} {σ : zW} {o ci : Nat} (h : σ.1[o]? = some (.inl ci)) : (zws dA ad σ)[o]? = some (ad o, .inr (ci, zfs ad σ o ci)) := by
  rw [zws_at (zlt h)]
  simp [zce, h]
theorem zws_arr {dA : FieldType → ClassId} {ad : Nat → Nat} {σ : zW} {o n : Nat} {ty : FieldType} (h : σ.1[o]? = some (.inr (ty, n))) : (zws dA ad σ)[o]? = some (ad o, .inl (dA ty, zar ty n σ o)) := by
  rw [zws_at (zlt h)]
  simp [zce, h]
theorem zws_set {dA : FieldType → ClassId} {ad : Nat → Nat} {σ σ1 : zW} {o : Nat} (hS : σ1.1 = σ.1) (ho : o < σ.1.length) (hne : ∀ a, a ≠ o → zce dA ad σ1 a = zce dA ad σ a) :
    (zws dA ad σ).set o (ad o, zce dA ad σ1 o) = zws dA ad σ1 := by
  apply List.ext_getElem?
  intro i
  by_cases hi : i < σ.1.length
  · rw [zws_at (σ := σ1) (by rw [hS]; exact hi)]
    by_cases e : o = i
    · subst e
      rw [List.getElem?_set_self (by rw [zws_len]; exact ho)]
    · rw [List.getElem?_set_ne e, zws_at hi, hne i (Ne.symm e)]
  · rw [List.getElem?_eq_none (by rw [List.length_set, zws_len]; omega), List.getElem?_eq_none (by rw [zws_len, hS]; omega)]
theorem zfs_get {ad : Nat → Nat} {σ : zW} {o ci k : Nat} (hk : k < zn ci) : (zfs ad σ o ci)[k]? = some (zfv ad σ o ci k) := by
  simp [zfs, List.getElem?_map, List.getElem?_range hk]
theorem zfs_set {ad : Nat → Nat} {σ σ1 : zW} {o ci k : Nat} {v : Value} (hk : k < zn ci) (h1 : zfv ad σ1 o ci k = v) (hne : ∀ j, j ≠ k → zfv ad σ1 o ci j = zfv ad σ o ci j) : (zfs ad σ o ci).set k v = zfs ad σ1 o ci := by
  apply List.ext_getElem?
  intro i
  by_cases hi : i < zn ci
  · rw [zfs_get (σ := σ1) hi]
    by_cases e : k = i
    · subst e
      rw [List.getElem?_set_self (by simpa [zfs] using hk), h1]
    · rw [List.getElem?_set_ne e, zfs_get hi, hne i (Ne.symm e)]
  · rw [List.getElem?_eq_none (by simp [zfs]; omega), List.getElem?_eq_none (by simp [zfs]; omega)]
/-- a cell is told by its shape and its rows of the planes -/
theorem zce_eq {dA : FieldType → ClassId} {ad : Nat → Nat} {σ σ1 : zW} {a : Nat} (hS : σ1.1 = σ.1) (h1 : σ1.2.1 a = σ.2.1 a) (h2 : σ1.2.2.1 a = σ.2.2.1 a) (h3 : σ1.2.2.2 a = σ.2.2.2 a) : zce dA ad σ1 a = zce dA ad σ a := by
  unfold zce
  rw [hS]
  cases σ.1[a]? with
  | none => rfl
  | some sh =>
    cases sh with
    | inl ci =>
      have e : zfv ad σ1 a ci = zfv ad σ a ci := by funext k; simp [zfv, h1, h2, h3]
      simp only [zfs, e]
    | inr q => simp [zar, h1, h2]
theorem zset_i {dA : FieldType → ClassId} {ad : Nat → Nat} {σ : zW} {o ci k : Nat} {x : Int32} (h : σ.1[o]? = some (.inl ci)) (hk : k < zn ci) (ht : zkind (zty ci k) = 0) :
    (zws dA ad σ).set o (ad o, .inr (ci, (zfs ad σ o ci).set k (.int x))) = zws dA ad (σ.1, zu σ.2.1 o k x, σ.2.2.1, σ.2.2.2) := by
  rw [← zws_set (σ := σ) (σ1 := (σ.1, zu σ.2.1 o k x, σ.2.2.1, σ.2.2.2)) (o := o) rfl (zlt h) (fun a ha => zce_eq rfl (zu_rowf ha) rfl rfl)]
  congr 2
  simp only [zce, h]
  rw [zfs_set (σ1 := (σ.1, zu σ.2.1 o k x, σ.2.2.1, σ.2.2.2)) hk (by simp [zfv, ht, zu_same]) (fun j hj => by simp [zfv, zu_col hj])]
theorem zset_q {dA : FieldType → ClassId} {ad : Nat → Nat} {σ : zW} {o ci k : Nat} {r : Option Nat} (h : σ.1[o]? = some (.inl ci)) (hk : k < zn ci) (ht : zkind (zty ci k) = 2) :
    (zws dA ad σ).set o (ad o, .inr (ci, (zfs ad σ o ci).set k (va_rf (r.map ad)))) = zws dA ad (σ.1, σ.2.1, σ.2.2.1, zu σ.2.2.2 o k r) := by
  rw [← zws_set (σ := σ) (σ1 := (σ.1, σ.2.1, σ.2.2.1, zu σ.2.2.2 o k r)) (o := o) rfl (zlt h) (fun a ha => zce_eq rfl rfl rfl (zu_rowf ha))]
  congr 2
  simp only [zce, h]
  rw [zfs_set (σ1 := (σ.1, σ.2.1, σ.2.2.1, zu σ.2.2.2 o k r)) hk (by simp [zfv, ht, zu_same]) (fun j hj => by simp [zfv, zu_col hj])]
theorem zu_upd {f : Nat → Nat → Int32} {o k : Nat} {x : Int32} : zu f o k x o = upd (f o) k x := by
  funext b
  simp [zu, upd]
theorem zu_updL {f : Nat → Nat → Int64} {o k : Nat} {x : Int64} : zu f o k x o = vp_updL (f o) k x := by
  funext b
  simp [zu, vp_updL]
theorem zseta_i {dA : FieldType → ClassId} {ad : Nat → Nat} {σ : zW} {o n k : Nat} {ty : FieldType} {x : Int32} (h : σ.1[o]? = some (.inr (ty, n))) (ht : zkind ty = 0) :
    (zws dA ad σ).set o (ad o, .inl (dA ty, n, .inl (upd (σ.2.1 o) k x))) = zws dA ad (σ.1, zu σ.2.1 o k x, σ.2.2.1, σ.2.2.2) := by
  rw [← zws_set (σ := σ) (σ1 := (σ.1, zu σ.2.1 o k x, σ.2.2.1, σ.2.2.2)) (o := o) rfl (zlt h) (fun a ha => zce_eq rfl (zu_rowf ha) rfl rfl)]
  simp [zce, h, zar, ht, zu_upd]
theorem zseta_l {dA : FieldType → ClassId} {ad : Nat → Nat} {σ : zW} {o n k : Nat} {x : Int64} (h : σ.1[o]? = some (.inr (.long, n))) :
    (zws dA ad σ).set o (ad o, .inl (dA .long, n, .inr (.inl (vp_updL (σ.2.2.1 o) k x)))) = zws dA ad (σ.1, σ.2.1, zu σ.2.2.1 o k x, σ.2.2.2) := by
  rw [← zws_set (σ := σ) (σ1 := (σ.1, σ.2.1, zu σ.2.2.1 o k x, σ.2.2.2)) (o := o) rfl (zlt h) (fun a ha => zce_eq rfl rfl (zu_rowf ha) rfl)]
  simp [zce, h, zar, zkind, zu_updL]
/-! numbers of references that may be met: an object that is there, or one of those from outside (1000 and on) -/
def zok (n x : Nat) : Prop := x < n ∨ 1000 ≤ x
def zwfv (n : Nat) (v : zV) : Prop := ∀ x, v = zr x → zok n x
def zwfs (n : Nat) (st : List zV) : Prop := ∀ v ∈ st, zwfv n v
def zwfl (n : Nat) (lv : List (Nat × zV)) : Prop := ∀ q ∈ lv, zwfv n q.2
def zwfR (n : Nat) (R : Nat → Nat → Option Nat) : Prop := ∀ o k x, R o k = some x → zok n x
theorem zwfv_i {n : Nat} {x : Int32} : zwfv n (zi x) := fun _ h => by cases h
theorem zwfv_l {n : Nat} {x : Int64} : zwfv n (zl x) := fun _ h => by cases h
theorem zwfs_nil {n : Nat} : zwfs n [] := fun _ h => by cases h
theorem zwfl_nil {n : Nat} : zwfl n [] := fun _ h => by cases h
theorem zwfs_cons {n : Nat} {v : zV} {st : List zV} (h1 : zwfv n v) (h2 : zwfs n st) : zwfs n (v :: st) := fun w h => by
  rcases List.mem_cons.mp h with e | h
  · rw [e]; exact h1
  · exact h2 w h
theorem zwfs_head {n : Nat} {v : zV} {st : List zV} (h : zwfs n (v :: st)) : zwfv n v := h v List.mem_cons_self
theorem zwfs_tail {n : Nat} {v : zV} {st : List zV} (h : zwfs n (v :: st)) : zwfs n st := fun w hw => h w (List.mem_cons_of_mem _ hw)
theorem zwfs_i {n : Nat} {x : Int32} {st : List zV} (h : zwfs n st) : zwfs n (zi x :: st) := zwfs_cons zwfv_i h
theorem zwfs_l {n : Nat} {x : Int64} {st : List zV} (h : zwfs n st) : zwfs n (zl x :: st) := zwfs_cons zwfv_l h
/-- what an object's cells come to, in slots -/
def zsl : List zS → Nat
  | [] => 0
  | .inl ci :: S => zn ci + zsl S
  | .inr (_, n) :: S => n + zsl S
theorem zsl_app (S T : List zS) : zsl (S ++ T) = zsl S + zsl T := by
  induction S with
  | nil => simp [zsl]
  | cons a S ih => rcases a with ci | ⟨ty, n⟩ <;> simp [zsl, ih] <;> omega
