/-! THE TWO JUDGEMENTS: zAM (a method's contract), zAW (the machine within a method), over the picture. -/
/-- a method: its name, code, number of locals, what it returns -/
abbrev zM : Type := MethodName × ByteArray × Nat × Option FieldType
/-- static arrays that nobody writes -/
def zst : List (String × String × List Int32) := [
  (RX0, "PULL", [0, 0, 0, 0, 0, 2, 4, 6, 8, 8, 8, 8, 8, 7, 6, 6, 6]),
  (RX0, "NORTH", [16, 16, 15, 13, 11, 9, 6, 3, 0, -3, -6, -9, -11, -13, -15, -16, -16, -16, -15, -13, -11, -9, -6, -3, 0, 3, 6, 9, 11, 13, 15, 16]),
  (RX4, "AREA", [6, 5, 3])]
/-- the words that the reader spells: their places in its pool, their texts, their bytes -/
def zsr : List (Nat × String × List Int32) := [
  (66, "else", [101, 108, 115, 101]),
  (96, "set", [115, 101, 116]),
  (98, "furl", [102, 117, 114, 108]),
  (100, "brace", [98, 114, 97, 99, 101]),
  (102, "rope", [114, 111, 112, 101]),
  (104, "steer", [115, 116, 101, 101, 114]),
  (106, "call", [99, 97, 108, 108]),
  (108, "wait", [119, 97, 105, 116]),
  (110, "if", [105, 102]),
  (112, "while", [119, 104, 105, 108, 101]),
  (148, "force", [102, 111, 114, 99, 101]),
  (150, "from", [102, 114, 111, 109]),
  (152, "aback", [97, 98, 97, 99, 107]),
  (154, "speed", [115, 112, 101, 101, 100]),
  (156, "course", [99, 111, 117, 114, 115, 101]),
  (158, "hour", [104, 111, 117, 114]),
  (160, "load", [108, 111, 97, 100])]
/-- private constructors that the ship calls -/
def znst : List (Nat × MethodName) := [(18, yX7_init), (25, yX6_init), (41, yX2_init), (52, yX5_init)]
abbrev zcs (dA : FieldType → ClassId) : List (ClassId × FieldType) := [(dA .int, .int), (dA .char, .char), (dA .boolean, .boolean), (dA .long, .long)]
/-- what is known of the tables, and of what lies outside the picture: 1000 the script, 1001 and on the static arrays, 1020 and on the words, 1050 and on their bytes -/
def zK (X : Nat × (Nat → Int32)) (D : va_G) (dA : FieldType → ClassId) (A : Nat → Prop) (ad : Nat → Nat) (U : State) (H : Heap) : Prop :=
  va_K D vwCl (zcs dA) U ∧
  (∀ (i : Nat) (q : String × String × List Int32), zst[i]? = some q → va_Z q.1 q.2.1 "[I" (.ref (ad (1001 + i))) A U H ∧ va_T .int (ad (1001 + i)) q.2.2.length (fun j => .int (q.2.2.getD j 0)) A U H) ∧
  va_T .int (ad 1000) X.1 (fun j => .int (X.2 j)) A U H ∧
  va_Z "java/lang/String" "COMPACT_STRINGS" "Z" (.int 1) A U H ∧
  (∀ (i : Nat) (q : Nat × String × List Int32), zsr[i]? = some q → va_O "java/lang/String" (ad (1020 + i)) A U H ∧ va_OF "java/lang/String" "coder" "B" (.int 0) (ad (1020 + i)) A U H ∧ va_OF "java/lang/String" "value" "[B" (.ref (ad (1050 + i))) (ad (1020 + i)) A U H ∧
    va_T .byte (ad (1050 + i)) q.2.2.length (fun j => .int (q.2.2.getD j 0)) A U H ∧ vk_R RX3 q.1 q.2.1 (ad (1020 + i)) U) ∧
  (∀ q ∈ znst, va_Nw (.methodLinkNest RX8 q.1 q.2 RX8) U) ∧
  (∃ r : Option Nat, (∀ x, r = some x → x = 1090) ∧ va_Z "jdk/internal/util/Preconditions" "SIOOBE_FORMATTER" "Ljava/util/function/BiFunction;" (va_rf (r.map ad)) A U H)
theorem zK.cast {X : Nat × (Nat → Int32)} {D : va_G} {dA : FieldType → ClassId} {A : Nat → Prop} {ad ad' : Nat → Nat} {U : State} {H : Heap} (h : zK X D dA A ad U H) (he : ∀ x, 1000 ≤ x → ad' x = ad x) : zK X D dA A ad' U H := by
  obtain ⟨h1, h2, h3, h4, h5, h6, r, h7, h8⟩ := h
  refine ⟨h1, fun i q hq => ?_, ?_, h4, fun i q hq => ?_, h6, r, h7, ?_⟩
  · rw [he _ (by omega)]; exact h2 i q hq
  · rw [he _ (by omega)]; exact h3
  · rw [he _ (by omega), he (1050 + i) (by omega)]; exact h5 i q hq
  · cases r with
    | none => exact h8
    | some x =>
      have e9 : ad' x = ad x := he x (by rw [h7 x rfl]; omega)
      simp only [Option.map_some, e9]
      exact h8
theorem zK.warm {X : Nat × (Nat → Int32)} {D : va_G} {dA : FieldType → ClassId} {A : Nat → Prop} {ad : Nat → Nat} {u U : State} {H : Heap} (hW : u.WarmedH U.vm) (h : zK X D dA A ad u H) : zK X D dA A ad U H := by
  obtain ⟨h1, h2, h3, h4, h5, h6, r, h7, h8⟩ := h
  have hvm := hW.alike
  refine ⟨va_K.moved hvm h1, fun i q hq => ⟨va_Z.moved hvm (h2 i q hq).1, va_T.moved hvm (h2 i q hq).2⟩, va_T.moved hvm h3, va_Z.moved hvm h4, fun i q hq => ?_, fun q hq => va_Nw.warmM hW (h6 q hq), r, h7, va_Z.moved hvm h8⟩
  obtain ⟨a1, a2, a3, a4, a5⟩ := h5 i q hq
  exact ⟨va_O.moved hvm a1, va_OF.moved hvm a2, va_OF.moved hvm a3, va_T.moved hvm a4, vk_R.warm hW a5⟩
theorem zK.same {X : Nat × (Nat → Int32)} {D : va_G} {dA : FieldType → ClassId} {A : Nat → Prop} {ad : Nat → Nat} {u U : State} {H : Heap} (hv : U.vm = u.vm) (h : zK X D dA A ad u H) : zK X D dA A ad U H := by
  obtain ⟨h1, h2, h3, h4, h5, h6, r, h7, h8⟩ := h
  have hvm : u.vm.Alike U.vm := by rw [hv]; exact Vm.Alike.refl _
  refine ⟨va_K.moved hvm h1, fun i q hq => ⟨va_Z.moved hvm (h2 i q hq).1, va_T.moved hvm (h2 i q hq).2⟩, va_T.moved hvm h3, va_Z.moved hvm h4, fun i q hq => ?_, fun q hq => va_Nw.same rfl hv.symm (h6 q hq), r, h7, va_Z.moved hvm h8⟩
  obtain ⟨a1, a2, a3, a4, a5⟩ := h5 i q hq
  exact ⟨va_O.moved hvm a1, va_OF.moved hvm a2, va_OF.moved hvm a3, va_T.moved hvm a4, vk_R.same hv a5⟩
theorem zK.kept {X : Nat × (Nat → Int32)} {D : va_G} {dA : FieldType → ClassId} {A : Nat → Prop} {ad : Nat → Nat} {U : State} {H H1 : Heap} (h : zK X D dA A ad U H) (hq : ∀ a : Nat, a < H.size → ¬ A a → H1[a]? = H[a]?) : zK X D dA A ad U H1 := by
  obtain ⟨h1, h2, h3, h4, h5, h6, r, h7, h8⟩ := h
  refine ⟨h1, fun i q hi => ⟨(h2 i q hi).1.kept hq, (h2 i q hi).2.kept hq⟩, h3.kept hq, h4.kept hq, fun i q hi => ?_, h6, r, h7, h8.kept hq⟩
  obtain ⟨a1, a2, a3, a4, a5⟩ := h5 i q hi
  exact ⟨a1.kept hq, a2.kept hq, a3.kept hq, a4.kept hq, a5⟩
theorem zK.narrow {X : Nat × (Nat → Int32)} {D : va_G} {dA : FieldType → ClassId} {A B : Nat → Prop} {ad : Nat → Nat} {U : State} {H : Heap} (h : zK X D dA A ad U H) (hAB : ∀ q, B q → A q) : zK X D dA B ad U H := by
  obtain ⟨h1, h2, h3, h4, h5, h6, r, h7, h8⟩ := h
  refine ⟨h1, fun i q hi => ⟨(h2 i q hi).1.narrow hAB, (h2 i q hi).2.narrow hAB⟩, h3.narrow hAB, h4.narrow hAB, fun i q hi => ?_, h6, r, h7, h8.narrow hAB⟩
  obtain ⟨a1, a2, a3, a4, a5⟩ := h5 i q hi
  exact ⟨a1.narrow hAB, a2.narrow hAB, a3.narrow hAB, a4.narrow hAB, a5⟩
/-- an answer fits what the method says that it returns -/
def znar (Mt : zM) (rv : Option zV) : Prop := ∀ x ty, rv = some (zi x) → Mt.2.2.2 = some ty → narrow ty (.int x) = .int x
/-- what holds of a method that is being carried out, whatever it does -/
def zCx (E : Nat × Nat × ((Nat → Prop) → Launch → State → Prop)) (X : Nat × (Nat → Int32)) (Mt : zM) (d : Nat) (p : Program) (l : Launch) (R : Room) (s : State) (m : MethodId) (args : Array Value) (meth : Method) (c : Code) (D : va_G) (dA : FieldType → ClassId) (A : Nat → Prop) (ad : Nat → Nat) : Prop :=
  p.tables.exec = Jvm.exec ∧ c.code = Mt.2.1 ∧ c.maxLocals = Mt.2.2.1 ∧ s.vm.findClass Mt.1.cls = some m.cls ∧ (∀ w ∈ zT, w.before args s = true) ∧ (Mt.1.name = "<init>" → meth.name = "<init>") ∧ (∀ q, s.heap.size ≤ q → A q) ∧ zK X D dA A ad s s.heap ∧ d ≤ R.frames ∧ 60 * d ≤ R.locals ∧ E.2.2 A l s
/-- the locals hold what is listed -/
abbrev zLs (ls : Array Slot) (n : Nat) (ad : Nat → Nat) (lv : List (Nat × zV)) : Prop := lv_has ls n (lv.map fun q => (q.1, zc ad q.2))
/-- where the ship throws: new; dup; ldc; invokespecial; athrow -/
def zThrowAt (cc : ByteArray) (pc : Nat) : Prop := decode cc pc = .ok (.new 118, 3) ∧ decode cc (pc + 3) = .ok (.dup, 1) ∧ (decode cc (pc + 4) = .ok (.ldc 120, 2) ∨ decode cc (pc + 4) = .ok (.ldc 136, 2)) ∧ decode cc (pc + 6) = .ok (.invokespecial 122, 3) ∧ decode cc (pc + 9) = .ok (.athrow, 1)
/-- the end of a method: at a return -/
def zEnd (E : Nat × Nat × ((Nat → Prop) → Launch → State → Prop)) (X : Nat × (Nat → Int32)) (Mt : zM) (p : Program) (l : Launch) (e : Env) (R : Room) (s : State) (m : MethodId) (args : Array Value) (below : List Frame) (meth : Method) (c : Code) (Q : State → Prop) (D : va_G) (dA : FieldType → ClassId) (A : Nat → Prop) (ad : Nat → Nat) (n : Nat) (rv : Option zV) (σ' : zW) : Prop :=
  ∀ (pc : Nat) (ls : Array Slot) (H : Heap) (locs : List Loc) (cells slots : Nat) (ad' : Nat → Nat),
    (match rv with
      | none => (decode Mt.2.1 pc = .ok (.return_, 1) ∧ Mt.2.2.2 = none) ∨ (Mt.2.2.2 ≠ none ∧ zThrowAt Mt.2.1 pc)
      | some (.inl _) => decode Mt.2.1 pc = .ok (.ireturn, 1) ∧ Mt.2.2.2 ≠ none
      | _ => False) → ls.size = Mt.2.2.1 → znar Mt rv →
    (∀ x, zok n x → ad' x = ad x) → va_P D vwCl (zws dA ad' σ') H → va_D A (zws dA ad' σ') → va_S A s.heap H locs → zwfR σ'.1.length σ'.2.2.2 → cells + E.2.1 ≤ R.cells → slots + 6 * E.2.1 ≤ R.slots →
    W p l e R s m args below meth c H locs cells slots Q (F0 m pc ls (rv.toList.map (zc ad')))
/-- the machine at pc of a method, locals lv, operands st, picture σ: it comes to the method's end with the answer rv and the picture σ' -/
def zAW (E : Nat × Nat × ((Nat → Prop) → Launch → State → Prop)) (X : Nat × (Nat → Int32)) (Mt : zM) (d pc : Nat) (lv : List (Nat × zV)) (st : List zV) (σ : zW) (rv : Option zV) (σ' : zW) : Prop :=
  ∀ (p : Program) (l : Launch) (e : Env) (R : Room) (s : State) (m : MethodId) (args : Array Value) (below : List Frame) (meth : Method) (c : Code) (H : Heap) (locs : List Loc) (cells slots : Nat) (Q : State → Prop) (D : va_G) (dA : FieldType → ClassId) (A : Nat → Prop) (ad : Nat → Nat) (ls : Array Slot),
    zCx E X Mt d p l R s m args meth c D dA A ad → zLs ls Mt.2.2.1 ad lv → va_P D vwCl (zws dA ad σ) H → va_D A (zws dA ad σ) → va_S A s.heap H locs →
    zwfR σ.1.length σ.2.2.2 → zwfl σ.1.length lv → zwfs σ.1.length st → cells + σ'.1.length + (E.1 + E.2.1) ≤ R.cells + σ.1.length → slots + zsl σ'.1 + 6 * (E.1 + E.2.1) ≤ R.slots + zsl σ.1 →
    zEnd E X Mt p l e R s m args below meth c Q D dA A ad σ.1.length rv σ' →
    W p l e R s m args below meth c H locs cells slots Q (F0 m pc ls (st.map (zc ad)))
/-- what a method leaves -/
def zQc (Mt : zM) (D : va_G) (dA : FieldType → ClassId) (ad : Nat → Nat) (A : Nat → Prop) (n : Nat) (rv : Option zV) (σ' : zW) : Array Value → State → Outcome → State → Prop := match rv with
  | none => va_Qv (fun ad' : Nat → Nat => (∀ x, zok n x → ad' x = ad x) ∧ zwfR σ'.1.length σ'.2.2.2 ∧ znar Mt rv) (fun ad' t => va_P D vwCl (zws dA ad' σ') t.heap ∧ va_D A (zws dA ad' σ')) A
  | some v => va_Qi (fun (r : Int32) (ad' : Nat → Nat) => v = zi r ∧ (∀ x, zok n x → ad' x = ad x) ∧ zwfR σ'.1.length σ'.2.2.2 ∧ znar Mt rv) (fun ad' t => va_P D vwCl (zws dA ad' σ') t.heap ∧ va_D A (zws dA ad' σ')) A
def zPre (X : Nat × (Nat → Int32)) (D : va_G) (dA : FieldType → ClassId) (ad : Nat → Nat) (sz : Nat) (σ : zW) (U : State) : Prop :=
  U.heap.size = sz ∧ va_P D vwCl (zws dA ad σ) U.heap ∧ zK X D dA (va_A (zws dA ad σ) sz) ad U U.heap ∧ va_D (fun _ => True) (zws dA ad σ)
/-- a method's contract: called with as in the picture σ it answers rv and leaves σ'; d frames deep at most -/
def zAM (X : Nat × (Nat → Int32)) (Mt : zM) (d : Nat) (as : List zV) (σ : zW) (rv : Option zV) (σ' : zW) : Prop :=
  σ.1.length ≤ σ'.1.length ∧ zsl σ.1 ≤ zsl σ'.1 ∧ (∃ Ty, Mt.2.2.2 = Ty ∧ (Ty = none ↔ rv = none)) ∧
  (zwfR σ.1.length σ.2.2.2 → zwfs σ.1.length as → ∀ (l : Launch) (D : va_G) (dA : FieldType → ClassId) (ad : Nat → Nat) (sz : Nat),
    Met l Mt.1 (Cond.code Mt.1 Mt.2.1 Mt.2.2.1 Mt.2.2.2 :: zT) ({ frames := d, cells := σ'.1.length - σ.1.length, slots := zsl σ'.1 - zsl σ.1, locals := 60 * d })
      (va_Pc (as.map (zc ad)) (zPre X D dA ad sz σ)) (zQc Mt D dA ad (va_A (zws dA ad σ) sz) σ.1.length rv σ') (σ'.1.length - σ.1.length) (zsl σ'.1 - zsl σ.1) (va_A (zws dA ad σ) sz))
