theorem zwinX1 : Cond.instantiable RX1 8 ∈ zT := zw294
theorem zwinX2 : Cond.instantiable RX2 6 ∈ zT := zw221
theorem zwinX3 : Cond.instantiable RX3 4 ∈ zT := zw202
theorem zwinX4 : Cond.instantiable RX4 8 ∈ zT := zw103
theorem zwinX5 : Cond.instantiable RX5 9 ∈ zT := zw249
theorem zwinX6 : Cond.instantiable RX6 6 ∈ zT := zw172
theorem zwinX7 : Cond.instantiable RX7 7 ∈ zT := zw142
theorem zwinX8 : Cond.instantiable RX8 18 ∈ zT := zw95
theorem zwinX9 : Cond.instantiable RX9 53 ∈ zT := zw926
theorem zwaI : Cond.arrayClass .int ∈ zT := zw140
theorem zwaC : Cond.arrayClass .char ∈ zT := zw200
theorem zwaZ : Cond.arrayClass .boolean ∈ zT := zw1110
theorem zwaJ : Cond.arrayClass .long ∈ zT := zw247
def R_law : String := "TallShipLaw"
def lw_P (b : Addr) (xs : List Int32) (args : Array Value) (s : State) : Prop := args = #[.ref b] ∧ s.IntsAt b xs ∧ xs.length ≤ 3585 ∧ (Jvm.Cond.and given_1 narrow_1).before args s = true
def lw_Q (_ : Array Value) (s : State) (o : Outcome) (t : State) : Prop := o = .returned (some (.int 1)) ∧ Framed s o t [] 601024 7293000
def lw_Z (below : List Frame) (a : Array Value) (s : State) : State → Prop := fun t => ∃ o, t.status = .running ∧ Ended t below o ∧ lw_Q a s o t
/-- the law's own end, with 1 on the stack, nothing written that was there before, its room as the claim has it -/
theorem lw_ret {p : Program} {l : Launch} {e : Env} {s : State} {m : MethodId} {below : List Frame} {meth : Method} {c : Code} {b : Nat} (hx : p.tables.exec = Jvm.exec) (hb : c.code = code) (hr : meth.sig.returnType = ret) (hlocks : meth.locks = false) {pc : Nat} {H : Heap} {ls : Array Slot} (hdg : decode code pc = .ok (.ireturn, 1)) : W p l e room_1 s m #[Value.ref b] below meth c H [] 601024 7293000 (lw_Z below #[Value.ref b] s) (F0 m pc ls [.int 1]) := by
  intro T hT X
  obtain ⟨fs, hret, hrun, hended, hW, hframe⟩ := X.leave (v := some (.int 1)) (hlocks := hlocks) (fun h => by rw [hr] at h; cases h)
  have hmeth' : T.vm.method? m = some meth := X.method'
  refine ⟨T.setFrames fs, ?_, .returned (some (.int 1)), hrun, hended, rfl, ⟨_, rfl⟩, hW, hframe⟩
  jvm_step X.here [X.here.top, hx, hb, hdg, hmeth', hr, ret, narrow_b1]
  (try refine ⟨rfl, ?_⟩); (try refine ⟨rfl, ?_⟩)
  first | (intro acts; rw [hret _ acts rfl rfl rfl]) | rw [hret _ _ rfl rfl rfl]
  exact Steps.refl _
/-- what holds at the law's entry: the machine, the code, the tables' words (any of lw_tbl by 'hts w (by decide +kernel)'), the script of L ints xs at the cell b, what the Statement gives of the start (any of its parts by flat_of_before) -/
def lw_At (p : Program) (s : State) (m : MethodId) (meth : Method) (c : Code) (b L : Nat) (xs : Nat → Int32) : Prop :=
  p.tables.exec = Jvm.exec ∧ c.code = code ∧ meth.sig.returnType = ret ∧ c.maxLocals = 7 ∧ s.vm.findClass R_law = some m.cls ∧ (∀ w ∈ lw_tbl, w.before #[Value.ref b] s = true) ∧ va_X b L xs s s.heap ∧ b < s.heap.size ∧ meth.locks = false ∧ (Jvm.Cond.and given_1 narrow_1).before #[Value.ref b] s = true
set_option maxHeartbeats 4000000 in
/-- from the entry to the end, for every script, over any relation that the calls keep -/
theorem whole_from {Rel : zRelT} (hst : zSteps Rel) (hin0 : zInit Rel) {p : Program} {e : Env} {s : State} {m : MethodId} {below : List Frame} {meth : Method} {c : Code} (l : Launch) (hl0 : l.stackTraces = false) {b L : Nat} {xs : Nat → Int32} (hL : L ≤ 3585) (C0 : lw_At p s m meth c b L xs) : W p l e room_1 s m #[Value.ref b] below meth c s.heap [] 0 0 (lw_Z below #[Value.ref b] s) (entryFrame m ([Value.ref b] : List Value).toArray 7) := by
  obtain ⟨hx, hb, hr, hml, hown, hts, hX, hbl, hlocks, hgv⟩ := id C0
  have hs : ∀ c ∈ zfl1, c.before #[Value.ref b] s = true := flat_of_before _ hgv
  have hA : ∀ q : Nat, s.heap.size ≤ q → zAs s q := fun _ h => h
  have hts2 : ∀ w ∈ zT, w.before #[Value.ref b] s = true := fun w hw => hts w (zT_good w hw).1
  obtain ⟨c0, iS0, hKn0⟩ := u_known (C := RX1) (T := TX1) (N := 8) (n := 8) hts2 inzX1 (hts2 _ zwinX1)
  obtain ⟨c1, iS1, hKn1⟩ := u_known (C := RX2) (T := TX2) (N := 6) (n := 6) hts2 inzX2 (hts2 _ zwinX2)
  obtain ⟨c2, iS2, hKn2⟩ := u_known (C := RX3) (T := TX3) (N := 4) (n := 4) hts2 inzX3 (hts2 _ zwinX3)
  obtain ⟨c3, iS3, hKn3⟩ := u_known (C := RX4) (T := TX4) (N := 8) (n := 8) hts2 inzX4 (hts2 _ zwinX4)
  obtain ⟨c4, iS4, hKn4⟩ := u_known (C := RX5) (T := TX5) (N := 9) (n := 9) hts2 inzX5 (hts2 _ zwinX5)
  obtain ⟨c5, iS5, hKn5⟩ := u_known (C := RX6) (T := TX6) (N := 6) (n := 6) hts2 inzX6 (hts2 _ zwinX6)
  obtain ⟨c6, iS6, hKn6⟩ := u_known (C := RX7) (T := TX7) (N := 7) (n := 7) hts2 inzX7 (hts2 _ zwinX7)
  obtain ⟨c7, iS7, hKn7⟩ := u_known (C := RX8) (T := TX8) (N := 18) (n := 18) hts2 inzX8 (hts2 _ zwinX8)
  obtain ⟨c8, iS8, hKn8⟩ := u_known (C := RX9) (T := TX9) (N := 53) (n := 53) hts2 inzX9 (hts2 _ zwinX9)
  obtain ⟨dC, dI, hKc⟩ : ∃ (dC : Nat → ClassId) (dI : Nat → Nat → Nat), ∀ (k : Nat) (q : vw_C), vwCl[k]? = some q → u_Kn s q.1 q.2.1 q.2.2 (dC k) (dI k) := by
    refine ⟨fun k => match k with | 0 => c0 | 1 => c1 | 2 => c2 | 3 => c3 | 4 => c4 | 5 => c5 | 6 => c6 | 7 => c7 | _ => c8, fun k => match k with | 0 => iS0 | 1 => iS1 | 2 => iS2 | 3 => iS3 | 4 => iS4 | 5 => iS5 | 6 => iS6 | 7 => iS7 | _ => iS8, ?_⟩
    intro k q hq
    match k, hq with
    | 0, hq => cases hq; exact hKn0
    | 1, hq => cases hq; exact hKn1
    | 2, hq => cases hq; exact hKn2
    | 3, hq => cases hq; exact hKn3
    | 4, hq => cases hq; exact hKn4
    | 5, hq => cases hq; exact hKn5
    | 6, hq => cases hq; exact hKn6
    | 7, hq => cases hq; exact hKn7
    | 8, hq => cases hq; exact hKn8
    | k + 9, hq => simp [vwCl] at hq
  have hAr : ∀ ty : FieldType, Cond.arrayClass ty ∈ zT → (∀ (U : State) (cA : ClassId), va_RA U cA ty ↔ U.vm.findClass ("[" ++ ty.toString) = some cA) → ∃ cA : ClassId, ArrOfT s cA ty ∧ va_RA s cA ty := by
    intro ty hw hra
    obtain ⟨cA, kA, comp, h1, h2, h3⟩ := Cond.arrayClass_spec (hts2 _ hw)
    exact ⟨cA, fun n z => ⟨fun k h => (by cases h), kA, h2, comp, h3⟩, (hra _ _).mpr h1⟩
  obtain ⟨aI, hI⟩ := hAr .int zwaI (fun _ _ => Iff.rfl)
  obtain ⟨aC, hC⟩ := hAr .char zwaC (fun _ _ => Iff.rfl)
  obtain ⟨aZ, hZ⟩ := hAr .boolean zwaZ (fun _ _ => Iff.rfl)
  obtain ⟨aJ, hJ⟩ := hAr .long zwaJ (fun _ _ => Iff.rfl)
  obtain ⟨dA, e1, e2, e3, e4⟩ : ∃ dA : FieldType → ClassId, dA .int = aI ∧ dA .char = aC ∧ dA .boolean = aZ ∧ dA .long = aJ := ⟨fun ty => match ty with | .int => aI | .char => aC | .boolean => aZ | _ => aJ, rfl, rfl, rfl, rfl⟩
  have hK : va_K (dC, dI) vwCl (zcs dA) s := by
    refine ⟨hKc, fun k q hq => ?_⟩
    simp only [zcs, e1, e2, e3, e4] at hq
    match k, hq with
    | 0, hq => cases hq; exact hI
    | 1, hq => cases hq; exact hC
    | 2, hq => cases hq; exact hZ
    | 3, hq => cases hq; exact hJ
    | k + 4, hq => simp at hq
  have hXT : va_T .int b L (fun j => .int (xs j)) (zAs s) s s.heap := by
    obtain ⟨scr, g1, g2, g3, g4, g5⟩ := hX
    exact ⟨scr, g1, g2, g3, Nat.le_of_eq g4.symm, by rw [g4], g5, zAs_no b hbl⟩
  obtain ⟨ad, had, hzK⟩ := zouter (X := (L, xs)) hts hs hXT hK
  have hzH := zouterH hts hs
  obtain ⟨σf, hσ, k⟩ := law_start hst hin0 (X := (L, xs)) hL
  have hl := lv_entry ([.ref b]) (n := 7) (Nat.le_of_ble_eq_true rfl)
  rw [lg_entry_eq]
  generalize (lg_sl ([.ref b]) ++ List.replicate (7 - (lg_sl ([.ref b])).length) Slot.unset).toArray = ls at hl ⊢
  have hl : zLs ls 7 ad [(0, zr 1000)] := by
    have h9 : lv_has ls 7 [(0, .ref b)] := hl
    rw [← had] at h9
    exact h9
  refine k p l e room_1 s m #[Value.ref b] below meth c s.heap [] 0 0 _ (dC, dI) dA (zAs s) ad ls ⟨hx, hb, hml, hown, hts2, fun h => absurd h (by decide), hA, hzK, Nat.le_of_ble_eq_true rfl, Nat.le_of_ble_eq_true rfl, hl0, hzH⟩ hl (fun k q h => by simp [zws] at h) ⟨fun i j p q h => by simp [zws] at h, fun k q h => by simp [zws] at h⟩ va_S.rf (fun o k x h => by cases h) (fun q hq => ?_) zwfs_nil ?_ ?_ ?_
  · simp only [List.mem_cons, List.not_mem_nil, or_false] at hq
    subst hq
    exact fun x hx => by cases hx; exact Or.inr (Nat.le_refl _)
  · rw [hσ]
    show 0 + 77 + (512 + 0) ≤ 601024 + 0
    decide
  · rw [hσ]
    show 0 + zsl zS0 + 6 * (512 + 0) ≤ 7293000 + 0
    decide
  · intro pc ls H locs cells slots ad' hx2 hls hn had2 hP' hD' hS' wR' hc hs2
    refine va_forget (fun q hq => hS'.2.2 q hq) ?_
    refine W.widen (k := 601024) (n := 7293000) hc hs2 ?_
    exact lw_ret hx hb hr hlocks hx2.1
