section zThr
variable {p : Program} {l : Launch} {e : Env} {R : Room} {s : State} {m : MethodId} {args : Array Value} {below : List Frame} {meth : Method} {c : Code} {H : Heap} {locs : List Loc} {cells slots : Nat} {ls : Array Slot} {rest : List Value}
variable {free : Addr → Prop} {Qc : Array Value → State → Outcome → State → Prop} {XC : String → State → State → Prop}
set_option maxHeartbeats 4000000 in
/-- the ship's throw, from its 'new' on -/
theorem zthrow {cc : ByteArray} {pc : Nat} (hexec : p.tables.exec = Jvm.exec) (hb : c.code = cc) (hl : l.stackTraces = false) {text : String} {ik is ic mc ms sa : Nat} {A : Nat → Prop}
    (hown : s.vm.findClass RX8 = some m.cls)
    (hk : (Cond.classLink RX8 ik zNSE).before args s = true) (hini : (Cond.initialized zNSE).before args s = true) (hstr : vk_R RX8 is text sa s) (hat : ∀ w ∈ (zOwn ic).filter vx_no, w.before args s = true)
    (hgood : ∀ w ∈ Cond.classLink RX8 ik zNSE :: Cond.initialized zNSE :: (zOwn ic).filter vx_no, vx_ot w = true)
    (hU : vx_Zq Bundle.tN "UNASSIGNED_STACK" Bundle.steD A s s.heap) (hN : vx_Zq Bundle.tN "SUPPRESSED_SENTINEL" Bundle.listD A s s.heap) (hS : va_S A s.heap H locs) (hsize : ls.size = c.maxLocals)
    (d0 : decode cc pc = .ok (.new ik, 3)) (d3 : decode cc (pc + 3) = .ok (.dup, 1)) (d4 : decode cc (pc + 4) = .ok (.ldc is, 2)) (d6 : decode cc (pc + 6) = .ok (.invokespecial ic, 3)) (d9 : decode cc (pc + 9) = .ok (.athrow, 1))
    (hout : ∀ x ∈ c.exceptionTable.toList, covers x (pc + 9) = false)
    (hRframes : 5 < R.frames) (hRlocals : (rest.map fun v => v.category).sum + 82 ≤ R.locals) (hRcells : cells + 1 ≤ R.cells) (hRslots : slots + 6 ≤ R.slots) (hlocks : meth.locks = false)
    (hx : ∀ t : State, s.vm.Alike t.vm → H.size ≤ t.heap.size → (∀ q : Nat, q < H.size → t.heap[q]? = H[q]?) → XC zNSE s t)
    (hf : ∀ z ∈ locs, free z.base) (hc : cells + 1 ≤ mc) (hs : slots + 6 ≤ ms) :
    W p l e R s m args below meth c H locs cells slots (vx_MQ below Qc XC args s mc ms free) (F0 m pc ls rest) := by
  intro T hT X
  have htr : e.platform.stackTraces = false := (show e.platform.stackTraces = l.stackTraces by rw [X.admits.platform]).trans hl
  have Y := vx_rebase X (R' := { frames := R.frames, locals := R.locals, cells := 1, slots := 6 }) (Nat.le_refl _) (Nat.le_refl _) hRcells hRslots
  obtain ⟨s', hA⟩ : ∃ z, z = (T.setVm s.vm).setFrames (.invoking m args :: below) := ⟨_, rfl⟩
  rw [← hA] at Y
  have hvm : s'.vm = s.vm := by rw [hA]; rfl
  have hhp : s'.heap = H := by rw [hA]; exact hT
  have hW0 : s.WarmedH s'.vm := by rw [hvm]; exact State.WarmedH.refl s
  have hat' : ∀ w ∈ (zOwn ic).filter vx_no, w.before args s' = true := fun w hw => vx_ot_at hW0 hvm.symm (hgood w (List.mem_cons_of_mem _ (List.mem_cons_of_mem _ hw))) (hat w hw)
  have hk' : (Cond.classLink RX8 ik zNSE).before args s' = true := vx_ot_at hW0 hvm.symm (hgood _ List.mem_cons_self) hk
  have hini' : (Cond.initialized zNSE).before args s' = true := vx_ot_at hW0 hvm.symm (hgood _ (List.mem_cons_of_mem _ List.mem_cons_self)) hini
  have hU' : vx_Zq Bundle.tN "UNASSIGNED_STACK" Bundle.steD A s' s'.heap := by rw [hhp]; exact vx_Zq.moved hW0.alike (hU.kept hS.2.1)
  have hN' : vx_Zq Bundle.tN "SUPPRESSED_SENTINEL" Bundle.listD A s' s'.heap := by rw [hhp]; exact vx_Zq.moved hW0.alike (hN.kept hS.2.1)
  have h : ∀ w ∈ zOwn ic, w.before args s' = true := vx_own hat' (vx_isRefq hU'.1) (vx_isRefq hN'.1) hU'.2.word hN'.2.word
  have hown' : s'.vm.findClass RX8 = some m.cls := by rw [hvm]; exact hown
  have hins : (Cond.instantiable zNSE 6).before args s' = true := h _ (by simp [zOwn])
  obtain ⟨vm₁, cX, kX, hfX, hkX, -, -, X₁, st1⟩ := Y.newCold hexec (own := RX8) (C := zNSE) (index := ik) (n := 6) hown' hk' hins hini'
    (g := F0 m pc ls rest) rfl (by rw [hb]; exact d0) (Nat.le_refl _) (Nat.le_refl _)
  generalize hT1 : (T.setVm vm₁).pushCell { cls := cX, slots := kX.instanceTypes.map defaultValue, vm := .none } = T1 at X₁ st1
  have hcat : (Value.ref T.heap.size).category = 1 := rfl
  have hcellA : T1.heap[T.heap.size]? = some (freshCell cX kX) := by rw [← hT1]; exact State.heap_pushCell_size _ _
  have d3' : decode c.code (pc + 3) = .ok (.dup, 1) := by rw [hb]; exact d3
  have d4' : decode c.code (pc + 4) = .ok (.ldc is, 2) := by rw [hb]; exact d4
  have hstr' : vk_R RX8 is text sa s' := vk_R.warm hW0 hstr
  obtain ⟨U, hsteps, hrun, hend, hW, hsame, ce, hce, hvn, hO⟩ := zctor X₁ hexec htr (ic := ic) hown' h rfl hfX hkX hcellA (by rw [hhp, hT]; exact Nat.le_refl _) (msg := .ref sa) rfl
    (g := { method := m, pc := pc + 6, locals := ls, stack := .ref sa :: .ref T.heap.size :: .ref T.heap.size :: rest, locked := none }) rfl hsize rfl rfl (rest := rest) rfl
    (by rw [hb]; exact d6) (by rw [hb]; exact d9) hout hRframes (by simp only [List.map_cons, List.sum_cons, hcat]; omega) hlocks
  obtain ⟨f1, f2⟩ := vx_frame hsame
  rw [hhp] at f1 f2
  have hWs : s.WarmedH U.vm := State.WarmedH.trans hW0 hW
  have hcl : s.vm.findClass zNSE = some ce.cls := by
    have h9 := hO
    rw [hvm] at h9
    exact h9
  have hall : s.sameButNew ({ U with vm := s.vm } : State) locs mc ms := by
    subst hA
    obtain ⟨e1, e2⟩ := hsame
    rw [State.setFrames_setFrames] at e1
    have h2 : (T.setVm s.vm).sameButNew ({ U with vm := s.vm } : State) [] (0 + 1) (0 + 6) := ⟨e1, e2⟩
    have h3 := X.same.trans h2
    rw [List.append_nil] at h3
    exact h3.mono hc hs
  refine ⟨U, ?_, .threw T.heap.size, hrun, hend, Or.inr ⟨T.heap.size, rfl, zNSE, ce, locs, hx U hWs.alike f1 (fun q hq => f2 q hq (fun z hz => nomatch hz)), hce, hvn, hcl, hWs, hall, hf⟩⟩
  refine st1 _ ?_
  show Steps p.tables e below (T1.setTop { method := m, pc := pc + 3, locals := ls, stack := .ref T.heap.size :: rest, locked := none }) _
  jvm_step X₁.here [X₁.here.top, hexec, d3', Value.category]
  exact X₁.ldcString hexec (own := RX8) (text := text) (index := is) (a := sa) hown' hstr'.1 hstr'.2
    (g := { method := m, pc := pc + 4, locals := ls, stack := .ref T.heap.size :: .ref T.heap.size :: rest, locked := none }) rfl d4' _ hsteps
end zThr
def zXn : List Cond := [.castable zNSE zNSE, .declares (Bundle.initS zRE), .declares (Bundle.initS "java/lang/Exception"), .declares (Bundle.initS Bundle.tN)]
theorem zX_good : ∀ w ∈ (zOwn 122).filter vx_no, goodWord w = true ∨ w ∈ zXn := by decide +kernel
theorem zX_in : ∀ w ∈ (zOwn 122).filter vx_no, goodWord w = true → w ∈ lw_tbl := by decide +kernel
theorem zX_ot : ∀ w ∈ Cond.classLink RX8 118 zNSE :: Cond.initialized zNSE :: (zOwn 122).filter vx_no, vx_ot w = true := by decide +kernel
theorem zXn_warm {s U : State} (hW : s.WarmedH U.vm) (h : ∀ w ∈ zXn, va_Nw w s) : ∀ w ∈ zXn, va_Nw w U := by
  intro w hw
  have h9 := h w hw
  simp only [zXn, List.mem_cons, List.not_mem_nil, or_false] at hw
  rcases hw with rfl | rfl | rfl | rfl
  · exact va_Nw.warmC hW h9
  · exact va_Nw.warmD hW h9
  · exact va_Nw.warmD hW h9
  · exact va_Nw.warmD hW h9
theorem zXn_same {s U : State} (hv : s.vm = U.vm) (h : ∀ w ∈ zXn, va_Nw w s) : ∀ w ∈ zXn, va_Nw w U := by
  intro w hw
  have h9 := h w hw
  simp only [zXn, List.mem_cons, List.not_mem_nil, or_false] at hw
  rcases hw with rfl | rfl | rfl | rfl <;> exact va_Nw.same rfl hv h9
/-- what a throw of the ship's wants of the start -/
def zH (A : Nat → Prop) (U : State) (H : Heap) : Prop := vx_Zq Bundle.tN "UNASSIGNED_STACK" Bundle.steD A U H ∧ vx_Zq Bundle.tN "SUPPRESSED_SENTINEL" Bundle.listD A U H ∧ (∃ a1, vk_R RX8 120 "no such hand" a1 U) ∧ (∃ a2, vk_R RX8 136 "nothing such is known of a hand" a2 U) ∧ ∀ w ∈ zXn, va_Nw w U
theorem zH.warm {A : Nat → Prop} {s U : State} {H : Heap} (hW : s.WarmedH U.vm) (h : zH A s H) : zH A U H := by
  obtain ⟨h1, h2, ⟨a1, h3⟩, ⟨a2, h4⟩, h5⟩ := h
  exact ⟨vx_Zq.moved hW.alike h1, vx_Zq.moved hW.alike h2, ⟨a1, vk_R.warm hW h3⟩, ⟨a2, vk_R.warm hW h4⟩, zXn_warm hW h5⟩
theorem zH.same {A : Nat → Prop} {s U : State} {H : Heap} (hv : U.vm = s.vm) (h : zH A s H) : zH A U H := by
  obtain ⟨h1, h2, ⟨a1, h3⟩, ⟨a2, h4⟩, h5⟩ := h
  have hvm : s.vm.Alike U.vm := by rw [hv]; exact Vm.Alike.refl _
  exact ⟨vx_Zq.moved hvm h1, vx_Zq.moved hvm h2, ⟨a1, vk_R.same hv h3⟩, ⟨a2, vk_R.same hv h4⟩, zXn_same hv.symm h5⟩
theorem zH.kept {A : Nat → Prop} {U : State} {H H1 : Heap} (h : zH A U H) (hq : ∀ a : Nat, a < H.size → ¬ A a → H1[a]? = H[a]?) : zH A U H1 := ⟨h.1.kept hq, h.2.1.kept hq, h.2.2⟩
theorem zH.narrow {A B : Nat → Prop} {U : State} {H : Heap} (h : zH A U H) (hAB : ∀ q, B q → A q) : zH B U H := ⟨h.1.narrow hAB, h.2.1.narrow hAB, h.2.2⟩
theorem zws_cong {dA : FieldType → ClassId} {ad ad' : Nat → Nat} {S : List zS} {I : zPI} {L : zPL} {F : zPF} (h : ∀ x, zok S.length x → ad' x = ad x) (wR : zwfR S.length F) : zws dA ad' (S, I, L, F) = zws dA ad (S, I, L, F) := by
  apply List.map_congr_left
  intro o ho
  have ho := List.mem_range.mp ho
  rw [h o (Or.inl ho)]
  congr 1
  simp only [zce]
  cases S[o]? with
  | none => rfl
  | some z =>
    cases z with
    | inl ci =>
      have e : zfv ad' (S, I, L, F) o ci = zfv ad (S, I, L, F) o ci := by funext k; exact zfv_cong h wR o ci k
      simp only [zfs, e]
    | inr z => rfl
set_option maxHeartbeats 4000000 in
/-- TallShip.hand: it answers, or throws -/
theorem handMet {X : Nat × (Nat → Int32)} {I : zPI} {L : zPL} {F : zPF} {a b : Nat} {c0 : Option Nat} (hR : zRin F a b c0) (p1 p2 : Int32) (r : Option Int32) (h : fX8_hand I p1 p2 = some r) (wR : zwfR zS0.length F) (l : Launch) (hl0 : l.stackTraces = false) (D : va_G) (dA : FieldType → ClassId) (ad : Nat → Nat) (sz : Nat) :
    vx_Met l yX8_hand (Cond.code yX8_hand cX8_hand 3 (some .int) :: zT) { frames := 8, cells := 1, slots := 6, locals := 480 }
      (va_Pc ([zr 0, zi p1, zi p2].map (zc ad)) (fun U => zPre X D dA ad sz (zS0, I, L, F) U ∧ zH (va_A (zws dA ad (zS0, I, L, F)) sz) U U.heap))
      (va_Qi (fun (v : Int32) (_ : Unit) => r = some v) (fun _ t => va_P D vwCl (zws dA ad (zS0, I, L, F)) t.heap) (va_A (zws dA ad (zS0, I, L, F)) sz))
      (vx_X (fun _ : Unit => r = none) (fun En _ t => En = zNSE ∧ va_P D vwCl (zws dA ad (zS0, I, L, F)) t.heap) (va_A (zws dA ad (zS0, I, L, F)) sz)) 1 6 (va_A (zws dA ad (zS0, I, L, F)) sz) := by
  refine vx_ofW (cc := cX8_hand) (maxL := 3) (ret := some .int) (by decide) rfl ?_
  intro p e s m args below meth c s₁ B hml htb hv
  obtain ⟨rfl, ⟨hsz, hP, hK, hD0⟩, hH⟩ := hv
  have hts := atoms_spec (ws := Cond.code yX8_hand cX8_hand 3 (some .int) :: zT) B.pre
  have hts2 : ∀ w ∈ zT, w.before _ s = true := fun w hw => hts w (List.mem_cons_of_mem _ hw)
  have hown : s.vm.findClass RX8 = some m.cls := findClass_of_methodNamed B.named
  have hD := hD0.self (sz := sz)
  have hl := lv_entry ([zr 0, zi p1, zi p2].map (zc ad)) (n := 3) (Nat.le_of_ble_eq_true rfl)
  rw [lg_entry_eq]
  generalize (lg_sl ([zr 0, zi p1, zi p2].map (zc ad)) ++ List.replicate (3 - (lg_sl ([zr 0, zi p1, zi p2].map (zc ad))).length) Slot.unset).toArray = ls at hl ⊢
  rw [zargs_map] at hl
  refine tX8_hand (E := (0, 1, fun _ _ _ => True)) (X := X) hR p1 p2 r h p l e _ s m _ below meth c s.heap [] 0 0 _ D dA (va_A (zws dA ad (zS0, I, L, F)) sz) ad ls ⟨B.exec, B.bytes, hml, hown, hts2, fun h => absurd h (by decide), fun q hq => Or.inr (by rw [← hsz]; exact hq), hK, Nat.le_of_ble_eq_true rfl, Nat.le_of_ble_eq_true rfl, trivial⟩ hl hP hD va_S.rf wR ?_ zwfs_nil ?_ ?_ ?_
  · intro q hq
    simp only [zargs, List.mem_cons, List.not_mem_nil, or_false] at hq
    rcases hq with rfl | rfl | rfl
    · exact fun x hx => by cases hx; exact Or.inl (Nat.le_of_ble_eq_true rfl)
    · exact zwfv_i
    · exact zwfv_i
  · show 0 + zS0.length + (0 + 1) ≤ 1 + zS0.length
    omega
  · show 0 + zsl zS0 + 6 * (0 + 1) ≤ 6 + zsl zS0
    omega
  · intro pc ls H locs cells slots ad' hx hls hn had hP' hD' hS' wR' hc hs
    rw [zws_cong had wR] at hP' hD'
    have hlocks := B.notSynchronized
    cases r with
    | none =>
      rcases hx with hx | hx
      · exact absurd hx.2 (by intro h; cases h)
      obtain ⟨-, d0, d3, d4, d6, d9⟩ := hx
      have hat : ∀ w ∈ (zOwn 122).filter vx_no, w.before (List.map (zc ad) [zr 0, zi p1, zi p2]).toArray s = true := by
        intro w hw
        rcases zX_good w hw with g | g
        · exact hts2 w (List.mem_filter.mpr ⟨zX_in w hw g, g⟩)
        · have g2 := hH.2.2.2.2 w g
          simp only [zXn, List.mem_cons, List.not_mem_nil, or_false] at g
          rcases g with rfl | rfl | rfl | rfl <;> exact va_Nw.use rfl g2
      have hxx : ∀ t : State, s.vm.Alike t.vm → H.size ≤ t.heap.size → (∀ q : Nat, q < H.size → t.heap[q]? = H[q]?) → vx_X (fun _ : Unit => (none : Option Int32) = none) (fun En _ t => En = zNSE ∧ va_P D vwCl (zws dA ad (zS0, I, L, F)) t.heap) (va_A (zws dA ad (zS0, I, L, F)) sz) zNSE s t := by
        intro t _ hz hk
        refine ⟨(), rfl, ⟨rfl, fun k q hq => (hP' k q hq).kept (hk _ (hP' k q hq).lt)⟩, Nat.le_trans hS'.1 hz, fun q h1 h2 => ?_⟩
        rw [hk q (Nat.lt_of_lt_of_le h1 hS'.1)]
        exact hS'.2.1 q h1 h2
      rcases d4 with d4 | d4
      · obtain ⟨sa, hsa⟩ := hH.2.2.1
        exact zthrow (ik := 118) (is := 120) (ic := 122) B.exec B.bytes hl0 hown (hts2 _ zw840) (hts2 _ zw93) hsa hat zX_ot hH.1 hH.2.1 hS' (hls.trans hml.symm) d0 d3 d4 d6 d9 (fun x hx => (htb x hx).elim) (Nat.le_of_ble_eq_true rfl) (Nat.le_of_ble_eq_true rfl) hc hs hlocks hxx hS'.2.2 hc hs
      · obtain ⟨sa, hsa⟩ := hH.2.2.2.1
        exact zthrow (ik := 118) (is := 136) (ic := 122) B.exec B.bytes hl0 hown (hts2 _ zw840) (hts2 _ zw93) hsa hat zX_ot hH.1 hH.2.1 hS' (hls.trans hml.symm) d0 d3 d4 d6 d9 (fun x hx => (htb x hx).elim) (Nat.le_of_ble_eq_true rfl) (Nat.le_of_ble_eq_true rfl) hc hs hlocks hxx hS'.2.2 hc hs
    | some v =>
      refine vx_ret (W.widen (k := 1) (n := 6) (Nat.le_of_succ_le hc) (Nat.le_trans (Nat.le_add_right _ _) hs) ?_)
      exact W.iret (v := v) B.exec B.bytes B.returns (fun t ht hW => ⟨⟨v, (), rfl, rfl, by show va_P D vwCl _ t.heap; rw [ht]; exact hP'⟩, hS'.F ht⟩) hS'.2.2 hx.1
