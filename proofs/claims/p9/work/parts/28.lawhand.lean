/-! law.hand: 0 and the answer laid into the row out, or 1 where the ship threw -/
theorem zofWH {l : Launch} {y : MethodName} {ws ws' : List Cond} {rm : Room} {Pc : Array Value → State → Prop} {Qc : Array Value → State → Outcome → State → Prop} {mc ms : Nat} {free : Addr → Prop} {cc : ByteArray} {maxL : Nat} {ret : Option FieldType} {hh : List (Nat × Nat × Nat × Nat)}
    (hy : plainName y.cls = true) (hw : ws = Cond.codeWith y cc maxL ret hh :: ws')
    (body : ∀ p e s m args below meth c s₁, BodyLoose p l y (headSpec ws rm) cc maxL ret e s m args below meth c s₁ → c.maxLocals = maxL → Pc args s →
      W p l e (headSpec ws rm).room s m args below meth c s.heap [] 0 0 (MQ below Qc args s mc ms free) (entryFrame m args maxL)) : Met l y ws rm Pc Qc mc ms free := by
  refine MetFree.of_bodyS (code := cc) (maxLocals := maxL) (ret := ret) hy ?_ ?_
  · intro args s m h hn
    obtain ⟨m9, meth, c, hn9, h1, h2, h3, h4, -, h5, h6, -⟩ := Cond.codeWith_spec (atoms_spec (ws := ws) h _ (by rw [hw]; exact List.mem_cons_self))
    cases hn.symm.trans hn9
    exact ⟨meth, c, h1, h2, h3, h4, h5, h6⟩
  · intro p e s m args below meth c s₁ B hml hP _
    have hh0 : s₁.heap = s.heap := by rw [B.state]; rfl
    obtain ⟨t, a1, o, b1, b2, b3⟩ := body p e s m args below meth c s₁ B hml hP s₁ hh0 (Stand.of_body B)
    exact ⟨t, o, a1, b1, b2, ⟨b3.1, b3.2⟩⟩
def zhA (r : Option Int32) : Int32 := match r with
  | some _ => 0
  | none => 1
def zhL (L : zPL) (r : Option Int32) : zPL := match r with
  | some v => zu L 76 0 v.toInt64
  | none => L
set_option maxHeartbeats 4000000 in
theorem lawhandMet {X : Nat × (Nat → Int32)} {I : zPI} {L : zPL} {F : zPF} {a b : Nat} {c0 : Option Nat} (hR : zRin F a b c0) (p1 p2 : Int32) (r : Option Int32) (h : fX8_hand I p1 p2 = some r) (wR : zwfR zS0.length F) (l : Launch) (hl0 : l.stackTraces = false) (D : va_G) (dA : FieldType → ClassId) (ad : Nat → Nat) (sz : Nat) :
    Met l yL_hand (Cond.codeWith yL_hand cL_hand 5 (some .int) [(0, 10, 13, 13)] :: zT) { frames := 9, cells := 1, slots := 6, locals := 540 }
      (va_Pc ([zr 0, zi p1, zi p2, zr 76].map (zc ad)) (fun U => zPre X D dA ad sz (zS0, I, L, F) U ∧ zH (va_A (zws dA ad (zS0, I, L, F)) sz) U U.heap))
      (va_Qi (fun (v : Int32) (_ : Unit) => v = zhA r) (fun _ t => va_P D vwCl (zws dA ad (zS0, I, zhL L r, F)) t.heap ∧ va_D (va_A (zws dA ad (zS0, I, L, F)) sz) (zws dA ad (zS0, I, zhL L r, F))) (va_A (zws dA ad (zS0, I, L, F)) sz)) 1 6 (va_A (zws dA ad (zS0, I, L, F)) sz) := by
  refine zofWH (cc := cL_hand) (maxL := 5) (ret := some .int) (by decide) rfl ?_
  intro p e s m args below meth c s₁ B hml hv
  obtain ⟨rfl, ⟨hsz, hP, hK, hD0⟩, hH⟩ := hv
  have hts := atoms_spec (ws := Cond.codeWith yL_hand cL_hand 5 (some .int) [(0, 10, 13, 13)] :: zT) B.pre
  have htab := vx_table (x := yL_hand) B (hts _ List.mem_cons_self)
  have hts2 : ∀ w ∈ zT, w.before _ s = true := fun w hw => hts w (List.mem_cons_of_mem _ hw)
  have hown : s.vm.findClass RL = some m.cls := findClass_of_methodNamed B.named
  have hD := hD0.self (sz := sz)
  have hx := B.exec
  have hb := B.bytes
  have hlocks := B.notSynchronized
  subst hsz
  generalize hAe : va_A (zws dA ad (zS0, I, L, F)) s.heap.size = A at hD hK hH ⊢
  have hA : ∀ q : Nat, s.heap.size ≤ q → A q := fun q h => by rw [← hAe]; exact Or.inr h
  have hAA : ∀ q, va_A (zws dA ad (zS0, I, L, F)) s.heap.size q → A q := fun q h => by rw [← hAe]; exact h
  have hl := lv_entry ([zr 0, zi p1, zi p2, zr 76].map (zc ad)) (n := 5) (Nat.le_of_ble_eq_true rfl)
  rw [lg_entry_eq]
  generalize (lg_sl ([zr 0, zi p1, zi p2, zr 76].map (zc ad)) ++ List.replicate (5 - (lg_sl ([zr 0, zi p1, zi p2, zr 76].map (zc ad))).length) Slot.unset).toArray = ls at hl ⊢
  rw [zargs_map] at hl
  have hl : zLs ls 5 ad [(0, zr 0), (1, zi p1), (2, zi p2), (3, zr 76)] := hl
  refine lv_aload_n (x := ad 76) hx hb dL_hand_0 rfl (zLs_at hl (j := 3) rfl) ?_
  refine lv_iconst (v := 0) hx hb dL_hand_1 (by decide) ?_
  refine lv_aload_n (x := ad 0) hx hb dL_hand_2 rfl (zLs_at hl (j := 0) rfl) ?_
  refine lv_iload_n (x := p1) hx hb dL_hand_3 rfl (zLs_at hl (j := 1) rfl) ?_
  refine lv_iload_n (x := p2) hx hb dL_hand_4 rfl (zLs_at hl (j := 2) rfl) ?_
  have hM := handMet (X := X) (L := L) hR p1 p2 r h wR l hl0 D dA ad s.heap.size
  rw [hAe] at hM
  refine vx_calli (a := (Value.ref (ad 0) :: [Value.int p1, Value.int p2]).toArray) (vx_runV (As := [.int p1, .int p2]) (b := ad 0) (C := RX8) (rest := [.int 0, .ref (ad 76)]) ⟨hx, hb, hml, hown, hts2⟩ hM
    (cwV 2 hts2 (zgood (fun w hw => ?_)) rfl rfl rfl (by decide +kernel) ⟨Nat.le_of_ble_eq_true rfl, Nat.le_of_ble_eq_true rfl⟩)
    ⟨fun a9 U g mk q => ?_, va_recv (ci := 7) hK.1 hP rfl (zws_obj zs_0), fun U hU hW => ⟨rfl, ⟨?_, ?_⟩⟩⟩ rfl rfl hl.1 rfl (lv_room (Nat.le_of_ble_eq_true rfl)) dL_hand_5 ⟨Nat.le_of_ble_eq_true rfl, Nat.le_of_ble_eq_true rfl⟩) (va_S.rf (A := A) (H0 := s.heap)) (fun q _ h => h) (fun q h => h) (fun q _ h => h) ?_ ?_
  · simp only [wsV, List.cons_append, List.nil_append, List.mem_cons] at hw
    rcases hw with rfl | rfl | rfl | rfl | rfl | hw
    · exact zw836
    · exact csX8_hand.2.1
    · exact csX8_hand.2.2
    · exact csX8_hand.1.1
    · exact csX8_hand.1.2.1
    · exact hw
  · obtain ⟨q0, ⟨q1, qP, qK, qD⟩, qH⟩ := q
    exact ⟨q0, ⟨q1, qP, zK.same (u := U) (U := U.calling g mk a9) rfl qK, qD⟩, zH.same (s := U) (U := U.calling g mk a9) rfl qH⟩
  · refine ⟨by rw [hU], by rw [hU]; exact hP, ?_, hD0⟩
    rw [hU, hAe]
    exact hK.warm hW
  · rw [hU]
    exact hH.warm hW
  · intro En ce q9 u t H1 locs1 ht hvm hpx hBX hz1 hk1 hS1 hce hcv hcl
    obtain ⟨rfl, hP1⟩ := hBX
    rw [ht] at hP1
    have hpx : r = none := hpx
    subst hpx
    refine vx_catch (own := RL) (name := zNSE) hown [] ⟨0, 10, 13, 13⟩ [] (by rw [htab]; rfl) (fun z hz => nomatch hz) (by decide) (by decide) (hts2 _ zw835) (va_Nw.use rfl (hH.2.2.2.2 _ (List.mem_cons_self))) hce hcv hcl ?_
    refine lv_astore (i := 4) hx hb dL_hand_13 hl (by decide) rfl (fun ls' hl' => ?_)
    refine lv_iconst (v := 1) hx hb dL_hand_15 (by decide) ?_
    exact W.iret (v := 1) hx hb B.returns (fun t2 ht2 hW => ⟨⟨1, (), rfl, rfl, by rw [ht2]; exact hP1, hD⟩, hS1.F ht2⟩) hS1.2.2 dL_hand_16
  · intro v u t H1 locs1 ht hvm hpost hBX hz1 hk1 hS1
    have hpost : r = some v := hpost
    subst hpost
    have hP1 : va_P D vwCl (zws dA ad (zS0, I, L, F)) H1 := by rw [← ht]; exact hBX
    have k8 : zAW zE0 X mL_hand 9 8 [(0, zr 0), (1, zi p1), (2, zi p2), (3, zr 76)] [zi v, zi 0, zr 76] (zS0, I, L, F) (some (zi 0)) (zS0, I, zu L 76 0 v.toInt64, F) := by
      refine a_i2l dL_hand_8 ?_
      refine a_last dL_hand_9 zs_76 (zin_vp (by decide)) ?_
      refine a_goto (tgt := 17) dL_hand_10 rfl ?_
      refine a_iconst (v := 0) dL_hand_17 (by decide) ?_
      exact a_iret dL_hand_18 (by intro h; cases h) (znar_i rfl)
    have wst : zwfs zS0.length [zi v, zi 0, zr 76] := zwfs_i (zwfs_i (zwfs_cons (fun x hx => by cases hx; exact Or.inl (by decide)) zwfs_nil))
    have wlv : zwfl zS0.length [(0, zr 0), (1, zi p1), (2, zi p2), (3, zr 76)] := by
      intro q hq
      simp only [List.mem_cons, List.not_mem_nil, or_false] at hq
      rcases hq with rfl | rfl | rfl | rfl
      · exact fun x hx => by cases hx; exact Or.inl (by decide)
      · exact zwfv_i
      · exact zwfv_i
      · exact fun x hx => by cases hx; exact Or.inl (by decide)
    refine k8 p l e _ s m _ below meth c H1 locs1 _ _ _ D dA A ad ls ⟨hx, hb, hml, hown, hts2, fun h => absurd h (by decide), hA, hK, Nat.le_of_ble_eq_true rfl, Nat.le_of_ble_eq_true rfl, trivial⟩ hl hP1 hD hS1 wR wlv wst (by show 0 + 1 + zS0.length + (0 + 0) ≤ 1 + zS0.length; omega) (by show 0 + 6 + zsl zS0 + 6 * (0 + 0) ≤ 6 + zsl zS0; omega) ?_
    intro pc ls H locs cells slots ad' hx2 hls hn had hP' hD' hS' wR' hc hs
    rw [zws_cong had wR] at hP' hD'
    refine W.widen (k := 1) (n := 6) hc hs ?_
    exact W.iret (v := 0) hx hb B.returns (fun t2 ht2 hW => ⟨⟨0, (), rfl, rfl, by rw [ht2]; exact hP', hD'⟩, hS'.F ht2⟩) hS'.2.2 hx2.1
