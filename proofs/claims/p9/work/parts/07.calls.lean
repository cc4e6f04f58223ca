/-! returns, the entry of a method, calls, what is made -/
section zCalls
variable {E : Nat × Nat × ((Nat → Prop) → Launch → State → Prop)} {X : Nat × (Nat → Int32)} {Mt : zM} {d pc : Nat} {lv : List (Nat × zV)} {st : List zV} {σ σ' : zW} {rv : Option zV}
theorem a_iret {x : Int32} (hd : decode Mt.2.1 pc = .ok (.ireturn, 1)) (hr : Mt.2.2.2 ≠ none) (hn : znar Mt (some (zi x))) : zAW E X Mt d pc lv [zi x] σ (some (zi x)) σ := by
  intro p l e R s m args below meth c H locs cells slots Q D dA A ad ls cx hl hP hD hS wR wl ws hc hs he
  exact he pc ls H locs cells slots ad ⟨hd, hr⟩ hl.1 hn (fun _ _ => rfl) hP hD hS wR (by omega) (by omega)
theorem a_vret (hd : decode Mt.2.1 pc = .ok (.return_, 1)) (hr : Mt.2.2.2 = none) : zAW E X Mt d pc lv [] σ none σ := by
  intro p l e R s m args below meth c H locs cells slots Q D dA A ad ls cx hl hP hD hS wR wl ws hc hs he
  exact he pc ls H locs cells slots ad (Or.inl ⟨hd, hr⟩) hl.1 (fun _ _ h => by cases h) (fun _ _ => rfl) hP hD hS wR (by omega) (by omega)
/-- at a 'throw new ..' (of a method that answers a value): told as no answer -/
theorem a_thr (hd : zThrowAt Mt.2.1 pc) (hr : Mt.2.2.2 ≠ none) : zAW E X Mt d pc lv [] σ none σ := by
  intro p l e R s m args below meth c H locs cells slots Q D dA A ad ls cx hl hP hD hS wR wl ws hc hs he
  exact he pc ls H locs cells slots ad (Or.inr ⟨hr, hd⟩) hl.1 (fun _ _ h => by cases h) (fun _ _ => rfl) hP hD hS wR (by omega) (by omega)
def zargs : Nat → List zV → List (Nat × zV)
  | _, [] => []
  | i, v :: vs => (i, v) :: zargs (if zcat v = 2 then i + 2 else i + 1) vs
theorem zargs_map (ad : Nat → Nat) (as : List zV) : ∀ i, lv_args i (as.map (zc ad)) = (zargs i as).map (fun q => (q.1, zc ad q.2)) := by
  induction as with
  | nil => intro i; rfl
  | cons v vs ih => intro i; simp [lv_args, zargs, ih, zc_cat]
theorem zargs_wf {n : Nat} {as : List zV} : ∀ {i : Nat}, zwfs n as → zwfl n (zargs i as) := by
  induction as with
  | nil => intro i _ q hq; cases hq
  | cons v vs ih =>
    intro i h q hq
    rcases List.mem_cons.mp hq with e | hq
    · rw [e]; exact zwfs_head h
    · exact ih (zwfs_tail h) q hq
theorem zsl_len (ad : Nat → Nat) (as : List zV) : (lg_sl (as.map (zc ad))).length = (as.map zcat).sum := by
  induction as with
  | nil => rfl
  | cons v vs ih =>
    simp only [lg_sl, List.map_cons, List.flatMap_cons, List.length_append, List.sum_cons] at ih ⊢
    rw [ih, zc_cat]
    rcases v with x | x | r <;> simp [zcat]
/-- the entry: a method's contract out of the walk of its body -/
theorem zAM_of {as : List zV} (hy : plainName Mt.1.cls = true) (hlen : (as.map zcat).sum ≤ Mt.2.2.1) (hret : Mt.2.2.2 = none ↔ rv = none) (h1 : σ.1.length ≤ σ'.1.length) (h2 : zsl σ.1 ≤ zsl σ'.1)
    (k : zAW (0, 0, fun _ _ _ => True) X Mt d 0 (zargs 0 as) [] σ rv σ') : zAM X Mt d as σ rv σ' := by
  refine ⟨h1, h2, ⟨_, rfl, hret⟩, fun wR was l D dA ad sz => ?_⟩
  refine Met.ofW (cc := Mt.2.1) (maxL := Mt.2.2.1) (ret := Mt.2.2.2) hy rfl ?_
  intro p e s m args below meth c s₁ B hml hv
  obtain ⟨rfl, hsz, hP, hK, hD0⟩ := hv
  have hts := atoms_spec (ws := Cond.code Mt.1 Mt.2.1 Mt.2.2.1 Mt.2.2.2 :: zT) B.pre
  have hown : s.vm.findClass Mt.1.cls = some m.cls := findClass_of_methodNamed B.named
  have hD := hD0.self (sz := sz)
  have hl := lv_entry (as.map (zc ad)) (n := Mt.2.2.1) (by rw [zsl_len]; exact hlen)
  rw [lg_entry_eq]
  generalize (lg_sl (as.map (zc ad)) ++ List.replicate (Mt.2.2.1 - (lg_sl (as.map (zc ad))).length) Slot.unset).toArray = ls at hl ⊢
  rw [zargs_map] at hl
  refine k p l e _ s m _ below meth c s.heap [] 0 0 _ D dA (va_A (zws dA ad σ) sz) ad ls ⟨B.exec, B.bytes, hml, hown, fun w hw => hts w (List.mem_cons_of_mem _ hw), fun h => ?_, fun q hq => Or.inr (by rw [← hsz]; exact hq), hK, Nat.le_refl _, Nat.le_refl _, trivial⟩ hl hP hD va_S.rf wR (zargs_wf was) zwfs_nil ?_ ?_ ?_
  · rw [← h]; exact (name_of_methodNamed B.named B.method).1
  · show 0 + σ'.1.length + (0 + 0) ≤ (σ'.1.length - σ.1.length) + σ.1.length
    omega
  · show 0 + zsl σ'.1 + 6 * (0 + 0) ≤ (zsl σ'.1 - zsl σ.1) + zsl σ.1
    omega
  · intro pc ls H locs cells slots ad' hx hls hn had hP' hD' hS' wR' hc hs
    refine W.widen (k := σ'.1.length - σ.1.length) (n := zsl σ'.1 - zsl σ.1) hc hs ?_
    have hlocks := B.notSynchronized
    cases rv with
    | none =>
      rcases hx with hx | hx
      rotate_left
      · exact absurd (hret.mpr rfl) hx.1
      exact W.vret B.exec B.bytes (by rw [B.returns]; exact hx.2) (fun t ht hW => ⟨⟨ad', rfl, ⟨had, wR', hn⟩, by rw [ht]; exact hP', hD'⟩, hS'.F ht⟩) hS'.2.2 hx.1
    | some v =>
      rcases v with x | x
      · obtain ⟨hx1, hx2⟩ := hx
        cases hty : Mt.2.2.2 with
        | none => exact absurd hty hx2
        | some ty => exact W.zret (v := x) (ty := ty) B.exec B.bytes (by rw [B.returns]; exact hty) (hn x ty rfl hty) (fun t ht hW => ⟨⟨x, ad', rfl, ⟨rfl, had, wR', hn⟩, by rw [ht]; exact hP', hD'⟩, hS'.F ht⟩) hS'.2.2 hx1
      · exact absurd hx (by intro h; exact h)
theorem zc_cong {n : Nat} {ad ad' : Nat → Nat} (h : ∀ x, zok n x → ad' x = ad x) {v : zV} (hv : zwfv n v) : zc ad' v = zc ad v := by
  rcases v with x | x | r
  · rfl
  · rfl
  · cases r with
    | none => rfl
    | some a => simp [zc, h a (hv a rfl)]
theorem zcs_cong {n : Nat} {ad ad' : Nat → Nat} (h : ∀ x, zok n x → ad' x = ad x) {st : List zV} (hv : zwfs n st) : st.map (zc ad') = st.map (zc ad) := List.map_congr_left fun v hm => zc_cong h (hv v hm)
theorem zLs_cong {n nL : Nat} {ad ad' : Nat → Nat} {ls : Array Slot} (h : ∀ x, zok n x → ad' x = ad x) {lv : List (Nat × zV)} (hv : zwfl n lv) (hl : zLs ls nL ad lv) : zLs ls nL ad' lv := by
  have e : lv.map (fun q => (q.1, zc ad' q.2)) = lv.map (fun q => (q.1, zc ad q.2)) := List.map_congr_left fun q hm => by rw [zc_cong h (hv q hm)]
  unfold zLs
  rw [e]
  exact hl
theorem zok_mono {n k x : Nat} (h : n ≤ k) (hx : zok n x) : zok k x := hx.elim (fun a => Or.inl (Nat.lt_of_lt_of_le a h)) Or.inr
theorem zwfs_mono {n k : Nat} (h : n ≤ k) {st : List zV} (hv : zwfs n st) : zwfs k st := fun v hm x hx => zok_mono h (hv v hm x hx)
theorem zwfl_mono {n k : Nat} (h : n ≤ k) {lv : List (Nat × zV)} (hv : zwfl n lv) : zwfl k lv := fun q hm x hx => zok_mono h (hv q hm x hx)
theorem zCx_cast {n : Nat} {p : Program} {l : Launch} {R : Room} {s : State} {m : MethodId} {args : Array Value} {meth : Method} {c : Code} {D : va_G} {dA : FieldType → ClassId} {A : Nat → Prop} {ad ad' : Nat → Nat} (h : ∀ x, zok n x → ad' x = ad x) (cx : zCx E X Mt d p l R s m args meth c D dA A ad) : zCx E X Mt d p l R s m args meth c D dA A ad' := by
  obtain ⟨a1, a2, a3, a4, a5, a6, a7, a8, a9⟩ := cx
  exact ⟨a1, a2, a3, a4, a5, a6, a7, a8.cast (fun x hx => h x (Or.inr hx)), a9⟩
theorem zEnd_cast {n n2 : Nat} {p : Program} {l : Launch} {e : Env} {R : Room} {s : State} {m : MethodId} {args : Array Value} {below : List Frame} {meth : Method} {c : Code} {Q : State → Prop} {D : va_G} {dA : FieldType → ClassId} {A : Nat → Prop} {ad ad' : Nat → Nat} (hn : n ≤ n2) (h : ∀ x, zok n x → ad' x = ad x) (he : zEnd E X Mt p l e R s m args below meth c Q D dA A ad n rv σ') : zEnd E X Mt p l e R s m args below meth c Q D dA A ad' n2 rv σ' := by
  intro pc ls H locs cells slots ad2 g1 gl g2 g3
  exact he pc ls H locs cells slots ad2 g1 gl g2 (fun x hx => (g3 x (zok_mono hn hx)).trans (h x hx))
/-- behind a call: what it left goes on -/
theorem z_call {p : Program} {l : Launch} {e : Env} {R : Room} {s : State} {m : MethodId} {args : Array Value} {below : List Frame} {meth : Method} {c : Code} {H : Heap} {locs : List Loc} {cells slots : Nat} {Q : State → Prop} {D : va_G} {dA : FieldType → ClassId} {A : Nat → Prop} {ad : Nat → Nat} {ls : Array Slot} {rv2 : Option zV} {σ2 : zW} {st0 : List Value} {a : Array Value} {Mt2 : zM}
    (hr : va_Run p l e R s m args below meth c H locs cells slots (σ2.1.length - σ.1.length) (zsl σ2.1 - zsl σ.1) (F0 m pc ls st0) (st.map (zc ad)) (zQc Mt2 D dA ad (va_A (zws dA ad σ) H.size) σ.1.length rv2 σ2 a) (va_A (zws dA ad σ) H.size))
    (h1 : σ.1.length ≤ σ2.1.length) (h2 : zsl σ.1 ≤ zsl σ2.1)
    (k : znar Mt2 rv2 → zAW E X Mt d (pc + 3) lv (rv2.toList ++ st) σ2 rv σ')
    (cx : zCx E X Mt d p l R s m args meth c D dA A ad) (hl : zLs ls Mt.2.2.1 ad lv) (hD : va_D A (zws dA ad σ)) (hS : va_S A s.heap H locs) (wl : zwfl σ.1.length lv) (ws : zwfs σ.1.length st)
    (hc : cells + σ'.1.length + (E.1 + E.2.1) ≤ R.cells + σ.1.length) (hs : slots + zsl σ'.1 + 6 * (E.1 + E.2.1) ≤ R.slots + zsl σ.1) (he : zEnd E X Mt p l e R s m args below meth c Q D dA A ad σ.1.length rv σ') :
    W p l e R s m args below meth c H locs cells slots Q (F0 m pc ls st0) := by
  have hA : ∀ q, va_A (zws dA ad σ) H.size q → A q := by
    rintro q (⟨j, x, hj⟩ | hq)
    · exact hD.2 j _ hj
    · exact cx.2.2.2.2.2.2.1 q (Nat.le_trans hS.1 hq)
  cases rv2 with
  | none =>
    refine va_callv (a := a) hr hS (fun q _ h => hA q h) hA (fun u t H1 locs1 ht hvm hw hB hz1 hk1 hS1 => ?_)
    obtain ⟨had, wR2, hnr⟩ := hw
    obtain ⟨hP1, hD1⟩ := hB
    rw [ht] at hP1
    have e1 := zcs_cong had ws
    rw [← e1]
    exact k hnr p l e R s m args below meth c H1 locs1 _ _ Q D dA A u ls (zCx_cast had cx) (zLs_cong had wl hl) hP1 (hD1.weaken (fun _ _ _ h => hA _ h)) hS1 wR2 (zwfl_mono h1 wl) (zwfs_mono h1 ws) (by omega) (by omega) (zEnd_cast h1 had he)
  | some v =>
    refine va_calli (a := a) hr hS (fun q _ h => hA q h) hA (fun r u t H1 locs1 ht hvm hw hB hz1 hk1 hS1 => ?_)
    obtain ⟨hv, had, wR2, hnr⟩ := hw
    obtain ⟨hP1, hD1⟩ := hB
    rw [ht] at hP1
    subst hv
    have e1 := zcs_cong had ws
    rw [← e1]
    exact k hnr p l e R s m args below meth c H1 locs1 _ _ Q D dA A u ls (zCx_cast had cx) (zLs_cong had wl hl) hP1 (hD1.weaken (fun _ _ _ h => hA _ h)) hS1 wR2 (zwfl_mono h1 wl) (zwfs_i (zwfs_mono h1 ws)) (by omega) (by omega) (zEnd_cast h1 had he)
theorem zblind {as : List Value} {D : va_G} {dA : FieldType → ClassId} {ad : Nat → Nat} {sz : Nat} : FrameBlind (va_Pc as (zPre X D dA ad sz σ)) := by
  intro a U g mk q
  obtain ⟨q0, q1, qP, qK, qD⟩ := q
  exact ⟨q0, q1, qP, zK.same (u := U) (U := U.calling g mk a) rfl qK, qD⟩
theorem zpre {p : Program} {l : Launch} {R : Room} {s : State} {m : MethodId} {args : Array Value} {meth : Method} {c : Code} {H : Heap} {locs : List Loc} {D : va_G} {dA : FieldType → ClassId} {A : Nat → Prop} {ad : Nat → Nat} (cx : zCx E X Mt d p l R s m args meth c D dA A ad) (hP : va_P D vwCl (zws dA ad σ) H) (hD : va_D A (zws dA ad σ)) (hS : va_S A s.heap H locs) :
    ∀ U : State, U.heap = H → s.WarmedH U.vm → zPre X D dA ad H.size σ U := by
  intro U hU hW
  have hA : ∀ q, va_A (zws dA ad σ) H.size q → A q := by
    rintro q (⟨j, x, hj⟩ | hq)
    · exact hD.2 j _ hj
    · exact cx.2.2.2.2.2.2.1 q (Nat.le_trans hS.1 hq)
  refine ⟨by rw [hU], by rw [hU]; exact hP, ?_, hD.weaken (fun _ _ _ _ => trivial)⟩
  rw [hU]
  exact ((cx.2.2.2.2.2.2.2.1.kept hS.2.1).narrow hA).warm hW
theorem zgood {ws : List Cond} (h : ∀ w ∈ ws, w ∈ zT) : GoodIn zT ws := fun w hw => ⟨h w hw, good_of_word (zT_good w (h w hw)).2⟩
/-- the words of a call: of a method y with its code; plain names; how many arguments -/
def zCw (Mt : zM) (n : Nat) : Prop := Cond.initialized Mt.1.cls ∈ zT ∧ Cond.code Mt.1 Mt.2.1 Mt.2.2.1 Mt.2.2.2 ∈ zT ∧ (Mt.1.cls ≠ "java/lang/invoke/MethodHandle" ∧ Mt.1.cls ≠ "java/lang/invoke/VarHandle" ∧ (parseMethodDescriptor Mt.1.desc).map (fun d => d.parameters.length) = some n) ∧ Mt.2.2.1 ≤ 41
def zCv (Mt : zM) (n : Nat) : Prop := zCw Mt n ∧ Cond.instanceMethod Mt.1 ∈ zT ∧ Cond.selects Mt.1.cls Mt.1 Mt.1 ∈ zT
theorem zroom {l : Launch} {p : Program} {R : Room} {s : State} {m : MethodId} {args : Array Value} {meth : Method} {c : Code} {D : va_G} {dA : FieldType → ClassId} {A : Nat → Prop} {ad : Nat → Nat} {d2 n : Nat} {Mt2 : zM} (cx : zCx E X Mt d p l R s m args meth c D dA A ad) (hd2 : d2 + 1 ≤ d) (h : Mt2.2.2.1 ≤ 41) : d2 + 1 ≤ R.frames ∧ 8 + (Mt2.2.2.1 + 11) + 60 * d2 ≤ R.locals := by
  have a1 := cx.2.2.2.2.2.2.2.2.1
  have a2 := cx.2.2.2.2.2.2.2.2.2.1
  exact ⟨by omega, by omega⟩
theorem zmap_rev (ad : Nat → Nat) (As : List zV) (r : List zV) : (As.reverse ++ r).map (zc ad) = (As.map (zc ad)).reverse ++ r.map (zc ad) := by simp
theorem zrest {m : MethodId} {ls : Array Slot} {ad : Nat → Nat} {rest : List Value} (h : (st.map zcat).sum ≤ 8) : 2 * (F0 m pc ls rest).monitorRoom + ((st.map (zc ad)).map fun v => v.category).sum ≤ 8 := by
  have e : (st.map (zc ad)).map (fun v => v.category) = st.map zcat := by simp [Function.comp_def, zc_cat]
  exact lv_room (by rw [e]; exact h)
theorem a_callV {Mt2 : zM} {idx o ci d2 : Nat} {As : List zV} {rv2 : Option zV} {σ2 : zW} {stk : List zV} {T : u_T} {N : Nat} (hd : decode Mt.2.1 pc = .ok (.invokevirtual idx, 3)) (hM : zAM X Mt2 d2 (zr o :: As) σ rv2 σ2) (hcv : zCv Mt2 As.length) (hlk : Cond.methodLink Mt.1.cls idx Mt2.1 ∈ zT) (hd2 : d2 + 1 ≤ d) (hsh : σ.1[o]? = some (.inl ci)) (hcl : vwCl[ci]? = some (Mt2.1.cls, T, N))
    (hstk : stk = As.reverse ++ zr o :: st) (h8 : (st.map zcat).sum ≤ 8) (hg : σ2.1.length ≤ σ'.1.length ∧ zsl σ2.1 ≤ zsl σ'.1) (k : znar Mt2 rv2 → zAW E X Mt d (pc + 3) lv (rv2.toList ++ st) σ2 rv σ') : zAW E X Mt d pc lv stk σ rv σ' := by
  intro p l e R s m args below meth c H locs cells slots Q D dA A ad ls cx hl hP hD hS wR wl ws hc hs he
  subst hstk
  obtain ⟨g1, g2, -, hMet⟩ := hM
  obtain ⟨⟨w1, w2, w3, w4⟩, w5, w6⟩ := hcv
  have wst : zwfs σ.1.length st := fun v hv => ws v (List.mem_append_right _ (List.mem_cons_of_mem _ hv))
  have was : zwfs σ.1.length (zr o :: As) := fun v hv => by
    rcases List.mem_cons.mp hv with e | hv
    · rw [e]; exact ws _ (List.mem_append_right _ List.mem_cons_self)
    · exact ws v (List.mem_append_left _ (List.mem_reverse.mpr hv))
  refine z_call (pc := pc) (Mt2 := Mt2) (a := (Value.ref (ad o) :: As.map (zc ad)).toArray) ?_ g1 g2 k cx hl hD hS wl wst hc hs he
  refine va_runV (As := As.map (zc ad)) (b := ad o) ⟨cx.1, cx.2.1, cx.2.2.1, cx.2.2.2.1, cx.2.2.2.2.1⟩ (hMet wR was l D dA ad H.size) (cwV As.length cx.2.2.2.2.1 (zgood (fun w hw => ?_)) rfl rfl rfl ⟨rfl, w3⟩ (zroom (n := 0) cx hd2 w4)) ⟨zblind, va_recv cx.2.2.2.2.2.2.2.1.1 hP hcl (zws_obj hsh), fun U hU hW => ⟨rfl, zpre cx hP hD hS U hU hW⟩⟩ rfl (by simp) hl.1 (by exact zmap_rev ad As (zr o :: st)) (zrest h8) hd ⟨by omega, by omega⟩
  simp only [wsV, List.cons_append, List.nil_append, List.mem_cons] at hw
  rcases hw with rfl | rfl | rfl | rfl | rfl | hw
  · exact hlk
  · exact w5
  · exact w6
  · exact w1
  · exact w2
  · exact hw
theorem a_callS {Mt2 : zM} {idx d2 : Nat} {As : List zV} {rv2 : Option zV} {σ2 : zW} {stk : List zV} (hd : decode Mt.2.1 pc = .ok (.invokestatic idx, 3)) (hM : zAM X Mt2 d2 As σ rv2 σ2) (hcv : zCw Mt2 As.length ∧ Cond.static Mt2.1 ∈ zT) (hlk : Cond.methodLink Mt.1.cls idx Mt2.1 ∈ zT) (hd2 : d2 + 1 ≤ d)
    (hstk : stk = As.reverse ++ st) (h8 : (st.map zcat).sum ≤ 8) (hg : σ2.1.length ≤ σ'.1.length ∧ zsl σ2.1 ≤ zsl σ'.1) (k : znar Mt2 rv2 → zAW E X Mt d (pc + 3) lv (rv2.toList ++ st) σ2 rv σ') : zAW E X Mt d pc lv stk σ rv σ' := by
  intro p l e R s m args below meth c H locs cells slots Q D dA A ad ls cx hl hP hD hS wR wl ws hc hs he
  subst hstk
  obtain ⟨g1, g2, -, hMet⟩ := hM
  obtain ⟨⟨w1, w2, w3, w4⟩, w5⟩ := hcv
  have wst : zwfs σ.1.length st := fun v hv => ws v (List.mem_append_right _ hv)
  have was : zwfs σ.1.length As := fun v hv => ws v (List.mem_append_left _ (List.mem_reverse.mpr hv))
  refine z_call (pc := pc) (Mt2 := Mt2) (a := (As.map (zc ad)).toArray) ?_ g1 g2 k cx hl hD hS wl wst hc hs he
  refine va_runS (As := As.map (zc ad)) ⟨cx.1, cx.2.1, cx.2.2.1, cx.2.2.2.1, cx.2.2.2.2.1⟩ (hMet wR was l D dA ad H.size) (va_cwS As.length cx.2.2.2.2.1 (zgood (fun w hw => ?_)) rfl rfl rfl w3 (zroom (n := 0) cx hd2 w4)) ⟨zblind, fun U hU hW => ⟨rfl, zpre cx hP hD hS U hU hW⟩⟩ rfl (by simp) hl.1 (by exact zmap_rev ad As st) (zrest h8) hd ⟨by omega, by omega⟩
  simp only [va_wsS, List.cons_append, List.nil_append, List.mem_cons] at hw
  rcases hw with rfl | rfl | rfl | rfl | hw
  · exact hlk
  · exact w5
  · exact w1
  · exact w2
  · exact hw
theorem a_callI {Mt2 : zM} {idx o d2 : Nat} {As : List zV} {σ2 : zW} {stk : List zV} (hd : decode Mt.2.1 pc = .ok (.invokespecial idx, 3)) (hM : zAM X Mt2 d2 (zr o :: As) σ none σ2) (hcv : zCw Mt2 As.length ∧ Cond.instanceMethod Mt2.1 ∈ zT ∧ Mt2.1.name = "<init>") (hlk : Cond.methodLink Mt.1.cls idx Mt2.1 ∈ zT) (hd2 : d2 + 1 ≤ d)
    (hstk : stk = As.reverse ++ zr o :: st) (h8 : (st.map zcat).sum ≤ 8) (hg : σ2.1.length ≤ σ'.1.length ∧ zsl σ2.1 ≤ zsl σ'.1) (k : zAW E X Mt d (pc + 3) lv st σ2 rv σ') : zAW E X Mt d pc lv stk σ rv σ' := by
  intro p l e R s m args below meth c H locs cells slots Q D dA A ad ls cx hl hP hD hS wR wl ws hc hs he
  subst hstk
  obtain ⟨g1, g2, ⟨Ty, hTy, hTn⟩, hMet⟩ := hM
  have hno : Mt2.2.2.2 = none := by rw [hTy]; exact hTn.mpr rfl
  obtain ⟨⟨w1, w2, w3, w4⟩, w5, w6⟩ := hcv
  rw [hno] at w2
  have wst : zwfs σ.1.length st := fun v hv => ws v (List.mem_append_right _ (List.mem_cons_of_mem _ hv))
  have was : zwfs σ.1.length (zr o :: As) := fun v hv => by
    rcases List.mem_cons.mp hv with e | hv
    · rw [e]; exact ws _ (List.mem_append_right _ List.mem_cons_self)
    · exact ws v (List.mem_append_left _ (List.mem_reverse.mpr hv))
  have hMet := hMet wR was l D dA ad H.size
  rw [hno] at hMet
  refine z_call (pc := pc) (Mt2 := Mt2) (rv2 := none) (a := (Value.ref (ad o) :: As.map (zc ad)).toArray) ?_ g1 g2 (fun _ => k) cx hl hD hS wl wst hc hs he
  refine va_runI (As := As.map (zc ad)) (b := ad o) ⟨cx.1, cx.2.1, cx.2.2.1, cx.2.2.2.1, cx.2.2.2.2.1⟩ hMet (cwI As.length cx.2.2.2.2.1 (zgood (fun w hw => ?_)) rfl rfl rfl (cx.2.2.2.2.1 _ w1) (cx.2.2.2.2.1 _ hlk) (cx.2.2.2.2.1 _ w5) w6 w3 (zroom (n := 0) cx hd2 w4)) ⟨zblind, fun U hU hW => ⟨rfl, zpre cx hP hD hS U hU hW⟩⟩ rfl (by simp) hl.1 (by exact zmap_rev ad As (zr o :: st)) (zrest h8) hd ⟨by omega, by omega⟩
  rcases List.mem_cons.mp hw with rfl | hw
  · exact w2
  · exact hw
theorem a_callIN {Mt2 : zM} {idx o d2 : Nat} {As : List zV} {σ2 : zW} {stk : List zV} (hd : decode Mt.2.1 pc = .ok (.invokespecial idx, 3)) (hM : zAM X Mt2 d2 (zr o :: As) σ none σ2) (hcv : zCw Mt2 As.length ∧ Cond.instanceMethod Mt2.1 ∈ zT ∧ Mt2.1.name = "<init>") (hown : Mt.1.cls = RX8) (hlk : (idx, Mt2.1) ∈ znst) (hd2 : d2 + 1 ≤ d)
    (hstk : stk = As.reverse ++ zr o :: st) (h8 : (st.map zcat).sum ≤ 8) (hg : σ2.1.length ≤ σ'.1.length ∧ zsl σ2.1 ≤ zsl σ'.1) (k : zAW E X Mt d (pc + 3) lv st σ2 rv σ') : zAW E X Mt d pc lv stk σ rv σ' := by
  intro p l e R s m args below meth c H locs cells slots Q D dA A ad ls cx hl hP hD hS wR wl ws hc hs he
  subst hstk
  obtain ⟨g1, g2, ⟨Ty, hTy, hTn⟩, hMet⟩ := hM
  have hno : Mt2.2.2.2 = none := by rw [hTy]; exact hTn.mpr rfl
  obtain ⟨⟨w1, w2, w3, w4⟩, w5, w6⟩ := hcv
  rw [hno] at w2
  have wst : zwfs σ.1.length st := fun v hv => ws v (List.mem_append_right _ (List.mem_cons_of_mem _ hv))
  have was : zwfs σ.1.length (zr o :: As) := fun v hv => by
    rcases List.mem_cons.mp hv with e | hv
    · rw [e]; exact ws _ (List.mem_append_right _ List.mem_cons_self)
    · exact ws v (List.mem_append_left _ (List.mem_reverse.mpr hv))
  have hMet := hMet wR was l D dA ad H.size
  rw [hno] at hMet
  have hnw := cx.2.2.2.2.2.2.2.1.2.2.2.2.2.1 _ hlk
  refine z_call (pc := pc) (Mt2 := Mt2) (rv2 := none) (a := (Value.ref (ad o) :: As.map (zc ad)).toArray) ?_ g1 g2 (fun _ => k) cx hl hD hS wl wst hc hs he
  refine va_runIN (As := As.map (zc ad)) (b := ad o) (own := RX8) (host := RX8) ⟨cx.1, cx.2.1, cx.2.2.1, by rw [← hown]; exact cx.2.2.2.1, cx.2.2.2.2.1⟩ hMet ⟨va_cnB As.length cx.2.2.2.2.1 (zgood (fun w hw => ?_)) rfl rfl rfl hnw (cx.2.2.2.2.1 _ w1) w3 (zroom (n := 0) cx hd2 w4), w6, cx.2.2.2.2.1 _ w5⟩ ⟨zblind, fun U hU hW => ⟨rfl, zpre cx hP hD hS U hU hW⟩⟩ rfl (by simp) hl.1 (by exact zmap_rev ad As (zr o :: st)) (zrest h8) hd ⟨by omega, by omega⟩
  rcases List.mem_cons.mp hw with rfl | hw
  · exact w2
  · exact hw
end zCalls
