/-! what is made: objects, arrays; the constructor of Object; the words that the reader spells -/
section zMakes
variable {E : Nat × Nat × ((Nat → Prop) → Launch → State → Prop)} {X : Nat × (Nat → Int32)} {Mt : zM} {d pc : Nat} {lv : List (Nat × zV)} {st : List zV} {σ σ' : zW} {rv : Option zV}
theorem zup_ok {n q : Nat} {ad : Nat → Nat} (hn : n < 1000) : ∀ x, zok n x → va_up ad n q x = ad x := by
  intro x hx
  have : x ≠ n := by
    rcases hx with h | h
    · omega
    · omega
  simp [va_up, this]
theorem zfv_cong {n : Nat} {ad ad' : Nat → Nat} {S S2 : List zS} {I : Nat → Nat → Int32} {L : Nat → Nat → Int64} {R : Nat → Nat → Option Nat} (h : ∀ x, zok n x → ad' x = ad x) (wR : zwfR n R) (a ci k : Nat) : zfv ad' (S2, I, L, R) a ci k = zfv ad (S, I, L, R) a ci k := by
  simp only [zfv]
  split
  · rfl
  · rfl
  · cases hr : R a k with
    | none => rfl
    | some x => simp [h x (wR a k x hr)]
theorem zws_push {dA : FieldType → ClassId} {ad : Nat → Nat} {S : List zS} {I : Nat → Nat → Int32} {L : Nat → Nat → Int64} {R : Nat → Nat → Option Nat} {sh : zS} {q : Nat} (hn : S.length < 1000) (wR : zwfR S.length R) :
    zws dA (va_up ad S.length q) (S ++ [sh], I, L, R) = zws dA ad (S, I, L, R) ++ [(q, zce dA (va_up ad S.length q) (S ++ [sh], I, L, R) S.length)] := by
  have hz := zup_ok (n := S.length) (q := q) (ad := ad) hn
  apply List.ext_getElem?
  intro i
  by_cases hi : i < S.length
  · rw [List.getElem?_append_left (by rw [zws_len]; exact hi), zws_at (σ := (S, I, L, R)) hi, zws_at (σ := (S ++ [sh], I, L, R)) (by simp; omega), hz i (Or.inl hi)]
    congr 2
    simp only [zce]
    rw [List.getElem?_append_left hi]
    cases S[i]? with
    | none => rfl
    | some z =>
      cases z with
      | inl ci =>
        have e : zfv (va_up ad S.length q) (S ++ [sh], I, L, R) i ci = zfv ad (S, I, L, R) i ci := by funext k; exact zfv_cong hz wR i ci k
        simp only [zfs, e]
      | inr z => rfl
  · by_cases hj : i = S.length
    · subst hj
      rw [List.getElem?_append_right (by rw [zws_len]; exact Nat.le_refl _), zws_at (σ := (S ++ [sh], I, L, R)) (by simp), zws_len]
      simp [va_up]
    · rw [List.getElem?_eq_none (by rw [zws_len]; simp; omega), List.getElem?_eq_none (by rw [List.length_append, zws_len]; simp; omega)]
/-- an array of a plain type is made; its row of the planes is empty yet -/
theorem a_newa {S : List zS} {I : Nat → Nat → Int32} {L : Nat → Nat → Int64} {R : Nat → Nat → Option Nat} {atype : ArrayType} {ty : FieldType} {t0 : Nat} {x : Int32} {n : Nat} (hd : decode Mt.2.1 pc = .ok (.newarray atype, 2)) (hty : newarray.typeOf atype = ty) (ht0 : ∀ dA : FieldType → ClassId, (zcs dA)[t0]? = some (dA ty, ty)) (hw : Cond.arrayClass ty ∈ zT)
    (hra : ∀ (U : State) (cA : ClassId), va_RA U cA ty ↔ U.vm.findClass ("[" ++ ty.toString) = some cA) (hcell : ∀ cA : ClassId, vp_cell cA (zar ty n (S, I, L, R) S.length) = arrV cA n (fun _ => defaultValue ty))
    (hx : ¬ x < 0) (hn : x.toNatClampNeg = n) (hb : n * componentBytes ty ≤ 536870912) (h9 : S.length < 1000) (hg : S.length + 1 ≤ σ'.1.length ∧ zsl S + n ≤ zsl σ'.1)
    (k : zAW E X Mt d (pc + 2) lv (zr S.length :: st) (S ++ [.inr (ty, n)], I, L, R) rv σ') : zAW E X Mt d pc lv (zi x :: st) (S, I, L, R) rv σ' := by
  intro p l e Rm s m args below meth c H locs cells slots Q D dA A ad ls cx hl hP hD hS wR wl ws hc hs he
  have hK := cx.2.2.2.2.2.2.2.1.1
  subst hty
  simp only at hc hs
  refine va_newa (a0 := zar (newarray.typeOf atype) n (S, I, L, R) S.length) cx.1 cx.2.1 (cx.2.2.2.2.1 _ hw) rfl hK hP hD hS cx.2.2.2.2.2.2.1 hcell hx hn hb (by omega) (by omega) hd (fun q cA H1 hK1 hP1 hD1 hS1 => ?_)
  have hz := zup_ok (n := S.length) (q := q) (ad := ad) h9
  have e1 : cA = dA (newarray.typeOf atype) := by
    have a1 := (hra _ _).mp (hK.2 t0 _ (ht0 dA)).2
    have a2 := (hra _ _).mp (hK1.2 (zcs dA).length (cA, newarray.typeOf atype) (by simp)).2
    exact Option.some.inj (a2.symm.trans a1)
  subst e1
  have e2 : zws dA ad (S, I, L, R) ++ [(q, Sum.inl (dA (newarray.typeOf atype), zar (newarray.typeOf atype) n (S, I, L, R) S.length))] = zws dA (va_up ad S.length q) (S ++ [.inr (newarray.typeOf atype, n)], I, L, R) := by
    rw [zws_push h9 wR]
    simp [zce, zar]
  rw [e2] at hP1 hD1
  have e3 := zcs_cong hz (zwfs_tail ws)
  have e4 : (zr S.length :: st).map (zc (va_up ad S.length q)) = .ref q :: st.map (zc ad) := by
    simp only [List.map_cons, e3]
    simp [zc, va_up, va_rf]
  rw [show (Value.ref q :: List.map (zc ad) st) = (zr S.length :: st).map (zc (va_up ad S.length q)) from e4.symm]
  exact k p l e Rm s m args below meth c H1 locs _ _ Q D dA A _ ls (zCx_cast hz cx) (zLs_cong hz wl hl) hP1 hD1 hS1 (fun a b y hy => zok_mono (by simp) (wR a b y hy)) (zwfl_mono (by simp) wl)
    (zwfs_cons (fun y hy => by cases hy; exact Or.inl (by simp)) (zwfs_mono (by simp) (zwfs_tail ws))) (by simp only [List.length_append, List.length_singleton]; omega) (by simp only [zsl_app, zsl]; omega) (zEnd_cast (by simp) hz he)
/-- an object is made; its rows of the planes are empty yet -/
theorem a_new {S : List zS} {I : Nat → Nat → Int32} {L : Nat → Nat → Int64} {R : Nat → Nat → Option Nat} {idx ci : Nat} {C : String} {T : u_T} {N : Nat} (hd : decode Mt.2.1 pc = .ok (.new idx, 3)) (hcl : zCls ci C T N) (w1 : Cond.classLink Mt.1.cls idx C ∈ zT) (w2 : Cond.instantiable C N ∈ zT) (w3 : Cond.initialized C ∈ zT)
    (hdv : ∀ j, j < N → defaultValue (zty ci j) = (match zkind (zty ci j) with | 0 => .int 0 | 1 => .long 0 | _ => .null)) (hI : ∀ j, I S.length j = 0) (hL : ∀ j, L S.length j = 0) (hR : ∀ j, R S.length j = none)
    (h9 : S.length < 1000) (hg : S.length + 1 ≤ σ'.1.length ∧ zsl S + N ≤ zsl σ'.1)
    (k : zAW E X Mt d (pc + 3) lv (zr S.length :: st) (S ++ [.inl ci], I, L, R) rv σ') : zAW E X Mt d pc lv st (S, I, L, R) rv σ' := by
  intro p l e Rm s m args below meth c H locs cells slots Q D dA A ad ls cx hl hP hD hS wR wl ws hc hs he
  obtain ⟨c1, c2, c3, c4⟩ := hcl
  have e9 : zn ci = N := zn_of c1
  have hK := cx.2.2.2.2.2.2.2.1.1
  simp only at hc hs
  refine va_new (ci := ci) (fs := zfs ad (S, I, L, R) S.length ci) cx.1 cx.2.1 cx.2.2.2.2.1 c2 (zty ci) c4 cx.2.2.2.1 (cx.2.2.2.2.1 _ w1) (cx.2.2.2.2.1 _ w2) (cx.2.2.2.2.1 _ w3) hK hP hD hS cx.2.2.2.2.2.2.1 c1 (fun j hj => ?_) (by omega) (by omega) hd (fun q H1 hP1 hD1 hS1 => ?_)
  · have h1 := zfs_get (ad := ad) (σ := (S, I, L, R)) (o := S.length) (ci := ci) (k := j) (by rw [e9]; exact hj)
    rw [hdv j hj]
    simp only [vp_V, List.getD_eq_getElem?_getD, h1, Option.getD_some, zfv, hI, hL, hR]
    generalize zkind (zty ci j) = z
    match z with
    | 0 => rfl
    | 1 => rfl
    | _ + 2 => rfl
  have hz := zup_ok (n := S.length) (q := q) (ad := ad) h9
  have e2 : zws dA ad (S, I, L, R) ++ [(q, Sum.inr (ci, zfs ad (S, I, L, R) S.length ci))] = zws dA (va_up ad S.length q) (S ++ [.inl ci], I, L, R) := by
    have e : zfv (va_up ad S.length q) (S ++ [.inl ci], I, L, R) S.length ci = zfv ad (S, I, L, R) S.length ci := by funext j; exact zfv_cong hz wR _ ci j
    rw [zws_push h9 wR]
    simp [zce, zfs, e]
  rw [e2] at hP1 hD1
  have e3 := zcs_cong hz ws
  have e4 : (zr S.length :: st).map (zc (va_up ad S.length q)) = .ref q :: st.map (zc ad) := by
    simp only [List.map_cons, e3]
    simp [zc, va_up, va_rf]
  rw [show (Value.ref q :: List.map (zc ad) st) = (zr S.length :: st).map (zc (va_up ad S.length q)) from e4.symm]
  exact k p l e Rm s m args below meth c H1 locs _ _ Q D dA A _ ls (zCx_cast hz cx) (zLs_cong hz wl hl) hP1 hD1 hS1 (fun a b y hy => zok_mono (by simp) (wR a b y hy)) (zwfl_mono (by simp) wl)
    (zwfs_cons (fun y hy => by cases hy; exact Or.inl (by simp)) (zwfs_mono (by simp) ws)) (by simp only [List.length_append, List.length_singleton]; omega) (by simp only [zsl_app, zsl]; omega) (zEnd_cast (by simp) hz he)
theorem a_objInit {idx o : Nat} (hd : decode Mt.2.1 pc = .ok (.invokespecial idx, 3)) (w1 : Cond.methodLink Mt.1.cls idx Lib.objectInit ∈ zT) (w2 : Cond.instanceMethod Lib.objectInit ∈ zT) (w3 : Cond.code Lib.objectInit ⟨#[0xb1]⟩ 1 none ∈ zT) (hd1 : 1 ≤ d) (h8 : (st.map zcat).sum ≤ 8)
    (k : zAW E X Mt d (pc + 3) lv st σ rv σ') : zAW E X Mt d pc lv (zr o :: st) σ rv σ' := by
  intro p l e R s m args below meth c H locs cells slots Q D dA A ad ls cx hl hP hD hS wR wl ws hc hs he
  have a1 := cx.2.2.2.2.2.2.2.2.1
  have a2 := cx.2.2.2.2.2.2.2.2.2.1
  have a3 := zrest (m := m) (pc := pc) (ls := ls) (ad := ad) (rest := (zr o :: st).map (zc ad)) h8
  refine W.objInit cx.1 cx.2.1 cx.2.2.2.1 (cx.2.2.2.2.1 _ w1) (cx.2.2.2.2.1 _ w2) (cx.2.2.2.2.1 _ w3) rfl (hl.1.trans cx.2.2.1.symm) rfl hd (by omega) (by omega) ?_
  exact k p l e R s m args below meth c H locs cells slots Q D dA A ad ls cx hl hP hD hS wR wl (zwfs_tail ws) hc hs he
/-! the words -/
theorem a_ldcs {idx i : Nat} {q : Nat × String × List Int32} (hd : decode Mt.2.1 pc = .ok (.ldc idx, 2)) (hq : zsr[i]? = some q) (hi : q.1 = idx) (hown : Mt.1.cls = RX3) (k : zAW E X Mt d (pc + 2) lv (zr (1020 + i) :: st) σ rv σ') : zAW E X Mt d pc lv st σ rv σ' := by
  intro p l e R s m args below meth c H locs cells slots Q D dA A ad ls cx hl hP hD hS wR wl ws hc hs he
  subst hi
  have h1 := (cx.2.2.2.2.2.2.2.1.2.2.2.2.1 i q hq).2.2.2.2
  exact va_ldcS cx.1 cx.2.1 (by rw [← hown]; exact cx.2.2.2.1) h1 hd (k p l e R s m args below meth c H locs cells slots Q D dA A ad ls cx hl hP hD hS wR wl (zwfs_cons (fun x hx => by cases hx; exact Or.inr (by omega)) ws) hc hs he)
theorem a_sval {idx i : Nat} {q : Nat × String × List Int32} (hd : decode Mt.2.1 pc = .ok (.getfield idx, 3)) (hq : zsr[i]? = some q) (hw : Cond.fieldLink Mt.1.cls idx "java/lang/String" "value" "[B" ∈ zT) (k : zAW E X Mt d (pc + 3) lv (zr (1050 + i) :: st) σ rv σ') : zAW E X Mt d pc lv (zr (1020 + i) :: st) σ rv σ' := by
  intro p l e R s m args below meth c H locs cells slots Q D dA A ad ls cx hl hP hD hS wR wl ws hc hs he
  have h1 := (cx.2.2.2.2.2.2.2.1.2.2.2.2.1 i q hq).2.2.1
  exact vk_getf cx.1 cx.2.1 h1 hS cx.2.2.2.1 (cx.2.2.2.2.1 _ hw) (fun _ h => h) hd (k p l e R s m args below meth c H locs cells slots Q D dA A ad ls cx hl hP hD hS wR wl (zwfs_cons (fun x hx => by cases hx; exact Or.inr (by omega)) (zwfs_tail ws)) hc hs he)
theorem a_scod {idx i : Nat} {q : Nat × String × List Int32} (hd : decode Mt.2.1 pc = .ok (.getfield idx, 3)) (hq : zsr[i]? = some q) (hw : Cond.fieldLink Mt.1.cls idx "java/lang/String" "coder" "B" ∈ zT) (k : zAW E X Mt d (pc + 3) lv (zi 0 :: st) σ rv σ') : zAW E X Mt d pc lv (zr (1020 + i) :: st) σ rv σ' := by
  intro p l e R s m args below meth c H locs cells slots Q D dA A ad ls cx hl hP hD hS wR wl ws hc hs he
  have h1 := (cx.2.2.2.2.2.2.2.1.2.2.2.2.1 i q hq).2.1
  exact vk_getf cx.1 cx.2.1 h1 hS cx.2.2.2.1 (cx.2.2.2.2.1 _ hw) (fun _ h => h) hd (k p l e R s m args below meth c H locs cells slots Q D dA A ad ls cx hl hP hD hS wR wl (zwfs_i (zwfs_tail ws)) hc hs he)
theorem a_scmp {idx : Nat} (hd : decode Mt.2.1 pc = .ok (.getstatic idx, 3)) (hw : Cond.fieldLink Mt.1.cls idx "java/lang/String" "COMPACT_STRINGS" "Z" ∈ zT) (k : zAW E X Mt d (pc + 3) lv (zi 1 :: st) σ rv σ') : zAW E X Mt d pc lv st σ rv σ' := by
  intro p l e R s m args below meth c H locs cells slots Q D dA A ad ls cx hl hP hD hS wR wl ws hc hs he
  exact va_gets cx.1 cx.2.1 cx.2.2.2.2.2.2.2.1.2.2.2.1 hS cx.2.2.2.1 (cx.2.2.2.2.1 _ hw) (fun _ h => h) hd (k p l e R s m args below meth c H locs cells slots Q D dA A ad ls cx hl hP hD hS wR wl (zwfs_i ws) hc hs he)
theorem a_sblen {i : Nat} {q : Nat × String × List Int32} (hd : decode Mt.2.1 pc = .ok (.arraylength, 1)) (hq : zsr[i]? = some q) (k : zAW E X Mt d (pc + 1) lv (zi (Int32.ofNat q.2.2.length) :: st) σ rv σ') : zAW E X Mt d pc lv (zr (1050 + i) :: st) σ rv σ' := by
  intro p l e R s m args below meth c H locs cells slots Q D dA A ad ls cx hl hP hD hS wR wl ws hc hs he
  have h1 := (cx.2.2.2.2.2.2.2.1.2.2.2.2.1 i q hq).2.2.2.1
  exact va_tlen cx.1 cx.2.1 h1 hS rfl hd (k p l e R s m args below meth c H locs cells slots Q D dA A ad ls cx hl hP hD hS wR wl (zwfs_i (zwfs_tail ws)) hc hs he)
theorem a_sbald {i : Nat} {q : Nat × String × List Int32} {x : Int32} (hd : decode Mt.2.1 pc = .ok (.baload, 1)) (hq : zsr[i]? = some q) (hin : vp_in x q.2.2.length) (k : zAW E X Mt d (pc + 1) lv (zi (q.2.2.getD x.toNatClampNeg 0) :: st) σ rv σ') : zAW E X Mt d pc lv (zi x :: zr (1050 + i) :: st) σ rv σ' := by
  intro p l e R s m args below meth c H locs cells slots Q D dA A ad ls cx hl hP hD hS wR wl ws hc hs he
  have h1 := (cx.2.2.2.2.2.2.2.1.2.2.2.2.1 i q hq).2.2.2.1
  exact va_tb cx.1 cx.2.1 h1 hS hin rfl hd (k p l e R s m args below meth c H locs cells slots Q D dA A ad ls cx hl hP hD hS wR wl (zwfs_i (zwfs_tail (zwfs_tail ws))) hc hs he)
theorem a_getfmt {idx : Nat} (hd : decode Mt.2.1 pc = .ok (.getstatic idx, 3)) (hw : Cond.fieldLink Mt.1.cls idx "jdk/internal/util/Preconditions" "SIOOBE_FORMATTER" "Ljava/util/function/BiFunction;" ∈ zT) (k : ∀ r : Option Nat, zAW E X Mt d (pc + 3) lv (zq r :: st) σ rv σ') : zAW E X Mt d pc lv st σ rv σ' := by
  intro p l e R s m args below meth c H locs cells slots Q D dA A ad ls cx hl hP hD hS wR wl ws hc hs he
  obtain ⟨r, h1, h2⟩ := cx.2.2.2.2.2.2.2.1.2.2.2.2.2.2
  exact va_gets cx.1 cx.2.1 h2 hS cx.2.2.2.1 (cx.2.2.2.2.1 _ hw) (fun _ h => h) hd (k r p l e R s m args below meth c H locs cells slots Q D dA A ad ls cx hl hP hD hS wR wl (zwfs_cons (fun x hx => by cases hx; exact Or.inr (by rw [h1 x rfl]; omega)) ws) hc hs he)
/-- a call upon a word -/
theorem a_callVs {Mt2 : zM} {idx i d2 : Nat} {q : Nat × String × List Int32} {As : List zV} {rv2 : Option zV} {σ2 : zW} {stk : List zV} (hd : decode Mt.2.1 pc = .ok (.invokevirtual idx, 3)) (hM : zAM X Mt2 d2 (zr (1020 + i) :: As) σ rv2 σ2) (hcv : zCv Mt2 As.length) (hlk : Cond.methodLink Mt.1.cls idx Mt2.1 ∈ zT) (hd2 : d2 + 1 ≤ d) (hq : zsr[i]? = some q) (hcl : Mt2.1.cls = "java/lang/String")
    (hstk : stk = As.reverse ++ zr (1020 + i) :: st) (h8 : (st.map zcat).sum ≤ 8) (hg : σ2.1.length ≤ σ'.1.length ∧ zsl σ2.1 ≤ zsl σ'.1) (k : znar Mt2 rv2 → zAW E X Mt d (pc + 3) lv (rv2.toList ++ st) σ2 rv σ') : zAW E X Mt d pc lv stk σ rv σ' := by
  intro p l e R s m args below meth c H locs cells slots Q D dA A ad ls cx hl hP hD hS wR wl ws hc hs he
  subst hstk
  obtain ⟨g1, g2, -, hMet⟩ := hM
  obtain ⟨⟨w1, w2, w3, w4⟩, w5, w6⟩ := hcv
  have wst : zwfs σ.1.length st := fun v hv => ws v (List.mem_append_right _ (List.mem_cons_of_mem _ hv))
  have was : zwfs σ.1.length (zr (1020 + i) :: As) := fun v hv => by
    rcases List.mem_cons.mp hv with e | hv
    · rw [e]; exact ws _ (List.mem_append_right _ List.mem_cons_self)
    · exact ws v (List.mem_append_left _ (List.mem_reverse.mpr hv))
  have hO := ((cx.2.2.2.2.2.2.2.1.2.2.2.2.1 i q hq).1).kept hS.2.1
  obtain ⟨cell, o1, o2, o3, -⟩ := hO
  refine z_call (pc := pc) (Mt2 := Mt2) (a := (Value.ref (ad (1020 + i)) :: As.map (zc ad)).toArray) ?_ g1 g2 k cx hl hD hS wl wst hc hs he
  refine va_runV (As := As.map (zc ad)) (b := ad (1020 + i)) (C := Mt2.1.cls) ⟨cx.1, cx.2.1, cx.2.2.1, cx.2.2.2.1, cx.2.2.2.2.1⟩ (hMet wR was l D dA ad H.size) (cwV As.length cx.2.2.2.2.1 (zgood (fun w hw => ?_)) rfl rfl rfl ⟨rfl, w3⟩ (zroom (n := 0) cx hd2 w4)) ⟨zblind, ⟨cell, o1, o2, by rw [hcl]; exact o3⟩, fun U hU hW => ⟨rfl, zpre cx hP hD hS U hU hW⟩⟩ rfl (by simp) hl.1 (by exact zmap_rev ad As (zr (1020 + i) :: st)) (zrest h8) hd ⟨by omega, by omega⟩
  simp only [wsV, List.cons_append, List.nil_append, List.mem_cons] at hw
  rcases hw with rfl | rfl | rfl | rfl | rfl | hw
  · exact hlk
  · exact w5
  · exact w6
  · exact w1
  · exact w2
  · exact hw
end zMakes
