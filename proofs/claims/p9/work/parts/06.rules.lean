/-! RULES: one an instruction -/
section zRules
variable {E : Nat × Nat × ((Nat → Prop) → Launch → State → Prop)} {X : Nat × (Nat → Int32)} {Mt : zM} {d pc : Nat} {lv : List (Nat × zV)} {st : List zV} {σ σ' : zW} {rv : Option zV} {S : List zS} {I : Nat → Nat → Int32} {L : Nat → Nat → Int64} {F : Nat → Nat → Option Nat}
def zrm (x y : Int32) : Int32 := x - x / y * y
theorem a_name {x : Int32} (k : ∀ v, v = x → zAW E X Mt d pc lv (zi v :: st) σ rv σ') : zAW E X Mt d pc lv (zi x :: st) σ rv σ' := k x rfl
theorem a_namel {x : Int64} (k : ∀ v, v = x → zAW E X Mt d pc lv (zl v :: st) σ rv σ') : zAW E X Mt d pc lv (zl x :: st) σ rv σ' := k x rfl
theorem zLs_at {ls : Array Slot} {n j i : Nat} {ad : Nat → Nat} {lv : List (Nat × zV)} {v : zV} (h : zLs ls n ad lv) (hk : lv[j]? = some (i, v)) : ls[i]? = some (.val (zc ad v)) := lv_at h j (by simp [List.getElem?_map, hk])
def zfl (i : Nat) (lv : List (Nat × zV)) : List (Nat × zV) := lv.filter (fun q => !(q.1 == i) && !(q.1 + 1 == i && zcat q.2 == 2))
def zfl2 (i : Nat) (lv : List (Nat × zV)) : List (Nat × zV) := lv.filter (fun q => !(q.1 == i) && (!(q.1 == i + 1) && !(q.1 + 1 == i && zcat q.2 == 2)))
theorem zfl_map (ad : Nat → Nat) (i : Nat) (v : zV) (lv : List (Nat × zV)) : (i, zc ad v) :: (lv.map fun q => (q.1, zc ad q.2)).filter (fun q => !(q.1 == i) && !(q.1 + 1 == i && q.2.category == 2)) = ((i, v) :: zfl i lv).map (fun q => (q.1, zc ad q.2)) := by
  simp only [List.map_cons, List.filter_map, zfl]
  congr 2
  apply List.filter_congr
  intro q _
  simp [zc_cat]
theorem zfl2_map (ad : Nat → Nat) (i : Nat) (v : zV) (lv : List (Nat × zV)) : (i, zc ad v) :: (lv.map fun q => (q.1, zc ad q.2)).filter (fun q => !(q.1 == i) && (!(q.1 == i + 1) && !(q.1 + 1 == i && q.2.category == 2))) = ((i, v) :: zfl2 i lv).map (fun q => (q.1, zc ad q.2)) := by
  simp only [List.map_cons, List.filter_map, zfl2]
  congr 2
  apply List.filter_congr
  intro q _
  simp [zc_cat]
theorem zwfl_cons {n i : Nat} {v : zV} {lv lv2 : List (Nat × zV)} (h : zwfl n lv) (hv : zwfv n v) (hs : ∀ q ∈ lv2, q ∈ lv) : zwfl n ((i, v) :: lv2) := fun q hq => by
  rcases List.mem_cons.mp hq with e | hq
  · rw [e]; exact hv
  · exact h q (hs q hq)
theorem zfl_sub {i : Nat} {lv : List (Nat × zV)} : ∀ q ∈ zfl i lv, q ∈ lv := fun _ h => (List.mem_filter.mp h).1
theorem zfl2_sub {i : Nat} {lv : List (Nat × zV)} : ∀ q ∈ zfl2 i lv, q ∈ lv := fun _ h => (List.mem_filter.mp h).1
theorem zwfv_at {n j i : Nat} {lv : List (Nat × zV)} {v : zV} (h : zwfl n lv) (hk : lv[j]? = some (i, v)) : zwfv n v := h (i, v) (List.mem_of_getElem? hk)
/-- fewer locals, or in another order: by their places -/
theorem a_sub {lv' : List (Nat × zV)} (ks : List Nat) (hs9 : ks.filterMap (fun k => lv[k]?) = lv') (k : zAW E X Mt d pc lv' st σ rv σ') : zAW E X Mt d pc lv st σ rv σ' := by
  intro p l e R s m args below meth c H locs cells slots Q D dA A ad ls cx hl hP hD hS wR wl ws hc hs he
  have hsub : ∀ q ∈ lv', q ∈ lv := fun q hq => by
    rw [← hs9] at hq
    obtain ⟨i, -, hi⟩ := List.mem_filterMap.mp hq
    exact List.mem_of_getElem? hi
  exact (k p l e R s m args below meth c H locs cells slots Q D dA A ad ls cx ⟨hl.1, hl.2.1, fun q hq => by obtain ⟨z, hz, e⟩ := List.mem_map.mp hq; exact hl.2.2 q (List.mem_map.mpr ⟨z, hsub z hz, e⟩)⟩ hP hD hS wR (fun q hq => wl q (hsub q hq)) ws hc hs he)
theorem a_iadd {x y : Int32} (hd : decode Mt.2.1 pc = .ok (.iadd, 1)) (k : zAW E X Mt d (pc + 1) lv (zi (x + y) :: st) σ rv σ') : zAW E X Mt d pc lv (zi y :: zi x :: st) σ rv σ' := by
  intro p l e R s m args below meth c H locs cells slots Q D dA A ad ls cx hl hP hD hS wR wl ws hc hs he
  exact lv_iadd cx.1 cx.2.1 hd (k p l e R s m args below meth c H locs cells slots Q D dA A ad ls cx hl hP hD hS wR wl (zwfs_i (zwfs_tail (zwfs_tail ws))) hc hs he)
theorem a_isub {x y : Int32} (hd : decode Mt.2.1 pc = .ok (.isub, 1)) (k : zAW E X Mt d (pc + 1) lv (zi (x - y) :: st) σ rv σ') : zAW E X Mt d pc lv (zi y :: zi x :: st) σ rv σ' := by
  intro p l e R s m args below meth c H locs cells slots Q D dA A ad ls cx hl hP hD hS wR wl ws hc hs he
  exact lv_isub cx.1 cx.2.1 hd (k p l e R s m args below meth c H locs cells slots Q D dA A ad ls cx hl hP hD hS wR wl (zwfs_i (zwfs_tail (zwfs_tail ws))) hc hs he)
theorem a_imul {x y : Int32} (hd : decode Mt.2.1 pc = .ok (.imul, 1)) (k : zAW E X Mt d (pc + 1) lv (zi (x * y) :: st) σ rv σ') : zAW E X Mt d pc lv (zi y :: zi x :: st) σ rv σ' := by
  intro p l e R s m args below meth c H locs cells slots Q D dA A ad ls cx hl hP hD hS wR wl ws hc hs he
  exact lv_imul cx.1 cx.2.1 hd (k p l e R s m args below meth c H locs cells slots Q D dA A ad ls cx hl hP hD hS wR wl (zwfs_i (zwfs_tail (zwfs_tail ws))) hc hs he)
theorem a_iand {x y : Int32} (hd : decode Mt.2.1 pc = .ok (.iand, 1)) (k : zAW E X Mt d (pc + 1) lv (zi (x &&& y) :: st) σ rv σ') : zAW E X Mt d pc lv (zi y :: zi x :: st) σ rv σ' := by
  intro p l e R s m args below meth c H locs cells slots Q D dA A ad ls cx hl hP hD hS wR wl ws hc hs he
  exact lv_iand cx.1 cx.2.1 hd (k p l e R s m args below meth c H locs cells slots Q D dA A ad ls cx hl hP hD hS wR wl (zwfs_i (zwfs_tail (zwfs_tail ws))) hc hs he)
theorem a_ior {x y : Int32} (hd : decode Mt.2.1 pc = .ok (.ior, 1)) (k : zAW E X Mt d (pc + 1) lv (zi (x ||| y) :: st) σ rv σ') : zAW E X Mt d pc lv (zi y :: zi x :: st) σ rv σ' := by
  intro p l e R s m args below meth c H locs cells slots Q D dA A ad ls cx hl hP hD hS wR wl ws hc hs he
  exact lv_ior cx.1 cx.2.1 hd (k p l e R s m args below meth c H locs cells slots Q D dA A ad ls cx hl hP hD hS wR wl (zwfs_i (zwfs_tail (zwfs_tail ws))) hc hs he)
theorem a_ixor {x y : Int32} (hd : decode Mt.2.1 pc = .ok (.ixor, 1)) (k : zAW E X Mt d (pc + 1) lv (zi (x ^^^ y) :: st) σ rv σ') : zAW E X Mt d pc lv (zi y :: zi x :: st) σ rv σ' := by
  intro p l e R s m args below meth c H locs cells slots Q D dA A ad ls cx hl hP hD hS wR wl ws hc hs he
  exact lv_ixor cx.1 cx.2.1 hd (k p l e R s m args below meth c H locs cells slots Q D dA A ad ls cx hl hP hD hS wR wl (zwfs_i (zwfs_tail (zwfs_tail ws))) hc hs he)
theorem a_ishl {x y : Int32} (hd : decode Mt.2.1 pc = .ok (.ishl, 1)) (k : zAW E X Mt d (pc + 1) lv (zi (x <<< (y &&& 31)) :: st) σ rv σ') : zAW E X Mt d pc lv (zi y :: zi x :: st) σ rv σ' := by
  intro p l e R s m args below meth c H locs cells slots Q D dA A ad ls cx hl hP hD hS wR wl ws hc hs he
  exact lv_ishl cx.1 cx.2.1 hd (k p l e R s m args below meth c H locs cells slots Q D dA A ad ls cx hl hP hD hS wR wl (zwfs_i (zwfs_tail (zwfs_tail ws))) hc hs he)
theorem a_ishr {x y : Int32} (hd : decode Mt.2.1 pc = .ok (.ishr, 1)) (k : zAW E X Mt d (pc + 1) lv (zi (x >>> (y &&& 31)) :: st) σ rv σ') : zAW E X Mt d pc lv (zi y :: zi x :: st) σ rv σ' := by
  intro p l e R s m args below meth c H locs cells slots Q D dA A ad ls cx hl hP hD hS wR wl ws hc hs he
  exact lv_ishr cx.1 cx.2.1 hd (k p l e R s m args below meth c H locs cells slots Q D dA A ad ls cx hl hP hD hS wR wl (zwfs_i (zwfs_tail (zwfs_tail ws))) hc hs he)
theorem a_idiv {x y : Int32} (hd : decode Mt.2.1 pc = .ok (.idiv, 1)) (hne : ¬ y = 0) (k : zAW E X Mt d (pc + 1) lv (zi (x / y) :: st) σ rv σ') : zAW E X Mt d pc lv (zi y :: zi x :: st) σ rv σ' := by
  intro p l e R s m args below meth c H locs cells slots Q D dA A ad ls cx hl hP hD hS wR wl ws hc hs he
  exact lv_idiv cx.1 cx.2.1 hd hne (k p l e R s m args below meth c H locs cells slots Q D dA A ad ls cx hl hP hD hS wR wl (zwfs_i (zwfs_tail (zwfs_tail ws))) hc hs he)
theorem a_irem {x y : Int32} (hd : decode Mt.2.1 pc = .ok (.irem, 1)) (hne : ¬ y = 0) (k : zAW E X Mt d (pc + 1) lv (zi (zrm x y) :: st) σ rv σ') : zAW E X Mt d pc lv (zi y :: zi x :: st) σ rv σ' := by
  intro p l e R s m args below meth c H locs cells slots Q D dA A ad ls cx hl hP hD hS wR wl ws hc hs he
  exact lv_irem cx.1 cx.2.1 hd hne (k p l e R s m args below meth c H locs cells slots Q D dA A ad ls cx hl hP hD hS wR wl (zwfs_i (zwfs_tail (zwfs_tail ws))) hc hs he)
theorem a_ladd {x y : Int64} (hd : decode Mt.2.1 pc = .ok (.ladd, 1)) (k : zAW E X Mt d (pc + 1) lv (zl (x + y) :: st) σ rv σ') : zAW E X Mt d pc lv (zl y :: zl x :: st) σ rv σ' := by
  intro p l e R s m args below meth c H locs cells slots Q D dA A ad ls cx hl hP hD hS wR wl ws hc hs he
  exact lv_ladd cx.1 cx.2.1 hd (k p l e R s m args below meth c H locs cells slots Q D dA A ad ls cx hl hP hD hS wR wl (zwfs_l (zwfs_tail (zwfs_tail ws))) hc hs he)
theorem a_lsub {x y : Int64} (hd : decode Mt.2.1 pc = .ok (.lsub, 1)) (k : zAW E X Mt d (pc + 1) lv (zl (x - y) :: st) σ rv σ') : zAW E X Mt d pc lv (zl y :: zl x :: st) σ rv σ' := by
  intro p l e R s m args below meth c H locs cells slots Q D dA A ad ls cx hl hP hD hS wR wl ws hc hs he
  exact lv_lsub cx.1 cx.2.1 hd (k p l e R s m args below meth c H locs cells slots Q D dA A ad ls cx hl hP hD hS wR wl (zwfs_l (zwfs_tail (zwfs_tail ws))) hc hs he)
theorem a_lmul {x y : Int64} (hd : decode Mt.2.1 pc = .ok (.lmul, 1)) (k : zAW E X Mt d (pc + 1) lv (zl (x * y) :: st) σ rv σ') : zAW E X Mt d pc lv (zl y :: zl x :: st) σ rv σ' := by
  intro p l e R s m args below meth c H locs cells slots Q D dA A ad ls cx hl hP hD hS wR wl ws hc hs he
  exact lv_lmul cx.1 cx.2.1 hd (k p l e R s m args below meth c H locs cells slots Q D dA A ad ls cx hl hP hD hS wR wl (zwfs_l (zwfs_tail (zwfs_tail ws))) hc hs he)
theorem a_land {x y : Int64} (hd : decode Mt.2.1 pc = .ok (.land, 1)) (k : zAW E X Mt d (pc + 1) lv (zl (x &&& y) :: st) σ rv σ') : zAW E X Mt d pc lv (zl y :: zl x :: st) σ rv σ' := by
  intro p l e R s m args below meth c H locs cells slots Q D dA A ad ls cx hl hP hD hS wR wl ws hc hs he
  exact lv_land cx.1 cx.2.1 hd (k p l e R s m args below meth c H locs cells slots Q D dA A ad ls cx hl hP hD hS wR wl (zwfs_l (zwfs_tail (zwfs_tail ws))) hc hs he)
theorem a_lor {x y : Int64} (hd : decode Mt.2.1 pc = .ok (.lor, 1)) (k : zAW E X Mt d (pc + 1) lv (zl (x ||| y) :: st) σ rv σ') : zAW E X Mt d pc lv (zl y :: zl x :: st) σ rv σ' := by
  intro p l e R s m args below meth c H locs cells slots Q D dA A ad ls cx hl hP hD hS wR wl ws hc hs he
  exact lv_lor cx.1 cx.2.1 hd (k p l e R s m args below meth c H locs cells slots Q D dA A ad ls cx hl hP hD hS wR wl (zwfs_l (zwfs_tail (zwfs_tail ws))) hc hs he)
theorem a_lshl {x : Int64} {y : Int32} (hd : decode Mt.2.1 pc = .ok (.lshl, 1)) (k : zAW E X Mt d (pc + 1) lv (zl (x <<< (y.toInt64 &&& 63)) :: st) σ rv σ') : zAW E X Mt d pc lv (zi y :: zl x :: st) σ rv σ' := by
  intro p l e R s m args below meth c H locs cells slots Q D dA A ad ls cx hl hP hD hS wR wl ws hc hs he
  exact lv_lshl cx.1 cx.2.1 hd rfl (k p l e R s m args below meth c H locs cells slots Q D dA A ad ls cx hl hP hD hS wR wl (zwfs_l (zwfs_tail (zwfs_tail ws))) hc hs he)
theorem a_lshr {x : Int64} {y : Int32} (hd : decode Mt.2.1 pc = .ok (.lshr, 1)) (k : zAW E X Mt d (pc + 1) lv (zl (x >>> (y.toInt64 &&& 63)) :: st) σ rv σ') : zAW E X Mt d pc lv (zi y :: zl x :: st) σ rv σ' := by
  intro p l e R s m args below meth c H locs cells slots Q D dA A ad ls cx hl hP hD hS wR wl ws hc hs he
  exact lv_lshr cx.1 cx.2.1 hd rfl (k p l e R s m args below meth c H locs cells slots Q D dA A ad ls cx hl hP hD hS wR wl (zwfs_l (zwfs_tail (zwfs_tail ws))) hc hs he)
theorem a_lushr {x : Int64} {y : Int32} (hd : decode Mt.2.1 pc = .ok (.lushr, 1)) (k : zAW E X Mt d (pc + 1) lv (zl ((x.toUInt64 >>> (y.toInt64.toUInt64 &&& Int64.toUInt64 63)).toInt64) :: st) σ rv σ') : zAW E X Mt d pc lv (zi y :: zl x :: st) σ rv σ' := by
  intro p l e R s m args below meth c H locs cells slots Q D dA A ad ls cx hl hP hD hS wR wl ws hc hs he
  exact lv_lushr cx.1 cx.2.1 hd rfl (k p l e R s m args below meth c H locs cells slots Q D dA A ad ls cx hl hP hD hS wR wl (zwfs_l (zwfs_tail (zwfs_tail ws))) hc hs he)
theorem a_lcmp {x y : Int64} (hd : decode Mt.2.1 pc = .ok (.lcmp, 1)) (k : zAW E X Mt d (pc + 1) lv (zi (lg_cmp x y) :: st) σ rv σ') : zAW E X Mt d pc lv (zl y :: zl x :: st) σ rv σ' := by
  intro p l e R s m args below meth c H locs cells slots Q D dA A ad ls cx hl hP hD hS wR wl ws hc hs he
  exact W.lcmp cx.1 cx.2.1 hd (k p l e R s m args below meth c H locs cells slots Q D dA A ad ls cx hl hP hD hS wR wl (zwfs_i (zwfs_tail (zwfs_tail ws))) hc hs he)
theorem a_ineg {x : Int32} (hd : decode Mt.2.1 pc = .ok (.ineg, 1)) (k : zAW E X Mt d (pc + 1) lv (zi (-x) :: st) σ rv σ') : zAW E X Mt d pc lv (zi x :: st) σ rv σ' := by
  intro p l e R s m args below meth c H locs cells slots Q D dA A ad ls cx hl hP hD hS wR wl ws hc hs he
  exact lv_ineg cx.1 cx.2.1 hd (k p l e R s m args below meth c H locs cells slots Q D dA A ad ls cx hl hP hD hS wR wl (zwfs_i (zwfs_tail ws)) hc hs he)
theorem a_i2l {x : Int32} (hd : decode Mt.2.1 pc = .ok (.i2l, 1)) (k : zAW E X Mt d (pc + 1) lv (zl x.toInt64 :: st) σ rv σ') : zAW E X Mt d pc lv (zi x :: st) σ rv σ' := by
  intro p l e R s m args below meth c H locs cells slots Q D dA A ad ls cx hl hP hD hS wR wl ws hc hs he
  exact lv_i2l cx.1 cx.2.1 hd rfl (k p l e R s m args below meth c H locs cells slots Q D dA A ad ls cx hl hP hD hS wR wl (zwfs_l (zwfs_tail ws)) hc hs he)
theorem a_l2i {x : Int64} (hd : decode Mt.2.1 pc = .ok (.l2i, 1)) (k : zAW E X Mt d (pc + 1) lv (zi x.toInt32 :: st) σ rv σ') : zAW E X Mt d pc lv (zl x :: st) σ rv σ' := by
  intro p l e R s m args below meth c H locs cells slots Q D dA A ad ls cx hl hP hD hS wR wl ws hc hs he
  exact lv_l2i cx.1 cx.2.1 hd rfl (k p l e R s m args below meth c H locs cells slots Q D dA A ad ls cx hl hP hD hS wR wl (zwfs_i (zwfs_tail ws)) hc hs he)
theorem a_i2c {x : Int32} (hd : decode Mt.2.1 pc = .ok (.i2c, 1)) (k : zAW E X Mt d (pc + 1) lv (zi (x.toUInt32 % 65536).toInt32 :: st) σ rv σ') : zAW E X Mt d pc lv (zi x :: st) σ rv σ' := by
  intro p l e R s m args below meth c H locs cells slots Q D dA A ad ls cx hl hP hD hS wR wl ws hc hs he
  exact lv_i2c cx.1 cx.2.1 hd rfl (k p l e R s m args below meth c H locs cells slots Q D dA A ad ls cx hl hP hD hS wR wl (zwfs_i (zwfs_tail ws)) hc hs he)
theorem a_iconst {n : Int} {v : Int32} (hd : decode Mt.2.1 pc = .ok (.iconst n, 1)) (hv : Int32.ofInt n = v) (k : zAW E X Mt d (pc + 1) lv (zi v :: st) σ rv σ') : zAW E X Mt d pc lv st σ rv σ' := by
  intro p l e R s m args below meth c H locs cells slots Q D dA A ad ls cx hl hP hD hS wR wl ws hc hs he
  exact lv_iconst cx.1 cx.2.1 hd hv (k p l e R s m args below meth c H locs cells slots Q D dA A ad ls cx hl hP hD hS wR wl (zwfs_i ws) hc hs he)
theorem a_bipush {n : Int} {v : Int32} (hd : decode Mt.2.1 pc = .ok (.bipush n, 2)) (hv : (Int8.ofInt n).toInt32 = v) (k : zAW E X Mt d (pc + 2) lv (zi v :: st) σ rv σ') : zAW E X Mt d pc lv st σ rv σ' := by
  intro p l e R s m args below meth c H locs cells slots Q D dA A ad ls cx hl hP hD hS wR wl ws hc hs he
  exact lv_bipush cx.1 cx.2.1 hd hv (k p l e R s m args below meth c H locs cells slots Q D dA A ad ls cx hl hP hD hS wR wl (zwfs_i ws) hc hs he)
theorem a_sipush {n : Int} {v : Int32} (hd : decode Mt.2.1 pc = .ok (.sipush n, 3)) (hv : (Int16.ofInt n).toInt32 = v) (k : zAW E X Mt d (pc + 3) lv (zi v :: st) σ rv σ') : zAW E X Mt d pc lv st σ rv σ' := by
  intro p l e R s m args below meth c H locs cells slots Q D dA A ad ls cx hl hP hD hS wR wl ws hc hs he
  exact lv_sipush cx.1 cx.2.1 hd hv (k p l e R s m args below meth c H locs cells slots Q D dA A ad ls cx hl hP hD hS wR wl (zwfs_i ws) hc hs he)
theorem a_lconst {n : Fin 2} {v : Int64} (hd : decode Mt.2.1 pc = .ok (.lconst n, 1)) (hv : Int64.ofNat (n : Nat) = v) (k : zAW E X Mt d (pc + 1) lv (zl v :: st) σ rv σ') : zAW E X Mt d pc lv st σ rv σ' := by
  intro p l e R s m args below meth c H locs cells slots Q D dA A ad ls cx hl hP hD hS wR wl ws hc hs he
  exact lv_lconst cx.1 cx.2.1 hd hv (k p l e R s m args below meth c H locs cells slots Q D dA A ad ls cx hl hP hD hS wR wl (zwfs_l ws) hc hs he)
theorem a_ldc {idx : Nat} {v : Int32} (hd : decode Mt.2.1 pc = .ok (.ldc idx, 2)) (hv : Cond.constant Mt.1.cls idx v ∈ zT) (k : zAW E X Mt d (pc + 2) lv (zi v :: st) σ rv σ') : zAW E X Mt d pc lv st σ rv σ' := by
  intro p l e R s m args below meth c H locs cells slots Q D dA A ad ls cx hl hP hD hS wR wl ws hc hs he
  exact lv_ldc cx.1 cx.2.1 cx.2.2.2.1 (cx.2.2.2.2.1 _ hv) hd (k p l e R s m args below meth c H locs cells slots Q D dA A ad ls cx hl hP hD hS wR wl (zwfs_i ws) hc hs he)
theorem a_ldc2 {idx : Nat} {v : Int64} (hd : decode Mt.2.1 pc = .ok (.ldc2_w idx, 3)) (hv : Cond.constantLong Mt.1.cls idx v ∈ zT) (k : zAW E X Mt d (pc + 3) lv (zl v :: st) σ rv σ') : zAW E X Mt d pc lv st σ rv σ' := by
  intro p l e R s m args below meth c H locs cells slots Q D dA A ad ls cx hl hP hD hS wR wl ws hc hs he
  exact lv_ldc2 cx.1 cx.2.1 cx.2.2.2.1 (cx.2.2.2.2.1 _ hv) hd (k p l e R s m args below meth c H locs cells slots Q D dA A ad ls cx hl hP hD hS wR wl (zwfs_l ws) hc hs he)
theorem a_dup {v : zV} (hd : decode Mt.2.1 pc = .ok (.dup, 1)) (hv : zcat v = 1) (k : zAW E X Mt d (pc + 1) lv (v :: v :: st) σ rv σ') : zAW E X Mt d pc lv (v :: st) σ rv σ' := by
  intro p l e R s m args below meth c H locs cells slots Q D dA A ad ls cx hl hP hD hS wR wl ws hc hs he
  exact lv_dup cx.1 cx.2.1 hd ((zc_cat ad v).trans hv) (k p l e R s m args below meth c H locs cells slots Q D dA A ad ls cx hl hP hD hS wR wl (zwfs_cons (zwfs_head ws) ws) hc hs he)
theorem a_pop {v : zV} (hd : decode Mt.2.1 pc = .ok (.pop, 1)) (hv : zcat v = 1) (k : zAW E X Mt d (pc + 1) lv st σ rv σ') : zAW E X Mt d pc lv (v :: st) σ rv σ' := by
  intro p l e R s m args below meth c H locs cells slots Q D dA A ad ls cx hl hP hD hS wR wl ws hc hs he
  exact lv_pop cx.1 cx.2.1 hd ((zc_cat ad v).trans hv) (k p l e R s m args below meth c H locs cells slots Q D dA A ad ls cx hl hP hD hS wR wl (zwfs_tail ws) hc hs he)
theorem a_dup2 {v u : zV} (hd : decode Mt.2.1 pc = .ok (.dup2, 1)) (hv : zcat v = 1) (hu : zcat u = 1) (k : zAW E X Mt d (pc + 1) lv (v :: u :: v :: u :: st) σ rv σ') : zAW E X Mt d pc lv (v :: u :: st) σ rv σ' := by
  intro p l e R s m args below meth c H locs cells slots Q D dA A ad ls cx hl hP hD hS wR wl ws hc hs he
  exact lv_dup2_11 cx.1 cx.2.1 hd ((zc_cat ad v).trans hv) ((zc_cat ad u).trans hu) (k p l e R s m args below meth c H locs cells slots Q D dA A ad ls cx hl hP hD hS wR wl (zwfs_cons (zwfs_head ws) (zwfs_cons (zwfs_head (zwfs_tail ws)) ws)) hc hs he)
theorem a_dup_x1 {v u : zV} (hd : decode Mt.2.1 pc = .ok (.dup_x1, 1)) (hv : zcat v = 1) (hu : zcat u = 1) (k : zAW E X Mt d (pc + 1) lv (v :: u :: v :: st) σ rv σ') : zAW E X Mt d pc lv (v :: u :: st) σ rv σ' := by
  intro p l e R s m args below meth c H locs cells slots Q D dA A ad ls cx hl hP hD hS wR wl ws hc hs he
  exact lv_dup_x1 cx.1 cx.2.1 hd ((zc_cat ad v).trans hv) ((zc_cat ad u).trans hu) (k p l e R s m args below meth c H locs cells slots Q D dA A ad ls cx hl hP hD hS wR wl (zwfs_cons (zwfs_head ws) (zwfs_cons (zwfs_head (zwfs_tail ws)) (zwfs_cons (zwfs_head ws) (zwfs_tail (zwfs_tail ws))))) hc hs he)
theorem a_iload_n {kk : Fin 4} {i : Nat} {x : Int32} (hd : decode Mt.2.1 pc = .ok (.iload_n kk, 1)) (hi : (kk : Nat) = i) (j : Nat) (hk : lv[j]? = some (i, zi x)) (k : zAW E X Mt d (pc + 1) lv (zi x :: st) σ rv σ') : zAW E X Mt d pc lv st σ rv σ' := by
  intro p l e R s m args below meth c H locs cells slots Q D dA A ad ls cx hl hP hD hS wR wl ws hc hs he
  exact lv_iload_n cx.1 cx.2.1 hd hi (zLs_at hl hk) (k p l e R s m args below meth c H locs cells slots Q D dA A ad ls cx hl hP hD hS wR wl (zwfs_cons (zwfv_at wl hk) ws) hc hs he)
theorem a_iload {i : Nat} {x : Int32} (hd : decode Mt.2.1 pc = .ok (.iload i, 2)) (j : Nat) (hk : lv[j]? = some (i, zi x)) (k : zAW E X Mt d (pc + 2) lv (zi x :: st) σ rv σ') : zAW E X Mt d pc lv st σ rv σ' := by
  intro p l e R s m args below meth c H locs cells slots Q D dA A ad ls cx hl hP hD hS wR wl ws hc hs he
  exact lv_iload cx.1 cx.2.1 hd (zLs_at hl hk) (k p l e R s m args below meth c H locs cells slots Q D dA A ad ls cx hl hP hD hS wR wl (zwfs_cons (zwfv_at wl hk) ws) hc hs he)
theorem a_lload_n {kk : Fin 4} {i : Nat} {x : Int64} (hd : decode Mt.2.1 pc = .ok (.lload_n kk, 1)) (hi : (kk : Nat) = i) (j : Nat) (hk : lv[j]? = some (i, zl x)) (k : zAW E X Mt d (pc + 1) lv (zl x :: st) σ rv σ') : zAW E X Mt d pc lv st σ rv σ' := by
  intro p l e R s m args below meth c H locs cells slots Q D dA A ad ls cx hl hP hD hS wR wl ws hc hs he
  exact lv_lload_n cx.1 cx.2.1 hd hi (zLs_at hl hk) (k p l e R s m args below meth c H locs cells slots Q D dA A ad ls cx hl hP hD hS wR wl (zwfs_cons (zwfv_at wl hk) ws) hc hs he)
theorem a_lload {i : Nat} {x : Int64} (hd : decode Mt.2.1 pc = .ok (.lload i, 2)) (j : Nat) (hk : lv[j]? = some (i, zl x)) (k : zAW E X Mt d (pc + 2) lv (zl x :: st) σ rv σ') : zAW E X Mt d pc lv st σ rv σ' := by
  intro p l e R s m args below meth c H locs cells slots Q D dA A ad ls cx hl hP hD hS wR wl ws hc hs he
  exact lv_lload cx.1 cx.2.1 hd (zLs_at hl hk) (k p l e R s m args below meth c H locs cells slots Q D dA A ad ls cx hl hP hD hS wR wl (zwfs_cons (zwfv_at wl hk) ws) hc hs he)
theorem a_aload_n {kk : Fin 4} {i : Nat} {x : Nat} (hd : decode Mt.2.1 pc = .ok (.aload_n kk, 1)) (hi : (kk : Nat) = i) (j : Nat) (hk : lv[j]? = some (i, zr x)) (k : zAW E X Mt d (pc + 1) lv (zr x :: st) σ rv σ') : zAW E X Mt d pc lv st σ rv σ' := by
  intro p l e R s m args below meth c H locs cells slots Q D dA A ad ls cx hl hP hD hS wR wl ws hc hs he
  exact lv_aload_n cx.1 cx.2.1 hd hi (zLs_at hl hk) (k p l e R s m args below meth c H locs cells slots Q D dA A ad ls cx hl hP hD hS wR wl (zwfs_cons (zwfv_at wl hk) ws) hc hs he)
theorem a_aload {i : Nat} {x : Nat} (hd : decode Mt.2.1 pc = .ok (.aload i, 2)) (j : Nat) (hk : lv[j]? = some (i, zr x)) (k : zAW E X Mt d (pc + 2) lv (zr x :: st) σ rv σ') : zAW E X Mt d pc lv st σ rv σ' := by
  intro p l e R s m args below meth c H locs cells slots Q D dA A ad ls cx hl hP hD hS wR wl ws hc hs he
  exact lv_aload cx.1 cx.2.1 hd (zLs_at hl hk) (k p l e R s m args below meth c H locs cells slots Q D dA A ad ls cx hl hP hD hS wR wl (zwfs_cons (zwfv_at wl hk) ws) hc hs he)
theorem a_istore_n {kk : Fin 4} {i : Nat} {x : Int32} {lv' : List (Nat × zV)} (hd : decode Mt.2.1 pc = .ok (.istore_n kk, 1)) (hi : (kk : Nat) = i) (hn : i < Mt.2.2.1) (h9 : (i, zi x) :: zfl i lv = lv') (k : zAW E X Mt d (pc + 1) lv' st σ rv σ') : zAW E X Mt d pc lv (zi x :: st) σ rv σ' := by
  intro p l e R s m args below meth c H locs cells slots Q D dA A ad ls cx hl hP hD hS wR wl ws hc hs he
  exact lv_istore_n cx.1 cx.2.1 hd hi hl hn (zfl_map ad i (zi x) lv) (fun ls' hl' => by rw [h9] at hl'; exact (k p l e R s m args below meth c H locs cells slots Q D dA A ad ls' cx hl' hP hD hS wR (h9 ▸ zwfl_cons wl (zwfs_head ws) zfl_sub) (zwfs_tail ws) hc hs he))
theorem a_istore {i : Nat} {x : Int32} {lv' : List (Nat × zV)} (hd : decode Mt.2.1 pc = .ok (.istore i, 2)) (hn : i < Mt.2.2.1) (h9 : (i, zi x) :: zfl i lv = lv') (k : zAW E X Mt d (pc + 2) lv' st σ rv σ') : zAW E X Mt d pc lv (zi x :: st) σ rv σ' := by
  intro p l e R s m args below meth c H locs cells slots Q D dA A ad ls cx hl hP hD hS wR wl ws hc hs he
  exact lv_istore cx.1 cx.2.1 hd hl hn (zfl_map ad i (zi x) lv) (fun ls' hl' => by rw [h9] at hl'; exact (k p l e R s m args below meth c H locs cells slots Q D dA A ad ls' cx hl' hP hD hS wR (h9 ▸ zwfl_cons wl (zwfs_head ws) zfl_sub) (zwfs_tail ws) hc hs he))
theorem a_astore_n {kk : Fin 4} {i : Nat} {x : Nat} {lv' : List (Nat × zV)} (hd : decode Mt.2.1 pc = .ok (.astore_n kk, 1)) (hi : (kk : Nat) = i) (hn : i < Mt.2.2.1) (h9 : (i, zr x) :: zfl i lv = lv') (k : zAW E X Mt d (pc + 1) lv' st σ rv σ') : zAW E X Mt d pc lv (zr x :: st) σ rv σ' := by
  intro p l e R s m args below meth c H locs cells slots Q D dA A ad ls cx hl hP hD hS wR wl ws hc hs he
  exact lv_astore_n cx.1 cx.2.1 hd hi hl hn (zfl_map ad i (zr x) lv) (fun ls' hl' => by rw [h9] at hl'; exact (k p l e R s m args below meth c H locs cells slots Q D dA A ad ls' cx hl' hP hD hS wR (h9 ▸ zwfl_cons wl (zwfs_head ws) zfl_sub) (zwfs_tail ws) hc hs he))
theorem a_astore {i : Nat} {x : Nat} {lv' : List (Nat × zV)} (hd : decode Mt.2.1 pc = .ok (.astore i, 2)) (hn : i < Mt.2.2.1) (h9 : (i, zr x) :: zfl i lv = lv') (k : zAW E X Mt d (pc + 2) lv' st σ rv σ') : zAW E X Mt d pc lv (zr x :: st) σ rv σ' := by
  intro p l e R s m args below meth c H locs cells slots Q D dA A ad ls cx hl hP hD hS wR wl ws hc hs he
  exact lv_astore cx.1 cx.2.1 hd hl hn (zfl_map ad i (zr x) lv) (fun ls' hl' => by rw [h9] at hl'; exact (k p l e R s m args below meth c H locs cells slots Q D dA A ad ls' cx hl' hP hD hS wR (h9 ▸ zwfl_cons wl (zwfs_head ws) zfl_sub) (zwfs_tail ws) hc hs he))
theorem a_lstore_n {kk : Fin 4} {i : Nat} {x : Int64} {lv' : List (Nat × zV)} (hd : decode Mt.2.1 pc = .ok (.lstore_n kk, 1)) (hi : (kk : Nat) = i) (hn : i + 1 < Mt.2.2.1) (h9 : (i, zl x) :: zfl2 i lv = lv') (k : zAW E X Mt d (pc + 1) lv' st σ rv σ') : zAW E X Mt d pc lv (zl x :: st) σ rv σ' := by
  intro p l e R s m args below meth c H locs cells slots Q D dA A ad ls cx hl hP hD hS wR wl ws hc hs he
  exact lv_lstore_n cx.1 cx.2.1 hd hi hl hn (zfl2_map ad i (zl x) lv) (fun ls' hl' => by rw [h9] at hl'; exact (k p l e R s m args below meth c H locs cells slots Q D dA A ad ls' cx hl' hP hD hS wR (h9 ▸ zwfl_cons wl (zwfs_head ws) zfl2_sub) (zwfs_tail ws) hc hs he))
theorem a_lstore {i : Nat} {x : Int64} {lv' : List (Nat × zV)} (hd : decode Mt.2.1 pc = .ok (.lstore i, 2)) (hn : i + 1 < Mt.2.2.1) (h9 : (i, zl x) :: zfl2 i lv = lv') (k : zAW E X Mt d (pc + 2) lv' st σ rv σ') : zAW E X Mt d pc lv (zl x :: st) σ rv σ' := by
  intro p l e R s m args below meth c H locs cells slots Q D dA A ad ls cx hl hP hD hS wR wl ws hc hs he
  exact lv_lstore cx.1 cx.2.1 hd hl hn (zfl2_map ad i (zl x) lv) (fun ls' hl' => by rw [h9] at hl'; exact (k p l e R s m args below meth c H locs cells slots Q D dA A ad ls' cx hl' hP hD hS wR (h9 ▸ zwfl_cons wl (zwfs_head ws) zfl2_sub) (zwfs_tail ws) hc hs he))
theorem a_iinc {i : Nat} {n : Int} {x v : Int32} {lv' : List (Nat × zV)} (hd : decode Mt.2.1 pc = .ok (.iinc i n, 3)) (j : Nat) (hk : lv[j]? = some (i, zi x)) (hv : x + Int32.ofInt n = v) (hn : i < Mt.2.2.1) (h9 : (i, zi v) :: zfl i lv = lv') (k : zAW E X Mt d (pc + 3) lv' st σ rv σ') : zAW E X Mt d pc lv st σ rv σ' := by
  intro p l e R s m args below meth c H locs cells slots Q D dA A ad ls cx hl hP hD hS wR wl ws hc hs he
  exact lv_iinc (k := j) (x := x) cx.1 cx.2.1 hd hl (by simp [List.getElem?_map, hk, zc]) hv hn (zfl_map ad i (zi v) lv) (fun ls' hl' => by rw [h9] at hl'; exact (k p l e R s m args below meth c H locs cells slots Q D dA A ad ls' cx hl' hP hD hS wR (h9 ▸ zwfl_cons wl zwfv_i zfl_sub) ws hc hs he))
theorem a_if_eq {x : Int32} {off : Int} {tgt : Nat} (hd : decode Mt.2.1 pc = .ok (.ifCond .eq off, 3)) (ht : (pc : Int) + off = (tgt : Int)) (kt : x = 0 → zAW E X Mt d tgt lv st σ rv σ') (kf : ¬ x = 0 → zAW E X Mt d (pc + 3) lv st σ rv σ') : zAW E X Mt d pc lv (zi x :: st) σ rv σ' := by
  intro p l e R s m args below meth c H locs cells slots Q D dA A ad ls cx hl hP hD hS wR wl ws hc hs he
  exact lv_if_eq cx.1 cx.2.1 hd ht (fun h => (kt h p l e R s m args below meth c H locs cells slots Q D dA A ad ls cx hl hP hD hS wR wl (zwfs_tail ws) hc hs he)) (fun h => (kf h p l e R s m args below meth c H locs cells slots Q D dA A ad ls cx hl hP hD hS wR wl (zwfs_tail ws) hc hs he))
theorem a_if_ne {x : Int32} {off : Int} {tgt : Nat} (hd : decode Mt.2.1 pc = .ok (.ifCond .ne off, 3)) (ht : (pc : Int) + off = (tgt : Int)) (kt : ¬ x = 0 → zAW E X Mt d tgt lv st σ rv σ') (kf : x = 0 → zAW E X Mt d (pc + 3) lv st σ rv σ') : zAW E X Mt d pc lv (zi x :: st) σ rv σ' := by
  intro p l e R s m args below meth c H locs cells slots Q D dA A ad ls cx hl hP hD hS wR wl ws hc hs he
  exact lv_if_ne cx.1 cx.2.1 hd ht (fun h => (kt h p l e R s m args below meth c H locs cells slots Q D dA A ad ls cx hl hP hD hS wR wl (zwfs_tail ws) hc hs he)) (fun h => (kf h p l e R s m args below meth c H locs cells slots Q D dA A ad ls cx hl hP hD hS wR wl (zwfs_tail ws) hc hs he))
theorem a_if_lt {x : Int32} {off : Int} {tgt : Nat} (hd : decode Mt.2.1 pc = .ok (.ifCond .lt off, 3)) (ht : (pc : Int) + off = (tgt : Int)) (kt : x < 0 → zAW E X Mt d tgt lv st σ rv σ') (kf : ¬ x < 0 → zAW E X Mt d (pc + 3) lv st σ rv σ') : zAW E X Mt d pc lv (zi x :: st) σ rv σ' := by
  intro p l e R s m args below meth c H locs cells slots Q D dA A ad ls cx hl hP hD hS wR wl ws hc hs he
  exact lv_if_lt cx.1 cx.2.1 hd ht (fun h => (kt h p l e R s m args below meth c H locs cells slots Q D dA A ad ls cx hl hP hD hS wR wl (zwfs_tail ws) hc hs he)) (fun h => (kf h p l e R s m args below meth c H locs cells slots Q D dA A ad ls cx hl hP hD hS wR wl (zwfs_tail ws) hc hs he))
theorem a_if_ge {x : Int32} {off : Int} {tgt : Nat} (hd : decode Mt.2.1 pc = .ok (.ifCond .ge off, 3)) (ht : (pc : Int) + off = (tgt : Int)) (kt : 0 ≤ x → zAW E X Mt d tgt lv st σ rv σ') (kf : ¬ 0 ≤ x → zAW E X Mt d (pc + 3) lv st σ rv σ') : zAW E X Mt d pc lv (zi x :: st) σ rv σ' := by
  intro p l e R s m args below meth c H locs cells slots Q D dA A ad ls cx hl hP hD hS wR wl ws hc hs he
  exact lv_if_ge cx.1 cx.2.1 hd ht (fun h => (kt h p l e R s m args below meth c H locs cells slots Q D dA A ad ls cx hl hP hD hS wR wl (zwfs_tail ws) hc hs he)) (fun h => (kf h p l e R s m args below meth c H locs cells slots Q D dA A ad ls cx hl hP hD hS wR wl (zwfs_tail ws) hc hs he))
theorem a_if_gt {x : Int32} {off : Int} {tgt : Nat} (hd : decode Mt.2.1 pc = .ok (.ifCond .gt off, 3)) (ht : (pc : Int) + off = (tgt : Int)) (kt : 0 < x → zAW E X Mt d tgt lv st σ rv σ') (kf : ¬ 0 < x → zAW E X Mt d (pc + 3) lv st σ rv σ') : zAW E X Mt d pc lv (zi x :: st) σ rv σ' := by
  intro p l e R s m args below meth c H locs cells slots Q D dA A ad ls cx hl hP hD hS wR wl ws hc hs he
  exact lv_if_gt cx.1 cx.2.1 hd ht (fun h => (kt h p l e R s m args below meth c H locs cells slots Q D dA A ad ls cx hl hP hD hS wR wl (zwfs_tail ws) hc hs he)) (fun h => (kf h p l e R s m args below meth c H locs cells slots Q D dA A ad ls cx hl hP hD hS wR wl (zwfs_tail ws) hc hs he))
theorem a_if_le {x : Int32} {off : Int} {tgt : Nat} (hd : decode Mt.2.1 pc = .ok (.ifCond .le off, 3)) (ht : (pc : Int) + off = (tgt : Int)) (kt : x ≤ 0 → zAW E X Mt d tgt lv st σ rv σ') (kf : ¬ x ≤ 0 → zAW E X Mt d (pc + 3) lv st σ rv σ') : zAW E X Mt d pc lv (zi x :: st) σ rv σ' := by
  intro p l e R s m args below meth c H locs cells slots Q D dA A ad ls cx hl hP hD hS wR wl ws hc hs he
  exact lv_if_le cx.1 cx.2.1 hd ht (fun h => (kt h p l e R s m args below meth c H locs cells slots Q D dA A ad ls cx hl hP hD hS wR wl (zwfs_tail ws) hc hs he)) (fun h => (kf h p l e R s m args below meth c H locs cells slots Q D dA A ad ls cx hl hP hD hS wR wl (zwfs_tail ws) hc hs he))
theorem a_icmp_eq {x y : Int32} {off : Int} {tgt : Nat} (hd : decode Mt.2.1 pc = .ok (.if_icmp .eq off, 3)) (ht : (pc : Int) + off = (tgt : Int)) (kt : x = y → zAW E X Mt d tgt lv st σ rv σ') (kf : ¬ x = y → zAW E X Mt d (pc + 3) lv st σ rv σ') : zAW E X Mt d pc lv (zi y :: zi x :: st) σ rv σ' := by
  intro p l e R s m args below meth c H locs cells slots Q D dA A ad ls cx hl hP hD hS wR wl ws hc hs he
  exact lv_icmp_eq cx.1 cx.2.1 hd ht (fun h => (kt h p l e R s m args below meth c H locs cells slots Q D dA A ad ls cx hl hP hD hS wR wl (zwfs_tail (zwfs_tail ws)) hc hs he)) (fun h => (kf h p l e R s m args below meth c H locs cells slots Q D dA A ad ls cx hl hP hD hS wR wl (zwfs_tail (zwfs_tail ws)) hc hs he))
theorem a_icmp_ne {x y : Int32} {off : Int} {tgt : Nat} (hd : decode Mt.2.1 pc = .ok (.if_icmp .ne off, 3)) (ht : (pc : Int) + off = (tgt : Int)) (kt : ¬ x = y → zAW E X Mt d tgt lv st σ rv σ') (kf : x = y → zAW E X Mt d (pc + 3) lv st σ rv σ') : zAW E X Mt d pc lv (zi y :: zi x :: st) σ rv σ' := by
  intro p l e R s m args below meth c H locs cells slots Q D dA A ad ls cx hl hP hD hS wR wl ws hc hs he
  exact lv_icmp_ne cx.1 cx.2.1 hd ht (fun h => (kt h p l e R s m args below meth c H locs cells slots Q D dA A ad ls cx hl hP hD hS wR wl (zwfs_tail (zwfs_tail ws)) hc hs he)) (fun h => (kf h p l e R s m args below meth c H locs cells slots Q D dA A ad ls cx hl hP hD hS wR wl (zwfs_tail (zwfs_tail ws)) hc hs he))
theorem a_icmp_lt {x y : Int32} {off : Int} {tgt : Nat} (hd : decode Mt.2.1 pc = .ok (.if_icmp .lt off, 3)) (ht : (pc : Int) + off = (tgt : Int)) (kt : x < y → zAW E X Mt d tgt lv st σ rv σ') (kf : ¬ x < y → zAW E X Mt d (pc + 3) lv st σ rv σ') : zAW E X Mt d pc lv (zi y :: zi x :: st) σ rv σ' := by
  intro p l e R s m args below meth c H locs cells slots Q D dA A ad ls cx hl hP hD hS wR wl ws hc hs he
  exact lv_icmp_lt cx.1 cx.2.1 hd ht (fun h => (kt h p l e R s m args below meth c H locs cells slots Q D dA A ad ls cx hl hP hD hS wR wl (zwfs_tail (zwfs_tail ws)) hc hs he)) (fun h => (kf h p l e R s m args below meth c H locs cells slots Q D dA A ad ls cx hl hP hD hS wR wl (zwfs_tail (zwfs_tail ws)) hc hs he))
theorem a_icmp_ge {x y : Int32} {off : Int} {tgt : Nat} (hd : decode Mt.2.1 pc = .ok (.if_icmp .ge off, 3)) (ht : (pc : Int) + off = (tgt : Int)) (kt : y ≤ x → zAW E X Mt d tgt lv st σ rv σ') (kf : ¬ y ≤ x → zAW E X Mt d (pc + 3) lv st σ rv σ') : zAW E X Mt d pc lv (zi y :: zi x :: st) σ rv σ' := by
  intro p l e R s m args below meth c H locs cells slots Q D dA A ad ls cx hl hP hD hS wR wl ws hc hs he
  exact lv_icmp_ge cx.1 cx.2.1 hd ht (fun h => (kt h p l e R s m args below meth c H locs cells slots Q D dA A ad ls cx hl hP hD hS wR wl (zwfs_tail (zwfs_tail ws)) hc hs he)) (fun h => (kf h p l e R s m args below meth c H locs cells slots Q D dA A ad ls cx hl hP hD hS wR wl (zwfs_tail (zwfs_tail ws)) hc hs he))
theorem a_icmp_gt {x y : Int32} {off : Int} {tgt : Nat} (hd : decode Mt.2.1 pc = .ok (.if_icmp .gt off, 3)) (ht : (pc : Int) + off = (tgt : Int)) (kt : y < x → zAW E X Mt d tgt lv st σ rv σ') (kf : ¬ y < x → zAW E X Mt d (pc + 3) lv st σ rv σ') : zAW E X Mt d pc lv (zi y :: zi x :: st) σ rv σ' := by
  intro p l e R s m args below meth c H locs cells slots Q D dA A ad ls cx hl hP hD hS wR wl ws hc hs he
  exact lv_icmp_gt cx.1 cx.2.1 hd ht (fun h => (kt h p l e R s m args below meth c H locs cells slots Q D dA A ad ls cx hl hP hD hS wR wl (zwfs_tail (zwfs_tail ws)) hc hs he)) (fun h => (kf h p l e R s m args below meth c H locs cells slots Q D dA A ad ls cx hl hP hD hS wR wl (zwfs_tail (zwfs_tail ws)) hc hs he))
theorem a_icmp_le {x y : Int32} {off : Int} {tgt : Nat} (hd : decode Mt.2.1 pc = .ok (.if_icmp .le off, 3)) (ht : (pc : Int) + off = (tgt : Int)) (kt : x ≤ y → zAW E X Mt d tgt lv st σ rv σ') (kf : ¬ x ≤ y → zAW E X Mt d (pc + 3) lv st σ rv σ') : zAW E X Mt d pc lv (zi y :: zi x :: st) σ rv σ' := by
  intro p l e R s m args below meth c H locs cells slots Q D dA A ad ls cx hl hP hD hS wR wl ws hc hs he
  exact lv_icmp_le cx.1 cx.2.1 hd ht (fun h => (kt h p l e R s m args below meth c H locs cells slots Q D dA A ad ls cx hl hP hD hS wR wl (zwfs_tail (zwfs_tail ws)) hc hs he)) (fun h => (kf h p l e R s m args below meth c H locs cells slots Q D dA A ad ls cx hl hP hD hS wR wl (zwfs_tail (zwfs_tail ws)) hc hs he))
theorem a_goto {off : Int} {tgt : Nat} (hd : decode Mt.2.1 pc = .ok (.goto off, 3)) (ht : (pc : Int) + off = (tgt : Int)) (k : zAW E X Mt d tgt lv st σ rv σ') : zAW E X Mt d pc lv st σ rv σ' := by
  intro p l e R s m args below meth c H locs cells slots Q D dA A ad ls cx hl hP hD hS wR wl ws hc hs he
  exact lv_goto cx.1 cx.2.1 hd ht (k p l e R s m args below meth c H locs cells slots Q D dA A ad ls cx hl hP hD hS wR wl ws hc hs he)
theorem a_tableIn {dflt lo hi : Int} {offs : Array Int} {len : Nat} {x : Int32} {off : Int} {tgt : Nat} (hd : decode Mt.2.1 pc = .ok (.tableswitch dflt lo hi offs, len)) (h1 : ¬ x.toInt < lo) (h2 : ¬ hi < x.toInt) (ho : offs[(x.toInt - lo).toNat]? = some off) (ht : (pc : Int) + off = (tgt : Int)) (k : zAW E X Mt d tgt lv st σ rv σ') : zAW E X Mt d pc lv (zi x :: st) σ rv σ' := by
  intro p l e R s m args below meth c H locs cells slots Q D dA A ad ls cx hl hP hD hS wR wl ws hc hs he
  exact lv_tableIn cx.1 cx.2.1 hd h1 h2 ho ht (k p l e R s m args below meth c H locs cells slots Q D dA A ad ls cx hl hP hD hS wR wl (zwfs_tail ws) hc hs he)
theorem a_tableOut {dflt lo hi : Int} {offs : Array Int} {len : Nat} {x : Int32} {tgt : Nat} (hd : decode Mt.2.1 pc = .ok (.tableswitch dflt lo hi offs, len)) (h : x.toInt < lo ∨ hi < x.toInt) (ht : (pc : Int) + dflt = (tgt : Int)) (k : zAW E X Mt d tgt lv st σ rv σ') : zAW E X Mt d pc lv (zi x :: st) σ rv σ' := by
  intro p l e R s m args below meth c H locs cells slots Q D dA A ad ls cx hl hP hD hS wR wl ws hc hs he
  exact lv_tableOut cx.1 cx.2.1 hd h ht (k p l e R s m args below meth c H locs cells slots Q D dA A ad ls cx hl hP hD hS wR wl (zwfs_tail ws) hc hs he)
theorem a_lookup {dflt : Int} {ps : Array (Int × Int)} {len : Nat} {x : Int32} {off : Int} {tgt : Nat} (hd : decode Mt.2.1 pc = .ok (.lookupswitch dflt ps, len)) (hp9 : (ps.toList.zip (ps.toList.drop 1)).all (fun (a, next) => a.1 < next.1) = true) (ho : Op.lookupswitch.offset ps.toList dflt x.toInt = off) (ht : (pc : Int) + off = (tgt : Int)) (k : zAW E X Mt d tgt lv st σ rv σ') : zAW E X Mt d pc lv (zi x :: st) σ rv σ' := by
  intro p l e R s m args below meth c H locs cells slots Q D dA A ad ls cx hl hP hD hS wR wl ws hc hs he
  exact lv_lookup cx.1 cx.2.1 hd hp9 ho ht (k p l e R s m args below meth c H locs cells slots Q D dA A ad ls cx hl hP hD hS wR wl (zwfs_tail ws) hc hs he)
/-- what is known of a class of the picture -/
def zCls (ci : Nat) (C : String) (T : u_T) (N : Nat) : Prop := vwCl[ci]? = some (C, T, N) ∧ (∀ w ∈ u_ws C T N, w ∈ zT) ∧ (∀ a, a < N → ∀ b, b < N → a ≠ b → (T a).2.1 ≠ (T b).2.1) ∧ ∀ k, k < N → parseFieldDescriptor (T k).2.2.1 = some (zty ci k)
/-- the pool's place idx of the class own is the field k of the class ci; fin: it is final -/
def zFl (own : String) (idx ci k : Nat) (fin : Bool) : Prop := ∃ (C : String) (T : u_T) (N : Nat), zCls ci C T N ∧ k < N ∧ Cond.fieldLink own idx (T k).1 (T k).2.1 (T k).2.2.1 ∈ zT ∧ (T k).2.2.2 = fin ∧ (fin = true → (T k).1 = own)
/-- .. to be read -/
def zFlg (own : String) (idx ci k : Nat) : Prop := ∃ (C : String) (T : u_T) (N : Nat), zCls ci C T N ∧ k < N ∧ Cond.fieldLink own idx (T k).1 (T k).2.1 (T k).2.2.1 ∈ zT
theorem zFl_g {own : String} {idx ci k : Nat} {fin : Bool} (h : zFl own idx ci k fin) : zFlg own idx ci k := by
  obtain ⟨C, T, N, h1, h2, h3, -⟩ := h
  exact ⟨C, T, N, h1, h2, h3⟩
theorem zn_of {ci : Nat} {C : String} {T : u_T} {N : Nat} (h : vwCl[ci]? = some (C, T, N)) : zn ci = N := by simp [zn, h]
theorem a_geti {idx o ci k9 : Nat} (hd : decode Mt.2.1 pc = .ok (.getfield idx, 3)) (hf : zFlg Mt.1.cls idx ci k9) (hsh : S[o]? = some (.inl ci)) (ht : zkind (zty ci k9) = 0) (k : zAW E X Mt d (pc + 3) lv (zi (I o k9) :: st) (S, I, L, F) rv σ') : zAW E X Mt d pc lv (zr o :: st) (S, I, L, F) rv σ' := by
  intro p l e R s m args below meth c H locs cells slots Q D dA A ad ls cx hl hP hD hS wR wl ws hc hs he
  obtain ⟨C, T, N, ⟨c1, c2, c3, c4⟩, h1, h2⟩ := hf
  have e9 : zn ci = N := zn_of c1
  exact va_get (D := D) (ci := ci) (v := .int (I o k9)) cx.1 cx.2.1 cx.2.2.2.2.1 c2 cx.2.2.2.1 cx.2.2.2.2.2.2.2.1.1 hP o (zws_obj hsh) c1 k9 h1 (cx.2.2.2.2.1 _ h2) (fun _ h9 => h9) (by rw [zfs_get (by rw [e9]; exact h1)]; simp [zfv, ht]) hd (k p l e R s m args below meth c H locs cells slots Q D dA A ad ls cx hl hP hD hS wR wl (zwfs_i (zwfs_tail ws)) hc hs he)
theorem a_getq {idx o ci k9 : Nat} {r : Option Nat} (hd : decode Mt.2.1 pc = .ok (.getfield idx, 3)) (hf : zFlg Mt.1.cls idx ci k9) (hsh : S[o]? = some (.inl ci)) (ht : zkind (zty ci k9) = 2) (hr : F o k9 = r) (k : zAW E X Mt d (pc + 3) lv (zq r :: st) (S, I, L, F) rv σ') : zAW E X Mt d pc lv (zr o :: st) (S, I, L, F) rv σ' := by
  intro p l e R s m args below meth c H locs cells slots Q D dA A ad ls cx hl hP hD hS wR wl ws hc hs he
  obtain ⟨C, T, N, ⟨c1, c2, c3, c4⟩, h1, h2⟩ := hf
  have e9 : zn ci = N := zn_of c1
  exact va_get (D := D) (ci := ci) (v := zc ad (zq r)) cx.1 cx.2.1 cx.2.2.2.2.1 c2 cx.2.2.2.1 cx.2.2.2.2.2.2.2.1.1 hP o (zws_obj hsh) c1 k9 h1 (cx.2.2.2.2.1 _ h2) (fun _ h9 => h9) (by rw [zfs_get (by rw [e9]; exact h1)]; simp [zfv, ht, zc, hr]) hd (k p l e R s m args below meth c H locs cells slots Q D dA A ad ls cx hl hP hD hS wR wl (zwfs_cons (fun x hx => wR o k9 x (hr.trans (by cases hx; rfl))) (zwfs_tail ws)) hc hs he)
theorem a_puti {idx o ci k9 : Nat} {x : Int32} (hd : decode Mt.2.1 pc = .ok (.putfield idx, 3)) (hf : zFl Mt.1.cls idx ci k9 false) (hsh : S[o]? = some (.inl ci)) (ht : zkind (zty ci k9) = 0) (hn : narrow (zty ci k9) (.int x) = .int x ∧ fits (zty ci k9) (.int x) = true) (k : zAW E X Mt d (pc + 3) lv st (S, zu I o k9 x, L, F) rv σ') : zAW E X Mt d pc lv (zi x :: zr o :: st) (S, I, L, F) rv σ' := by
  intro p l e R s m args below meth c H locs cells slots Q D dA A ad ls cx hl hP hD hS wR wl ws hc hs he
  obtain ⟨C, T, N, ⟨c1, c2, c3, c4⟩, h1, h2, h3, h4⟩ := hf
  have e9 : zn ci = N := zn_of c1
  refine va_put (D := D) (ci := ci) (v := .int x) (ty := zty ci k9) cx.1 cx.2.1 cx.2.2.2.2.1 c2 (zty ci) c4 c3 cx.2.2.2.1 cx.2.2.2.2.2.2.2.1.1 hP hD hS o (zws_obj hsh) c1 k9 h1 (cx.2.2.2.2.1 _ h2) (fun _ h9 => h9) h3  (c4 k9 h1) hn.1 hn.2 (by simp [zfs, e9, h1]) hd (fun H1 locs1 hP1 hD1 hS1 => ?_)
  rw [zset_i hsh (by rw [e9]; exact h1) ht] at hP1 hD1
  exact (k p l e R s m args below meth c H1 locs1 cells slots Q D dA A ad ls cx hl hP1 hD1 hS1 wR wl (zwfs_tail (zwfs_tail ws)) hc hs he)
theorem a_putq {idx o ci k9 : Nat} {r : Option Nat} (hd : decode Mt.2.1 pc = .ok (.putfield idx, 3)) (hf : zFl Mt.1.cls idx ci k9 false) (hsh : S[o]? = some (.inl ci)) (ht : zkind (zty ci k9) = 2) (hn9 : ∀ z : Option Nat, narrow (zty ci k9) (va_rf z) = va_rf z ∧ fits (zty ci k9) (va_rf z) = true) (k : zAW E X Mt d (pc + 3) lv st (S, I, L, zu F o k9 r) rv σ') : zAW E X Mt d pc lv (zq r :: zr o :: st) (S, I, L, F) rv σ' := by
  intro p l e R s m args below meth c H locs cells slots Q D dA A ad ls cx hl hP hD hS wR wl ws hc hs he
  obtain ⟨C, T, N, ⟨c1, c2, c3, c4⟩, h1, h2, h3, h4⟩ := hf
  have e9 : zn ci = N := zn_of c1
  refine va_put (D := D) (ci := ci) (v := va_rf (r.map ad)) (ty := zty ci k9) cx.1 cx.2.1 cx.2.2.2.2.1 c2 (zty ci) c4 c3 cx.2.2.2.1 cx.2.2.2.2.2.2.2.1.1 hP hD hS o (zws_obj hsh) c1 k9 h1 (cx.2.2.2.2.1 _ h2) (fun _ h9 => h9) h3  (c4 k9 h1) (hn9 _).1 (hn9 _).2 (by simp [zfs, e9, h1]) hd (fun H1 locs1 hP1 hD1 hS1 => ?_)
  rw [zset_q hsh (by rw [e9]; exact h1) ht] at hP1 hD1
  exact (k p l e R s m args below meth c H1 locs1 cells slots Q D dA A ad ls cx hl hP1 hD1 hS1 (fun a b y hy => by simp only [zu] at hy; split at hy <;> (try split at hy) <;> first | exact wR a b y hy | exact (zwfs_head ws) y (by rw [hy])) wl (zwfs_tail (zwfs_tail ws)) hc hs he)
theorem a_putiF {idx o ci k9 : Nat} {x : Int32} (hd : decode Mt.2.1 pc = .ok (.putfield idx, 3)) (hf : zFl Mt.1.cls idx ci k9 true) (hsh : S[o]? = some (.inl ci)) (ht : zkind (zty ci k9) = 0) (hn : narrow (zty ci k9) (.int x) = .int x ∧ fits (zty ci k9) (.int x) = true) (hi9 : Mt.1.name = "<init>") (k : zAW E X Mt d (pc + 3) lv st (S, zu I o k9 x, L, F) rv σ') : zAW E X Mt d pc lv (zi x :: zr o :: st) (S, I, L, F) rv σ' := by
  intro p l e R s m args below meth c H locs cells slots Q D dA A ad ls cx hl hP hD hS wR wl ws hc hs he
  obtain ⟨C, T, N, ⟨c1, c2, c3, c4⟩, h1, h2, h3, h4⟩ := hf
  have e9 : zn ci = N := zn_of c1
  refine va_putF (D := D) (ci := ci) (v := .int x) (ty := zty ci k9) cx.1 cx.2.1 cx.2.2.2.2.1 c2 (zty ci) c4 c3 cx.2.2.2.1 cx.2.2.2.2.2.2.2.1.1 hP hD hS o (zws_obj hsh) c1 k9 h1 (cx.2.2.2.2.1 _ h2) (fun _ h9 => h9) h3 (cx.2.2.2.2.2.1 hi9) (h4 rfl) (c4 k9 h1) hn.1 hn.2 (by simp [zfs, e9, h1]) hd (fun H1 locs1 hP1 hD1 hS1 => ?_)
  rw [zset_i hsh (by rw [e9]; exact h1) ht] at hP1 hD1
  exact (k p l e R s m args below meth c H1 locs1 cells slots Q D dA A ad ls cx hl hP1 hD1 hS1 wR wl (zwfs_tail (zwfs_tail ws)) hc hs he)
theorem a_putqF {idx o ci k9 : Nat} {r : Option Nat} (hd : decode Mt.2.1 pc = .ok (.putfield idx, 3)) (hf : zFl Mt.1.cls idx ci k9 true) (hsh : S[o]? = some (.inl ci)) (ht : zkind (zty ci k9) = 2) (hn9 : ∀ z : Option Nat, narrow (zty ci k9) (va_rf z) = va_rf z ∧ fits (zty ci k9) (va_rf z) = true) (hi9 : Mt.1.name = "<init>") (k : zAW E X Mt d (pc + 3) lv st (S, I, L, zu F o k9 r) rv σ') : zAW E X Mt d pc lv (zq r :: zr o :: st) (S, I, L, F) rv σ' := by
  intro p l e R s m args below meth c H locs cells slots Q D dA A ad ls cx hl hP hD hS wR wl ws hc hs he
  obtain ⟨C, T, N, ⟨c1, c2, c3, c4⟩, h1, h2, h3, h4⟩ := hf
  have e9 : zn ci = N := zn_of c1
  refine va_putF (D := D) (ci := ci) (v := va_rf (r.map ad)) (ty := zty ci k9) cx.1 cx.2.1 cx.2.2.2.2.1 c2 (zty ci) c4 c3 cx.2.2.2.1 cx.2.2.2.2.2.2.2.1.1 hP hD hS o (zws_obj hsh) c1 k9 h1 (cx.2.2.2.2.1 _ h2) (fun _ h9 => h9) h3 (cx.2.2.2.2.2.1 hi9) (h4 rfl) (c4 k9 h1) (hn9 _).1 (hn9 _).2 (by simp [zfs, e9, h1]) hd (fun H1 locs1 hP1 hD1 hS1 => ?_)
  rw [zset_q hsh (by rw [e9]; exact h1) ht] at hP1 hD1
  exact (k p l e R s m args below meth c H1 locs1 cells slots Q D dA A ad ls cx hl hP1 hD1 hS1 (fun a b y hy => by simp only [zu] at hy; split at hy <;> (try split at hy) <;> first | exact wR a b y hy | exact (zwfs_head ws) y (by rw [hy])) wl (zwfs_tail (zwfs_tail ws)) hc hs he)
theorem a_iald {o n : Nat} {i : Int32} (hd : decode Mt.2.1 pc = .ok (.iaload, 1)) (hsh : S[o]? = some (.inr (.int, n))) (hin : vp_in i n) (k : zAW E X Mt d (pc + 1) lv (zi (I o i.toNatClampNeg) :: st) (S, I, L, F) rv σ') : zAW E X Mt d pc lv (zi i :: zr o :: st) (S, I, L, F) rv σ' := by
  intro p l e R s m args below meth c H locs cells slots Q D dA A ad ls cx hl hP hD hS wR wl ws hc hs he
  exact va_iald (D := D) cx.1 cx.2.1 cx.2.2.2.2.2.2.2.1.1 hP o 0 (zws_arr hsh) rfl hin hd (k p l e R s m args below meth c H locs cells slots Q D dA A ad ls cx hl hP hD hS wR wl (zwfs_i (zwfs_tail (zwfs_tail ws))) hc hs he)
theorem a_iast {o n : Nat} {i : Int32} {x : Int32} (hd : decode Mt.2.1 pc = .ok (.iastore, 1)) (hsh : S[o]? = some (.inr (.int, n))) (hin : vp_in i n) (k : zAW E X Mt d (pc + 1) lv st (S, zu I o i.toNatClampNeg x, L, F) rv σ') : zAW E X Mt d pc lv (zi x :: zi i :: zr o :: st) (S, I, L, F) rv σ' := by
  intro p l e R s m args below meth c H locs cells slots Q D dA A ad ls cx hl hP hD hS wR wl ws hc hs he
  refine va_iast (D := D) cx.1 cx.2.1 cx.2.2.2.2.2.2.2.1.1 hP hD hS o 0 (zws_arr hsh) rfl hin hd (fun H1 locs1 hP1 hD1 hS1 => ?_)
  have e1 := zseta_i (σ := (S, I, L, F)) (dA := dA) (ad := ad) (k := i.toNatClampNeg) (x := x) hsh rfl
  rw [e1] at hP1 hD1
  exact (k p l e R s m args below meth c H1 locs1 cells slots Q D dA A ad ls cx hl hP1 hD1 hS1 wR wl (zwfs_tail (zwfs_tail (zwfs_tail ws))) hc hs he)
theorem a_alen_i {o n : Nat} (hd : decode Mt.2.1 pc = .ok (.arraylength, 1)) (hsh : S[o]? = some (.inr (.int, n))) (k : zAW E X Mt d (pc + 1) lv (zi (Int32.ofNat n) :: st) (S, I, L, F) rv σ') : zAW E X Mt d pc lv (zr o :: st) (S, I, L, F) rv σ' := by
  intro p l e R s m args below meth c H locs cells slots Q D dA A ad ls cx hl hP hD hS wR wl ws hc hs he
  exact va_alen (D := D) cx.1 cx.2.1 cx.2.2.2.2.2.2.2.1.1 hP o 0 (zws_arr hsh) rfl rfl hd (k p l e R s m args below meth c H locs cells slots Q D dA A ad ls cx hl hP hD hS wR wl (zwfs_i (zwfs_tail ws)) hc hs he)
theorem a_cald {o n : Nat} {i : Int32} (hd : decode Mt.2.1 pc = .ok (.caload, 1)) (hsh : S[o]? = some (.inr (.char, n))) (hin : vp_in i n) (k : zAW E X Mt d (pc + 1) lv (zi (I o i.toNatClampNeg) :: st) (S, I, L, F) rv σ') : zAW E X Mt d pc lv (zi i :: zr o :: st) (S, I, L, F) rv σ' := by
  intro p l e R s m args below meth c H locs cells slots Q D dA A ad ls cx hl hP hD hS wR wl ws hc hs he
  exact va_cald (D := D) cx.1 cx.2.1 cx.2.2.2.2.2.2.2.1.1 hP o 1 (zws_arr hsh) rfl hin hd (k p l e R s m args below meth c H locs cells slots Q D dA A ad ls cx hl hP hD hS wR wl (zwfs_i (zwfs_tail (zwfs_tail ws))) hc hs he)
theorem a_cast {o n : Nat} {i : Int32} {x : Int32} (hd : decode Mt.2.1 pc = .ok (.castore, 1)) (hsh : S[o]? = some (.inr (.char, n))) (hin : vp_in i n) (k : zAW E X Mt d (pc + 1) lv st (S, zu I o i.toNatClampNeg (vp_nar .char x), L, F) rv σ') : zAW E X Mt d pc lv (zi x :: zi i :: zr o :: st) (S, I, L, F) rv σ' := by
  intro p l e R s m args below meth c H locs cells slots Q D dA A ad ls cx hl hP hD hS wR wl ws hc hs he
  refine va_cast (D := D) cx.1 cx.2.1 cx.2.2.2.2.2.2.2.1.1 hP hD hS o 1 (zws_arr hsh) rfl hin hd (fun H1 locs1 hP1 hD1 hS1 => ?_)
  have e1 := zseta_i (σ := (S, I, L, F)) (dA := dA) (ad := ad) (k := i.toNatClampNeg) (x := (vp_nar .char x)) hsh rfl
  rw [e1] at hP1 hD1
  exact (k p l e R s m args below meth c H1 locs1 cells slots Q D dA A ad ls cx hl hP1 hD1 hS1 wR wl (zwfs_tail (zwfs_tail (zwfs_tail ws))) hc hs he)
theorem a_alen_c {o n : Nat} (hd : decode Mt.2.1 pc = .ok (.arraylength, 1)) (hsh : S[o]? = some (.inr (.char, n))) (k : zAW E X Mt d (pc + 1) lv (zi (Int32.ofNat n) :: st) (S, I, L, F) rv σ') : zAW E X Mt d pc lv (zr o :: st) (S, I, L, F) rv σ' := by
  intro p l e R s m args below meth c H locs cells slots Q D dA A ad ls cx hl hP hD hS wR wl ws hc hs he
  exact va_alen (D := D) cx.1 cx.2.1 cx.2.2.2.2.2.2.2.1.1 hP o 1 (zws_arr hsh) rfl rfl hd (k p l e R s m args below meth c H locs cells slots Q D dA A ad ls cx hl hP hD hS wR wl (zwfs_i (zwfs_tail ws)) hc hs he)
theorem a_zald {o n : Nat} {i : Int32} (hd : decode Mt.2.1 pc = .ok (.baload, 1)) (hsh : S[o]? = some (.inr (.boolean, n))) (hin : vp_in i n) (k : zAW E X Mt d (pc + 1) lv (zi (I o i.toNatClampNeg) :: st) (S, I, L, F) rv σ') : zAW E X Mt d pc lv (zi i :: zr o :: st) (S, I, L, F) rv σ' := by
  intro p l e R s m args below meth c H locs cells slots Q D dA A ad ls cx hl hP hD hS wR wl ws hc hs he
  exact va_zald (D := D) cx.1 cx.2.1 cx.2.2.2.2.2.2.2.1.1 hP o 2 (zws_arr hsh) rfl hin hd (k p l e R s m args below meth c H locs cells slots Q D dA A ad ls cx hl hP hD hS wR wl (zwfs_i (zwfs_tail (zwfs_tail ws))) hc hs he)
theorem a_zast {o n : Nat} {i : Int32} {x : Int32} (hd : decode Mt.2.1 pc = .ok (.bastore, 1)) (hsh : S[o]? = some (.inr (.boolean, n))) (hin : vp_in i n) (k : zAW E X Mt d (pc + 1) lv st (S, zu I o i.toNatClampNeg (vp_nar .boolean x), L, F) rv σ') : zAW E X Mt d pc lv (zi x :: zi i :: zr o :: st) (S, I, L, F) rv σ' := by
  intro p l e R s m args below meth c H locs cells slots Q D dA A ad ls cx hl hP hD hS wR wl ws hc hs he
  refine va_zast (D := D) cx.1 cx.2.1 cx.2.2.2.2.2.2.2.1.1 hP hD hS o 2 (zws_arr hsh) rfl hin hd (fun H1 locs1 hP1 hD1 hS1 => ?_)
  have e1 := zseta_i (σ := (S, I, L, F)) (dA := dA) (ad := ad) (k := i.toNatClampNeg) (x := (vp_nar .boolean x)) hsh rfl
  rw [e1] at hP1 hD1
  exact (k p l e R s m args below meth c H1 locs1 cells slots Q D dA A ad ls cx hl hP1 hD1 hS1 wR wl (zwfs_tail (zwfs_tail (zwfs_tail ws))) hc hs he)
theorem a_alen_z {o n : Nat} (hd : decode Mt.2.1 pc = .ok (.arraylength, 1)) (hsh : S[o]? = some (.inr (.boolean, n))) (k : zAW E X Mt d (pc + 1) lv (zi (Int32.ofNat n) :: st) (S, I, L, F) rv σ') : zAW E X Mt d pc lv (zr o :: st) (S, I, L, F) rv σ' := by
  intro p l e R s m args below meth c H locs cells slots Q D dA A ad ls cx hl hP hD hS wR wl ws hc hs he
  exact va_alen (D := D) cx.1 cx.2.1 cx.2.2.2.2.2.2.2.1.1 hP o 2 (zws_arr hsh) rfl rfl hd (k p l e R s m args below meth c H locs cells slots Q D dA A ad ls cx hl hP hD hS wR wl (zwfs_i (zwfs_tail ws)) hc hs he)
theorem a_lald {o n : Nat} {i : Int32} (hd : decode Mt.2.1 pc = .ok (.laload, 1)) (hsh : S[o]? = some (.inr (.long, n))) (hin : vp_in i n) (k : zAW E X Mt d (pc + 1) lv (zl (L o i.toNatClampNeg) :: st) (S, I, L, F) rv σ') : zAW E X Mt d pc lv (zi i :: zr o :: st) (S, I, L, F) rv σ' := by
  intro p l e R s m args below meth c H locs cells slots Q D dA A ad ls cx hl hP hD hS wR wl ws hc hs he
  exact va_lald (D := D) cx.1 cx.2.1 cx.2.2.2.2.2.2.2.1.1 hP o 3 (zws_arr hsh) rfl hin hd (k p l e R s m args below meth c H locs cells slots Q D dA A ad ls cx hl hP hD hS wR wl (zwfs_l (zwfs_tail (zwfs_tail ws))) hc hs he)
theorem a_last {o n : Nat} {i : Int32} {x : Int64} (hd : decode Mt.2.1 pc = .ok (.lastore, 1)) (hsh : S[o]? = some (.inr (.long, n))) (hin : vp_in i n) (k : zAW E X Mt d (pc + 1) lv st (S, I, zu L o i.toNatClampNeg x, F) rv σ') : zAW E X Mt d pc lv (zl x :: zi i :: zr o :: st) (S, I, L, F) rv σ' := by
  intro p l e R s m args below meth c H locs cells slots Q D dA A ad ls cx hl hP hD hS wR wl ws hc hs he
  refine va_last (D := D) cx.1 cx.2.1 cx.2.2.2.2.2.2.2.1.1 hP hD hS o 3 (zws_arr hsh) rfl hin hd (fun H1 locs1 hP1 hD1 hS1 => ?_)
  have e1 := zseta_l (σ := (S, I, L, F)) (dA := dA) (ad := ad) (k := i.toNatClampNeg) (x := x) hsh
  rw [e1] at hP1 hD1
  exact (k p l e R s m args below meth c H1 locs1 cells slots Q D dA A ad ls cx hl hP1 hD1 hS1 wR wl (zwfs_tail (zwfs_tail (zwfs_tail ws))) hc hs he)
theorem a_alen_l {o n : Nat} (hd : decode Mt.2.1 pc = .ok (.arraylength, 1)) (hsh : S[o]? = some (.inr (.long, n))) (k : zAW E X Mt d (pc + 1) lv (zi (Int32.ofNat n) :: st) (S, I, L, F) rv σ') : zAW E X Mt d pc lv (zr o :: st) (S, I, L, F) rv σ' := by
  intro p l e R s m args below meth c H locs cells slots Q D dA A ad ls cx hl hP hD hS wR wl ws hc hs he
  exact va_alen (D := D) cx.1 cx.2.1 cx.2.2.2.2.2.2.2.1.1 hP o 3 (zws_arr hsh) rfl rfl hd (k p l e R s m args below meth c H locs cells slots Q D dA A ad ls cx hl hP hD hS wR wl (zwfs_i (zwfs_tail ws)) hc hs he)
theorem a_xald {i9 : Nat} {q : String × String × List Int32} {i : Int32} (hd : decode Mt.2.1 pc = .ok (.iaload, 1)) (hq : zst[i9]? = some q) (hin : vp_in i q.2.2.length) (k : zAW E X Mt d (pc + 1) lv (zi (q.2.2.getD i.toNatClampNeg 0) :: st) (S, I, L, F) rv σ') : zAW E X Mt d pc lv (zi i :: zr (1001 + i9) :: st) (S, I, L, F) rv σ' := by
  intro p l e R s m args below meth c H locs cells slots Q D dA A ad ls cx hl hP hD hS wR wl ws hc hs he
  exact va_ti cx.1 cx.2.1 (cx.2.2.2.2.2.2.2.1.2.1 i9 q hq).2 hS hin rfl hd (k p l e R s m args below meth c H locs cells slots Q D dA A ad ls cx hl hP hD hS wR wl (zwfs_i (zwfs_tail (zwfs_tail ws))) hc hs he)
theorem a_xlen {i9 : Nat} {q : String × String × List Int32} (hd : decode Mt.2.1 pc = .ok (.arraylength, 1)) (hq : zst[i9]? = some q) (k : zAW E X Mt d (pc + 1) lv (zi (Int32.ofNat q.2.2.length) :: st) (S, I, L, F) rv σ') : zAW E X Mt d pc lv (zr (1001 + i9) :: st) (S, I, L, F) rv σ' := by
  intro p l e R s m args below meth c H locs cells slots Q D dA A ad ls cx hl hP hD hS wR wl ws hc hs he
  exact va_tlen cx.1 cx.2.1 (cx.2.2.2.2.2.2.2.1.2.1 i9 q hq).2 hS rfl hd (k p l e R s m args below meth c H locs cells slots Q D dA A ad ls cx hl hP hD hS wR wl (zwfs_i (zwfs_tail ws)) hc hs he)
theorem a_sald {i : Int32} (hd : decode Mt.2.1 pc = .ok (.iaload, 1)) (hin : vp_in i X.1) (k : zAW E X Mt d (pc + 1) lv (zi (X.2 i.toNatClampNeg) :: st) (S, I, L, F) rv σ') : zAW E X Mt d pc lv (zi i :: zr 1000 :: st) (S, I, L, F) rv σ' := by
  intro p l e R s m args below meth c H locs cells slots Q D dA A ad ls cx hl hP hD hS wR wl ws hc hs he
  exact va_ti cx.1 cx.2.1 cx.2.2.2.2.2.2.2.1.2.2.1 hS hin rfl hd (k p l e R s m args below meth c H locs cells slots Q D dA A ad ls cx hl hP hD hS wR wl (zwfs_i (zwfs_tail (zwfs_tail ws))) hc hs he)
theorem a_slen (hd : decode Mt.2.1 pc = .ok (.arraylength, 1)) (k : zAW E X Mt d (pc + 1) lv (zi (Int32.ofNat X.1) :: st) (S, I, L, F) rv σ') : zAW E X Mt d pc lv (zr 1000 :: st) (S, I, L, F) rv σ' := by
  intro p l e R s m args below meth c H locs cells slots Q D dA A ad ls cx hl hP hD hS wR wl ws hc hs he
  exact va_tlen cx.1 cx.2.1 cx.2.2.2.2.2.2.2.1.2.2.1 hS rfl hd (k p l e R s m args below meth c H locs cells slots Q D dA A ad ls cx hl hP hD hS wR wl (zwfs_i (zwfs_tail ws)) hc hs he)
theorem a_gets {idx i9 : Nat} {q : String × String × List Int32} (hd : decode Mt.2.1 pc = .ok (.getstatic idx, 3)) (hq : zst[i9]? = some q) (hw : Cond.fieldLink Mt.1.cls idx q.1 q.2.1 "[I" ∈ zT) (k : zAW E X Mt d (pc + 3) lv (zr (1001 + i9) :: st) (S, I, L, F) rv σ') : zAW E X Mt d pc lv st (S, I, L, F) rv σ' := by
  intro p l e R s m args below meth c H locs cells slots Q D dA A ad ls cx hl hP hD hS wR wl ws hc hs he
  exact va_gets cx.1 cx.2.1 (cx.2.2.2.2.2.2.2.1.2.1 i9 q hq).1 hS cx.2.2.2.1 (cx.2.2.2.2.1 _ hw) (fun _ h => h) hd (k p l e R s m args below meth c H locs cells slots Q D dA A ad ls cx hl hP hD hS wR wl (zwfs_cons (fun x hx => by cases hx; exact Or.inr (by omega)) ws) hc hs he)
end zRules
