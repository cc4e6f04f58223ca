/-! constructors -/
def zZ (m : Nat) (I : zPI) (L : zPL) (F : zPF) : Prop := ∀ o, m ≤ o → ∀ k, I o k = 0 ∧ L o k = 0 ∧ F o k = none
theorem zZ_up {m n : Nat} {I : zPI} {L : zPL} {F : zPF} (h : zZ m I L F) (hn : m ≤ n) : zZ n I L F := fun o ho k => h o (Nat.le_trans hn ho) k
theorem zZ_i {m o k : Nat} {x : Int32} {I : zPI} {L : zPL} {F : zPF} (h : zZ m I L F) (ho : o < m) : zZ m (zu I o k x) L F := fun a ha b => ⟨by rw [zu_row (by omega)]; exact (h a ha b).1, (h a ha b).2⟩
theorem zZ_l {m o k : Nat} {x : Int64} {I : zPI} {L : zPL} {F : zPF} (h : zZ m I L F) (ho : o < m) : zZ m I (zu L o k x) F := fun a ha b => ⟨(h a ha b).1, by rw [zu_row (by omega)]; exact (h a ha b).2.1, (h a ha b).2.2⟩
theorem zZ_f {m o k : Nat} {x : Option Nat} {I : zPI} {L : zPL} {F : zPF} (h : zZ m I L F) (ho : o < m) : zZ m I L (zu F o k x) := fun a ha b => ⟨(h a ha b).1, (h a ha b).2.1, by rw [zu_row (by omega)]; exact (h a ha b).2.2⟩
/-- a row's places j .. n-1 are filled with x -/
def zfill (I : zPI) (o j n : Nat) (x : Int32) : zPI := fun a b => if a = o ∧ j ≤ b ∧ b < n then x else I a b
theorem zZ_fill {m o j n : Nat} {x : Int32} {I : zPI} {L : zPL} {F : zPF} (h : zZ m I L F) (ho : o < m) : zZ m (zfill I o j n x) L F := fun a ha b => ⟨by rw [zfill, if_neg (by omega)]; exact (h a ha b).1, (h a ha b).2⟩
theorem zfill_nil {I : zPI} {o n : Nat} {x : Int32} : zfill I o n n x = I := by
  funext a b
  rw [zfill, if_neg (by omega)]
theorem zfill_step {I : zPI} {o j n : Nat} {x : Int32} (h : j < n) : zfill (zu I o j x) o (j + 1) n x = zfill I o j n x := by
  funext a b
  simp only [zfill, zu]
  by_cases h1 : a = o
  · by_cases h2 : b = j
    · subst h2
      rw [if_neg (by omega), if_pos h1, if_pos rfl, if_pos ⟨h1, Nat.le_refl _, h⟩]
    · by_cases h3 : j + 1 ≤ b ∧ b < n
      · rw [if_pos ⟨h1, h3⟩, if_pos ⟨h1, by omega, h3.2⟩]
      · rw [if_neg (fun q => h3 q.2), if_pos h1, if_neg h2, if_neg (fun q => h3 ⟨by omega, q.2.2⟩)]
  · rw [if_neg (fun q => h1 q.1), if_neg h1, if_neg (fun q => h1 q.1)]
section zIni
variable {E : Nat × Nat × ((Nat → Prop) → Launch → State → Prop)} {X : Nat × (Nat → Int32)} {Mt : zM} {d pc : Nat} {lv : List (Nat × zV)} {st : List zV} {σ' : zW} {rv : Option zV} {I : zPI} {L : zPL} {F : zPF}
theorem ztake {n : Nat} {sh : zS} (h : zS0[n]? = some sh) : zS0.take n ++ [sh] = zS0.take (n + 1) := by
  rw [List.take_add_one, h]
  rfl
theorem ztlen {n : Nat} (h : n ≤ 77) : (zS0.take n).length = n := by
  rw [List.length_take]
  have : zS0.length = 77 := rfl
  omega
theorem a_newI {n len : Nat} {x : Int32} (hd : decode Mt.2.1 pc = .ok (.newarray .int, 2)) (hZ : zZ n I L F) (hn9 : n < 77) (hsh : zS0[n]? = some (.inr (.int, len))) (hx : ¬ x < 0) (hn : x.toNatClampNeg = len) (hb : len * componentBytes .int ≤ 536870912) (hg : n + 1 ≤ σ'.1.length ∧ zsl (zS0.take n) + len ≤ zsl σ'.1)
    (k : zAW E X Mt d (pc + 2) lv (zr n :: st) (zS0.take (n + 1), I, L, F) rv σ') : zAW E X Mt d pc lv (zi x :: st) (zS0.take n, I, L, F) rv σ' := by
  have hl : (zS0.take n).length = n := ztlen (by omega)
  have e0 : I n = fun _ => 0 := by funext j; exact (hZ n (Nat.le_refl _) j).1
  refine a_newa (S := zS0.take n) (ty := .int) (t0 := 0) (n := len) hd rfl (fun _ => rfl) zw140 (fun _ _ => Iff.rfl) ?_ hx hn hb ?_ ?_ ?_
  · rw [hl]
    intro cA
    simp only [zar, zkind, e0]
    rfl
  · rw [hl]; omega
  · rw [hl]; exact hg
  · rw [hl, ztake hsh]; exact k
theorem a_newC {n len : Nat} {x : Int32} (hd : decode Mt.2.1 pc = .ok (.newarray .char, 2)) (hZ : zZ n I L F) (hn9 : n < 77) (hsh : zS0[n]? = some (.inr (.char, len))) (hx : ¬ x < 0) (hn : x.toNatClampNeg = len) (hb : len * componentBytes .char ≤ 536870912) (hg : n + 1 ≤ σ'.1.length ∧ zsl (zS0.take n) + len ≤ zsl σ'.1)
    (k : zAW E X Mt d (pc + 2) lv (zr n :: st) (zS0.take (n + 1), I, L, F) rv σ') : zAW E X Mt d pc lv (zi x :: st) (zS0.take n, I, L, F) rv σ' := by
  have hl : (zS0.take n).length = n := ztlen (by omega)
  have e0 : I n = fun _ => 0 := by funext j; exact (hZ n (Nat.le_refl _) j).1
  refine a_newa (S := zS0.take n) (ty := .char) (t0 := 1) (n := len) hd rfl (fun _ => rfl) zw200 (fun _ _ => Iff.rfl) ?_ hx hn hb ?_ ?_ ?_
  · rw [hl]
    intro cA
    simp only [zar, zkind, e0]
    rfl
  · rw [hl]; omega
  · rw [hl]; exact hg
  · rw [hl, ztake hsh]; exact k
theorem a_newZ {n len : Nat} {x : Int32} (hd : decode Mt.2.1 pc = .ok (.newarray .boolean, 2)) (hZ : zZ n I L F) (hn9 : n < 77) (hsh : zS0[n]? = some (.inr (.boolean, len))) (hx : ¬ x < 0) (hn : x.toNatClampNeg = len) (hb : len * componentBytes .boolean ≤ 536870912) (hg : n + 1 ≤ σ'.1.length ∧ zsl (zS0.take n) + len ≤ zsl σ'.1)
    (k : zAW E X Mt d (pc + 2) lv (zr n :: st) (zS0.take (n + 1), I, L, F) rv σ') : zAW E X Mt d pc lv (zi x :: st) (zS0.take n, I, L, F) rv σ' := by
  have hl : (zS0.take n).length = n := ztlen (by omega)
  have e0 : I n = fun _ => 0 := by funext j; exact (hZ n (Nat.le_refl _) j).1
  refine a_newa (S := zS0.take n) (ty := .boolean) (t0 := 2) (n := len) hd rfl (fun _ => rfl) zw1110 (fun _ _ => Iff.rfl) ?_ hx hn hb ?_ ?_ ?_
  · rw [hl]
    intro cA
    simp only [zar, zkind, e0]
    rfl
  · rw [hl]; omega
  · rw [hl]; exact hg
  · rw [hl, ztake hsh]; exact k
theorem a_newL {n len : Nat} {x : Int32} (hd : decode Mt.2.1 pc = .ok (.newarray .long, 2)) (hZ : zZ n I L F) (hn9 : n < 77) (hsh : zS0[n]? = some (.inr (.long, len))) (hx : ¬ x < 0) (hn : x.toNatClampNeg = len) (hb : len * componentBytes .long ≤ 536870912) (hg : n + 1 ≤ σ'.1.length ∧ zsl (zS0.take n) + len ≤ zsl σ'.1)
    (k : zAW E X Mt d (pc + 2) lv (zr n :: st) (zS0.take (n + 1), I, L, F) rv σ') : zAW E X Mt d pc lv (zi x :: st) (zS0.take n, I, L, F) rv σ' := by
  have hl : (zS0.take n).length = n := ztlen (by omega)
  have e0 : L n = fun _ => 0 := by funext j; exact (hZ n (Nat.le_refl _) j).2.1
  refine a_newa (S := zS0.take n) (ty := .long) (t0 := 3) (n := len) hd rfl (fun _ => rfl) zw247 (fun _ _ => Iff.rfl) ?_ hx hn hb ?_ ?_ ?_
  · rw [hl]
    intro cA
    simp only [zar, zkind, e0]
    rfl
  · rw [hl]; omega
  · rw [hl]; exact hg
  · rw [hl, ztake hsh]; exact k
theorem a_newO {n idx ci : Nat} {C : String} {T : u_T} {N : Nat} (hd : decode Mt.2.1 pc = .ok (.new idx, 3)) (hcl : zCls ci C T N) (w1 : Cond.classLink Mt.1.cls idx C ∈ zT) (w2 : Cond.instantiable C N ∈ zT) (w3 : Cond.initialized C ∈ zT)
    (hdv : ∀ j, j < N → defaultValue (zty ci j) = (match zkind (zty ci j) with | 0 => .int 0 | 1 => .long 0 | _ => .null)) (hZ : zZ n I L F) (hn9 : n < 77) (hsh : zS0[n]? = some (.inl ci)) (hg : n + 1 ≤ σ'.1.length ∧ zsl (zS0.take n) + N ≤ zsl σ'.1)
    (k : zAW E X Mt d (pc + 3) lv (zr n :: st) (zS0.take (n + 1), I, L, F) rv σ') : zAW E X Mt d pc lv st (zS0.take n, I, L, F) rv σ' := by
  have hl : (zS0.take n).length = n := ztlen (by omega)
  refine a_new (S := zS0.take n) hd hcl w1 w2 w3 hdv ?_ ?_ ?_ ?_ ?_ ?_
  · rw [hl]; exact fun j => (hZ n (Nat.le_refl _) j).1
  · rw [hl]; exact fun j => (hZ n (Nat.le_refl _) j).2.1
  · rw [hl]; exact fun j => (hZ n (Nat.le_refl _) j).2.2
  · rw [hl]; omega
  · rw [hl]; exact hg
  · rw [hl, ztake hsh]; exact k
end zIni
def zhands (p : Int32) : Int32 := if p < 4 then 12 else if 24 < p then 12 else p
theorem zhands_lo {p : Int32} (h : p < 4) : zhands p = 12 := by rw [zhands, if_pos h]
theorem zhands_in {p : Int32} (h : ¬ p < 4) (h2 : p ≤ 24) : zhands p = p := by
  rw [zhands, if_neg h, if_neg]
  rw [Int32.lt_iff_toInt_lt]
  rw [Int32.le_iff_toInt_le] at h2
  omega
theorem zhands_hi {p : Int32} (h : ¬ p < 4) (h2 : ¬ p ≤ 24) : zhands p = 12 := by
  rw [zhands, if_neg h, if_pos]
  rw [Int32.lt_iff_toInt_lt]
  rw [Int32.le_iff_toInt_le] at h2
  omega
theorem lX4_init_60 {X : Nat × (Nat → Int32)} {L : zPL} {F : zPF} {σ' : zW} (hF : F 1 4 = some 6) : ∀ (m j : Nat) (I : zPI), j + m = 9 → zAW zE0 X mX4_init 1 79 [(0, zr 1)] [] (zS0.take 9, zfill I 6 j 9 (-1), L, F) none σ' → zAW zE0 X mX4_init 1 60 [(0, zr 1), (1, zi (nI j))] [] (zS0.take 9, I, L, F) none σ' := by
  intro m
  induction m with
  | zero =>
    intro j I hj k
    refine a_iload_n dX4_init_60 rfl 1 rfl ?_
    refine a_bipush (v := 9) dX4_init_61 (by decide) ?_
    refine a_icmp_ge (tgt := 79) dX4_init_63 rfl (fun _ => ?_) (fun hc => ?_)
    · refine a_sub [0] rfl ?_
      have e : j = 9 := by omega
      subst e
      rw [zfill_nil] at k
      exact k
    · exact absurd (nI_le (a := 9) (b := j) (by omega) (by omega)) hc
  | succ m ih =>
    intro j I hj k
    refine a_iload_n dX4_init_60 rfl 1 rfl ?_
    refine a_bipush (v := 9) dX4_init_61 (by decide) ?_
    refine a_icmp_ge (tgt := 79) dX4_init_63 rfl (fun hc => absurd hc (nI_ge (a := j) (b := 9) (by omega) (by omega))) (fun _ => ?_)
    refine a_aload_n dX4_init_66 rfl 0 rfl ?_
    refine a_getq dX4_init_67 G_X4_24 rfl rfl hF ?_
    refine a_iload_n dX4_init_70 rfl 1 rfl ?_
    refine a_iconst (v := (-1)) dX4_init_71 (by decide) ?_
    refine a_iast (n := 9) dX4_init_72 rfl (vp_in_nI (by omega) (by omega)) ?_
    rw [nI_clamp (by omega)]
    refine a_iincK (k0 := 1) dX4_init_73 (by decide) 1 rfl (by decide) rfl ?_
    refine a_goto (tgt := 60) dX4_init_76 rfl ?_
    refine a_sub [1, 0] rfl ?_
    rw [← nI_succ]
    refine ih (j + 1) _ (by omega) ?_
    rw [zfill_step (by omega)]
    exact k
theorem lX4_init_81 {X : Nat × (Nat → Int32)} {L : zPL} {F : zPF} {σ' : zW} (hF : F 1 5 = some 7) : ∀ (m j : Nat) (I : zPI), j + m = 18 → zAW zE0 X mX4_init 1 100 [(0, zr 1)] [] (zS0.take 9, zfill I 7 j 18 (-1), L, F) none σ' → zAW zE0 X mX4_init 1 81 [(0, zr 1), (1, zi (nI j))] [] (zS0.take 9, I, L, F) none σ' := by
  intro m
  induction m with
  | zero =>
    intro j I hj k
    refine a_iload_n dX4_init_81 rfl 1 rfl ?_
    refine a_bipush (v := 18) dX4_init_82 (by decide) ?_
    refine a_icmp_ge (tgt := 100) dX4_init_84 rfl (fun _ => ?_) (fun hc => ?_)
    · refine a_sub [0] rfl ?_
      have e : j = 18 := by omega
      subst e
      rw [zfill_nil] at k
      exact k
    · exact absurd (nI_le (a := 18) (b := j) (by omega) (by omega)) hc
  | succ m ih =>
    intro j I hj k
    refine a_iload_n dX4_init_81 rfl 1 rfl ?_
    refine a_bipush (v := 18) dX4_init_82 (by decide) ?_
    refine a_icmp_ge (tgt := 100) dX4_init_84 rfl (fun hc => absurd hc (nI_ge (a := j) (b := 18) (by omega) (by omega))) (fun _ => ?_)
    refine a_aload_n dX4_init_87 rfl 0 rfl ?_
    refine a_getq dX4_init_88 G_X4_27 rfl rfl hF ?_
    refine a_iload_n dX4_init_91 rfl 1 rfl ?_
    refine a_iconst (v := (-1)) dX4_init_92 (by decide) ?_
    refine a_iast (n := 18) dX4_init_93 rfl (vp_in_nI (by omega) (by omega)) ?_
    rw [nI_clamp (by omega)]
    refine a_iincK (k0 := 1) dX4_init_94 (by decide) 1 rfl (by decide) rfl ?_
    refine a_goto (tgt := 81) dX4_init_97 rfl ?_
    refine a_sub [1, 0] rfl ?_
    rw [← nI_succ]
    refine ih (j + 1) _ (by omega) ?_
    rw [zfill_step (by omega)]
    exact k
theorem lX4_init_102 {X : Nat × (Nat → Int32)} {L : zPL} {F : zPF} {σ' : zW} (hF : F 1 6 = some 8) : ∀ (m j : Nat) (I : zPI), j + m = 3 → zAW zE0 X mX4_init 1 120 [(0, zr 1)] [] (zS0.take 9, zfill I 8 j 3 (-1), L, F) none σ' → zAW zE0 X mX4_init 1 102 [(0, zr 1), (1, zi (nI j))] [] (zS0.take 9, I, L, F) none σ' := by
  intro m
  induction m with
  | zero =>
    intro j I hj k
    refine a_iload_n dX4_init_102 rfl 1 rfl ?_
    refine a_iconst (v := 3) dX4_init_103 (by decide) ?_
    refine a_icmp_ge (tgt := 120) dX4_init_104 rfl (fun _ => ?_) (fun hc => ?_)
    · refine a_sub [0] rfl ?_
      have e : j = 3 := by omega
      subst e
      rw [zfill_nil] at k
      exact k
    · exact absurd (nI_le (a := 3) (b := j) (by omega) (by omega)) hc
  | succ m ih =>
    intro j I hj k
    refine a_iload_n dX4_init_102 rfl 1 rfl ?_
    refine a_iconst (v := 3) dX4_init_103 (by decide) ?_
    refine a_icmp_ge (tgt := 120) dX4_init_104 rfl (fun hc => absurd hc (nI_ge (a := j) (b := 3) (by omega) (by omega))) (fun _ => ?_)
    refine a_aload_n dX4_init_107 rfl 0 rfl ?_
    refine a_getq dX4_init_108 G_X4_30 rfl rfl hF ?_
    refine a_iload_n dX4_init_111 rfl 1 rfl ?_
    refine a_iconst (v := (-1)) dX4_init_112 (by decide) ?_
    refine a_iast (n := 3) dX4_init_113 rfl (vp_in_nI (by omega) (by omega)) ?_
    rw [nI_clamp (by omega)]
    refine a_iincK (k0 := 1) dX4_init_114 (by decide) 1 rfl (by decide) rfl ?_
    refine a_goto (tgt := 102) dX4_init_117 rfl ?_
    refine a_sub [1, 0] rfl ?_
    rw [← nI_succ]
    refine ih (j + 1) _ (by omega) ?_
    rw [zfill_step (by omega)]
    exact k
def eI_X4_init_1 (I : zPI) : zPI := zfill (zfill (zfill I 6 0 9 (-1)) 7 0 18 (-1)) 8 0 3 (-1)
def eL_X4_init_1 (L : zPL) : zPL := L
def eF_X4_init_1 (F : zPF) : zPF := zu (zu (zu (zu (zu (zu (zu F 1 0 (some 2)) 1 1 (some 3)) 1 2 (some 4)) 1 3 (some 5)) 1 4 (some 6)) 1 5 (some 7)) 1 6 (some 8)
set_option maxRecDepth 100000 in
theorem cX4_init_1 {X : Nat × (Nat → Int32)} {I : zPI} {L : zPL} {F : zPF} (hZ : zZ 2 I L F) : zAM X mX4_init 1 [zr 1] (zS0.take 2, I, L, F) none (zS0.take 9, eI_X4_init_1 I, eL_X4_init_1 L, eF_X4_init_1 F) := by
  refine zAM_of (by decide) (Nat.le_of_ble_eq_true rfl) ⟨fun _ => rfl, fun _ => rfl⟩ (Nat.le_of_ble_eq_true rfl) (Nat.le_of_ble_eq_true rfl) ?_
  show zAW zE0 X mX4_init 1 0 [(0, zr 1)] [] (zS0.take 2, I, L, F) none (zS0.take 9, eI_X4_init_1 I, eL_X4_init_1 L, eF_X4_init_1 F)
  refine a_aload_n dX4_init_0 rfl 0 rfl ?_
  refine a_objInit dX4_init_1 zw107 zw100 zw101 (by decide) (Nat.le_of_ble_eq_true rfl) ?_
  refine a_aload_n dX4_init_4 rfl 0 rfl ?_
  refine a_bipush (v := 9) dX4_init_5 (by decide) ?_
  refine a_newI (len := 9) dX4_init_7 hZ (by decide) rfl (by decide) (by decide) (by decide) ⟨Nat.le_of_ble_eq_true rfl, Nat.le_of_ble_eq_true rfl⟩ ?_
  have hZ1 := zZ_up hZ (Nat.le_succ _)
  refine a_putqF dX4_init_9 F_X4_11 rfl rfl (fun z => by cases z <;> exact ⟨rfl, rfl⟩) rfl ?_
  have hZ2 := zZ_f (o := 1) (k := 0) (x := some 2) hZ1 (by decide)
  refine a_aload_n dX4_init_12 rfl 0 rfl ?_
  refine a_bipush (v := 18) dX4_init_13 (by decide) ?_
  refine a_newI (len := 18) dX4_init_15 hZ2 (by decide) rfl (by decide) (by decide) (by decide) ⟨Nat.le_of_ble_eq_true rfl, Nat.le_of_ble_eq_true rfl⟩ ?_
  have hZ3 := zZ_up hZ2 (Nat.le_succ _)
  refine a_putqF dX4_init_17 F_X4_15 rfl rfl (fun z => by cases z <;> exact ⟨rfl, rfl⟩) rfl ?_
  have hZ4 := zZ_f (o := 1) (k := 1) (x := some 3) hZ3 (by decide)
  refine a_aload_n dX4_init_20 rfl 0 rfl ?_
  refine a_bipush (v := 18) dX4_init_21 (by decide) ?_
  refine a_newI (len := 18) dX4_init_23 hZ4 (by decide) rfl (by decide) (by decide) (by decide) ⟨Nat.le_of_ble_eq_true rfl, Nat.le_of_ble_eq_true rfl⟩ ?_
  have hZ5 := zZ_up hZ4 (Nat.le_succ _)
  refine a_putqF dX4_init_25 F_X4_18 rfl rfl (fun z => by cases z <;> exact ⟨rfl, rfl⟩) rfl ?_
  have hZ6 := zZ_f (o := 1) (k := 2) (x := some 4) hZ5 (by decide)
  refine a_aload_n dX4_init_28 rfl 0 rfl ?_
  refine a_iconst (v := 3) dX4_init_29 (by decide) ?_
  refine a_newI (len := 3) dX4_init_30 hZ6 (by decide) rfl (by decide) (by decide) (by decide) ⟨Nat.le_of_ble_eq_true rfl, Nat.le_of_ble_eq_true rfl⟩ ?_
  have hZ7 := zZ_up hZ6 (Nat.le_succ _)
  refine a_putqF dX4_init_32 F_X4_21 rfl rfl (fun z => by cases z <;> exact ⟨rfl, rfl⟩) rfl ?_
  have hZ8 := zZ_f (o := 1) (k := 3) (x := some 5) hZ7 (by decide)
  refine a_aload_n dX4_init_35 rfl 0 rfl ?_
  refine a_bipush (v := 9) dX4_init_36 (by decide) ?_
  refine a_newI (len := 9) dX4_init_38 hZ8 (by decide) rfl (by decide) (by decide) (by decide) ⟨Nat.le_of_ble_eq_true rfl, Nat.le_of_ble_eq_true rfl⟩ ?_
  have hZ9 := zZ_up hZ8 (Nat.le_succ _)
  refine a_putqF dX4_init_40 F_X4_24 rfl rfl (fun z => by cases z <;> exact ⟨rfl, rfl⟩) rfl ?_
  have hZ10 := zZ_f (o := 1) (k := 4) (x := some 6) hZ9 (by decide)
  refine a_aload_n dX4_init_43 rfl 0 rfl ?_
  refine a_bipush (v := 18) dX4_init_44 (by decide) ?_
  refine a_newI (len := 18) dX4_init_46 hZ10 (by decide) rfl (by decide) (by decide) (by decide) ⟨Nat.le_of_ble_eq_true rfl, Nat.le_of_ble_eq_true rfl⟩ ?_
  have hZ11 := zZ_up hZ10 (Nat.le_succ _)
  refine a_putqF dX4_init_48 F_X4_27 rfl rfl (fun z => by cases z <;> exact ⟨rfl, rfl⟩) rfl ?_
  have hZ12 := zZ_f (o := 1) (k := 5) (x := some 7) hZ11 (by decide)
  refine a_aload_n dX4_init_51 rfl 0 rfl ?_
  refine a_iconst (v := 3) dX4_init_52 (by decide) ?_
  refine a_newI (len := 3) dX4_init_53 hZ12 (by decide) rfl (by decide) (by decide) (by decide) ⟨Nat.le_of_ble_eq_true rfl, Nat.le_of_ble_eq_true rfl⟩ ?_
  have hZ13 := zZ_up hZ12 (Nat.le_succ _)
  refine a_putqF dX4_init_55 F_X4_30 rfl rfl (fun z => by cases z <;> exact ⟨rfl, rfl⟩) rfl ?_
  have hZ14 := zZ_f (o := 1) (k := 6) (x := some 8) hZ13 (by decide)
  refine a_iconst (v := 0) dX4_init_58 (by decide) ?_
  refine a_istore_n dX4_init_59 rfl (by decide) rfl ?_
  refine a_sub [1, 0] rfl ?_
  refine lX4_init_60 rfl 9 0 _ rfl ?_
  have hZ15 := zZ_fill (o := 6) (j := 0) (n := 9) (x := (-1)) hZ14 (by decide)
  refine a_iconst (v := 0) dX4_init_79 (by decide) ?_
  refine a_istore_n dX4_init_80 rfl (by decide) rfl ?_
  refine a_sub [1, 0] rfl ?_
  refine lX4_init_81 rfl 18 0 _ rfl ?_
  have hZ16 := zZ_fill (o := 7) (j := 0) (n := 18) (x := (-1)) hZ15 (by decide)
  refine a_iconst (v := 0) dX4_init_100 (by decide) ?_
  refine a_istore_n dX4_init_101 rfl (by decide) rfl ?_
  refine a_sub [1, 0] rfl ?_
  refine lX4_init_102 rfl 3 0 _ rfl ?_
  have hZ17 := zZ_fill (o := 8) (j := 0) (n := 3) (x := (-1)) hZ16 (by decide)
  exact a_vret dX4_init_120 rfl
theorem zX4_init_1 {I : zPI} {L : zPL} {F : zPF} (hZ : zZ 2 I L F) : zZ 9 (eI_X4_init_1 I) (eL_X4_init_1 L) (eF_X4_init_1 F) := by
  have hZ1 := zZ_up hZ (Nat.le_succ _)
  have hZ2 := zZ_f (o := 1) (k := 0) (x := some 2) hZ1 (by decide)
  have hZ3 := zZ_up hZ2 (Nat.le_succ _)
  have hZ4 := zZ_f (o := 1) (k := 1) (x := some 3) hZ3 (by decide)
  have hZ5 := zZ_up hZ4 (Nat.le_succ _)
  have hZ6 := zZ_f (o := 1) (k := 2) (x := some 4) hZ5 (by decide)
  have hZ7 := zZ_up hZ6 (Nat.le_succ _)
  have hZ8 := zZ_f (o := 1) (k := 3) (x := some 5) hZ7 (by decide)
  have hZ9 := zZ_up hZ8 (Nat.le_succ _)
  have hZ10 := zZ_f (o := 1) (k := 4) (x := some 6) hZ9 (by decide)
  have hZ11 := zZ_up hZ10 (Nat.le_succ _)
  have hZ12 := zZ_f (o := 1) (k := 5) (x := some 7) hZ11 (by decide)
  have hZ13 := zZ_up hZ12 (Nat.le_succ _)
  have hZ14 := zZ_f (o := 1) (k := 6) (x := some 8) hZ13 (by decide)
  have hZ15 := zZ_fill (o := 6) (j := 0) (n := 9) (x := (-1)) hZ14 (by decide)
  have hZ16 := zZ_fill (o := 7) (j := 0) (n := 18) (x := (-1)) hZ15 (by decide)
  have hZ17 := zZ_fill (o := 8) (j := 0) (n := 3) (x := (-1)) hZ16 (by decide)
  exact hZ17
def eI_X7_init_9 (I : zPI) : zPI := I
def eL_X7_init_9 (L : zPL) : zPL := L
def eF_X7_init_9 (F : zPF) : zPF := zu (zu (zu F 9 0 (some 10)) 9 1 (some 11)) 9 2 (some 12)
set_option maxRecDepth 100000 in
theorem cX7_init_9 {X : Nat × (Nat → Int32)} {I : zPI} {L : zPL} {F : zPF} (hZ : zZ 10 I L F) : zAM X mX7_init 1 [zr 9] (zS0.take 10, I, L, F) none (zS0.take 13, eI_X7_init_9 I, eL_X7_init_9 L, eF_X7_init_9 F) := by
  refine zAM_of (by decide) (Nat.le_of_ble_eq_true rfl) ⟨fun _ => rfl, fun _ => rfl⟩ (Nat.le_of_ble_eq_true rfl) (Nat.le_of_ble_eq_true rfl) ?_
  show zAW zE0 X mX7_init 1 0 [(0, zr 9)] [] (zS0.take 10, I, L, F) none (zS0.take 13, eI_X7_init_9 I, eL_X7_init_9 L, eF_X7_init_9 F)
  refine a_aload_n dX7_init_0 rfl 0 rfl ?_
  refine a_objInit dX7_init_1 zw146 zw100 zw101 (by decide) (Nat.le_of_ble_eq_true rfl) ?_
  refine a_aload_n dX7_init_4 rfl 0 rfl ?_
  refine a_bipush (v := 60) dX7_init_5 (by decide) ?_
  refine a_newI (len := 60) dX7_init_7 hZ (by decide) rfl (by decide) (by decide) (by decide) ⟨Nat.le_of_ble_eq_true rfl, Nat.le_of_ble_eq_true rfl⟩ ?_
  have hZ1 := zZ_up hZ (Nat.le_succ _)
  refine a_putqF dX7_init_9 F_X7_9 rfl rfl (fun z => by cases z <;> exact ⟨rfl, rfl⟩) rfl ?_
  have hZ2 := zZ_f (o := 9) (k := 0) (x := some 10) hZ1 (by decide)
  refine a_aload_n dX7_init_12 rfl 0 rfl ?_
  refine a_bipush (v := 60) dX7_init_13 (by decide) ?_
  refine a_newI (len := 60) dX7_init_15 hZ2 (by decide) rfl (by decide) (by decide) (by decide) ⟨Nat.le_of_ble_eq_true rfl, Nat.le_of_ble_eq_true rfl⟩ ?_
  have hZ3 := zZ_up hZ2 (Nat.le_succ _)
  refine a_putqF dX7_init_17 F_X7_13 rfl rfl (fun z => by cases z <;> exact ⟨rfl, rfl⟩) rfl ?_
  have hZ4 := zZ_f (o := 9) (k := 1) (x := some 11) hZ3 (by decide)
  refine a_aload_n dX7_init_20 rfl 0 rfl ?_
  refine a_bipush (v := 60) dX7_init_21 (by decide) ?_
  refine a_newI (len := 60) dX7_init_23 hZ4 (by decide) rfl (by decide) (by decide) (by decide) ⟨Nat.le_of_ble_eq_true rfl, Nat.le_of_ble_eq_true rfl⟩ ?_
  have hZ5 := zZ_up hZ4 (Nat.le_succ _)
  refine a_putqF dX7_init_25 F_X7_16 rfl rfl (fun z => by cases z <;> exact ⟨rfl, rfl⟩) rfl ?_
  have hZ6 := zZ_f (o := 9) (k := 2) (x := some 12) hZ5 (by decide)
  exact a_vret dX7_init_28 rfl
theorem zX7_init_9 {I : zPI} {L : zPL} {F : zPF} (hZ : zZ 10 I L F) : zZ 13 (eI_X7_init_9 I) (eL_X7_init_9 L) (eF_X7_init_9 F) := by
  have hZ1 := zZ_up hZ (Nat.le_succ _)
  have hZ2 := zZ_f (o := 9) (k := 0) (x := some 10) hZ1 (by decide)
  have hZ3 := zZ_up hZ2 (Nat.le_succ _)
  have hZ4 := zZ_f (o := 9) (k := 1) (x := some 11) hZ3 (by decide)
  have hZ5 := zZ_up hZ4 (Nat.le_succ _)
  have hZ6 := zZ_f (o := 9) (k := 2) (x := some 12) hZ5 (by decide)
  exact hZ6
def eI_X6_init_13 (I : zPI) : zPI := I
def eL_X6_init_13 (L : zPL) : zPL := L
def eF_X6_init_13 (F : zPF) : zPF := zu F 13 0 (some 14)
set_option maxRecDepth 100000 in
theorem cX6_init_13 {X : Nat × (Nat → Int32)} {I : zPI} {L : zPL} {F : zPF} (hZ : zZ 14 I L F) : zAM X mX6_init 1 [zr 13] (zS0.take 14, I, L, F) none (zS0.take 15, eI_X6_init_13 I, eL_X6_init_13 L, eF_X6_init_13 F) := by
  refine zAM_of (by decide) (Nat.le_of_ble_eq_true rfl) ⟨fun _ => rfl, fun _ => rfl⟩ (Nat.le_of_ble_eq_true rfl) (Nat.le_of_ble_eq_true rfl) ?_
  show zAW zE0 X mX6_init 1 0 [(0, zr 13)] [] (zS0.take 14, I, L, F) none (zS0.take 15, eI_X6_init_13 I, eL_X6_init_13 L, eF_X6_init_13 F)
  refine a_aload_n dX6_init_0 rfl 0 rfl ?_
  refine a_objInit dX6_init_1 zw176 zw100 zw101 (by decide) (Nat.le_of_ble_eq_true rfl) ?_
  refine a_aload_n dX6_init_4 rfl 0 rfl ?_
  refine a_sipush (v := 1000) dX6_init_5 (by decide) ?_
  refine a_newC (len := 1000) dX6_init_8 hZ (by decide) rfl (by decide) (by decide) (by decide) ⟨Nat.le_of_ble_eq_true rfl, Nat.le_of_ble_eq_true rfl⟩ ?_
  have hZ1 := zZ_up hZ (Nat.le_succ _)
  refine a_putqF dX6_init_10 F_X6_9 rfl rfl (fun z => by cases z <;> exact ⟨rfl, rfl⟩) rfl ?_
  have hZ2 := zZ_f (o := 13) (k := 0) (x := some 14) hZ1 (by decide)
  exact a_vret dX6_init_13 rfl
theorem zX6_init_13 {I : zPI} {L : zPL} {F : zPF} (hZ : zZ 14 I L F) : zZ 15 (eI_X6_init_13 I) (eL_X6_init_13 L) (eF_X6_init_13 F) := by
  have hZ1 := zZ_up hZ (Nat.le_succ _)
  have hZ2 := zZ_f (o := 13) (k := 0) (x := some 14) hZ1 (by decide)
  exact hZ2
def eI_X3_init_15 (I : zPI) : zPI := I
def eL_X3_init_15 (L : zPL) : zPL := L
def eF_X3_init_15 (F : zPF) : zPF := zu (zu F 15 1 (some 16)) 15 0 (some 13)
set_option maxRecDepth 100000 in
theorem cX3_init_15 {X : Nat × (Nat → Int32)} {I : zPI} {L : zPL} {F : zPF} (hZ : zZ 16 I L F) : zAM X mX3_init 1 [zr 15, zr 13] (zS0.take 16, I, L, F) none (zS0.take 17, eI_X3_init_15 I, eL_X3_init_15 L, eF_X3_init_15 F) := by
  refine zAM_of (by decide) (Nat.le_of_ble_eq_true rfl) ⟨fun _ => rfl, fun _ => rfl⟩ (Nat.le_of_ble_eq_true rfl) (Nat.le_of_ble_eq_true rfl) ?_
  show zAW zE0 X mX3_init 1 0 [(0, zr 15), (1, zr 13)] [] (zS0.take 16, I, L, F) none (zS0.take 17, eI_X3_init_15 I, eL_X3_init_15 L, eF_X3_init_15 F)
  refine a_aload_n dX3_init_0 rfl 0 rfl ?_
  refine a_objInit dX3_init_1 zw206 zw100 zw101 (by decide) (Nat.le_of_ble_eq_true rfl) ?_
  refine a_aload_n dX3_init_4 rfl 0 rfl ?_
  refine a_bipush (v := 8) dX3_init_5 (by decide) ?_
  refine a_newI (len := 8) dX3_init_7 hZ (by decide) rfl (by decide) (by decide) (by decide) ⟨Nat.le_of_ble_eq_true rfl, Nat.le_of_ble_eq_true rfl⟩ ?_
  have hZ1 := zZ_up hZ (Nat.le_succ _)
  refine a_putqF dX3_init_9 F_X3_11 rfl rfl (fun z => by cases z <;> exact ⟨rfl, rfl⟩) rfl ?_
  have hZ2 := zZ_f (o := 15) (k := 1) (x := some 16) hZ1 (by decide)
  refine a_aload_n dX3_init_12 rfl 0 rfl ?_
  refine a_aload_n dX3_init_13 rfl 1 rfl ?_
  refine a_putqF dX3_init_14 F_X3_15 rfl rfl (fun z => by cases z <;> exact ⟨rfl, rfl⟩) rfl ?_
  have hZ3 := zZ_f (o := 15) (k := 0) (x := some 13) hZ2 (by decide)
  exact a_vret dX3_init_17 rfl
theorem zX3_init_15 {I : zPI} {L : zPL} {F : zPF} (hZ : zZ 16 I L F) : zZ 17 (eI_X3_init_15 I) (eL_X3_init_15 L) (eF_X3_init_15 F) := by
  have hZ1 := zZ_up hZ (Nat.le_succ _)
  have hZ2 := zZ_f (o := 15) (k := 1) (x := some 16) hZ1 (by decide)
  have hZ3 := zZ_f (o := 15) (k := 0) (x := some 13) hZ2 (by decide)
  exact hZ3
def eI_X2_init_17 (I : zPI) : zPI := I
def eL_X2_init_17 (L : zPL) : zPL := L
def eF_X2_init_17 (F : zPF) : zPF := zu (zu (zu (zu (zu F 17 0 (some 18)) 17 1 (some 19)) 17 2 (some 20)) 17 3 (some 21)) 17 4 (some 22)
set_option maxRecDepth 100000 in
theorem cX2_init_17 {X : Nat × (Nat → Int32)} {I : zPI} {L : zPL} {F : zPF} (hZ : zZ 18 I L F) : zAM X mX2_init 1 [zr 17] (zS0.take 18, I, L, F) none (zS0.take 23, eI_X2_init_17 I, eL_X2_init_17 L, eF_X2_init_17 F) := by
  refine zAM_of (by decide) (Nat.le_of_ble_eq_true rfl) ⟨fun _ => rfl, fun _ => rfl⟩ (Nat.le_of_ble_eq_true rfl) (Nat.le_of_ble_eq_true rfl) ?_
  show zAW zE0 X mX2_init 1 0 [(0, zr 17)] [] (zS0.take 18, I, L, F) none (zS0.take 23, eI_X2_init_17 I, eL_X2_init_17 L, eF_X2_init_17 F)
  refine a_aload_n dX2_init_0 rfl 0 rfl ?_
  refine a_objInit dX2_init_1 zw225 zw100 zw101 (by decide) (Nat.le_of_ble_eq_true rfl) ?_
  refine a_aload_n dX2_init_4 rfl 0 rfl ?_
  refine a_sipush (v := 256) dX2_init_5 (by decide) ?_
  refine a_newI (len := 256) dX2_init_8 hZ (by decide) rfl (by decide) (by decide) (by decide) ⟨Nat.le_of_ble_eq_true rfl, Nat.le_of_ble_eq_true rfl⟩ ?_
  have hZ1 := zZ_up hZ (Nat.le_succ _)
  refine a_putqF dX2_init_10 F_X2_13 rfl rfl (fun z => by cases z <;> exact ⟨rfl, rfl⟩) rfl ?_
  have hZ2 := zZ_f (o := 17) (k := 0) (x := some 18) hZ1 (by decide)
  refine a_aload_n dX2_init_13 rfl 0 rfl ?_
  refine a_sipush (v := 256) dX2_init_14 (by decide) ?_
  refine a_newI (len := 256) dX2_init_17 hZ2 (by decide) rfl (by decide) (by decide) (by decide) ⟨Nat.le_of_ble_eq_true rfl, Nat.le_of_ble_eq_true rfl⟩ ?_
  have hZ3 := zZ_up hZ2 (Nat.le_succ _)
  refine a_putqF dX2_init_19 F_X2_17 rfl rfl (fun z => by cases z <;> exact ⟨rfl, rfl⟩) rfl ?_
  have hZ4 := zZ_f (o := 17) (k := 1) (x := some 19) hZ3 (by decide)
  refine a_aload_n dX2_init_22 rfl 0 rfl ?_
  refine a_sipush (v := 441) dX2_init_23 (by decide) ?_
  refine a_newL (len := 441) dX2_init_26 hZ4 (by decide) rfl (by decide) (by decide) (by decide) ⟨Nat.le_of_ble_eq_true rfl, Nat.le_of_ble_eq_true rfl⟩ ?_
  have hZ5 := zZ_up hZ4 (Nat.le_succ _)
  refine a_putqF dX2_init_28 F_X2_20 rfl rfl (fun z => by cases z <;> exact ⟨rfl, rfl⟩) rfl ?_
  have hZ6 := zZ_f (o := 17) (k := 2) (x := some 20) hZ5 (by decide)
  refine a_aload_n dX2_init_31 rfl 0 rfl ?_
  refine a_sipush (v := 441) dX2_init_32 (by decide) ?_
  refine a_newL (len := 441) dX2_init_35 hZ6 (by decide) rfl (by decide) (by decide) (by decide) ⟨Nat.le_of_ble_eq_true rfl, Nat.le_of_ble_eq_true rfl⟩ ?_
  have hZ7 := zZ_up hZ6 (Nat.le_succ _)
  refine a_putqF dX2_init_37 F_X2_24 rfl rfl (fun z => by cases z <;> exact ⟨rfl, rfl⟩) rfl ?_
  have hZ8 := zZ_f (o := 17) (k := 3) (x := some 21) hZ7 (by decide)
  refine a_aload_n dX2_init_40 rfl 0 rfl ?_
  refine a_bipush (v := 8) dX2_init_41 (by decide) ?_
  refine a_newI (len := 8) dX2_init_43 hZ8 (by decide) rfl (by decide) (by decide) (by decide) ⟨Nat.le_of_ble_eq_true rfl, Nat.le_of_ble_eq_true rfl⟩ ?_
  have hZ9 := zZ_up hZ8 (Nat.le_succ _)
  refine a_putqF dX2_init_45 F_X2_27 rfl rfl (fun z => by cases z <;> exact ⟨rfl, rfl⟩) rfl ?_
  have hZ10 := zZ_f (o := 17) (k := 4) (x := some 22) hZ9 (by decide)
  exact a_vret dX2_init_48 rfl
theorem zX2_init_17 {I : zPI} {L : zPL} {F : zPF} (hZ : zZ 18 I L F) : zZ 23 (eI_X2_init_17 I) (eL_X2_init_17 L) (eF_X2_init_17 F) := by
  have hZ1 := zZ_up hZ (Nat.le_succ _)
  have hZ2 := zZ_f (o := 17) (k := 0) (x := some 18) hZ1 (by decide)
  have hZ3 := zZ_up hZ2 (Nat.le_succ _)
  have hZ4 := zZ_f (o := 17) (k := 1) (x := some 19) hZ3 (by decide)
  have hZ5 := zZ_up hZ4 (Nat.le_succ _)
  have hZ6 := zZ_f (o := 17) (k := 2) (x := some 20) hZ5 (by decide)
  have hZ7 := zZ_up hZ6 (Nat.le_succ _)
  have hZ8 := zZ_f (o := 17) (k := 3) (x := some 21) hZ7 (by decide)
  have hZ9 := zZ_up hZ8 (Nat.le_succ _)
  have hZ10 := zZ_f (o := 17) (k := 4) (x := some 22) hZ9 (by decide)
  exact hZ10
def eI_X5_init_24 (I : zPI) : zPI := I
def eL_X5_init_24 (L : zPL) : zPL := L
def eF_X5_init_24 (F : zPF) : zPF := zu (zu (zu (zu (zu (zu (zu (zu F 24 1 (some 25)) 24 2 (some 26)) 24 3 (some 27)) 24 4 (some 28)) 24 5 (some 29)) 24 6 (some 30)) 24 7 (some 31)) 24 8 (some 32)
set_option maxRecDepth 100000 in
theorem cX5_init_24 {X : Nat × (Nat → Int32)} {I : zPI} {L : zPL} {F : zPF} (hZ : zZ 25 I L F) : zAM X mX5_init 1 [zr 24] (zS0.take 25, I, L, F) none (zS0.take 33, eI_X5_init_24 I, eL_X5_init_24 L, eF_X5_init_24 F) := by
  refine zAM_of (by decide) (Nat.le_of_ble_eq_true rfl) ⟨fun _ => rfl, fun _ => rfl⟩ (Nat.le_of_ble_eq_true rfl) (Nat.le_of_ble_eq_true rfl) ?_
  show zAW zE0 X mX5_init 1 0 [(0, zr 24)] [] (zS0.take 25, I, L, F) none (zS0.take 33, eI_X5_init_24 I, eL_X5_init_24 L, eF_X5_init_24 F)
  refine a_aload_n dX5_init_0 rfl 0 rfl ?_
  refine a_objInit dX5_init_1 zw253 zw100 zw101 (by decide) (Nat.le_of_ble_eq_true rfl) ?_
  refine a_aload_n dX5_init_4 rfl 0 rfl ?_
  refine a_bipush (v := 80) dX5_init_5 (by decide) ?_
  refine a_newI (len := 80) dX5_init_7 hZ (by decide) rfl (by decide) (by decide) (by decide) ⟨Nat.le_of_ble_eq_true rfl, Nat.le_of_ble_eq_true rfl⟩ ?_
  have hZ1 := zZ_up hZ (Nat.le_succ _)
  refine a_putqF dX5_init_9 F_X5_11 rfl rfl (fun z => by cases z <;> exact ⟨rfl, rfl⟩) rfl ?_
  have hZ2 := zZ_f (o := 24) (k := 1) (x := some 25) hZ1 (by decide)
  refine a_aload_n dX5_init_12 rfl 0 rfl ?_
  refine a_bipush (v := 80) dX5_init_13 (by decide) ?_
  refine a_newI (len := 80) dX5_init_15 hZ2 (by decide) rfl (by decide) (by decide) (by decide) ⟨Nat.le_of_ble_eq_true rfl, Nat.le_of_ble_eq_true rfl⟩ ?_
  have hZ3 := zZ_up hZ2 (Nat.le_succ _)
  refine a_putqF dX5_init_17 F_X5_15 rfl rfl (fun z => by cases z <;> exact ⟨rfl, rfl⟩) rfl ?_
  have hZ4 := zZ_f (o := 24) (k := 2) (x := some 26) hZ3 (by decide)
  refine a_aload_n dX5_init_20 rfl 0 rfl ?_
  refine a_bipush (v := 80) dX5_init_21 (by decide) ?_
  refine a_newI (len := 80) dX5_init_23 hZ4 (by decide) rfl (by decide) (by decide) (by decide) ⟨Nat.le_of_ble_eq_true rfl, Nat.le_of_ble_eq_true rfl⟩ ?_
  have hZ5 := zZ_up hZ4 (Nat.le_succ _)
  refine a_putqF dX5_init_25 F_X5_18 rfl rfl (fun z => by cases z <;> exact ⟨rfl, rfl⟩) rfl ?_
  have hZ6 := zZ_f (o := 24) (k := 3) (x := some 27) hZ5 (by decide)
  refine a_aload_n dX5_init_28 rfl 0 rfl ?_
  refine a_bipush (v := 80) dX5_init_29 (by decide) ?_
  refine a_newI (len := 80) dX5_init_31 hZ6 (by decide) rfl (by decide) (by decide) (by decide) ⟨Nat.le_of_ble_eq_true rfl, Nat.le_of_ble_eq_true rfl⟩ ?_
  have hZ7 := zZ_up hZ6 (Nat.le_succ _)
  refine a_putqF dX5_init_33 F_X5_21 rfl rfl (fun z => by cases z <;> exact ⟨rfl, rfl⟩) rfl ?_
  have hZ8 := zZ_f (o := 24) (k := 4) (x := some 28) hZ7 (by decide)
  refine a_aload_n dX5_init_36 rfl 0 rfl ?_
  refine a_bipush (v := 80) dX5_init_37 (by decide) ?_
  refine a_newI (len := 80) dX5_init_39 hZ8 (by decide) rfl (by decide) (by decide) (by decide) ⟨Nat.le_of_ble_eq_true rfl, Nat.le_of_ble_eq_true rfl⟩ ?_
  have hZ9 := zZ_up hZ8 (Nat.le_succ _)
  refine a_putqF dX5_init_41 F_X5_24 rfl rfl (fun z => by cases z <;> exact ⟨rfl, rfl⟩) rfl ?_
  have hZ10 := zZ_f (o := 24) (k := 5) (x := some 29) hZ9 (by decide)
  refine a_aload_n dX5_init_44 rfl 0 rfl ?_
  refine a_bipush (v := 80) dX5_init_45 (by decide) ?_
  refine a_newI (len := 80) dX5_init_47 hZ10 (by decide) rfl (by decide) (by decide) (by decide) ⟨Nat.le_of_ble_eq_true rfl, Nat.le_of_ble_eq_true rfl⟩ ?_
  have hZ11 := zZ_up hZ10 (Nat.le_succ _)
  refine a_putqF dX5_init_49 F_X5_27 rfl rfl (fun z => by cases z <;> exact ⟨rfl, rfl⟩) rfl ?_
  have hZ12 := zZ_f (o := 24) (k := 6) (x := some 30) hZ11 (by decide)
  refine a_aload_n dX5_init_52 rfl 0 rfl ?_
  refine a_bipush (v := 80) dX5_init_53 (by decide) ?_
  refine a_newI (len := 80) dX5_init_55 hZ12 (by decide) rfl (by decide) (by decide) (by decide) ⟨Nat.le_of_ble_eq_true rfl, Nat.le_of_ble_eq_true rfl⟩ ?_
  have hZ13 := zZ_up hZ12 (Nat.le_succ _)
  refine a_putqF dX5_init_57 F_X5_30 rfl rfl (fun z => by cases z <;> exact ⟨rfl, rfl⟩) rfl ?_
  have hZ14 := zZ_f (o := 24) (k := 7) (x := some 31) hZ13 (by decide)
  refine a_aload_n dX5_init_60 rfl 0 rfl ?_
  refine a_sipush (v := 640) dX5_init_61 (by decide) ?_
  refine a_newI (len := 640) dX5_init_64 hZ14 (by decide) rfl (by decide) (by decide) (by decide) ⟨Nat.le_of_ble_eq_true rfl, Nat.le_of_ble_eq_true rfl⟩ ?_
  have hZ15 := zZ_up hZ14 (Nat.le_succ _)
  refine a_putqF dX5_init_66 F_X5_33 rfl rfl (fun z => by cases z <;> exact ⟨rfl, rfl⟩) rfl ?_
  have hZ16 := zZ_f (o := 24) (k := 8) (x := some 32) hZ15 (by decide)
  exact a_vret dX5_init_69 rfl
theorem zX5_init_24 {I : zPI} {L : zPL} {F : zPF} (hZ : zZ 25 I L F) : zZ 33 (eI_X5_init_24 I) (eL_X5_init_24 L) (eF_X5_init_24 F) := by
  have hZ1 := zZ_up hZ (Nat.le_succ _)
  have hZ2 := zZ_f (o := 24) (k := 1) (x := some 25) hZ1 (by decide)
  have hZ3 := zZ_up hZ2 (Nat.le_succ _)
  have hZ4 := zZ_f (o := 24) (k := 2) (x := some 26) hZ3 (by decide)
  have hZ5 := zZ_up hZ4 (Nat.le_succ _)
  have hZ6 := zZ_f (o := 24) (k := 3) (x := some 27) hZ5 (by decide)
  have hZ7 := zZ_up hZ6 (Nat.le_succ _)
  have hZ8 := zZ_f (o := 24) (k := 4) (x := some 28) hZ7 (by decide)
  have hZ9 := zZ_up hZ8 (Nat.le_succ _)
  have hZ10 := zZ_f (o := 24) (k := 5) (x := some 29) hZ9 (by decide)
  have hZ11 := zZ_up hZ10 (Nat.le_succ _)
  have hZ12 := zZ_f (o := 24) (k := 6) (x := some 30) hZ11 (by decide)
  have hZ13 := zZ_up hZ12 (Nat.le_succ _)
  have hZ14 := zZ_f (o := 24) (k := 7) (x := some 31) hZ13 (by decide)
  have hZ15 := zZ_up hZ14 (Nat.le_succ _)
  have hZ16 := zZ_f (o := 24) (k := 8) (x := some 32) hZ15 (by decide)
  exact hZ16
def eI_X5_init_33 (I : zPI) : zPI := I
def eL_X5_init_33 (L : zPL) : zPL := L
def eF_X5_init_33 (F : zPF) : zPF := zu (zu (zu (zu (zu (zu (zu (zu F 33 1 (some 34)) 33 2 (some 35)) 33 3 (some 36)) 33 4 (some 37)) 33 5 (some 38)) 33 6 (some 39)) 33 7 (some 40)) 33 8 (some 41)
set_option maxRecDepth 100000 in
theorem cX5_init_33 {X : Nat × (Nat → Int32)} {I : zPI} {L : zPL} {F : zPF} (hZ : zZ 34 I L F) : zAM X mX5_init 1 [zr 33] (zS0.take 34, I, L, F) none (zS0.take 42, eI_X5_init_33 I, eL_X5_init_33 L, eF_X5_init_33 F) := by
  refine zAM_of (by decide) (Nat.le_of_ble_eq_true rfl) ⟨fun _ => rfl, fun _ => rfl⟩ (Nat.le_of_ble_eq_true rfl) (Nat.le_of_ble_eq_true rfl) ?_
  show zAW zE0 X mX5_init 1 0 [(0, zr 33)] [] (zS0.take 34, I, L, F) none (zS0.take 42, eI_X5_init_33 I, eL_X5_init_33 L, eF_X5_init_33 F)
  refine a_aload_n dX5_init_0 rfl 0 rfl ?_
  refine a_objInit dX5_init_1 zw253 zw100 zw101 (by decide) (Nat.le_of_ble_eq_true rfl) ?_
  refine a_aload_n dX5_init_4 rfl 0 rfl ?_
  refine a_bipush (v := 80) dX5_init_5 (by decide) ?_
  refine a_newI (len := 80) dX5_init_7 hZ (by decide) rfl (by decide) (by decide) (by decide) ⟨Nat.le_of_ble_eq_true rfl, Nat.le_of_ble_eq_true rfl⟩ ?_
  have hZ1 := zZ_up hZ (Nat.le_succ _)
  refine a_putqF dX5_init_9 F_X5_11 rfl rfl (fun z => by cases z <;> exact ⟨rfl, rfl⟩) rfl ?_
  have hZ2 := zZ_f (o := 33) (k := 1) (x := some 34) hZ1 (by decide)
  refine a_aload_n dX5_init_12 rfl 0 rfl ?_
  refine a_bipush (v := 80) dX5_init_13 (by decide) ?_
  refine a_newI (len := 80) dX5_init_15 hZ2 (by decide) rfl (by decide) (by decide) (by decide) ⟨Nat.le_of_ble_eq_true rfl, Nat.le_of_ble_eq_true rfl⟩ ?_
  have hZ3 := zZ_up hZ2 (Nat.le_succ _)
  refine a_putqF dX5_init_17 F_X5_15 rfl rfl (fun z => by cases z <;> exact ⟨rfl, rfl⟩) rfl ?_
  have hZ4 := zZ_f (o := 33) (k := 2) (x := some 35) hZ3 (by decide)
  refine a_aload_n dX5_init_20 rfl 0 rfl ?_
  refine a_bipush (v := 80) dX5_init_21 (by decide) ?_
  refine a_newI (len := 80) dX5_init_23 hZ4 (by decide) rfl (by decide) (by decide) (by decide) ⟨Nat.le_of_ble_eq_true rfl, Nat.le_of_ble_eq_true rfl⟩ ?_
  have hZ5 := zZ_up hZ4 (Nat.le_succ _)
  refine a_putqF dX5_init_25 F_X5_18 rfl rfl (fun z => by cases z <;> exact ⟨rfl, rfl⟩) rfl ?_
  have hZ6 := zZ_f (o := 33) (k := 3) (x := some 36) hZ5 (by decide)
  refine a_aload_n dX5_init_28 rfl 0 rfl ?_
  refine a_bipush (v := 80) dX5_init_29 (by decide) ?_
  refine a_newI (len := 80) dX5_init_31 hZ6 (by decide) rfl (by decide) (by decide) (by decide) ⟨Nat.le_of_ble_eq_true rfl, Nat.le_of_ble_eq_true rfl⟩ ?_
  have hZ7 := zZ_up hZ6 (Nat.le_succ _)
  refine a_putqF dX5_init_33 F_X5_21 rfl rfl (fun z => by cases z <;> exact ⟨rfl, rfl⟩) rfl ?_
  have hZ8 := zZ_f (o := 33) (k := 4) (x := some 37) hZ7 (by decide)
  refine a_aload_n dX5_init_36 rfl 0 rfl ?_
  refine a_bipush (v := 80) dX5_init_37 (by decide) ?_
  refine a_newI (len := 80) dX5_init_39 hZ8 (by decide) rfl (by decide) (by decide) (by decide) ⟨Nat.le_of_ble_eq_true rfl, Nat.le_of_ble_eq_true rfl⟩ ?_
  have hZ9 := zZ_up hZ8 (Nat.le_succ _)
  refine a_putqF dX5_init_41 F_X5_24 rfl rfl (fun z => by cases z <;> exact ⟨rfl, rfl⟩) rfl ?_
  have hZ10 := zZ_f (o := 33) (k := 5) (x := some 38) hZ9 (by decide)
  refine a_aload_n dX5_init_44 rfl 0 rfl ?_
  refine a_bipush (v := 80) dX5_init_45 (by decide) ?_
  refine a_newI (len := 80) dX5_init_47 hZ10 (by decide) rfl (by decide) (by decide) (by decide) ⟨Nat.le_of_ble_eq_true rfl, Nat.le_of_ble_eq_true rfl⟩ ?_
  have hZ11 := zZ_up hZ10 (Nat.le_succ _)
  refine a_putqF dX5_init_49 F_X5_27 rfl rfl (fun z => by cases z <;> exact ⟨rfl, rfl⟩) rfl ?_
  have hZ12 := zZ_f (o := 33) (k := 6) (x := some 39) hZ11 (by decide)
  refine a_aload_n dX5_init_52 rfl 0 rfl ?_
  refine a_bipush (v := 80) dX5_init_53 (by decide) ?_
  refine a_newI (len := 80) dX5_init_55 hZ12 (by decide) rfl (by decide) (by decide) (by decide) ⟨Nat.le_of_ble_eq_true rfl, Nat.le_of_ble_eq_true rfl⟩ ?_
  have hZ13 := zZ_up hZ12 (Nat.le_succ _)
  refine a_putqF dX5_init_57 F_X5_30 rfl rfl (fun z => by cases z <;> exact ⟨rfl, rfl⟩) rfl ?_
  have hZ14 := zZ_f (o := 33) (k := 7) (x := some 40) hZ13 (by decide)
  refine a_aload_n dX5_init_60 rfl 0 rfl ?_
  refine a_sipush (v := 640) dX5_init_61 (by decide) ?_
  refine a_newI (len := 640) dX5_init_64 hZ14 (by decide) rfl (by decide) (by decide) (by decide) ⟨Nat.le_of_ble_eq_true rfl, Nat.le_of_ble_eq_true rfl⟩ ?_
  have hZ15 := zZ_up hZ14 (Nat.le_succ _)
  refine a_putqF dX5_init_66 F_X5_33 rfl rfl (fun z => by cases z <;> exact ⟨rfl, rfl⟩) rfl ?_
  have hZ16 := zZ_f (o := 33) (k := 8) (x := some 41) hZ15 (by decide)
  exact a_vret dX5_init_69 rfl
theorem zX5_init_33 {I : zPI} {L : zPL} {F : zPF} (hZ : zZ 34 I L F) : zZ 42 (eI_X5_init_33 I) (eL_X5_init_33 L) (eF_X5_init_33 F) := by
  have hZ1 := zZ_up hZ (Nat.le_succ _)
  have hZ2 := zZ_f (o := 33) (k := 1) (x := some 34) hZ1 (by decide)
  have hZ3 := zZ_up hZ2 (Nat.le_succ _)
  have hZ4 := zZ_f (o := 33) (k := 2) (x := some 35) hZ3 (by decide)
  have hZ5 := zZ_up hZ4 (Nat.le_succ _)
  have hZ6 := zZ_f (o := 33) (k := 3) (x := some 36) hZ5 (by decide)
  have hZ7 := zZ_up hZ6 (Nat.le_succ _)
  have hZ8 := zZ_f (o := 33) (k := 4) (x := some 37) hZ7 (by decide)
  have hZ9 := zZ_up hZ8 (Nat.le_succ _)
  have hZ10 := zZ_f (o := 33) (k := 5) (x := some 38) hZ9 (by decide)
  have hZ11 := zZ_up hZ10 (Nat.le_succ _)
  have hZ12 := zZ_f (o := 33) (k := 6) (x := some 39) hZ11 (by decide)
  have hZ13 := zZ_up hZ12 (Nat.le_succ _)
  have hZ14 := zZ_f (o := 33) (k := 7) (x := some 40) hZ13 (by decide)
  have hZ15 := zZ_up hZ14 (Nat.le_succ _)
  have hZ16 := zZ_f (o := 33) (k := 8) (x := some 41) hZ15 (by decide)
  exact hZ16
theorem lX1_init_51 {X : Nat × (Nat → Int32)} {L : zPL} {F : zPF} {σ' : zW} (hF : F 42 5 = some 47) : ∀ (m j : Nat) (I : zPI), j + m = 24 → zAW zE0 X mX1_init 1 70 [(0, zr 42)] [] (zS0.take 48, zfill I 47 j 24 (-1), L, F) none σ' → zAW zE0 X mX1_init 1 51 [(0, zr 42), (2, zi (nI j))] [] (zS0.take 48, I, L, F) none σ' := by
  intro m
  induction m with
  | zero =>
    intro j I hj k
    refine a_iload_n dX1_init_51 rfl 1 rfl ?_
    refine a_bipush (v := 24) dX1_init_52 (by decide) ?_
    refine a_icmp_ge (tgt := 70) dX1_init_54 rfl (fun _ => ?_) (fun hc => ?_)
    · refine a_sub [0] rfl ?_
      have e : j = 24 := by omega
      subst e
      rw [zfill_nil] at k
      exact k
    · exact absurd (nI_le (a := 24) (b := j) (by omega) (by omega)) hc
  | succ m ih =>
    intro j I hj k
    refine a_iload_n dX1_init_51 rfl 1 rfl ?_
    refine a_bipush (v := 24) dX1_init_52 (by decide) ?_
    refine a_icmp_ge (tgt := 70) dX1_init_54 rfl (fun hc => absurd hc (nI_ge (a := j) (b := 24) (by omega) (by omega))) (fun _ => ?_)
    refine a_aload_n dX1_init_57 rfl 0 rfl ?_
    refine a_getq dX1_init_58 G_X1_28 rfl rfl hF ?_
    refine a_iload_n dX1_init_61 rfl 1 rfl ?_
    refine a_iconst (v := (-1)) dX1_init_62 (by decide) ?_
    refine a_iast (n := 24) dX1_init_63 rfl (vp_in_nI (by omega) (by omega)) ?_
    rw [nI_clamp (by omega)]
    refine a_iincK (k0 := 1) dX1_init_64 (by decide) 1 rfl (by decide) rfl ?_
    refine a_goto (tgt := 51) dX1_init_67 rfl ?_
    refine a_sub [1, 0] rfl ?_
    rw [← nI_succ]
    refine ih (j + 1) _ (by omega) ?_
    rw [zfill_step (by omega)]
    exact k
def eI_X1_init_42 (I : zPI) (p1 : Int32) : zPI := zfill (zu I 42 0 p1) 47 0 24 (-1)
def eL_X1_init_42 (L : zPL) : zPL := L
def eF_X1_init_42 (F : zPF) : zPF := zu (zu (zu (zu (zu F 42 1 (some 43)) 42 2 (some 44)) 42 3 (some 45)) 42 4 (some 46)) 42 5 (some 47)
set_option maxRecDepth 100000 in
theorem cX1_init_42 {X : Nat × (Nat → Int32)} {I : zPI} {L : zPL} {F : zPF} (p1 : Int32) (hZ : zZ 43 I L F) : zAM X mX1_init 1 [zr 42, zi p1] (zS0.take 43, I, L, F) none (zS0.take 48, eI_X1_init_42 I p1, eL_X1_init_42 L, eF_X1_init_42 F) := by
  refine zAM_of (by decide) (Nat.le_of_ble_eq_true rfl) ⟨fun _ => rfl, fun _ => rfl⟩ (Nat.le_of_ble_eq_true rfl) (Nat.le_of_ble_eq_true rfl) ?_
  show zAW zE0 X mX1_init 1 0 [(0, zr 42), (1, zi p1)] [] (zS0.take 43, I, L, F) none (zS0.take 48, eI_X1_init_42 I p1, eL_X1_init_42 L, eF_X1_init_42 F)
  refine a_aload_n dX1_init_0 rfl 0 rfl ?_
  refine a_objInit dX1_init_1 zw298 zw100 zw101 (by decide) (Nat.le_of_ble_eq_true rfl) ?_
  refine a_aload_n dX1_init_4 rfl 0 rfl ?_
  refine a_iload_n dX1_init_5 rfl 1 rfl ?_
  refine a_putiF dX1_init_6 F_X1_9 rfl rfl ⟨rfl, rfl⟩ rfl ?_
  have hZ1 := zZ_i (o := 42) (k := 0) (x := p1) hZ (by decide)
  refine a_aload_n dX1_init_9 rfl 0 rfl ?_
  refine a_bipush (v := 24) dX1_init_10 (by decide) ?_
  refine a_newI (len := 24) dX1_init_12 hZ1 (by decide) rfl (by decide) (by decide) (by decide) ⟨Nat.le_of_ble_eq_true rfl, Nat.le_of_ble_eq_true rfl⟩ ?_
  have hZ2 := zZ_up hZ1 (Nat.le_succ _)
  refine a_putqF dX1_init_14 F_X1_15 rfl rfl (fun z => by cases z <;> exact ⟨rfl, rfl⟩) rfl ?_
  have hZ3 := zZ_f (o := 42) (k := 1) (x := some 43) hZ2 (by decide)
  refine a_aload_n dX1_init_17 rfl 0 rfl ?_
  refine a_bipush (v := 24) dX1_init_18 (by decide) ?_
  refine a_newI (len := 24) dX1_init_20 hZ3 (by decide) rfl (by decide) (by decide) (by decide) ⟨Nat.le_of_ble_eq_true rfl, Nat.le_of_ble_eq_true rfl⟩ ?_
  have hZ4 := zZ_up hZ3 (Nat.le_succ _)
  refine a_putqF dX1_init_22 F_X1_19 rfl rfl (fun z => by cases z <;> exact ⟨rfl, rfl⟩) rfl ?_
  have hZ5 := zZ_f (o := 42) (k := 2) (x := some 44) hZ4 (by decide)
  refine a_aload_n dX1_init_25 rfl 0 rfl ?_
  refine a_bipush (v := 24) dX1_init_26 (by decide) ?_
  refine a_newI (len := 24) dX1_init_28 hZ5 (by decide) rfl (by decide) (by decide) (by decide) ⟨Nat.le_of_ble_eq_true rfl, Nat.le_of_ble_eq_true rfl⟩ ?_
  have hZ6 := zZ_up hZ5 (Nat.le_succ _)
  refine a_putqF dX1_init_30 F_X1_22 rfl rfl (fun z => by cases z <;> exact ⟨rfl, rfl⟩) rfl ?_
  have hZ7 := zZ_f (o := 42) (k := 3) (x := some 45) hZ6 (by decide)
  refine a_aload_n dX1_init_33 rfl 0 rfl ?_
  refine a_bipush (v := 24) dX1_init_34 (by decide) ?_
  refine a_newI (len := 24) dX1_init_36 hZ7 (by decide) rfl (by decide) (by decide) (by decide) ⟨Nat.le_of_ble_eq_true rfl, Nat.le_of_ble_eq_true rfl⟩ ?_
  have hZ8 := zZ_up hZ7 (Nat.le_succ _)
  refine a_putqF dX1_init_38 F_X1_25 rfl rfl (fun z => by cases z <;> exact ⟨rfl, rfl⟩) rfl ?_
  have hZ9 := zZ_f (o := 42) (k := 4) (x := some 46) hZ8 (by decide)
  refine a_aload_n dX1_init_41 rfl 0 rfl ?_
  refine a_bipush (v := 24) dX1_init_42 (by decide) ?_
  refine a_newI (len := 24) dX1_init_44 hZ9 (by decide) rfl (by decide) (by decide) (by decide) ⟨Nat.le_of_ble_eq_true rfl, Nat.le_of_ble_eq_true rfl⟩ ?_
  have hZ10 := zZ_up hZ9 (Nat.le_succ _)
  refine a_putqF dX1_init_46 F_X1_28 rfl rfl (fun z => by cases z <;> exact ⟨rfl, rfl⟩) rfl ?_
  have hZ11 := zZ_f (o := 42) (k := 5) (x := some 47) hZ10 (by decide)
  refine a_iconst (v := 0) dX1_init_49 (by decide) ?_
  refine a_istore_n dX1_init_50 rfl (by decide) rfl ?_
  refine a_sub [1, 0] rfl ?_
  refine lX1_init_51 rfl 24 0 _ rfl ?_
  have hZ12 := zZ_fill (o := 47) (j := 0) (n := 24) (x := (-1)) hZ11 (by decide)
  exact a_vret dX1_init_70 rfl
theorem zX1_init_42 {I : zPI} {L : zPL} {F : zPF} (p1 : Int32) (hZ : zZ 43 I L F) : zZ 48 (eI_X1_init_42 I p1) (eL_X1_init_42 L) (eF_X1_init_42 F) := by
  have hZ1 := zZ_i (o := 42) (k := 0) (x := p1) hZ (by decide)
  have hZ2 := zZ_up hZ1 (Nat.le_succ _)
  have hZ3 := zZ_f (o := 42) (k := 1) (x := some 43) hZ2 (by decide)
  have hZ4 := zZ_up hZ3 (Nat.le_succ _)
  have hZ5 := zZ_f (o := 42) (k := 2) (x := some 44) hZ4 (by decide)
  have hZ6 := zZ_up hZ5 (Nat.le_succ _)
  have hZ7 := zZ_f (o := 42) (k := 3) (x := some 45) hZ6 (by decide)
  have hZ8 := zZ_up hZ7 (Nat.le_succ _)
  have hZ9 := zZ_f (o := 42) (k := 4) (x := some 46) hZ8 (by decide)
  have hZ10 := zZ_up hZ9 (Nat.le_succ _)
  have hZ11 := zZ_f (o := 42) (k := 5) (x := some 47) hZ10 (by decide)
  have hZ12 := zZ_fill (o := 47) (j := 0) (n := 24) (x := (-1)) hZ11 (by decide)
  exact hZ12
def eI_X8_init_0 (I : zPI) (p1 : Int32) : zPI := eI_X1_init_42 (eI_X5_init_33 (eI_X5_init_24 (eI_X2_init_17 (eI_X3_init_15 (eI_X6_init_13 (eI_X7_init_9 (eI_X4_init_1 I))))))) (zhands p1)
def eL_X8_init_0 (L : zPL) : zPL := eL_X1_init_42 (eL_X5_init_33 (eL_X5_init_24 (eL_X2_init_17 (eL_X3_init_15 (eL_X6_init_13 (eL_X7_init_9 (eL_X4_init_1 L)))))))
def eF_X8_init_0 (F : zPF) : zPF := zu (eF_X1_init_42 (zu (eF_X5_init_33 (zu (eF_X5_init_24 (zu (zu (eF_X2_init_17 (zu (eF_X3_init_15 (zu (eF_X6_init_13 (zu (eF_X7_init_9 (zu (eF_X4_init_1 F) 0 1 (some 1))) 0 2 (some 9))) 0 3 (some 13))) 0 4 (some 15))) 0 5 (some 17)) 0 6 (some 23))) 0 7 (some 24))) 0 8 (some 33))) 0 0 (some 42)
set_option maxRecDepth 100000 in
theorem cX8_init_0 {X : Nat × (Nat → Int32)} {I : zPI} {L : zPL} {F : zPF} (p1 : Int32) (hZ : zZ 1 I L F) : zAM X mX8_init 2 [zr 0, zi p1] (zS0.take 1, I, L, F) none (zS0.take 48, eI_X8_init_0 I p1, eL_X8_init_0 L, eF_X8_init_0 F) := by
  refine zAM_of (by decide) (Nat.le_of_ble_eq_true rfl) ⟨fun _ => rfl, fun _ => rfl⟩ (Nat.le_of_ble_eq_true rfl) (Nat.le_of_ble_eq_true rfl) ?_
  show zAW zE0 X mX8_init 2 0 [(0, zr 0), (1, zi p1)] [] (zS0.take 1, I, L, F) none (zS0.take 48, eI_X8_init_0 I p1, eL_X8_init_0 L, eF_X8_init_0 F)
  refine a_aload_n dX8_init_0 rfl 0 rfl ?_
  refine a_objInit dX8_init_1 zw99 zw100 zw101 (by decide) (Nat.le_of_ble_eq_true rfl) ?_
  refine a_aload_n dX8_init_4 rfl 0 rfl ?_
  refine a_newO dX8_init_5 clX4 zw102 zw103 zw76 dvX4 hZ (by decide) rfl ⟨Nat.le_of_ble_eq_true rfl, Nat.le_of_ble_eq_true rfl⟩ ?_
  have hZ1 := zZ_up hZ (Nat.le_succ _)
  refine a_dup dX8_init_8 rfl ?_
  refine a_callI dX8_init_9 (cX4_init_1 hZ1) csX4_init zw104 (Nat.le_of_ble_eq_true rfl) rfl (Nat.le_of_ble_eq_true rfl) ⟨Nat.le_of_ble_eq_true rfl, Nat.le_of_ble_eq_true rfl⟩ ?_
  have hZ2 := zX4_init_1 hZ1
  refine a_putqF dX8_init_12 F_X8_10 rfl rfl (fun z => by cases z <;> exact ⟨rfl, rfl⟩) rfl ?_
  have hZ3 := zZ_f (o := 0) (k := 1) (x := some 1) hZ2 (by decide)
  refine a_aload_n dX8_init_15 rfl 0 rfl ?_
  refine a_newO dX8_init_16 clX7 zw141 zw142 zw77 dvX7 hZ3 (by decide) rfl ⟨Nat.le_of_ble_eq_true rfl, Nat.le_of_ble_eq_true rfl⟩ ?_
  have hZ4 := zZ_up hZ3 (Nat.le_succ _)
  refine a_dup dX8_init_19 rfl ?_
  refine a_callIN dX8_init_20 (cX7_init_9 hZ4) csX7_init rfl (by decide +kernel) (Nat.le_of_ble_eq_true rfl) rfl (Nat.le_of_ble_eq_true rfl) ⟨Nat.le_of_ble_eq_true rfl, Nat.le_of_ble_eq_true rfl⟩ ?_
  have hZ5 := zX7_init_9 hZ4
  refine a_putqF dX8_init_23 F_X8_19 rfl rfl (fun z => by cases z <;> exact ⟨rfl, rfl⟩) rfl ?_
  have hZ6 := zZ_f (o := 0) (k := 2) (x := some 9) hZ5 (by decide)
  refine a_aload_n dX8_init_26 rfl 0 rfl ?_
  refine a_newO dX8_init_27 clX6 zw171 zw172 zw78 dvX6 hZ6 (by decide) rfl ⟨Nat.le_of_ble_eq_true rfl, Nat.le_of_ble_eq_true rfl⟩ ?_
  have hZ7 := zZ_up hZ6 (Nat.le_succ _)
  refine a_dup dX8_init_30 rfl ?_
  refine a_callIN dX8_init_31 (cX6_init_13 hZ7) csX6_init rfl (by decide +kernel) (Nat.le_of_ble_eq_true rfl) rfl (Nat.le_of_ble_eq_true rfl) ⟨Nat.le_of_ble_eq_true rfl, Nat.le_of_ble_eq_true rfl⟩ ?_
  have hZ8 := zX6_init_13 hZ7
  refine a_putqF dX8_init_34 F_X8_26 rfl rfl (fun z => by cases z <;> exact ⟨rfl, rfl⟩) rfl ?_
  have hZ9 := zZ_f (o := 0) (k := 3) (x := some 13) hZ8 (by decide)
  refine a_aload_n dX8_init_37 rfl 0 rfl ?_
  refine a_newO dX8_init_38 clX3 zw201 zw202 zw79 dvX3 hZ9 (by decide) rfl ⟨Nat.le_of_ble_eq_true rfl, Nat.le_of_ble_eq_true rfl⟩ ?_
  have hZ10 := zZ_up hZ9 (Nat.le_succ _)
  refine a_dup dX8_init_41 rfl ?_
  refine a_aload_n dX8_init_42 rfl 0 rfl ?_
  refine a_getq dX8_init_43 G_X8_26 rfl rfl (r := some 13) rfl ?_
  refine a_callI dX8_init_46 (cX3_init_15 hZ10) csX3_init zw203 (Nat.le_of_ble_eq_true rfl) rfl (Nat.le_of_ble_eq_true rfl) ⟨Nat.le_of_ble_eq_true rfl, Nat.le_of_ble_eq_true rfl⟩ ?_
  have hZ11 := zX3_init_15 hZ10
  refine a_putqF dX8_init_49 F_X8_35 rfl rfl (fun z => by cases z <;> exact ⟨rfl, rfl⟩) rfl ?_
  have hZ12 := zZ_f (o := 0) (k := 4) (x := some 15) hZ11 (by decide)
  refine a_aload_n dX8_init_52 rfl 0 rfl ?_
  refine a_newO dX8_init_53 clX2 zw220 zw221 zw80 dvX2 hZ12 (by decide) rfl ⟨Nat.le_of_ble_eq_true rfl, Nat.le_of_ble_eq_true rfl⟩ ?_
  have hZ13 := zZ_up hZ12 (Nat.le_succ _)
  refine a_dup dX8_init_56 rfl ?_
  refine a_callIN dX8_init_57 (cX2_init_17 hZ13) csX2_init rfl (by decide +kernel) (Nat.le_of_ble_eq_true rfl) rfl (Nat.le_of_ble_eq_true rfl) ⟨Nat.le_of_ble_eq_true rfl, Nat.le_of_ble_eq_true rfl⟩ ?_
  have hZ14 := zX2_init_17 hZ13
  refine a_putqF dX8_init_60 F_X8_42 rfl rfl (fun z => by cases z <;> exact ⟨rfl, rfl⟩) rfl ?_
  have hZ15 := zZ_f (o := 0) (k := 5) (x := some 17) hZ14 (by decide)
  refine a_aload_n dX8_init_63 rfl 0 rfl ?_
  refine a_bipush (v := 8) dX8_init_64 (by decide) ?_
  refine a_newI (len := 8) dX8_init_66 hZ15 (by decide) rfl (by decide) (by decide) (by decide) ⟨Nat.le_of_ble_eq_true rfl, Nat.le_of_ble_eq_true rfl⟩ ?_
  have hZ16 := zZ_up hZ15 (Nat.le_succ _)
  refine a_putqF dX8_init_68 F_X8_48 rfl rfl (fun z => by cases z <;> exact ⟨rfl, rfl⟩) rfl ?_
  have hZ17 := zZ_f (o := 0) (k := 6) (x := some 23) hZ16 (by decide)
  refine a_aload_n dX8_init_71 rfl 0 rfl ?_
  refine a_newO dX8_init_72 clX5 zw248 zw249 zw81 dvX5 hZ17 (by decide) rfl ⟨Nat.le_of_ble_eq_true rfl, Nat.le_of_ble_eq_true rfl⟩ ?_
  have hZ18 := zZ_up hZ17 (Nat.le_succ _)
  refine a_dup dX8_init_75 rfl ?_
  refine a_callIN dX8_init_76 (cX5_init_24 hZ18) csX5_init rfl (by decide +kernel) (Nat.le_of_ble_eq_true rfl) rfl (Nat.le_of_ble_eq_true rfl) ⟨Nat.le_of_ble_eq_true rfl, Nat.le_of_ble_eq_true rfl⟩ ?_
  have hZ19 := zX5_init_24 hZ18
  refine a_putq dX8_init_79 F_X8_53 rfl rfl (fun z => by cases z <;> exact ⟨rfl, rfl⟩) ?_
  have hZ20 := zZ_f (o := 0) (k := 7) (x := some 24) hZ19 (by decide)
  refine a_aload_n dX8_init_82 rfl 0 rfl ?_
  refine a_newO dX8_init_83 clX5 zw248 zw249 zw81 dvX5 hZ20 (by decide) rfl ⟨Nat.le_of_ble_eq_true rfl, Nat.le_of_ble_eq_true rfl⟩ ?_
  have hZ21 := zZ_up hZ20 (Nat.le_succ _)
  refine a_dup dX8_init_86 rfl ?_
  refine a_callIN dX8_init_87 (cX5_init_33 hZ21) csX5_init rfl (by decide +kernel) (Nat.le_of_ble_eq_true rfl) rfl (Nat.le_of_ble_eq_true rfl) ⟨Nat.le_of_ble_eq_true rfl, Nat.le_of_ble_eq_true rfl⟩ ?_
  have hZ22 := zX5_init_33 hZ21
  refine a_putq dX8_init_90 F_X8_57 rfl rfl (fun z => by cases z <;> exact ⟨rfl, rfl⟩) ?_
  have hZ23 := zZ_f (o := 0) (k := 8) (x := some 33) hZ22 (by decide)
  refine a_aload_n dX8_init_93 rfl 0 rfl ?_
  refine a_newO dX8_init_94 clX1 zw293 zw294 zw82 dvX1 hZ23 (by decide) rfl ⟨Nat.le_of_ble_eq_true rfl, Nat.le_of_ble_eq_true rfl⟩ ?_
  have hZ24 := zZ_up hZ23 (Nat.le_succ _)
  refine a_dup dX8_init_97 rfl ?_
  refine a_iload_n dX8_init_98 rfl 1 rfl ?_
  refine a_iconst (v := 4) dX8_init_99 (by decide) ?_
  unfold eI_X8_init_0
  refine a_icmp_lt (tgt := 109) dX8_init_100 rfl (fun hc => ?_) (fun hc => ?_)
  · rw [zhands_lo hc]
    refine a_bipush (v := 12) dX8_init_109 (by decide) ?_
    refine a_goto (tgt := 115) dX8_init_111 rfl ?_
    refine a_callI dX8_init_115 (cX1_init_42 12 hZ24) csX1_init zw295 (Nat.le_of_ble_eq_true rfl) rfl (Nat.le_of_ble_eq_true rfl) ⟨Nat.le_of_ble_eq_true rfl, Nat.le_of_ble_eq_true rfl⟩ ?_
    have hZ25 := zX1_init_42 12 hZ24
    refine a_putqF dX8_init_118 F_X8_65 rfl rfl (fun z => by cases z <;> exact ⟨rfl, rfl⟩) rfl ?_
    have hZ26 := zZ_f (o := 0) (k := 0) (x := some 42) hZ25 (by decide)
    exact a_vret dX8_init_121 rfl
  · skip
    refine a_iload_n dX8_init_103 rfl 1 rfl ?_
    refine a_bipush (v := 24) dX8_init_104 (by decide) ?_
    refine a_icmp_le (tgt := 114) dX8_init_106 rfl (fun hc2 => ?_) (fun hc2 => ?_)
    · rw [zhands_in hc hc2]
      refine a_iload_n dX8_init_114 rfl 1 rfl ?_
      refine a_callI dX8_init_115 (cX1_init_42 p1 hZ24) csX1_init zw295 (Nat.le_of_ble_eq_true rfl) rfl (Nat.le_of_ble_eq_true rfl) ⟨Nat.le_of_ble_eq_true rfl, Nat.le_of_ble_eq_true rfl⟩ ?_
      have hZ27 := zX1_init_42 p1 hZ24
      refine a_putqF dX8_init_118 F_X8_65 rfl rfl (fun z => by cases z <;> exact ⟨rfl, rfl⟩) rfl ?_
      have hZ28 := zZ_f (o := 0) (k := 0) (x := some 42) hZ27 (by decide)
      exact a_vret dX8_init_121 rfl
    · rw [zhands_hi hc hc2]
      refine a_bipush (v := 12) dX8_init_109 (by decide) ?_
      refine a_goto (tgt := 115) dX8_init_111 rfl ?_
      refine a_callI dX8_init_115 (cX1_init_42 12 hZ24) csX1_init zw295 (Nat.le_of_ble_eq_true rfl) rfl (Nat.le_of_ble_eq_true rfl) ⟨Nat.le_of_ble_eq_true rfl, Nat.le_of_ble_eq_true rfl⟩ ?_
      have hZ29 := zX1_init_42 12 hZ24
      refine a_putqF dX8_init_118 F_X8_65 rfl rfl (fun z => by cases z <;> exact ⟨rfl, rfl⟩) rfl ?_
      have hZ30 := zZ_f (o := 0) (k := 0) (x := some 42) hZ29 (by decide)
      exact a_vret dX8_init_121 rfl
theorem zX8_init_0 {I : zPI} {L : zPL} {F : zPF} (p1 : Int32) (hZ : zZ 1 I L F) : zZ 48 (eI_X8_init_0 I p1) (eL_X8_init_0 L) (eF_X8_init_0 F) := by
  have hZ1 := zZ_up hZ (Nat.le_succ _)
  have hZ2 := zX4_init_1 hZ1
  have hZ3 := zZ_f (o := 0) (k := 1) (x := some 1) hZ2 (by decide)
  have hZ4 := zZ_up hZ3 (Nat.le_succ _)
  have hZ5 := zX7_init_9 hZ4
  have hZ6 := zZ_f (o := 0) (k := 2) (x := some 9) hZ5 (by decide)
  have hZ7 := zZ_up hZ6 (Nat.le_succ _)
  have hZ8 := zX6_init_13 hZ7
  have hZ9 := zZ_f (o := 0) (k := 3) (x := some 13) hZ8 (by decide)
  have hZ10 := zZ_up hZ9 (Nat.le_succ _)
  have hZ11 := zX3_init_15 hZ10
  have hZ12 := zZ_f (o := 0) (k := 4) (x := some 15) hZ11 (by decide)
  have hZ13 := zZ_up hZ12 (Nat.le_succ _)
  have hZ14 := zX2_init_17 hZ13
  have hZ15 := zZ_f (o := 0) (k := 5) (x := some 17) hZ14 (by decide)
  have hZ16 := zZ_up hZ15 (Nat.le_succ _)
  have hZ17 := zZ_f (o := 0) (k := 6) (x := some 23) hZ16 (by decide)
  have hZ18 := zZ_up hZ17 (Nat.le_succ _)
  have hZ19 := zX5_init_24 hZ18
  have hZ20 := zZ_f (o := 0) (k := 7) (x := some 24) hZ19 (by decide)
  have hZ21 := zZ_up hZ20 (Nat.le_succ _)
  have hZ22 := zX5_init_33 hZ21
  have hZ23 := zZ_f (o := 0) (k := 8) (x := some 33) hZ22 (by decide)
  have hZ24 := zZ_up hZ23 (Nat.le_succ _)
  have hZ29 := zX1_init_42 (zhands p1) hZ24
  have hZ30 := zZ_f (o := 0) (k := 0) (x := some 42) hZ29 (by decide)
  exact hZ30
theorem lX9_init_364 {X : Nat × (Nat → Int32)} {L : zPL} {F : zPF} {σ' : zW} (hF : F 48 23 = some 62) : ∀ (m j : Nat) (I : zPI), j + m = 24 → zAW zE0 X mX9_init 1 383 [(0, zr 48)] [] (zS0.take 76, zfill I 62 j 24 (-1), L, F) none σ' → zAW zE0 X mX9_init 1 364 [(0, zr 48), (2, zi (nI j))] [] (zS0.take 76, I, L, F) none σ' := by
  intro m
  induction m with
  | zero =>
    intro j I hj k
    refine a_iload_n dX9_init_364 rfl 1 rfl ?_
    refine a_bipush (v := 24) dX9_init_365 (by decide) ?_
    refine a_icmp_ge (tgt := 383) dX9_init_367 rfl (fun _ => ?_) (fun hc => ?_)
    · refine a_sub [0] rfl ?_
      have e : j = 24 := by omega
      subst e
      rw [zfill_nil] at k
      exact k
    · exact absurd (nI_le (a := 24) (b := j) (by omega) (by omega)) hc
  | succ m ih =>
    intro j I hj k
    refine a_iload_n dX9_init_364 rfl 1 rfl ?_
    refine a_bipush (v := 24) dX9_init_365 (by decide) ?_
    refine a_icmp_ge (tgt := 383) dX9_init_367 rfl (fun hc => absurd hc (nI_ge (a := j) (b := 24) (by omega) (by omega))) (fun _ => ?_)
    refine a_aload_n dX9_init_370 rfl 0 rfl ?_
    refine a_getq dX9_init_371 G_X9_95 rfl rfl hF ?_
    refine a_iload_n dX9_init_374 rfl 1 rfl ?_
    refine a_iconst (v := (-1)) dX9_init_375 (by decide) ?_
    refine a_iast (n := 24) dX9_init_376 rfl (vp_in_nI (by omega) (by omega)) ?_
    rw [nI_clamp (by omega)]
    refine a_iincK (k0 := 1) dX9_init_377 (by decide) 1 rfl (by decide) rfl ?_
    refine a_goto (tgt := 364) dX9_init_380 rfl ?_
    refine a_sub [1, 0] rfl ?_
    rw [← nI_succ]
    refine ih (j + 1) _ (by omega) ?_
    rw [zfill_step (by omega)]
    exact k
def eI_X9_init_48 (I : zPI) (p1 : Int32) : zPI := zfill (zu I 48 18 (zhands p1)) 62 0 24 (-1)
def eL_X9_init_48 (L : zPL) : zPL := zu (zu (zu (zu (zu (zu (zu (zu (zu (zu (zu (zu (zu (zu (zu (zu (zu L 53 0 26216) 53 1 333345) 53 2 4661561) 53 3 932886) 53 4 36629167) 53 5 153784) 53 6 1166741) 53 7 339) 53 8 270401) 53 9 43523697) 53 10 12029519) 53 11 329128) 53 12 1976958) 53 13 36426541) 53 14 237233349) 53 15 426554) 53 16 628412
def eF_X9_init_48 (F : zPF) : zPF := zu (zu (zu (zu (zu (zu (zu (zu (zu (zu (zu (zu (zu (zu (zu (zu (zu (zu (zu (zu (zu (zu (zu (zu (zu (zu (zu F 48 1 (some 49)) 48 4 (some 50)) 48 5 (some 51)) 48 6 (some 52)) 48 9 (some 53)) 48 10 (some 54)) 48 11 (some 55)) 48 12 (some 56)) 48 16 (some 57)) 48 19 (some 58)) 48 20 (some 59)) 48 21 (some 60)) 48 22 (some 61)) 48 23 (some 62)) 48 24 (some 63)) 48 25 (some 64)) 48 26 (some 65)) 48 27 (some 66)) 48 40 (some 67)) 48 41 (some 68)) 48 42 (some 69)) 48 45 (some 70)) 48 47 (some 71)) 48 48 (some 72)) 48 49 (some 73)) 48 50 (some 74)) 48 52 (some 75)
set_option maxRecDepth 100000 in
theorem cX9_init_48 {X : Nat × (Nat → Int32)} {I : zPI} {L : zPL} {F : zPF} (p1 : Int32) (hZ : zZ 49 I L F) : zAM X mX9_init 1 [zr 48, zi p1] (zS0.take 49, I, L, F) none (zS0.take 76, eI_X9_init_48 I p1, eL_X9_init_48 L, eF_X9_init_48 F) := by
  refine zAM_of (by decide) (Nat.le_of_ble_eq_true rfl) ⟨fun _ => rfl, fun _ => rfl⟩ (Nat.le_of_ble_eq_true rfl) (Nat.le_of_ble_eq_true rfl) ?_
  show zAW zE0 X mX9_init 1 0 [(0, zr 48), (1, zi p1)] [] (zS0.take 49, I, L, F) none (zS0.take 76, eI_X9_init_48 I p1, eL_X9_init_48 L, eF_X9_init_48 F)
  refine a_aload_n dX9_init_0 rfl 0 rfl ?_
  refine a_objInit dX9_init_1 zw932 zw100 zw101 (by decide) (Nat.le_of_ble_eq_true rfl) ?_
  refine a_aload_n dX9_init_4 rfl 0 rfl ?_
  refine a_sipush (v := 1000) dX9_init_5 (by decide) ?_
  refine a_newI (len := 1000) dX9_init_8 hZ (by decide) rfl (by decide) (by decide) (by decide) ⟨Nat.le_of_ble_eq_true rfl, Nat.le_of_ble_eq_true rfl⟩ ?_
  have hZ1 := zZ_up hZ (Nat.le_succ _)
  refine a_putqF dX9_init_10 F_X9_14 rfl rfl (fun z => by cases z <;> exact ⟨rfl, rfl⟩) rfl ?_
  have hZ2 := zZ_f (o := 48) (k := 1) (x := some 49) hZ1 (by decide)
  refine a_aload_n dX9_init_13 rfl 0 rfl ?_
  refine a_sipush (v := 1002) dX9_init_14 (by decide) ?_
  refine a_newI (len := 1002) dX9_init_17 hZ2 (by decide) rfl (by decide) (by decide) (by decide) ⟨Nat.le_of_ble_eq_true rfl, Nat.le_of_ble_eq_true rfl⟩ ?_
  have hZ3 := zZ_up hZ2 (Nat.le_succ _)
  refine a_putqF dX9_init_19 F_X9_24 rfl rfl (fun z => by cases z <;> exact ⟨rfl, rfl⟩) rfl ?_
  have hZ4 := zZ_f (o := 48) (k := 4) (x := some 50) hZ3 (by decide)
  refine a_aload_n dX9_init_22 rfl 0 rfl ?_
  refine a_sipush (v := 1002) dX9_init_23 (by decide) ?_
  refine a_newI (len := 1002) dX9_init_26 hZ4 (by decide) rfl (by decide) (by decide) (by decide) ⟨Nat.le_of_ble_eq_true rfl, Nat.le_of_ble_eq_true rfl⟩ ?_
  have hZ5 := zZ_up hZ4 (Nat.le_succ _)
  refine a_putqF dX9_init_28 F_X9_27 rfl rfl (fun z => by cases z <;> exact ⟨rfl, rfl⟩) rfl ?_
  have hZ6 := zZ_f (o := 48) (k := 5) (x := some 51) hZ5 (by decide)
  refine a_aload_n dX9_init_31 rfl 0 rfl ?_
  refine a_sipush (v := 1002) dX9_init_32 (by decide) ?_
  refine a_newL (len := 1002) dX9_init_35 hZ6 (by decide) rfl (by decide) (by decide) (by decide) ⟨Nat.le_of_ble_eq_true rfl, Nat.le_of_ble_eq_true rfl⟩ ?_
  have hZ7 := zZ_up hZ6 (Nat.le_succ _)
  refine a_putqF dX9_init_37 F_X9_30 rfl rfl (fun z => by cases z <;> exact ⟨rfl, rfl⟩) rfl ?_
  have hZ8 := zZ_f (o := 48) (k := 6) (x := some 52) hZ7 (by decide)
  refine a_aload_n dX9_init_40 rfl 0 rfl ?_
  refine a_bipush (v := 17) dX9_init_41 (by decide) ?_
  refine a_newL (len := 17) dX9_init_43 hZ8 (by decide) rfl (by decide) (by decide) (by decide) ⟨Nat.le_of_ble_eq_true rfl, Nat.le_of_ble_eq_true rfl⟩ ?_
  have hZ9 := zZ_up hZ8 (Nat.le_succ _)
  refine a_dup dX9_init_45 rfl ?_
  refine a_iconst (v := 0) dX9_init_46 (by decide) ?_
  refine a_ldc2 dX9_init_47 zw933 ?_
  refine a_last dX9_init_50 rfl (zin_vp (by decide)) ?_
  have hZ10 := zZ_l (o := 53) (k := 0) (x := 26216) hZ9 (by decide)
  refine a_dup dX9_init_51 rfl ?_
  refine a_iconst (v := 1) dX9_init_52 (by decide) ?_
  refine a_ldc2 dX9_init_53 zw934 ?_
  refine a_last dX9_init_56 rfl (zin_vp (by decide)) ?_
  have hZ11 := zZ_l (o := 53) (k := 1) (x := 333345) hZ10 (by decide)
  refine a_dup dX9_init_57 rfl ?_
  refine a_iconst (v := 2) dX9_init_58 (by decide) ?_
  refine a_ldc2 dX9_init_59 zw935 ?_
  refine a_last dX9_init_62 rfl (zin_vp (by decide)) ?_
  have hZ12 := zZ_l (o := 53) (k := 2) (x := 4661561) hZ11 (by decide)
  refine a_dup dX9_init_63 rfl ?_
  refine a_iconst (v := 3) dX9_init_64 (by decide) ?_
  refine a_ldc2 dX9_init_65 zw936 ?_
  refine a_last dX9_init_68 rfl (zin_vp (by decide)) ?_
  have hZ13 := zZ_l (o := 53) (k := 3) (x := 932886) hZ12 (by decide)
  refine a_dup dX9_init_69 rfl ?_
  refine a_iconst (v := 4) dX9_init_70 (by decide) ?_
  refine a_ldc2 dX9_init_71 zw937 ?_
  refine a_last dX9_init_74 rfl (zin_vp (by decide)) ?_
  have hZ14 := zZ_l (o := 53) (k := 4) (x := 36629167) hZ13 (by decide)
  refine a_dup dX9_init_75 rfl ?_
  refine a_iconst (v := 5) dX9_init_76 (by decide) ?_
  refine a_ldc2 dX9_init_77 zw938 ?_
  refine a_last dX9_init_80 rfl (zin_vp (by decide)) ?_
  have hZ15 := zZ_l (o := 53) (k := 5) (x := 153784) hZ14 (by decide)
  refine a_dup dX9_init_81 rfl ?_
  refine a_bipush (v := 6) dX9_init_82 (by decide) ?_
  refine a_ldc2 dX9_init_84 zw939 ?_
  refine a_last dX9_init_87 rfl (zin_vp (by decide)) ?_
  have hZ16 := zZ_l (o := 53) (k := 6) (x := 1166741) hZ15 (by decide)
  refine a_dup dX9_init_88 rfl ?_
  refine a_bipush (v := 7) dX9_init_89 (by decide) ?_
  refine a_ldc2 dX9_init_91 zw940 ?_
  refine a_last dX9_init_94 rfl (zin_vp (by decide)) ?_
  have hZ17 := zZ_l (o := 53) (k := 7) (x := 339) hZ16 (by decide)
  refine a_dup dX9_init_95 rfl ?_
  refine a_bipush (v := 8) dX9_init_96 (by decide) ?_
  refine a_ldc2 dX9_init_98 zw941 ?_
  refine a_last dX9_init_101 rfl (zin_vp (by decide)) ?_
  have hZ18 := zZ_l (o := 53) (k := 8) (x := 270401) hZ17 (by decide)
  refine a_dup dX9_init_102 rfl ?_
  refine a_bipush (v := 9) dX9_init_103 (by decide) ?_
  refine a_ldc2 dX9_init_105 zw942 ?_
  refine a_last dX9_init_108 rfl (zin_vp (by decide)) ?_
  have hZ19 := zZ_l (o := 53) (k := 9) (x := 43523697) hZ18 (by decide)
  refine a_dup dX9_init_109 rfl ?_
  refine a_bipush (v := 10) dX9_init_110 (by decide) ?_
  refine a_ldc2 dX9_init_112 zw943 ?_
  refine a_last dX9_init_115 rfl (zin_vp (by decide)) ?_
  have hZ20 := zZ_l (o := 53) (k := 10) (x := 12029519) hZ19 (by decide)
  refine a_dup dX9_init_116 rfl ?_
  refine a_bipush (v := 11) dX9_init_117 (by decide) ?_
  refine a_ldc2 dX9_init_119 zw944 ?_
  refine a_last dX9_init_122 rfl (zin_vp (by decide)) ?_
  have hZ21 := zZ_l (o := 53) (k := 11) (x := 329128) hZ20 (by decide)
  refine a_dup dX9_init_123 rfl ?_
  refine a_bipush (v := 12) dX9_init_124 (by decide) ?_
  refine a_ldc2 dX9_init_126 zw945 ?_
  refine a_last dX9_init_129 rfl (zin_vp (by decide)) ?_
  have hZ22 := zZ_l (o := 53) (k := 12) (x := 1976958) hZ21 (by decide)
  refine a_dup dX9_init_130 rfl ?_
  refine a_bipush (v := 13) dX9_init_131 (by decide) ?_
  refine a_ldc2 dX9_init_133 zw946 ?_
  refine a_last dX9_init_136 rfl (zin_vp (by decide)) ?_
  have hZ23 := zZ_l (o := 53) (k := 13) (x := 36426541) hZ22 (by decide)
  refine a_dup dX9_init_137 rfl ?_
  refine a_bipush (v := 14) dX9_init_138 (by decide) ?_
  refine a_ldc2 dX9_init_140 zw947 ?_
  refine a_last dX9_init_143 rfl (zin_vp (by decide)) ?_
  have hZ24 := zZ_l (o := 53) (k := 14) (x := 237233349) hZ23 (by decide)
  refine a_dup dX9_init_144 rfl ?_
  refine a_bipush (v := 15) dX9_init_145 (by decide) ?_
  refine a_ldc2 dX9_init_147 zw948 ?_
  refine a_last dX9_init_150 rfl (zin_vp (by decide)) ?_
  have hZ25 := zZ_l (o := 53) (k := 15) (x := 426554) hZ24 (by decide)
  refine a_dup dX9_init_151 rfl ?_
  refine a_bipush (v := 16) dX9_init_152 (by decide) ?_
  refine a_ldc2 dX9_init_154 zw949 ?_
  refine a_last dX9_init_157 rfl (zin_vp (by decide)) ?_
  have hZ26 := zZ_l (o := 53) (k := 16) (x := 628412) hZ25 (by decide)
  refine a_putqF dX9_init_158 F_X9_68 rfl rfl (fun z => by cases z <;> exact ⟨rfl, rfl⟩) rfl ?_
  have hZ27 := zZ_f (o := 48) (k := 9) (x := some 53) hZ26 (by decide)
  refine a_aload_n dX9_init_161 rfl 0 rfl ?_
  refine a_sipush (v := 4400) dX9_init_162 (by decide) ?_
  refine a_newI (len := 4400) dX9_init_165 hZ27 (by decide) rfl (by decide) (by decide) (by decide) ⟨Nat.le_of_ble_eq_true rfl, Nat.le_of_ble_eq_true rfl⟩ ?_
  have hZ28 := zZ_up hZ27 (Nat.le_succ _)
  refine a_putqF dX9_init_167 F_X9_71 rfl rfl (fun z => by cases z <;> exact ⟨rfl, rfl⟩) rfl ?_
  have hZ29 := zZ_f (o := 48) (k := 10) (x := some 54) hZ28 (by decide)
  refine a_aload_n dX9_init_170 rfl 0 rfl ?_
  refine a_sipush (v := 4400) dX9_init_171 (by decide) ?_
  refine a_newI (len := 4400) dX9_init_174 hZ29 (by decide) rfl (by decide) (by decide) (by decide) ⟨Nat.le_of_ble_eq_true rfl, Nat.le_of_ble_eq_true rfl⟩ ?_
  have hZ30 := zZ_up hZ29 (Nat.le_succ _)
  refine a_putqF dX9_init_176 F_X9_74 rfl rfl (fun z => by cases z <;> exact ⟨rfl, rfl⟩) rfl ?_
  have hZ31 := zZ_f (o := 48) (k := 11) (x := some 55) hZ30 (by decide)
  refine a_aload_n dX9_init_179 rfl 0 rfl ?_
  refine a_sipush (v := 4400) dX9_init_180 (by decide) ?_
  refine a_newI (len := 4400) dX9_init_183 hZ31 (by decide) rfl (by decide) (by decide) (by decide) ⟨Nat.le_of_ble_eq_true rfl, Nat.le_of_ble_eq_true rfl⟩ ?_
  have hZ32 := zZ_up hZ31 (Nat.le_succ _)
  refine a_putqF dX9_init_185 F_X9_77 rfl rfl (fun z => by cases z <;> exact ⟨rfl, rfl⟩) rfl ?_
  have hZ33 := zZ_f (o := 48) (k := 12) (x := some 56) hZ32 (by decide)
  refine a_aload_n dX9_init_188 rfl 0 rfl ?_
  refine a_iconst (v := 2) dX9_init_189 (by decide) ?_
  refine a_newI (len := 2) dX9_init_190 hZ33 (by decide) rfl (by decide) (by decide) (by decide) ⟨Nat.le_of_ble_eq_true rfl, Nat.le_of_ble_eq_true rfl⟩ ?_
  have hZ34 := zZ_up hZ33 (Nat.le_succ _)
  refine a_putqF dX9_init_192 F_X9_80 rfl rfl (fun z => by cases z <;> exact ⟨rfl, rfl⟩) rfl ?_
  have hZ35 := zZ_f (o := 48) (k := 16) (x := some 57) hZ34 (by decide)
  refine a_aload_n dX9_init_195 rfl 0 rfl ?_
  refine a_bipush (v := 9) dX9_init_196 (by decide) ?_
  refine a_newI (len := 9) dX9_init_198 hZ35 (by decide) rfl (by decide) (by decide) (by decide) ⟨Nat.le_of_ble_eq_true rfl, Nat.le_of_ble_eq_true rfl⟩ ?_
  have hZ36 := zZ_up hZ35 (Nat.le_succ _)
  refine a_putqF dX9_init_200 F_X9_83 rfl rfl (fun z => by cases z <;> exact ⟨rfl, rfl⟩) rfl ?_
  have hZ37 := zZ_f (o := 48) (k := 19) (x := some 58) hZ36 (by decide)
  refine a_aload_n dX9_init_203 rfl 0 rfl ?_
  refine a_bipush (v := 18) dX9_init_204 (by decide) ?_
  refine a_newI (len := 18) dX9_init_206 hZ37 (by decide) rfl (by decide) (by decide) (by decide) ⟨Nat.le_of_ble_eq_true rfl, Nat.le_of_ble_eq_true rfl⟩ ?_
  have hZ38 := zZ_up hZ37 (Nat.le_succ _)
  refine a_putqF dX9_init_208 F_X9_86 rfl rfl (fun z => by cases z <;> exact ⟨rfl, rfl⟩) rfl ?_
  have hZ39 := zZ_f (o := 48) (k := 20) (x := some 59) hZ38 (by decide)
  refine a_aload_n dX9_init_211 rfl 0 rfl ?_
  refine a_bipush (v := 18) dX9_init_212 (by decide) ?_
  refine a_newI (len := 18) dX9_init_214 hZ39 (by decide) rfl (by decide) (by decide) (by decide) ⟨Nat.le_of_ble_eq_true rfl, Nat.le_of_ble_eq_true rfl⟩ ?_
  have hZ40 := zZ_up hZ39 (Nat.le_succ _)
  refine a_putqF dX9_init_216 F_X9_89 rfl rfl (fun z => by cases z <;> exact ⟨rfl, rfl⟩) rfl ?_
  have hZ41 := zZ_f (o := 48) (k := 21) (x := some 60) hZ40 (by decide)
  refine a_aload_n dX9_init_219 rfl 0 rfl ?_
  refine a_iconst (v := 3) dX9_init_220 (by decide) ?_
  refine a_newI (len := 3) dX9_init_221 hZ41 (by decide) rfl (by decide) (by decide) (by decide) ⟨Nat.le_of_ble_eq_true rfl, Nat.le_of_ble_eq_true rfl⟩ ?_
  have hZ42 := zZ_up hZ41 (Nat.le_succ _)
  refine a_putqF dX9_init_223 F_X9_92 rfl rfl (fun z => by cases z <;> exact ⟨rfl, rfl⟩) rfl ?_
  have hZ43 := zZ_f (o := 48) (k := 22) (x := some 61) hZ42 (by decide)
  refine a_aload_n dX9_init_226 rfl 0 rfl ?_
  refine a_bipush (v := 24) dX9_init_227 (by decide) ?_
  refine a_newI (len := 24) dX9_init_229 hZ43 (by decide) rfl (by decide) (by decide) (by decide) ⟨Nat.le_of_ble_eq_true rfl, Nat.le_of_ble_eq_true rfl⟩ ?_
  have hZ44 := zZ_up hZ43 (Nat.le_succ _)
  refine a_putqF dX9_init_231 F_X9_95 rfl rfl (fun z => by cases z <;> exact ⟨rfl, rfl⟩) rfl ?_
  have hZ45 := zZ_f (o := 48) (k := 23) (x := some 62) hZ44 (by decide)
  refine a_aload_n dX9_init_234 rfl 0 rfl ?_
  refine a_bipush (v := 24) dX9_init_235 (by decide) ?_
  refine a_newI (len := 24) dX9_init_237 hZ45 (by decide) rfl (by decide) (by decide) (by decide) ⟨Nat.le_of_ble_eq_true rfl, Nat.le_of_ble_eq_true rfl⟩ ?_
  have hZ46 := zZ_up hZ45 (Nat.le_succ _)
  refine a_putqF dX9_init_239 F_X9_98 rfl rfl (fun z => by cases z <;> exact ⟨rfl, rfl⟩) rfl ?_
  have hZ47 := zZ_f (o := 48) (k := 24) (x := some 63) hZ46 (by decide)
  refine a_aload_n dX9_init_242 rfl 0 rfl ?_
  refine a_bipush (v := 24) dX9_init_243 (by decide) ?_
  refine a_newI (len := 24) dX9_init_245 hZ47 (by decide) rfl (by decide) (by decide) (by decide) ⟨Nat.le_of_ble_eq_true rfl, Nat.le_of_ble_eq_true rfl⟩ ?_
  have hZ48 := zZ_up hZ47 (Nat.le_succ _)
  refine a_putqF dX9_init_247 F_X9_101 rfl rfl (fun z => by cases z <;> exact ⟨rfl, rfl⟩) rfl ?_
  have hZ49 := zZ_f (o := 48) (k := 25) (x := some 64) hZ48 (by decide)
  refine a_aload_n dX9_init_250 rfl 0 rfl ?_
  refine a_bipush (v := 24) dX9_init_251 (by decide) ?_
  refine a_newI (len := 24) dX9_init_253 hZ49 (by decide) rfl (by decide) (by decide) (by decide) ⟨Nat.le_of_ble_eq_true rfl, Nat.le_of_ble_eq_true rfl⟩ ?_
  have hZ50 := zZ_up hZ49 (Nat.le_succ _)
  refine a_putqF dX9_init_255 F_X9_104 rfl rfl (fun z => by cases z <;> exact ⟨rfl, rfl⟩) rfl ?_
  have hZ51 := zZ_f (o := 48) (k := 26) (x := some 65) hZ50 (by decide)
  refine a_aload_n dX9_init_258 rfl 0 rfl ?_
  refine a_bipush (v := 24) dX9_init_259 (by decide) ?_
  refine a_newI (len := 24) dX9_init_261 hZ51 (by decide) rfl (by decide) (by decide) (by decide) ⟨Nat.le_of_ble_eq_true rfl, Nat.le_of_ble_eq_true rfl⟩ ?_
  have hZ52 := zZ_up hZ51 (Nat.le_succ _)
  refine a_putqF dX9_init_263 F_X9_107 rfl rfl (fun z => by cases z <;> exact ⟨rfl, rfl⟩) rfl ?_
  have hZ53 := zZ_f (o := 48) (k := 27) (x := some 66) hZ52 (by decide)
  refine a_aload_n dX9_init_266 rfl 0 rfl ?_
  refine a_bipush (v := 60) dX9_init_267 (by decide) ?_
  refine a_newI (len := 60) dX9_init_269 hZ53 (by decide) rfl (by decide) (by decide) (by decide) ⟨Nat.le_of_ble_eq_true rfl, Nat.le_of_ble_eq_true rfl⟩ ?_
  have hZ54 := zZ_up hZ53 (Nat.le_succ _)
  refine a_putqF dX9_init_271 F_X9_110 rfl rfl (fun z => by cases z <;> exact ⟨rfl, rfl⟩) rfl ?_
  have hZ55 := zZ_f (o := 48) (k := 40) (x := some 67) hZ54 (by decide)
  refine a_aload_n dX9_init_274 rfl 0 rfl ?_
  refine a_bipush (v := 60) dX9_init_275 (by decide) ?_
  refine a_newI (len := 60) dX9_init_277 hZ55 (by decide) rfl (by decide) (by decide) (by decide) ⟨Nat.le_of_ble_eq_true rfl, Nat.le_of_ble_eq_true rfl⟩ ?_
  have hZ56 := zZ_up hZ55 (Nat.le_succ _)
  refine a_putqF dX9_init_279 F_X9_113 rfl rfl (fun z => by cases z <;> exact ⟨rfl, rfl⟩) rfl ?_
  have hZ57 := zZ_f (o := 48) (k := 41) (x := some 68) hZ56 (by decide)
  refine a_aload_n dX9_init_282 rfl 0 rfl ?_
  refine a_bipush (v := 60) dX9_init_283 (by decide) ?_
  refine a_newI (len := 60) dX9_init_285 hZ57 (by decide) rfl (by decide) (by decide) (by decide) ⟨Nat.le_of_ble_eq_true rfl, Nat.le_of_ble_eq_true rfl⟩ ?_
  have hZ58 := zZ_up hZ57 (Nat.le_succ _)
  refine a_putqF dX9_init_287 F_X9_116 rfl rfl (fun z => by cases z <;> exact ⟨rfl, rfl⟩) rfl ?_
  have hZ59 := zZ_f (o := 48) (k := 42) (x := some 69) hZ58 (by decide)
  refine a_aload_n dX9_init_290 rfl 0 rfl ?_
  refine a_sipush (v := 1010) dX9_init_291 (by decide) ?_
  refine a_newI (len := 1010) dX9_init_294 hZ59 (by decide) rfl (by decide) (by decide) (by decide) ⟨Nat.le_of_ble_eq_true rfl, Nat.le_of_ble_eq_true rfl⟩ ?_
  have hZ60 := zZ_up hZ59 (Nat.le_succ _)
  refine a_putqF dX9_init_296 F_X9_119 rfl rfl (fun z => by cases z <;> exact ⟨rfl, rfl⟩) rfl ?_
  have hZ61 := zZ_f (o := 48) (k := 45) (x := some 70) hZ60 (by decide)
  refine a_aload_n dX9_init_299 rfl 0 rfl ?_
  refine a_bipush (v := 8) dX9_init_300 (by decide) ?_
  refine a_newI (len := 8) dX9_init_302 hZ61 (by decide) rfl (by decide) (by decide) (by decide) ⟨Nat.le_of_ble_eq_true rfl, Nat.le_of_ble_eq_true rfl⟩ ?_
  have hZ62 := zZ_up hZ61 (Nat.le_succ _)
  refine a_putqF dX9_init_304 F_X9_122 rfl rfl (fun z => by cases z <;> exact ⟨rfl, rfl⟩) rfl ?_
  have hZ63 := zZ_f (o := 48) (k := 47) (x := some 71) hZ62 (by decide)
  refine a_aload_n dX9_init_307 rfl 0 rfl ?_
  refine a_bipush (v := 8) dX9_init_308 (by decide) ?_
  refine a_newI (len := 8) dX9_init_310 hZ63 (by decide) rfl (by decide) (by decide) (by decide) ⟨Nat.le_of_ble_eq_true rfl, Nat.le_of_ble_eq_true rfl⟩ ?_
  have hZ64 := zZ_up hZ63 (Nat.le_succ _)
  refine a_putqF dX9_init_312 F_X9_125 rfl rfl (fun z => by cases z <;> exact ⟨rfl, rfl⟩) rfl ?_
  have hZ65 := zZ_f (o := 48) (k := 48) (x := some 72) hZ64 (by decide)
  refine a_aload_n dX9_init_315 rfl 0 rfl ?_
  refine a_sipush (v := 21609) dX9_init_316 (by decide) ?_
  refine a_newZ (len := 21609) dX9_init_319 hZ65 (by decide) rfl (by decide) (by decide) (by decide) ⟨Nat.le_of_ble_eq_true rfl, Nat.le_of_ble_eq_true rfl⟩ ?_
  have hZ66 := zZ_up hZ65 (Nat.le_succ _)
  refine a_putqF dX9_init_321 F_X9_128 rfl rfl (fun z => by cases z <;> exact ⟨rfl, rfl⟩) rfl ?_
  have hZ67 := zZ_f (o := 48) (k := 49) (x := some 73) hZ66 (by decide)
  refine a_aload_n dX9_init_324 rfl 0 rfl ?_
  refine a_sipush (v := 21609) dX9_init_325 (by decide) ?_
  refine a_newZ (len := 21609) dX9_init_328 hZ67 (by decide) rfl (by decide) (by decide) (by decide) ⟨Nat.le_of_ble_eq_true rfl, Nat.le_of_ble_eq_true rfl⟩ ?_
  have hZ68 := zZ_up hZ67 (Nat.le_succ _)
  refine a_putqF dX9_init_330 F_X9_132 rfl rfl (fun z => by cases z <;> exact ⟨rfl, rfl⟩) rfl ?_
  have hZ69 := zZ_f (o := 48) (k := 50) (x := some 74) hZ68 (by decide)
  refine a_aload_n dX9_init_333 rfl 0 rfl ?_
  refine a_bipush (v := 8) dX9_init_334 (by decide) ?_
  refine a_newI (len := 8) dX9_init_336 hZ69 (by decide) rfl (by decide) (by decide) (by decide) ⟨Nat.le_of_ble_eq_true rfl, Nat.le_of_ble_eq_true rfl⟩ ?_
  have hZ70 := zZ_up hZ69 (Nat.le_succ _)
  refine a_putqF dX9_init_338 F_X9_135 rfl rfl (fun z => by cases z <;> exact ⟨rfl, rfl⟩) rfl ?_
  have hZ71 := zZ_f (o := 48) (k := 52) (x := some 75) hZ70 (by decide)
  refine a_aload_n dX9_init_341 rfl 0 rfl ?_
  refine a_iload_n dX9_init_342 rfl 1 rfl ?_
  refine a_iconst (v := 4) dX9_init_343 (by decide) ?_
  unfold eI_X9_init_48
  refine a_icmp_lt (tgt := 353) dX9_init_344 rfl (fun hc => ?_) (fun hc => ?_)
  · rw [zhands_lo hc]
    refine a_bipush (v := 12) dX9_init_353 (by decide) ?_
    refine a_goto (tgt := 359) dX9_init_355 rfl ?_
    refine a_putiF dX9_init_359 F_X9_138 rfl rfl ⟨rfl, rfl⟩ rfl ?_
    have hZ72 := zZ_i (o := 48) (k := 18) (x := 12) hZ71 (by decide)
    refine a_iconst (v := 0) dX9_init_362 (by decide) ?_
    refine a_istore_n dX9_init_363 rfl (by decide) rfl ?_
    refine a_sub [1, 0] rfl ?_
    refine lX9_init_364 rfl 24 0 _ rfl ?_
    have hZ73 := zZ_fill (o := 62) (j := 0) (n := 24) (x := (-1)) hZ72 (by decide)
    exact a_vret dX9_init_383 rfl
  · skip
    refine a_iload_n dX9_init_347 rfl 1 rfl ?_
    refine a_bipush (v := 24) dX9_init_348 (by decide) ?_
    refine a_icmp_le (tgt := 358) dX9_init_350 rfl (fun hc2 => ?_) (fun hc2 => ?_)
    · rw [zhands_in hc hc2]
      refine a_iload_n dX9_init_358 rfl 1 rfl ?_
      refine a_putiF dX9_init_359 F_X9_138 rfl rfl ⟨rfl, rfl⟩ rfl ?_
      have hZ74 := zZ_i (o := 48) (k := 18) (x := p1) hZ71 (by decide)
      refine a_iconst (v := 0) dX9_init_362 (by decide) ?_
      refine a_istore_n dX9_init_363 rfl (by decide) rfl ?_
      refine a_sub [1, 0] rfl ?_
      refine lX9_init_364 rfl 24 0 _ rfl ?_
      have hZ75 := zZ_fill (o := 62) (j := 0) (n := 24) (x := (-1)) hZ74 (by decide)
      exact a_vret dX9_init_383 rfl
    · rw [zhands_hi hc hc2]
      refine a_bipush (v := 12) dX9_init_353 (by decide) ?_
      refine a_goto (tgt := 359) dX9_init_355 rfl ?_
      refine a_putiF dX9_init_359 F_X9_138 rfl rfl ⟨rfl, rfl⟩ rfl ?_
      have hZ76 := zZ_i (o := 48) (k := 18) (x := 12) hZ71 (by decide)
      refine a_iconst (v := 0) dX9_init_362 (by decide) ?_
      refine a_istore_n dX9_init_363 rfl (by decide) rfl ?_
      refine a_sub [1, 0] rfl ?_
      refine lX9_init_364 rfl 24 0 _ rfl ?_
      have hZ77 := zZ_fill (o := 62) (j := 0) (n := 24) (x := (-1)) hZ76 (by decide)
      exact a_vret dX9_init_383 rfl
theorem zX9_init_48 {I : zPI} {L : zPL} {F : zPF} (p1 : Int32) (hZ : zZ 49 I L F) : zZ 76 (eI_X9_init_48 I p1) (eL_X9_init_48 L) (eF_X9_init_48 F) := by
  have hZ1 := zZ_up hZ (Nat.le_succ _)
  have hZ2 := zZ_f (o := 48) (k := 1) (x := some 49) hZ1 (by decide)
  have hZ3 := zZ_up hZ2 (Nat.le_succ _)
  have hZ4 := zZ_f (o := 48) (k := 4) (x := some 50) hZ3 (by decide)
  have hZ5 := zZ_up hZ4 (Nat.le_succ _)
  have hZ6 := zZ_f (o := 48) (k := 5) (x := some 51) hZ5 (by decide)
  have hZ7 := zZ_up hZ6 (Nat.le_succ _)
  have hZ8 := zZ_f (o := 48) (k := 6) (x := some 52) hZ7 (by decide)
  have hZ9 := zZ_up hZ8 (Nat.le_succ _)
  have hZ10 := zZ_l (o := 53) (k := 0) (x := 26216) hZ9 (by decide)
  have hZ11 := zZ_l (o := 53) (k := 1) (x := 333345) hZ10 (by decide)
  have hZ12 := zZ_l (o := 53) (k := 2) (x := 4661561) hZ11 (by decide)
  have hZ13 := zZ_l (o := 53) (k := 3) (x := 932886) hZ12 (by decide)
  have hZ14 := zZ_l (o := 53) (k := 4) (x := 36629167) hZ13 (by decide)
  have hZ15 := zZ_l (o := 53) (k := 5) (x := 153784) hZ14 (by decide)
  have hZ16 := zZ_l (o := 53) (k := 6) (x := 1166741) hZ15 (by decide)
  have hZ17 := zZ_l (o := 53) (k := 7) (x := 339) hZ16 (by decide)
  have hZ18 := zZ_l (o := 53) (k := 8) (x := 270401) hZ17 (by decide)
  have hZ19 := zZ_l (o := 53) (k := 9) (x := 43523697) hZ18 (by decide)
  have hZ20 := zZ_l (o := 53) (k := 10) (x := 12029519) hZ19 (by decide)
  have hZ21 := zZ_l (o := 53) (k := 11) (x := 329128) hZ20 (by decide)
  have hZ22 := zZ_l (o := 53) (k := 12) (x := 1976958) hZ21 (by decide)
  have hZ23 := zZ_l (o := 53) (k := 13) (x := 36426541) hZ22 (by decide)
  have hZ24 := zZ_l (o := 53) (k := 14) (x := 237233349) hZ23 (by decide)
  have hZ25 := zZ_l (o := 53) (k := 15) (x := 426554) hZ24 (by decide)
  have hZ26 := zZ_l (o := 53) (k := 16) (x := 628412) hZ25 (by decide)
  have hZ27 := zZ_f (o := 48) (k := 9) (x := some 53) hZ26 (by decide)
  have hZ28 := zZ_up hZ27 (Nat.le_succ _)
  have hZ29 := zZ_f (o := 48) (k := 10) (x := some 54) hZ28 (by decide)
  have hZ30 := zZ_up hZ29 (Nat.le_succ _)
  have hZ31 := zZ_f (o := 48) (k := 11) (x := some 55) hZ30 (by decide)
  have hZ32 := zZ_up hZ31 (Nat.le_succ _)
  have hZ33 := zZ_f (o := 48) (k := 12) (x := some 56) hZ32 (by decide)
  have hZ34 := zZ_up hZ33 (Nat.le_succ _)
  have hZ35 := zZ_f (o := 48) (k := 16) (x := some 57) hZ34 (by decide)
  have hZ36 := zZ_up hZ35 (Nat.le_succ _)
  have hZ37 := zZ_f (o := 48) (k := 19) (x := some 58) hZ36 (by decide)
  have hZ38 := zZ_up hZ37 (Nat.le_succ _)
  have hZ39 := zZ_f (o := 48) (k := 20) (x := some 59) hZ38 (by decide)
  have hZ40 := zZ_up hZ39 (Nat.le_succ _)
  have hZ41 := zZ_f (o := 48) (k := 21) (x := some 60) hZ40 (by decide)
  have hZ42 := zZ_up hZ41 (Nat.le_succ _)
  have hZ43 := zZ_f (o := 48) (k := 22) (x := some 61) hZ42 (by decide)
  have hZ44 := zZ_up hZ43 (Nat.le_succ _)
  have hZ45 := zZ_f (o := 48) (k := 23) (x := some 62) hZ44 (by decide)
  have hZ46 := zZ_up hZ45 (Nat.le_succ _)
  have hZ47 := zZ_f (o := 48) (k := 24) (x := some 63) hZ46 (by decide)
  have hZ48 := zZ_up hZ47 (Nat.le_succ _)
  have hZ49 := zZ_f (o := 48) (k := 25) (x := some 64) hZ48 (by decide)
  have hZ50 := zZ_up hZ49 (Nat.le_succ _)
  have hZ51 := zZ_f (o := 48) (k := 26) (x := some 65) hZ50 (by decide)
  have hZ52 := zZ_up hZ51 (Nat.le_succ _)
  have hZ53 := zZ_f (o := 48) (k := 27) (x := some 66) hZ52 (by decide)
  have hZ54 := zZ_up hZ53 (Nat.le_succ _)
  have hZ55 := zZ_f (o := 48) (k := 40) (x := some 67) hZ54 (by decide)
  have hZ56 := zZ_up hZ55 (Nat.le_succ _)
  have hZ57 := zZ_f (o := 48) (k := 41) (x := some 68) hZ56 (by decide)
  have hZ58 := zZ_up hZ57 (Nat.le_succ _)
  have hZ59 := zZ_f (o := 48) (k := 42) (x := some 69) hZ58 (by decide)
  have hZ60 := zZ_up hZ59 (Nat.le_succ _)
  have hZ61 := zZ_f (o := 48) (k := 45) (x := some 70) hZ60 (by decide)
  have hZ62 := zZ_up hZ61 (Nat.le_succ _)
  have hZ63 := zZ_f (o := 48) (k := 47) (x := some 71) hZ62 (by decide)
  have hZ64 := zZ_up hZ63 (Nat.le_succ _)
  have hZ65 := zZ_f (o := 48) (k := 48) (x := some 72) hZ64 (by decide)
  have hZ66 := zZ_up hZ65 (Nat.le_succ _)
  have hZ67 := zZ_f (o := 48) (k := 49) (x := some 73) hZ66 (by decide)
  have hZ68 := zZ_up hZ67 (Nat.le_succ _)
  have hZ69 := zZ_f (o := 48) (k := 50) (x := some 74) hZ68 (by decide)
  have hZ70 := zZ_up hZ69 (Nat.le_succ _)
  have hZ71 := zZ_f (o := 48) (k := 52) (x := some 75) hZ70 (by decide)
  have hZ76 := zZ_i (o := 48) (k := 18) (x := zhands p1) hZ71 (by decide)
  have hZ77 := zZ_fill (o := 62) (j := 0) (n := 24) (x := (-1)) hZ76 (by decide)
  exact hZ77
