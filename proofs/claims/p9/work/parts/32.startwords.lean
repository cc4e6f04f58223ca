/-! what the Statement gives at the law's entry -/
abbrev zfl1 : List Cond := flatC (Jvm.Cond.and given_1 narrow_1)
abbrev zAs (s : State) : Nat → Prop := fun q => s.heap.size ≤ q
theorem zAs_no {s : State} : ∀ a : Nat, a < s.heap.size → ¬ zAs s a := fun _ h => Nat.not_le.mpr h
theorem zs1 : ∀ q ∈ zst, q.2.2.length < 2 ^ 31 ∧ Cond.arrayOf (.static q.1 q.2.1 "[I") .int ∈ zfl1 ∧ Cond.eq (.length (.static q.1 q.2.1 "[I")) (.int (Int32.ofNat q.2.2.length)) ∈ zfl1 ∧ Cond.laysStatic q.1 q.2.1 "[I" ∈ lw_tbl ∧ Cond.initialized q.1 ∈ lw_tbl := by decide +kernel
theorem zs2 : ∀ q ∈ zst, ∀ j, j < q.2.2.length → Cond.eq (.elem (.static q.1 q.2.1 "[I") (.int (Int32.ofNat j))) (.int (q.2.2.getD j 0)) ∈ zfl1 := by decide +kernel
theorem zsta {args : Array Value} {s : State} (hts : ∀ w ∈ lw_tbl, w.before args s = true) (hs : ∀ c ∈ zfl1, c.before args s = true) (q : String × String × List Int32) (hq : q ∈ zst) : ∃ t : Nat, va_Z q.1 q.2.1 "[I" (.ref t) (zAs s) s s.heap ∧ va_T .int t q.2.2.length (fun j => .int (q.2.2.getD j 0)) (zAs s) s s.heap := by
  obtain ⟨w1, w2, w3, w4, w5⟩ := zs1 q hq
  obtain ⟨t, ht, hT⟩ := va_Tof (f := fun j => .int (q.2.2.getD j 0)) (A := zAs s) w1 (hs _ w2) (va_eqt (hs _ w3)) (fun j hj => va_eqt (hs _ (zs2 q hq j hj))) zAs_no
  exact ⟨t, va_Zref (hts _ w4) (hts _ w5) ht zAs_no, hT⟩
theorem zstr1 : ∀ q ∈ zsr, q.2.2.length < 2 ^ 31 ∧ Cond.exactly (.string RX3 q.1) "java/lang/String" ∈ zfl1 ∧ Cond.eq (.field (.string RX3 q.1) "java/lang/String" "coder" "B") (.int 0) ∈ zfl1 ∧ Cond.arrayOf (.field (.string RX3 q.1) "java/lang/String" "value" "[B") .byte ∈ zfl1 ∧ Cond.eq (.length (.field (.string RX3 q.1) "java/lang/String" "value" "[B")) (.int (Int32.ofNat q.2.2.length)) ∈ zfl1 := by decide +kernel
theorem zstr2 : ∀ q ∈ zsr, ∀ j, j < q.2.2.length → Cond.eq (.elem (.field (.string RX3 q.1) "java/lang/String" "value" "[B") (.int (Int32.ofNat j))) (.int (q.2.2.getD j 0)) ∈ zfl1 := by decide +kernel
theorem zstr4 : ∀ q ∈ zsr, Cond.stringRef RX3 q.1 q.2.1 ∈ lw_tbl := by decide +kernel
theorem zfmt1 : Cond.isRef (.static "jdk/internal/util/Preconditions" "SIOOBE_FORMATTER" "Ljava/util/function/BiFunction;") ∈ zfl1 ∧ Cond.isRef (.static Bundle.tN "UNASSIGNED_STACK" Bundle.steD) ∈ zfl1 ∧ Cond.isRef (.static Bundle.tN "SUPPRESSED_SENTINEL" Bundle.listD) ∈ zfl1 ∧ Cond.eq (.static "java/lang/String" "COMPACT_STRINGS" "Z") (.int 1) ∈ zfl1 := by decide +kernel
theorem zfmt2 : Cond.laysStatic "jdk/internal/util/Preconditions" "SIOOBE_FORMATTER" "Ljava/util/function/BiFunction;" ∈ lw_tbl ∧ Cond.laysStatic Bundle.tN "UNASSIGNED_STACK" Bundle.steD ∈ lw_tbl ∧ Cond.laysStatic Bundle.tN "SUPPRESSED_SENTINEL" Bundle.listD ∈ lw_tbl ∧ Cond.laysStatic "java/lang/String" "COMPACT_STRINGS" "Z" ∈ lw_tbl := by decide +kernel
theorem zfmt3 : Cond.initialized "jdk/internal/util/Preconditions" ∈ lw_tbl ∧ Cond.initialized Bundle.tN ∈ lw_tbl ∧ Cond.initialized "java/lang/String" ∈ lw_tbl := by decide +kernel
theorem znst1 : ∀ q ∈ znst, Cond.methodLinkNest RX8 q.1 q.2 RX8 ∈ lw_tbl := by decide +kernel
theorem zXn1 : ∀ w ∈ zXn, w ∈ lw_tbl := by decide +kernel
theorem zsh1 : (Cond.stringRef RX8 120 "no such hand" ∈ lw_tbl ∧ Cond.stringRef RX8 136 "nothing such is known of a hand" ∈ lw_tbl) ∧ Cond.exactly (.string RX8 120) "java/lang/String" ∈ zfl1 ∧ Cond.exactly (.string RX8 136) "java/lang/String" ∈ zfl1 := by decide +kernel
theorem zword {args : Array Value} {s : State} (hts : ∀ w ∈ lw_tbl, w.before args s = true) (hs : ∀ c ∈ zfl1, c.before args s = true) (q : Nat × String × List Int32) (hq : q ∈ zsr) : ∃ k v : Nat, va_O "java/lang/String" k (zAs s) s s.heap ∧ va_OF "java/lang/String" "coder" "B" (.int 0) k (zAs s) s s.heap ∧ va_OF "java/lang/String" "value" "[B" (.ref v) k (zAs s) s s.heap ∧
    va_T .byte v q.2.2.length (fun j => .int (q.2.2.getD j 0)) (zAs s) s s.heap ∧ vk_R RX3 q.1 q.2.1 k s := by
  obtain ⟨w1, w2, w3, w4, w5⟩ := zstr1 q hq
  obtain ⟨adK, adV, ⟨h1, -⟩, h2⟩ := vk_Sof (N := 1) (tm := fun _ => .string RX3 q.1) (len := [q.2.2.length]) (byt := [q.2.2]) (A := zAs s) (args := args) (s := s)
    (fun i hi => by have : i = 0 := by omega
                    subst this; exact w1)
    (fun i hi => hs _ w2) (fun i hi => hs _ w3) (fun i hi => hs _ w4) (fun i hi => by have : i = 0 := by omega
                                                                                      subst this; exact hs _ w5)
    (fun i hi j hj => by have : i = 0 := by omega
                         subst this; exact hs _ (zstr2 q hq j hj))
    (fun i j hi hj hne => absurd (by omega : i = j) hne) zAs_no
  obtain ⟨a1, a2, a3, a4⟩ := h1 0 (by decide)
  exact ⟨adK 0, adV 0, a1, a2, a3, a4, vk_R.of (hts _ (zstr4 q hq)) (h2 0 (by decide))⟩

