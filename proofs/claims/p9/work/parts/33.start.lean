/-- all at once: numbers for what lies outside the picture -/
theorem zouter {args : Array Value} {s : State} {b : Nat} {X : Nat × (Nat → Int32)} (hts : ∀ w ∈ lw_tbl, w.before args s = true) (hs : ∀ c ∈ zfl1, c.before args s = true) (hX : va_T .int b X.1 (fun j => .int (X.2 j)) (zAs s) s s.heap) {D : va_G} {dA : FieldType → ClassId} (hK : va_K D vwCl (zcs dA) s) :
    ∃ ad : Nat → Nat, ad 1000 = b ∧ zK X D dA (zAs s) ad s s.heap := by
  have h1 : ∀ i : Nat, ∃ t : Nat, ∀ q, zst[i]? = some q → va_Z q.1 q.2.1 "[I" (.ref t) (zAs s) s s.heap ∧ va_T .int t q.2.2.length (fun j => .int (q.2.2.getD j 0)) (zAs s) s s.heap := by
    intro i
    cases hz : zst[i]? with
    | none => exact ⟨0, fun q hq => by cases hq⟩
    | some q0 =>
      obtain ⟨t, ht⟩ := zsta hts hs q0 (List.mem_of_getElem? hz)
      exact ⟨t, fun q hq => by cases hq; exact ht⟩
  have h2 : ∀ i : Nat, ∃ kv : Nat × Nat, ∀ q, zsr[i]? = some q → va_O "java/lang/String" kv.1 (zAs s) s s.heap ∧ va_OF "java/lang/String" "coder" "B" (.int 0) kv.1 (zAs s) s s.heap ∧ va_OF "java/lang/String" "value" "[B" (.ref kv.2) kv.1 (zAs s) s s.heap ∧
      va_T .byte kv.2 q.2.2.length (fun j => .int (q.2.2.getD j 0)) (zAs s) s s.heap ∧ vk_R RX3 q.1 q.2.1 kv.1 s := by
    intro i
    cases hz : zsr[i]? with
    | none => exact ⟨(0, 0), fun q hq => by cases hq⟩
    | some q0 =>
      obtain ⟨k, v, ht⟩ := zword hts hs q0 (List.mem_of_getElem? hz)
      exact ⟨(k, v), fun q hq => by cases hq; exact ht⟩
  obtain ⟨tS, hS⟩ := Classical.axiomOfChoice h1
  obtain ⟨tW, hW⟩ := Classical.axiomOfChoice h2
  have hZc : va_Z "java/lang/String" "COMPACT_STRINGS" "Z" (.int 1) (zAs s) s s.heap := va_Zof (hts _ zfmt2.2.2.2) (hts _ zfmt3.2.2) (va_eqi (hs _ zfmt1.2.2.2)) zAs_no
  have hn : ∀ q ∈ znst, va_Nw (.methodLinkNest RX8 q.1 q.2 RX8) s := fun q hq => va_Nw.of rfl (hts _ (znst1 q hq))
  have hF : ∃ (f : Nat) (r : Option Nat), (∀ x, r = some x → x = 1090) ∧ ∀ ad : Nat → Nat, ad 1090 = f → va_Z "jdk/internal/util/Preconditions" "SIOOBE_FORMATTER" "Ljava/util/function/BiFunction;" (va_rf (r.map ad)) (zAs s) s s.heap := by
    rcases va_Zqof (hts _ zfmt2.1) (hts _ zfmt3.1) (hs _ zfmt1.1) (A := zAs s) zAs_no with h | ⟨t, h⟩
    · exact ⟨0, none, fun x hx => (by cases hx), fun _ _ => h⟩
    · exact ⟨t, some 1090, fun x hx => (by cases hx; rfl), fun ad e => by simp only [Option.map_some, e]; exact h⟩
  obtain ⟨f, r, hr, hF⟩ := hF
  refine ⟨fun x => if x = 1000 then b else if x < 1020 then tS (x - 1001) else if x < 1050 then (tW (x - 1020)).1 else if x < 1080 then (tW (x - 1050)).2 else f, rfl, hK, fun i q hq => ?_, hX, hZc, fun i q hq => ?_, hn, r, hr, hF _ rfl⟩
  · have hi : i < 3 := zlt hq
    have e1 : (if 1001 + i = 1000 then b else if 1001 + i < 1020 then tS (1001 + i - 1001) else if 1001 + i < 1050 then (tW (1001 + i - 1020)).1 else if 1001 + i < 1080 then (tW (1001 + i - 1050)).2 else f) = tS i := by
      rw [if_neg (by omega), if_pos (by omega), show 1001 + i - 1001 = i by omega]
    simp only [e1]
    exact hS i q hq
  · have hi : i < 17 := zlt hq
    have e1 : (if 1020 + i = 1000 then b else if 1020 + i < 1020 then tS (1020 + i - 1001) else if 1020 + i < 1050 then (tW (1020 + i - 1020)).1 else if 1020 + i < 1080 then (tW (1020 + i - 1050)).2 else f) = (tW i).1 := by
      rw [if_neg (by omega), if_neg (by omega), if_pos (by omega), show 1020 + i - 1020 = i by omega]
    have e2 : (if 1050 + i = 1000 then b else if 1050 + i < 1020 then tS (1050 + i - 1001) else if 1050 + i < 1050 then (tW (1050 + i - 1020)).1 else if 1050 + i < 1080 then (tW (1050 + i - 1050)).2 else f) = (tW i).2 := by
      rw [if_neg (by omega), if_neg (by omega), if_neg (by omega), if_pos (by omega), show 1050 + i - 1050 = i by omega]
    simp only [e1, e2]
    exact hW i q hq
theorem zouterH {args : Array Value} {s : State} (hts : ∀ w ∈ lw_tbl, w.before args s = true) (hs : ∀ c ∈ zfl1, c.before args s = true) : zH (zAs s) s s.heap := by
  refine ⟨vx_Zqof (hts _ zfmt2.2.1) (hts _ zfmt3.2.1) (hs _ zfmt1.2.1) zAs_no, vx_Zqof (hts _ zfmt2.2.2.1) (hts _ zfmt3.2.1) (hs _ zfmt1.2.2.1) zAs_no, ?_, ?_, fun w hw => ?_⟩
  · obtain ⟨a, c, cA, kA, q1, -⟩ := Cond.exactly_spec (args := args) (first := s) (o := none) (s := s) (idx := []) (t := .string RX8 120) (cls := "java/lang/String") (hs _ zsh1.2.1)
    exact ⟨a, vk_R.of (hts _ zsh1.1.1) q1⟩
  · obtain ⟨a, c, cA, kA, q1, -⟩ := Cond.exactly_spec (args := args) (first := s) (o := none) (s := s) (idx := []) (t := .string RX8 136) (cls := "java/lang/String") (hs _ zsh1.2.2)
    exact ⟨a, vk_R.of (hts _ zsh1.1.2) q1⟩
  · have h9 := hts w (zXn1 w hw)
    simp only [zXn, List.mem_cons, List.not_mem_nil, or_false] at hw
    rcases hw with rfl | rfl | rfl | rfl <;> exact va_Nw.of rfl h9
