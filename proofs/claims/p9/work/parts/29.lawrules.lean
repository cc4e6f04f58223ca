/-! what the law's own walk uses: its start's facts, law.hand and law.cell as rules -/
abbrev zEL : (Nat → Prop) → Launch → State → Prop := fun A l s => l.stackTraces = false ∧ zH A s s.heap
set_option maxHeartbeats 4000000 in
theorem a_lawhand {n d pc : Nat} {X : Nat × (Nat → Int32)} {lv : List (Nat × zV)} {st : List zV} {rv : Option zV} {σ' : zW} {I : zPI} {L : zPL} {F : zPF} {a b : Nat} {c0 : Option Nat} (hd : decode cL_law pc = .ok (.invokestatic 61, 3)) (hd9 : 10 ≤ d) (hR : zRin F a b c0) {p1 p2 : Int32} {r : Option Int32} (h : fX8_hand I p1 p2 = some r) (h8 : (st.map zcat).sum ≤ 8) (hσ : σ'.1 = zS0)
    (k : zAW (n, 0, zEL) X mL_law d (pc + 3) lv (zi (zhA r) :: st) (zS0, I, zhL L r, F) rv σ') : zAW (n + 1, 0, zEL) X mL_law d pc lv (zr 76 :: zi p2 :: zi p1 :: zr 0 :: st) (zS0, I, L, F) rv σ' := by
  intro p l e R s m args below meth c H locs cells slots Q D dA A ad ls cx hl hP hD hS wR wl ws hc hs he
  have cx0 := cx
  obtain ⟨hx, hb, hml, hown, hts, hin, hA, hK, hr1, hr2, hl0, hH⟩ := cx
  have wst : zwfs zS0.length st := zwfs_tail (zwfs_tail (zwfs_tail (zwfs_tail ws)))
  have hAA : ∀ q, va_A (zws dA ad (zS0, I, L, F)) H.size q → A q := by
    rintro q (⟨j, x, hj⟩ | hq)
    · exact hD.2 j _ hj
    · exact hA q (Nat.le_trans hS.1 hq)
  simp only [hσ] at hc hs
  refine va_calli (a := [Value.ref (ad 0), .int p1, .int p2, .ref (ad 76)].toArray) (vx_runSW (As := [.ref (ad 0), .int p1, .int p2, .ref (ad 76)]) (rest := st.map (zc ad)) (hh := [(0, 10, 13, 13)]) ⟨hx, hb, hml, hown, hts⟩ (lawhandMet (X := X) (L := L) hR p1 p2 r h wR l hl0 D dA ad H.size)
    (vx_cwSW 4 hts (zgood (fun w hw => ?_)) rfl rfl rfl (by decide +kernel) ⟨by show 9 + 1 ≤ R.frames; omega, by show 8 + (5 + 11) + 540 ≤ R.locals; omega⟩)
    ⟨fun a9 U g mk q => ?_, fun U hU hW => ⟨rfl, zpre cx0 hP hD hS U hU hW, ?_⟩⟩ rfl rfl hl.1 rfl (zrest h8) hd ⟨by omega, by omega⟩) hS (fun q _ h => hAA q h) hAA (fun r9 u t H1 locs1 ht hvm hw hB hz1 hk1 hS1 => ?_)
  · simp only [va_wsS, List.cons_append, List.nil_append, List.mem_cons] at hw
    rcases hw with rfl | rfl | rfl | rfl | hw
    · exact zw832
    · exact zw833
    · exact zw74
    · exact zwcw
    · exact hw
  · obtain ⟨q0, ⟨q1, qP, qK, qD⟩, qH⟩ := q
    exact ⟨q0, ⟨q1, qP, zK.same (u := U) (U := U.calling g mk a9) rfl qK, qD⟩, zH.same (s := U) (U := U.calling g mk a9) rfl qH⟩
  · rw [hU]
    exact ((hH.kept hS.2.1).narrow hAA).warm hW
  · obtain ⟨hP1, hD1⟩ := hB
    rw [ht] at hP1
    have hw : r9 = zhA r := hw
    subst hw
    exact k p l e R s m args below meth c H1 locs1 _ _ Q D dA A ad ls ⟨hx, hb, hml, hown, hts, hin, hA, hK, hr1, hr2, hl0, hH⟩ hl hP1 (hD1.weaken (fun _ _ _ h => hAA _ h)) hS1 wR wl (zwfs_i wst) (by simp only [hσ]; omega) (by simp only [hσ]; omega) he
/-- law.cell at 0: the script's first int, or 0 -/
def zh0 (X : Nat × (Nat → Int32)) : Int32 := if X.1 = 0 then 0 else X.2 0
theorem tcell0 {X : Nat × (Nat → Int32)} {σ : zW} (hX : X.1 ≤ 3585) : zAM X mL_cell 0 [zr 1000, zi 0] σ (some (zi (zh0 X))) σ := by
  refine zAM_of (by decide) (Nat.le_of_ble_eq_true rfl) ⟨fun h => (by cases h), fun h => (by cases h)⟩ (Nat.le_refl _) (Nat.le_refl _) ?_
  show zAW zE0 X mL_cell 0 0 [(0, zr 1000), (1, zi 0)] [] σ (some (zi (zh0 X))) σ
  obtain ⟨S, I, L, F⟩ := σ
  refine a_iload_n dL_cell_0 rfl 1 rfl ?_
  refine a_aload_n dL_cell_1 rfl 0 rfl ?_
  refine a_slen dL_cell_2 ?_
  by_cases h0 : X.1 = 0
  · refine a_icmp_ge (tgt := 12) dL_cell_3 rfl (fun _ => ?_) (fun hc => absurd (by rw [h0]; decide) hc)
    rw [zh0, if_pos h0]
    refine a_iconst (v := 0) dL_cell_12 (by decide) ?_
    exact a_iret dL_cell_13 (by intro h; cases h) (znar_i rfl)
  · refine a_icmp_ge (tgt := 12) dL_cell_3 rfl (fun hc => absurd hc (nI_ge (a := 0) (b := X.1) (by omega) (by omega))) (fun _ => ?_)
    rw [zh0, if_neg h0]
    refine a_aload_n dL_cell_6 rfl 0 rfl ?_
    refine a_iload_n dL_cell_7 rfl 1 rfl ?_
    refine a_sald dL_cell_8 (vp_in_nI (n := 0) (by omega) (by omega)) ?_
    refine a_goto (tgt := 13) dL_cell_9 rfl ?_
    exact a_iret dL_cell_13 (by intro h; cases h) (znar_i rfl)
