/-! HAND keeps the relation, and the mark of what was thrown; the end -/
theorem rP_hand : zSt_hand zRelP := by
  intro i I L F a b c p1 p2 hi h
  have h' := h
  obtain ⟨-, -, -, -, -, -, hh, n, m, cnt, A, U, at', WT, w, M, P, Fo, -, -, -, -, -, hW, hG, ⟨d, -, d1, d2⟩, -⟩ := h'
  obtain ⟨r, v, t, e1, e2, e3⟩ := q_hand hW (d1.trans d2.symm) p1 p2
  refine ⟨r, v, _, e1, e2, ?_, ?_, rP_same h z480 (fun y => ?_)⟩
  · rcases e3 with ⟨rfl, rfl⟩ | ⟨rfl, rfl⟩
    · rw [fX9_thrown, zu_same]; rfl
    · rw [fX9_thrown, zu_same]; rfl
  · intro x hx
    rcases e3 with ⟨rfl, rfl⟩ | ⟨rfl, rfl⟩
    · cases hx
    · exact Option.some.inj hx
  · cases r with
    | none => rfl
    | some x => exact zu_row (by decide)
theorem i_vc : Claimed_1_1 ∧ Claimed_1_2 := i_vc_of (Rel := zRelP) ⟨rP_R, rP_feed, rP_orders, rP_wind, rP_minutes, rP_sail, rP_rope, rP_braced, rP_hand, rP_look, rP_foretell, rP_plan, rP_leg⟩ rP_init
