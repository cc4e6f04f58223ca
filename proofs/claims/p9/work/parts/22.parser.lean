def fX9_block_39 (stm : zPI → Option zPI) (L : zPL) (K : zPI → Option (zPI)) : Nat → zPI → Option (zPI)
  | 0, _ => none
  | n + 1, I => (if (I 48 8) = 0 then (fX9_isSign I L 125).bind (fun q5 => (if q5 = 0 then (stm I).bind (fun q7 => fX9_block_39 stm L K n q7) else K I)) else K I)
def fX9_block_62 (stm : zPI → Option zPI) (L : zPL) (I : zPI) : Option (zPI) := (fX9_takeSign I L 125).bind (fun q11 => some (zu q11 48 17 ((q11 48 17) - 1)))
def fX9_block_23 (stm : zPI → Option zPI) (L : zPL) (I : zPI) : Option (zPI) := (fX9_takeSign I L 123).bind (fun q3 => fX9_block_39 stm L (fun I => fX9_block_62 stm L I) zF (zu q3 48 17 ((q3 48 17) + 1)))
def fX9_block (stm : zPI → Option zPI) (I : zPI) (L : zPL) : Option (zPI) := (fX9_isSign I L 123).bind (fun q1 => (if q1 = 0 then fX9_block_23 stm L I else (if (I 48 17) = 8 then (fX9_wrong I 5).bind (fun q13 => fX9_block_23 stm L q13) else fX9_block_23 stm L I)))
set_option maxRecDepth 100000 in
theorem tX9_block_39 {X : Nat × (Nat → Int32)} {L : zPL} {F : zPF} {a b : Nat} {c : Option Nat} (hR : zRin F a b c) {dd : Nat} (hdd : 10 ≤ dd) {stm : zPI → Option zPI} (hstm : ∀ (I r : zPI), stm I = some r → zAM X mX9_statement dd [zr 48] (zS0, I, L, F) none (zS0, r, L, F)) {r : zPI} {K : zPI → Option (zPI)} (hK : ∀ (I : zPI), K I = some r → zAW zE0 X mX9_block (dd + 1) 62 [(0, zr 48)] [] (zS0, I, L, F) none (zS0, r, L, F)) : ∀ (n : Nat) (I : zPI), fX9_block_39 stm L K n I = some r → zAW zE0 X mX9_block (dd + 1) 39 [(0, zr 48)] [] (zS0, I, L, F) none (zS0, r, L, F) := by
  intro n
  induction n with
  | zero =>
    intro I h
    rw [fX9_block_39.eq_1] at h
    cases h
  | succ n ih =>
    intro I h
    rw [fX9_block_39.eq_2] at h
    refine a_aload_n dX9_block_39 rfl 0 rfl ?_
    refine a_geti dX9_block_40 G_X9_167 zs_48 rfl ?_
    refine a_if_ne (tgt := 62) dX9_block_43 rfl (fun hc10 => ?_) (fun hc10 => ?_)
    · rw [if_neg hc10] at h
      exact hK _ h
    · rw [if_pos hc10] at h
      refine a_aload_n dX9_block_46 rfl 0 rfl ?_
      refine a_bipush (v := 125) dX9_block_47 (by decide) ?_
      obtain ⟨q5, hq5, h⟩ := zbind h
      refine a_callV dX9_block_49 (tX9_isSign hR _ _ hq5) csX9_isSign zw1170 (by omega) zs_48 rfl rfl (Nat.le_of_ble_eq_true rfl) ⟨Nat.le_refl _, Nat.le_refl _⟩ (fun hb6 => ?_)
      refine a_if_ne (tgt := 62) dX9_block_52 rfl (fun hc9 => ?_) (fun hc9 => ?_)
      · rw [if_neg hc9] at h
        exact hK _ h
      · rw [if_pos hc9] at h
        refine a_aload_n dX9_block_55 rfl 0 rfl ?_
        obtain ⟨q7, hq7, h⟩ := zbind h
        refine a_callV dX9_block_56 (hstm _ _ hq7) csX9_statement zw1134 (by omega) zs_48 rfl rfl (Nat.le_of_ble_eq_true rfl) ⟨Nat.le_refl _, Nat.le_refl _⟩ (fun hb8 => ?_)
        refine a_goto (tgt := 39) dX9_block_59 rfl ?_
        exact ih _ h
set_option maxRecDepth 100000 in
theorem tX9_block_62 {X : Nat × (Nat → Int32)} {I : zPI} {L : zPL} {F : zPF} {a b : Nat} {c : Option Nat} (hR : zRin F a b c) {dd : Nat} (hdd : 10 ≤ dd) {stm : zPI → Option zPI} (hstm : ∀ (I r : zPI), stm I = some r → zAM X mX9_statement dd [zr 48] (zS0, I, L, F) none (zS0, r, L, F)) {r : zPI} (h : fX9_block_62 stm L I = some r) : zAW zE0 X mX9_block (dd + 1) 62 [(0, zr 48)] [] (zS0, I, L, F) none (zS0, r, L, F) := by
  unfold fX9_block_62 at h
  refine a_aload_n dX9_block_62 rfl 0 rfl ?_
  refine a_bipush (v := 125) dX9_block_63 (by decide) ?_
  obtain ⟨q11, hq11, h⟩ := zbind h
  refine a_callV dX9_block_65 (tX9_takeSign hR _ _ hq11) csX9_takeSign zw1178 (by omega) zs_48 rfl rfl (Nat.le_of_ble_eq_true rfl) ⟨Nat.le_refl _, Nat.le_refl _⟩ (fun hb12 => ?_)
  refine a_aload_n dX9_block_68 rfl 0 rfl ?_
  refine a_dup dX9_block_69 rfl ?_
  refine a_geti dX9_block_70 G_X9_195 zs_48 rfl ?_
  refine a_iconst (v := 1) dX9_block_73 (by decide) ?_
  refine a_isub dX9_block_74 ?_
  refine a_puti dX9_block_75 F_X9_195 zs_48 rfl ⟨rfl, rfl⟩ ?_
  cases h
  exact a_vret dX9_block_78 rfl
set_option maxRecDepth 100000 in
theorem tX9_block_23 {X : Nat × (Nat → Int32)} {I : zPI} {L : zPL} {F : zPF} {a b : Nat} {c : Option Nat} (hR : zRin F a b c) {dd : Nat} (hdd : 10 ≤ dd) {stm : zPI → Option zPI} (hstm : ∀ (I r : zPI), stm I = some r → zAM X mX9_statement dd [zr 48] (zS0, I, L, F) none (zS0, r, L, F)) {r : zPI} (h : fX9_block_23 stm L I = some r) : zAW zE0 X mX9_block (dd + 1) 23 [(0, zr 48)] [] (zS0, I, L, F) none (zS0, r, L, F) := by
  unfold fX9_block_23 at h
  refine a_aload_n dX9_block_23 rfl 0 rfl ?_
  refine a_bipush (v := 123) dX9_block_24 (by decide) ?_
  obtain ⟨q3, hq3, h⟩ := zbind h
  refine a_callV dX9_block_26 (tX9_takeSign hR _ _ hq3) csX9_takeSign zw1178 (by omega) zs_48 rfl rfl (Nat.le_of_ble_eq_true rfl) ⟨Nat.le_refl _, Nat.le_refl _⟩ (fun hb4 => ?_)
  refine a_aload_n dX9_block_29 rfl 0 rfl ?_
  refine a_dup dX9_block_30 rfl ?_
  refine a_geti dX9_block_31 G_X9_195 zs_48 rfl ?_
  refine a_iconst (v := 1) dX9_block_34 (by decide) ?_
  refine a_iadd dX9_block_35 ?_
  refine a_puti dX9_block_36 F_X9_195 zs_48 rfl ⟨rfl, rfl⟩ ?_
  refine tX9_block_39 hR hdd hstm (fun I h => ?_) zF _ h
  (try dsimp only at h)
  exact tX9_block_62 hR hdd hstm h
set_option maxRecDepth 100000 in
theorem tX9_block {X : Nat × (Nat → Int32)} {I : zPI} {L : zPL} {F : zPF} {a b : Nat} {c : Option Nat} (hR : zRin F a b c) {dd : Nat} (hdd : 10 ≤ dd) {stm : zPI → Option zPI} (hstm : ∀ (I r : zPI), stm I = some r → zAM X mX9_statement dd [zr 48] (zS0, I, L, F) none (zS0, r, L, F)) (r : zPI) (h : fX9_block stm I L = some r) : zAM X mX9_block (dd + 1) [zr 48] (zS0, I, L, F) none (zS0, r, L, F) := by
  refine zAM_of (by decide) (Nat.le_of_ble_eq_true rfl) ⟨fun _ => rfl, fun _ => rfl⟩ (Nat.le_refl _) (Nat.le_refl _) ?_
  unfold fX9_block at h
  show zAW zE0 X mX9_block (dd + 1) 0 [(0, zr 48)] [] (zS0, I, L, F) none (zS0, r, L, F)
  refine a_aload_n dX9_block_0 rfl 0 rfl ?_
  refine a_bipush (v := 123) dX9_block_1 (by decide) ?_
  obtain ⟨q1, hq1, h⟩ := zbind h
  refine a_callV dX9_block_3 (tX9_isSign hR _ _ hq1) csX9_isSign zw1170 (by omega) zs_48 rfl rfl (Nat.le_of_ble_eq_true rfl) ⟨Nat.le_refl _, Nat.le_refl _⟩ (fun hb2 => ?_)
  refine a_if_eq (tgt := 23) dX9_block_6 rfl (fun hc16 => ?_) (fun hc16 => ?_)
  · rw [if_pos hc16] at h
    exact tX9_block_23 hR hdd hstm h
  · rw [if_neg hc16] at h
    refine a_aload_n dX9_block_9 rfl 0 rfl ?_
    refine a_geti dX9_block_10 G_X9_195 zs_48 rfl ?_
    refine a_bipush (v := 8) dX9_block_13 (by decide) ?_
    refine a_icmp_ne (tgt := 23) dX9_block_15 rfl (fun hc15 => ?_) (fun hc15 => ?_)
    · rw [if_neg hc15] at h
      exact tX9_block_23 hR hdd hstm h
    · rw [if_pos hc15] at h
      refine a_aload_n dX9_block_18 rfl 0 rfl ?_
      refine a_iconst (v := 5) dX9_block_19 (by decide) ?_
      obtain ⟨q13, hq13, h⟩ := zbind h
      refine a_callV dX9_block_20 (tX9_wrong hR _ _ hq13) csX9_wrong zw1142 (by omega) zs_48 rfl rfl (Nat.le_of_ble_eq_true rfl) ⟨Nat.le_refl _, Nat.le_refl _⟩ (fun hb14 => ?_)
      exact tX9_block_23 hR hdd hstm h
def fX9_choice (stm : zPI → Option zPI) (I : zPI) (L : zPL) (p1 : Int32) (p2 : Int32) : Option (zPI) := (fX9_expression I L).bind (fun q1 => (fX9_emit q1 11 0 0).bind (fun q3 => (fX9_block stm q3.2 L).bind (fun q5 => (if p1 = 9 then (fX9_emit q5 12 p2 0).bind (fun q20 => (if zin q3.1 4400 then some (zu q20.2 55 q3.1.toNatClampNeg (fX9_here q20.2)) else none)) else (fX9_hasWord q5 L 8).bind (fun q7 => (if q7.1 = 0 then (if zin q3.1 4400 then some (zu q7.2 55 q3.1.toNatClampNeg (fX9_here q7.2)) else none) else (fX9_emit q7.2 12 0 0).bind (fun q9 => (if zin q3.1 4400 then (fX9_block stm (zu q9.2 55 q3.1.toNatClampNeg (fX9_here q9.2)) L).bind (fun q13 => (if zin q9.1 4400 then some (zu q13 55 q9.1.toNatClampNeg (fX9_here q13)) else none)) else none))))))))
set_option maxRecDepth 100000 in
theorem tX9_choice {X : Nat × (Nat → Int32)} {I : zPI} {L : zPL} {F : zPF} {a b : Nat} {c : Option Nat} (hR : zRin F a b c) {dd : Nat} (hdd : 10 ≤ dd) {stm : zPI → Option zPI} (hstm : ∀ (I r : zPI), stm I = some r → zAM X mX9_statement dd [zr 48] (zS0, I, L, F) none (zS0, r, L, F)) (p1 : Int32) (p2 : Int32) (r : zPI) (h : fX9_choice stm I L p1 p2 = some r) : zAM X mX9_choice (dd + 2) [zr 48, zi p1, zi p2] (zS0, I, L, F) none (zS0, r, L, F) := by
  refine zAM_of (by decide) (Nat.le_of_ble_eq_true rfl) ⟨fun _ => rfl, fun _ => rfl⟩ (Nat.le_refl _) (Nat.le_refl _) ?_
  unfold fX9_choice at h
  show zAW zE0 X mX9_choice (dd + 2) 0 [(0, zr 48), (1, zi p1), (2, zi p2)] [] (zS0, I, L, F) none (zS0, r, L, F)
  refine a_aload_n dX9_choice_0 rfl 0 rfl ?_
  obtain ⟨q1, hq1, h⟩ := zbind h
  refine a_callV dX9_choice_1 (tX9_expression hR _ hq1) csX9_expression zw1154 (by omega) zs_48 rfl rfl (Nat.le_of_ble_eq_true rfl) ⟨Nat.le_refl _, Nat.le_refl _⟩ (fun hb2 => ?_)
  refine a_aload_n dX9_choice_4 rfl 0 rfl ?_
  refine a_bipush (v := 11) dX9_choice_5 (by decide) ?_
  refine a_iconst (v := 0) dX9_choice_7 (by decide) ?_
  refine a_iconst (v := 0) dX9_choice_8 (by decide) ?_
  obtain ⟨q3, hq3, h⟩ := zbind h
  refine a_callV dX9_choice_9 (tX9_emit hR _ _ _ _ hq3) csX9_emit zw1166 (by omega) zs_48 rfl rfl (Nat.le_of_ble_eq_true rfl) ⟨Nat.le_refl _, Nat.le_refl _⟩ (fun hb4 => ?_)
  refine a_istore_n dX9_choice_12 rfl (by decide) rfl ?_
  refine a_aload_n dX9_choice_13 rfl 1 rfl ?_
  obtain ⟨q5, hq5, h⟩ := zbind h
  refine a_callV dX9_choice_14 (tX9_block hR hdd hstm _ hq5) csX9_block zw1174 (by omega) zs_48 rfl rfl (Nat.le_of_ble_eq_true rfl) ⟨Nat.le_refl _, Nat.le_refl _⟩ (fun hb6 => ?_)
  refine a_iload_n dX9_choice_17 rfl 2 rfl ?_
  refine a_bipush (v := 9) dX9_choice_18 (by decide) ?_
  refine a_icmp_ne (tgt := 44) dX9_choice_20 rfl (fun hc24 => ?_) (fun hc24 => ?_)
  · rw [if_neg hc24] at h
    refine a_aload_n dX9_choice_44 rfl 1 rfl ?_
    refine a_bipush (v := 8) dX9_choice_45 (by decide) ?_
    obtain ⟨q7, hq7, h⟩ := zbind h
    refine a_callV dX9_choice_47 (tX9_hasWord hR _ _ hq7) csX9_hasWord zw1182 (by omega) zs_48 rfl rfl (Nat.le_of_ble_eq_true rfl) ⟨Nat.le_refl _, Nat.le_refl _⟩ (fun hb8 => ?_)
    refine a_if_ne (tgt := 64) dX9_choice_50 rfl (fun hc19 => ?_) (fun hc19 => ?_)
    · rw [if_neg hc19] at h
      refine a_aload_n dX9_choice_64 rfl 1 rfl ?_
      refine a_bipush (v := 12) dX9_choice_65 (by decide) ?_
      refine a_iconst (v := 0) dX9_choice_67 (by decide) ?_
      refine a_iconst (v := 0) dX9_choice_68 (by decide) ?_
      obtain ⟨q9, hq9, h⟩ := zbind h
      refine a_callV dX9_choice_69 (tX9_emit hR _ _ _ _ hq9) csX9_emit zw1166 (by omega) zs_48 rfl rfl (Nat.le_of_ble_eq_true rfl) ⟨Nat.le_refl _, Nat.le_refl _⟩ (fun hb10 => ?_)
      refine a_istore dX9_choice_72 (by decide) rfl ?_
      refine a_aload_n dX9_choice_74 rfl 2 rfl ?_
      refine a_getq dX9_choice_75 G_X9_74 zs_48 rfl (rf_48_11 hR) ?_
      refine a_iload_n dX9_choice_78 rfl 1 rfl ?_
      refine a_aload_n dX9_choice_79 rfl 2 rfl ?_
      refine a_callV dX9_choice_80 (tX9_here hR _ rfl) csX9_here zw1146 (by omega) zs_48 rfl rfl (Nat.le_of_ble_eq_true rfl) ⟨Nat.le_refl _, Nat.le_refl _⟩ (fun hb11 => ?_)
      obtain ⟨hz12, h⟩ := zif h
      refine a_iast dX9_choice_83 zs_55 (zin_vp hz12) ?_
      refine a_aload_n dX9_choice_84 rfl 2 rfl ?_
      obtain ⟨q13, hq13, h⟩ := zbind h
      refine a_callV dX9_choice_85 (tX9_block hR hdd hstm _ hq13) csX9_block zw1174 (by omega) zs_48 rfl rfl (Nat.le_of_ble_eq_true rfl) ⟨Nat.le_refl _, Nat.le_refl _⟩ (fun hb14 => ?_)
      refine a_aload_n dX9_choice_88 rfl 2 rfl ?_
      refine a_getq dX9_choice_89 G_X9_74 zs_48 rfl (rf_48_11 hR) ?_
      refine a_iload dX9_choice_92 0 rfl ?_
      refine a_aload_n dX9_choice_94 rfl 2 rfl ?_
      refine a_callV dX9_choice_95 (tX9_here hR _ rfl) csX9_here zw1146 (by omega) zs_48 rfl rfl (Nat.le_of_ble_eq_true rfl) ⟨Nat.le_refl _, Nat.le_refl _⟩ (fun hb15 => ?_)
      obtain ⟨hz16, h⟩ := zif h
      refine a_iast dX9_choice_98 zs_55 (zin_vp hz16) ?_
      cases h
      exact a_vret dX9_choice_99 rfl
    · rw [if_pos hc19] at h
      refine a_aload_n dX9_choice_53 rfl 1 rfl ?_
      refine a_getq dX9_choice_54 G_X9_74 zs_48 rfl (rf_48_11 hR) ?_
      refine a_iload_n dX9_choice_57 rfl 0 rfl ?_
      refine a_aload_n dX9_choice_58 rfl 1 rfl ?_
      refine a_callV dX9_choice_59 (tX9_here hR _ rfl) csX9_here zw1146 (by omega) zs_48 rfl rfl (Nat.le_of_ble_eq_true rfl) ⟨Nat.le_refl _, Nat.le_refl _⟩ (fun hb17 => ?_)
      obtain ⟨hz18, h⟩ := zif h
      refine a_iast dX9_choice_62 zs_55 (zin_vp hz18) ?_
      cases h
      exact a_vret dX9_choice_63 rfl
  · rw [if_pos hc24] at h
    refine a_aload_n dX9_choice_23 rfl 1 rfl ?_
    refine a_bipush (v := 12) dX9_choice_24 (by decide) ?_
    refine a_iload_n dX9_choice_26 rfl 3 rfl ?_
    refine a_iconst (v := 0) dX9_choice_27 (by decide) ?_
    obtain ⟨q20, hq20, h⟩ := zbind h
    refine a_callV dX9_choice_28 (tX9_emit hR _ _ _ _ hq20) csX9_emit zw1166 (by omega) zs_48 rfl rfl (Nat.le_of_ble_eq_true rfl) ⟨Nat.le_refl _, Nat.le_refl _⟩ (fun hb21 => ?_)
    refine a_istore dX9_choice_31 (by decide) rfl ?_
    refine a_aload_n dX9_choice_33 rfl 2 rfl ?_
    refine a_getq dX9_choice_34 G_X9_74 zs_48 rfl (rf_48_11 hR) ?_
    refine a_iload_n dX9_choice_37 rfl 1 rfl ?_
    refine a_aload_n dX9_choice_38 rfl 2 rfl ?_
    refine a_callV dX9_choice_39 (tX9_here hR _ rfl) csX9_here zw1146 (by omega) zs_48 rfl rfl (Nat.le_of_ble_eq_true rfl) ⟨Nat.le_refl _, Nat.le_refl _⟩ (fun hb22 => ?_)
    obtain ⟨hz23, h⟩ := zif h
    refine a_iast dX9_choice_42 zs_55 (zin_vp hz23) ?_
    cases h
    exact a_vret dX9_choice_43 rfl
def fX9_statement_2 (stm : zPI → Option zPI) (L : zPL) (K : Int32 → zPI → Option (zPI)) : Nat → Int32 → zPI → Option (zPI)
  | 0, _, _ => none
  | n + 1, v1, I => (if 9 < v1 then K v1 I else (if v1 = 8 then fX9_statement_2 stm L K n (v1 + 1) I else (fX9_isWord I L v1).bind (fun q1 => (if q1 = 0 then fX9_statement_2 stm L K n (v1 + 1) I else K v1 I))))
def fX9_statement_109 (stm : zPI → Option zPI) (L : zPL) (v1 : Int32) (v2 : Int32) (I : zPI) : Option (zPI) := (fX9_choice stm I L v1 v2).bind (fun q11 => some (q11))
def fX9_statement_248 (stm : zPI → Option zPI) (L : zPL) (v3 : Int32) (s1 : Int32) (I : zPI) : Option (zPI) := (fX9_emit I s1 v3 0).bind (fun q17 => some (q17.2))
def fX9_statement_195 (stm : zPI → Option zPI) (L : zPL) (v1 : Int32) (v3 : Int32) (s0 : Int32) (I : zPI) : Option (zPI) := (fX9_takeSign I L 59).bind (fun q15 => (if 4 ≤ v1 then (if v1 = 4 then fX9_statement_248 stm L v3 8 q15 else (if v1 = 5 then fX9_statement_248 stm L v3 9 q15 else fX9_statement_248 stm L v3 10 q15)) else (fX9_emit q15 7 ((32 * v1) + v3) s0).bind (fun q21 => some (q21.2))))
def fX9_statement_175 (stm : zPI → Option zPI) (L : zPL) (v1 : Int32) (s1 : Int32) (s2 : Int32) (I : zPI) : Option (zPI) := (fX9_takeNumber I L s1 s2).bind (fun q13 => (if v1 = 2 then (fX9_takeNumber q13.2 L 0 8).bind (fun q24 => fX9_statement_195 stm L v1 q13.1 q24.1 q24.2) else fX9_statement_195 stm L v1 q13.1 0 q13.2))
def fX9_statement_148 (stm : zPI → Option zPI) (L : zPL) (v1 : Int32) (s1 : Int32) (I : zPI) : Option (zPI) := fX9_statement_175 stm L v1 s1 2 I
def fX9_statement_128 (stm : zPI → Option zPI) (L : zPL) (v1 : Int32) (s1 : Int32) (I : zPI) : Option (zPI) := (if 2 ≤ v1 then (if v1 = 2 then fX9_statement_148 stm L v1 s1 I else (if v1 = 5 then fX9_statement_148 stm L v1 s1 I else (if v1 = 3 then fX9_statement_175 stm L v1 s1 17 I else (if v1 = 4 then fX9_statement_175 stm L v1 s1 31 I else fX9_statement_175 stm L v1 s1 999 I)))) else fX9_statement_175 stm L v1 s1 8 I)
def fX9_statement_61 (stm : zPI → Option zPI) (L : zPL) (v1 : Int32) (I : zPI) : Option (zPI) := (if (I 48 8) ≤ 0 then (if zin (I 48 14) 2 then (if zin (I 48 14) 2 then zlet (fX9_here (zu I 57 (I 48 14).toNatClampNeg ((I 57 (I 48 14).toNatClampNeg) + 1))) (fun x10 => (if v1 = 7 then fX9_statement_109 stm L v1 x10 (zu (zu I 57 (I 48 14).toNatClampNeg ((I 57 (I 48 14).toNatClampNeg) + 1)) 48 7 (((zu I 57 (I 48 14).toNatClampNeg ((I 57 (I 48 14).toNatClampNeg) + 1)) 48 7) + 1)) else (if v1 = 9 then fX9_statement_109 stm L v1 x10 (zu (zu I 57 (I 48 14).toNatClampNeg ((I 57 (I 48 14).toNatClampNeg) + 1)) 48 7 (((zu I 57 (I 48 14).toNatClampNeg ((I 57 (I 48 14).toNatClampNeg) + 1)) 48 7) + 1)) else (if v1 = 6 then fX9_statement_128 stm L v1 1 (zu (zu I 57 (I 48 14).toNatClampNeg ((I 57 (I 48 14).toNatClampNeg) + 1)) 48 7 (((zu I 57 (I 48 14).toNatClampNeg ((I 57 (I 48 14).toNatClampNeg) + 1)) 48 7) + 1)) else fX9_statement_128 stm L v1 0 (zu (zu I 57 (I 48 14).toNatClampNeg ((I 57 (I 48 14).toNatClampNeg) + 1)) 48 7 (((zu I 57 (I 48 14).toNatClampNeg ((I 57 (I 48 14).toNatClampNeg) + 1)) 48 7) + 1)))))) else none) else none) else some (I))
def fX9_statement_28 (stm : zPI → Option zPI) (L : zPL) (v1 : Int32) (I : zPI) : Option (zPI) := (if v1 ≤ 9 then (if zin (I 48 14) 2 then (if (I 57 (I 48 14).toNatClampNeg) = 80 then (fX9_wrong I 5).bind (fun q36 => fX9_statement_61 stm L v1 q36) else fX9_statement_61 stm L v1 I) else none) else (fX9_wrong I 1).bind (fun q39 => fX9_statement_61 stm L v1 q39))
def fX9_statement (stm : zPI → Option zPI) (I : zPI) (L : zPL) : Option (zPI) := fX9_statement_2 stm L (fun v1 I => fX9_statement_28 stm L v1 I) zF 0 I
set_option maxRecDepth 100000 in
theorem tX9_statement_2 {X : Nat × (Nat → Int32)} {L : zPL} {F : zPF} {a b : Nat} {c : Option Nat} (hR : zRin F a b c) {dd : Nat} (hdd : 10 ≤ dd) {stm : zPI → Option zPI} (hstm : ∀ (I r : zPI), stm I = some r → zAM X mX9_statement dd [zr 48] (zS0, I, L, F) none (zS0, r, L, F)) {r : zPI} {K : Int32 → zPI → Option (zPI)} (hK : ∀ (v1 : Int32) (I : zPI), K v1 I = some r → zAW zE0 X mX9_statement (dd + 3) 28 [(0, zr 48), (1, zi v1)] [] (zS0, I, L, F) none (zS0, r, L, F)) : ∀ (n : Nat) (v1 : Int32) (I : zPI), fX9_statement_2 stm L K n v1 I = some r → zAW zE0 X mX9_statement (dd + 3) 2 [(0, zr 48), (1, zi v1)] [] (zS0, I, L, F) none (zS0, r, L, F) := by
  intro n
  induction n with
  | zero =>
    intro v1 I h
    rw [fX9_statement_2.eq_1] at h
    cases h
  | succ n ih =>
    intro v1 I h
    rw [fX9_statement_2.eq_2] at h
    refine a_iload_n dX9_statement_2 rfl 1 rfl ?_
    refine a_bipush (v := 9) dX9_statement_3 (by decide) ?_
    refine a_icmp_gt (tgt := 28) dX9_statement_5 rfl (fun hc5 => ?_) (fun hc5 => ?_)
    · rw [if_pos hc5] at h
      exact hK _ _ h
    · rw [if_neg hc5] at h
      refine a_iload_n dX9_statement_8 rfl 1 rfl ?_
      refine a_bipush (v := 8) dX9_statement_9 (by decide) ?_
      refine a_icmp_eq (tgt := 22) dX9_statement_11 rfl (fun hc4 => ?_) (fun hc4 => ?_)
      · rw [if_pos hc4] at h
        refine a_iincK (k0 := 1) dX9_statement_22 (by decide) 1 rfl (by decide) rfl ?_
        refine a_goto (tgt := 2) dX9_statement_25 rfl ?_
        refine a_sub [1, 0] rfl ?_
        exact ih _ _ h
      · rw [if_neg hc4] at h
        refine a_aload_n dX9_statement_14 rfl 0 rfl ?_
        refine a_iload_n dX9_statement_15 rfl 1 rfl ?_
        obtain ⟨q1, hq1, h⟩ := zbind h
        refine a_callV dX9_statement_16 (tX9_isWord hR _ _ hq1) csX9_isWord zw1138 (by omega) zs_48 rfl rfl (Nat.le_of_ble_eq_true rfl) ⟨Nat.le_refl _, Nat.le_refl _⟩ (fun hb2 => ?_)
        refine a_if_ne (tgt := 28) dX9_statement_19 rfl (fun hc3 => ?_) (fun hc3 => ?_)
        · rw [if_neg hc3] at h
          exact hK _ _ h
        · rw [if_pos hc3] at h
          refine a_iincK (k0 := 1) dX9_statement_22 (by decide) 1 rfl (by decide) rfl ?_
          refine a_goto (tgt := 2) dX9_statement_25 rfl ?_
          refine a_sub [1, 0] rfl ?_
          exact ih _ _ h
set_option maxRecDepth 100000 in
theorem tX9_statement_109 {X : Nat × (Nat → Int32)} {I : zPI} {L : zPL} {F : zPF} {a b : Nat} {c : Option Nat} (hR : zRin F a b c) {dd : Nat} (hdd : 10 ≤ dd) {stm : zPI → Option zPI} (hstm : ∀ (I r : zPI), stm I = some r → zAM X mX9_statement dd [zr 48] (zS0, I, L, F) none (zS0, r, L, F)) {r : zPI} {v1 : Int32} {v2 : Int32} (h : fX9_statement_109 stm L v1 v2 I = some r) : zAW zE0 X mX9_statement (dd + 3) 109 [(0, zr 48), (1, zi v1), (2, zi v2)] [] (zS0, I, L, F) none (zS0, r, L, F) := by
  unfold fX9_statement_109 at h
  refine a_aload_n dX9_statement_109 rfl 0 rfl ?_
  refine a_iload_n dX9_statement_110 rfl 1 rfl ?_
  refine a_iload_n dX9_statement_111 rfl 2 rfl ?_
  obtain ⟨q11, hq11, h⟩ := zbind h
  refine a_callV dX9_statement_112 (tX9_choice hR hdd hstm _ _ _ hq11) csX9_choice zw1150 (by omega) zs_48 rfl rfl (Nat.le_of_ble_eq_true rfl) ⟨Nat.le_refl _, Nat.le_refl _⟩ (fun hb12 => ?_)
  cases h
  exact a_vret dX9_statement_115 rfl
set_option maxRecDepth 100000 in
theorem tX9_statement_248 {X : Nat × (Nat → Int32)} {I : zPI} {L : zPL} {F : zPF} {a b : Nat} {c : Option Nat} (hR : zRin F a b c) {dd : Nat} (hdd : 10 ≤ dd) {stm : zPI → Option zPI} (hstm : ∀ (I r : zPI), stm I = some r → zAM X mX9_statement dd [zr 48] (zS0, I, L, F) none (zS0, r, L, F)) {r : zPI} {v3 : Int32} {s1 : Int32} (h : fX9_statement_248 stm L v3 s1 I = some r) : zAW zE0 X mX9_statement (dd + 3) 248 [(3, zi v3)] [zi s1, zr 48] (zS0, I, L, F) none (zS0, r, L, F) := by
  unfold fX9_statement_248 at h
  refine a_iload_n dX9_statement_248 rfl 0 rfl ?_
  refine a_iconst (v := 0) dX9_statement_249 (by decide) ?_
  obtain ⟨q17, hq17, h⟩ := zbind h
  refine a_callV dX9_statement_250 (tX9_emit hR _ _ _ _ hq17) csX9_emit zw1166 (by omega) zs_48 rfl rfl (Nat.le_of_ble_eq_true rfl) ⟨Nat.le_refl _, Nat.le_refl _⟩ (fun hb18 => ?_)
  refine a_istore dX9_statement_253 (by decide) rfl ?_
  cases h
  exact a_vret dX9_statement_255 rfl
set_option maxRecDepth 100000 in
theorem tX9_statement_195 {X : Nat × (Nat → Int32)} {I : zPI} {L : zPL} {F : zPF} {a b : Nat} {c : Option Nat} (hR : zRin F a b c) {dd : Nat} (hdd : 10 ≤ dd) {stm : zPI → Option zPI} (hstm : ∀ (I r : zPI), stm I = some r → zAM X mX9_statement dd [zr 48] (zS0, I, L, F) none (zS0, r, L, F)) {r : zPI} {v1 : Int32} {v3 : Int32} {s0 : Int32} (h : fX9_statement_195 stm L v1 v3 s0 I = some r) : zAW zE0 X mX9_statement (dd + 3) 195 [(0, zr 48), (1, zi v1), (3, zi v3)] [zi s0] (zS0, I, L, F) none (zS0, r, L, F) := by
  unfold fX9_statement_195 at h
  refine a_istore dX9_statement_195 (by decide) rfl ?_
  refine a_aload_n dX9_statement_197 rfl 1 rfl ?_
  refine a_bipush (v := 59) dX9_statement_198 (by decide) ?_
  obtain ⟨q15, hq15, h⟩ := zbind h
  refine a_callV dX9_statement_200 (tX9_takeSign hR _ _ hq15) csX9_takeSign zw1178 (by omega) zs_48 rfl rfl (Nat.le_of_ble_eq_true rfl) ⟨Nat.le_refl _, Nat.le_refl _⟩ (fun hb16 => ?_)
  refine a_iload_n dX9_statement_203 rfl 2 rfl ?_
  refine a_iconst (v := 4) dX9_statement_204 (by decide) ?_
  refine a_icmp_ge (tgt := 225) dX9_statement_205 rfl (fun hc23 => ?_) (fun hc23 => ?_)
  · rw [if_pos hc23] at h
    refine a_aload_n dX9_statement_225 rfl 1 rfl ?_
    refine a_iload_n dX9_statement_226 rfl 2 rfl ?_
    refine a_iconst (v := 4) dX9_statement_227 (by decide) ?_
    refine a_icmp_ne (tgt := 236) dX9_statement_228 rfl (fun hc20 => ?_) (fun hc20 => ?_)
    · rw [if_neg hc20] at h
      refine a_iload_n dX9_statement_236 rfl 2 rfl ?_
      refine a_iconst (v := 5) dX9_statement_237 (by decide) ?_
      refine a_icmp_ne (tgt := 246) dX9_statement_238 rfl (fun hc19 => ?_) (fun hc19 => ?_)
      · rw [if_neg hc19] at h
        refine a_bipush (v := 10) dX9_statement_246 (by decide) ?_
        refine a_sub [3] rfl ?_
        exact tX9_statement_248 hR hdd hstm h
      · rw [if_pos hc19] at h
        refine a_bipush (v := 9) dX9_statement_241 (by decide) ?_
        refine a_goto (tgt := 248) dX9_statement_243 rfl ?_
        refine a_sub [3] rfl ?_
        exact tX9_statement_248 hR hdd hstm h
    · rw [if_pos hc20] at h
      refine a_bipush (v := 8) dX9_statement_231 (by decide) ?_
      refine a_goto (tgt := 248) dX9_statement_233 rfl ?_
      refine a_sub [3] rfl ?_
      exact tX9_statement_248 hR hdd hstm h
  · rw [if_neg hc23] at h
    refine a_aload_n dX9_statement_208 rfl 1 rfl ?_
    refine a_bipush (v := 7) dX9_statement_209 (by decide) ?_
    refine a_bipush (v := 32) dX9_statement_211 (by decide) ?_
    refine a_iload_n dX9_statement_213 rfl 2 rfl ?_
    refine a_imul dX9_statement_214 ?_
    refine a_iload_n dX9_statement_215 rfl 3 rfl ?_
    refine a_iadd dX9_statement_216 ?_
    refine a_iload dX9_statement_217 0 rfl ?_
    obtain ⟨q21, hq21, h⟩ := zbind h
    refine a_callV dX9_statement_219 (tX9_emit hR _ _ _ _ hq21) csX9_emit zw1166 (by omega) zs_48 rfl rfl (Nat.le_of_ble_eq_true rfl) ⟨Nat.le_refl _, Nat.le_refl _⟩ (fun hb22 => ?_)
    refine a_goto (tgt := 253) dX9_statement_222 rfl ?_
    refine a_istore dX9_statement_253 (by decide) rfl ?_
    cases h
    exact a_vret dX9_statement_255 rfl
set_option maxRecDepth 100000 in
theorem tX9_statement_175 {X : Nat × (Nat → Int32)} {I : zPI} {L : zPL} {F : zPF} {a b : Nat} {c : Option Nat} (hR : zRin F a b c) {dd : Nat} (hdd : 10 ≤ dd) {stm : zPI → Option zPI} (hstm : ∀ (I r : zPI), stm I = some r → zAM X mX9_statement dd [zr 48] (zS0, I, L, F) none (zS0, r, L, F)) {r : zPI} {v1 : Int32} {s1 : Int32} {s2 : Int32} (h : fX9_statement_175 stm L v1 s1 s2 I = some r) : zAW zE0 X mX9_statement (dd + 3) 175 [(0, zr 48), (1, zi v1)] [zi s2, zi s1, zr 48] (zS0, I, L, F) none (zS0, r, L, F) := by
  unfold fX9_statement_175 at h
  obtain ⟨q13, hq13, h⟩ := zbind h
  refine a_callV dX9_statement_175 (tX9_takeNumber hR _ _ _ hq13) csX9_takeNumber zw1186 (by omega) zs_48 rfl rfl (Nat.le_of_ble_eq_true rfl) ⟨Nat.le_refl _, Nat.le_refl _⟩ (fun hb14 => ?_)
  refine a_istore_n dX9_statement_178 rfl (by decide) rfl ?_
  refine a_iload_n dX9_statement_179 rfl 2 rfl ?_
  refine a_iconst (v := 2) dX9_statement_180 (by decide) ?_
  refine a_icmp_ne (tgt := 194) dX9_statement_181 rfl (fun hc26 => ?_) (fun hc26 => ?_)
  · rw [if_neg hc26] at h
    refine a_iconst (v := 0) dX9_statement_194 (by decide) ?_
    refine a_sub [1, 2, 0] rfl ?_
    exact tX9_statement_195 hR hdd hstm h
  · rw [if_pos hc26] at h
    refine a_aload_n dX9_statement_184 rfl 1 rfl ?_
    refine a_iconst (v := 0) dX9_statement_185 (by decide) ?_
    refine a_bipush (v := 8) dX9_statement_186 (by decide) ?_
    obtain ⟨q24, hq24, h⟩ := zbind h
    refine a_callV dX9_statement_188 (tX9_takeNumber hR _ _ _ hq24) csX9_takeNumber zw1186 (by omega) zs_48 rfl rfl (Nat.le_of_ble_eq_true rfl) ⟨Nat.le_refl _, Nat.le_refl _⟩ (fun hb25 => ?_)
    refine a_goto (tgt := 195) dX9_statement_191 rfl ?_
    refine a_sub [1, 2, 0] rfl ?_
    exact tX9_statement_195 hR hdd hstm h
set_option maxRecDepth 100000 in
theorem tX9_statement_148 {X : Nat × (Nat → Int32)} {I : zPI} {L : zPL} {F : zPF} {a b : Nat} {c : Option Nat} (hR : zRin F a b c) {dd : Nat} (hdd : 10 ≤ dd) {stm : zPI → Option zPI} (hstm : ∀ (I r : zPI), stm I = some r → zAM X mX9_statement dd [zr 48] (zS0, I, L, F) none (zS0, r, L, F)) {r : zPI} {v1 : Int32} {s1 : Int32} (h : fX9_statement_148 stm L v1 s1 I = some r) : zAW zE0 X mX9_statement (dd + 3) 148 [(0, zr 48), (1, zi v1)] [zi s1, zr 48] (zS0, I, L, F) none (zS0, r, L, F) := by
  unfold fX9_statement_148 at h
  refine a_iconst (v := 2) dX9_statement_148 (by decide) ?_
  refine a_goto (tgt := 175) dX9_statement_149 rfl ?_
  exact tX9_statement_175 hR hdd hstm h
set_option maxRecDepth 100000 in
theorem tX9_statement_128 {X : Nat × (Nat → Int32)} {I : zPI} {L : zPL} {F : zPF} {a b : Nat} {c : Option Nat} (hR : zRin F a b c) {dd : Nat} (hdd : 10 ≤ dd) {stm : zPI → Option zPI} (hstm : ∀ (I r : zPI), stm I = some r → zAM X mX9_statement dd [zr 48] (zS0, I, L, F) none (zS0, r, L, F)) {r : zPI} {v1 : Int32} {s1 : Int32} (h : fX9_statement_128 stm L v1 s1 I = some r) : zAW zE0 X mX9_statement (dd + 3) 128 [(0, zr 48), (1, zi v1)] [zi s1, zr 48] (zS0, I, L, F) none (zS0, r, L, F) := by
  unfold fX9_statement_128 at h
  refine a_iload_n dX9_statement_128 rfl 1 rfl ?_
  refine a_iconst (v := 2) dX9_statement_129 (by decide) ?_
  refine a_icmp_ge (tgt := 138) dX9_statement_130 rfl (fun hc31 => ?_) (fun hc31 => ?_)
  · rw [if_pos hc31] at h
    refine a_iload_n dX9_statement_138 rfl 1 rfl ?_
    refine a_iconst (v := 2) dX9_statement_139 (by decide) ?_
    refine a_icmp_eq (tgt := 148) dX9_statement_140 rfl (fun hc30 => ?_) (fun hc30 => ?_)
    · rw [if_pos hc30] at h
      exact tX9_statement_148 hR hdd hstm h
    · rw [if_neg hc30] at h
      refine a_iload_n dX9_statement_143 rfl 1 rfl ?_
      refine a_iconst (v := 5) dX9_statement_144 (by decide) ?_
      refine a_icmp_ne (tgt := 152) dX9_statement_145 rfl (fun hc29 => ?_) (fun hc29 => ?_)
      · rw [if_neg hc29] at h
        refine a_iload_n dX9_statement_152 rfl 1 rfl ?_
        refine a_iconst (v := 3) dX9_statement_153 (by decide) ?_
        refine a_icmp_ne (tgt := 162) dX9_statement_154 rfl (fun hc28 => ?_) (fun hc28 => ?_)
        · rw [if_neg hc28] at h
          refine a_iload_n dX9_statement_162 rfl 1 rfl ?_
          refine a_iconst (v := 4) dX9_statement_163 (by decide) ?_
          refine a_icmp_ne (tgt := 172) dX9_statement_164 rfl (fun hc27 => ?_) (fun hc27 => ?_)
          · rw [if_neg hc27] at h
            refine a_sipush (v := 999) dX9_statement_172 (by decide) ?_
            exact tX9_statement_175 hR hdd hstm h
          · rw [if_pos hc27] at h
            refine a_bipush (v := 31) dX9_statement_167 (by decide) ?_
            refine a_goto (tgt := 175) dX9_statement_169 rfl ?_
            exact tX9_statement_175 hR hdd hstm h
        · rw [if_pos hc28] at h
          refine a_bipush (v := 17) dX9_statement_157 (by decide) ?_
          refine a_goto (tgt := 175) dX9_statement_159 rfl ?_
          exact tX9_statement_175 hR hdd hstm h
      · rw [if_pos hc29] at h
        exact tX9_statement_148 hR hdd hstm h
  · rw [if_neg hc31] at h
    refine a_bipush (v := 8) dX9_statement_133 (by decide) ?_
    refine a_goto (tgt := 175) dX9_statement_135 rfl ?_
    exact tX9_statement_175 hR hdd hstm h
set_option maxRecDepth 100000 in
theorem tX9_statement_61 {X : Nat × (Nat → Int32)} {I : zPI} {L : zPL} {F : zPF} {a b : Nat} {c : Option Nat} (hR : zRin F a b c) {dd : Nat} (hdd : 10 ≤ dd) {stm : zPI → Option zPI} (hstm : ∀ (I r : zPI), stm I = some r → zAM X mX9_statement dd [zr 48] (zS0, I, L, F) none (zS0, r, L, F)) {r : zPI} {v1 : Int32} (h : fX9_statement_61 stm L v1 I = some r) : zAW zE0 X mX9_statement (dd + 3) 61 [(0, zr 48), (1, zi v1)] [] (zS0, I, L, F) none (zS0, r, L, F) := by
  unfold fX9_statement_61 at h
  refine a_aload_n dX9_statement_61 rfl 0 rfl ?_
  refine a_geti dX9_statement_62 G_X9_167 zs_48 rfl ?_
  refine a_if_le (tgt := 69) dX9_statement_65 rfl (fun hc35 => ?_) (fun hc35 => ?_)
  · rw [if_pos hc35] at h
    refine a_aload_n dX9_statement_69 rfl 0 rfl ?_
    refine a_getq dX9_statement_70 G_X9_80 zs_48 rfl (rf_48_16 hR) ?_
    refine a_aload_n dX9_statement_73 rfl 0 rfl ?_
    refine a_geti dX9_statement_74 G_X9_183 zs_48 rfl ?_
    refine a_dup2 dX9_statement_77 rfl rfl ?_
    obtain ⟨hz7, h⟩ := zif h
    refine a_iald dX9_statement_78 zs_57 (zin_vp hz7) ?_
    refine a_iconst (v := 1) dX9_statement_79 (by decide) ?_
    refine a_iadd dX9_statement_80 ?_
    obtain ⟨hz8, h⟩ := zif h
    refine a_iast dX9_statement_81 zs_57 (zin_vp hz8) ?_
    refine a_aload_n dX9_statement_82 rfl 0 rfl ?_
    refine a_callV dX9_statement_83 (tX9_here hR _ rfl) csX9_here zw1146 (by omega) zs_48 rfl rfl (Nat.le_of_ble_eq_true rfl) ⟨Nat.le_refl _, Nat.le_refl _⟩ (fun hb9 => ?_)
    refine a_name (fun x10 ex10 => ?_)
    replace h := zlet_at h ex10
    clear ex10
    refine a_istore_n dX9_statement_86 rfl (by decide) rfl ?_
    refine a_aload_n dX9_statement_87 rfl 1 rfl ?_
    refine a_dup dX9_statement_88 rfl ?_
    refine a_geti dX9_statement_89 G_X9_164 zs_48 rfl ?_
    refine a_iconst (v := 1) dX9_statement_92 (by decide) ?_
    refine a_iadd dX9_statement_93 ?_
    refine a_puti dX9_statement_94 F_X9_164 zs_48 rfl ⟨rfl, rfl⟩ ?_
    refine a_iload_n dX9_statement_97 rfl 2 rfl ?_
    refine a_bipush (v := 7) dX9_statement_98 (by decide) ?_
    refine a_icmp_eq (tgt := 109) dX9_statement_100 rfl (fun hc34 => ?_) (fun hc34 => ?_)
    · rw [if_pos hc34] at h
      refine a_sub [1, 2, 0] rfl ?_
      exact tX9_statement_109 hR hdd hstm h
    · rw [if_neg hc34] at h
      refine a_iload_n dX9_statement_103 rfl 2 rfl ?_
      refine a_bipush (v := 9) dX9_statement_104 (by decide) ?_
      refine a_icmp_ne (tgt := 116) dX9_statement_106 rfl (fun hc33 => ?_) (fun hc33 => ?_)
      · rw [if_neg hc33] at h
        refine a_aload_n dX9_statement_116 rfl 1 rfl ?_
        refine a_iload_n dX9_statement_117 rfl 2 rfl ?_
        refine a_bipush (v := 6) dX9_statement_118 (by decide) ?_
        refine a_icmp_ne (tgt := 127) dX9_statement_120 rfl (fun hc32 => ?_) (fun hc32 => ?_)
        · rw [if_neg hc32] at h
          refine a_iconst (v := 0) dX9_statement_127 (by decide) ?_
          refine a_sub [1, 2] rfl ?_
          exact tX9_statement_128 hR hdd hstm h
        · rw [if_pos hc32] at h
          refine a_iconst (v := 1) dX9_statement_123 (by decide) ?_
          refine a_goto (tgt := 128) dX9_statement_124 rfl ?_
          refine a_sub [1, 2] rfl ?_
          exact tX9_statement_128 hR hdd hstm h
      · rw [if_pos hc33] at h
        refine a_sub [1, 2, 0] rfl ?_
        exact tX9_statement_109 hR hdd hstm h
  · rw [if_neg hc35] at h
    cases h
    exact a_vret dX9_statement_68 rfl
set_option maxRecDepth 100000 in
theorem tX9_statement_28 {X : Nat × (Nat → Int32)} {I : zPI} {L : zPL} {F : zPF} {a b : Nat} {c : Option Nat} (hR : zRin F a b c) {dd : Nat} (hdd : 10 ≤ dd) {stm : zPI → Option zPI} (hstm : ∀ (I r : zPI), stm I = some r → zAM X mX9_statement dd [zr 48] (zS0, I, L, F) none (zS0, r, L, F)) {r : zPI} {v1 : Int32} (h : fX9_statement_28 stm L v1 I = some r) : zAW zE0 X mX9_statement (dd + 3) 28 [(0, zr 48), (1, zi v1)] [] (zS0, I, L, F) none (zS0, r, L, F) := by
  unfold fX9_statement_28 at h
  refine a_iload_n dX9_statement_28 rfl 1 rfl ?_
  refine a_bipush (v := 9) dX9_statement_29 (by decide) ?_
  refine a_icmp_le (tgt := 42) dX9_statement_31 rfl (fun hc41 => ?_) (fun hc41 => ?_)
  · rw [if_pos hc41] at h
    refine a_aload_n dX9_statement_42 rfl 0 rfl ?_
    refine a_getq dX9_statement_43 G_X9_80 zs_48 rfl (rf_48_16 hR) ?_
    refine a_aload_n dX9_statement_46 rfl 0 rfl ?_
    refine a_geti dX9_statement_47 G_X9_183 zs_48 rfl ?_
    obtain ⟨hz6, h⟩ := zif h
    refine a_iald dX9_statement_50 zs_57 (zin_vp hz6) ?_
    refine a_bipush (v := 80) dX9_statement_51 (by decide) ?_
    refine a_icmp_ne (tgt := 61) dX9_statement_53 rfl (fun hc38 => ?_) (fun hc38 => ?_)
    · rw [if_neg hc38] at h
      exact tX9_statement_61 hR hdd hstm h
    · rw [if_pos hc38] at h
      refine a_aload_n dX9_statement_56 rfl 0 rfl ?_
      refine a_iconst (v := 5) dX9_statement_57 (by decide) ?_
      obtain ⟨q36, hq36, h⟩ := zbind h
      refine a_callV dX9_statement_58 (tX9_wrong hR _ _ hq36) csX9_wrong zw1142 (by omega) zs_48 rfl rfl (Nat.le_of_ble_eq_true rfl) ⟨Nat.le_refl _, Nat.le_refl _⟩ (fun hb37 => ?_)
      exact tX9_statement_61 hR hdd hstm h
  · rw [if_neg hc41] at h
    refine a_aload_n dX9_statement_34 rfl 0 rfl ?_
    refine a_iconst (v := 1) dX9_statement_35 (by decide) ?_
    obtain ⟨q39, hq39, h⟩ := zbind h
    refine a_callV dX9_statement_36 (tX9_wrong hR _ _ hq39) csX9_wrong zw1142 (by omega) zs_48 rfl rfl (Nat.le_of_ble_eq_true rfl) ⟨Nat.le_refl _, Nat.le_refl _⟩ (fun hb40 => ?_)
    refine a_goto (tgt := 61) dX9_statement_39 rfl ?_
    exact tX9_statement_61 hR hdd hstm h
set_option maxRecDepth 100000 in
theorem tX9_statement {X : Nat × (Nat → Int32)} {I : zPI} {L : zPL} {F : zPF} {a b : Nat} {c : Option Nat} (hR : zRin F a b c) {dd : Nat} (hdd : 10 ≤ dd) {stm : zPI → Option zPI} (hstm : ∀ (I r : zPI), stm I = some r → zAM X mX9_statement dd [zr 48] (zS0, I, L, F) none (zS0, r, L, F)) (r : zPI) (h : fX9_statement stm I L = some r) : zAM X mX9_statement (dd + 3) [zr 48] (zS0, I, L, F) none (zS0, r, L, F) := by
  refine zAM_of (by decide) (Nat.le_of_ble_eq_true rfl) ⟨fun _ => rfl, fun _ => rfl⟩ (Nat.le_refl _) (Nat.le_refl _) ?_
  unfold fX9_statement at h
  show zAW zE0 X mX9_statement (dd + 3) 0 [(0, zr 48)] [] (zS0, I, L, F) none (zS0, r, L, F)
  refine a_iconst (v := 0) dX9_statement_0 (by decide) ?_
  refine a_istore_n dX9_statement_1 rfl (by decide) rfl ?_
  refine a_sub [1, 0] rfl ?_
  refine tX9_statement_2 hR hdd hstm (fun v1 I h => ?_) zF _ _ h
  (try dsimp only at h)
  exact tX9_statement_28 hR hdd hstm h
def FX9_statement : Nat → zPL → zPI → Option zPI
  | 0, _, _ => none
  | n + 1, L, I => fX9_statement (FX9_statement n L) I L
theorem tFX9_statement {X : Nat × (Nat → Int32)} {L : zPL} {F : zPF} {a b : Nat} {c : Option Nat} (hR : zRin F a b c) : ∀ (n : Nat) (I r : zPI), FX9_statement n L I = some r → zAM X mX9_statement (10 + 3 * n) [zr 48] (zS0, I, L, F) none (zS0, r, L, F) := by
  intro n
  induction n with
  | zero =>
    intro I r h
    rw [FX9_statement.eq_1] at h
    cases h
  | succ n ih =>
    intro I r h
    rw [FX9_statement.eq_2] at h
    have h9 := tX9_statement (X := X) hR (dd := 10 + 3 * n) (by omega) (fun I r h => ih I r h) r h
    have e : 10 + 3 * n + 3 = 10 + 3 * (n + 1) := by omega
    rw [e] at h9
    exact h9
def fX9_orders_39 (K : zPI → zPL → Option (Int32 × zPI × zPL)) : Nat → zPI → zPL → Option (Int32 × zPI × zPL)
  | 0, _, _ => none
  | n + 1, I, L => (if (I 48 8) = 0 then (if zin (I 48 7) 1002 then (if (I 50 (I 48 7).toNatClampNeg) = 0 then K I L else (FX9_statement 12 L I).bind (fun q5 => fX9_orders_39 K n q5 L)) else none) else K I L)
def fX9_orders_65 (I : zPI) (L : zPL) : Option (Int32 × zPI × zPL) := (if (I 48 8) ≤ 0 then (fX9_emit I 0 0 0).bind (fun q9 => some (0, zu (zu (zu q9.2 48 13 (q9.2 48 14)) 48 37 (2200 * ((zu q9.2 48 13 (q9.2 48 14)) 48 13))) 48 38 0, L)) else some (I 48 8, I, L))
def fX9_orders (I : zPI) (L : zPL) : Option (Int32 × zPI × zPL) := (fX9_cutAll (zu I 48 0 0) L).bind (fun q1 => (if zin ((zu (zu q1.1 48 14 (1 - (q1.1 48 13))) 48 15 0) 48 14) 2 then fX9_orders_39 (fun I L => fX9_orders_65 I L) zF (zu (zu (zu (zu q1.1 48 14 (1 - (q1.1 48 13))) 48 15 0) 57 ((zu (zu q1.1 48 14 (1 - (q1.1 48 13))) 48 15 0) 48 14).toNatClampNeg 0) 48 17 0) q1.2 else none))
set_option maxRecDepth 100000 in
theorem tX9_orders_39 {X : Nat × (Nat → Int32)} {F : zPF} {a b : Nat} {c : Option Nat} (hR : zRin F a b c) {r : Int32 × zPI × zPL} {K : zPI → zPL → Option (Int32 × zPI × zPL)} (hK : ∀ (I : zPI) (L : zPL), K I L = some r → zAW zE0 X mX9_orders 47 65 [(0, zr 48)] [] (zS0, I, L, F) (some (zi r.1)) (zS0, r.2.1, r.2.2, F)) : ∀ (n : Nat) (I : zPI) (L : zPL), fX9_orders_39 K n I L = some r → zAW zE0 X mX9_orders 47 39 [(0, zr 48)] [] (zS0, I, L, F) (some (zi r.1)) (zS0, r.2.1, r.2.2, F) := by
  intro n
  induction n with
  | zero =>
    intro I L h
    rw [fX9_orders_39.eq_1] at h
    cases h
  | succ n ih =>
    intro I L h
    rw [fX9_orders_39.eq_2] at h
    refine a_aload_n dX9_orders_39 rfl 0 rfl ?_
    refine a_geti dX9_orders_40 G_X9_167 zs_48 rfl ?_
    refine a_if_ne (tgt := 65) dX9_orders_43 rfl (fun hc8 => ?_) (fun hc8 => ?_)
    · rw [if_neg hc8] at h
      exact hK _ _ h
    · rw [if_pos hc8] at h
      refine a_aload_n dX9_orders_46 rfl 0 rfl ?_
      refine a_getq dX9_orders_47 G_X9_24 zs_48 rfl (rf_48_4 hR) ?_
      refine a_aload_n dX9_orders_50 rfl 0 rfl ?_
      refine a_geti dX9_orders_51 G_X9_164 zs_48 rfl ?_
      obtain ⟨hz4, h⟩ := zif h
      refine a_iald dX9_orders_54 zs_50 (zin_vp hz4) ?_
      refine a_if_eq (tgt := 65) dX9_orders_55 rfl (fun hc7 => ?_) (fun hc7 => ?_)
      · rw [if_pos hc7] at h
        exact hK _ _ h
      · rw [if_neg hc7] at h
        refine a_aload_n dX9_orders_58 rfl 0 rfl ?_
        obtain ⟨q5, hq5, h⟩ := zbind h
        refine a_callV dX9_orders_59 (tFX9_statement hR 12 _ _ hq5) csX9_statement zw1134 (Nat.le_of_ble_eq_true rfl) zs_48 rfl rfl (Nat.le_of_ble_eq_true rfl) ⟨Nat.le_refl _, Nat.le_refl _⟩ (fun hb6 => ?_)
        refine a_goto (tgt := 39) dX9_orders_62 rfl ?_
        exact ih _ _ h
set_option maxRecDepth 100000 in
theorem tX9_orders_65 {X : Nat × (Nat → Int32)} {I : zPI} {L : zPL} {F : zPF} {a b : Nat} {c : Option Nat} (hR : zRin F a b c) {r : Int32 × zPI × zPL} (h : fX9_orders_65 I L = some r) : zAW zE0 X mX9_orders 47 65 [(0, zr 48)] [] (zS0, I, L, F) (some (zi r.1)) (zS0, r.2.1, r.2.2, F) := by
  unfold fX9_orders_65 at h
  refine a_aload_n dX9_orders_65 rfl 0 rfl ?_
  refine a_geti dX9_orders_66 G_X9_167 zs_48 rfl ?_
  refine a_if_le (tgt := 77) dX9_orders_69 rfl (fun hc11 => ?_) (fun hc11 => ?_)
  · rw [if_pos hc11] at h
    refine a_aload_n dX9_orders_77 rfl 0 rfl ?_
    refine a_iconst (v := 0) dX9_orders_78 (by decide) ?_
    refine a_iconst (v := 0) dX9_orders_79 (by decide) ?_
    refine a_iconst (v := 0) dX9_orders_80 (by decide) ?_
    obtain ⟨q9, hq9, h⟩ := zbind h
    refine a_callV dX9_orders_81 (tX9_emit hR _ _ _ _ hq9) csX9_emit zw1166 (Nat.le_of_ble_eq_true rfl) zs_48 rfl rfl (Nat.le_of_ble_eq_true rfl) ⟨Nat.le_refl _, Nat.le_refl _⟩ (fun hb10 => ?_)
    refine a_istore_n dX9_orders_84 rfl (by decide) rfl ?_
    refine a_aload_n dX9_orders_85 rfl 1 rfl ?_
    refine a_aload_n dX9_orders_86 rfl 1 rfl ?_
    refine a_geti dX9_orders_87 G_X9_183 zs_48 rfl ?_
    refine a_puti dX9_orders_90 F_X9_192 zs_48 rfl ⟨rfl, rfl⟩ ?_
    refine a_aload_n dX9_orders_93 rfl 1 rfl ?_
    refine a_sipush (v := 2200) dX9_orders_94 (by decide) ?_
    refine a_aload_n dX9_orders_97 rfl 1 rfl ?_
    refine a_geti dX9_orders_98 G_X9_192 zs_48 rfl ?_
    refine a_imul dX9_orders_101 ?_
    refine a_puti dX9_orders_102 F_X9_205 zs_48 rfl ⟨rfl, rfl⟩ ?_
    refine a_aload_n dX9_orders_105 rfl 1 rfl ?_
    refine a_iconst (v := 0) dX9_orders_106 (by decide) ?_
    refine a_puti dX9_orders_107 F_X9_208 zs_48 rfl ⟨rfl, rfl⟩ ?_
    refine a_iconst (v := 0) dX9_orders_110 (by decide) ?_
    cases h
    exact a_iret dX9_orders_111 (by intro h; cases h) (znar_i rfl)
  · rw [if_neg hc11] at h
    refine a_aload_n dX9_orders_72 rfl 0 rfl ?_
    refine a_geti dX9_orders_73 G_X9_167 zs_48 rfl ?_
    cases h
    exact a_iret dX9_orders_76 (by intro h; cases h) (znar_i rfl)
set_option maxRecDepth 100000 in
theorem tX9_orders {X : Nat × (Nat → Int32)} {I : zPI} {L : zPL} {F : zPF} {a b : Nat} {c : Option Nat} (hR : zRin F a b c) (r : Int32 × zPI × zPL) (h : fX9_orders I L = some r) : zAM X mX9_orders 47 [zr 48] (zS0, I, L, F) (some (zi r.1)) (zS0, r.2.1, r.2.2, F) := by
  refine zAM_of (by decide) (Nat.le_of_ble_eq_true rfl) ⟨fun h => (by cases h), fun h => (by cases h)⟩ (Nat.le_refl _) (Nat.le_refl _) ?_
  unfold fX9_orders at h
  show zAW zE0 X mX9_orders 47 0 [(0, zr 48)] [] (zS0, I, L, F) (some (zi r.1)) (zS0, r.2.1, r.2.2, F)
  refine a_aload_n dX9_orders_0 rfl 0 rfl ?_
  refine a_iconst (v := 0) dX9_orders_1 (by decide) ?_
  refine a_puti dX9_orders_2 F_X9_1 zs_48 rfl ⟨rfl, rfl⟩ ?_
  refine a_aload_n dX9_orders_5 rfl 0 rfl ?_
  obtain ⟨q1, hq1, h⟩ := zbind h
  refine a_callV dX9_orders_6 (tX9_cutAll hR _ hq1) csX9_cutAll zw1115 (Nat.le_of_ble_eq_true rfl) zs_48 rfl rfl (Nat.le_of_ble_eq_true rfl) ⟨Nat.le_refl _, Nat.le_refl _⟩ (fun hb2 => ?_)
  refine a_aload_n dX9_orders_9 rfl 0 rfl ?_
  refine a_iconst (v := 1) dX9_orders_10 (by decide) ?_
  refine a_aload_n dX9_orders_11 rfl 0 rfl ?_
  refine a_geti dX9_orders_12 G_X9_192 zs_48 rfl ?_
  refine a_isub dX9_orders_15 ?_
  refine a_puti dX9_orders_16 F_X9_183 zs_48 rfl ⟨rfl, rfl⟩ ?_
  refine a_aload_n dX9_orders_19 rfl 0 rfl ?_
  refine a_iconst (v := 0) dX9_orders_20 (by decide) ?_
  refine a_puti dX9_orders_21 F_X9_186 zs_48 rfl ⟨rfl, rfl⟩ ?_
  refine a_aload_n dX9_orders_24 rfl 0 rfl ?_
  refine a_getq dX9_orders_25 G_X9_80 zs_48 rfl (rf_48_16 hR) ?_
  refine a_aload_n dX9_orders_28 rfl 0 rfl ?_
  refine a_geti dX9_orders_29 G_X9_183 zs_48 rfl ?_
  refine a_iconst (v := 0) dX9_orders_32 (by decide) ?_
  obtain ⟨hz3, h⟩ := zif h
  refine a_iast dX9_orders_33 zs_57 (zin_vp hz3) ?_
  refine a_aload_n dX9_orders_34 rfl 0 rfl ?_
  refine a_iconst (v := 0) dX9_orders_35 (by decide) ?_
  refine a_puti dX9_orders_36 F_X9_195 zs_48 rfl ⟨rfl, rfl⟩ ?_
  refine tX9_orders_39 hR (fun I L h => ?_) zF _ _ h
  (try dsimp only at h)
  exact tX9_orders_65 hR h
