/-! the law, over any relation that its calls keep -/
abbrev zRelT : Type := Nat → zPI → zPL → zPF → Nat → Nat → Option Nat → Prop
def zStR (Rel : zRelT) : Prop := ∀ (i : Nat) (I : zPI) (L : zPL) (F : zPF) (a b : Nat) (c : Option Nat), Rel i I L F a b c → zRin F a b c ∧ zwfR zS0.length F ∧ Rel (i + 7) I L F a b c
def zSt_feed (Rel : zRelT) : Prop := ∀ (i : Nat) (I : zPI) (L : zPL) (F : zPF) (a b : Nat) (c : Option Nat) (p1 p2 p3 : Int64), i + 7 ≤ 3585 → Rel i I L F a b c → ∃ v I1 I2, fX8_feed I p1 p2 p3 = some (v, I1) ∧ fX9_feed I1 p1 p2 p3 = some (v, I2) ∧ Rel (i + 7) I2 L F a b c
def zSt_orders (Rel : zRelT) : Prop := ∀ (i : Nat) (I : zPI) (L : zPL) (F : zPF) (a b : Nat) (c : Option Nat), i + 7 ≤ 3585 → Rel i I L F a b c → ∃ v I1 F1 I2 L2 a2 b2 c2, fX8_orders a b I F = some (v, I1, F1) ∧ fX9_orders I1 L = some (v, I2, L2) ∧ Rel (i + 7) I2 L2 F1 a2 b2 c2
def zSt_wind (Rel : zRelT) : Prop := ∀ (i : Nat) (I : zPI) (L : zPL) (F : zPF) (a b : Nat) (c : Option Nat) (p1 p2 p3 : Int32), i + 7 ≤ 3585 → Rel i I L F a b c → ∃ v I1 I2, fX8_wind I p1 p2 p3 = some (v, I1) ∧ fX9_wind I1 p1 p2 p3 = some (v, I2) ∧ Rel (i + 7) I2 L F a b c
def zSt_minutes (Rel : zRelT) : Prop := ∀ (i : Nat) (I : zPI) (L : zPL) (F : zPF) (a b : Nat) (c : Option Nat) (p1 : Int32), i + 7 ≤ 3585 → Rel i I L F a b c → ∃ v I1 I2, fX8_minutes a I p1 = some (v, I1) ∧ fX9_minutes I1 p1 = some (v, I2) ∧ Rel (i + 7) I2 L F a b c
def zSt_sail (Rel : zRelT) : Prop := ∀ (i : Nat) (I : zPI) (L : zPL) (F : zPF) (a b : Nat) (c : Option Nat) (p1 p2 : Int32), i + 7 ≤ 3585 → Rel i I L F a b c → ∃ v I2, fX8_sail I p1 p2 = some v ∧ fX9_sail I p1 p2 = some (v, I2) ∧ Rel (i + 7) I2 L F a b c
def zSt_rope (Rel : zRelT) : Prop := ∀ (i : Nat) (I : zPI) (L : zPL) (F : zPF) (a b : Nat) (c : Option Nat) (p1 p2 : Int32), i + 7 ≤ 3585 → Rel i I L F a b c → ∃ v I2, fX8_rope I p1 p2 = some v ∧ fX9_rope I p1 p2 = some (v, I2) ∧ Rel (i + 7) I2 L F a b c
def zSt_braced (Rel : zRelT) : Prop := ∀ (i : Nat) (I : zPI) (L : zPL) (F : zPF) (a b : Nat) (c : Option Nat) (p1 : Int32), i + 7 ≤ 3585 → Rel i I L F a b c → ∃ v I2, fX8_braced I p1 = some v ∧ fX9_braced I p1 = some (v, I2) ∧ Rel (i + 7) I2 L F a b c
def zSt_hand (Rel : zRelT) : Prop := ∀ (i : Nat) (I : zPI) (L : zPL) (F : zPF) (a b : Nat) (c : Option Nat) (p1 p2 : Int32), i + 7 ≤ 3585 → Rel i I L F a b c → ∃ r v I2, fX8_hand I p1 p2 = some r ∧ fX9_hand I p1 p2 = some (v, I2) ∧ fX9_thrown I2 = zhA r ∧ (∀ x, r = some x → v = x) ∧ Rel (i + 7) I2 (zhL L r) F a b c
def zSt_look (Rel : zRelT) : Prop := ∀ (i : Nat) (I : zPI) (L : zPL) (F : zPF) (a b : Nat) (c : Option Nat) (p1 : Int32), i + 7 ≤ 3585 → Rel i I L F a b c → ∃ v v1 I2, fX8_look a I p1 = v ∧ fX9_look I p1 = some (v1, I2) ∧ Rel (i + 7) I2 L F a b c
def zSt_foretell (Rel : zRelT) : Prop := ∀ (i : Nat) (I : zPI) (L : zPL) (F : zPF) (a b : Nat) (c : Option Nat) (p1 p2 p3 : Int32), i + 7 ≤ 3585 → Rel i I L F a b c → ∃ v I1 I2, fX8_foretell I p1 p2 p3 = some (v, I1) ∧ fX9_foretell I1 p1 p2 p3 = some (v, I2) ∧ Rel (i + 7) I2 L F a b c
def zSt_plan (Rel : zRelT) : Prop := ∀ (i : Nat) (I : zPI) (L : zPL) (F : zPF) (a b : Nat) (c : Option Nat) (p1 p2 : Int32), i + 7 ≤ 3585 → Rel i I L F a b c → ∃ v I1 L1 I2, fX8_plan I L p1 p2 = some (v, I1, L1) ∧ fX9_plan I1 p1 p2 = some (v, I2) ∧ Rel (i + 7) I2 L1 F a b c
def zSt_leg (Rel : zRelT) : Prop := ∀ (i : Nat) (I : zPI) (L : zPL) (F : zPF) (a b : Nat) (c : Option Nat) (p1 : Int32), i + 7 ≤ 3585 → Rel i I L F a b c → ∃ v I2, fX8_leg I p1 = some v ∧ fX9_leg I p1 = some (v, I2) ∧ Rel (i + 7) I2 L F a b c
def zSteps (Rel : zRelT) : Prop := zStR Rel ∧ zSt_feed Rel ∧ zSt_orders Rel ∧ zSt_wind Rel ∧ zSt_minutes Rel ∧ zSt_sail Rel ∧ zSt_rope Rel ∧ zSt_braced Rel ∧ zSt_hand Rel ∧ zSt_look Rel ∧ zSt_foretell Rel ∧ zSt_plan Rel ∧ zSt_leg Rel
theorem zidx {i N : Nat} (k : Nat) (h : i + k < N) (hN : N ≤ 3585) : vp_in (nI i + nI k) N := by
  rw [nI_add]
  exact vp_in_nI h (by omega)
theorem zidx0 {i N : Nat} (h : i < N) (hN : N ≤ 3585) : vp_in (nI i) N := vp_in_nI h (by omega)
theorem zlcmp_eq (x : Int32) : lg_cmp x.toInt64 x.toInt64 = 0 := by simp [lg_cmp]
theorem zAW_less {n d pc : Nat} {P : (Nat → Prop) → Launch → State → Prop} {X : Nat × (Nat → Int32)} {Mt : zM} {lv : List (Nat × zV)} {st : List zV} {σ σ' : zW} {rv : Option zV} (k : zAW (n, 0, P) X Mt d pc lv st σ rv σ') : zAW (n + 1, 0, P) X Mt d pc lv st σ rv σ' := by
  intro p l e R s m args below meth c H locs cells slots Q D dA A ad ls cx hl hP hD hS wR wl ws hc hs he
  simp only at hc hs
  exact k p l e R s m args below meth c H locs cells slots Q D dA A ad ls cx hl hP hD hS wR wl ws (by simp only; omega) (by simp only; omega) he
set_option maxRecDepth 100000 in
set_option maxHeartbeats 4000000 in
theorem law_feed {Rel : zRelT} (hs0 : zStR Rel) (hs : zSt_feed Rel) {X : Nat × (Nat → Int32)} (hX : X.1 ≤ 3585) {n : Nat} (ih : ∀ (i : Nat) (I : zPI) (L : zPL) (F : zPF) (a b : Nat) (c : Option Nat), Rel i I L F a b c → 1 ≤ i → i ≤ 3600 → X.1 < i + 7 + 7 * n → ∃ σf : zW, σf.1 = zS0 ∧ zAW (n, 0, zEL) X mL_law 50 33 [(0, zr 1000), (1, zr 0), (2, zr 48), (3, zr 76), (4, zi (nI i))] [] (zS0, I, L, F) (some (zi 1)) σf) {i : Nat} {I : zPI} {L : zPL} {F : zPF} {a b : Nat} {c : Option Nat} (h0 : Rel i I L F a b c) (hi : 1 ≤ i) (hin : i + 7 ≤ X.1) (hn : X.1 < i + 7 + 7 * (n + 1)) : ∃ σf : zW, σf.1 = zS0 ∧ zAW (n + 1, 0, zEL) X mL_law 50 112 [(0, zr 1000), (1, zr 0), (2, zr 48), (3, zr 76), (4, zi (nI i))] [] (zS0, I, L, F) (some (zi 1)) σf := by
  have hR := (hs0 i I L F a b c h0).1
  obtain ⟨v, I1, I2, e1, e2, hr⟩ := hs i I L F a b c (((X.2 (nI i + 1).toNatClampNeg).toInt64 <<< ((32 : Int32).toInt64 &&& 63)) ||| ((X.2 (nI i + 2).toNatClampNeg).toInt64 &&& 4294967295)) (((X.2 (nI i + 3).toNatClampNeg).toInt64 <<< ((32 : Int32).toInt64 &&& 63)) ||| ((X.2 (nI i + 4).toNatClampNeg).toInt64 &&& 4294967295)) (((X.2 (nI i + 5).toNatClampNeg).toInt64 <<< ((32 : Int32).toInt64 &&& 63)) ||| ((X.2 (nI i + 6).toNatClampNeg).toInt64 &&& 4294967295)) (by omega) h0
  obtain ⟨σf, hσ, k⟩ := ih (i + 7) I2 L F a b c hr (by omega) (by omega) (by omega)
  refine ⟨σf, hσ, ?_⟩
  replace k := zAW_less k
  refine a_aload_n dL_law_112 rfl 1 rfl ?_
  refine a_aload_n dL_law_113 rfl 0 rfl ?_
  refine a_iload dL_law_114 4 rfl ?_
  refine a_iconst (v := 1) dL_law_116 (by decide) ?_
  refine a_iadd dL_law_117 ?_
  refine a_sald dL_law_118 (zidx 1 (by omega) hX) ?_
  refine a_i2l dL_law_119 ?_
  refine a_bipush (v := 32) dL_law_120 (by decide) ?_
  refine a_lshl dL_law_122 ?_
  refine a_aload_n dL_law_123 rfl 0 rfl ?_
  refine a_iload dL_law_124 4 rfl ?_
  refine a_iconst (v := 2) dL_law_126 (by decide) ?_
  refine a_iadd dL_law_127 ?_
  refine a_sald dL_law_128 (zidx 2 (by omega) hX) ?_
  refine a_i2l dL_law_129 ?_
  refine a_ldc2 dL_law_130 zw1340 ?_
  refine a_land dL_law_133 ?_
  refine a_lor dL_law_134 ?_
  refine a_aload_n dL_law_135 rfl 0 rfl ?_
  refine a_iload dL_law_136 4 rfl ?_
  refine a_iconst (v := 3) dL_law_138 (by decide) ?_
  refine a_iadd dL_law_139 ?_
  refine a_sald dL_law_140 (zidx 3 (by omega) hX) ?_
  refine a_i2l dL_law_141 ?_
  refine a_bipush (v := 32) dL_law_142 (by decide) ?_
  refine a_lshl dL_law_144 ?_
  refine a_aload_n dL_law_145 rfl 0 rfl ?_
  refine a_iload dL_law_146 4 rfl ?_
  refine a_iconst (v := 4) dL_law_148 (by decide) ?_
  refine a_iadd dL_law_149 ?_
  refine a_sald dL_law_150 (zidx 4 (by omega) hX) ?_
  refine a_i2l dL_law_151 ?_
  refine a_ldc2 dL_law_152 zw1340 ?_
  refine a_land dL_law_155 ?_
  refine a_lor dL_law_156 ?_
  refine a_aload_n dL_law_157 rfl 0 rfl ?_
  refine a_iload dL_law_158 4 rfl ?_
  refine a_iconst (v := 5) dL_law_160 (by decide) ?_
  refine a_iadd dL_law_161 ?_
  refine a_sald dL_law_162 (zidx 5 (by omega) hX) ?_
  refine a_i2l dL_law_163 ?_
  refine a_bipush (v := 32) dL_law_164 (by decide) ?_
  refine a_lshl dL_law_166 ?_
  refine a_aload_n dL_law_167 rfl 0 rfl ?_
  refine a_iload dL_law_168 4 rfl ?_
  refine a_bipush (v := 6) dL_law_170 (by decide) ?_
  refine a_iadd dL_law_172 ?_
  refine a_sald dL_law_173 (zidx 6 (by omega) hX) ?_
  refine a_i2l dL_law_174 ?_
  refine a_ldc2 dL_law_175 zw1340 ?_
  refine a_land dL_law_178 ?_
  refine a_lor dL_law_179 ?_
  refine a_callV dL_law_180 (tX8_feed hR _ _ _ _ e1) csX8_feed zw385 (Nat.le_of_ble_eq_true rfl) zs_0 rfl rfl (Nat.le_of_ble_eq_true rfl) ⟨by rw [hσ]; exact Nat.le_refl _, by rw [hσ]; exact Nat.le_refl _⟩ (fun _ => ?_)
  refine a_pop dL_law_183 rfl ?_
  refine a_aload_n dL_law_184 rfl 2 rfl ?_
  refine a_aload_n dL_law_185 rfl 0 rfl ?_
  refine a_iload dL_law_186 4 rfl ?_
  refine a_iconst (v := 1) dL_law_188 (by decide) ?_
  refine a_iadd dL_law_189 ?_
  refine a_sald dL_law_190 (zidx 1 (by omega) hX) ?_
  refine a_i2l dL_law_191 ?_
  refine a_bipush (v := 32) dL_law_192 (by decide) ?_
  refine a_lshl dL_law_194 ?_
  refine a_aload_n dL_law_195 rfl 0 rfl ?_
  refine a_iload dL_law_196 4 rfl ?_
  refine a_iconst (v := 2) dL_law_198 (by decide) ?_
  refine a_iadd dL_law_199 ?_
  refine a_sald dL_law_200 (zidx 2 (by omega) hX) ?_
  refine a_i2l dL_law_201 ?_
  refine a_ldc2 dL_law_202 zw1340 ?_
  refine a_land dL_law_205 ?_
  refine a_lor dL_law_206 ?_
  refine a_aload_n dL_law_207 rfl 0 rfl ?_
  refine a_iload dL_law_208 4 rfl ?_
  refine a_iconst (v := 3) dL_law_210 (by decide) ?_
  refine a_iadd dL_law_211 ?_
  refine a_sald dL_law_212 (zidx 3 (by omega) hX) ?_
  refine a_i2l dL_law_213 ?_
  refine a_bipush (v := 32) dL_law_214 (by decide) ?_
  refine a_lshl dL_law_216 ?_
  refine a_aload_n dL_law_217 rfl 0 rfl ?_
  refine a_iload dL_law_218 4 rfl ?_
  refine a_iconst (v := 4) dL_law_220 (by decide) ?_
  refine a_iadd dL_law_221 ?_
  refine a_sald dL_law_222 (zidx 4 (by omega) hX) ?_
  refine a_i2l dL_law_223 ?_
  refine a_ldc2 dL_law_224 zw1340 ?_
  refine a_land dL_law_227 ?_
  refine a_lor dL_law_228 ?_
  refine a_aload_n dL_law_229 rfl 0 rfl ?_
  refine a_iload dL_law_230 4 rfl ?_
  refine a_iconst (v := 5) dL_law_232 (by decide) ?_
  refine a_iadd dL_law_233 ?_
  refine a_sald dL_law_234 (zidx 5 (by omega) hX) ?_
  refine a_i2l dL_law_235 ?_
  refine a_bipush (v := 32) dL_law_236 (by decide) ?_
  refine a_lshl dL_law_238 ?_
  refine a_aload_n dL_law_239 rfl 0 rfl ?_
  refine a_iload dL_law_240 4 rfl ?_
  refine a_bipush (v := 6) dL_law_242 (by decide) ?_
  refine a_iadd dL_law_244 ?_
  refine a_sald dL_law_245 (zidx 6 (by omega) hX) ?_
  refine a_i2l dL_law_246 ?_
  refine a_ldc2 dL_law_247 zw1340 ?_
  refine a_land dL_law_250 ?_
  refine a_lor dL_law_251 ?_
  refine a_callV dL_law_252 (tX9_feed hR _ _ _ _ e2) csX9_feed zw919 (Nat.le_of_ble_eq_true rfl) zs_48 rfl rfl (Nat.le_of_ble_eq_true rfl) ⟨by rw [hσ]; exact Nat.le_refl _, by rw [hσ]; exact Nat.le_refl _⟩ (fun _ => ?_)
  refine a_pop dL_law_255 rfl ?_
  refine a_goto (tgt := 649) dL_law_256 rfl ?_
  refine a_iincK (k0 := 7) dL_law_649 (by decide) 4 rfl (by decide) rfl ?_
  refine a_goto (tgt := 33) dL_law_652 rfl ?_
  refine a_sub [1, 2, 3, 4, 0] rfl ?_
  rw [show nI i + 7 = nI (i + 7) from nI_add i 7]
  exact k
set_option maxRecDepth 100000 in
set_option maxHeartbeats 4000000 in
theorem law_orders {Rel : zRelT} (hs0 : zStR Rel) (hs : zSt_orders Rel) {X : Nat × (Nat → Int32)} (hX : X.1 ≤ 3585) {n : Nat} (ih : ∀ (i : Nat) (I : zPI) (L : zPL) (F : zPF) (a b : Nat) (c : Option Nat), Rel i I L F a b c → 1 ≤ i → i ≤ 3600 → X.1 < i + 7 + 7 * n → ∃ σf : zW, σf.1 = zS0 ∧ zAW (n, 0, zEL) X mL_law 50 33 [(0, zr 1000), (1, zr 0), (2, zr 48), (3, zr 76), (4, zi (nI i))] [] (zS0, I, L, F) (some (zi 1)) σf) {i : Nat} {I : zPI} {L : zPL} {F : zPF} {a b : Nat} {c : Option Nat} (h0 : Rel i I L F a b c) (hi : 1 ≤ i) (hin : i + 7 ≤ X.1) (hn : X.1 < i + 7 + 7 * (n + 1)) : ∃ σf : zW, σf.1 = zS0 ∧ zAW (n + 1, 0, zEL) X mL_law 50 259 [(0, zr 1000), (1, zr 0), (2, zr 48), (3, zr 76), (4, zi (nI i))] [] (zS0, I, L, F) (some (zi 1)) σf := by
  have hR := (hs0 i I L F a b c h0).1
  obtain ⟨v, I1, F1, I2, L2, a2, b2, c2, e1, e2, hr⟩ := hs i I L F a b c  (by omega) h0
  have hR1 := (hs0 (i + 7) I2 L2 F1 a2 b2 c2 hr).1
  obtain ⟨σf, hσ, k⟩ := ih (i + 7) I2 L2 F1 a2 b2 c2 hr (by omega) (by omega) (by omega)
  refine ⟨σf, hσ, ?_⟩
  replace k := zAW_less k
  refine a_aload_n dL_law_259 rfl 1 rfl ?_
  refine a_callV dL_law_260 (tX8_orders hR _ e1) csX8_orders zw393 (Nat.le_of_ble_eq_true rfl) zs_0 rfl rfl (Nat.le_of_ble_eq_true rfl) ⟨by rw [hσ]; exact Nat.le_refl _, by rw [hσ]; exact Nat.le_refl _⟩ (fun _ => ?_)
  refine a_pop dL_law_263 rfl ?_
  refine a_aload_n dL_law_264 rfl 2 rfl ?_
  refine a_callV dL_law_265 (tX9_orders hR1 _ e2) csX9_orders zw1111 (Nat.le_of_ble_eq_true rfl) zs_48 rfl rfl (Nat.le_of_ble_eq_true rfl) ⟨by rw [hσ]; exact Nat.le_refl _, by rw [hσ]; exact Nat.le_refl _⟩ (fun _ => ?_)
  refine a_pop dL_law_268 rfl ?_
  refine a_goto (tgt := 649) dL_law_269 rfl ?_
  refine a_iincK (k0 := 7) dL_law_649 (by decide) 4 rfl (by decide) rfl ?_
  refine a_goto (tgt := 33) dL_law_652 rfl ?_
  refine a_sub [1, 2, 3, 4, 0] rfl ?_
  rw [show nI i + 7 = nI (i + 7) from nI_add i 7]
  exact k
set_option maxRecDepth 100000 in
set_option maxHeartbeats 4000000 in
theorem law_wind {Rel : zRelT} (hs0 : zStR Rel) (hs : zSt_wind Rel) {X : Nat × (Nat → Int32)} (hX : X.1 ≤ 3585) {n : Nat} (ih : ∀ (i : Nat) (I : zPI) (L : zPL) (F : zPF) (a b : Nat) (c : Option Nat), Rel i I L F a b c → 1 ≤ i → i ≤ 3600 → X.1 < i + 7 + 7 * n → ∃ σf : zW, σf.1 = zS0 ∧ zAW (n, 0, zEL) X mL_law 50 33 [(0, zr 1000), (1, zr 0), (2, zr 48), (3, zr 76), (4, zi (nI i))] [] (zS0, I, L, F) (some (zi 1)) σf) {i : Nat} {I : zPI} {L : zPL} {F : zPF} {a b : Nat} {c : Option Nat} (h0 : Rel i I L F a b c) (hi : 1 ≤ i) (hin : i + 7 ≤ X.1) (hn : X.1 < i + 7 + 7 * (n + 1)) : ∃ σf : zW, σf.1 = zS0 ∧ zAW (n + 1, 0, zEL) X mL_law 50 272 [(0, zr 1000), (1, zr 0), (2, zr 48), (3, zr 76), (4, zi (nI i))] [] (zS0, I, L, F) (some (zi 1)) σf := by
  have hR := (hs0 i I L F a b c h0).1
  obtain ⟨v, I1, I2, e1, e2, hr⟩ := hs i I L F a b c (X.2 (nI i + 1).toNatClampNeg) (X.2 (nI i + 2).toNatClampNeg) (X.2 (nI i + 3).toNatClampNeg) (by omega) h0
  obtain ⟨σf, hσ, k⟩ := ih (i + 7) I2 L F a b c hr (by omega) (by omega) (by omega)
  refine ⟨σf, hσ, ?_⟩
  replace k := zAW_less k
  refine a_aload_n dL_law_272 rfl 1 rfl ?_
  refine a_aload_n dL_law_273 rfl 0 rfl ?_
  refine a_iload dL_law_274 4 rfl ?_
  refine a_iconst (v := 1) dL_law_276 (by decide) ?_
  refine a_iadd dL_law_277 ?_
  refine a_sald dL_law_278 (zidx 1 (by omega) hX) ?_
  refine a_aload_n dL_law_279 rfl 0 rfl ?_
  refine a_iload dL_law_280 4 rfl ?_
  refine a_iconst (v := 2) dL_law_282 (by decide) ?_
  refine a_iadd dL_law_283 ?_
  refine a_sald dL_law_284 (zidx 2 (by omega) hX) ?_
  refine a_aload_n dL_law_285 rfl 0 rfl ?_
  refine a_iload dL_law_286 4 rfl ?_
  refine a_iconst (v := 3) dL_law_288 (by decide) ?_
  refine a_iadd dL_law_289 ?_
  refine a_sald dL_law_290 (zidx 3 (by omega) hX) ?_
  refine a_callV dL_law_291 (tX8_wind hR _ _ _ _ e1) csX8_wind zw558 (Nat.le_of_ble_eq_true rfl) zs_0 rfl rfl (Nat.le_of_ble_eq_true rfl) ⟨by rw [hσ]; exact Nat.le_refl _, by rw [hσ]; exact Nat.le_refl _⟩ (fun _ => ?_)
  refine a_pop dL_law_294 rfl ?_
  refine a_aload_n dL_law_295 rfl 2 rfl ?_
  refine a_aload_n dL_law_296 rfl 0 rfl ?_
  refine a_iload dL_law_297 4 rfl ?_
  refine a_iconst (v := 1) dL_law_299 (by decide) ?_
  refine a_iadd dL_law_300 ?_
  refine a_sald dL_law_301 (zidx 1 (by omega) hX) ?_
  refine a_aload_n dL_law_302 rfl 0 rfl ?_
  refine a_iload dL_law_303 4 rfl ?_
  refine a_iconst (v := 2) dL_law_305 (by decide) ?_
  refine a_iadd dL_law_306 ?_
  refine a_sald dL_law_307 (zidx 2 (by omega) hX) ?_
  refine a_aload_n dL_law_308 rfl 0 rfl ?_
  refine a_iload dL_law_309 4 rfl ?_
  refine a_iconst (v := 3) dL_law_311 (by decide) ?_
  refine a_iadd dL_law_312 ?_
  refine a_sald dL_law_313 (zidx 3 (by omega) hX) ?_
  refine a_callV dL_law_314 (tX9_wind hR _ _ _ _ e2) csX9_wind zw1190 (Nat.le_of_ble_eq_true rfl) zs_48 rfl rfl (Nat.le_of_ble_eq_true rfl) ⟨by rw [hσ]; exact Nat.le_refl _, by rw [hσ]; exact Nat.le_refl _⟩ (fun _ => ?_)
  refine a_pop dL_law_317 rfl ?_
  refine a_goto (tgt := 649) dL_law_318 rfl ?_
  refine a_iincK (k0 := 7) dL_law_649 (by decide) 4 rfl (by decide) rfl ?_
  refine a_goto (tgt := 33) dL_law_652 rfl ?_
  refine a_sub [1, 2, 3, 4, 0] rfl ?_
  rw [show nI i + 7 = nI (i + 7) from nI_add i 7]
  exact k
set_option maxRecDepth 100000 in
set_option maxHeartbeats 4000000 in
theorem law_minutes {Rel : zRelT} (hs0 : zStR Rel) (hs : zSt_minutes Rel) {X : Nat × (Nat → Int32)} (hX : X.1 ≤ 3585) {n : Nat} (ih : ∀ (i : Nat) (I : zPI) (L : zPL) (F : zPF) (a b : Nat) (c : Option Nat), Rel i I L F a b c → 1 ≤ i → i ≤ 3600 → X.1 < i + 7 + 7 * n → ∃ σf : zW, σf.1 = zS0 ∧ zAW (n, 0, zEL) X mL_law 50 33 [(0, zr 1000), (1, zr 0), (2, zr 48), (3, zr 76), (4, zi (nI i))] [] (zS0, I, L, F) (some (zi 1)) σf) {i : Nat} {I : zPI} {L : zPL} {F : zPF} {a b : Nat} {c : Option Nat} (h0 : Rel i I L F a b c) (hi : 1 ≤ i) (hin : i + 7 ≤ X.1) (hn : X.1 < i + 7 + 7 * (n + 1)) : ∃ σf : zW, σf.1 = zS0 ∧ zAW (n + 1, 0, zEL) X mL_law 50 321 [(0, zr 1000), (1, zr 0), (2, zr 48), (3, zr 76), (4, zi (nI i))] [] (zS0, I, L, F) (some (zi 1)) σf := by
  have hR := (hs0 i I L F a b c h0).1
  obtain ⟨v, I1, I2, e1, e2, hr⟩ := hs i I L F a b c (X.2 (nI i + 1).toNatClampNeg) (by omega) h0
  obtain ⟨σf, hσ, k⟩ := ih (i + 7) I2 L F a b c hr (by omega) (by omega) (by omega)
  refine ⟨σf, hσ, ?_⟩
  replace k := zAW_less k
  refine a_aload_n dL_law_321 rfl 1 rfl ?_
  refine a_aload_n dL_law_322 rfl 0 rfl ?_
  refine a_iload dL_law_323 4 rfl ?_
  refine a_iconst (v := 1) dL_law_325 (by decide) ?_
  refine a_iadd dL_law_326 ?_
  refine a_sald dL_law_327 (zidx 1 (by omega) hX) ?_
  refine a_callV dL_law_328 (tX8_minutes hR _ _ e1) csX8_minutes zw574 (Nat.le_of_ble_eq_true rfl) zs_0 rfl rfl (Nat.le_of_ble_eq_true rfl) ⟨by rw [hσ]; exact Nat.le_refl _, by rw [hσ]; exact Nat.le_refl _⟩ (fun _ => ?_)
  refine a_pop dL_law_331 rfl ?_
  refine a_aload_n dL_law_332 rfl 2 rfl ?_
  refine a_aload_n dL_law_333 rfl 0 rfl ?_
  refine a_iload dL_law_334 4 rfl ?_
  refine a_iconst (v := 1) dL_law_336 (by decide) ?_
  refine a_iadd dL_law_337 ?_
  refine a_sald dL_law_338 (zidx 1 (by omega) hX) ?_
  refine a_callV dL_law_339 (tX9_minutes hR _ _ e2) csX9_minutes zw1195 (Nat.le_of_ble_eq_true rfl) zs_48 rfl rfl (Nat.le_of_ble_eq_true rfl) ⟨by rw [hσ]; exact Nat.le_refl _, by rw [hσ]; exact Nat.le_refl _⟩ (fun _ => ?_)
  refine a_pop dL_law_342 rfl ?_
  refine a_goto (tgt := 649) dL_law_343 rfl ?_
  refine a_iincK (k0 := 7) dL_law_649 (by decide) 4 rfl (by decide) rfl ?_
  refine a_goto (tgt := 33) dL_law_652 rfl ?_
  refine a_sub [1, 2, 3, 4, 0] rfl ?_
  rw [show nI i + 7 = nI (i + 7) from nI_add i 7]
  exact k
set_option maxRecDepth 100000 in
set_option maxHeartbeats 4000000 in
theorem law_sail {Rel : zRelT} (hs0 : zStR Rel) (hs : zSt_sail Rel) {X : Nat × (Nat → Int32)} (hX : X.1 ≤ 3585) {n : Nat} (ih : ∀ (i : Nat) (I : zPI) (L : zPL) (F : zPF) (a b : Nat) (c : Option Nat), Rel i I L F a b c → 1 ≤ i → i ≤ 3600 → X.1 < i + 7 + 7 * n → ∃ σf : zW, σf.1 = zS0 ∧ zAW (n, 0, zEL) X mL_law 50 33 [(0, zr 1000), (1, zr 0), (2, zr 48), (3, zr 76), (4, zi (nI i))] [] (zS0, I, L, F) (some (zi 1)) σf) {i : Nat} {I : zPI} {L : zPL} {F : zPF} {a b : Nat} {c : Option Nat} (h0 : Rel i I L F a b c) (hi : 1 ≤ i) (hin : i + 7 ≤ X.1) (hn : X.1 < i + 7 + 7 * (n + 1)) : ∃ σf : zW, σf.1 = zS0 ∧ zAW (n + 1, 0, zEL) X mL_law 50 346 [(0, zr 1000), (1, zr 0), (2, zr 48), (3, zr 76), (4, zi (nI i))] [] (zS0, I, L, F) (some (zi 1)) σf := by
  have hR := (hs0 i I L F a b c h0).1
  obtain ⟨v, I2, e1, e2, hr⟩ := hs i I L F a b c (X.2 (nI i + 1).toNatClampNeg) (X.2 (nI i + 2).toNatClampNeg) (by omega) h0
  obtain ⟨σf, hσ, k⟩ := ih (i + 7) I2 L F a b c hr (by omega) (by omega) (by omega)
  refine ⟨σf, hσ, ?_⟩
  replace k := zAW_less k
  refine a_aload_n dL_law_346 rfl 1 rfl ?_
  refine a_aload_n dL_law_347 rfl 0 rfl ?_
  refine a_iload dL_law_348 4 rfl ?_
  refine a_iconst (v := 1) dL_law_350 (by decide) ?_
  refine a_iadd dL_law_351 ?_
  refine a_sald dL_law_352 (zidx 1 (by omega) hX) ?_
  refine a_aload_n dL_law_353 rfl 0 rfl ?_
  refine a_iload dL_law_354 4 rfl ?_
  refine a_iconst (v := 2) dL_law_356 (by decide) ?_
  refine a_iadd dL_law_357 ?_
  refine a_sald dL_law_358 (zidx 2 (by omega) hX) ?_
  refine a_callV dL_law_359 (tX8_sail hR _ _ _ e1) csX8_sail zw750 (Nat.le_of_ble_eq_true rfl) zs_0 rfl rfl (Nat.le_of_ble_eq_true rfl) ⟨by rw [hσ]; exact Nat.le_refl _, by rw [hσ]; exact Nat.le_refl _⟩ (fun _ => ?_)
  refine a_pop dL_law_362 rfl ?_
  refine a_aload_n dL_law_363 rfl 2 rfl ?_
  refine a_aload_n dL_law_364 rfl 0 rfl ?_
  refine a_iload dL_law_365 4 rfl ?_
  refine a_iconst (v := 1) dL_law_367 (by decide) ?_
  refine a_iadd dL_law_368 ?_
  refine a_sald dL_law_369 (zidx 1 (by omega) hX) ?_
  refine a_aload_n dL_law_370 rfl 0 rfl ?_
  refine a_iload dL_law_371 4 rfl ?_
  refine a_iconst (v := 2) dL_law_373 (by decide) ?_
  refine a_iadd dL_law_374 ?_
  refine a_sald dL_law_375 (zidx 2 (by omega) hX) ?_
  refine a_callV dL_law_376 (tX9_sail hR _ _ _ e2) csX9_sail zw1296 (Nat.le_of_ble_eq_true rfl) zs_48 rfl rfl (Nat.le_of_ble_eq_true rfl) ⟨by rw [hσ]; exact Nat.le_refl _, by rw [hσ]; exact Nat.le_refl _⟩ (fun _ => ?_)
  refine a_pop dL_law_379 rfl ?_
  refine a_goto (tgt := 649) dL_law_380 rfl ?_
  refine a_iincK (k0 := 7) dL_law_649 (by decide) 4 rfl (by decide) rfl ?_
  refine a_goto (tgt := 33) dL_law_652 rfl ?_
  refine a_sub [1, 2, 3, 4, 0] rfl ?_
  rw [show nI i + 7 = nI (i + 7) from nI_add i 7]
  exact k
set_option maxRecDepth 100000 in
set_option maxHeartbeats 4000000 in
theorem law_rope {Rel : zRelT} (hs0 : zStR Rel) (hs : zSt_rope Rel) {X : Nat × (Nat → Int32)} (hX : X.1 ≤ 3585) {n : Nat} (ih : ∀ (i : Nat) (I : zPI) (L : zPL) (F : zPF) (a b : Nat) (c : Option Nat), Rel i I L F a b c → 1 ≤ i → i ≤ 3600 → X.1 < i + 7 + 7 * n → ∃ σf : zW, σf.1 = zS0 ∧ zAW (n, 0, zEL) X mL_law 50 33 [(0, zr 1000), (1, zr 0), (2, zr 48), (3, zr 76), (4, zi (nI i))] [] (zS0, I, L, F) (some (zi 1)) σf) {i : Nat} {I : zPI} {L : zPL} {F : zPF} {a b : Nat} {c : Option Nat} (h0 : Rel i I L F a b c) (hi : 1 ≤ i) (hin : i + 7 ≤ X.1) (hn : X.1 < i + 7 + 7 * (n + 1)) : ∃ σf : zW, σf.1 = zS0 ∧ zAW (n + 1, 0, zEL) X mL_law 50 383 [(0, zr 1000), (1, zr 0), (2, zr 48), (3, zr 76), (4, zi (nI i))] [] (zS0, I, L, F) (some (zi 1)) σf := by
  have hR := (hs0 i I L F a b c h0).1
  obtain ⟨v, I2, e1, e2, hr⟩ := hs i I L F a b c (X.2 (nI i + 1).toNatClampNeg) (X.2 (nI i + 2).toNatClampNeg) (by omega) h0
  obtain ⟨σf, hσ, k⟩ := ih (i + 7) I2 L F a b c hr (by omega) (by omega) (by omega)
  refine ⟨σf, hσ, ?_⟩
  replace k := zAW_less k
  refine a_aload_n dL_law_383 rfl 1 rfl ?_
  refine a_aload_n dL_law_384 rfl 0 rfl ?_
  refine a_iload dL_law_385 4 rfl ?_
  refine a_iconst (v := 1) dL_law_387 (by decide) ?_
  refine a_iadd dL_law_388 ?_
  refine a_sald dL_law_389 (zidx 1 (by omega) hX) ?_
  refine a_aload_n dL_law_390 rfl 0 rfl ?_
  refine a_iload dL_law_391 4 rfl ?_
  refine a_iconst (v := 2) dL_law_393 (by decide) ?_
  refine a_iadd dL_law_394 ?_
  refine a_sald dL_law_395 (zidx 2 (by omega) hX) ?_
  refine a_callV dL_law_396 (tX8_rope hR _ _ _ e1) csX8_rope zw754 (Nat.le_of_ble_eq_true rfl) zs_0 rfl rfl (Nat.le_of_ble_eq_true rfl) ⟨by rw [hσ]; exact Nat.le_refl _, by rw [hσ]; exact Nat.le_refl _⟩ (fun _ => ?_)
  refine a_pop dL_law_399 rfl ?_
  refine a_aload_n dL_law_400 rfl 2 rfl ?_
  refine a_aload_n dL_law_401 rfl 0 rfl ?_
  refine a_iload dL_law_402 4 rfl ?_
  refine a_iconst (v := 1) dL_law_404 (by decide) ?_
  refine a_iadd dL_law_405 ?_
  refine a_sald dL_law_406 (zidx 1 (by omega) hX) ?_
  refine a_aload_n dL_law_407 rfl 0 rfl ?_
  refine a_iload dL_law_408 4 rfl ?_
  refine a_iconst (v := 2) dL_law_410 (by decide) ?_
  refine a_iadd dL_law_411 ?_
  refine a_sald dL_law_412 (zidx 2 (by omega) hX) ?_
  refine a_callV dL_law_413 (tX9_rope hR _ _ _ e2) csX9_rope zw1300 (Nat.le_of_ble_eq_true rfl) zs_48 rfl rfl (Nat.le_of_ble_eq_true rfl) ⟨by rw [hσ]; exact Nat.le_refl _, by rw [hσ]; exact Nat.le_refl _⟩ (fun _ => ?_)
  refine a_pop dL_law_416 rfl ?_
  refine a_goto (tgt := 649) dL_law_417 rfl ?_
  refine a_iincK (k0 := 7) dL_law_649 (by decide) 4 rfl (by decide) rfl ?_
  refine a_goto (tgt := 33) dL_law_652 rfl ?_
  refine a_sub [1, 2, 3, 4, 0] rfl ?_
  rw [show nI i + 7 = nI (i + 7) from nI_add i 7]
  exact k
set_option maxRecDepth 100000 in
set_option maxHeartbeats 4000000 in
theorem law_braced {Rel : zRelT} (hs0 : zStR Rel) (hs : zSt_braced Rel) {X : Nat × (Nat → Int32)} (hX : X.1 ≤ 3585) {n : Nat} (ih : ∀ (i : Nat) (I : zPI) (L : zPL) (F : zPF) (a b : Nat) (c : Option Nat), Rel i I L F a b c → 1 ≤ i → i ≤ 3600 → X.1 < i + 7 + 7 * n → ∃ σf : zW, σf.1 = zS0 ∧ zAW (n, 0, zEL) X mL_law 50 33 [(0, zr 1000), (1, zr 0), (2, zr 48), (3, zr 76), (4, zi (nI i))] [] (zS0, I, L, F) (some (zi 1)) σf) {i : Nat} {I : zPI} {L : zPL} {F : zPF} {a b : Nat} {c : Option Nat} (h0 : Rel i I L F a b c) (hi : 1 ≤ i) (hin : i + 7 ≤ X.1) (hn : X.1 < i + 7 + 7 * (n + 1)) : ∃ σf : zW, σf.1 = zS0 ∧ zAW (n + 1, 0, zEL) X mL_law 50 420 [(0, zr 1000), (1, zr 0), (2, zr 48), (3, zr 76), (4, zi (nI i))] [] (zS0, I, L, F) (some (zi 1)) σf := by
  have hR := (hs0 i I L F a b c h0).1
  obtain ⟨v, I2, e1, e2, hr⟩ := hs i I L F a b c (X.2 (nI i + 1).toNatClampNeg) (by omega) h0
  obtain ⟨σf, hσ, k⟩ := ih (i + 7) I2 L F a b c hr (by omega) (by omega) (by omega)
  refine ⟨σf, hσ, ?_⟩
  replace k := zAW_less k
  refine a_aload_n dL_law_420 rfl 1 rfl ?_
  refine a_aload_n dL_law_421 rfl 0 rfl ?_
  refine a_iload dL_law_422 4 rfl ?_
  refine a_iconst (v := 1) dL_law_424 (by decide) ?_
  refine a_iadd dL_law_425 ?_
  refine a_sald dL_law_426 (zidx 1 (by omega) hX) ?_
  refine a_callV dL_law_427 (tX8_braced hR _ _ e1) csX8_braced zw758 (Nat.le_of_ble_eq_true rfl) zs_0 rfl rfl (Nat.le_of_ble_eq_true rfl) ⟨by rw [hσ]; exact Nat.le_refl _, by rw [hσ]; exact Nat.le_refl _⟩ (fun _ => ?_)
  refine a_pop dL_law_430 rfl ?_
  refine a_aload_n dL_law_431 rfl 2 rfl ?_
  refine a_aload_n dL_law_432 rfl 0 rfl ?_
  refine a_iload dL_law_433 4 rfl ?_
  refine a_iconst (v := 1) dL_law_435 (by decide) ?_
  refine a_iadd dL_law_436 ?_
  refine a_sald dL_law_437 (zidx 1 (by omega) hX) ?_
  refine a_callV dL_law_438 (tX9_braced hR _ _ e2) csX9_braced zw1304 (Nat.le_of_ble_eq_true rfl) zs_48 rfl rfl (Nat.le_of_ble_eq_true rfl) ⟨by rw [hσ]; exact Nat.le_refl _, by rw [hσ]; exact Nat.le_refl _⟩ (fun _ => ?_)
  refine a_pop dL_law_441 rfl ?_
  refine a_goto (tgt := 649) dL_law_442 rfl ?_
  refine a_iincK (k0 := 7) dL_law_649 (by decide) 4 rfl (by decide) rfl ?_
  refine a_goto (tgt := 33) dL_law_652 rfl ?_
  refine a_sub [1, 2, 3, 4, 0] rfl ?_
  rw [show nI i + 7 = nI (i + 7) from nI_add i 7]
  exact k
set_option maxRecDepth 100000 in
set_option maxHeartbeats 4000000 in
theorem law_hand {Rel : zRelT} (hs0 : zStR Rel) (hs : zSt_hand Rel) {X : Nat × (Nat → Int32)} (hX : X.1 ≤ 3585) {n : Nat} (ih : ∀ (i : Nat) (I : zPI) (L : zPL) (F : zPF) (a b : Nat) (c : Option Nat), Rel i I L F a b c → 1 ≤ i → i ≤ 3600 → X.1 < i + 7 + 7 * n → ∃ σf : zW, σf.1 = zS0 ∧ zAW (n, 0, zEL) X mL_law 50 33 [(0, zr 1000), (1, zr 0), (2, zr 48), (3, zr 76), (4, zi (nI i))] [] (zS0, I, L, F) (some (zi 1)) σf) {i : Nat} {I : zPI} {L : zPL} {F : zPF} {a b : Nat} {c : Option Nat} (h0 : Rel i I L F a b c) (hi : 1 ≤ i) (hin : i + 7 ≤ X.1) (hn : X.1 < i + 7 + 7 * (n + 1)) : ∃ σf : zW, σf.1 = zS0 ∧ zAW (n + 1, 0, zEL) X mL_law 50 445 [(0, zr 1000), (1, zr 0), (2, zr 48), (3, zr 76), (4, zi (nI i))] [] (zS0, I, L, F) (some (zi 1)) σf := by
  have hR := (hs0 i I L F a b c h0).1
  obtain ⟨r, v, I2, e1, e2, e3, e4, hr⟩ := hs i I L F a b c (X.2 (nI i + 1).toNatClampNeg) (X.2 (nI i + 2).toNatClampNeg) (by omega) h0
  obtain ⟨σf, hσ, k⟩ := ih (i + 7) I2 (zhL L r) F a b c hr (by omega) (by omega) (by omega)
  refine ⟨σf, hσ, ?_⟩
  refine a_aload_n dL_law_445 rfl 1 rfl ?_
  refine a_aload_n dL_law_446 rfl 0 rfl ?_
  refine a_iload dL_law_447 4 rfl ?_
  refine a_iconst (v := 1) dL_law_449 (by decide) ?_
  refine a_iadd dL_law_450 ?_
  refine a_sald dL_law_451 (zidx 1 (by omega) hX) ?_
  refine a_aload_n dL_law_452 rfl 0 rfl ?_
  refine a_iload dL_law_453 4 rfl ?_
  refine a_iconst (v := 2) dL_law_455 (by decide) ?_
  refine a_iadd dL_law_456 ?_
  refine a_sald dL_law_457 (zidx 2 (by omega) hX) ?_
  refine a_aload_n dL_law_458 rfl 3 rfl ?_
  refine a_lawhand dL_law_459 (by decide) hR e1 (Nat.le_of_ble_eq_true rfl) hσ ?_
  refine a_istore dL_law_462 (by decide) rfl ?_
  refine a_aload_n dL_law_464 rfl 3 rfl ?_
  refine a_aload_n dL_law_465 rfl 1 rfl ?_
  refine a_iload dL_law_466 5 rfl ?_
  refine a_iconst (v := 1) dL_law_468 (by decide) ?_
  refine a_iadd dL_law_469 ?_
  refine a_sald dL_law_470 (zidx 1 (by omega) hX) ?_
  refine a_aload_n dL_law_471 rfl 1 rfl ?_
  refine a_iload dL_law_472 5 rfl ?_
  refine a_iconst (v := 2) dL_law_474 (by decide) ?_
  refine a_iadd dL_law_475 ?_
  refine a_sald dL_law_476 (zidx 2 (by omega) hX) ?_
  refine a_callV dL_law_477 (tX9_hand hR _ _ _ e2) csX9_hand zw1308 (Nat.le_of_ble_eq_true rfl) zs_48 rfl rfl (Nat.le_of_ble_eq_true rfl) ⟨by rw [hσ]; exact Nat.le_refl _, by rw [hσ]; exact Nat.le_refl _⟩ (fun _ => ?_)
  refine a_istore dL_law_480 (by decide) rfl ?_
  refine a_aload_n dL_law_482 rfl 4 rfl ?_
  refine a_callV dL_law_483 (tX9_thrown hR _ e3) csX9_thrown zw915 (Nat.le_of_ble_eq_true rfl) zs_48 rfl rfl (Nat.le_of_ble_eq_true rfl) ⟨by rw [hσ]; exact Nat.le_refl _, by rw [hσ]; exact Nat.le_refl _⟩ (fun _ => ?_)
  refine a_iload dL_law_486 1 rfl ?_
  refine a_icmp_eq (tgt := 493) dL_law_488 rfl (fun _ => ?_) (fun hc => absurd rfl hc)
  refine a_iload dL_law_493 1 rfl ?_
  refine a_if_ne (tgt := 510) dL_law_495 rfl (fun _ => ?_) (fun hk => ?_)
  · refine a_goto (tgt := 649) dL_law_510 rfl ?_
    refine a_iincK (k0 := 7) dL_law_649 (by decide) 6 rfl (by decide) rfl ?_
    refine a_goto (tgt := 33) dL_law_652 rfl ?_
    refine a_sub [3, 4, 5, 6, 0] rfl ?_
    rw [show nI i + 7 = nI (i + 7) from nI_add i 7]
    exact k
  · skip
    obtain ⟨x, rfl⟩ : ∃ x, r = some x := by
      cases r with
      | none => exact absurd hk (by decide)
      | some x => exact ⟨x, rfl⟩
    have e9 : zhL L (some x) 76 0 = v.toInt64 := by rw [e4 x rfl]; exact zu_same
    refine a_aload_n dL_law_498 rfl 5 rfl ?_
    refine a_iconst (v := 0) dL_law_499 (by decide) ?_
    refine a_lald dL_law_500 zs_76 (zin_vp (by decide)) ?_
    refine a_iload dL_law_501 0 rfl ?_
    refine a_i2l dL_law_503 ?_
    refine a_lcmp dL_law_504 ?_
    refine a_if_eq (tgt := 510) dL_law_505 rfl (fun _ => ?_) (fun hc => absurd ?_ hc)
    · refine a_goto (tgt := 649) dL_law_510 rfl ?_
      refine a_iincK (k0 := 7) dL_law_649 (by decide) 6 rfl (by decide) rfl ?_
      refine a_goto (tgt := 33) dL_law_652 rfl ?_
      refine a_sub [3, 4, 5, 6, 0] rfl ?_
      rw [show nI i + 7 = nI (i + 7) from nI_add i 7]
      exact k
    · show lg_cmp (zhL L (some x) 76 0) v.toInt64 = 0
      rw [e9]
      exact zlcmp_eq v
set_option maxRecDepth 100000 in
set_option maxHeartbeats 4000000 in
theorem law_look {Rel : zRelT} (hs0 : zStR Rel) (hs : zSt_look Rel) {X : Nat × (Nat → Int32)} (hX : X.1 ≤ 3585) {n : Nat} (ih : ∀ (i : Nat) (I : zPI) (L : zPL) (F : zPF) (a b : Nat) (c : Option Nat), Rel i I L F a b c → 1 ≤ i → i ≤ 3600 → X.1 < i + 7 + 7 * n → ∃ σf : zW, σf.1 = zS0 ∧ zAW (n, 0, zEL) X mL_law 50 33 [(0, zr 1000), (1, zr 0), (2, zr 48), (3, zr 76), (4, zi (nI i))] [] (zS0, I, L, F) (some (zi 1)) σf) {i : Nat} {I : zPI} {L : zPL} {F : zPF} {a b : Nat} {c : Option Nat} (h0 : Rel i I L F a b c) (hi : 1 ≤ i) (hin : i + 7 ≤ X.1) (hn : X.1 < i + 7 + 7 * (n + 1)) : ∃ σf : zW, σf.1 = zS0 ∧ zAW (n + 1, 0, zEL) X mL_law 50 513 [(0, zr 1000), (1, zr 0), (2, zr 48), (3, zr 76), (4, zi (nI i))] [] (zS0, I, L, F) (some (zi 1)) σf := by
  have hR := (hs0 i I L F a b c h0).1
  obtain ⟨v, v1, I2, e1, e2, hr⟩ := hs i I L F a b c (X.2 (nI i + 1).toNatClampNeg) (by omega) h0
  obtain ⟨σf, hσ, k⟩ := ih (i + 7) I2 L F a b c hr (by omega) (by omega) (by omega)
  refine ⟨σf, hσ, ?_⟩
  replace k := zAW_less k
  refine a_aload_n dL_law_513 rfl 1 rfl ?_
  refine a_aload_n dL_law_514 rfl 0 rfl ?_
  refine a_iload dL_law_515 4 rfl ?_
  refine a_iconst (v := 1) dL_law_517 (by decide) ?_
  refine a_iadd dL_law_518 ?_
  refine a_sald dL_law_519 (zidx 1 (by omega) hX) ?_
  refine a_callV dL_law_520 (tX8_look hR _ _ e1) csX8_look zw762 (Nat.le_of_ble_eq_true rfl) zs_0 rfl rfl (Nat.le_of_ble_eq_true rfl) ⟨by rw [hσ]; exact Nat.le_refl _, by rw [hσ]; exact Nat.le_refl _⟩ (fun _ => ?_)
  refine a_pop dL_law_523 rfl ?_
  refine a_aload_n dL_law_524 rfl 2 rfl ?_
  refine a_aload_n dL_law_525 rfl 0 rfl ?_
  refine a_iload dL_law_526 4 rfl ?_
  refine a_iconst (v := 1) dL_law_528 (by decide) ?_
  refine a_iadd dL_law_529 ?_
  refine a_sald dL_law_530 (zidx 1 (by omega) hX) ?_
  refine a_callV dL_law_531 (tX9_look hR _ _ e2) csX9_look zw1312 (Nat.le_of_ble_eq_true rfl) zs_48 rfl rfl (Nat.le_of_ble_eq_true rfl) ⟨by rw [hσ]; exact Nat.le_refl _, by rw [hσ]; exact Nat.le_refl _⟩ (fun _ => ?_)
  refine a_pop dL_law_534 rfl ?_
  refine a_goto (tgt := 649) dL_law_535 rfl ?_
  refine a_iincK (k0 := 7) dL_law_649 (by decide) 4 rfl (by decide) rfl ?_
  refine a_goto (tgt := 33) dL_law_652 rfl ?_
  refine a_sub [1, 2, 3, 4, 0] rfl ?_
  rw [show nI i + 7 = nI (i + 7) from nI_add i 7]
  exact k
set_option maxRecDepth 100000 in
set_option maxHeartbeats 4000000 in
theorem law_foretell {Rel : zRelT} (hs0 : zStR Rel) (hs : zSt_foretell Rel) {X : Nat × (Nat → Int32)} (hX : X.1 ≤ 3585) {n : Nat} (ih : ∀ (i : Nat) (I : zPI) (L : zPL) (F : zPF) (a b : Nat) (c : Option Nat), Rel i I L F a b c → 1 ≤ i → i ≤ 3600 → X.1 < i + 7 + 7 * n → ∃ σf : zW, σf.1 = zS0 ∧ zAW (n, 0, zEL) X mL_law 50 33 [(0, zr 1000), (1, zr 0), (2, zr 48), (3, zr 76), (4, zi (nI i))] [] (zS0, I, L, F) (some (zi 1)) σf) {i : Nat} {I : zPI} {L : zPL} {F : zPF} {a b : Nat} {c : Option Nat} (h0 : Rel i I L F a b c) (hi : 1 ≤ i) (hin : i + 7 ≤ X.1) (hn : X.1 < i + 7 + 7 * (n + 1)) : ∃ σf : zW, σf.1 = zS0 ∧ zAW (n + 1, 0, zEL) X mL_law 50 538 [(0, zr 1000), (1, zr 0), (2, zr 48), (3, zr 76), (4, zi (nI i))] [] (zS0, I, L, F) (some (zi 1)) σf := by
  have hR := (hs0 i I L F a b c h0).1
  obtain ⟨v, I1, I2, e1, e2, hr⟩ := hs i I L F a b c (X.2 (nI i + 1).toNatClampNeg) (X.2 (nI i + 2).toNatClampNeg) (X.2 (nI i + 3).toNatClampNeg) (by omega) h0
  obtain ⟨σf, hσ, k⟩ := ih (i + 7) I2 L F a b c hr (by omega) (by omega) (by omega)
  refine ⟨σf, hσ, ?_⟩
  replace k := zAW_less k
  refine a_aload_n dL_law_538 rfl 1 rfl ?_
  refine a_aload_n dL_law_539 rfl 0 rfl ?_
  refine a_iload dL_law_540 4 rfl ?_
  refine a_iconst (v := 1) dL_law_542 (by decide) ?_
  refine a_iadd dL_law_543 ?_
  refine a_sald dL_law_544 (zidx 1 (by omega) hX) ?_
  refine a_aload_n dL_law_545 rfl 0 rfl ?_
  refine a_iload dL_law_546 4 rfl ?_
  refine a_iconst (v := 2) dL_law_548 (by decide) ?_
  refine a_iadd dL_law_549 ?_
  refine a_sald dL_law_550 (zidx 2 (by omega) hX) ?_
  refine a_aload_n dL_law_551 rfl 0 rfl ?_
  refine a_iload dL_law_552 4 rfl ?_
  refine a_iconst (v := 3) dL_law_554 (by decide) ?_
  refine a_iadd dL_law_555 ?_
  refine a_sald dL_law_556 (zidx 3 (by omega) hX) ?_
  refine a_callV dL_law_557 (tX8_foretell hR _ _ _ _ e1) csX8_foretell zw766 (Nat.le_of_ble_eq_true rfl) zs_0 rfl rfl (Nat.le_of_ble_eq_true rfl) ⟨by rw [hσ]; exact Nat.le_refl _, by rw [hσ]; exact Nat.le_refl _⟩ (fun _ => ?_)
  refine a_pop dL_law_560 rfl ?_
  refine a_aload_n dL_law_561 rfl 2 rfl ?_
  refine a_aload_n dL_law_562 rfl 0 rfl ?_
  refine a_iload dL_law_563 4 rfl ?_
  refine a_iconst (v := 1) dL_law_565 (by decide) ?_
  refine a_iadd dL_law_566 ?_
  refine a_sald dL_law_567 (zidx 1 (by omega) hX) ?_
  refine a_aload_n dL_law_568 rfl 0 rfl ?_
  refine a_iload dL_law_569 4 rfl ?_
  refine a_iconst (v := 2) dL_law_571 (by decide) ?_
  refine a_iadd dL_law_572 ?_
  refine a_sald dL_law_573 (zidx 2 (by omega) hX) ?_
  refine a_aload_n dL_law_574 rfl 0 rfl ?_
  refine a_iload dL_law_575 4 rfl ?_
  refine a_iconst (v := 3) dL_law_577 (by decide) ?_
  refine a_iadd dL_law_578 ?_
  refine a_sald dL_law_579 (zidx 3 (by omega) hX) ?_
  refine a_callV dL_law_580 (tX9_foretell hR _ _ _ _ e2) csX9_foretell zw1316 (Nat.le_of_ble_eq_true rfl) zs_48 rfl rfl (Nat.le_of_ble_eq_true rfl) ⟨by rw [hσ]; exact Nat.le_refl _, by rw [hσ]; exact Nat.le_refl _⟩ (fun _ => ?_)
  refine a_pop dL_law_583 rfl ?_
  refine a_goto (tgt := 649) dL_law_584 rfl ?_
  refine a_iincK (k0 := 7) dL_law_649 (by decide) 4 rfl (by decide) rfl ?_
  refine a_goto (tgt := 33) dL_law_652 rfl ?_
  refine a_sub [1, 2, 3, 4, 0] rfl ?_
  rw [show nI i + 7 = nI (i + 7) from nI_add i 7]
  exact k
set_option maxRecDepth 100000 in
set_option maxHeartbeats 4000000 in
theorem law_plan {Rel : zRelT} (hs0 : zStR Rel) (hs : zSt_plan Rel) {X : Nat × (Nat → Int32)} (hX : X.1 ≤ 3585) {n : Nat} (ih : ∀ (i : Nat) (I : zPI) (L : zPL) (F : zPF) (a b : Nat) (c : Option Nat), Rel i I L F a b c → 1 ≤ i → i ≤ 3600 → X.1 < i + 7 + 7 * n → ∃ σf : zW, σf.1 = zS0 ∧ zAW (n, 0, zEL) X mL_law 50 33 [(0, zr 1000), (1, zr 0), (2, zr 48), (3, zr 76), (4, zi (nI i))] [] (zS0, I, L, F) (some (zi 1)) σf) {i : Nat} {I : zPI} {L : zPL} {F : zPF} {a b : Nat} {c : Option Nat} (h0 : Rel i I L F a b c) (hi : 1 ≤ i) (hin : i + 7 ≤ X.1) (hn : X.1 < i + 7 + 7 * (n + 1)) : ∃ σf : zW, σf.1 = zS0 ∧ zAW (n + 1, 0, zEL) X mL_law 50 587 [(0, zr 1000), (1, zr 0), (2, zr 48), (3, zr 76), (4, zi (nI i))] [] (zS0, I, L, F) (some (zi 1)) σf := by
  have hR := (hs0 i I L F a b c h0).1
  obtain ⟨v, I1, L1, I2, e1, e2, hr⟩ := hs i I L F a b c (X.2 (nI i + 1).toNatClampNeg) (X.2 (nI i + 2).toNatClampNeg) (by omega) h0
  obtain ⟨σf, hσ, k⟩ := ih (i + 7) I2 L1 F a b c hr (by omega) (by omega) (by omega)
  refine ⟨σf, hσ, ?_⟩
  replace k := zAW_less k
  refine a_aload_n dL_law_587 rfl 1 rfl ?_
  refine a_aload_n dL_law_588 rfl 0 rfl ?_
  refine a_iload dL_law_589 4 rfl ?_
  refine a_iconst (v := 1) dL_law_591 (by decide) ?_
  refine a_iadd dL_law_592 ?_
  refine a_sald dL_law_593 (zidx 1 (by omega) hX) ?_
  refine a_aload_n dL_law_594 rfl 0 rfl ?_
  refine a_iload dL_law_595 4 rfl ?_
  refine a_iconst (v := 2) dL_law_597 (by decide) ?_
  refine a_iadd dL_law_598 ?_
  refine a_sald dL_law_599 (zidx 2 (by omega) hX) ?_
  refine a_callV dL_law_600 (tX8_plan hR _ _ _ e1) csX8_plan zw780 (Nat.le_of_ble_eq_true rfl) zs_0 rfl rfl (Nat.le_of_ble_eq_true rfl) ⟨by rw [hσ]; exact Nat.le_refl _, by rw [hσ]; exact Nat.le_refl _⟩ (fun _ => ?_)
  refine a_pop dL_law_603 rfl ?_
  refine a_aload_n dL_law_604 rfl 2 rfl ?_
  refine a_aload_n dL_law_605 rfl 0 rfl ?_
  refine a_iload dL_law_606 4 rfl ?_
  refine a_iconst (v := 1) dL_law_608 (by decide) ?_
  refine a_iadd dL_law_609 ?_
  refine a_sald dL_law_610 (zidx 1 (by omega) hX) ?_
  refine a_aload_n dL_law_611 rfl 0 rfl ?_
  refine a_iload dL_law_612 4 rfl ?_
  refine a_iconst (v := 2) dL_law_614 (by decide) ?_
  refine a_iadd dL_law_615 ?_
  refine a_sald dL_law_616 (zidx 2 (by omega) hX) ?_
  refine a_callV dL_law_617 (tX9_plan hR _ _ _ e2) csX9_plan zw1320 (Nat.le_of_ble_eq_true rfl) zs_48 rfl rfl (Nat.le_of_ble_eq_true rfl) ⟨by rw [hσ]; exact Nat.le_refl _, by rw [hσ]; exact Nat.le_refl _⟩ (fun _ => ?_)
  refine a_pop dL_law_620 rfl ?_
  refine a_goto (tgt := 649) dL_law_621 rfl ?_
  refine a_iincK (k0 := 7) dL_law_649 (by decide) 4 rfl (by decide) rfl ?_
  refine a_goto (tgt := 33) dL_law_652 rfl ?_
  refine a_sub [1, 2, 3, 4, 0] rfl ?_
  rw [show nI i + 7 = nI (i + 7) from nI_add i 7]
  exact k
set_option maxRecDepth 100000 in
set_option maxHeartbeats 4000000 in
theorem law_leg {Rel : zRelT} (hs0 : zStR Rel) (hs : zSt_leg Rel) {X : Nat × (Nat → Int32)} (hX : X.1 ≤ 3585) {n : Nat} (ih : ∀ (i : Nat) (I : zPI) (L : zPL) (F : zPF) (a b : Nat) (c : Option Nat), Rel i I L F a b c → 1 ≤ i → i ≤ 3600 → X.1 < i + 7 + 7 * n → ∃ σf : zW, σf.1 = zS0 ∧ zAW (n, 0, zEL) X mL_law 50 33 [(0, zr 1000), (1, zr 0), (2, zr 48), (3, zr 76), (4, zi (nI i))] [] (zS0, I, L, F) (some (zi 1)) σf) {i : Nat} {I : zPI} {L : zPL} {F : zPF} {a b : Nat} {c : Option Nat} (h0 : Rel i I L F a b c) (hi : 1 ≤ i) (hin : i + 7 ≤ X.1) (hn : X.1 < i + 7 + 7 * (n + 1)) : ∃ σf : zW, σf.1 = zS0 ∧ zAW (n + 1, 0, zEL) X mL_law 50 624 [(0, zr 1000), (1, zr 0), (2, zr 48), (3, zr 76), (4, zi (nI i))] [] (zS0, I, L, F) (some (zi 1)) σf := by
  have hR := (hs0 i I L F a b c h0).1
  obtain ⟨v, I2, e1, e2, hr⟩ := hs i I L F a b c (X.2 (nI i + 1).toNatClampNeg) (by omega) h0
  obtain ⟨σf, hσ, k⟩ := ih (i + 7) I2 L F a b c hr (by omega) (by omega) (by omega)
  refine ⟨σf, hσ, ?_⟩
  replace k := zAW_less k
  refine a_aload_n dL_law_624 rfl 1 rfl ?_
  refine a_aload_n dL_law_625 rfl 0 rfl ?_
  refine a_iload dL_law_626 4 rfl ?_
  refine a_iconst (v := 1) dL_law_628 (by decide) ?_
  refine a_iadd dL_law_629 ?_
  refine a_sald dL_law_630 (zidx 1 (by omega) hX) ?_
  refine a_callV dL_law_631 (tX8_leg hR _ _ e1) csX8_leg zw825 (Nat.le_of_ble_eq_true rfl) zs_0 rfl rfl (Nat.le_of_ble_eq_true rfl) ⟨by rw [hσ]; exact Nat.le_refl _, by rw [hσ]; exact Nat.le_refl _⟩ (fun _ => ?_)
  refine a_pop dL_law_634 rfl ?_
  refine a_aload_n dL_law_635 rfl 2 rfl ?_
  refine a_aload_n dL_law_636 rfl 0 rfl ?_
  refine a_iload dL_law_637 4 rfl ?_
  refine a_iconst (v := 1) dL_law_639 (by decide) ?_
  refine a_iadd dL_law_640 ?_
  refine a_sald dL_law_641 (zidx 1 (by omega) hX) ?_
  refine a_callV dL_law_642 (tX9_leg hR _ _ e2) csX9_leg zw1336 (Nat.le_of_ble_eq_true rfl) zs_48 rfl rfl (Nat.le_of_ble_eq_true rfl) ⟨by rw [hσ]; exact Nat.le_refl _, by rw [hσ]; exact Nat.le_refl _⟩ (fun _ => ?_)
  refine a_pop dL_law_645 rfl ?_
  refine a_goto (tgt := 649) dL_law_646 rfl ?_
  refine a_iincK (k0 := 7) dL_law_649 (by decide) 4 rfl (by decide) rfl ?_
  refine a_goto (tgt := 33) dL_law_652 rfl ?_
  refine a_sub [1, 2, 3, 4, 0] rfl ?_
  rw [show nI i + 7 = nI (i + 7) from nI_add i 7]
  exact k
