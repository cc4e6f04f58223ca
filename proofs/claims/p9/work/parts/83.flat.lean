/-! WHAT IS KNOWN OF THE STATEMENTS READ: G 0 begin, G 1 UNLESS, G 2 behind, G 3 end of the first block's codes -/
def blk (G : Nat → Nat → Nat) (k1 k2 c1 c2 : Nat) : Prop := (k1 = k2 ∧ c1 = c2) ∨ (k1 < k2 ∧ G 0 k1 = c1)
def Nx (I : zPI) (o : Nat) (G : Nat → Nat → Nat) (be ce x : Nat) : Prop := ∃ e, I (o + 6) x = nI e ∧ x < e ∧ e ≤ be ∧ (e = be → G 2 x = ce) ∧ (e < be → G 0 e = G 2 x)
def PN (I : zPI) (o : Nat) (G : Nat → Nat → Nat) (top y x : Nat) : Prop := (I (o + 1) y = nI 8 ∧ ∃ e, I (o + 6) y = nI e ∧ e ≤ top ∧ x < e ∧ Nx I o G e (G 3 y) x) ∨ (I (o + 1) y = nI 7 ∧ ∃ m e, I (o + 5) y = nI m ∧ I (o + 6) y = nI e ∧ m ≤ e ∧ e ≤ top ∧ ((x < m ∧ Nx I o G m (G 3 y) x) ∨ (m ≤ x ∧ x < e ∧ Nx I o G e (G 2 y) x)))
def SFo (I J : zPI) (o : Nat) (G : Nat → Nat → Nat) (v e x : Nat) : Prop := v < 7 ∧ e = x + 1 ∧ G 2 x = G 0 x + 1 ∧ ∃ f s, I (o + 2) x = nI f ∧ I (o + 3) x = nI s ∧ (loO v ≤ f ∧ f ≤ hiO v ∧ s ≤ 8) ∧ wCode J (G 0 x) v (nI f) (nI s)
def SFe (I J : zPI) (o : Nat) (G : Nat → Nat → Nat) (x : Nat) : Prop := (∃ fk, fk < 3 ∧ I (o + 2) x = nI fk ∧ EX I J o x fk (G 0 x) (G 1 x)) ∧ I (o + 3) x = nI 0 ∧ G 0 x ≤ G 1 x ∧ G 1 x < G 3 x ∧ G 3 x ≤ G 2 x ∧ J 54 (G 1 x) = 11
def SFw (I J : zPI) (o : Nat) (G : Nat → Nat → Nat) (v e x : Nat) : Prop := v = 8 ∧ SFe I J o G x ∧ J 55 (G 1 x) = nI (G 2 x) ∧ G 2 x = G 3 x + 1 ∧ J 54 (G 3 x) = 12 ∧ J 55 (G 3 x) = nI (G 0 x) ∧ blk G (x + 1) e (G 1 x + 1) (G 3 x)
def SFi (I J : zPI) (o : Nat) (G : Nat → Nat → Nat) (v e x : Nat) : Prop := v = 7 ∧ SFe I J o G x ∧ ∃ m, I (o + 5) x = nI m ∧ x < m ∧ m ≤ e ∧ blk G (x + 1) m (G 1 x + 1) (G 3 x) ∧ ((m = e ∧ G 2 x = G 3 x ∧ J 55 (G 1 x) = nI (G 2 x)) ∨ (G 3 x < G 2 x ∧ J 54 (G 3 x) = 12 ∧ J 55 (G 3 x) = nI (G 2 x) ∧ J 55 (G 1 x) = nI (G 3 x + 1) ∧ blk G m e (G 3 x + 1) (G 2 x)))
/-- statement x by itself; its codes lie in lo .. hi, its end is at most top -/
def SF (I J : zPI) (o : Nat) (G : Nat → Nat → Nat) (lo hi top x : Nat) : Prop := ∃ v e, I (o + 1) x = nI v ∧ I (o + 6) x = nI e ∧ x < e ∧ e ≤ top ∧ (lo ≤ G 0 x ∧ G 0 x < G 2 x ∧ G 2 x ≤ hi) ∧ (SFo I J o G v e x ∨ SFw I J o G v e x ∨ SFi I J o G v e x)
/-- one statement, n, with all that lies in it -/
def ST (I J : zPI) (o : Nat) (G : Nat → Nat → Nat) (p : Int32) (n n' c c' : Nat) : Prop := n < n' ∧ G 0 n = c ∧ G 2 n = c' ∧ I (o + 6) n = nI n' ∧ I (o + 4) n = p ∧ SF I J o G c c' n' n ∧ ∀ x, n < x → x < n' → SF I J o G c c' n' x ∧ ∃ y, n ≤ y ∧ y < x ∧ I (o + 4) x = nI y ∧ PN I o G n' y x
/-- a row of statements -/
def SQ (I J : zPI) (o : Nat) (G : Nat → Nat → Nat) (p : Int32) (n n' c c' : Nat) : Prop := n ≤ n' ∧ c ≤ c' ∧ blk G n n' c c' ∧ ∀ x, n ≤ x → x < n' → SF I J o G c c' n' x ∧ ((I (o + 4) x = p ∧ Nx I o G n' c' x) ∨ ∃ y, n ≤ y ∧ y < x ∧ I (o + 4) x = nI y ∧ PN I o G n' y x)
theorem blk_cong {G G' : Nat → Nat → Nat} {k1 k2 c1 c2 n top : Nat} (h : blk G k1 k2 c1 c2) (hk : k2 ≤ top) (hn : n ≤ k1) (e : ∀ k x, n ≤ x → x < top → G' k x = G k x) : blk G' k1 k2 c1 c2 := by
  rcases h with h | ⟨h1, h2⟩
  · exact Or.inl h
  · exact Or.inr ⟨h1, by rw [e 0 k1 hn (by omega)]; exact h2⟩
theorem Nx_cong {I I' : zPI} {o : Nat} {G G' : Nat → Nat → Nat} {be ce x n top : Nat} (h : Nx I o G be ce x) (hb : be ≤ top) (hn : n ≤ x) (eI : I' (o + 6) x = I (o + 6) x) (e : ∀ k x, n ≤ x → x < top → G' k x = G k x) : Nx I' o G' be ce x := by
  obtain ⟨e1, h1, h2, h3, h4, h5⟩ := h
  exact ⟨e1, by rw [eI]; exact h1, h2, h3, fun h => by rw [e 2 x hn (by omega)]; exact h4 h, fun h => by rw [e 2 x hn (by omega), e 0 e1 (by omega) (by omega)]; exact h5 h⟩
/-- what the class's rows tell of n .. top stays -/
def cSt (I I' : zPI) (o n top : Nat) : Prop := (∀ a b, o < a → a < o + 7 → n ≤ b → b < top → I' a b = I a b) ∧ ∀ b, n * 8 ≤ b → b < top * 8 → I' (o + 8) b = I (o + 8) b
theorem PN_cong {I I' : zPI} {o : Nat} {G G' : Nat → Nat → Nat} {top y x n : Nat} (h : PN I o G top y x) (hn : n ≤ y) (hy : y < x) (c : cSt I I' o n top) (e : ∀ k x, n ≤ x → x < top → G' k x = G k x) : PN I' o G' top y x := by
  rcases h with ⟨h1, e1, h2, h3, h4, h5⟩ | ⟨h1, m, e1, h2, h3, h4, h5, h6⟩
  · refine Or.inl ⟨by rw [c.1 _ _ (by omega) (by omega) hn (by omega)]; exact h1, e1, by rw [c.1 _ _ (by omega) (by omega) hn (by omega)]; exact h2, h3, h4, ?_⟩
    rw [e 3 y hn (by omega)]
    exact Nx_cong h5 h3 (by omega) (c.1 _ _ (by omega) (by omega) (by omega) (by omega)) e
  · have hx : x < top := by omega
    refine Or.inr ⟨by rw [c.1 _ _ (by omega) (by omega) hn (by omega)]; exact h1, m, e1, by rw [c.1 _ _ (by omega) (by omega) hn (by omega)]; exact h2, by rw [c.1 _ _ (by omega) (by omega) hn (by omega)]; exact h3, h4, h5, ?_⟩
    rw [e 3 y hn (by omega), e 2 y hn (by omega)]
    rcases h6 with ⟨a1, a2⟩ | ⟨a1, a2, a3⟩
    · exact Or.inl ⟨a1, Nx_cong a2 (by omega) (by omega) (c.1 _ _ (by omega) (by omega) (by omega) (by omega)) e⟩
    · exact Or.inr ⟨a1, a2, Nx_cong a3 h5 (by omega) (c.1 _ _ (by omega) (by omega) (by omega) (by omega)) e⟩
theorem EX_congI {I I' J : zPI} {a i f A U : Nat} (e : ∀ p, p < 8 → I' (a + 8) (i * 8 + p) = I (a + 8) (i * 8 + p)) (h : EX I J a i f A U) : EX I' J a i f A U := by
  obtain ⟨W, ml, h1, h2⟩ := h
  exact ⟨W, ml, fun p hp => by rw [e p hp]; exact h1 p hp, h2⟩
theorem SFe_cong {I I' J J' : zPI} {o : Nat} {G G' : Nat → Nat → Nat} {lo hi n top x : Nat} (h : SFe I J o G x) (hn : n ≤ x) (hx : x < top) (c : cSt I I' o n top) (eJ : ∀ a b, a = 54 ∨ a = 55 ∨ a = 56 → lo ≤ b → b < hi → J' a b = J a b) (h1 : lo ≤ G 0 x) (h2 : G 2 x ≤ hi) (e : ∀ k x, n ≤ x → x < top → G' k x = G k x) : SFe I' J' o G' x := by
  obtain ⟨⟨fk, a1, a2, a3⟩, a4, a5, a6, a7, a8⟩ := h
  unfold SFe
  rw [e 0 x hn hx, e 1 x hn hx, e 2 x hn hx, e 3 x hn hx]
  refine ⟨⟨fk, a1, by rw [c.1 _ _ (by omega) (by omega) hn hx]; exact a2, ?_⟩, by rw [c.1 _ _ (by omega) (by omega) hn hx]; exact a4, a5, a6, a7, by rw [eJ _ _ (by omega) (by omega) (by omega)]; exact a8⟩
  exact EX_congR (fun a ha b b1 b2 => eJ a b (by omega) (by omega) (by omega)) (EX_congI (fun p hp => c.2 _ (by omega) (by omega)) a3)
theorem SF_cong {I I' J J' : zPI} {o : Nat} {G G' : Nat → Nat → Nat} {lo hi n top x : Nat} (h : SF I J o G lo hi top x) (hn : n ≤ x) (c : cSt I I' o n top) (eJ : ∀ a b, a = 54 ∨ a = 55 ∨ a = 56 → lo ≤ b → b < hi → J' a b = J a b) (e : ∀ k x, n ≤ x → x < top → G' k x = G k x) : SF I' J' o G' lo hi top x := by
  obtain ⟨v, e1, h1, h2, h3, h4, ⟨h5, h6, h7⟩, h8⟩ := h
  have hx : x < top := by omega
  refine ⟨v, e1, by rw [c.1 _ _ (by omega) (by omega) hn hx]; exact h1, by rw [c.1 _ _ (by omega) (by omega) hn hx]; exact h2, h3, h4, ⟨by rw [e 0 x hn hx]; exact h5, by rw [e 0 x hn hx, e 2 x hn hx]; exact h6, by rw [e 2 x hn hx]; exact h7⟩, ?_⟩
  rcases h8 with ⟨a1, a2, a3, f, s, a4, a5, a6, a7⟩ | ⟨a1, a2, a3, a4, a5, a6, a7⟩ | ⟨a1, a2, m, a3, a4, a5, a6, a7⟩
  · refine Or.inl ⟨a1, a2, by rw [e 0 x hn hx, e 2 x hn hx]; exact a3, f, s, by rw [c.1 _ _ (by omega) (by omega) hn hx]; exact a4, by rw [c.1 _ _ (by omega) (by omega) hn hx]; exact a5, a6, ?_⟩
    unfold wCode
    rw [e 0 x hn hx, eJ 54 _ (by omega) h5 (by omega), eJ 55 _ (by omega) h5 (by omega), eJ 56 _ (by omega) h5 (by omega)]
    exact a7
  · have b := a2
    obtain ⟨-, -, b3, b4, b5, -⟩ := b
    refine Or.inr (Or.inl ⟨a1, SFe_cong a2 hn hx c eJ h5 h7 e, ?_, ?_, ?_, ?_, ?_⟩)
    · rw [e 1 x hn hx, e 2 x hn hx, eJ 55 _ (by omega) (by omega) (by omega)]; exact a3
    · rw [e 3 x hn hx, e 2 x hn hx]; exact a4
    · rw [e 3 x hn hx, eJ 54 _ (by omega) (by omega) (by omega)]; exact a5
    · rw [e 3 x hn hx, e 0 x hn hx, eJ 55 _ (by omega) (by omega) (by omega)]; exact a6
    · rw [e 3 x hn hx, e 1 x hn hx]; exact blk_cong a7 h4 (by omega) e
  · have b := a2
    obtain ⟨-, -, b3, b4, b5, -⟩ := b
    refine Or.inr (Or.inr ⟨a1, SFe_cong a2 hn hx c eJ h5 h7 e, m, by rw [c.1 _ _ (by omega) (by omega) hn hx]; exact a3, a4, a5, ?_, ?_⟩)
    · rw [e 3 x hn hx, e 1 x hn hx]; exact blk_cong a6 (by omega) (by omega) e
    · rw [e 3 x hn hx, e 1 x hn hx, e 2 x hn hx]
      rcases a7 with ⟨q1, q2, q3⟩ | ⟨q1, q2, q3, q4, q5⟩
      · exact Or.inl ⟨q1, q2, by rw [eJ 55 _ (by omega) (by omega) (by omega)]; exact q3⟩
      · exact Or.inr ⟨q1, by rw [eJ 54 _ (by omega) (by omega) (by omega)]; exact q2, by rw [eJ 55 _ (by omega) (by omega) (by omega)]; exact q3, by rw [eJ 55 _ (by omega) (by omega) (by omega)]; exact q4, blk_cong q5 h4 (by omega) e⟩
theorem SF_mono {I J : zPI} {o : Nat} {G : Nat → Nat → Nat} {lo hi top lo' hi' top' x : Nat} (h : SF I J o G lo hi top x) (h1 : lo' ≤ lo) (h2 : hi ≤ hi') (h3 : top ≤ top') : SF I J o G lo' hi' top' x := by
  obtain ⟨v, e, a1, a2, a3, a4, a5, a6⟩ := h
  exact ⟨v, e, a1, a2, a3, by omega, by omega, a6⟩
theorem PN_mono {I : zPI} {o : Nat} {G : Nat → Nat → Nat} {top top' y x : Nat} (h : PN I o G top y x) (h3 : top ≤ top') : PN I o G top' y x := by
  rcases h with ⟨h1, e1, h2, h3, h4⟩ | ⟨h1, m, e1, h2, h3, h4, h5, h6⟩
  · exact Or.inl ⟨h1, e1, h2, by omega, h4⟩
  · exact Or.inr ⟨h1, m, e1, h2, h3, h4, by omega, h6⟩
theorem ST_cong {I I' J J' : zPI} {o : Nat} {G G' : Nat → Nat → Nat} {p : Int32} {n n' c c' : Nat} (h : ST I J o G p n n' c c') (hc : cSt I I' o n n') (eJ : ∀ a b, a = 54 ∨ a = 55 ∨ a = 56 → c ≤ b → b < c' → J' a b = J a b) (e : ∀ k x, n ≤ x → x < n' → G' k x = G k x) : ST I' J' o G' p n n' c c' := by
  obtain ⟨h1, h2, h3, h4, h5, h6, h7⟩ := h
  refine ⟨h1, by rw [e 0 n (Nat.le_refl _) h1]; exact h2, by rw [e 2 n (Nat.le_refl _) h1]; exact h3, by rw [hc.1 _ _ (by omega) (by omega) (Nat.le_refl _) h1]; exact h4, by rw [hc.1 _ _ (by omega) (by omega) (Nat.le_refl _) h1]; exact h5, SF_cong h6 (Nat.le_refl _) hc eJ e, fun x x1 x2 => ?_⟩
  obtain ⟨g1, y, g2, g3, g4, g5⟩ := h7 x x1 x2
  exact ⟨SF_cong g1 (by omega) hc eJ e, y, g2, g3, by rw [hc.1 _ _ (by omega) (by omega) (by omega) x2]; exact g4, PN_cong g5 g2 g3 hc e⟩
theorem SQ_cong {I I' J J' : zPI} {o : Nat} {G G' : Nat → Nat → Nat} {p : Int32} {n n' c c' : Nat} (h : SQ I J o G p n n' c c') (hc : cSt I I' o n n') (eJ : ∀ a b, a = 54 ∨ a = 55 ∨ a = 56 → c ≤ b → b < c' → J' a b = J a b) (e : ∀ k x, n ≤ x → x < n' → G' k x = G k x) : SQ I' J' o G' p n n' c c' := by
  obtain ⟨h1, h2, h3, h4⟩ := h
  refine ⟨h1, h2, blk_cong h3 (Nat.le_refl _) (Nat.le_refl _) e, fun x x1 x2 => ?_⟩
  obtain ⟨g1, g2⟩ := h4 x x1 x2
  refine ⟨SF_cong g1 x1 hc eJ e, ?_⟩
  rw [hc.1 (o + 4) x (by omega) (by omega) x1 x2]
  rcases g2 with ⟨a1, a2⟩ | ⟨y, a1, a2, a3, a4⟩
  · exact Or.inl ⟨a1, Nx_cong a2 (Nat.le_refl _) x1 (hc.1 _ _ (by omega) (by omega) x1 x2) e⟩
  · exact Or.inr ⟨y, a1, a2, a3, PN_cong a4 a1 a2 hc e⟩
theorem SQ_nil (I J : zPI) (o : Nat) (G : Nat → Nat → Nat) (p : Int32) (n c : Nat) : SQ I J o G p n n c c := ⟨Nat.le_refl _, Nat.le_refl _, Or.inl ⟨rfl, rfl⟩, fun x h1 h2 => absurd h1 (by omega)⟩
/-- a statement before a row -/
theorem SQ_cons {I J : zPI} {o : Nat} {G : Nat → Nat → Nat} {p : Int32} {n n1 n' c c1 c' : Nat} (hs : ST I J o G p n n1 c c1) (hq : SQ I J o G p n1 n' c1 c') : SQ I J o G p n n' c c' := by
  obtain ⟨h1, h2, h3, h4, h5, h6, h7⟩ := hs
  obtain ⟨g1, g2, g3, g4⟩ := hq
  have hcc : c ≤ c1 := by
    obtain ⟨-, -, -, -, -, -, a5, -⟩ := h6
    omega
  refine ⟨by omega, by omega, Or.inr ⟨by omega, h2⟩, fun x x1 x2 => ?_⟩
  by_cases e : x < n1
  · by_cases e2 : x = n
    · subst e2
      refine ⟨SF_mono h6 (Nat.le_refl _) g2 g1, Or.inl ⟨h5, n1, h4, h1, g1, fun h => ?_, fun h => ?_⟩⟩
      · rcases g3 with ⟨-, q⟩ | ⟨q, -⟩
        · rw [h3]; exact q
        · omega
      · rcases g3 with ⟨q, -⟩ | ⟨-, q⟩
        · omega
        · rw [h3]; exact q
    · obtain ⟨b1, y, b2, b3, b4, b5⟩ := h7 x (by omega) e
      exact ⟨SF_mono b1 (Nat.le_refl _) g2 g1, Or.inr ⟨y, b2, b3, b4, PN_mono b5 g1⟩⟩
  · obtain ⟨b1, b2⟩ := g4 x (by omega) x2
    refine ⟨SF_mono b1 hcc (Nat.le_refl _) (Nat.le_refl _), ?_⟩
    rcases b2 with b2 | ⟨y, b2, b3⟩
    · exact Or.inl b2
    · exact Or.inr ⟨y, by omega, b3⟩
