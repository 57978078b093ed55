/-! ===== 19: the relation of the two sides: f is the class's plant in the places of the first one, A the reference's row ===== -/
/-- one lot, made: its masses are the same numbers, its state is the same, what counts in that state is the same -/
def LotR (f : SX) (A : Nat → Int32) (tl th r i : Nat) : Prop :=
  (∃ a b c d : Nat, MsN (f (15 + 2 * i)) a b c d ∧ A (41 + 8 * i + 0) = nI a ∧ A (41 + 8 * i + 1) = nI b ∧ A (41 + 8 * i + 2) = nI c ∧ A (41 + 8 * i + 3) = nI d ∧
    ((A (41 + 8 * i + 4) = 0 ∧ f (14 + 2 * i) 1 = 0 ∧ 0 < a + b + c + d ∧ ∃ w : Nat, f (14 + 2 * i) 2 = nI w ∧ A (41 + 8 * i + 6) = nI w ∧ tl < w ∧ w ≤ th) ∨
     (A (41 + 8 * i + 4) = 1 ∧ f (14 + 2 * i) 1 = 1 ∧ 0 < a + b + c + d ∧ ∃ u : Nat, f (14 + 2 * i) 3 = nI u ∧ A (41 + 8 * i + 5) = nI u ∧ u < r) ∨
     (A (41 + 8 * i + 4) = 2 ∧ f (14 + 2 * i) 1 = 2 ∧ 0 < a + b + c + d) ∨
     (A (41 + 8 * i + 4) = 3 ∧ f (14 + 2 * i) 1 = 3))) ∧ f (14 + 2 * i) 4 = A (41 + 8 * i + 7)
def LotsR (f : SX) (A : Nat → Int32) (cnt : Nat) (tl : Nat → Nat) (th r : Nat) : Prop :=
  (∀ i, i < cnt → LotR f A (tl i) th r i) ∧ ∀ i j, i < cnt → j < cnt → i ≠ j → A (41 + 8 * i + 4) = 1 → A (41 + 8 * j + 4) = 1 → A (41 + 8 * i + 5) ≠ A (41 + 8 * j + 5)
/-- the settings: the same, and in their ranges -/
def SetR (f : SX) (A : Nat → Int32) : Prop :=
  (∀ i j, i < 4 → j < 4 → f (4 + i) j = A (4 * i + j)) ∧ (∀ j, j < 4 → f 8 j = A (16 + j)) ∧ (∀ j, j < 4 → f 9 j = A (20 + j)) ∧ (∀ j, j < 4 → f 10 j = A (24 + j)) ∧ f 2 4 = A 28 ∧ f 2 5 = A 29 ∧
  (∃ s : Nat → Nat → Nat, (∀ i j, i < 4 → j < 4 → A (4 * i + j) = nI (s i j)) ∧ (∀ i, i < 4 → s i 0 + s i 1 + s i 2 + s i 3 = 10) ∧ ∀ i j, j < i → s i j = 0) ∧
  (∀ j, j < 4 → ∃ n, n ≤ 10 ∧ A (16 + j) = nI n) ∧ (∀ j, j < 4 → ∃ n, n ≤ 100 ∧ A (20 + j) = nI n) ∧ (∀ j, j < 4 → ∃ n, n ≤ 1000 ∧ A (24 + j) = nI n) ∧ (∃ n, 1 ≤ n ∧ n ≤ 100 ∧ A 28 = nI n) ∧ ∃ n, n ≤ 2 ∧ A 29 = nI n
/-- counters and sums -/
def ScaR (f : SX) (A : Nat → Int32) (cnt r : Nat) : Prop :=
  f 11 2 = nI cnt ∧ A 31 = nI cnt ∧ cnt ≤ 40 ∧ f 11 4 = nI r ∧ A 34 = nI r ∧ f 11 7 = A 32 ∧ f 11 8 = A 33 ∧ ∀ j, j < 4 → f 13 j = A (37 + j)
def Core (f : SX) (A : Nat → Int32) (cnt : Nat) (tl : Nat → Nat) (th r : Nat) : Prop := SetR f A ∧ ScaR f A cnt r ∧ LotsR f A cnt tl th r
def IdleR (f : SX) (A : Nat → Int32) : Prop := f 11 5 = (-1) ∧ A 35 = (-7)
def BusyR (f : SX) (A : Nat → Int32) (cnt tl uh g u : Nat) : Prop := g < cnt ∧ f 11 5 = nI g ∧ A 35 = nI g ∧ f 11 6 = nI u ∧ A 36 = nI u ∧ tl < u ∧ u ≤ uh
def RelP (f : SX) (A : Nat → Int32) (b : Nat) : Prop :=
  ∃ cnt t r : Nat, Core f A cnt (fun _ => t) (t + 1000) r ∧ f 11 3 = nI t ∧ A 30 = nI t ∧ t ≤ 500 * b ∧ r ≤ 20500 * b ∧ ((IdleR f A ∧ ∀ i, i < cnt → A (41 + 8 * i + 4) ≠ 1) ∨ ∃ g u, BusyR f A cnt t (t + 801) g u)
theorem LotR.weak {f : SX} {A : Nat → Int32} {tl tl' th th' r r' i : Nat} (h : LotR f A tl th r i) (h1 : tl' ≤ tl) (h2 : th ≤ th') (h3 : r ≤ r') : LotR f A tl' th' r' i := by
  obtain ⟨⟨a, b, c, d, g1, g2, g3, g4, g5, g6⟩, g7⟩ := h
  refine ⟨⟨a, b, c, d, g1, g2, g3, g4, g5, ?_⟩, g7⟩
  rcases g6 with ⟨x1, x2, x0, w, x3, x4, x5, x6⟩ | ⟨x1, x2, x3, u, x4, x5, x6⟩ | x | x
  · exact Or.inl ⟨x1, x2, x0, w, x3, x4, by omega, by omega⟩
  · exact Or.inr (Or.inl ⟨x1, x2, x3, u, x4, x5, by omega⟩)
  · exact Or.inr (Or.inr (Or.inl x))
  · exact Or.inr (Or.inr (Or.inr x))
/-- a lot whose cells are as they were -/
theorem LotR.same {f f' : SX} {A A' : Nat → Int32} {tl th r i : Nat} (h : LotR f A tl th r i) (e1 : ∀ j, j < 4 → f' (15 + 2 * i) j = f (15 + 2 * i) j) (e2 : ∀ j, 1 ≤ j → j ≤ 4 → f' (14 + 2 * i) j = f (14 + 2 * i) j) (e3 : ∀ j, j < 8 → A' (41 + 8 * i + j) = A (41 + 8 * i + j)) : LotR f' A' tl th r i := by
  obtain ⟨⟨a, b, c, d, g1, g2, g3, g4, g5, g6⟩, g7⟩ := h
  have hm : MsN (f' (15 + 2 * i)) a b c d := by
    unfold MsN
    rw [e1 0 (by decide), e1 1 (by decide), e1 2 (by decide), e1 3 (by decide)]
    exact g1
  refine ⟨⟨a, b, c, d, hm, ?_⟩, ?_⟩
  · rw [e3 0 (by decide), e3 1 (by decide), e3 2 (by decide), e3 3 (by decide), e3 4 (by decide), e3 5 (by decide), e3 6 (by decide), e2 1 (by decide) (by decide), e2 2 (by decide) (by decide), e2 3 (by decide) (by decide)]
    exact ⟨g2, g3, g4, g5, g6⟩
  · rw [e2 4 (by decide) (by decide), e3 7 (by decide)]
    exact g7
theorem SetR.same {f f' : SX} {A A' : Nat → Int32} (h : SetR f A) (e1 : ∀ k j, 4 ≤ k → k ≤ 10 → j < 4 → f' k j = f k j) (e2 : f' 2 4 = f 2 4) (e3 : f' 2 5 = f 2 5) (e4 : ∀ j, j < 30 → A' j = A j) : SetR f' A' := by
  obtain ⟨h1, h2, h3, h4, h5, h6, ⟨s, h7, h8, h9⟩, h10, h11, h12, h13, h14⟩ := h
  refine ⟨fun i j hi hj => ?_, fun j hj => ?_, fun j hj => ?_, fun j hj => ?_, ?_, ?_, ⟨s, fun i j hi hj => ?_, h8, h9⟩, fun j hj => ?_, fun j hj => ?_, fun j hj => ?_, ?_, ?_⟩
  · rw [e1 _ _ (by omega) (by omega) hj, e4 _ (by omega)]; exact h1 i j hi hj
  · rw [e1 _ _ (by omega) (by omega) hj, e4 _ (by omega)]; exact h2 j hj
  · rw [e1 _ _ (by omega) (by omega) hj, e4 _ (by omega)]; exact h3 j hj
  · rw [e1 _ _ (by omega) (by omega) hj, e4 _ (by omega)]; exact h4 j hj
  · rw [e2, e4 _ (by omega)]; exact h5
  · rw [e3, e4 _ (by omega)]; exact h6
  · rw [e4 _ (by omega)]; exact h7 i j hi hj
  · rw [e4 _ (by omega)]; exact h10 j hj
  · rw [e4 _ (by omega)]; exact h11 j hj
  · rw [e4 _ (by omega)]; exact h12 j hj
  · rw [e4 _ (by omega)]; exact h13
  · rw [e4 _ (by omega)]; exact h14
theorem LotsR.same {f f' : SX} {A A' : Nat → Int32} {cnt th r : Nat} {tl : Nat → Nat} (h : LotsR f A cnt tl th r) (e1 : ∀ i j, i < cnt → j < 4 → f' (15 + 2 * i) j = f (15 + 2 * i) j) (e2 : ∀ i j, i < cnt → 1 ≤ j → j ≤ 4 → f' (14 + 2 * i) j = f (14 + 2 * i) j) (e3 : ∀ i j, i < cnt → j < 8 → A' (41 + 8 * i + j) = A (41 + 8 * i + j)) : LotsR f' A' cnt tl th r := by
  refine ⟨fun i hi => (h.1 i hi).same (fun j => e1 i j hi) (fun j => e2 i j hi) (fun j => e3 i j hi), fun i j hi hj => ?_⟩
  rw [e3 i 4 hi (by decide), e3 j 4 hj (by decide), e3 i 5 hi (by decide), e3 j 5 hj (by decide)]
  exact h.2 i j hi hj
theorem ScaR.same {f f' : SX} {A A' : Nat → Int32} {cnt r : Nat} (h : ScaR f A cnt r) (e1 : f' 11 2 = f 11 2) (e2 : f' 11 4 = f 11 4) (e3 : f' 11 7 = f 11 7) (e4 : f' 11 8 = f 11 8) (e5 : ∀ j, j < 4 → f' 13 j = f 13 j) (e6 : ∀ j, 31 ≤ j → j < 35 → A' j = A j) (e7 : ∀ j, j < 4 → A' (37 + j) = A (37 + j)) : ScaR f' A' cnt r := by
  unfold ScaR
  rw [e1, e2, e3, e4, e6 31 (by decide) (by decide), e6 32 (by decide) (by decide), e6 33 (by decide) (by decide), e6 34 (by decide) (by decide)]
  refine ⟨h.1, h.2.1, h.2.2.1, h.2.2.2.1, h.2.2.2.2.1, h.2.2.2.2.2.1, h.2.2.2.2.2.2.1, fun j hj => ?_⟩
  rw [e5 j hj, e7 j hj]
  exact h.2.2.2.2.2.2.2 j hj
theorem RelP.mono {f : SX} {A : Nat → Int32} {b b' : Nat} (h : RelP f A b) (hb : b ≤ b') : RelP f A b' := by
  obtain ⟨cnt, t, r, g1, g2, g3, g4, g5, g6⟩ := h
  exact ⟨cnt, t, r, g1, g2, g3, by omega, by omega, g6⟩
/-- the relation looks at these cells alone -/
theorem RelP.same {f f' : SX} {A A' : Nat → Int32} {b : Nat} (h : RelP f A b) (hA : ∀ j, j < 361 → A' j = A j)
    (hf : ∀ cnt : Nat, f 11 2 = nI cnt → cnt ≤ 40 → (∀ k j, 4 ≤ k → k ≤ 10 → j < 4 → f' k j = f k j) ∧ f' 2 4 = f 2 4 ∧ f' 2 5 = f 2 5 ∧ (∀ j, 2 ≤ j → j ≤ 8 → f' 11 j = f 11 j) ∧ (∀ j, j < 4 → f' 13 j = f 13 j) ∧ (∀ i j, i < cnt → j < 4 → f' (15 + 2 * i) j = f (15 + 2 * i) j) ∧ ∀ i j, i < cnt → 1 ≤ j → j ≤ 4 → f' (14 + 2 * i) j = f (14 + 2 * i) j) : RelP f' A' b := by
  obtain ⟨cnt, t, r, ⟨g1, g2, g3⟩, g4, g5, g6, g7, g8⟩ := h
  have h40 := g2.2.2.1
  obtain ⟨q1, q2, q3, q4, q5, q6, q7⟩ := hf cnt g2.1 h40
  refine ⟨cnt, t, r, ⟨g1.same q1 q2 q3 (fun j hj => hA j (by omega)), g2.same (q4 2 (by decide) (by decide)) (q4 4 (by decide) (by decide)) (q4 7 (by decide) (by decide)) (q4 8 (by decide) (by decide)) q5 (fun j _ h2 => hA j (by omega)) (fun j h2 => hA _ (by omega)), g3.same q6 q7 (fun i j hi hj => hA _ (by omega))⟩, ?_, ?_, g6, g7, ?_⟩
  · rw [q4 3 (by decide) (by decide)]; exact g4
  · rw [hA 30 (by decide)]; exact g5
  · unfold IdleR BusyR
    rw [q4 5 (by decide) (by decide), q4 6 (by decide) (by decide), hA 35 (by decide), hA 36 (by decide)]
    rcases g8 with ⟨z1, z2⟩ | z
    · exact Or.inl ⟨z1, fun i hi => by rw [hA _ (by omega)]; exact z2 i hi⟩
    · exact Or.inr z
/-! one lot put anew -/
theorem LotsR.upd1 {f f' : SX} {A A' : Nat → Int32} {cnt th r r' g : Nat} {tl tl' : Nat → Nat} (h : LotsR f A cnt tl th r) (hr : r ≤ r') (htl : ∀ i, i < cnt → i ≠ g → tl' i ≤ tl i)
    (e1 : ∀ i j, i < cnt → i ≠ g → j < 4 → f' (15 + 2 * i) j = f (15 + 2 * i) j) (e2 : ∀ i j, i < cnt → i ≠ g → 1 ≤ j → j ≤ 4 → f' (14 + 2 * i) j = f (14 + 2 * i) j) (e3 : ∀ i j, i < cnt → i ≠ g → j < 8 → A' (41 + 8 * i + j) = A (41 + 8 * i + j))
    (hg : LotR f' A' (tl' g) th r' g) (hd : A' (41 + 8 * g + 4) = 1 → ∃ u, A' (41 + 8 * g + 5) = nI u ∧ r ≤ u ∧ u < 2 ^ 31) (hr31 : r < 2 ^ 31) : LotsR f' A' cnt tl' th r' := by
  have hu : ∀ i, i < cnt → i ≠ g → A' (41 + 8 * i + 4) = 1 → ∃ u, A' (41 + 8 * i + 5) = nI u ∧ u < r := by
    intro i hi hne h1
    rw [e3 i 4 hi hne (by decide)] at h1
    rw [e3 i 5 hi hne (by decide)]
    obtain ⟨⟨a, b, c, d, g1, g2, g3, g4, g5, g6⟩, g7⟩ := h.1 i hi
    rcases g6 with ⟨x1, -⟩ | ⟨x1, x2, x3, u, x4, x5, x6⟩ | ⟨x1, -⟩ | ⟨x1, -⟩
    · rw [h1] at x1; exact absurd x1 (by decide)
    · exact ⟨u, x5, x6⟩
    · rw [h1] at x1; exact absurd x1 (by decide)
    · rw [h1] at x1; exact absurd x1 (by decide)
  refine ⟨fun i hi => ?_, fun i j hi hj hne hi1 hj1 => ?_⟩
  · by_cases e : i = g
    · rw [e]; exact hg
    · exact ((h.1 i hi).same (fun j => e1 i j hi e) (fun j => e2 i j hi e) (fun j => e3 i j hi e)).weak (htl i hi e) (Nat.le_refl _) hr
  · by_cases e : i = g
    · subst e
      obtain ⟨u, k1, k2, k3⟩ := hd hi1
      obtain ⟨v, k4, k5⟩ := hu j hj (Ne.symm hne) hj1
      rw [k1, k4]
      exact fun q => by have := nI_inj k3 (by omega) q; omega
    · by_cases e' : j = g
      · subst e'
        obtain ⟨u, k1, k2, k3⟩ := hd hj1
        obtain ⟨v, k4, k5⟩ := hu i hi hne hi1
        rw [k1, k4]
        exact fun q => by have := nI_inj (by omega) k3 q; omega
      · rw [e3 i 4 hi e (by decide)] at hi1
        rw [e3 j 4 hj e' (by decide)] at hj1
        rw [e3 i 5 hi e (by decide), e3 j 5 hj e' (by decide)]
        exact h.2 i j hi hj hne hi1 hj1
