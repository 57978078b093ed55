/-! ===== 16: the order of the bin ===== -/
theorem nI_inj {a b : Nat} (ha : a < 2 ^ 31) (hb : b < 2 ^ 31) (h : nI a = nI b) : a = b := (nI_eq ha hb).mp h
theorem cntP_0 {P : Nat → Prop} [DecidablePred P] : ∀ n : Nat, cntP P n = 0 ↔ ∀ q, q < n → ¬ P q
  | 0 => ⟨fun _ q h => absurd h (Nat.not_lt_zero q), fun _ => rfl⟩
  | n + 1 => by
    have ih := cntP_0 (P := P) n
    unfold cntP
    by_cases h : P n
    · rw [if_pos h]
      exact ⟨fun q => by omega, fun q => absurd h (q n (by omega))⟩
    · rw [if_neg h, ih]
      refine ⟨fun q a ha => ?_, fun q a ha => q a (by omega)⟩
      by_cases e : a = n
      · rw [e]; exact h
      · exact q a (by omega)
theorem cntP_le {P : Nat → Prop} [DecidablePred P] : ∀ n : Nat, cntP P n ≤ n
  | 0 => Nat.le_refl 0
  | n + 1 => by
    have ih := cntP_le (P := P) n
    unfold cntP
    split <;> omega
theorem cntP_congr {P R : Nat → Prop} [DecidablePred P] [DecidablePred R] : ∀ n : Nat, (∀ q, q < n → (P q ↔ R q)) → cntP P n = cntP R n
  | 0, _ => rfl
  | n + 1, h => by
    have ih := cntP_congr (P := P) (R := R) n (fun q hq => h q (by omega))
    unfold cntP
    by_cases hp : P n
    · rw [if_pos hp, if_pos ((h n (by omega)).mp hp), ih]
    · rw [if_neg hp, if_neg (fun q => hp ((h n (by omega)).mpr q)), ih]
theorem fndP_congr {P R : Nat → Prop} [DecidablePred P] [DecidablePred R] : ∀ n i : Nat, (∀ q, i ≤ q → q < i + n → (P q ↔ R q)) → fndP P n i = fndP R n i
  | 0, _, _ => rfl
  | n + 1, i, h => by
    have ih := fndP_congr (P := P) (R := R) n (i + 1) (fun q h1 h2 => h q (by omega) (by omega))
    unfold fndP
    by_cases hp : P i
    · rw [if_pos hp, if_pos ((h i (by omega) (by omega)).mp hp)]
    · rw [if_neg hp, if_neg (fun q => hp ((h i (by omega) (by omega)).mpr q)), ih]
theorem fndP_some {P : Nat → Prop} [DecidablePred P] : ∀ n i j : Nat, i ≤ j → j < i + n → P j → (∀ q, i ≤ q → q < i + n → P q → q = j) → fndP P n i = some j
  | 0, i, j, h1, h2, _, _ => by omega
  | n + 1, i, j, h1, h2, h3, h4 => by
    unfold fndP
    by_cases hp : P i
    · rw [if_pos hp, h4 i (by omega) (by omega) hp]
    · rw [if_neg hp]
      have : i ≠ j := fun e => hp (e ▸ h3)
      exact fndP_some n (i + 1) j (by omega) (by omega) h3 (fun q a b => h4 q (by omega) (by omega))
theorem fndP_none {P : Nat → Prop} [DecidablePred P] : ∀ n i : Nat, (∀ q, i ≤ q → q < i + n → ¬ P q) → fndP P n i = none
  | 0, _, _ => rfl
  | n + 1, i, h => by
    unfold fndP
    rw [if_neg (h i (by omega) (by omega))]
    exact fndP_none n (i + 1) (fun q a b => h q (by omega) (by omega))
/-- a key that grows with what the rule looks at -/
def kN (r : Nat) (m0 m1 m2 m3 : Nat) : Nat := if r = 1 then m0 + m1 + m2 + m3 else if r = 2 then ((m0 * 1000 + m1) * 1000 + m2) * 1000 + m3 else 0
theorem nI_sub_pos {a b : Nat} (ha : a < 2 ^ 30) (hb : b < 2 ^ 30) : (0 < nI a - nI b) ↔ b < a := by
  rw [Int32.lt_iff_toInt_lt, pk_sub_toInt ha hb]
  simp only [Int32.toInt_zero]
  omega
theorem nI_sub_zero {a b : Nat} (ha : a < 2 ^ 30) (hb : b < 2 ^ 30) : (nI a - nI b = 0) ↔ a = b := by
  rw [← Int32.toInt_inj, pk_sub_toInt ha hb]
  simp only [Int32.toInt_zero]
  omega
/-- the masses of a lot are these numbers -/
def MsN (m : Nat → Int32) (a b c d : Nat) : Prop := m 0 = nI a ∧ m 1 = nI b ∧ m 2 = nI c ∧ m 3 = nI d ∧ a + b + c + d ≤ 800
theorem sum4_n {m : Nat → Int32} {a b c d : Nat} (h : MsN m a b c d) : sum4 m = nI (a + b + c + d) := by
  unfold sum4
  rw [h.1, h.2.1, h.2.2.1, h.2.2.2.1, Int32.zero_add, nI_add, nI_add, nI_add]
theorem dif_key {r : Nat} {m m' : Nat → Int32} {a b c d a' b' c' d' : Nat} (hr : r ≤ 2) (h : MsN m a b c d) (h' : MsN m' a' b' c' d') :
    (dif (nI r) m m' = 0 ↔ kN r a b c d = kN r a' b' c' d') ∧ (0 < dif (nI r) m m' ↔ kN r a' b' c' d' < kN r a b c d) := by
  have s := h.2.2.2.2
  have s' := h'.2.2.2.2
  rcases (show r = 0 ∨ r = 1 ∨ r = 2 by omega) with rfl | rfl | rfl
  · unfold dif kN
    rw [if_neg (by decide), if_neg (by decide)]
    simp
  · unfold dif kN
    rw [if_pos (by decide), sum4_n h, sum4_n h', nI_sub_zero (by omega) (by omega), nI_sub_pos (by omega) (by omega)]
    simp
  · unfold dif kN crs
    rw [if_neg (by decide), if_pos (by decide), h.1, h.2.1, h.2.2.1, h.2.2.2.1, h'.1, h'.2.1, h'.2.2.1, h'.2.2.2.1]
    simp only [nI_eq (show a < 2 ^ 31 by omega) (show a' < 2 ^ 31 by omega), nI_eq (show b < 2 ^ 31 by omega) (show b' < 2 ^ 31 by omega), nI_eq (show c < 2 ^ 31 by omega) (show c' < 2 ^ 31 by omega), nI_eq (show d < 2 ^ 31 by omega) (show d' < 2 ^ 31 by omega)]
    have e2 : ¬ (2 : Nat) = 1 := by omega
    simp only [if_neg e2, if_true]
    by_cases q0 : a = a'
    · rw [if_pos q0]
      by_cases q1 : b = b'
      · rw [if_pos q1]
        by_cases q2 : c = c'
        · rw [if_pos q2]
          by_cases q3 : d = d'
          · rw [if_pos q3]
            subst q0 q1 q2 q3
            simp
          · rw [if_neg q3, nI_sub_zero (by omega) (by omega), nI_sub_pos (by omega) (by omega)]
            subst q0 q1 q2
            omega
        · rw [if_neg q2, nI_sub_zero (by omega) (by omega), nI_sub_pos (by omega) (by omega)]
          subst q0 q1
          omega
      · rw [if_neg q1, nI_sub_zero (by omega) (by omega), nI_sub_pos (by omega) (by omega)]
        subst q0
        omega
    · rw [if_neg q0, nI_sub_zero (by omega) (by omega), nI_sub_pos (by omega) (by omega)]
      omega
theorem bef_key {r : Nat} {m m' : Nat → Int32} {a b c d a' b' c' d' u u' : Nat} (hr : r ≤ 2) (h : MsN m a b c d) (h' : MsN m' a' b' c' d') (hu : u < 2 ^ 31) (hu' : u' < 2 ^ 31) :
    bef (nI r) m (nI u) m' (nI u') ↔ (kN r a' b' c' d' < kN r a b c d ∨ (kN r a b c d = kN r a' b' c' d' ∧ u < u')) := by
  obtain ⟨k1, k2⟩ := dif_key hr h h'
  by_cases q : dif (nI r) m m' = 0
  · unfold bef
    rw [if_pos q, nI_ltI hu hu']
    have q' := k1.mp q
    omega
  · unfold bef
    rw [if_neg q, k2]
    have q' := mt k1.mpr q
    omega
/-- what the search for the first of the bin finds, if 'before' is a strict order of the bin's lots by a key -/
theorem fstN_spec {B : Nat → Prop} {R : Nat → Nat → Prop} [DecidablePred B] [∀ a b, Decidable (R a b)] {lt : Nat → Nat → Prop} : ∀ n : Nat, (∀ i j, i < n → j < n → B i → B j → (R i j ↔ lt i j)) → (∀ i j k, lt i j → lt j k → lt i k) → (∀ i j, i < n → j < n → B i → B j → i ≠ j → lt i j ∨ lt j i) →
    (fstN B R n = none ∧ ∀ q, q < n → ¬ B q) ∨ ∃ j, fstN B R n = some j ∧ j < n ∧ B j ∧ ∀ q, q < n → B q → q ≠ j → lt j q
  | 0, _, _, _ => Or.inl ⟨rfl, fun q h => absurd h (Nat.not_lt_zero q)⟩
  | n + 1, hR, hT, hC => by
    have ih := fstN_spec (B := B) (R := R) (lt := lt) n (fun i j a b => hR i j (by omega) (by omega)) hT (fun i j a b => hC i j (by omega) (by omega))
    unfold fstN
    rcases ih with ⟨e, h⟩ | ⟨j, e, hj, hB, h⟩
    · rw [e]
      dsimp only
      by_cases hb : B n
      · rw [if_pos hb]
        refine Or.inr ⟨n, rfl, by omega, hb, fun q hq hq2 hne => absurd hq2 (h q (by omega))⟩
      · rw [if_neg hb]
        refine Or.inl ⟨rfl, fun q hq => ?_⟩
        by_cases e2 : q = n
        · rw [e2]; exact hb
        · exact h q (by omega)
    · rw [e]
      dsimp only
      by_cases hb : B n
      · rw [if_pos hb]
        by_cases hr : R n j
        · rw [if_pos hr]
          have hl := (hR n j (by omega) (by omega) hb hB).mp hr
          refine Or.inr ⟨n, rfl, by omega, hb, fun q hq hq2 hne => ?_⟩
          by_cases e2 : q = j
          · rw [e2]; exact hl
          · exact hT n j q hl (h q (by omega) hq2 e2)
        · rw [if_neg hr]
          refine Or.inr ⟨j, rfl, by omega, hB, fun q hq hq2 hne => ?_⟩
          by_cases e2 : q = n
          · rw [e2]
            rcases hC j n (by omega) (by omega) hB hb (by omega) with z | z
            · exact z
            · exact absurd ((hR n j (by omega) (by omega) hb hB).mpr z) hr
          · exact h q (by omega) hq2 hne
      · rw [if_neg hb]
        refine Or.inr ⟨j, rfl, by omega, hB, fun q hq hq2 hne => ?_⟩
        by_cases e2 : q = n
        · rw [e2] at hq2; exact absurd hq2 hb
        · exact h q (by omega) hq2 hne
