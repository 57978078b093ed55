/-! ===== 23: long numbers, Euclid ===== -/
theorem lN_ti63 {n : Nat} (h : n < 2 ^ 63) : (lN n).toInt = (n : Int) := Int64.toInt_ofNat_of_lt h
theorem lN_le63 {a b : Nat} (ha : a < 2 ^ 63) (hb : b < 2 ^ 63) : lN a ≤ lN b ↔ a ≤ b := Int64.ofNat_le_iff_le ha hb
theorem lN_lt63 {a b : Nat} (ha : a < 2 ^ 63) (hb : b < 2 ^ 63) : lN a < lN b ↔ a < b := Int64.ofNat_lt_iff_lt ha hb
theorem lN_eq63 {a b : Nat} (ha : a < 2 ^ 63) (hb : b < 2 ^ 63) : lN a = lN b ↔ a = b := by
  rw [← Int64.toInt_inj, lN_ti63 ha, lN_ti63 hb]; omega
theorem lN_z {a : Nat} (ha : a < 2 ^ 63) : lN a = 0 ↔ a = 0 := lN_eq63 ha (b := 0) (by decide)
theorem lN_div63 {a b : Nat} (ha : a < 2 ^ 63) (hb : b < 2 ^ 63) : lN a / lN b = lN (a / b) := (Int64.ofNat_div ha hb).symm
theorem lN_rem {a b : Nat} (ha : a < 2 ^ 63) (hb : b < 2 ^ 63) : lN a - lN a / lN b * lN b = lN (a % b) := by
  rw [lN_div63 ha hb, lN_mul, lN_sub (Nat.div_mul_le_self a b)]
  exact congrArg lN (by have := Nat.div_add_mod' a b; omega)
theorem lN_0a (a : Nat) : 0 + lN a = lN a := Int64.zero_add _
theorem gok_n : ∀ (k a b : Nat), a < 2 ^ 63 → b < 2 ^ 63 → b < 2 ^ k → gok (2 * k) (lN a) (lN b)
  | 0, a, b, _, _, h => by
    have : b = 0 := by simpa using h
    subst this
    rfl
  | k + 1, a, b, ha, hb, h => by
    show gok (2 * k + 1 + 1) (lN a) (lN b)
    by_cases h0 : b = 0
    · subst h0; exact Or.inl rfl
    · refine Or.inr ?_
      rw [lN_rem ha hb]
      have hr : a % b < b := Nat.mod_lt a (by omega)
      by_cases h1 : a % b = 0
      · rw [h1]; exact Or.inl rfl
      · refine Or.inr ?_
        rw [lN_rem hb (by omega)]
        have hr2 : b % (a % b) < a % b := Nat.mod_lt b (by omega)
        have hd := Nat.div_add_mod b (a % b)
        have hq : 1 ≤ b / (a % b) := (Nat.le_div_iff_mul_le (by omega)).mpr (by omega)
        have hm : (a % b) * 1 ≤ (a % b) * (b / (a % b)) := Nat.mul_le_mul_left _ hq
        have hp : 2 ^ (k + 1) = 2 * 2 ^ k := by rw [Nat.pow_succ]; omega
        exact gok_n k (a % b) (b % (a % b)) (by omega) (by omega) (by omega)
theorem gcdL_pos : ∀ (n a b : Nat), 0 < a → a < 2 ^ 63 → b < 2 ^ 63 → ∃ g, gcdL n (lN a) (lN b) = lN g ∧ 0 < g ∧ g < 2 ^ 63
  | 0, a, b, h, ha, _ => ⟨a, rfl, h, ha⟩
  | n + 1, a, b, h, ha, hb => by
    by_cases h0 : b = 0
    · subst h0; exact ⟨a, if_pos rfl, h, ha⟩
    · have e : gcdL (n + 1) (lN a) (lN b) = gcdL n (lN b) (lN a - lN a / lN b * lN b) := if_neg (fun q => h0 ((lN_z hb).mp q))
      rw [e, lN_rem ha hb]
      exact gcdL_pos n b (a % b) (by omega) hb (by have := Nat.mod_lt a (show b > 0 by omega); omega)
/-- a fraction that both sides can bring to lowest terms -/
theorem frac_ok {a b : Nat} (ha : a < 2 ^ 63) (hb : b < 2 ^ 50) (h0 : 0 < b) : (0 : Int64) ≤ lN a ∧ gok 100 (lN a) (lN b) ∧ ¬ gcdL 100 (lN a) (lN b) = 0 ∧ 1 ≤ gcdL 100 (lN a) (lN b) := by
  refine ⟨(lN_le63 (a := 0) (by decide) ha).mpr (Nat.zero_le a), gok_n 50 a b ha (by omega) hb, ?_⟩
  have e : gcdL 100 (lN a) (lN b) = gcdL 99 (lN b) (lN a - lN a / lN b * lN b) := if_neg (fun q => by have := (lN_z (by omega)).mp q; omega)
  rw [e, lN_rem ha (by omega)]
  obtain ⟨g, e2, h1, h2⟩ := gcdL_pos 99 b (a % b) h0 (by omega) (by have := Nat.mod_lt a h0; omega)
  rw [e2]
  exact ⟨fun q => by have := (lN_z h2).mp q; omega, (lN_le63 (a := 1) (by decide) h2).mpr h1⟩
