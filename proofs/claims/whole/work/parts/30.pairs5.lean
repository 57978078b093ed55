/-! ===== 30: save and restore ===== -/
theorem cl_1_95_m {X : SX} {i j : Nat} (hj : j < 4) : ∀ n : Nat, n ≤ 40 → i < n → cl_1_95 X n (15 + 2 * i) j = X (109 + 2 * i) j
  | 0, _, h => absurd h (Nat.not_lt_zero i)
  | n + 1, hn, h => by
    show lc_14_108_X (cl_1_95 X n) n (15 + 2 * i) j = X (109 + 2 * i) j
    by_cases q : i = n
    · subst q
      unfold lc_14_108_X
      rw [sx_o (by omega), sx_o (by omega), sx_o (by omega), sx_o (by omega), cx_in hj, cl_1_95_o i (by omega) (by omega)]
    · rw [lc_14_108_X_o (by omega) (by omega)]
      exact cl_1_95_m hj n (by omega) (by omega)
theorem cl_1_95_l {X : SX} {i j : Nat} (hj : 1 ≤ j) (hj4 : j ≤ 4) : ∀ n : Nat, n ≤ 40 → i < n → cl_1_95 X n (14 + 2 * i) j = X (108 + 2 * i) j
  | 0, _, h => absurd h (Nat.not_lt_zero i)
  | n + 1, hn, h => by
    show lc_14_108_X (cl_1_95 X n) n (14 + 2 * i) j = X (108 + 2 * i) j
    by_cases q : i = n
    · subst q
      unfold lc_14_108_X
      rcases (show j = 1 ∨ j = 2 ∨ j = 3 ∨ j = 4 by omega) with rfl | rfl | rfl | rfl
      · rw [sx_o (by omega), sx_o (by omega), sx_o (by omega), sx_e, cl_1_95_o i (by omega) (by omega)]
      · rw [sx_o (by omega), sx_o (by omega), sx_e, cl_1_95_o i (by omega) (by omega)]
      · rw [sx_o (by omega), sx_e, cl_1_95_o i (by omega) (by omega)]
      · rw [sx_e, cl_1_95_o i (by omega) (by omega)]
    · rw [lc_14_108_X_o (by omega) (by omega)]
      exact cl_1_95_l hj hj4 n (by omega) (by omega)
theorem si_1_95_o {X : SX} {cnt k j : Nat} (h40 : cnt ≤ 40) (h1 : k ≠ 11) (h2 : k ≠ 13) (h : k < 14 ∨ 14 + 2 * cnt ≤ k) : si_1_95_X X cnt k j = X k j := by
  unfold si_1_95_X
  rw [sx_o (by omega), sx_o (by omega), sx_o (by omega), sx_o (by omega), sx_o (by omega), sx_o (by omega), sx_o (by omega), cx_o h2, cl_1_95_o cnt h40 h]
theorem pc_1_95_o {X : SX} {cnt k j : Nat} (h40 : cnt ≤ 40) (h : k < 1 ∨ 93 < k) : pc_1_95_X X cnt k j = X k j := by
  unfold pc_1_95_X
  rw [si_1_95_o h40 (by omega) (by omega) (by omega), se_1_95_X_o (by omega)]
theorem pc_1_95_c {X : SX} {cnt : Nat} (h40 : cnt ≤ 40) (hc : X 105 2 = nI cnt) : (∀ k j, 4 ≤ k → k ≤ 10 → j < 4 → pc_1_95_X X cnt (k + 0) j = X (k + 94) j) ∧ pc_1_95_X X cnt 2 4 = X 96 4 ∧ pc_1_95_X X cnt 2 5 = X 96 5 ∧ (∀ j, 2 ≤ j → j ≤ 8 → pc_1_95_X X cnt 11 j = X 105 j) ∧ (∀ j, j < 4 → pc_1_95_X X cnt 13 j = X 107 j) ∧ (∀ i j, i < cnt → j < 4 → pc_1_95_X X cnt (15 + 2 * i) j = X (109 + 2 * i) j) ∧ ∀ i j, i < cnt → 1 ≤ j → j ≤ 4 → pc_1_95_X X cnt (14 + 2 * i) j = X (108 + 2 * i) j := by
  unfold pc_1_95_X
  refine ⟨fun k j h1 h2 hj => ?_, ?_, ?_, fun j h1 h2 => ?_, fun j hj => ?_, fun i j hi hj => ?_, fun i j hi h1 h2 => ?_⟩
  · rw [si_1_95_o h40 (by omega) (by omega) (by omega)]
    unfold se_1_95_X
    rcases (show k = 4 ∨ k = 5 ∨ k = 6 ∨ k = 7 ∨ k = 8 ∨ k = 9 ∨ k = 10 by omega) with rfl | rfl | rfl | rfl | rfl | rfl | rfl
    · show _ = X 98 j
      rw [show 4 + 0 = 4 from rfl, sx_o (by omega), sx_o (by omega), cx_o (by omega), cx_o (by omega), cx_o (by omega), cx_o (by omega), cx_o (by omega), cx_o (by omega), cx_in hj]
    · show _ = X 99 j
      rw [show 5 + 0 = 5 from rfl, sx_o (by omega), sx_o (by omega), cx_o (by omega), cx_o (by omega), cx_o (by omega), cx_o (by omega), cx_o (by omega), cx_in hj, cx_o (by omega)]
    · show _ = X 100 j
      rw [show 6 + 0 = 6 from rfl, sx_o (by omega), sx_o (by omega), cx_o (by omega), cx_o (by omega), cx_o (by omega), cx_o (by omega), cx_in hj, cx_o (by omega), cx_o (by omega)]
    · show _ = X 101 j
      rw [show 7 + 0 = 7 from rfl, sx_o (by omega), sx_o (by omega), cx_o (by omega), cx_o (by omega), cx_o (by omega), cx_in hj, cx_o (by omega), cx_o (by omega), cx_o (by omega)]
    · show _ = X 102 j
      rw [show 8 + 0 = 8 from rfl, sx_o (by omega), sx_o (by omega), cx_o (by omega), cx_o (by omega), cx_in hj, cx_o (by omega), cx_o (by omega), cx_o (by omega), cx_o (by omega)]
    · show _ = X 103 j
      rw [show 9 + 0 = 9 from rfl, sx_o (by omega), sx_o (by omega), cx_o (by omega), cx_in hj, cx_o (by omega), cx_o (by omega), cx_o (by omega), cx_o (by omega), cx_o (by omega)]
    · show _ = X 104 j
      rw [show 10 + 0 = 10 from rfl, sx_o (by omega), sx_o (by omega), cx_in hj, cx_o (by omega), cx_o (by omega), cx_o (by omega), cx_o (by omega), cx_o (by omega), cx_o (by omega)]
  · rw [si_1_95_o h40 (by omega) (by omega) (by omega)]
    unfold se_1_95_X
    rw [sx_o (by omega), sx_e]
  · rw [si_1_95_o h40 (by omega) (by omega) (by omega)]
    unfold se_1_95_X
    rw [sx_e]
  · unfold si_1_95_X
    rcases (show j = 2 ∨ j = 3 ∨ j = 4 ∨ j = 5 ∨ j = 6 ∨ j = 7 ∨ j = 8 by omega) with rfl | rfl | rfl | rfl | rfl | rfl | rfl
    · rw [sx_o (by omega), sx_o (by omega), sx_o (by omega), sx_o (by omega), sx_o (by omega), sx_o (by omega), sx_e, hc]
    · rw [sx_o (by omega), sx_o (by omega), sx_o (by omega), sx_o (by omega), sx_o (by omega), sx_e, se_1_95_X_o (by omega)]
    · rw [sx_o (by omega), sx_o (by omega), sx_o (by omega), sx_o (by omega), sx_e, se_1_95_X_o (by omega)]
    · rw [sx_o (by omega), sx_o (by omega), sx_o (by omega), sx_e, se_1_95_X_o (by omega)]
    · rw [sx_o (by omega), sx_o (by omega), sx_e, se_1_95_X_o (by omega)]
    · rw [sx_o (by omega), sx_e, se_1_95_X_o (by omega)]
    · rw [sx_e, se_1_95_X_o (by omega)]
  · unfold si_1_95_X
    rw [sx_o (by omega), sx_o (by omega), sx_o (by omega), sx_o (by omega), sx_o (by omega), sx_o (by omega), sx_o (by omega), cx_in hj, cl_1_95_o cnt h40 (by omega), se_1_95_X_o (by omega)]
  · unfold si_1_95_X
    rw [sx_o (by omega), sx_o (by omega), sx_o (by omega), sx_o (by omega), sx_o (by omega), sx_o (by omega), sx_o (by omega), cx_o (by omega), cl_1_95_m hj cnt h40 hi, se_1_95_X_o (by omega)]
  · unfold si_1_95_X
    rw [sx_o (by omega), sx_o (by omega), sx_o (by omega), sx_o (by omega), sx_o (by omega), sx_o (by omega), sx_o (by omega), cx_o (by omega), cl_1_95_l h1 h2 cnt h40 hi, se_1_95_X_o (by omega)]
theorem cl_1_188_m {X : SX} {i j : Nat} (hj : j < 4) : ∀ n : Nat, n ≤ 40 → i < n → cl_1_188 X n (15 + 2 * i) j = X (202 + 2 * i) j
  | 0, _, h => absurd h (Nat.not_lt_zero i)
  | n + 1, hn, h => by
    show lc_14_201_X (cl_1_188 X n) n (15 + 2 * i) j = X (202 + 2 * i) j
    by_cases q : i = n
    · subst q
      unfold lc_14_201_X
      rw [sx_o (by omega), sx_o (by omega), sx_o (by omega), sx_o (by omega), cx_in hj, cl_1_188_o i (by omega) (by omega)]
    · rw [lc_14_201_X_o (by omega) (by omega)]
      exact cl_1_188_m hj n (by omega) (by omega)
theorem cl_1_188_l {X : SX} {i j : Nat} (hj : 1 ≤ j) (hj4 : j ≤ 4) : ∀ n : Nat, n ≤ 40 → i < n → cl_1_188 X n (14 + 2 * i) j = X (201 + 2 * i) j
  | 0, _, h => absurd h (Nat.not_lt_zero i)
  | n + 1, hn, h => by
    show lc_14_201_X (cl_1_188 X n) n (14 + 2 * i) j = X (201 + 2 * i) j
    by_cases q : i = n
    · subst q
      unfold lc_14_201_X
      rcases (show j = 1 ∨ j = 2 ∨ j = 3 ∨ j = 4 by omega) with rfl | rfl | rfl | rfl
      · rw [sx_o (by omega), sx_o (by omega), sx_o (by omega), sx_e, cl_1_188_o i (by omega) (by omega)]
      · rw [sx_o (by omega), sx_o (by omega), sx_e, cl_1_188_o i (by omega) (by omega)]
      · rw [sx_o (by omega), sx_e, cl_1_188_o i (by omega) (by omega)]
      · rw [sx_e, cl_1_188_o i (by omega) (by omega)]
    · rw [lc_14_201_X_o (by omega) (by omega)]
      exact cl_1_188_l hj hj4 n (by omega) (by omega)
theorem si_1_188_o {X : SX} {cnt k j : Nat} (h40 : cnt ≤ 40) (h1 : k ≠ 11) (h2 : k ≠ 13) (h : k < 14 ∨ 14 + 2 * cnt ≤ k) : si_1_188_X X cnt k j = X k j := by
  unfold si_1_188_X
  rw [sx_o (by omega), sx_o (by omega), sx_o (by omega), sx_o (by omega), sx_o (by omega), sx_o (by omega), sx_o (by omega), cx_o h2, cl_1_188_o cnt h40 h]
theorem pc_1_188_o {X : SX} {cnt k j : Nat} (h40 : cnt ≤ 40) (h : k < 1 ∨ 93 < k) : pc_1_188_X X cnt k j = X k j := by
  unfold pc_1_188_X
  rw [si_1_188_o h40 (by omega) (by omega) (by omega), se_1_188_X_o (by omega)]
theorem pc_1_188_c {X : SX} {cnt : Nat} (h40 : cnt ≤ 40) (hc : X 198 2 = nI cnt) : (∀ k j, 4 ≤ k → k ≤ 10 → j < 4 → pc_1_188_X X cnt (k + 0) j = X (k + 187) j) ∧ pc_1_188_X X cnt 2 4 = X 189 4 ∧ pc_1_188_X X cnt 2 5 = X 189 5 ∧ (∀ j, 2 ≤ j → j ≤ 8 → pc_1_188_X X cnt 11 j = X 198 j) ∧ (∀ j, j < 4 → pc_1_188_X X cnt 13 j = X 200 j) ∧ (∀ i j, i < cnt → j < 4 → pc_1_188_X X cnt (15 + 2 * i) j = X (202 + 2 * i) j) ∧ ∀ i j, i < cnt → 1 ≤ j → j ≤ 4 → pc_1_188_X X cnt (14 + 2 * i) j = X (201 + 2 * i) j := by
  unfold pc_1_188_X
  refine ⟨fun k j h1 h2 hj => ?_, ?_, ?_, fun j h1 h2 => ?_, fun j hj => ?_, fun i j hi hj => ?_, fun i j hi h1 h2 => ?_⟩
  · rw [si_1_188_o h40 (by omega) (by omega) (by omega)]
    unfold se_1_188_X
    rcases (show k = 4 ∨ k = 5 ∨ k = 6 ∨ k = 7 ∨ k = 8 ∨ k = 9 ∨ k = 10 by omega) with rfl | rfl | rfl | rfl | rfl | rfl | rfl
    · show _ = X 191 j
      rw [show 4 + 0 = 4 from rfl, sx_o (by omega), sx_o (by omega), cx_o (by omega), cx_o (by omega), cx_o (by omega), cx_o (by omega), cx_o (by omega), cx_o (by omega), cx_in hj]
    · show _ = X 192 j
      rw [show 5 + 0 = 5 from rfl, sx_o (by omega), sx_o (by omega), cx_o (by omega), cx_o (by omega), cx_o (by omega), cx_o (by omega), cx_o (by omega), cx_in hj, cx_o (by omega)]
    · show _ = X 193 j
      rw [show 6 + 0 = 6 from rfl, sx_o (by omega), sx_o (by omega), cx_o (by omega), cx_o (by omega), cx_o (by omega), cx_o (by omega), cx_in hj, cx_o (by omega), cx_o (by omega)]
    · show _ = X 194 j
      rw [show 7 + 0 = 7 from rfl, sx_o (by omega), sx_o (by omega), cx_o (by omega), cx_o (by omega), cx_o (by omega), cx_in hj, cx_o (by omega), cx_o (by omega), cx_o (by omega)]
    · show _ = X 195 j
      rw [show 8 + 0 = 8 from rfl, sx_o (by omega), sx_o (by omega), cx_o (by omega), cx_o (by omega), cx_in hj, cx_o (by omega), cx_o (by omega), cx_o (by omega), cx_o (by omega)]
    · show _ = X 196 j
      rw [show 9 + 0 = 9 from rfl, sx_o (by omega), sx_o (by omega), cx_o (by omega), cx_in hj, cx_o (by omega), cx_o (by omega), cx_o (by omega), cx_o (by omega), cx_o (by omega)]
    · show _ = X 197 j
      rw [show 10 + 0 = 10 from rfl, sx_o (by omega), sx_o (by omega), cx_in hj, cx_o (by omega), cx_o (by omega), cx_o (by omega), cx_o (by omega), cx_o (by omega), cx_o (by omega)]
  · rw [si_1_188_o h40 (by omega) (by omega) (by omega)]
    unfold se_1_188_X
    rw [sx_o (by omega), sx_e]
  · rw [si_1_188_o h40 (by omega) (by omega) (by omega)]
    unfold se_1_188_X
    rw [sx_e]
  · unfold si_1_188_X
    rcases (show j = 2 ∨ j = 3 ∨ j = 4 ∨ j = 5 ∨ j = 6 ∨ j = 7 ∨ j = 8 by omega) with rfl | rfl | rfl | rfl | rfl | rfl | rfl
    · rw [sx_o (by omega), sx_o (by omega), sx_o (by omega), sx_o (by omega), sx_o (by omega), sx_o (by omega), sx_e, hc]
    · rw [sx_o (by omega), sx_o (by omega), sx_o (by omega), sx_o (by omega), sx_o (by omega), sx_e, se_1_188_X_o (by omega)]
    · rw [sx_o (by omega), sx_o (by omega), sx_o (by omega), sx_o (by omega), sx_e, se_1_188_X_o (by omega)]
    · rw [sx_o (by omega), sx_o (by omega), sx_o (by omega), sx_e, se_1_188_X_o (by omega)]
    · rw [sx_o (by omega), sx_o (by omega), sx_e, se_1_188_X_o (by omega)]
    · rw [sx_o (by omega), sx_e, se_1_188_X_o (by omega)]
    · rw [sx_e, se_1_188_X_o (by omega)]
  · unfold si_1_188_X
    rw [sx_o (by omega), sx_o (by omega), sx_o (by omega), sx_o (by omega), sx_o (by omega), sx_o (by omega), sx_o (by omega), cx_in hj, cl_1_188_o cnt h40 (by omega), se_1_188_X_o (by omega)]
  · unfold si_1_188_X
    rw [sx_o (by omega), sx_o (by omega), sx_o (by omega), sx_o (by omega), sx_o (by omega), sx_o (by omega), sx_o (by omega), cx_o (by omega), cl_1_188_m hj cnt h40 hi, se_1_188_X_o (by omega)]
  · unfold si_1_188_X
    rw [sx_o (by omega), sx_o (by omega), sx_o (by omega), sx_o (by omega), sx_o (by omega), sx_o (by omega), sx_o (by omega), cx_o (by omega), cl_1_188_l h1 h2 cnt h40 hi, se_1_188_X_o (by omega)]
theorem cl_95_1_m {X : SX} {i j : Nat} (hj : j < 4) : ∀ n : Nat, n ≤ 40 → i < n → cl_95_1 X n (109 + 2 * i) j = X (15 + 2 * i) j
  | 0, _, h => absurd h (Nat.not_lt_zero i)
  | n + 1, hn, h => by
    show lc_108_14_X (cl_95_1 X n) n (109 + 2 * i) j = X (15 + 2 * i) j
    by_cases q : i = n
    · subst q
      unfold lc_108_14_X
      rw [sx_o (by omega), sx_o (by omega), sx_o (by omega), sx_o (by omega), cx_in hj, cl_95_1_o i (by omega) (by omega)]
    · rw [lc_108_14_X_o (by omega) (by omega)]
      exact cl_95_1_m hj n (by omega) (by omega)
theorem cl_95_1_l {X : SX} {i j : Nat} (hj : 1 ≤ j) (hj4 : j ≤ 4) : ∀ n : Nat, n ≤ 40 → i < n → cl_95_1 X n (108 + 2 * i) j = X (14 + 2 * i) j
  | 0, _, h => absurd h (Nat.not_lt_zero i)
  | n + 1, hn, h => by
    show lc_108_14_X (cl_95_1 X n) n (108 + 2 * i) j = X (14 + 2 * i) j
    by_cases q : i = n
    · subst q
      unfold lc_108_14_X
      rcases (show j = 1 ∨ j = 2 ∨ j = 3 ∨ j = 4 by omega) with rfl | rfl | rfl | rfl
      · rw [sx_o (by omega), sx_o (by omega), sx_o (by omega), sx_e, cl_95_1_o i (by omega) (by omega)]
      · rw [sx_o (by omega), sx_o (by omega), sx_e, cl_95_1_o i (by omega) (by omega)]
      · rw [sx_o (by omega), sx_e, cl_95_1_o i (by omega) (by omega)]
      · rw [sx_e, cl_95_1_o i (by omega) (by omega)]
    · rw [lc_108_14_X_o (by omega) (by omega)]
      exact cl_95_1_l hj hj4 n (by omega) (by omega)
theorem si_95_1_o {X : SX} {cnt k j : Nat} (h40 : cnt ≤ 40) (h1 : k ≠ 105) (h2 : k ≠ 107) (h : k < 108 ∨ 108 + 2 * cnt ≤ k) : si_95_1_X X cnt k j = X k j := by
  unfold si_95_1_X
  rw [sx_o (by omega), sx_o (by omega), sx_o (by omega), sx_o (by omega), sx_o (by omega), sx_o (by omega), sx_o (by omega), cx_o h2, cl_95_1_o cnt h40 h]
theorem pc_95_1_o {X : SX} {cnt k j : Nat} (h40 : cnt ≤ 40) (h : k < 95 ∨ 187 < k) : pc_95_1_X X cnt k j = X k j := by
  unfold pc_95_1_X
  rw [si_95_1_o h40 (by omega) (by omega) (by omega), se_95_1_X_o (by omega)]
theorem pc_95_1_c {X : SX} {cnt : Nat} (h40 : cnt ≤ 40) (hc : X 11 2 = nI cnt) : (∀ k j, 4 ≤ k → k ≤ 10 → j < 4 → pc_95_1_X X cnt (k + 94) j = X (k + 0) j) ∧ pc_95_1_X X cnt 96 4 = X 2 4 ∧ pc_95_1_X X cnt 96 5 = X 2 5 ∧ (∀ j, 2 ≤ j → j ≤ 8 → pc_95_1_X X cnt 105 j = X 11 j) ∧ (∀ j, j < 4 → pc_95_1_X X cnt 107 j = X 13 j) ∧ (∀ i j, i < cnt → j < 4 → pc_95_1_X X cnt (109 + 2 * i) j = X (15 + 2 * i) j) ∧ ∀ i j, i < cnt → 1 ≤ j → j ≤ 4 → pc_95_1_X X cnt (108 + 2 * i) j = X (14 + 2 * i) j := by
  unfold pc_95_1_X
  refine ⟨fun k j h1 h2 hj => ?_, ?_, ?_, fun j h1 h2 => ?_, fun j hj => ?_, fun i j hi hj => ?_, fun i j hi h1 h2 => ?_⟩
  · rw [si_95_1_o h40 (by omega) (by omega) (by omega)]
    unfold se_95_1_X
    rcases (show k = 4 ∨ k = 5 ∨ k = 6 ∨ k = 7 ∨ k = 8 ∨ k = 9 ∨ k = 10 by omega) with rfl | rfl | rfl | rfl | rfl | rfl | rfl
    · show _ = X 4 j
      rw [show 4 + 94 = 98 from rfl, sx_o (by omega), sx_o (by omega), cx_o (by omega), cx_o (by omega), cx_o (by omega), cx_o (by omega), cx_o (by omega), cx_o (by omega), cx_in hj]
    · show _ = X 5 j
      rw [show 5 + 94 = 99 from rfl, sx_o (by omega), sx_o (by omega), cx_o (by omega), cx_o (by omega), cx_o (by omega), cx_o (by omega), cx_o (by omega), cx_in hj, cx_o (by omega)]
    · show _ = X 6 j
      rw [show 6 + 94 = 100 from rfl, sx_o (by omega), sx_o (by omega), cx_o (by omega), cx_o (by omega), cx_o (by omega), cx_o (by omega), cx_in hj, cx_o (by omega), cx_o (by omega)]
    · show _ = X 7 j
      rw [show 7 + 94 = 101 from rfl, sx_o (by omega), sx_o (by omega), cx_o (by omega), cx_o (by omega), cx_o (by omega), cx_in hj, cx_o (by omega), cx_o (by omega), cx_o (by omega)]
    · show _ = X 8 j
      rw [show 8 + 94 = 102 from rfl, sx_o (by omega), sx_o (by omega), cx_o (by omega), cx_o (by omega), cx_in hj, cx_o (by omega), cx_o (by omega), cx_o (by omega), cx_o (by omega)]
    · show _ = X 9 j
      rw [show 9 + 94 = 103 from rfl, sx_o (by omega), sx_o (by omega), cx_o (by omega), cx_in hj, cx_o (by omega), cx_o (by omega), cx_o (by omega), cx_o (by omega), cx_o (by omega)]
    · show _ = X 10 j
      rw [show 10 + 94 = 104 from rfl, sx_o (by omega), sx_o (by omega), cx_in hj, cx_o (by omega), cx_o (by omega), cx_o (by omega), cx_o (by omega), cx_o (by omega), cx_o (by omega)]
  · rw [si_95_1_o h40 (by omega) (by omega) (by omega)]
    unfold se_95_1_X
    rw [sx_o (by omega), sx_e]
  · rw [si_95_1_o h40 (by omega) (by omega) (by omega)]
    unfold se_95_1_X
    rw [sx_e]
  · unfold si_95_1_X
    rcases (show j = 2 ∨ j = 3 ∨ j = 4 ∨ j = 5 ∨ j = 6 ∨ j = 7 ∨ j = 8 by omega) with rfl | rfl | rfl | rfl | rfl | rfl | rfl
    · rw [sx_o (by omega), sx_o (by omega), sx_o (by omega), sx_o (by omega), sx_o (by omega), sx_o (by omega), sx_e, hc]
    · rw [sx_o (by omega), sx_o (by omega), sx_o (by omega), sx_o (by omega), sx_o (by omega), sx_e, se_95_1_X_o (by omega)]
    · rw [sx_o (by omega), sx_o (by omega), sx_o (by omega), sx_o (by omega), sx_e, se_95_1_X_o (by omega)]
    · rw [sx_o (by omega), sx_o (by omega), sx_o (by omega), sx_e, se_95_1_X_o (by omega)]
    · rw [sx_o (by omega), sx_o (by omega), sx_e, se_95_1_X_o (by omega)]
    · rw [sx_o (by omega), sx_e, se_95_1_X_o (by omega)]
    · rw [sx_e, se_95_1_X_o (by omega)]
  · unfold si_95_1_X
    rw [sx_o (by omega), sx_o (by omega), sx_o (by omega), sx_o (by omega), sx_o (by omega), sx_o (by omega), sx_o (by omega), cx_in hj, cl_95_1_o cnt h40 (by omega), se_95_1_X_o (by omega)]
  · unfold si_95_1_X
    rw [sx_o (by omega), sx_o (by omega), sx_o (by omega), sx_o (by omega), sx_o (by omega), sx_o (by omega), sx_o (by omega), cx_o (by omega), cl_95_1_m hj cnt h40 hi, se_95_1_X_o (by omega)]
  · unfold si_95_1_X
    rw [sx_o (by omega), sx_o (by omega), sx_o (by omega), sx_o (by omega), sx_o (by omega), sx_o (by omega), sx_o (by omega), cx_o (by omega), cl_95_1_l h1 h2 cnt h40 hi, se_95_1_X_o (by omega)]
theorem cl_188_1_m {X : SX} {i j : Nat} (hj : j < 4) : ∀ n : Nat, n ≤ 40 → i < n → cl_188_1 X n (202 + 2 * i) j = X (15 + 2 * i) j
  | 0, _, h => absurd h (Nat.not_lt_zero i)
  | n + 1, hn, h => by
    show lc_201_14_X (cl_188_1 X n) n (202 + 2 * i) j = X (15 + 2 * i) j
    by_cases q : i = n
    · subst q
      unfold lc_201_14_X
      rw [sx_o (by omega), sx_o (by omega), sx_o (by omega), sx_o (by omega), cx_in hj, cl_188_1_o i (by omega) (by omega)]
    · rw [lc_201_14_X_o (by omega) (by omega)]
      exact cl_188_1_m hj n (by omega) (by omega)
theorem cl_188_1_l {X : SX} {i j : Nat} (hj : 1 ≤ j) (hj4 : j ≤ 4) : ∀ n : Nat, n ≤ 40 → i < n → cl_188_1 X n (201 + 2 * i) j = X (14 + 2 * i) j
  | 0, _, h => absurd h (Nat.not_lt_zero i)
  | n + 1, hn, h => by
    show lc_201_14_X (cl_188_1 X n) n (201 + 2 * i) j = X (14 + 2 * i) j
    by_cases q : i = n
    · subst q
      unfold lc_201_14_X
      rcases (show j = 1 ∨ j = 2 ∨ j = 3 ∨ j = 4 by omega) with rfl | rfl | rfl | rfl
      · rw [sx_o (by omega), sx_o (by omega), sx_o (by omega), sx_e, cl_188_1_o i (by omega) (by omega)]
      · rw [sx_o (by omega), sx_o (by omega), sx_e, cl_188_1_o i (by omega) (by omega)]
      · rw [sx_o (by omega), sx_e, cl_188_1_o i (by omega) (by omega)]
      · rw [sx_e, cl_188_1_o i (by omega) (by omega)]
    · rw [lc_201_14_X_o (by omega) (by omega)]
      exact cl_188_1_l hj hj4 n (by omega) (by omega)
theorem si_188_1_o {X : SX} {cnt k j : Nat} (h40 : cnt ≤ 40) (h1 : k ≠ 198) (h2 : k ≠ 200) (h : k < 201 ∨ 201 + 2 * cnt ≤ k) : si_188_1_X X cnt k j = X k j := by
  unfold si_188_1_X
  rw [sx_o (by omega), sx_o (by omega), sx_o (by omega), sx_o (by omega), sx_o (by omega), sx_o (by omega), sx_o (by omega), cx_o h2, cl_188_1_o cnt h40 h]
theorem pc_188_1_o {X : SX} {cnt k j : Nat} (h40 : cnt ≤ 40) (h : k < 188 ∨ 280 < k) : pc_188_1_X X cnt k j = X k j := by
  unfold pc_188_1_X
  rw [si_188_1_o h40 (by omega) (by omega) (by omega), se_188_1_X_o (by omega)]
theorem pc_188_1_c {X : SX} {cnt : Nat} (h40 : cnt ≤ 40) (hc : X 11 2 = nI cnt) : (∀ k j, 4 ≤ k → k ≤ 10 → j < 4 → pc_188_1_X X cnt (k + 187) j = X (k + 0) j) ∧ pc_188_1_X X cnt 189 4 = X 2 4 ∧ pc_188_1_X X cnt 189 5 = X 2 5 ∧ (∀ j, 2 ≤ j → j ≤ 8 → pc_188_1_X X cnt 198 j = X 11 j) ∧ (∀ j, j < 4 → pc_188_1_X X cnt 200 j = X 13 j) ∧ (∀ i j, i < cnt → j < 4 → pc_188_1_X X cnt (202 + 2 * i) j = X (15 + 2 * i) j) ∧ ∀ i j, i < cnt → 1 ≤ j → j ≤ 4 → pc_188_1_X X cnt (201 + 2 * i) j = X (14 + 2 * i) j := by
  unfold pc_188_1_X
  refine ⟨fun k j h1 h2 hj => ?_, ?_, ?_, fun j h1 h2 => ?_, fun j hj => ?_, fun i j hi hj => ?_, fun i j hi h1 h2 => ?_⟩
  · rw [si_188_1_o h40 (by omega) (by omega) (by omega)]
    unfold se_188_1_X
    rcases (show k = 4 ∨ k = 5 ∨ k = 6 ∨ k = 7 ∨ k = 8 ∨ k = 9 ∨ k = 10 by omega) with rfl | rfl | rfl | rfl | rfl | rfl | rfl
    · show _ = X 4 j
      rw [show 4 + 187 = 191 from rfl, sx_o (by omega), sx_o (by omega), cx_o (by omega), cx_o (by omega), cx_o (by omega), cx_o (by omega), cx_o (by omega), cx_o (by omega), cx_in hj]
    · show _ = X 5 j
      rw [show 5 + 187 = 192 from rfl, sx_o (by omega), sx_o (by omega), cx_o (by omega), cx_o (by omega), cx_o (by omega), cx_o (by omega), cx_o (by omega), cx_in hj, cx_o (by omega)]
    · show _ = X 6 j
      rw [show 6 + 187 = 193 from rfl, sx_o (by omega), sx_o (by omega), cx_o (by omega), cx_o (by omega), cx_o (by omega), cx_o (by omega), cx_in hj, cx_o (by omega), cx_o (by omega)]
    · show _ = X 7 j
      rw [show 7 + 187 = 194 from rfl, sx_o (by omega), sx_o (by omega), cx_o (by omega), cx_o (by omega), cx_o (by omega), cx_in hj, cx_o (by omega), cx_o (by omega), cx_o (by omega)]
    · show _ = X 8 j
      rw [show 8 + 187 = 195 from rfl, sx_o (by omega), sx_o (by omega), cx_o (by omega), cx_o (by omega), cx_in hj, cx_o (by omega), cx_o (by omega), cx_o (by omega), cx_o (by omega)]
    · show _ = X 9 j
      rw [show 9 + 187 = 196 from rfl, sx_o (by omega), sx_o (by omega), cx_o (by omega), cx_in hj, cx_o (by omega), cx_o (by omega), cx_o (by omega), cx_o (by omega), cx_o (by omega)]
    · show _ = X 10 j
      rw [show 10 + 187 = 197 from rfl, sx_o (by omega), sx_o (by omega), cx_in hj, cx_o (by omega), cx_o (by omega), cx_o (by omega), cx_o (by omega), cx_o (by omega), cx_o (by omega)]
  · rw [si_188_1_o h40 (by omega) (by omega) (by omega)]
    unfold se_188_1_X
    rw [sx_o (by omega), sx_e]
  · rw [si_188_1_o h40 (by omega) (by omega) (by omega)]
    unfold se_188_1_X
    rw [sx_e]
  · unfold si_188_1_X
    rcases (show j = 2 ∨ j = 3 ∨ j = 4 ∨ j = 5 ∨ j = 6 ∨ j = 7 ∨ j = 8 by omega) with rfl | rfl | rfl | rfl | rfl | rfl | rfl
    · rw [sx_o (by omega), sx_o (by omega), sx_o (by omega), sx_o (by omega), sx_o (by omega), sx_o (by omega), sx_e, hc]
    · rw [sx_o (by omega), sx_o (by omega), sx_o (by omega), sx_o (by omega), sx_o (by omega), sx_e, se_188_1_X_o (by omega)]
    · rw [sx_o (by omega), sx_o (by omega), sx_o (by omega), sx_o (by omega), sx_e, se_188_1_X_o (by omega)]
    · rw [sx_o (by omega), sx_o (by omega), sx_o (by omega), sx_e, se_188_1_X_o (by omega)]
    · rw [sx_o (by omega), sx_o (by omega), sx_e, se_188_1_X_o (by omega)]
    · rw [sx_o (by omega), sx_e, se_188_1_X_o (by omega)]
    · rw [sx_e, se_188_1_X_o (by omega)]
  · unfold si_188_1_X
    rw [sx_o (by omega), sx_o (by omega), sx_o (by omega), sx_o (by omega), sx_o (by omega), sx_o (by omega), sx_o (by omega), cx_in hj, cl_188_1_o cnt h40 (by omega), se_188_1_X_o (by omega)]
  · unfold si_188_1_X
    rw [sx_o (by omega), sx_o (by omega), sx_o (by omega), sx_o (by omega), sx_o (by omega), sx_o (by omega), sx_o (by omega), cx_o (by omega), cl_188_1_m hj cnt h40 hi, se_188_1_X_o (by omega)]
  · unfold si_188_1_X
    rw [sx_o (by omega), sx_o (by omega), sx_o (by omega), sx_o (by omega), sx_o (by omega), sx_o (by omega), sx_o (by omega), cx_o (by omega), cl_188_1_l h1 h2 cnt h40 hi, se_188_1_X_o (by omega)]
theorem svM0_n {X : SX} {j : Nat} : ∀ n : Nat, (j < 0 ∨ 0 + n ≤ j) → svM0 X n 287 j = X 287 j
  | 0, _ => rfl
  | n + 1, h => (sx_o (by omega)).trans (svM0_n n (by omega))
theorem svM0_e {X : SX} {j : Nat} : ∀ n : Nat, j < n → svM0 X n 287 (0 + j) = X 286 j
  | 0, h => absurd h (Nat.not_lt_zero j)
  | n + 1, h => by
    show sx (svM0 X n) 287 (0 + n) (svM0 X n 286 n) 287 (0 + j) = X 286 j
    by_cases q : j = n
    · subst q
      rw [sx_e, svM0_o (by omega)]
    · rw [sx_o (by omega)]
      exact svM0_e n (by omega)
theorem rsM0_e {X : SX} {j : Nat} : ∀ n : Nat, j < n → rsM0 X n 286 j = X 287 (0 + j)
  | 0, h => absurd h (Nat.not_lt_zero j)
  | n + 1, h => by
    show sx (rsM0 X n) 286 n (rsM0 X n 287 (0 + n)) 286 j = X 287 (0 + j)
    by_cases q : j = n
    · subst q
      rw [sx_e, rsM0_o (by omega)]
    · rw [sx_o (by omega)]
      exact rsM0_e n (by omega)
theorem svM1_n {X : SX} {j : Nat} : ∀ n : Nat, (j < 361 ∨ 361 + n ≤ j) → svM1 X n 287 j = X 287 j
  | 0, _ => rfl
  | n + 1, h => (sx_o (by omega)).trans (svM1_n n (by omega))
theorem svM1_e {X : SX} {j : Nat} : ∀ n : Nat, j < n → svM1 X n 287 (361 + j) = X 286 j
  | 0, h => absurd h (Nat.not_lt_zero j)
  | n + 1, h => by
    show sx (svM1 X n) 287 (361 + n) (svM1 X n 286 n) 287 (361 + j) = X 286 j
    by_cases q : j = n
    · subst q
      rw [sx_e, svM1_o (by omega)]
    · rw [sx_o (by omega)]
      exact svM1_e n (by omega)
theorem rsM1_e {X : SX} {j : Nat} : ∀ n : Nat, j < n → rsM1 X n 286 j = X 287 (361 + j)
  | 0, h => absurd h (Nat.not_lt_zero j)
  | n + 1, h => by
    show sx (rsM1 X n) 286 n (rsM1 X n 287 (361 + n)) 286 j = X 287 (361 + j)
    by_cases q : j = n
    · subst q
      rw [sx_e, rsM1_o (by omega)]
    · rw [sx_o (by omega)]
      exact rsM1_e n (by omega)
theorem RelP.cnt {f : SX} {A : Nat → Int32} {b : Nat} (h : RelP f A b) : ∃ cnt, cnt ≤ 40 ∧ f 11 2 = nI cnt ∧ f 11 3 = A 30 := by
  obtain ⟨cnt, t, r, ⟨g1, g2, g3⟩, g4, g5, g6, g7, g8⟩ := h
  exact ⟨cnt, g2.2.2.1, g2.1, g4.trans g5.symm⟩
theorem P_save_0 (l : Launch) (G : GG) (o : Nat) (X : SX) (Y : SY) (b : Nat) (h : R2 X b) : PI l yX5_save cX5_save 2 yX6_save cX6_save 3 G o [.int 0] X Y b := by
  obtain ⟨cnt, h40, hc, ht⟩ := (h.1).cnt
  refine PI.of (c_X5_save_0 l G o X Y cnt hc h40) (c_X6_save_0 l G o _ _) ?_ (by decide) ?_
  · rw [pc_95_1_o h40 (by omega), svM0_o (by omega), sx_o (by omega), pc_95_1_o h40 (by omega)]
    exact ht
  · obtain ⟨q1, q2, q3, q4, q5, q6, q7⟩ := pc_95_1_c h40 hc
    have hm := (h.1).mono (Nat.le_succ b)
    have n1 : ∀ k j, k ≤ 280 → (sx (svM0 (sx (pc_95_1_X X cnt) 281 0 1) 361) 288 0 1) k j = pc_95_1_X X cnt k j := fun k j a => by rw [sx_o (by omega), svM0_o (by omega), sx_o (by omega)]
    have n2 : ∀ j, (sx (svM0 (sx (pc_95_1_X X cnt) 281 0 1) 361) 288 0 1) 286 j = X 286 j := fun j => by rw [sx_o (by omega), svM0_o (by omega), sx_o (by omega), pc_95_1_o h40 (by omega)]
    have n3 : ∀ j, j < 361 → (sx (svM0 (sx (pc_95_1_X X cnt) 281 0 1) 361) 288 0 1) 287 (0 + j) = X 286 j := fun j hj => by rw [sx_o (by omega), svM0_e 361 hj, sx_o (by omega), pc_95_1_o h40 (by omega)]
    have n4 : ∀ j, j < 361 → (sx (svM0 (sx (pc_95_1_X X cnt) 281 0 1) 361) 288 0 1) 287 (361 + j) = X 287 (361 + j) := fun j hj => by rw [sx_o (by omega), svM0_n 361 (by omega), sx_o (by omega), pc_95_1_o h40 (by omega)]
    have n5 : (sx (svM0 (sx (pc_95_1_X X cnt) 281 0 1) 361) 288 0 1) 281 0 = 1 := by rw [sx_o (by omega), svM0_o (by omega), sx_e]
    have n6 : (sx (svM0 (sx (pc_95_1_X X cnt) 281 0 1) 361) 288 0 1) 288 0 = 1 := sx_e
    have n7 : (sx (svM0 (sx (pc_95_1_X X cnt) 281 0 1) 361) 288 0 1) 281 1 = X 281 1 := by rw [sx_o (by omega), svM0_o (by omega), sx_o (by omega), pc_95_1_o h40 (by omega)]
    have n8 : (sx (svM0 (sx (pc_95_1_X X cnt) 281 0 1) 361) 288 0 1) 288 1 = X 288 1 := by rw [sx_o (by omega), svM0_o (by omega), sx_o (by omega), pc_95_1_o h40 (by omega)]
    generalize sx (svM0 (sx (pc_95_1_X X cnt) 281 0 1) 361) 288 0 1 = Z at *
    have e1 : ∀ k j, (k < 95 ∨ 187 < k) → k ≤ 280 → Z k j = X k j := fun k j a1 a2 => by rw [n1 k j a2, pc_95_1_o h40 a1]
    have hs : RelP (fun k => Z (k + dd 0)) (fun j => Z 287 (361 * 0 + j)) (b + 1) := by
      refine hm.same (fun j hj => n3 j hj) (fun cnt' hc' h40' => ?_)
      have ec : cnt' = cnt := nI_inj (by omega) (by omega) (hc'.symm.trans hc)
      subst ec
      refine ⟨fun k j a1 a2 a3 => ?_, ?_, ?_, fun j a1 a2 => ?_, fun j a1 => ?_, fun i j a1 a2 => ?_, fun i j a1 a2 a3 => ?_⟩
      · show Z (k + 94) j = X k j
        rw [n1 _ _ (by omega)]; exact q1 k j a1 a2 a3
      · exact (n1 96 4 (by omega)).trans q2
      · exact (n1 96 5 (by omega)).trans q3
      · exact (n1 105 j (by omega)).trans (q4 j a1 a2)
      · exact (n1 107 j (by omega)).trans (q5 j a1)
      · show Z (15 + 2 * i + 94) j = X (15 + 2 * i) j
        rw [show 15 + 2 * i + 94 = 109 + 2 * i by omega, n1 _ _ (by omega)]; exact q6 i j a1 a2
      · show Z (14 + 2 * i + 94) j = X (14 + 2 * i) j
        rw [show 14 + 2 * i + 94 = 108 + 2 * i by omega, n1 _ _ (by omega)]; exact q7 i j a1 a2 a3
    refine ⟨hm.same (fun j hj => n2 j) (fun cnt' hc' h40' => ⟨fun k j a1 a2 a3 => e1 _ _ (by omega) (by omega), e1 _ _ (by omega) (by omega), e1 _ _ (by omega) (by omega), fun j a1 a2 => e1 _ _ (by omega) (by omega), fun j a1 => e1 _ _ (by omega) (by omega), fun i j a1 a2 => e1 _ _ (by omega) (by omega), fun i j a1 a2 a3 => e1 _ _ (by omega) (by omega)⟩), fun sl hsl => ?_⟩
    rcases (show sl = 0 ∨ sl = 1 by omega) with rfl | rfl
    · exact ⟨n5.trans n6.symm, Or.inr ⟨n5, hs⟩⟩
    · rw [n7, n8]
      refine ⟨(h.2 1 (by decide)).1, (h.2 1 (by decide)).2.imp id (fun q => ⟨q.1, ?_⟩)⟩
      refine (q.2.mono (Nat.le_succ b)).same (fun j hj => n4 j hj) (fun cnt' hc' h40' => ?_)
      show (∀ k j, 4 ≤ k → k ≤ 10 → j < 4 → Z (k + 187) j = X (k + 187) j) ∧ Z (2 + 187) 4 = X (2 + 187) 4 ∧ Z (2 + 187) 5 = X (2 + 187) 5 ∧ (∀ j, 2 ≤ j → j ≤ 8 → Z (11 + 187) j = X (11 + 187) j) ∧ (∀ j, j < 4 → Z (13 + 187) j = X (13 + 187) j) ∧ (∀ i j, i < cnt' → j < 4 → Z (15 + 2 * i + 187) j = X (15 + 2 * i + 187) j) ∧ ∀ i j, i < cnt' → 1 ≤ j → j ≤ 4 → Z (14 + 2 * i + 187) j = X (14 + 2 * i + 187) j
      exact ⟨fun k j a1 a2 a3 => e1 _ _ (by omega) (by omega), e1 _ _ (by omega) (by omega), e1 _ _ (by omega) (by omega), fun j a1 a2 => e1 _ _ (by omega) (by omega), fun j a1 => e1 _ _ (by omega) (by omega), fun i j a1 a2 => e1 _ _ (by omega) (by omega), fun i j a1 a2 a3 => e1 _ _ (by omega) (by omega)⟩
theorem P_restore_0 (l : Launch) (G : GG) (o : Nat) (X : SX) (Y : SY) (b : Nat) (h : R2 X b) : PI l yX5_restore cX5_restore 2 yX6_restore cX6_restore 3 G o [.int 0] X Y b := by
  obtain ⟨h0, hq⟩ := h.2 0 (by decide)
  rcases hq with hz | ⟨hz, hr⟩
  · exact PI.of (c_X5_restore_n0 l G o X Y hz) (c_X6_restore_n0 l G o _ _ (h0.symm.trans hz)) rfl (by decide) h.nx
  · obtain ⟨cnt, h40, hc, ht⟩ := hr.cnt
    have hc : X 105 2 = nI cnt := hc
    have ht : X 105 3 = X 287 (0 + 30) := ht
    obtain ⟨q1, q2, q3, q4, q5, q6, q7⟩ := pc_1_95_c h40 hc
    refine PI.of (c_X5_restore_0 l G o X Y cnt (one_ne hz) hc h40) (c_X6_restore_0 l G o _ _ (by rw [pc_1_95_o h40 (by omega), ← h0]; exact one_ne hz)) ?_ (by decide) ?_
    · rw [q4 3 (by decide) (by decide), rsM0_e 361 (by decide), pc_1_95_o h40 (by omega)]
      exact ht
    · refine h.slots (fun k j a1 a2 => by rw [rsM0_o (by omega), pc_1_95_o h40 (by omega)]) (fun j => by rw [rsM0_o (by omega), pc_1_95_o h40 (by omega)]) (fun j => by rw [rsM0_o (by omega), pc_1_95_o h40 (by omega)]) ?_
      refine (hr.mono (Nat.le_succ b)).same (fun j hj => ?_) (fun cnt' hc' h40' => ?_)
      · rw [rsM0_e 361 hj, pc_1_95_o h40 (by omega)]
      · have ec : cnt' = cnt := nI_inj (by omega) (by omega) (Eq.trans (Eq.symm hc') hc)
        subst ec
        refine ⟨fun k j a1 a2 a3 => ?_, ?_, ?_, fun j a1 a2 => ?_, fun j a1 => ?_, fun i j a1 a2 => ?_, fun i j a1 a2 a3 => ?_⟩
        · rw [rsM0_o (by omega)]; exact q1 k j a1 a2 a3
        · rw [rsM0_o (by omega)]; exact q2
        · rw [rsM0_o (by omega)]; exact q3
        · rw [rsM0_o (by omega)]; exact q4 j a1 a2
        · rw [rsM0_o (by omega)]; exact q5 j a1
        · rw [rsM0_o (by omega)]
          show _ = X (15 + 2 * i + 94) j
          rw [show 15 + 2 * i + 94 = 109 + 2 * i by omega]; exact q6 i j a1 a2
        · rw [rsM0_o (by omega)]
          show _ = X (14 + 2 * i + 94) j
          rw [show 14 + 2 * i + 94 = 108 + 2 * i by omega]; exact q7 i j a1 a2 a3
theorem P_save_1 (l : Launch) (G : GG) (o : Nat) (X : SX) (Y : SY) (b : Nat) (h : R2 X b) : PI l yX5_save cX5_save 2 yX6_save cX6_save 3 G o [.int 1] X Y b := by
  obtain ⟨cnt, h40, hc, ht⟩ := (h.1).cnt
  refine PI.of (c_X5_save_1 l G o X Y cnt hc h40) (c_X6_save_1 l G o _ _) ?_ (by decide) ?_
  · rw [pc_188_1_o h40 (by omega), svM1_o (by omega), sx_o (by omega), pc_188_1_o h40 (by omega)]
    exact ht
  · obtain ⟨q1, q2, q3, q4, q5, q6, q7⟩ := pc_188_1_c h40 hc
    have hm := (h.1).mono (Nat.le_succ b)
    have n1 : ∀ k j, k ≤ 280 → (sx (svM1 (sx (pc_188_1_X X cnt) 281 1 1) 361) 288 1 1) k j = pc_188_1_X X cnt k j := fun k j a => by rw [sx_o (by omega), svM1_o (by omega), sx_o (by omega)]
    have n2 : ∀ j, (sx (svM1 (sx (pc_188_1_X X cnt) 281 1 1) 361) 288 1 1) 286 j = X 286 j := fun j => by rw [sx_o (by omega), svM1_o (by omega), sx_o (by omega), pc_188_1_o h40 (by omega)]
    have n3 : ∀ j, j < 361 → (sx (svM1 (sx (pc_188_1_X X cnt) 281 1 1) 361) 288 1 1) 287 (361 + j) = X 286 j := fun j hj => by rw [sx_o (by omega), svM1_e 361 hj, sx_o (by omega), pc_188_1_o h40 (by omega)]
    have n4 : ∀ j, j < 361 → (sx (svM1 (sx (pc_188_1_X X cnt) 281 1 1) 361) 288 1 1) 287 (0 + j) = X 287 (0 + j) := fun j hj => by rw [sx_o (by omega), svM1_n 361 (by omega), sx_o (by omega), pc_188_1_o h40 (by omega)]
    have n5 : (sx (svM1 (sx (pc_188_1_X X cnt) 281 1 1) 361) 288 1 1) 281 1 = 1 := by rw [sx_o (by omega), svM1_o (by omega), sx_e]
    have n6 : (sx (svM1 (sx (pc_188_1_X X cnt) 281 1 1) 361) 288 1 1) 288 1 = 1 := sx_e
    have n7 : (sx (svM1 (sx (pc_188_1_X X cnt) 281 1 1) 361) 288 1 1) 281 0 = X 281 0 := by rw [sx_o (by omega), svM1_o (by omega), sx_o (by omega), pc_188_1_o h40 (by omega)]
    have n8 : (sx (svM1 (sx (pc_188_1_X X cnt) 281 1 1) 361) 288 1 1) 288 0 = X 288 0 := by rw [sx_o (by omega), svM1_o (by omega), sx_o (by omega), pc_188_1_o h40 (by omega)]
    generalize sx (svM1 (sx (pc_188_1_X X cnt) 281 1 1) 361) 288 1 1 = Z at *
    have e1 : ∀ k j, (k < 188 ∨ 280 < k) → k ≤ 280 → Z k j = X k j := fun k j a1 a2 => by rw [n1 k j a2, pc_188_1_o h40 a1]
    have hs : RelP (fun k => Z (k + dd 1)) (fun j => Z 287 (361 * 1 + j)) (b + 1) := by
      refine hm.same (fun j hj => n3 j hj) (fun cnt' hc' h40' => ?_)
      have ec : cnt' = cnt := nI_inj (by omega) (by omega) (hc'.symm.trans hc)
      subst ec
      refine ⟨fun k j a1 a2 a3 => ?_, ?_, ?_, fun j a1 a2 => ?_, fun j a1 => ?_, fun i j a1 a2 => ?_, fun i j a1 a2 a3 => ?_⟩
      · show Z (k + 187) j = X k j
        rw [n1 _ _ (by omega)]; exact q1 k j a1 a2 a3
      · exact (n1 189 4 (by omega)).trans q2
      · exact (n1 189 5 (by omega)).trans q3
      · exact (n1 198 j (by omega)).trans (q4 j a1 a2)
      · exact (n1 200 j (by omega)).trans (q5 j a1)
      · show Z (15 + 2 * i + 187) j = X (15 + 2 * i) j
        rw [show 15 + 2 * i + 187 = 202 + 2 * i by omega, n1 _ _ (by omega)]; exact q6 i j a1 a2
      · show Z (14 + 2 * i + 187) j = X (14 + 2 * i) j
        rw [show 14 + 2 * i + 187 = 201 + 2 * i by omega, n1 _ _ (by omega)]; exact q7 i j a1 a2 a3
    refine ⟨hm.same (fun j hj => n2 j) (fun cnt' hc' h40' => ⟨fun k j a1 a2 a3 => e1 _ _ (by omega) (by omega), e1 _ _ (by omega) (by omega), e1 _ _ (by omega) (by omega), fun j a1 a2 => e1 _ _ (by omega) (by omega), fun j a1 => e1 _ _ (by omega) (by omega), fun i j a1 a2 => e1 _ _ (by omega) (by omega), fun i j a1 a2 a3 => e1 _ _ (by omega) (by omega)⟩), fun sl hsl => ?_⟩
    rcases (show sl = 1 ∨ sl = 0 by omega) with rfl | rfl
    · exact ⟨n5.trans n6.symm, Or.inr ⟨n5, hs⟩⟩
    · rw [n7, n8]
      refine ⟨(h.2 0 (by decide)).1, (h.2 0 (by decide)).2.imp id (fun q => ⟨q.1, ?_⟩)⟩
      refine (q.2.mono (Nat.le_succ b)).same (fun j hj => n4 j hj) (fun cnt' hc' h40' => ?_)
      show (∀ k j, 4 ≤ k → k ≤ 10 → j < 4 → Z (k + 94) j = X (k + 94) j) ∧ Z (2 + 94) 4 = X (2 + 94) 4 ∧ Z (2 + 94) 5 = X (2 + 94) 5 ∧ (∀ j, 2 ≤ j → j ≤ 8 → Z (11 + 94) j = X (11 + 94) j) ∧ (∀ j, j < 4 → Z (13 + 94) j = X (13 + 94) j) ∧ (∀ i j, i < cnt' → j < 4 → Z (15 + 2 * i + 94) j = X (15 + 2 * i + 94) j) ∧ ∀ i j, i < cnt' → 1 ≤ j → j ≤ 4 → Z (14 + 2 * i + 94) j = X (14 + 2 * i + 94) j
      exact ⟨fun k j a1 a2 a3 => e1 _ _ (by omega) (by omega), e1 _ _ (by omega) (by omega), e1 _ _ (by omega) (by omega), fun j a1 a2 => e1 _ _ (by omega) (by omega), fun j a1 => e1 _ _ (by omega) (by omega), fun i j a1 a2 => e1 _ _ (by omega) (by omega), fun i j a1 a2 a3 => e1 _ _ (by omega) (by omega)⟩
theorem P_restore_1 (l : Launch) (G : GG) (o : Nat) (X : SX) (Y : SY) (b : Nat) (h : R2 X b) : PI l yX5_restore cX5_restore 2 yX6_restore cX6_restore 3 G o [.int 1] X Y b := by
  obtain ⟨h0, hq⟩ := h.2 1 (by decide)
  rcases hq with hz | ⟨hz, hr⟩
  · exact PI.of (c_X5_restore_n1 l G o X Y hz) (c_X6_restore_n1 l G o _ _ (h0.symm.trans hz)) rfl (by decide) h.nx
  · obtain ⟨cnt, h40, hc, ht⟩ := hr.cnt
    have hc : X 198 2 = nI cnt := hc
    have ht : X 198 3 = X 287 (361 + 30) := ht
    obtain ⟨q1, q2, q3, q4, q5, q6, q7⟩ := pc_1_188_c h40 hc
    refine PI.of (c_X5_restore_1 l G o X Y cnt (one_ne hz) hc h40) (c_X6_restore_1 l G o _ _ (by rw [pc_1_188_o h40 (by omega), ← h0]; exact one_ne hz)) ?_ (by decide) ?_
    · rw [q4 3 (by decide) (by decide), rsM1_e 361 (by decide), pc_1_188_o h40 (by omega)]
      exact ht
    · refine h.slots (fun k j a1 a2 => by rw [rsM1_o (by omega), pc_1_188_o h40 (by omega)]) (fun j => by rw [rsM1_o (by omega), pc_1_188_o h40 (by omega)]) (fun j => by rw [rsM1_o (by omega), pc_1_188_o h40 (by omega)]) ?_
      refine (hr.mono (Nat.le_succ b)).same (fun j hj => ?_) (fun cnt' hc' h40' => ?_)
      · rw [rsM1_e 361 hj, pc_1_188_o h40 (by omega)]
      · have ec : cnt' = cnt := nI_inj (by omega) (by omega) (Eq.trans (Eq.symm hc') hc)
        subst ec
        refine ⟨fun k j a1 a2 a3 => ?_, ?_, ?_, fun j a1 a2 => ?_, fun j a1 => ?_, fun i j a1 a2 => ?_, fun i j a1 a2 a3 => ?_⟩
        · rw [rsM1_o (by omega)]; exact q1 k j a1 a2 a3
        · rw [rsM1_o (by omega)]; exact q2
        · rw [rsM1_o (by omega)]; exact q3
        · rw [rsM1_o (by omega)]; exact q4 j a1 a2
        · rw [rsM1_o (by omega)]; exact q5 j a1
        · rw [rsM1_o (by omega)]
          show _ = X (15 + 2 * i + 187) j
          rw [show 15 + 2 * i + 187 = 202 + 2 * i by omega]; exact q6 i j a1 a2
        · rw [rsM1_o (by omega)]
          show _ = X (14 + 2 * i + 187) j
          rw [show 14 + 2 * i + 187 = 201 + 2 * i by omega]; exact q7 i j a1 a2 a3
theorem P_save (l : Launch) (G : GG) (o : Nat) (X : SX) (Y : SY) (b : Nat) (v : Int32) (h : R2 X b) : PI l yX5_save cX5_save 2 yX6_save cX6_save 3 G o [.int v] X Y b := by
  by_cases h2 : Wi v 0 1
  · rcases z01.mp h2 with rfl | rfl
    · exact P_save_0 l G o X Y b h
    · exact P_save_1 l G o X Y b h
  · exact PI.of (c_X5_save_a l G o X Y v h2) (c_X6_save_a l G o _ _ v h2) rfl (by decide) h.nx
theorem P_restore (l : Launch) (G : GG) (o : Nat) (X : SX) (Y : SY) (b : Nat) (v : Int32) (h : R2 X b) : PI l yX5_restore cX5_restore 2 yX6_restore cX6_restore 3 G o [.int v] X Y b := by
  by_cases h2 : Wi v 0 1
  · rcases z01.mp h2 with rfl | rfl
    · exact P_restore_0 l G o X Y b h
    · exact P_restore_1 l G o X Y b h
  · exact PI.of (c_X5_restore_a l G o X Y v h2) (c_X6_restore_a l G o _ _ v h2) rfl (by decide) h.nx
