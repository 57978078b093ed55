/-! ===== 17: the mill finishes a lot: numbers of both sides ===== -/
theorem d10 {a : Nat} (h : a < 2 ^ 31) : nI a / 10 = nI (a / 10) := pk_div h (by decide) (by decide)
theorem mq {m s : Nat} (hm : m ≤ 800) (hs : s ≤ 10) : nI m * nI s / 10 = nI (m * s / 10) := by
  have h : m * s ≤ 800 * 10 := Nat.mul_le_mul hm hs
  rw [pk_mul, d10 (by omega)]
theorem br3 {m a b c : Nat} (h : a + b + c ≤ 10) : m * a / 10 + m * b / 10 + m * c / 10 ≤ m := by
  have h1 : m * a + m * b + m * c ≤ m * 10 := by rw [← Nat.mul_add, ← Nat.mul_add]; exact Nat.mul_le_mul_left m h
  omega
theorem br1 {m a : Nat} (h : a ≤ 10) : m * a / 10 ≤ m := by
  have h1 : m * a ≤ m * 10 := Nat.mul_le_mul_left m h
  omega
/-- the shares that break, as numbers: from 0 to 1, 2, 3, from 1 to 2, 3, from 2 to 3 -/
def ShN (s : Nat → Nat) : Prop := s 0 + s 1 + s 2 ≤ 10 ∧ s 3 + s 4 ≤ 10 ∧ s 5 ≤ 10
/-- the masses behind the breaking -/
def n0 (s m : Nat → Nat) : Nat := m 0 - m 0 * s 0 / 10 - m 0 * s 1 / 10 - m 0 * s 2 / 10
def n1 (s m : Nat → Nat) : Nat := m 1 - m 1 * s 3 / 10 - m 1 * s 4 / 10 + m 0 * s 0 / 10
def n2 (s m : Nat → Nat) : Nat := m 2 - m 2 * s 5 / 10 + m 1 * s 3 / 10 + m 0 * s 1 / 10
def n3 (s m : Nat → Nat) : Nat := m 3 + m 2 * s 5 / 10 + m 1 * s 4 / 10 + m 0 * s 2 / 10
theorem n_sum {s m : Nat → Nat} (hs : ShN s) : n0 s m + n1 s m + n2 s m + n3 s m = m 0 + m 1 + m 2 + m 3 := by
  have h1 := br3 (m := m 0) hs.1
  have h2 := br3 (m := m 1) (a := s 3) (b := s 4) (c := 0) (by have := hs.2.1; omega)
  have h3 := br1 (m := m 2) hs.2.2
  unfold n0 n1 n2 n3
  omega
def qj (n r : Nat) : Nat := n * r / 10
/-- what one side must give: row k holds the masses, v gives the shares' numbers, w the return shares' -/
theorem brkX_v {X : SX} {i : Nat} {s m : Nat → Nat} (hs : ShN s) (hm : MsN (X (15 + 2 * i)) (m 0) (m 1) (m 2) (m 3)) (h01 : X 4 1 = nI (s 0)) (h02 : X 4 2 = nI (s 1)) (h03 : X 4 3 = nI (s 2)) (h12 : X 5 2 = nI (s 3)) (h13 : X 5 3 = nI (s 4)) (h23 : X 6 3 = nI (s 5)) :
    MsN (brkX X i (15 + 2 * i)) (n0 s m) (n1 s m) (n2 s m) (n3 s m) := by
  have hsum := n_sum (m := m) hs
  obtain ⟨e0, e1, e2, e3, hle⟩ := hm
  have b1 := br3 (m := m 0) hs.1
  have b2 := br3 (m := m 1) (a := s 3) (b := s 4) (c := 0) (by have := hs.2.1; omega)
  have b3 := br1 (m := m 2) hs.2.2
  obtain ⟨g1, g2, g3⟩ := hs
  have q01 := mq (m := m 0) (s := s 0) (by omega) (by omega)
  have q02 := mq (m := m 0) (s := s 1) (by omega) (by omega)
  have q03 := mq (m := m 0) (s := s 2) (by omega) (by omega)
  have q12 := mq (m := m 1) (s := s 3) (by omega) (by omega)
  have q13 := mq (m := m 1) (s := s 4) (by omega) (by omega)
  have q23 := mq (m := m 2) (s := s 5) (by omega) (by omega)
  refine ⟨?_, ?_, ?_, ?_, by omega⟩
  · unfold brkX n0
    simp (disch := omega) only [sx_o, sx_e, e0, e1, e2, e3, h01, h02, h03, h12, h13, h23, q01, q02, q03, q12, q13, q23, pk_sub, nI_add]
  · unfold brkX n1
    simp (disch := omega) only [sx_o, sx_e, e0, e1, e2, e3, h01, h02, h03, h12, h13, h23, q01, q02, q03, q12, q13, q23, pk_sub, nI_add]
  · unfold brkX n2
    simp (disch := omega) only [sx_o, sx_e, e0, e1, e2, e3, h01, h02, h03, h12, h13, h23, q01, q02, q03, q12, q13, q23, pk_sub, nI_add]
  · unfold brkX n3
    simp (disch := omega) only [sx_o, sx_e, e0, e1, e2, e3, h01, h02, h03, h12, h13, h23, q01, q02, q03, q12, q13, q23, pk_sub, nI_add]
theorem qj_le {n r : Nat} (h : r ≤ 10) : qj n r ≤ n := br1 h
theorem clsX_v {X : SX} {i : Nat} {n r : Nat → Nat} (hm : MsN (X (15 + 2 * i)) (n 0) (n 1) (n 2) (n 3)) (hr : ∀ j, j < 4 → X 8 j = nI (r j) ∧ r j ≤ 10) :
    MsN (clsX X i (15 + 2 * i)) (qj (n 0) (r 0)) (qj (n 1) (r 1)) (qj (n 2) (r 2)) (qj (n 3) (r 3)) ∧ ∀ j, j < 4 → clsX X i 13 j = X 13 j + nI (n j - qj (n j) (r j)) := by
  obtain ⟨e0, e1, e2, e3, hle⟩ := hm
  obtain ⟨r0, l0⟩ := hr 0 (by decide)
  obtain ⟨r1, l1⟩ := hr 1 (by decide)
  obtain ⟨r2, l2⟩ := hr 2 (by decide)
  obtain ⟨r3, l3⟩ := hr 3 (by decide)
  have p0 := qj_le (n := n 0) l0
  have p1 := qj_le (n := n 1) l1
  have p2 := qj_le (n := n 2) l2
  have p3 := qj_le (n := n 3) l3
  unfold qj at *
  have q0 := mq (m := n 0) (s := r 0) (by omega) l0
  have q1 := mq (m := n 1) (s := r 1) (by omega) l1
  have q2 := mq (m := n 2) (s := r 2) (by omega) l2
  have q3 := mq (m := n 3) (s := r 3) (by omega) l3
  refine ⟨⟨?_, ?_, ?_, ?_, by omega⟩, fun j hj => ?_⟩
  · unfold clsX
    simp (disch := omega) only [sx_o, sx_e, e0, r0, q0]
  · unfold clsX
    simp (disch := omega) only [sx_o, sx_e, e1, r1, q1]
  · unfold clsX
    simp (disch := omega) only [sx_o, sx_e, e2, r2, q2]
  · unfold clsX
    simp (disch := omega) only [sx_o, sx_e, e3, r3, q3]
  · rcases (show j = 0 ∨ j = 1 ∨ j = 2 ∨ j = 3 by omega) with rfl | rfl | rfl | rfl
    · unfold clsX
      simp (disch := omega) only [sx_o, sx_e, e0, r0, q0, pk_sub]
    · unfold clsX
      simp (disch := omega) only [sx_o, sx_e, e1, r1, q1, pk_sub]
    · unfold clsX
      simp (disch := omega) only [sx_o, sx_e, e2, r2, q2, pk_sub]
    · unfold clsX
      simp (disch := omega) only [sx_o, sx_e, e3, r3, q3, pk_sub]
/-- the numbers behind a finished lot -/
def nn (s m : Nat → Nat) : Nat → Nat := fun j => if j = 0 then n0 s m else if j = 1 then n1 s m else if j = 2 then n2 s m else n3 s m
def qq (s m r : Nat → Nat) (j : Nat) : Nat := qj (nn s m j) (r j)
def qs (s m r : Nat → Nat) : Nat := qq s m r 0 + qq s m r 1 + qq s m r 2 + qq s m r 3
theorem nn_sum {s m : Nat → Nat} (hs : ShN s) : nn s m 0 + nn s m 1 + nn s m 2 + nn s m 3 = m 0 + m 1 + m 2 + m 3 := n_sum hs
theorem qs_le {s m r : Nat → Nat} (hs : ShN s) (hr : ∀ j, j < 4 → r j ≤ 10) : qs s m r ≤ m 0 + m 1 + m 2 + m 3 := by
  have h0 := qj_le (n := nn s m 0) (hr 0 (by decide))
  have h1 := qj_le (n := nn s m 1) (hr 1 (by decide))
  have h2 := qj_le (n := nn s m 2) (hr 2 (by decide))
  have h3 := qj_le (n := nn s m 3) (hr 3 (by decide))
  have := nn_sum (m := m) hs
  unfold qs qq
  omega
set_option maxHeartbeats 1000000 in
theorem finX_v {X : SX} {i : Nat} {s m r : Nat → Nat} (hs : ShN s) (hm : MsN (X (15 + 2 * i)) (m 0) (m 1) (m 2) (m 3)) (h01 : X 4 1 = nI (s 0)) (h02 : X 4 2 = nI (s 1)) (h03 : X 4 3 = nI (s 2)) (h12 : X 5 2 = nI (s 3)) (h13 : X 5 3 = nI (s 4)) (h23 : X 6 3 = nI (s 5)) (hr : ∀ j, j < 4 → X 8 j = nI (r j) ∧ r j ≤ 10) :
    MsN (finX X i (15 + 2 * i)) (qq s m r 0) (qq s m r 1) (qq s m r 2) (qq s m r 3) ∧ (∀ j, j < 4 → finX X i 13 j = X 13 j + nI (nn s m j - qq s m r j)) ∧ finX X i 11 7 = X 11 7 + engy (X 9) (X (15 + 2 * i)) ∧ finX X i 11 8 = X 11 8 + nI (qs s m r) ∧ finX X i (14 + 2 * i) 4 = X (14 + 2 * i) 4 + 1 ∧
    ((qs s m r = 0 ∧ finX X i (14 + 2 * i) 1 = 3 ∧ finX X i 11 4 = X 11 4) ∨ (0 < qs s m r ∧ finX X i (14 + 2 * i) 1 = 1 ∧ finX X i (14 + 2 * i) 3 = X 11 4 ∧ finX X i 11 4 = X 11 4 + 1)) := by
  obtain ⟨X1, hX1⟩ : ∃ z, z = sx (sx X 11 5 (-1)) 11 7 ((X 11 7) + (engy ((sx X 11 5 (-1)) 9) ((sx X 11 5 (-1)) (15 + 2 * i)))) := ⟨_, rfl⟩
  have o1 : ∀ k, k ≠ 11 → X1 k = X k := fun k h => by rw [hX1, sx_n h, sx_n h]
  have o11 : ∀ j, j ≠ 5 → j ≠ 7 → X1 11 j = X 11 j := fun j h h2 => by rw [hX1, sx_o (by omega), sx_o (by omega)]
  have e17 : X1 11 7 = X 11 7 + engy (X 9) (X (15 + 2 * i)) := by rw [hX1, sx_e, sx_n (by omega), sx_n (by omega)]
  have hB := brkX_v (X := X1) (i := i) hs (by rw [o1 _ (by omega)]; exact hm) (by rw [o1 _ (by omega)]; exact h01) (by rw [o1 _ (by omega)]; exact h02) (by rw [o1 _ (by omega)]; exact h03) (by rw [o1 _ (by omega)]; exact h12) (by rw [o1 _ (by omega)]; exact h13) (by rw [o1 _ (by omega)]; exact h23)
  obtain ⟨X2, hX2⟩ : ∃ z, z = brkX X1 i := ⟨_, rfl⟩
  rw [← hX2] at hB
  have o2 : ∀ k j, k ≠ 15 + 2 * i → X2 k j = X1 k j := fun k j h => by rw [hX2, brkX_o h]
  obtain ⟨hM, hp⟩ := clsX_v (X := X2) (i := i) (n := nn s m) (r := r) hB (fun j hj => by rw [o2 _ _ (by omega), o1 _ (by omega)]; exact hr j hj)
  obtain ⟨X3, hX3⟩ : ∃ z, z = clsX X2 i := ⟨_, rfl⟩
  rw [← hX3] at hM hp
  have o3 : ∀ k j, k ≠ 15 + 2 * i → k ≠ 13 → X3 k j = X2 k j := fun k j h h2 => by rw [hX3, clsX_o h h2]
  have e3 : ∀ j, j ≠ 5 → j ≠ 7 → X3 11 j = X 11 j := fun j h h2 => by rw [o3 _ _ (by omega) (by omega), o2 _ _ (by omega), o11 j h h2]
  have e37 : X3 11 7 = X 11 7 + engy (X 9) (X (15 + 2 * i)) := by rw [o3 _ _ (by omega) (by omega), o2 _ _ (by omega), e17]
  have e34 : ∀ j, X3 (14 + 2 * i) j = X (14 + 2 * i) j := fun j => by rw [o3 _ _ (by omega) (by omega), o2 _ _ (by omega), o1 _ (by omega)]
  have e313 : ∀ j, j < 4 → X3 13 j = X 13 j + nI (nn s m j - qq s m r j) := fun j hj => by rw [hp j hj, o2 _ _ (by omega), o1 _ (by omega)]; rfl
  have hsum : sum4 ((sx X3 (14 + 2 * i) 4 ((X3 (14 + 2 * i) 4) + 1)) (15 + 2 * i)) = nI (qs s m r) := by
    rw [sx_n (by omega)]
    exact sum4_n hM
  have hq : qs s m r < 2 ^ 31 := by
    have h9 := hM.2.2.2.2
    unfold qs qq
    omega
  have hF : finX X i = if sum4 ((sx X3 (14 + 2 * i) 4 ((X3 (14 + 2 * i) 4) + 1)) (15 + 2 * i)) = 0 then (sx (sx (sx X3 (14 + 2 * i) 4 ((X3 (14 + 2 * i) 4) + 1)) 11 8 ((X3 11 8) + (sum4 ((sx X3 (14 + 2 * i) 4 ((X3 (14 + 2 * i) 4) + 1)) (15 + 2 * i))))) (14 + 2 * i) 1 3) else (pbX (sx (sx X3 (14 + 2 * i) 4 ((X3 (14 + 2 * i) 4) + 1)) 11 8 ((X3 11 8) + (sum4 ((sx X3 (14 + 2 * i) 4 ((X3 (14 + 2 * i) 4) + 1)) (15 + 2 * i))))) i) := by
    rw [hX3, hX2, hX1]
    rfl
  rw [hF, hsum, e34, e3 8 (by decide) (by decide)]
  by_cases hz : qs s m r = 0
  · rw [if_pos (by rw [hz]; rfl)]
    refine ⟨?_, fun j hj => ?_, ?_, ?_, ?_, Or.inl ⟨hz, ?_, ?_⟩⟩
    · rw [sx_n (by omega), sx_n (by omega), sx_n (by omega)]
      exact hM
    · rw [sx_o (by omega), sx_o (by omega), sx_o (by omega)]
      exact e313 j hj
    · rw [sx_o (by omega), sx_o (by omega), sx_o (by omega)]
      exact e37
    · rw [sx_o (by omega), sx_e]
    · rw [sx_o (by omega), sx_o (by omega), sx_e]
    · rw [sx_e]
    · rw [sx_o (by omega), sx_o (by omega), sx_o (by omega)]
      exact e3 4 (by decide) (by decide)
  · rw [if_neg (nI_ne0 (by omega) hq)]
    have e4 : X3 11 4 = X 11 4 := e3 4 (by decide) (by decide)
    refine ⟨?_, fun j hj => ?_, ?_, ?_, ?_, Or.inr ⟨by omega, ?_, ?_, ?_⟩⟩
    · unfold pbX
      rw [sx_n (by omega), sx_n (by omega), sx_n (by omega), sx_n (by omega), sx_n (by omega)]
      exact hM
    · rw [pbX_o (by omega) (by omega), sx_o (by omega), sx_o (by omega)]
      exact e313 j hj
    · rw [pbX_o (by omega) (by omega), sx_o (by omega), sx_o (by omega)]
      exact e37
    · rw [pbX_o (by omega) (by omega), sx_e]
    · rw [pbX_o (by omega) (by omega), sx_o (by omega), sx_e]
    · unfold pbX
      rw [sx_o (by omega), sx_o (by omega), sx_e]
    · unfold pbX
      rw [sx_o (by omega), sx_e, sx_o (by omega), sx_o (by omega)]
      exact e4
    · unfold pbX
      rw [sx_e, sx_o (by omega), sx_o (by omega), e4]
