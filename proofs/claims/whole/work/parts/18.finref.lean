/-! ===== 18: the mill finishes a lot: the reference's numbers ===== -/
set_option maxHeartbeats 4000000 in
theorem fnmX_v {X : SX} {i : Nat} {s m r : Nat → Nat} (hs : ShN s) (hle : m 0 + m 1 + m 2 + m 3 ≤ 800) (e0 : X 286 (41 + 8 * i + 0) = nI (m 0)) (e1 : X 286 (41 + 8 * i + 1) = nI (m 1)) (e2 : X 286 (41 + 8 * i + 2) = nI (m 2)) (e3 : X 286 (41 + 8 * i + 3) = nI (m 3))
    (h01 : X 286 1 = nI (s 0)) (h02 : X 286 2 = nI (s 1)) (h03 : X 286 3 = nI (s 2)) (h12 : X 286 6 = nI (s 3)) (h13 : X 286 7 = nI (s 4)) (h23 : X 286 11 = nI (s 5)) (r0 : X 286 16 = nI (r 0)) (r1 : X 286 17 = nI (r 1)) (r2 : X 286 18 = nI (r 2)) (r3 : X 286 19 = nI (r 3)) (hr : ∀ j, j < 4 → r j ≤ 10) :
    (fnmX X i 286 (41 + 8 * i + 0) = nI (qq s m r 0) ∧ fnmX X i 286 (41 + 8 * i + 1) = nI (qq s m r 1) ∧ fnmX X i 286 (41 + 8 * i + 2) = nI (qq s m r 2) ∧ fnmX X i 286 (41 + 8 * i + 3) = nI (qq s m r 3)) ∧ (∀ j, j < 4 → fnmX X i 286 (37 + j) = X 286 (37 + j) + nI (nn s m j - qq s m r j)) ∧
    fnmX X i 286 32 = X 286 32 + engy (fun j => X 286 (20 + j)) (fun j => X 286 (41 + 8 * i + j)) ∧ fnmX X i 286 33 = X 286 33 + nI (qs s m r) ∧ fnmX X i 286 (41 + 8 * i + 7) = X 286 (41 + 8 * i + 7) + 1 ∧
    ((qs s m r = 0 ∧ fnmX X i 286 (41 + 8 * i + 4) = 3 ∧ fnmX X i 286 34 = X 286 34) ∨ (0 < qs s m r ∧ fnmX X i 286 (41 + 8 * i + 4) = 1 ∧ fnmX X i 286 (41 + 8 * i + 5) = X 286 34 ∧ fnmX X i 286 34 = X 286 34 + 1)) := by
  have hsum := nn_sum (m := m) hs
  have hqs := qs_le (m := m) hs hr
  have b1 := br3 (m := m 0) hs.1
  have b2 := br3 (m := m 1) (a := s 3) (b := s 4) (c := 0) (by have := hs.2.1; omega)
  have b3 := br1 (m := m 2) hs.2.2
  obtain ⟨g1, g2, g3⟩ := hs
  have l0 := hr 0 (by decide)
  have l1 := hr 1 (by decide)
  have l2 := hr 2 (by decide)
  have l3 := hr 3 (by decide)
  have q01 := mq (m := m 0) (s := s 0) (by omega) (by omega)
  have q02 := mq (m := m 0) (s := s 1) (by omega) (by omega)
  have q03 := mq (m := m 0) (s := s 2) (by omega) (by omega)
  have q12 := mq (m := m 1) (s := s 3) (by omega) (by omega)
  have q13 := mq (m := m 1) (s := s 4) (by omega) (by omega)
  have q23 := mq (m := m 2) (s := s 5) (by omega) (by omega)
  have F0 : 0 + (((nI (m 0) - nI (m 0 * s 0 / 10)) - nI (m 0 * s 1 / 10)) - nI (m 0 * s 2 / 10)) = nI (nn s m 0) := by
    show _ = nI (n0 s m)
    unfold n0
    simp (disch := omega) only [Int32.zero_add, pk_sub, nI_add]
  have F1 : 0 + nI (m 0 * s 0 / 10) + ((nI (m 1) - nI (m 1 * s 3 / 10)) - nI (m 1 * s 4 / 10)) = nI (nn s m 1) := by
    show _ = nI (n1 s m)
    unfold n1
    simp (disch := omega) only [Int32.zero_add, pk_sub, nI_add]
    exact congrArg nI (by omega)
  have F2 : 0 + nI (m 0 * s 1 / 10) + nI (m 1 * s 3 / 10) + (nI (m 2) - nI (m 2 * s 5 / 10)) = nI (nn s m 2) := by
    show _ = nI (n2 s m)
    unfold n2
    simp (disch := omega) only [Int32.zero_add, pk_sub, nI_add]
    exact congrArg nI (by omega)
  have F3 : 0 + nI (m 0 * s 2 / 10) + nI (m 1 * s 4 / 10) + nI (m 2 * s 5 / 10) + nI (m 3) = nI (nn s m 3) := by
    show _ = nI (n3 s m)
    unfold n3
    simp (disch := omega) only [Int32.zero_add, pk_sub, nI_add]
    exact congrArg nI (by omega)
  have R0 : nI (nn s m 0) * nI (r 0) / 10 = nI (qq s m r 0) := mq (by omega) l0
  have R1 : nI (nn s m 1) * nI (r 1) / 10 = nI (qq s m r 1) := mq (by omega) l1
  have R2 : nI (nn s m 2) * nI (r 2) / 10 = nI (qq s m r 2) := mq (by omega) l2
  have R3 : nI (nn s m 3) * nI (r 3) / 10 = nI (qq s m r 3) := mq (by omega) l3
  have p0 : qq s m r 0 ≤ nn s m 0 := qj_le l0
  have p1 : qq s m r 1 ≤ nn s m 1 := qj_le l1
  have p2 : qq s m r 2 ≤ nn s m 2 := qj_le l2
  have p3 : qq s m r 3 ≤ nn s m 3 := qj_le l3
  have S4 : 0 + nI (qq s m r 0) + nI (qq s m r 1) + nI (qq s m r 2) + nI (qq s m r 3) = nI (qs s m r) := by
    simp only [Int32.zero_add, nI_add]
    rfl
  have E : X 286 32 + X 286 20 * nI (m 0) + X 286 21 * nI (m 1) + X 286 22 * nI (m 2) + X 286 23 * nI (m 3) = X 286 32 + engy (fun j => X 286 (20 + j)) (fun j => X 286 (41 + 8 * i + j)) := by
    unfold engy
    simp only [e0, e1, e2, e3, Int32.zero_add, Int32.add_assoc]
  rw [← E]
  unfold fnmX
  simp only [e0, e1, e2, e3, h01, h02, h03, h12, h13, h23, r0, r1, r2, r3, q01, q02, q03, q12, q13, q23, F0, F1, F2, F3, R0, R1, R2, R3, S4]
  by_cases hz : qs s m r = 0
  · rw [if_pos (by rw [hz]; rfl)]
    refine ⟨⟨?_, ?_, ?_, ?_⟩, fun j hj => ?_, ?_, ?_, ?_, Or.inl ⟨hz, ?_, ?_⟩⟩
    · simp (disch := omega) only [sx_o, sx_e]
    · simp (disch := omega) only [sx_o, sx_e]
    · simp (disch := omega) only [sx_o, sx_e]
    · simp (disch := omega) only [sx_o, sx_e]
    · rcases (show j = 0 ∨ j = 1 ∨ j = 2 ∨ j = 3 by omega) with rfl | rfl | rfl | rfl
      · simp (disch := omega) only [sx_o, sx_e, Nat.reduceAdd, pk_sub]
      · simp (disch := omega) only [sx_o, sx_e, Nat.reduceAdd, pk_sub]
      · simp (disch := omega) only [sx_o, sx_e, Nat.reduceAdd, pk_sub]
      · simp (disch := omega) only [sx_o, sx_e, Nat.reduceAdd, pk_sub]
    · simp (disch := omega) only [sx_o, sx_e]
    · simp (disch := omega) only [sx_o, sx_e]
    · simp (disch := omega) only [sx_o, sx_e]
    · simp (disch := omega) only [sx_o, sx_e]
    · simp (disch := omega) only [sx_o, sx_e]
  · rw [if_neg (nI_ne0 (by omega) (by omega))]
    refine ⟨⟨?_, ?_, ?_, ?_⟩, fun j hj => ?_, ?_, ?_, ?_, Or.inr ⟨by omega, ?_, ?_, ?_⟩⟩
    · rw [cmX_o (by omega)]; simp (disch := omega) only [sx_o, sx_e]
    · rw [cmX_o (by omega)]; simp (disch := omega) only [sx_o, sx_e]
    · rw [cmX_o (by omega)]; simp (disch := omega) only [sx_o, sx_e]
    · rw [cmX_o (by omega)]; simp (disch := omega) only [sx_o, sx_e]
    · rw [cmX_o (by omega)]
      rcases (show j = 0 ∨ j = 1 ∨ j = 2 ∨ j = 3 by omega) with rfl | rfl | rfl | rfl
      · simp (disch := omega) only [sx_o, sx_e, Nat.reduceAdd, pk_sub]
      · simp (disch := omega) only [sx_o, sx_e, Nat.reduceAdd, pk_sub]
      · simp (disch := omega) only [sx_o, sx_e, Nat.reduceAdd, pk_sub]
      · simp (disch := omega) only [sx_o, sx_e, Nat.reduceAdd, pk_sub]
    · rw [cmX_o (by omega)]; simp (disch := omega) only [sx_o, sx_e]
    · rw [cmX_o (by omega)]; simp (disch := omega) only [sx_o, sx_e]
    · rw [cmX_o (by omega)]; simp (disch := omega) only [sx_o, sx_e]
    · unfold cmX; simp (disch := omega) only [sx_o, sx_e]
    · unfold cmX; simp (disch := omega) only [sx_o, sx_e]
    · unfold cmX; simp (disch := omega) only [sx_o, sx_e]
