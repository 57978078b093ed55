/-! ===== 25: the steady state as a whole ===== -/
theorem StC.ss {X X' : SX} {s : Nat → Nat → Nat} {fd : Nat → Nat} (h : StC X s fd) (e : ∀ k j, k ≠ 282 → X' k j = X k j) : StC X' s fd := ⟨fun i j hi hj => by rw [e _ _ (by omega)]; exact h.1 i j hi hj, fun j hj => by rw [e _ _ (by omega)]; exact h.2 j hj⟩
theorem solP {X M : SX} {Y Z : SY} {s : Nat → Nat → Nat} {rr fd : Nat → Nat} (hB : Bd s rr fd) (hC : StC X s fd) (hM : StM M s rr fd) :
    (llr M Z = 1 ∧ solX X Y (nI (rr 0)) (nI (rr 1)) (nI (rr 2)) (nI (rr 3)) 282 3 = 1 ∧ ∃ L B, YC (solY X Y (nI (rr 0)) (nI (rr 1)) (nI (rr 2)) (nI (rr 3))) 4 L B ∧ YM (llY M Z) 4 L B ∧ Iv fd L B 4 14640000) ∨
    (llr M Z = 0 ∧ solX X Y (nI (rr 0)) (nI (rr 1)) (nI (rr 2)) (nI (rr 3)) 282 3 = 0) := by
  unfold llr llY solX solY
  have hC0 : StC (sx X 282 3 1) s fd := hC.ss (fun k j h => sx_o (by omega))
  have h10 : (sx X 282 3 1) 282 3 = 1 := sx_e
  have hY0 : YC (sy Y 282 2 1) 0 (fun _ => 0) 1 := ⟨sy_e, fun i h => absurd h (Nat.not_lt_zero i)⟩
  have hZ0 : YM (sy Z 285 5 1) 0 (fun _ => 0) 1 := ⟨sy_e, fun i h => absurd h (Nat.not_lt_zero i)⟩
  have hI0 : Iv fd (fun _ => 0) 1 0 0 := ⟨Nat.le_refl 1, Nat.le_refl 1, Nat.le_refl 0, fun i h => absurd h (Nat.not_lt_zero i)⟩
  generalize sx X 282 3 1 = X0 at *
  generalize sy Y 282 2 1 = Y0 at *
  generalize sy Z 285 5 1 = Z0 at *
  rcases st0 hB hC0 hM hY0 hZ0 hI0 (by decide) h10 with ⟨Z1, a1, a2, a3, a4, a5, a6⟩ | ⟨a1, a2⟩
  · have hI1 := hI0.step hB (by decide) a6
    rw [a1, a2]
    have hC1 : StC (ss0X X0 Y0 (nI (rr 0))) s fd := hC0.ss (fun k j h => ss0X_o h)
    generalize ss0X X0 Y0 (nI (rr 0)) = X1 at *
    generalize ss0Y X0 Y0 (nI (rr 0)) = Y1 at *
    rcases st1 hB hC1 hM a5 a3 hI1 (by decide) a4 with ⟨Z2, b1, b2, b3, b4, b5, b6⟩ | ⟨b1, b2⟩
    · have hI2 := hI1.step hB (by decide) b6
      rw [b1, b2]
      have hC2 : StC (ss1X X1 Y1 (nI (rr 1))) s fd := hC1.ss (fun k j h => ss1X_o h)
      generalize ss1X X1 Y1 (nI (rr 1)) = X2 at *
      generalize ss1Y X1 Y1 (nI (rr 1)) = Y2 at *
      rcases st2 hB hC2 hM b5 b3 hI2 (by decide) b4 with ⟨Z3, c1, c2, c3, c4, c5, c6⟩ | ⟨c1, c2⟩
      · have hI3 := hI2.step hB (by decide) c6
        rw [c1, c2]
        have hC3 : StC (ss2X X2 Y2 (nI (rr 2))) s fd := hC2.ss (fun k j h => ss2X_o h)
        generalize ss2X X2 Y2 (nI (rr 2)) = X3 at *
        generalize ss2Y X2 Y2 (nI (rr 2)) = Y3 at *
        rcases st3 hB hC3 hM c5 c3 hI3 (by decide) c4 with ⟨Z4, d1, d2, d3, d4, d5, d6⟩ | ⟨d1, d2⟩
        · have hI4 := hI3.step hB (by decide) d6
          rw [d1, d2]
          exact Or.inl ⟨rfl, d4, _, _, d5, d3, hI4⟩
        · exact Or.inr ⟨d1, d2⟩
      · exact Or.inr ⟨c1, ss3X_z c2⟩
    · exact Or.inr ⟨b1, ss3X_z (ss2X_z b2)⟩
  · exact Or.inr ⟨a1, ss3X_z (ss2X_z (ss1X_z a2))⟩
theorem solX_o {X : SX} {Y : SY} {r0 r1 r2 r3 : Int32} {k j : Nat} (h : k ≠ 282) : solX X Y r0 r1 r2 r3 k j = X k j := by
  unfold solX
  rw [ss3X_o h, ss2X_o h, ss1X_o h, ss0X_o h, sx_o (by omega)]
/-- bounds of what is made of the loads -/
theorem Iv.bd {fd L : Nat → Nat} {B : Nat} (h : Iv fd L B 4 14640000) : 0 < B ∧ B ≤ 100000000 ∧ L 0 + L 1 + L 2 + L 3 ≤ 14640000 * B ∧ fd 0 * B ≤ L 0 ∧ fd 1 * B ≤ L 1 ∧ fd 2 * B ≤ L 2 ∧ fd 3 * B ≤ L 3 := by
  obtain ⟨h1, h2, h3, h4⟩ := h
  have h3' : 0 + L 0 + L 1 + L 2 + L 3 ≤ 14640000 * B := h3
  have h2' : B ≤ 100000000 := h2
  exact ⟨h1, h2', by omega, h4 0 (by decide), h4 1 (by decide), h4 2 (by decide), h4 3 (by decide)⟩
/-- the settings as numbers -/
theorem SetR.nums {f : SX} {A : Nat → Int32} (h : SetR f A) : ∃ (s : Nat → Nat → Nat) (rr wk fd : Nat → Nat), Bd s rr fd ∧ (∀ j, j < 4 → wk j ≤ 100) ∧ StC f s fd ∧ (∀ i j, i < 4 → j < 4 → A (4 * i + j) = nI (s i j)) ∧ (∀ j, j < 4 → A (24 + j) = nI (fd j)) ∧ (∀ j, j < 4 → A (16 + j) = nI (rr j) ∧ f 8 j = nI (rr j)) ∧ ∀ j, j < 4 → A (20 + j) = nI (wk j) ∧ f 9 j = nI (wk j) := by
  obtain ⟨h1, h2, h3, h4, h5, h6, ⟨s, h7, h8, h9⟩, h10, h11, h12, h13, h14⟩ := h
  have tn : ∀ {x : Int32} {n : Nat}, x = nI n → n < 2 ^ 31 → x = nI (tN x) ∧ tN x = n := fun e hn => by rw [e]; exact ⟨by rw [tN_n rfl hn], tN_n rfl hn⟩
  have g10 : ∀ j, j < 4 → A (16 + j) = nI (tN (A (16 + j))) ∧ tN (A (16 + j)) ≤ 10 := fun j hj => by
    obtain ⟨n, k, e⟩ := h10 j hj
    obtain ⟨e1, e2⟩ := tn e (by omega)
    exact ⟨e1, by omega⟩
  have g11 : ∀ j, j < 4 → A (20 + j) = nI (tN (A (20 + j))) ∧ tN (A (20 + j)) ≤ 100 := fun j hj => by
    obtain ⟨n, k, e⟩ := h11 j hj
    obtain ⟨e1, e2⟩ := tn e (by omega)
    exact ⟨e1, by omega⟩
  have g12 : ∀ j, j < 4 → A (24 + j) = nI (tN (A (24 + j))) ∧ tN (A (24 + j)) ≤ 1000 := fun j hj => by
    obtain ⟨n, k, e⟩ := h12 j hj
    obtain ⟨e1, e2⟩ := tn e (by omega)
    exact ⟨e1, by omega⟩
  refine ⟨s, fun j => tN (A (16 + j)), fun j => tN (A (20 + j)), fun j => tN (A (24 + j)), ⟨fun i j hi hj => ?_, fun j hj => (g10 j hj).2, fun j hj => (g12 j hj).2⟩, fun j hj => (g11 j hj).2, ⟨fun i j hi hj => (h1 i j hi hj).trans (h7 i j hi hj), fun j hj => (h4 j hj).trans (g12 j hj).1⟩, h7, fun j hj => (g12 j hj).1, fun j hj => ⟨(g10 j hj).1, (h2 j hj).trans (g10 j hj).1⟩, fun j hj => ⟨(g11 j hj).1, (h3 j hj).trans (g11 j hj).1⟩⟩
  have hs := h8 i hi
  rcases (show j = 0 ∨ j = 1 ∨ j = 2 ∨ j = 3 by omega) with rfl | rfl | rfl | rfl <;> omega
theorem pw_n {w L : Nat → Nat} {W : Nat → Int32} {F : Nat → Int64} (hw : ∀ j, j < 4 → W j = nI (w j) ∧ w j ≤ 100) (hF : ∀ j, j < 4 → F j = lN (L j)) : 0 + (W 0).toInt64 * F 0 + (W 1).toInt64 * F 1 + (W 2).toInt64 * F 2 + (W 3).toInt64 * F 3 = lN (w 0 * L 0 + w 1 * L 1 + w 2 * L 2 + w 3 * L 3) := by
  have t : ∀ j, j < 4 → (W j).toInt64 = lN (w j) := fun j hj => by rw [(hw j hj).1, nI_l (by have := (hw j hj).2; omega)]
  rw [t 0 (by decide), t 1 (by decide), t 2 (by decide), t 3 (by decide), hF 0 (by decide), hF 1 (by decide), hF 2 (by decide), hF 3 (by decide), lN_mul, lN_mul, lN_mul, lN_mul, lN_0a, lN_add, lN_add, lN_add]
theorem pw_le {w L : Nat → Nat} {B : Nat} (hw : ∀ j, j < 4 → w j ≤ 100) (hL : L 0 + L 1 + L 2 + L 3 ≤ 14640000 * B) (hB : B ≤ 100000000) : w 0 * L 0 + w 1 * L 1 + w 2 * L 2 + w 3 * L 3 < 2 ^ 63 := by
  have h0 : w 0 * L 0 ≤ 100 * L 0 := Nat.mul_le_mul_right _ (hw 0 (by decide))
  have h1 : w 1 * L 1 ≤ 100 * L 1 := Nat.mul_le_mul_right _ (hw 1 (by decide))
  have h2 : w 2 * L 2 ≤ 100 * L 2 := Nat.mul_le_mul_right _ (hw 2 (by decide))
  have h3 : w 3 * L 3 ≤ 100 * L 3 := Nat.mul_le_mul_right _ (hw 3 (by decide))
  omega
