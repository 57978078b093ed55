/-! ===== 29: the steady state's pairs ===== -/
def Sg (X M : SX) (s : Nat → Nat → Nat) (wk fd : Nat → Nat) : Prop := (∀ i j, i < 4 → j < 4 → X (4 + i) j = nI (s i j) ∧ M 286 (4 * i + j) = nI (s i j)) ∧ (∀ j, j < 4 → X 9 j = nI (wk j) ∧ M 286 (20 + j) = nI (wk j)) ∧ ∀ j, j < 4 → X 10 j = nI (fd j) ∧ M 286 (24 + j) = nI (fd j)
def EqS (r : Int32) (X1 : SX) (Y1 Z1 : SY) (fd : Nat → Nat) : Prop := (r = 1 ∧ X1 282 3 = 1 ∧ ∃ L B, YC Y1 4 L B ∧ YM Z1 4 L B ∧ Iv fd L B 4 14640000) ∨ (r = 0 ∧ X1 282 3 = 0)
theorem Sg.same {X M X' M' : SX} {s : Nat → Nat → Nat} {wk fd : Nat → Nat} (h : Sg X M s wk fd) (e1 : ∀ k j, k ≤ 281 → X' k j = X k j) (e2 : ∀ j, M' 286 j = M 286 j) : Sg X' M' s wk fd :=
  ⟨fun i j hi hj => by rw [e1 _ _ (by omega), e2]; exact h.1 i j hi hj, fun j hj => by rw [e1 _ _ (by omega), e2]; exact h.2.1 j hj, fun j hj => by rw [e1 _ _ (by omega), e2]; exact h.2.2 j hj⟩
theorem R2.sg {X : SX} {b : Nat} (h : R2 X b) : ∃ (s : Nat → Nat → Nat) (rr wk fd : Nat → Nat), Bd s rr fd ∧ (∀ j, j < 4 → wk j ≤ 100) ∧ Sg X X s wk fd ∧ ∀ j, j < 4 → X 8 j = nI (rr j) ∧ X 286 (16 + j) = nI (rr j) := by
  obtain ⟨s, rr, wk, fd, a1, a2, a3, a4, a5, a6, a7⟩ := (h.1.setR).nums
  exact ⟨s, rr, wk, fd, a1, a2, ⟨fun i j hi hj => ⟨a3.1 i j hi hj, a4 i j hi hj⟩, fun j hj => ⟨(a7 j hj).2, (a7 j hj).1⟩, fun j hj => ⟨a3.2 j hj, a5 j hj⟩⟩, fun j hj => ⟨(a6 j hj).2, (a6 j hj).1⟩⟩
theorem R2.far {X X' : SX} {b : Nat} (h : R2 X b) (e1 : ∀ k j, k ≤ 281 → X' k j = X k j) (e2 : ∀ k j, 286 ≤ k → k ≤ 288 → X' k j = X k j) : R2 X' (b + 1) := by
  refine h.slots (fun k j a1 a2 => e1 k j a2) (fun j => e2 _ _ (by omega) (by omega)) (fun j => e2 _ _ (by omega) (by omega)) ?_
  refine (h.1.mono (Nat.le_succ b)).same (fun j _ => e2 _ _ (by omega) (by omega)) (fun cnt _ hc => ?_)
  exact ⟨fun k j a1 a2 a3 => e1 _ _ (by omega), e1 _ _ (by omega), e1 _ _ (by omega), fun j a1 a2 => e1 _ _ (by omega), fun j a1 => e1 _ _ (by omega), fun i j a1 a2 => e1 _ _ (by omega), fun i j a1 a2 a3 => e1 _ _ (by omega)⟩
theorem f4_le {a b c d n : Nat} (ha : a ≤ n) (hb : b ≤ n) (hc : c ≤ n) (hd : d ≤ n) (j : Nat) : f4 a b c d j ≤ n := by
  unfold f4
  repeat' split
  all_goals assumption
theorem solE {X M : SX} {Y Z : SY} {s : Nat → Nat → Nat} {rr fd : Nat → Nat} {r0 r1 r2 r3 : Int32} (hB : Bd s rr fd) (hC : StC X s fd) (hM : StM M s rr fd) (e0 : r0 = nI (rr 0)) (e1 : r1 = nI (rr 1)) (e2 : r2 = nI (rr 2)) (e3 : r3 = nI (rr 3)) : EqS (llr M Z) (solX X Y r0 r1 r2 r3) (solY X Y r0 r1 r2 r3) (llY M Z) fd := by
  rw [e0, e1, e2, e3]
  exact solP hB hC hM
theorem ac0_o {M : SX} {k j : Nat} (h : k ≠ 289) : ac0X M k j = M k j := by
  unfold ac0X
  rw [sx_o (by omega), sx_o (by omega), sx_o (by omega), sx_o (by omega)]
theorem cu0_o {X : SX} {Y : SY} {k j : Nat} (h : k ≠ 282) (h2 : k ≠ 284) : cu0X X Y k j = X k j := by
  unfold cu0X
  rw [solX_o h, sx_o (by omega), sx_o (by omega), sx_o (by omega), sx_o (by omega)]
theorem cuS0 {X M : SX} {s : Nat → Nat → Nat} {rr wk fd : Nat → Nat} (hB : Bd s rr fd) (h : Sg X M s wk fd) (Y Z : SY) : Sg (cu0X X Y) (ac0X M) s wk fd ∧ EqS (llr (ac0X M) Z) (cu0X X Y) (cu0Y X Y) (llY (ac0X M) Z) fd := by
  refine ⟨h.same (fun k j a => cu0_o (by omega) (by omega)) (fun j => ac0_o (by omega)), ?_⟩
  have hB' : Bd s (f4 0 0 0 0) fd := ⟨hB.1, fun j _ => f4_le (by decide) (by decide) (by decide) (by decide) j, hB.2.2⟩
  have hM : StM (ac0X M) s (f4 0 0 0 0) fd := by
    refine ⟨fun i j hi hj => by rw [ac0_o (by omega)]; exact (h.1 i j hi hj).2, fun j hj => ?_, fun j hj => by rw [ac0_o (by omega)]; exact (h.2.2 j hj).2⟩
    unfold ac0X
    rcases (show j = 0 ∨ j = 1 ∨ j = 2 ∨ j = 3 by omega) with rfl | rfl | rfl | rfl
    · rw [sx_o (by omega), sx_o (by omega), sx_o (by omega), sx_e]; rfl
    · rw [sx_o (by omega), sx_o (by omega), sx_e]; rfl
    · rw [sx_o (by omega), sx_e]; rfl
    · rw [sx_e]; rfl
  have hC : StC (sx (sx (sx (sx X 284 0 0) 284 1 0) 284 2 0) 284 3 0) s fd := ⟨fun i j hi hj => by rw [sx_o (by omega), sx_o (by omega), sx_o (by omega), sx_o (by omega)]; exact (h.1 i j hi hj).1, fun j hj => by rw [sx_o (by omega), sx_o (by omega), sx_o (by omega), sx_o (by omega)]; exact (h.2.2 j hj).1⟩
  unfold cu0X cu0Y
  exact solE hB' hC hM rfl rfl rfl rfl
theorem ac1_o {M : SX} {k j : Nat} (h : k ≠ 289) : ac1X M k j = M k j := by
  unfold ac1X
  rw [sx_o (by omega), sx_o (by omega), sx_o (by omega), sx_o (by omega)]
theorem cu1_o {X : SX} {Y : SY} {k j : Nat} (h : k ≠ 282) (h2 : k ≠ 284) : cu1X X Y k j = X k j := by
  unfold cu1X
  rw [solX_o h, sx_o (by omega), sx_o (by omega), sx_o (by omega), sx_o (by omega)]
theorem cuS1 {X M : SX} {s : Nat → Nat → Nat} {rr wk fd : Nat → Nat} (hB : Bd s rr fd) (h : Sg X M s wk fd) (Y Z : SY) : Sg (cu1X X Y) (ac1X M) s wk fd ∧ EqS (llr (ac1X M) Z) (cu1X X Y) (cu1Y X Y) (llY (ac1X M) Z) fd := by
  refine ⟨h.same (fun k j a => cu1_o (by omega) (by omega)) (fun j => ac1_o (by omega)), ?_⟩
  have hB' : Bd s (f4 10 0 0 0) fd := ⟨hB.1, fun j _ => f4_le (by decide) (by decide) (by decide) (by decide) j, hB.2.2⟩
  have hM : StM (ac1X M) s (f4 10 0 0 0) fd := by
    refine ⟨fun i j hi hj => by rw [ac1_o (by omega)]; exact (h.1 i j hi hj).2, fun j hj => ?_, fun j hj => by rw [ac1_o (by omega)]; exact (h.2.2 j hj).2⟩
    unfold ac1X
    rcases (show j = 0 ∨ j = 1 ∨ j = 2 ∨ j = 3 by omega) with rfl | rfl | rfl | rfl
    · rw [sx_o (by omega), sx_o (by omega), sx_o (by omega), sx_e]; rfl
    · rw [sx_o (by omega), sx_o (by omega), sx_e]; rfl
    · rw [sx_o (by omega), sx_e]; rfl
    · rw [sx_e]; rfl
  have hC : StC (sx (sx (sx (sx X 284 0 10) 284 1 0) 284 2 0) 284 3 0) s fd := ⟨fun i j hi hj => by rw [sx_o (by omega), sx_o (by omega), sx_o (by omega), sx_o (by omega)]; exact (h.1 i j hi hj).1, fun j hj => by rw [sx_o (by omega), sx_o (by omega), sx_o (by omega), sx_o (by omega)]; exact (h.2.2 j hj).1⟩
  unfold cu1X cu1Y
  exact solE hB' hC hM rfl rfl rfl rfl
theorem ac2_o {M : SX} {k j : Nat} (h : k ≠ 289) : ac2X M k j = M k j := by
  unfold ac2X
  rw [sx_o (by omega), sx_o (by omega), sx_o (by omega), sx_o (by omega)]
theorem cu2_o {X : SX} {Y : SY} {k j : Nat} (h : k ≠ 282) (h2 : k ≠ 284) : cu2X X Y k j = X k j := by
  unfold cu2X
  rw [solX_o h, sx_o (by omega), sx_o (by omega), sx_o (by omega), sx_o (by omega)]
theorem cuS2 {X M : SX} {s : Nat → Nat → Nat} {rr wk fd : Nat → Nat} (hB : Bd s rr fd) (h : Sg X M s wk fd) (Y Z : SY) : Sg (cu2X X Y) (ac2X M) s wk fd ∧ EqS (llr (ac2X M) Z) (cu2X X Y) (cu2Y X Y) (llY (ac2X M) Z) fd := by
  refine ⟨h.same (fun k j a => cu2_o (by omega) (by omega)) (fun j => ac2_o (by omega)), ?_⟩
  have hB' : Bd s (f4 10 10 0 0) fd := ⟨hB.1, fun j _ => f4_le (by decide) (by decide) (by decide) (by decide) j, hB.2.2⟩
  have hM : StM (ac2X M) s (f4 10 10 0 0) fd := by
    refine ⟨fun i j hi hj => by rw [ac2_o (by omega)]; exact (h.1 i j hi hj).2, fun j hj => ?_, fun j hj => by rw [ac2_o (by omega)]; exact (h.2.2 j hj).2⟩
    unfold ac2X
    rcases (show j = 0 ∨ j = 1 ∨ j = 2 ∨ j = 3 by omega) with rfl | rfl | rfl | rfl
    · rw [sx_o (by omega), sx_o (by omega), sx_o (by omega), sx_e]; rfl
    · rw [sx_o (by omega), sx_o (by omega), sx_e]; rfl
    · rw [sx_o (by omega), sx_e]; rfl
    · rw [sx_e]; rfl
  have hC : StC (sx (sx (sx (sx X 284 0 10) 284 1 10) 284 2 0) 284 3 0) s fd := ⟨fun i j hi hj => by rw [sx_o (by omega), sx_o (by omega), sx_o (by omega), sx_o (by omega)]; exact (h.1 i j hi hj).1, fun j hj => by rw [sx_o (by omega), sx_o (by omega), sx_o (by omega), sx_o (by omega)]; exact (h.2.2 j hj).1⟩
  unfold cu2X cu2Y
  exact solE hB' hC hM rfl rfl rfl rfl
theorem ac3_o {M : SX} {k j : Nat} (h : k ≠ 289) : ac3X M k j = M k j := by
  unfold ac3X
  rw [sx_o (by omega), sx_o (by omega), sx_o (by omega), sx_o (by omega)]
theorem cu3_o {X : SX} {Y : SY} {k j : Nat} (h : k ≠ 282) (h2 : k ≠ 284) : cu3X X Y k j = X k j := by
  unfold cu3X
  rw [solX_o h, sx_o (by omega), sx_o (by omega), sx_o (by omega), sx_o (by omega)]
theorem cuS3 {X M : SX} {s : Nat → Nat → Nat} {rr wk fd : Nat → Nat} (hB : Bd s rr fd) (h : Sg X M s wk fd) (Y Z : SY) : Sg (cu3X X Y) (ac3X M) s wk fd ∧ EqS (llr (ac3X M) Z) (cu3X X Y) (cu3Y X Y) (llY (ac3X M) Z) fd := by
  refine ⟨h.same (fun k j a => cu3_o (by omega) (by omega)) (fun j => ac3_o (by omega)), ?_⟩
  have hB' : Bd s (f4 10 10 10 0) fd := ⟨hB.1, fun j _ => f4_le (by decide) (by decide) (by decide) (by decide) j, hB.2.2⟩
  have hM : StM (ac3X M) s (f4 10 10 10 0) fd := by
    refine ⟨fun i j hi hj => by rw [ac3_o (by omega)]; exact (h.1 i j hi hj).2, fun j hj => ?_, fun j hj => by rw [ac3_o (by omega)]; exact (h.2.2 j hj).2⟩
    unfold ac3X
    rcases (show j = 0 ∨ j = 1 ∨ j = 2 ∨ j = 3 by omega) with rfl | rfl | rfl | rfl
    · rw [sx_o (by omega), sx_o (by omega), sx_o (by omega), sx_e]; rfl
    · rw [sx_o (by omega), sx_o (by omega), sx_e]; rfl
    · rw [sx_o (by omega), sx_e]; rfl
    · rw [sx_e]; rfl
  have hC : StC (sx (sx (sx (sx X 284 0 10) 284 1 10) 284 2 10) 284 3 0) s fd := ⟨fun i j hi hj => by rw [sx_o (by omega), sx_o (by omega), sx_o (by omega), sx_o (by omega)]; exact (h.1 i j hi hj).1, fun j hj => by rw [sx_o (by omega), sx_o (by omega), sx_o (by omega), sx_o (by omega)]; exact (h.2.2 j hj).1⟩
  unfold cu3X cu3Y
  exact solE hB' hC hM rfl rfl rfl rfl
theorem ac4_o {M : SX} {k j : Nat} (h : k ≠ 289) : ac4X M k j = M k j := by
  unfold ac4X
  rw [sx_o (by omega), sx_o (by omega), sx_o (by omega), sx_o (by omega)]
theorem cu4_o {X : SX} {Y : SY} {k j : Nat} (h : k ≠ 282) (h2 : k ≠ 284) : cu4X X Y k j = X k j := by
  unfold cu4X
  rw [solX_o h, sx_o (by omega), sx_o (by omega), sx_o (by omega), sx_o (by omega)]
theorem cuS4 {X M : SX} {s : Nat → Nat → Nat} {rr wk fd : Nat → Nat} (hB : Bd s rr fd) (h : Sg X M s wk fd) (Y Z : SY) : Sg (cu4X X Y) (ac4X M) s wk fd ∧ EqS (llr (ac4X M) Z) (cu4X X Y) (cu4Y X Y) (llY (ac4X M) Z) fd := by
  refine ⟨h.same (fun k j a => cu4_o (by omega) (by omega)) (fun j => ac4_o (by omega)), ?_⟩
  have hB' : Bd s (f4 10 10 10 10) fd := ⟨hB.1, fun j _ => f4_le (by decide) (by decide) (by decide) (by decide) j, hB.2.2⟩
  have hM : StM (ac4X M) s (f4 10 10 10 10) fd := by
    refine ⟨fun i j hi hj => by rw [ac4_o (by omega)]; exact (h.1 i j hi hj).2, fun j hj => ?_, fun j hj => by rw [ac4_o (by omega)]; exact (h.2.2 j hj).2⟩
    unfold ac4X
    rcases (show j = 0 ∨ j = 1 ∨ j = 2 ∨ j = 3 by omega) with rfl | rfl | rfl | rfl
    · rw [sx_o (by omega), sx_o (by omega), sx_o (by omega), sx_e]; rfl
    · rw [sx_o (by omega), sx_o (by omega), sx_e]; rfl
    · rw [sx_o (by omega), sx_e]; rfl
    · rw [sx_e]; rfl
  have hC : StC (sx (sx (sx (sx X 284 0 10) 284 1 10) 284 2 10) 284 3 10) s fd := ⟨fun i j hi hj => by rw [sx_o (by omega), sx_o (by omega), sx_o (by omega), sx_o (by omega)]; exact (h.1 i j hi hj).1, fun j hj => by rw [sx_o (by omega), sx_o (by omega), sx_o (by omega), sx_o (by omega)]; exact (h.2.2 j hj).1⟩
  unfold cu4X cu4Y
  exact solE hB' hC hM rfl rfl rfl rfl
theorem as_o {M : SX} {k j : Nat} (h : k ≠ 289) : asX M k j = M k j := by
  unfold asX
  rw [sx_o (by omega), sx_o (by omega), sx_o (by omega), sx_o (by omega)]
theorem asP {X : SX} {b : Nat} (h : R2 X b) (Y : SY) : ∃ (s : Nat → Nat → Nat) (rr wk fd : Nat → Nat), Bd s rr fd ∧ (∀ j, j < 4 → wk j ≤ 100) ∧ Sg (solX X Y (X 8 0) (X 8 1) (X 8 2) (X 8 3)) (asX (solX X Y (X 8 0) (X 8 1) (X 8 2) (X 8 3))) s wk fd ∧ (∀ j, j < 4 → (solX X Y (X 8 0) (X 8 1) (X 8 2) (X 8 3)) 8 j = nI (rr j) ∧ asX (solX X Y (X 8 0) (X 8 1) (X 8 2) (X 8 3)) 289 j = nI (rr j)) ∧ EqS (llr (asX (solX X Y (X 8 0) (X 8 1) (X 8 2) (X 8 3))) (solY X Y (X 8 0) (X 8 1) (X 8 2) (X 8 3))) (solX X Y (X 8 0) (X 8 1) (X 8 2) (X 8 3)) (solY X Y (X 8 0) (X 8 1) (X 8 2) (X 8 3)) (llY (asX (solX X Y (X 8 0) (X 8 1) (X 8 2) (X 8 3))) (solY X Y (X 8 0) (X 8 1) (X 8 2) (X 8 3))) fd ∧ R2 (asX (solX X Y (X 8 0) (X 8 1) (X 8 2) (X 8 3))) (b + 1) := by
  obtain ⟨s, rr, wk, fd, a1, a2, a3, a4⟩ := h.sg
  have hS : Sg (solX X Y (X 8 0) (X 8 1) (X 8 2) (X 8 3)) (asX (solX X Y (X 8 0) (X 8 1) (X 8 2) (X 8 3))) s wk fd := a3.same (fun k j a => solX_o (by omega)) (fun j => by rw [as_o (by omega), solX_o (by omega)])
  have h9 : ∀ j, j < 4 → (solX X Y (X 8 0) (X 8 1) (X 8 2) (X 8 3)) 8 j = nI (rr j) ∧ asX (solX X Y (X 8 0) (X 8 1) (X 8 2) (X 8 3)) 289 j = nI (rr j) := fun j hj => by
    refine ⟨by rw [solX_o (by omega)]; exact (a4 j hj).1, ?_⟩
    unfold asX
    rcases (show j = 0 ∨ j = 1 ∨ j = 2 ∨ j = 3 by omega) with rfl | rfl | rfl | rfl
    · rw [sx_o (by omega), sx_o (by omega), sx_o (by omega), sx_e, solX_o (by omega)]; exact (a4 0 (by decide)).2
    · rw [sx_o (by omega), sx_o (by omega), sx_e, solX_o (by omega)]; exact (a4 1 (by decide)).2
    · rw [sx_o (by omega), sx_e, solX_o (by omega)]; exact (a4 2 (by decide)).2
    · rw [sx_e, solX_o (by omega)]; exact (a4 3 (by decide)).2
  refine ⟨s, rr, wk, fd, a1, a2, hS, h9, ?_, h.far (fun k j a => by rw [as_o (by omega), solX_o (by omega)]) (fun k j a a' => by rw [as_o (by omega), solX_o (by omega)])⟩
  have hC : StC X s fd := ⟨fun i j hi hj => (a3.1 i j hi hj).1, fun j hj => (a3.2.2 j hj).1⟩
  have hM : StM (asX (solX X Y (X 8 0) (X 8 1) (X 8 2) (X 8 3))) s rr fd := ⟨fun i j hi hj => (hS.1 i j hi hj).2, fun j hj => (h9 j hj).2, fun j hj => (hS.2.2 j hj).2⟩
  have q := solP (Y := Y) (Z := solY X Y (X 8 0) (X 8 1) (X 8 2) (X 8 3)) a1 hC hM
  rw [← (a4 0 (by decide)).1, ← (a4 1 (by decide)).1, ← (a4 2 (by decide)).1, ← (a4 3 (by decide)).1] at q
  exact q
def pwN (w L : Nat → Nat) : Nat := w 0 * L 0 + w 1 * L 1 + w 2 * L 2 + w 3 * L 3
theorem Sg.pw {X M : SX} {Y Z : SY} {s : Nat → Nat → Nat} {wk fd L : Nat → Nat} {B : Nat} (h : Sg X M s wk fd) (hw : ∀ j, j < 4 → wk j ≤ 100) (hY : YC Y 4 L B) (hZ : YM Z 4 L B) : pwr X Y = lN (pwN wk L) ∧ pwrM M Z = lN (pwN wk L) :=
  ⟨pw_n (W := fun j => X 9 j) (F := fun j => Y 283 j) (fun j hj => ⟨(h.2.1 j hj).1, hw j hj⟩) (fun j hj => hY.2 j hj), pw_n (W := fun j => M 286 (20 + j)) (F := fun j => Z 290 j) (fun j hj => ⟨(h.2.1 j hj).2, hw j hj⟩) (fun j hj => hZ.2 j hj)⟩
theorem one_ne {x : Int32} (h : x = 1) : ¬ x = 0 := by rw [h]; decide
theorem sub10 {r : Nat} (h : r ≤ 10) : (10 : Int32) - nI r = nI (10 - r) := by
  rcases (show r = 0 ∨ r = 1 ∨ r = 2 ∨ r = 3 ∨ r = 4 ∨ r = 5 ∨ r = 6 ∨ r = 7 ∨ r = 8 ∨ r = 9 ∨ r = 10 by omega) with rfl | rfl | rfl | rfl | rfl | rfl | rfl | rfl | rfl | rfl | rfl <;> rfl
theorem P_load (l : Launch) (G : GG) (o : Nat) (X : SX) (Y : SY) (b : Nat) (u v : Int32) (h : R2 X b) : PJ l yX5_load cX5_load 3 yX6_load cX6_load 4 G o [.int u, .int v] X Y b := by
  by_cases h1 : Wi u 0 3
  · by_cases h2 : Wi v 0 1
    · obtain ⟨j, hj, rfl⟩ := wi_nat (n := 3) (by decide) h1
      obtain ⟨s, rr, wk, fd, hB, hw, hS, h9, hE, hR⟩ := asP h Y
      rcases hE with ⟨e1, e2, L, B, eY, eZ, eI⟩ | ⟨e1, e2⟩
      · obtain ⟨b1, b2, b3, -⟩ := eI.bd
        have hL : L j < 2 ^ 63 := by rcases (show j = 0 ∨ j = 1 ∨ j = 2 ∨ j = 3 by omega) with rfl | rfl | rfl | rfl <;> omega
        obtain ⟨f1, f2, f3, f4⟩ := frac_ok hL (show B < 2 ^ 50 by omega) b1
        have y1 := eY.2 j (by omega)
        have z1 := eZ.2 j (by omega)
        rcases z01.mp h2 with rfl | rfl
        · exact PJ.of (c_X5_load_y0 l G o X Y j (by omega) h1 (one_ne e2) (by rw [y1, eY.1]; exact f4)) (c_X6_load_y0 l G o _ _ j (by omega) h1 (one_ne e1) (by rw [z1]; exact f1) (by rw [z1, eZ.1]; exact f2) (by rw [z1, eZ.1]; exact f3)) (by rw [y1, eY.1, z1, eZ.1]) (by decide) hR
        · exact PJ.of (c_X5_load_y1 l G o X Y j (by omega) h1 (one_ne e2) (by rw [y1, eY.1]; exact f4)) (c_X6_load_y1 l G o _ _ j (by omega) h1 (one_ne e1) (by rw [z1]; exact f1) (by rw [z1, eZ.1]; exact f2) (by rw [z1, eZ.1]; exact f3)) (by rw [y1, eY.1, z1, eZ.1]) (by decide) hR
      · rcases z01.mp h2 with rfl | rfl
        · exact PJ.of (c_X5_load_n0 l G o X Y _ h1 e2) (c_X6_load_n0 l G o _ _ _ h1 e1) rfl (by decide) hR
        · exact PJ.of (c_X5_load_n1 l G o X Y _ h1 e2) (c_X6_load_n1 l G o _ _ _ h1 e1) rfl (by decide) hR
    · exact PJ.of (c_X5_load_b l G o X Y u v h1 (fun q => h2 (z01.mpr q))) (c_X6_load_b l G o _ _ u v h1 h2) rfl (by decide) h.nx
  · exact PJ.of (c_X5_load_a l G o X Y u v h1) (c_X6_load_a l G o _ _ u v h1) rfl (by decide) h.nx
theorem P_power (l : Launch) (G : GG) (o : Nat) (X : SX) (Y : SY) (b : Nat) (v : Int32) (h : R2 X b) : PJ l yX5_power cX5_power 2 yX6_power cX6_power 3 G o [.int v] X Y b := by
  by_cases h2 : Wi v 0 1
  · obtain ⟨s, rr, wk, fd, hB, hw, hS, h9, hE, hR⟩ := asP h Y
    rcases hE with ⟨e1, e2, L, B, eY, eZ, eI⟩ | ⟨e1, e2⟩
    · obtain ⟨b1, b2, b3, -⟩ := eI.bd
      obtain ⟨f1, f2, f3, f4⟩ := frac_ok (pw_le hw b3 b2) (show B < 2 ^ 50 by omega) b1
      obtain ⟨y1, z1⟩ := hS.pw hw eY eZ
      rcases z01.mp h2 with rfl | rfl
      · exact PJ.of (c_X5_power_y0 l G o X Y (one_ne e2) (by rw [y1, eY.1]; exact f4)) (c_X6_power_y0 l G o _ _ (one_ne e1) (by rw [z1]; exact f1) (by rw [z1, eZ.1]; exact f2) (by rw [z1, eZ.1]; exact f3)) (by rw [y1, eY.1, z1, eZ.1]) (by decide) hR
      · exact PJ.of (c_X5_power_y1 l G o X Y (one_ne e2) (by rw [y1, eY.1]; exact f4)) (c_X6_power_y1 l G o _ _ (one_ne e1) (by rw [z1]; exact f1) (by rw [z1, eZ.1]; exact f2) (by rw [z1, eZ.1]; exact f3)) (by rw [y1, eY.1, z1, eZ.1]) (by decide) hR
    · rcases z01.mp h2 with rfl | rfl
      · exact PJ.of (c_X5_power_n0 l G o X Y e2) (c_X6_power_n0 l G o _ _ e1) rfl (by decide) hR
      · exact PJ.of (c_X5_power_n1 l G o X Y e2) (c_X6_power_n1 l G o _ _ e1) rfl (by decide) hR
  · exact PJ.of (c_X5_power_b l G o X Y v (fun q => h2 (z01.mpr q))) (c_X6_power_b l G o _ _ v h2) rfl (by decide) h.nx
theorem Sg.pr {X M : SX} {Y Z : SY} {s : Nat → Nat → Nat} {rr wk fd L : Nat → Nat} {B : Nat} (hB : Bd s rr fd) (h : Sg X M s wk fd) (h9 : ∀ j, j < 4 → X 8 j = nI (rr j) ∧ M 289 j = nI (rr j)) (hY : YC Y 4 L B) (hZ : YM Z 4 L B) :
    ((ent X Y 0 + Y 283 0 * (X 4 0).toInt64) * (10 - X 8 0).toInt64 = lN ((eN s L 0 + L 0 * s 0 0) * (10 - rr 0)) ∧ (0 + Z 290 0 * (M 286 0).toInt64) * (10 - M 289 0).toInt64 = lN ((eN s L 0 + L 0 * s 0 0) * (10 - rr 0))) ∧
    ((ent X Y 1 + Y 283 1 * (X 5 1).toInt64) * (10 - X 8 1).toInt64 = lN ((eN s L 1 + L 1 * s 1 1) * (10 - rr 1)) ∧ ((0 + Z 290 0 * (M 286 1).toInt64) + Z 290 1 * (M 286 5).toInt64) * (10 - M 289 1).toInt64 = lN ((eN s L 1 + L 1 * s 1 1) * (10 - rr 1))) ∧
    ((ent X Y 2 + Y 283 2 * (X 6 2).toInt64) * (10 - X 8 2).toInt64 = lN ((eN s L 2 + L 2 * s 2 2) * (10 - rr 2)) ∧ (((0 + Z 290 0 * (M 286 2).toInt64) + Z 290 1 * (M 286 6).toInt64) + Z 290 2 * (M 286 10).toInt64) * (10 - M 289 2).toInt64 = lN ((eN s L 2 + L 2 * s 2 2) * (10 - rr 2))) ∧
    ((ent X Y 3 + Y 283 3 * (X 7 3).toInt64) * (10 - X 8 3).toInt64 = lN ((eN s L 3 + L 3 * s 3 3) * (10 - rr 3)) ∧ ((((0 + Z 290 0 * (M 286 3).toInt64) + Z 290 1 * (M 286 7).toInt64) + Z 290 2 * (M 286 11).toInt64) + Z 290 3 * (M 286 15).toInt64) * (10 - M 289 3).toInt64 = lN ((eN s L 3 + L 3 * s 3 3) * (10 - rr 3))) := by
  have y0 := hY.2 0 (by decide)
  have z0 := hZ.2 0 (by decide)
  have r0 : (10 - X 8 0).toInt64 = lN (10 - rr 0) := by rw [(h9 0 (by decide)).1, sub10 (hB.2.1 0 (by decide)), nI_l (by omega)]
  have m0 : (10 - M 289 0).toInt64 = lN (10 - rr 0) := by rw [(h9 0 (by decide)).2, sub10 (hB.2.1 0 (by decide)), nI_l (by omega)]
  have c00 : (X 4 0).toInt64 = lN (s 0 0) := by rw [(h.1 0 0 (by decide) (by decide)).1, nI_l (by have := hB.1 0 0 (by decide) (by decide); omega)]
  have d00 : (M 286 0).toInt64 = lN (s 0 0) := by rw [(h.1 0 0 (by decide) (by decide)).2, nI_l (by have := hB.1 0 0 (by decide) (by decide); omega)]
  have c01 : (X 4 1).toInt64 = lN (s 0 1) := by rw [(h.1 0 1 (by decide) (by decide)).1, nI_l (by have := hB.1 0 1 (by decide) (by decide); omega)]
  have d01 : (M 286 1).toInt64 = lN (s 0 1) := by rw [(h.1 0 1 (by decide) (by decide)).2, nI_l (by have := hB.1 0 1 (by decide) (by decide); omega)]
  have c02 : (X 4 2).toInt64 = lN (s 0 2) := by rw [(h.1 0 2 (by decide) (by decide)).1, nI_l (by have := hB.1 0 2 (by decide) (by decide); omega)]
  have d02 : (M 286 2).toInt64 = lN (s 0 2) := by rw [(h.1 0 2 (by decide) (by decide)).2, nI_l (by have := hB.1 0 2 (by decide) (by decide); omega)]
  have c03 : (X 4 3).toInt64 = lN (s 0 3) := by rw [(h.1 0 3 (by decide) (by decide)).1, nI_l (by have := hB.1 0 3 (by decide) (by decide); omega)]
  have d03 : (M 286 3).toInt64 = lN (s 0 3) := by rw [(h.1 0 3 (by decide) (by decide)).2, nI_l (by have := hB.1 0 3 (by decide) (by decide); omega)]
  have y1 := hY.2 1 (by decide)
  have z1 := hZ.2 1 (by decide)
  have r1 : (10 - X 8 1).toInt64 = lN (10 - rr 1) := by rw [(h9 1 (by decide)).1, sub10 (hB.2.1 1 (by decide)), nI_l (by omega)]
  have m1 : (10 - M 289 1).toInt64 = lN (10 - rr 1) := by rw [(h9 1 (by decide)).2, sub10 (hB.2.1 1 (by decide)), nI_l (by omega)]
  have c11 : (X 5 1).toInt64 = lN (s 1 1) := by rw [(h.1 1 1 (by decide) (by decide)).1, nI_l (by have := hB.1 1 1 (by decide) (by decide); omega)]
  have d11 : (M 286 5).toInt64 = lN (s 1 1) := by rw [(h.1 1 1 (by decide) (by decide)).2, nI_l (by have := hB.1 1 1 (by decide) (by decide); omega)]
  have c12 : (X 5 2).toInt64 = lN (s 1 2) := by rw [(h.1 1 2 (by decide) (by decide)).1, nI_l (by have := hB.1 1 2 (by decide) (by decide); omega)]
  have d12 : (M 286 6).toInt64 = lN (s 1 2) := by rw [(h.1 1 2 (by decide) (by decide)).2, nI_l (by have := hB.1 1 2 (by decide) (by decide); omega)]
  have c13 : (X 5 3).toInt64 = lN (s 1 3) := by rw [(h.1 1 3 (by decide) (by decide)).1, nI_l (by have := hB.1 1 3 (by decide) (by decide); omega)]
  have d13 : (M 286 7).toInt64 = lN (s 1 3) := by rw [(h.1 1 3 (by decide) (by decide)).2, nI_l (by have := hB.1 1 3 (by decide) (by decide); omega)]
  have y2 := hY.2 2 (by decide)
  have z2 := hZ.2 2 (by decide)
  have r2 : (10 - X 8 2).toInt64 = lN (10 - rr 2) := by rw [(h9 2 (by decide)).1, sub10 (hB.2.1 2 (by decide)), nI_l (by omega)]
  have m2 : (10 - M 289 2).toInt64 = lN (10 - rr 2) := by rw [(h9 2 (by decide)).2, sub10 (hB.2.1 2 (by decide)), nI_l (by omega)]
  have c22 : (X 6 2).toInt64 = lN (s 2 2) := by rw [(h.1 2 2 (by decide) (by decide)).1, nI_l (by have := hB.1 2 2 (by decide) (by decide); omega)]
  have d22 : (M 286 10).toInt64 = lN (s 2 2) := by rw [(h.1 2 2 (by decide) (by decide)).2, nI_l (by have := hB.1 2 2 (by decide) (by decide); omega)]
  have c23 : (X 6 3).toInt64 = lN (s 2 3) := by rw [(h.1 2 3 (by decide) (by decide)).1, nI_l (by have := hB.1 2 3 (by decide) (by decide); omega)]
  have d23 : (M 286 11).toInt64 = lN (s 2 3) := by rw [(h.1 2 3 (by decide) (by decide)).2, nI_l (by have := hB.1 2 3 (by decide) (by decide); omega)]
  have y3 := hY.2 3 (by decide)
  have z3 := hZ.2 3 (by decide)
  have r3 : (10 - X 8 3).toInt64 = lN (10 - rr 3) := by rw [(h9 3 (by decide)).1, sub10 (hB.2.1 3 (by decide)), nI_l (by omega)]
  have m3 : (10 - M 289 3).toInt64 = lN (10 - rr 3) := by rw [(h9 3 (by decide)).2, sub10 (hB.2.1 3 (by decide)), nI_l (by omega)]
  have c33 : (X 7 3).toInt64 = lN (s 3 3) := by rw [(h.1 3 3 (by decide) (by decide)).1, nI_l (by have := hB.1 3 3 (by decide) (by decide); omega)]
  have d33 : (M 286 15).toInt64 = lN (s 3 3) := by rw [(h.1 3 3 (by decide) (by decide)).2, nI_l (by have := hB.1 3 3 (by decide) (by decide); omega)]
  refine ⟨⟨?_, ?_⟩, ⟨?_, ?_⟩, ⟨?_, ?_⟩, ?_, ?_⟩
  · show ((0 : Int64) + Y 283 0 * (X 4 0).toInt64) * (10 - X 8 0).toInt64 = lN ((0 + L 0 * s 0 0) * (10 - rr 0))
    simp only [c00, y0, r0, lN_mul, lN_0a, lN_add, Nat.zero_add]
  · show _ = lN ((0 + L 0 * s 0 0) * (10 - rr 0))
    simp only [d00, z0, m0, lN_mul, lN_0a, lN_add, Nat.zero_add]
  · show ((0 + Y 283 0 * (X 4 1).toInt64) + Y 283 1 * (X 5 1).toInt64) * (10 - X 8 1).toInt64 = lN ((L 0 * s 0 1 + L 1 * s 1 1) * (10 - rr 1))
    simp only [c01, y0, c11, y1, r1, lN_mul, lN_0a, lN_add, Nat.zero_add]
  · show _ = lN ((L 0 * s 0 1 + L 1 * s 1 1) * (10 - rr 1))
    simp only [d01, z0, d11, z1, m1, lN_mul, lN_0a, lN_add, Nat.zero_add]
  · show ((0 + Y 283 0 * (X 4 2).toInt64 + Y 283 1 * (X 5 2).toInt64) + Y 283 2 * (X 6 2).toInt64) * (10 - X 8 2).toInt64 = lN (((L 0 * s 0 2 + L 1 * s 1 2) + L 2 * s 2 2) * (10 - rr 2))
    simp only [c02, y0, c12, y1, c22, y2, r2, lN_mul, lN_0a, lN_add, Nat.zero_add]
  · show _ = lN (((L 0 * s 0 2 + L 1 * s 1 2) + L 2 * s 2 2) * (10 - rr 2))
    simp only [d02, z0, d12, z1, d22, z2, m2, lN_mul, lN_0a, lN_add, Nat.zero_add]
  · show ((0 + Y 283 0 * (X 4 3).toInt64 + Y 283 1 * (X 5 3).toInt64 + Y 283 2 * (X 6 3).toInt64) + Y 283 3 * (X 7 3).toInt64) * (10 - X 8 3).toInt64 = lN (((L 0 * s 0 3 + L 1 * s 1 3 + L 2 * s 2 3) + L 3 * s 3 3) * (10 - rr 3))
    simp only [c03, y0, c13, y1, c23, y2, c33, y3, r3, lN_mul, lN_0a, lN_add, Nat.zero_add]
  · show _ = lN (((L 0 * s 0 3 + L 1 * s 1 3 + L 2 * s 2 3) + L 3 * s 3 3) * (10 - rr 3))
    simp only [d03, z0, d13, z1, d23, z2, d33, z3, m3, lN_mul, lN_0a, lN_add, Nat.zero_add]
theorem pr_le {s : Nat → Nat → Nat} {rr fd L : Nat → Nat} {B j : Nat} (hB : Bd s rr fd) (hL : L 0 + L 1 + L 2 + L 3 ≤ 14640000 * B) (hb : B ≤ 100000000) (hj : j < 4) : (eN s L j + L j * s j j) * (10 - rr j) < 2 ^ 63 := by
  have h1 := eN_le (L := L) hB j hj
  have h2 := m10 (a := L j) (hB.1 j j hj hj)
  have h3 := m10 (a := eN s L j + L j * s j j) (show 10 - rr j ≤ 10 by omega)
  rcases (show j = 0 ∨ j = 1 ∨ j = 2 ∨ j = 3 by omega) with rfl | rfl | rfl | rfl <;> simp only [sumL] at h1 <;> omega
theorem den100 (B : Nat) : lN B * 10 * 10 = lN (100 * B) ∧ 100 * lN B = lN (100 * B) := by
  constructor
  · show lN B * lN 10 * lN 10 = lN (100 * B)
    rw [lN_mul, lN_mul]
    exact congrArg lN (by omega)
  · show lN 100 * lN B = lN (100 * B)
    rw [lN_mul]
theorem P_product (l : Launch) (G : GG) (o : Nat) (X : SX) (Y : SY) (b : Nat) (u v : Int32) (h : R2 X b) : PJ l yX5_product cX5_product 8 yX6_product cX6_product 7 G o [.int u, .int v] X Y b := by
  by_cases h1 : Wi u 0 3
  · by_cases h2 : Wi v 0 1
    · obtain ⟨j, hj, rfl⟩ := wi_nat (n := 3) (by decide) h1
      obtain ⟨s, rr, wk, fd, hB, hw, hS, h9, hE, hR⟩ := asP h Y
      rcases hE with ⟨e1, e2, L, B, eY, eZ, eI⟩ | ⟨e1, e2⟩
      · obtain ⟨b1, b2, b3, -⟩ := eI.bd
        have p0 := hS.pr hB h9 eY eZ
        have yd := (den100 B).1
        have zd := (den100 B).2
        rw [← eY.1] at yd
        rw [← eZ.1] at zd
        rcases (show j = 0 ∨ j = 1 ∨ j = 2 ∨ j = 3 by omega) with rfl | rfl | rfl | rfl
        · obtain ⟨f1, f2, f3, f4⟩ := frac_ok (pr_le (j := 0) hB b3 b2 (by decide)) (show 100 * B < 2 ^ 50 by omega) (show 0 < 100 * B by omega)
          obtain ⟨y1, z1⟩ := p0.1
          rcases z01.mp h2 with rfl | rfl
          · exact PJ.of (c_X5_product_y0_0 l G o X Y (one_ne e2) (by rw [y1, yd]; exact f4)) (c_X6_product_y0_0 l G o _ _ (one_ne e1) (by rw [z1]; exact f1) (by rw [z1, zd]; exact f2) (by rw [z1, zd]; exact f3)) (by rw [y1, yd, z1, zd]) (by decide) hR
          · exact PJ.of (c_X5_product_y1_0 l G o X Y (one_ne e2) (by rw [y1, yd]; exact f4)) (c_X6_product_y1_0 l G o _ _ (one_ne e1) (by rw [z1]; exact f1) (by rw [z1, zd]; exact f2) (by rw [z1, zd]; exact f3)) (by rw [y1, yd, z1, zd]) (by decide) hR
        · obtain ⟨f1, f2, f3, f4⟩ := frac_ok (pr_le (j := 1) hB b3 b2 (by decide)) (show 100 * B < 2 ^ 50 by omega) (show 0 < 100 * B by omega)
          obtain ⟨y1, z1⟩ := p0.2.1
          rcases z01.mp h2 with rfl | rfl
          · exact PJ.of (c_X5_product_y0_1 l G o X Y (one_ne e2) (by rw [y1, yd]; exact f4)) (c_X6_product_y0_1 l G o _ _ (one_ne e1) (by rw [z1]; exact f1) (by rw [z1, zd]; exact f2) (by rw [z1, zd]; exact f3)) (by rw [y1, yd, z1, zd]) (by decide) hR
          · exact PJ.of (c_X5_product_y1_1 l G o X Y (one_ne e2) (by rw [y1, yd]; exact f4)) (c_X6_product_y1_1 l G o _ _ (one_ne e1) (by rw [z1]; exact f1) (by rw [z1, zd]; exact f2) (by rw [z1, zd]; exact f3)) (by rw [y1, yd, z1, zd]) (by decide) hR
        · obtain ⟨f1, f2, f3, f4⟩ := frac_ok (pr_le (j := 2) hB b3 b2 (by decide)) (show 100 * B < 2 ^ 50 by omega) (show 0 < 100 * B by omega)
          obtain ⟨y1, z1⟩ := p0.2.2.1
          rcases z01.mp h2 with rfl | rfl
          · exact PJ.of (c_X5_product_y0_2 l G o X Y (one_ne e2) (by rw [y1, yd]; exact f4)) (c_X6_product_y0_2 l G o _ _ (one_ne e1) (by rw [z1]; exact f1) (by rw [z1, zd]; exact f2) (by rw [z1, zd]; exact f3)) (by rw [y1, yd, z1, zd]) (by decide) hR
          · exact PJ.of (c_X5_product_y1_2 l G o X Y (one_ne e2) (by rw [y1, yd]; exact f4)) (c_X6_product_y1_2 l G o _ _ (one_ne e1) (by rw [z1]; exact f1) (by rw [z1, zd]; exact f2) (by rw [z1, zd]; exact f3)) (by rw [y1, yd, z1, zd]) (by decide) hR
        · obtain ⟨f1, f2, f3, f4⟩ := frac_ok (pr_le (j := 3) hB b3 b2 (by decide)) (show 100 * B < 2 ^ 50 by omega) (show 0 < 100 * B by omega)
          obtain ⟨y1, z1⟩ := p0.2.2.2
          rcases z01.mp h2 with rfl | rfl
          · exact PJ.of (c_X5_product_y0_3 l G o X Y (one_ne e2) (by rw [y1, yd]; exact f4)) (c_X6_product_y0_3 l G o _ _ (one_ne e1) (by rw [z1]; exact f1) (by rw [z1, zd]; exact f2) (by rw [z1, zd]; exact f3)) (by rw [y1, yd, z1, zd]) (by decide) hR
          · exact PJ.of (c_X5_product_y1_3 l G o X Y (one_ne e2) (by rw [y1, yd]; exact f4)) (c_X6_product_y1_3 l G o _ _ (one_ne e1) (by rw [z1]; exact f1) (by rw [z1, zd]; exact f2) (by rw [z1, zd]; exact f3)) (by rw [y1, yd, z1, zd]) (by decide) hR
      · rcases z01.mp h2 with rfl | rfl
        · exact PJ.of (c_X5_product_n0 l G o X Y _ h1 e2) (c_X6_product_n0 l G o _ _ _ h1 e1) rfl (by decide) hR
        · exact PJ.of (c_X5_product_n1 l G o X Y _ h1 e2) (c_X6_product_n1 l G o _ _ _ h1 e1) rfl (by decide) hR
    · exact PJ.of (c_X5_product_b l G o X Y u v h1 (fun q => h2 (z01.mpr q))) (c_X6_product_b l G o _ _ u v h1 h2) rfl (by decide) h.nx
  · exact PJ.of (c_X5_product_a l G o X Y u v h1) (c_X6_product_a l G o _ _ u v h1) rfl (by decide) h.nx
theorem Sg.cl {X M : SX} {Y Z : SY} {s : Nat → Nat → Nat} {rr wk fd L : Nat → Nat} {B : Nat} (hB : Bd s rr fd) (h : Sg X M s wk fd) (hY : YC Y 4 L B) (hZ : YM Z 4 L B) :
    (sum4 (X 10)).toInt64 = lN (fd 0 + fd 1 + fd 2 + fd 3) ∧ ((((0 + ((M 286 24).toInt64)) + ((M 286 25).toInt64)) + ((M 286 26).toInt64)) + ((M 286 27).toInt64)) = lN (fd 0 + fd 1 + fd 2 + fd 3) ∧ sml Y = lN (L 0 + L 1 + L 2 + L 3) ∧ ((((0 + (Z 290 0)) + (Z 290 1)) + (Z 290 2)) + (Z 290 3)) = lN (L 0 + L 1 + L 2 + L 3) := by
  have h0 := h.2.2 0 (by decide)
  have h1 := h.2.2 1 (by decide)
  have h2 := h.2.2 2 (by decide)
  have h3 := h.2.2 3 (by decide)
  have g0 := hB.2.2 0 (by decide)
  have g1 := hB.2.2 1 (by decide)
  have g2 := hB.2.2 2 (by decide)
  have g3 := hB.2.2 3 (by decide)
  refine ⟨?_, ?_, ?_, ?_⟩
  · unfold sum4
    rw [h0.1, h1.1, h2.1, h3.1, Int32.zero_add, nI_add, nI_add, nI_add, nI_l (by omega)]
  · rw [h0.2, h1.2, h2.2, h3.2, nI_l (by omega), nI_l (by omega), nI_l (by omega), nI_l (by omega), lN_0a, lN_add, lN_add, lN_add]
  · unfold sml
    rw [hY.2 0 (by decide), hY.2 1 (by decide), hY.2 2 (by decide), hY.2 3 (by decide), lN_0a, lN_add, lN_add, lN_add]
  · rw [hZ.2 0 (by decide), hZ.2 1 (by decide), hZ.2 2 (by decide), hZ.2 3 (by decide), lN_0a, lN_add, lN_add, lN_add]
theorem P_circulatingLoad (l : Launch) (G : GG) (o : Nat) (X : SX) (Y : SY) (b : Nat) (v : Int32) (h : R2 X b) : PJ l yX5_circulatingLoad cX5_circulatingLoad 4 yX6_circulatingLoad cX6_circulatingLoad 8 G o [.int v] X Y b := by
  by_cases h2 : Wi v 0 1
  · obtain ⟨s, rr, wk, fd, hB, hw, hS, h9, hE, hR⟩ := asP h Y
    rcases hE with ⟨e1, e2, L, B, eY, eZ, eI⟩ | ⟨e1, e2⟩
    · obtain ⟨b1, b2, b3, c0, c1, c2, c3⟩ := eI.bd
      obtain ⟨s1, s2, s3, s4⟩ := hS.cl hB eY eZ
      have g0 := hB.2.2 0 (by decide)
      have g1 := hB.2.2 1 (by decide)
      have g2 := hB.2.2 2 (by decide)
      have g3 := hB.2.2 3 (by decide)
      have hF : (fd 0 + fd 1 + fd 2 + fd 3) * B ≤ L 0 + L 1 + L 2 + L 3 := by rw [Nat.add_mul, Nat.add_mul, Nat.add_mul]; omega
      have hF2 : fd 0 + fd 1 + fd 2 + fd 3 ≤ 4000 := by omega
      generalize fd 0 + fd 1 + fd 2 + fd 3 = F at *
      generalize hT : L 0 + L 1 + L 2 + L 3 = T at *
      have hFB : F * B ≤ 4000 * B := Nat.mul_le_mul_right B hF2
      by_cases hz : F = 0
      · have z1 : (sum4 ((solX X Y (X 8 0) (X 8 1) (X 8 2) (X 8 3)) 10)).toInt64 * ((solY X Y (X 8 0) (X 8 1) (X 8 2) (X 8 3)) 282 2) = 0 := by
          rw [s1, eY.1, lN_mul, hz, Nat.zero_mul]; rfl
        rcases z01.mp h2 with rfl | rfl
        · exact PJ.of (c_X5_circulatingLoad_z0 l G o X Y (one_ne e2) z1) (c_X6_circulatingLoad_z0 l G o _ _ (one_ne e1) (by rw [s2, hz]; rfl)) rfl (by decide) hR
        · exact PJ.of (c_X5_circulatingLoad_z1 l G o X Y (one_ne e2) z1) (c_X6_circulatingLoad_z1 l G o _ _ (one_ne e1) (by rw [s2, hz]; rfl)) rfl (by decide) hR
      · have hp : 0 < F * B := Nat.mul_pos (by omega) b1
        have z1 : ¬ (sum4 ((solX X Y (X 8 0) (X 8 1) (X 8 2) (X 8 3)) 10)).toInt64 * ((solY X Y (X 8 0) (X 8 1) (X 8 2) (X 8 3)) 282 2) = 0 := by
          rw [s1, eY.1, lN_mul]
          exact fun q => by have := (lN_z (show F * B < 2 ^ 63 by omega)).mp q; omega
        have z2 : ¬ lN F = 0 := fun q => hz ((lN_z (by omega)).mp q)
        obtain ⟨f1, f2, f3, f4⟩ := frac_ok (show T - F * B < 2 ^ 63 by omega) (show F * B < 2 ^ 50 by omega) hp
        rcases z01.mp h2 with rfl | rfl
        · exact PJ.of (c_X5_circulatingLoad_y0 l G o X Y (one_ne e2) z1 (by rw [s1, s3, eY.1, lN_mul, lN_sub hF]; exact f4)) (c_X6_circulatingLoad_y0 l G o _ _ (one_ne e1) (by rw [s2]; exact z2) (by rw [s2, s4, eZ.1, lN_mul, lN_sub hF]; exact f1) (by rw [s2, s4, eZ.1, lN_mul, lN_sub hF]; exact f2) (by rw [s2, s4, eZ.1, lN_mul, lN_sub hF]; exact f3)) (by rw [s1, s3, eY.1, s2, s4, eZ.1]) (by decide) hR
        · exact PJ.of (c_X5_circulatingLoad_y1 l G o X Y (one_ne e2) z1 (by rw [s1, s3, eY.1, lN_mul, lN_sub hF]; exact f4)) (c_X6_circulatingLoad_y1 l G o _ _ (one_ne e1) (by rw [s2]; exact z2) (by rw [s2, s4, eZ.1, lN_mul, lN_sub hF]; exact f1) (by rw [s2, s4, eZ.1, lN_mul, lN_sub hF]; exact f2) (by rw [s2, s4, eZ.1, lN_mul, lN_sub hF]; exact f3)) (by rw [s1, s3, eY.1, s2, s4, eZ.1]) (by decide) hR
    · rcases z01.mp h2 with rfl | rfl
      · exact PJ.of (c_X5_circulatingLoad_n0 l G o X Y e2) (c_X6_circulatingLoad_n0 l G o _ _ e1) rfl (by decide) hR
      · exact PJ.of (c_X5_circulatingLoad_n1 l G o X Y e2) (c_X6_circulatingLoad_n1 l G o _ _ e1) rfl (by decide) hR
  · exact PJ.of (c_X5_circulatingLoad_b l G o X Y v (fun q => h2 (z01.mpr q))) (c_X6_circulatingLoad_b l G o _ _ v h2) rfl (by decide) h.nx
theorem P_cutPower_0 (l : Launch) (G : GG) (o : Nat) (X : SX) (Y : SY) (b : Nat) (v : Int32) (h : R2 X b) (h2 : Wi v 0 1) : PJ l yX5_cutPower cX5_cutPower 3 yX6_cutPower cX6_cutPower 3 G o [.int 0, .int v] X Y b := by
  obtain ⟨s, rr, wk, fd, hB, hw, hS0, -⟩ := h.sg
  have hR : R2 (ac0X (cu0X X Y)) (b + 1) := h.far (fun k j a => by rw [ac0_o (by omega), cu0_o (by omega) (by omega)]) (fun k j a a' => by rw [ac0_o (by omega), cu0_o (by omega) (by omega)])
  have hS1 : Sg X (cu0X X Y) s wk fd := hS0.same (fun k j a => rfl) (fun j => cu0_o (by omega) (by omega))
  obtain ⟨hS, hE⟩ := cuS0 hB hS1 Y (cu0Y X Y)
  rcases hE with ⟨e1, e2, L, B, eY, eZ, eI⟩ | ⟨e1, e2⟩
  · obtain ⟨b1, b2, b3, -⟩ := eI.bd
    obtain ⟨f1, f2, f3, f4⟩ := frac_ok (pw_le hw b3 b2) (show B < 2 ^ 50 by omega) b1
    obtain ⟨y1, z1⟩ := hS.pw hw eY eZ
    rcases z01.mp h2 with rfl | rfl
    · exact PJ.of (c_X5_cutPower_y0_0 l G o X Y (one_ne e2) (by rw [y1, eY.1]; exact f4)) (c_X6_cutPower_y0_0 l G o _ _ (one_ne e1) (by rw [z1]; exact f1) (by rw [z1, eZ.1]; exact f2) (by rw [z1, eZ.1]; exact f3)) (by rw [y1, eY.1, z1, eZ.1]) (by decide) hR
    · exact PJ.of (c_X5_cutPower_y1_0 l G o X Y (one_ne e2) (by rw [y1, eY.1]; exact f4)) (c_X6_cutPower_y1_0 l G o _ _ (one_ne e1) (by rw [z1]; exact f1) (by rw [z1, eZ.1]; exact f2) (by rw [z1, eZ.1]; exact f3)) (by rw [y1, eY.1, z1, eZ.1]) (by decide) hR
  · rcases z01.mp h2 with rfl | rfl
    · exact PJ.of (c_X5_cutPower_n0_0 l G o X Y e2) (c_X6_cutPower_n0_0 l G o _ _ e1) rfl (by decide) hR
    · exact PJ.of (c_X5_cutPower_n1_0 l G o X Y e2) (c_X6_cutPower_n1_0 l G o _ _ e1) rfl (by decide) hR
theorem P_cutPower_1 (l : Launch) (G : GG) (o : Nat) (X : SX) (Y : SY) (b : Nat) (v : Int32) (h : R2 X b) (h2 : Wi v 0 1) : PJ l yX5_cutPower cX5_cutPower 3 yX6_cutPower cX6_cutPower 3 G o [.int 1, .int v] X Y b := by
  obtain ⟨s, rr, wk, fd, hB, hw, hS0, -⟩ := h.sg
  have hR : R2 (ac1X (cu1X X Y)) (b + 1) := h.far (fun k j a => by rw [ac1_o (by omega), cu1_o (by omega) (by omega)]) (fun k j a a' => by rw [ac1_o (by omega), cu1_o (by omega) (by omega)])
  have hS1 : Sg X (cu1X X Y) s wk fd := hS0.same (fun k j a => rfl) (fun j => cu1_o (by omega) (by omega))
  obtain ⟨hS, hE⟩ := cuS1 hB hS1 Y (cu1Y X Y)
  rcases hE with ⟨e1, e2, L, B, eY, eZ, eI⟩ | ⟨e1, e2⟩
  · obtain ⟨b1, b2, b3, -⟩ := eI.bd
    obtain ⟨f1, f2, f3, f4⟩ := frac_ok (pw_le hw b3 b2) (show B < 2 ^ 50 by omega) b1
    obtain ⟨y1, z1⟩ := hS.pw hw eY eZ
    rcases z01.mp h2 with rfl | rfl
    · exact PJ.of (c_X5_cutPower_y0_1 l G o X Y (one_ne e2) (by rw [y1, eY.1]; exact f4)) (c_X6_cutPower_y0_1 l G o _ _ (one_ne e1) (by rw [z1]; exact f1) (by rw [z1, eZ.1]; exact f2) (by rw [z1, eZ.1]; exact f3)) (by rw [y1, eY.1, z1, eZ.1]) (by decide) hR
    · exact PJ.of (c_X5_cutPower_y1_1 l G o X Y (one_ne e2) (by rw [y1, eY.1]; exact f4)) (c_X6_cutPower_y1_1 l G o _ _ (one_ne e1) (by rw [z1]; exact f1) (by rw [z1, eZ.1]; exact f2) (by rw [z1, eZ.1]; exact f3)) (by rw [y1, eY.1, z1, eZ.1]) (by decide) hR
  · rcases z01.mp h2 with rfl | rfl
    · exact PJ.of (c_X5_cutPower_n0_1 l G o X Y e2) (c_X6_cutPower_n0_1 l G o _ _ e1) rfl (by decide) hR
    · exact PJ.of (c_X5_cutPower_n1_1 l G o X Y e2) (c_X6_cutPower_n1_1 l G o _ _ e1) rfl (by decide) hR
theorem P_cutPower_2 (l : Launch) (G : GG) (o : Nat) (X : SX) (Y : SY) (b : Nat) (v : Int32) (h : R2 X b) (h2 : Wi v 0 1) : PJ l yX5_cutPower cX5_cutPower 3 yX6_cutPower cX6_cutPower 3 G o [.int 2, .int v] X Y b := by
  obtain ⟨s, rr, wk, fd, hB, hw, hS0, -⟩ := h.sg
  have hR : R2 (ac2X (cu2X X Y)) (b + 1) := h.far (fun k j a => by rw [ac2_o (by omega), cu2_o (by omega) (by omega)]) (fun k j a a' => by rw [ac2_o (by omega), cu2_o (by omega) (by omega)])
  have hS1 : Sg X (cu2X X Y) s wk fd := hS0.same (fun k j a => rfl) (fun j => cu2_o (by omega) (by omega))
  obtain ⟨hS, hE⟩ := cuS2 hB hS1 Y (cu2Y X Y)
  rcases hE with ⟨e1, e2, L, B, eY, eZ, eI⟩ | ⟨e1, e2⟩
  · obtain ⟨b1, b2, b3, -⟩ := eI.bd
    obtain ⟨f1, f2, f3, f4⟩ := frac_ok (pw_le hw b3 b2) (show B < 2 ^ 50 by omega) b1
    obtain ⟨y1, z1⟩ := hS.pw hw eY eZ
    rcases z01.mp h2 with rfl | rfl
    · exact PJ.of (c_X5_cutPower_y0_2 l G o X Y (one_ne e2) (by rw [y1, eY.1]; exact f4)) (c_X6_cutPower_y0_2 l G o _ _ (one_ne e1) (by rw [z1]; exact f1) (by rw [z1, eZ.1]; exact f2) (by rw [z1, eZ.1]; exact f3)) (by rw [y1, eY.1, z1, eZ.1]) (by decide) hR
    · exact PJ.of (c_X5_cutPower_y1_2 l G o X Y (one_ne e2) (by rw [y1, eY.1]; exact f4)) (c_X6_cutPower_y1_2 l G o _ _ (one_ne e1) (by rw [z1]; exact f1) (by rw [z1, eZ.1]; exact f2) (by rw [z1, eZ.1]; exact f3)) (by rw [y1, eY.1, z1, eZ.1]) (by decide) hR
  · rcases z01.mp h2 with rfl | rfl
    · exact PJ.of (c_X5_cutPower_n0_2 l G o X Y e2) (c_X6_cutPower_n0_2 l G o _ _ e1) rfl (by decide) hR
    · exact PJ.of (c_X5_cutPower_n1_2 l G o X Y e2) (c_X6_cutPower_n1_2 l G o _ _ e1) rfl (by decide) hR
theorem P_cutPower_3 (l : Launch) (G : GG) (o : Nat) (X : SX) (Y : SY) (b : Nat) (v : Int32) (h : R2 X b) (h2 : Wi v 0 1) : PJ l yX5_cutPower cX5_cutPower 3 yX6_cutPower cX6_cutPower 3 G o [.int 3, .int v] X Y b := by
  obtain ⟨s, rr, wk, fd, hB, hw, hS0, -⟩ := h.sg
  have hR : R2 (ac3X (cu3X X Y)) (b + 1) := h.far (fun k j a => by rw [ac3_o (by omega), cu3_o (by omega) (by omega)]) (fun k j a a' => by rw [ac3_o (by omega), cu3_o (by omega) (by omega)])
  have hS1 : Sg X (cu3X X Y) s wk fd := hS0.same (fun k j a => rfl) (fun j => cu3_o (by omega) (by omega))
  obtain ⟨hS, hE⟩ := cuS3 hB hS1 Y (cu3Y X Y)
  rcases hE with ⟨e1, e2, L, B, eY, eZ, eI⟩ | ⟨e1, e2⟩
  · obtain ⟨b1, b2, b3, -⟩ := eI.bd
    obtain ⟨f1, f2, f3, f4⟩ := frac_ok (pw_le hw b3 b2) (show B < 2 ^ 50 by omega) b1
    obtain ⟨y1, z1⟩ := hS.pw hw eY eZ
    rcases z01.mp h2 with rfl | rfl
    · exact PJ.of (c_X5_cutPower_y0_3 l G o X Y (one_ne e2) (by rw [y1, eY.1]; exact f4)) (c_X6_cutPower_y0_3 l G o _ _ (one_ne e1) (by rw [z1]; exact f1) (by rw [z1, eZ.1]; exact f2) (by rw [z1, eZ.1]; exact f3)) (by rw [y1, eY.1, z1, eZ.1]) (by decide) hR
    · exact PJ.of (c_X5_cutPower_y1_3 l G o X Y (one_ne e2) (by rw [y1, eY.1]; exact f4)) (c_X6_cutPower_y1_3 l G o _ _ (one_ne e1) (by rw [z1]; exact f1) (by rw [z1, eZ.1]; exact f2) (by rw [z1, eZ.1]; exact f3)) (by rw [y1, eY.1, z1, eZ.1]) (by decide) hR
  · rcases z01.mp h2 with rfl | rfl
    · exact PJ.of (c_X5_cutPower_n0_3 l G o X Y e2) (c_X6_cutPower_n0_3 l G o _ _ e1) rfl (by decide) hR
    · exact PJ.of (c_X5_cutPower_n1_3 l G o X Y e2) (c_X6_cutPower_n1_3 l G o _ _ e1) rfl (by decide) hR
theorem P_cutPower_4 (l : Launch) (G : GG) (o : Nat) (X : SX) (Y : SY) (b : Nat) (v : Int32) (h : R2 X b) (h2 : Wi v 0 1) : PJ l yX5_cutPower cX5_cutPower 3 yX6_cutPower cX6_cutPower 3 G o [.int 4, .int v] X Y b := by
  obtain ⟨s, rr, wk, fd, hB, hw, hS0, -⟩ := h.sg
  have hR : R2 (ac4X (cu4X X Y)) (b + 1) := h.far (fun k j a => by rw [ac4_o (by omega), cu4_o (by omega) (by omega)]) (fun k j a a' => by rw [ac4_o (by omega), cu4_o (by omega) (by omega)])
  have hS1 : Sg X (cu4X X Y) s wk fd := hS0.same (fun k j a => rfl) (fun j => cu4_o (by omega) (by omega))
  obtain ⟨hS, hE⟩ := cuS4 hB hS1 Y (cu4Y X Y)
  rcases hE with ⟨e1, e2, L, B, eY, eZ, eI⟩ | ⟨e1, e2⟩
  · obtain ⟨b1, b2, b3, -⟩ := eI.bd
    obtain ⟨f1, f2, f3, f4⟩ := frac_ok (pw_le hw b3 b2) (show B < 2 ^ 50 by omega) b1
    obtain ⟨y1, z1⟩ := hS.pw hw eY eZ
    rcases z01.mp h2 with rfl | rfl
    · exact PJ.of (c_X5_cutPower_y0_4 l G o X Y (one_ne e2) (by rw [y1, eY.1]; exact f4)) (c_X6_cutPower_y0_4 l G o _ _ (one_ne e1) (by rw [z1]; exact f1) (by rw [z1, eZ.1]; exact f2) (by rw [z1, eZ.1]; exact f3)) (by rw [y1, eY.1, z1, eZ.1]) (by decide) hR
    · exact PJ.of (c_X5_cutPower_y1_4 l G o X Y (one_ne e2) (by rw [y1, eY.1]; exact f4)) (c_X6_cutPower_y1_4 l G o _ _ (one_ne e1) (by rw [z1]; exact f1) (by rw [z1, eZ.1]; exact f2) (by rw [z1, eZ.1]; exact f3)) (by rw [y1, eY.1, z1, eZ.1]) (by decide) hR
  · rcases z01.mp h2 with rfl | rfl
    · exact PJ.of (c_X5_cutPower_n0_4 l G o X Y e2) (c_X6_cutPower_n0_4 l G o _ _ e1) rfl (by decide) hR
    · exact PJ.of (c_X5_cutPower_n1_4 l G o X Y e2) (c_X6_cutPower_n1_4 l G o _ _ e1) rfl (by decide) hR
theorem P_cutPower (l : Launch) (G : GG) (o : Nat) (X : SX) (Y : SY) (b : Nat) (u v : Int32) (h : R2 X b) : PJ l yX5_cutPower cX5_cutPower 3 yX6_cutPower cX6_cutPower 3 G o [.int u, .int v] X Y b := by
  by_cases h1 : Wi u 0 4
  · by_cases h2 : Wi v 0 1
    · obtain ⟨j, hj, rfl⟩ := wi_nat (n := 4) (by decide) h1
      rcases (show j = 0 ∨ j = 1 ∨ j = 2 ∨ j = 3 ∨ j = 4 by omega) with rfl | rfl | rfl | rfl | rfl
      · exact P_cutPower_0 l G o X Y b v h h2
      · exact P_cutPower_1 l G o X Y b v h h2
      · exact P_cutPower_2 l G o X Y b v h h2
      · exact P_cutPower_3 l G o X Y b v h h2
      · exact P_cutPower_4 l G o X Y b v h h2
    · exact PJ.of (c_X5_cutPower_b l G o X Y u v h1 (fun q => h2 (z01.mpr q))) (c_X6_cutPower_b l G o _ _ u v h1 h2) rfl (by decide) h.nx
  · exact PJ.of (c_X5_cutPower_a l G o X Y u v h1) (c_X6_cutPower_a l G o _ _ u v h1) rfl (by decide) h.nx
theorem fcEM {v : Int32} {X M : SX} {s : Nat → Nat → Nat} {rr wk fd : Nat → Nat} (hB : Bd s rr fd) (hw : ∀ j, j < 4 → wk j ≤ 100) (h : Sg X M s wk fd) (Y Z : SY) : fcrM v X Y = gcrM v M Z := rfl
theorem fcXM_o {v : Int32} {X : SX} {Y : SY} {k j : Nat} (h : k ≠ 282) (h2 : k ≠ 284) : fcXM v X Y k j = X k j := rfl
theorem gcXM_o {v : Int32} {X : SX} {Y : SY} {k j : Nat} (h : k ≠ 289) : gcXM v X Y k j = X k j := rfl
theorem fcE0 {v : Int32} {X M : SX} {s : Nat → Nat → Nat} {rr wk fd : Nat → Nat} (hB : Bd s rr fd) (hw : ∀ j, j < 4 → wk j ≤ 100) (h : Sg X M s wk fd) (Y Z : SY) : fcr0 v X Y = gcr0 v M Z := by
  unfold fcr0 gcr0
  obtain ⟨hS, hE⟩ := cuS0 hB h Y Z
  rcases hE with ⟨e1, e2, L, B, eY, eZ, eI⟩ | ⟨e1, e2⟩
  · obtain ⟨y1, z1⟩ := hS.pw hw eY eZ
    rw [if_neg (one_ne e1), if_neg (one_ne e2), y1, z1, eY.1, eZ.1, fcEM hB hw hS]
  · rw [if_pos e1, if_pos e2]
    exact fcEM hB hw hS _ _
theorem fcX0_o {v : Int32} {X : SX} {Y : SY} {k j : Nat} (h : k ≠ 282) (h2 : k ≠ 284) : fcX0 v X Y k j = X k j := by
  unfold fcX0
  split
  · rw [fcXM_o h h2, cu0_o h h2]
  · split
    · rw [fcXM_o h h2, cu0_o h h2]
    · exact cu0_o h h2
theorem gcX0_o {v : Int32} {X : SX} {Y : SY} {k j : Nat} (h : k ≠ 289) : gcX0 v X Y k j = X k j := by
  unfold gcX0
  split
  · rw [gcXM_o h, ac0_o h]
  · split
    · rw [gcXM_o h, ac0_o h]
    · exact ac0_o h
theorem fcE1 {v : Int32} {X M : SX} {s : Nat → Nat → Nat} {rr wk fd : Nat → Nat} (hB : Bd s rr fd) (hw : ∀ j, j < 4 → wk j ≤ 100) (h : Sg X M s wk fd) (Y Z : SY) : fcr1 v X Y = gcr1 v M Z := by
  unfold fcr1 gcr1
  obtain ⟨hS, hE⟩ := cuS1 hB h Y Z
  rcases hE with ⟨e1, e2, L, B, eY, eZ, eI⟩ | ⟨e1, e2⟩
  · obtain ⟨y1, z1⟩ := hS.pw hw eY eZ
    rw [if_neg (one_ne e1), if_neg (one_ne e2), y1, z1, eY.1, eZ.1, fcE0 hB hw hS]
  · rw [if_pos e1, if_pos e2]
    exact fcE0 hB hw hS _ _
theorem fcX1_o {v : Int32} {X : SX} {Y : SY} {k j : Nat} (h : k ≠ 282) (h2 : k ≠ 284) : fcX1 v X Y k j = X k j := by
  unfold fcX1
  split
  · rw [fcX0_o h h2, cu1_o h h2]
  · split
    · rw [fcX0_o h h2, cu1_o h h2]
    · exact cu1_o h h2
theorem gcX1_o {v : Int32} {X : SX} {Y : SY} {k j : Nat} (h : k ≠ 289) : gcX1 v X Y k j = X k j := by
  unfold gcX1
  split
  · rw [gcX0_o h, ac1_o h]
  · split
    · rw [gcX0_o h, ac1_o h]
    · exact ac1_o h
theorem fcE2 {v : Int32} {X M : SX} {s : Nat → Nat → Nat} {rr wk fd : Nat → Nat} (hB : Bd s rr fd) (hw : ∀ j, j < 4 → wk j ≤ 100) (h : Sg X M s wk fd) (Y Z : SY) : fcr2 v X Y = gcr2 v M Z := by
  unfold fcr2 gcr2
  obtain ⟨hS, hE⟩ := cuS2 hB h Y Z
  rcases hE with ⟨e1, e2, L, B, eY, eZ, eI⟩ | ⟨e1, e2⟩
  · obtain ⟨y1, z1⟩ := hS.pw hw eY eZ
    rw [if_neg (one_ne e1), if_neg (one_ne e2), y1, z1, eY.1, eZ.1, fcE1 hB hw hS]
  · rw [if_pos e1, if_pos e2]
    exact fcE1 hB hw hS _ _
theorem fcX2_o {v : Int32} {X : SX} {Y : SY} {k j : Nat} (h : k ≠ 282) (h2 : k ≠ 284) : fcX2 v X Y k j = X k j := by
  unfold fcX2
  split
  · rw [fcX1_o h h2, cu2_o h h2]
  · split
    · rw [fcX1_o h h2, cu2_o h h2]
    · exact cu2_o h h2
theorem gcX2_o {v : Int32} {X : SX} {Y : SY} {k j : Nat} (h : k ≠ 289) : gcX2 v X Y k j = X k j := by
  unfold gcX2
  split
  · rw [gcX1_o h, ac2_o h]
  · split
    · rw [gcX1_o h, ac2_o h]
    · exact ac2_o h
theorem fcE3 {v : Int32} {X M : SX} {s : Nat → Nat → Nat} {rr wk fd : Nat → Nat} (hB : Bd s rr fd) (hw : ∀ j, j < 4 → wk j ≤ 100) (h : Sg X M s wk fd) (Y Z : SY) : fcr3 v X Y = gcr3 v M Z := by
  unfold fcr3 gcr3
  obtain ⟨hS, hE⟩ := cuS3 hB h Y Z
  rcases hE with ⟨e1, e2, L, B, eY, eZ, eI⟩ | ⟨e1, e2⟩
  · obtain ⟨y1, z1⟩ := hS.pw hw eY eZ
    rw [if_neg (one_ne e1), if_neg (one_ne e2), y1, z1, eY.1, eZ.1, fcE2 hB hw hS]
  · rw [if_pos e1, if_pos e2]
    exact fcE2 hB hw hS _ _
theorem fcX3_o {v : Int32} {X : SX} {Y : SY} {k j : Nat} (h : k ≠ 282) (h2 : k ≠ 284) : fcX3 v X Y k j = X k j := by
  unfold fcX3
  split
  · rw [fcX2_o h h2, cu3_o h h2]
  · split
    · rw [fcX2_o h h2, cu3_o h h2]
    · exact cu3_o h h2
theorem gcX3_o {v : Int32} {X : SX} {Y : SY} {k j : Nat} (h : k ≠ 289) : gcX3 v X Y k j = X k j := by
  unfold gcX3
  split
  · rw [gcX2_o h, ac3_o h]
  · split
    · rw [gcX2_o h, ac3_o h]
    · exact ac3_o h
theorem fcE4 {v : Int32} {X M : SX} {s : Nat → Nat → Nat} {rr wk fd : Nat → Nat} (hB : Bd s rr fd) (hw : ∀ j, j < 4 → wk j ≤ 100) (h : Sg X M s wk fd) (Y Z : SY) : fcr4 v X Y = gcr4 v M Z := by
  unfold fcr4 gcr4
  obtain ⟨hS, hE⟩ := cuS4 hB h Y Z
  rcases hE with ⟨e1, e2, L, B, eY, eZ, eI⟩ | ⟨e1, e2⟩
  · obtain ⟨y1, z1⟩ := hS.pw hw eY eZ
    rw [if_neg (one_ne e1), if_neg (one_ne e2), y1, z1, eY.1, eZ.1, fcE3 hB hw hS]
  · rw [if_pos e1, if_pos e2]
    exact fcE3 hB hw hS _ _
theorem fcX4_o {v : Int32} {X : SX} {Y : SY} {k j : Nat} (h : k ≠ 282) (h2 : k ≠ 284) : fcX4 v X Y k j = X k j := by
  unfold fcX4
  split
  · rw [fcX3_o h h2, cu4_o h h2]
  · split
    · rw [fcX3_o h h2, cu4_o h h2]
    · exact cu4_o h h2
theorem gcX4_o {v : Int32} {X : SX} {Y : SY} {k j : Nat} (h : k ≠ 289) : gcX4 v X Y k j = X k j := by
  unfold gcX4
  split
  · rw [gcX3_o h, ac4_o h]
  · split
    · rw [gcX3_o h, ac4_o h]
    · exact ac4_o h
theorem P_finestCut (l : Launch) (G : GG) (o : Nat) (X : SX) (Y : SY) (b : Nat) (v : Int32) (h : R2 X b) : PI l yX5_finestCut cX5_finestCut 3 yX6_finestCut cX6_finestCut 3 G o [.int v] X Y b := by
  by_cases h1 : Wi v 0 1000000000
  · obtain ⟨s, rr, wk, fd, hB, hw, hS0, -⟩ := h.sg
    have hS1 : Sg X (fcX4 v X Y) s wk fd := hS0.same (fun k j a => rfl) (fun j => fcX4_o (by omega) (by omega))
    refine PI.of (c_X5_finestCut_y l G o X Y v h1) (c_X6_finestCut_y l G o _ _ v h1) (fcE4 hB hw hS1 Y _) (by decide) ?_
    exact h.far (fun k j a => by rw [gcX4_o (by omega), fcX4_o (by omega) (by omega)]) (fun k j a a' => by rw [gcX4_o (by omega), fcX4_o (by omega) (by omega)])
  · exact PI.of (c_X5_finestCut_a l G o X Y v h1) (c_X6_finestCut_a l G o _ _ v h1) rfl (by decide) h.nx
