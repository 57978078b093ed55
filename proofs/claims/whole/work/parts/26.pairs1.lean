/-! ===== 26: what holds between two calls of the law; the settings and the reads keep it ===== -/
def dd (sl : Nat) : Nat := if sl = 0 then 94 else 187
def R2 (X : SX) (b : Nat) : Prop := RelP X (X 286) b ∧ ∀ sl, sl < 2 → (X 281 sl = X 288 sl ∧ (X 281 sl = 0 ∨ (X 281 sl = 1 ∧ RelP (fun k => X (k + dd sl)) (fun j => X 287 (361 * sl + j)) b)))
def PI (l : Launch) (yc : MethodName) (cc : ByteArray) (nc : Nat) (ym : MethodName) (cm : ByteArray) (nm : Nat) (G : GG) (o : Nat) (as : List Value) (X : SX) (Y : SY) (b : Nat) : Prop :=
  ∃ (f1 lo1 f2 lo2 : Nat) (r : Int32) (X1 : SX) (Y1 : SY) (X2 : SX) (Y2 : SY), ((f1 ≤ 10 ∧ lo1 ≤ 300) ∧ f2 ≤ 10 ∧ lo2 ≤ 300) ∧ Ct l yc cc nc (some .int) f1 lo1 G o (.ref (o + 0) :: as) X Y (some (.int r)) X1 Y1 ∧ Ct l ym cm nm (some .int) f2 lo2 G o (.ref (o + 285) :: as) X1 Y1 (some (.int r)) X2 Y2 ∧ R2 X2 (b + 1)
def PJ (l : Launch) (yc : MethodName) (cc : ByteArray) (nc : Nat) (ym : MethodName) (cm : ByteArray) (nm : Nat) (G : GG) (o : Nat) (as : List Value) (X : SX) (Y : SY) (b : Nat) : Prop :=
  ∃ (f1 lo1 f2 lo2 : Nat) (r : Int64) (X1 : SX) (Y1 : SY) (X2 : SX) (Y2 : SY), ((f1 ≤ 10 ∧ lo1 ≤ 300) ∧ f2 ≤ 10 ∧ lo2 ≤ 300) ∧ Ct l yc cc nc (some .long) f1 lo1 G o (.ref (o + 0) :: as) X Y (some (.long r)) X1 Y1 ∧ Ct l ym cm nm (some .long) f2 lo2 G o (.ref (o + 285) :: as) X1 Y1 (some (.long r)) X2 Y2 ∧ R2 X2 (b + 1)
section PIS
variable {l : Launch} {yc ym : MethodName} {cc cm : ByteArray} {nc nm f1 lo1 f2 lo2 : Nat} {G : GG} {o : Nat} {as : List Value} {X X1 X2 : SX} {Y Y1 Y2 : SY} {b : Nat}
theorem PI.of {r r' : Int32} (hc : Ct l yc cc nc (some .int) f1 lo1 G o (.ref (o + 0) :: as) X Y (some (.int r)) X1 Y1) (hm : Ct l ym cm nm (some .int) f2 lo2 G o (.ref (o + 285) :: as) X1 Y1 (some (.int r')) X2 Y2) (e : r = r') (hb : (f1 ≤ 10 ∧ lo1 ≤ 300) ∧ f2 ≤ 10 ∧ lo2 ≤ 300) (hR : R2 X2 (b + 1)) : PI l yc cc nc ym cm nm G o as X Y b := by
  subst e
  exact ⟨_, _, _, _, _, _, _, _, _, hb, hc, hm, hR⟩
theorem PJ.of {r r' : Int64} (hc : Ct l yc cc nc (some .long) f1 lo1 G o (.ref (o + 0) :: as) X Y (some (.long r)) X1 Y1) (hm : Ct l ym cm nm (some .long) f2 lo2 G o (.ref (o + 285) :: as) X1 Y1 (some (.long r')) X2 Y2) (e : r = r') (hb : (f1 ≤ 10 ∧ lo1 ≤ 300) ∧ f2 ≤ 10 ∧ lo2 ≤ 300) (hR : R2 X2 (b + 1)) : PJ l yc cc nc ym cm nm G o as X Y b := by
  subst e
  exact ⟨_, _, _, _, _, _, _, _, _, hb, hc, hm, hR⟩
end PIS
theorem R2.mono {X : SX} {b b' : Nat} (h : R2 X b) (hb : b ≤ b') : R2 X b' := ⟨h.1.mono hb, fun sl hs => ⟨(h.2 sl hs).1, (h.2 sl hs).2.imp id (fun q => ⟨q.1, q.2.mono hb⟩)⟩⟩
theorem R2.nx {X : SX} {b : Nat} (h : R2 X b) : R2 X (b + 1) := h.mono (by omega)
/-- the slots are untouched -/
theorem R2.slots {X X' : SX} {b : Nat} (h : R2 X b) (e1 : ∀ k j, 95 ≤ k → k ≤ 281 → X' k j = X k j) (e2 : ∀ j, X' 287 j = X 287 j) (e3 : ∀ j, X' 288 j = X 288 j) (hP : RelP X' (X' 286) (b + 1)) : R2 X' (b + 1) := by
  refine ⟨hP, fun sl hs => ?_⟩
  rw [e1 281 sl (by decide) (by decide), e3]
  refine ⟨(h.2 sl hs).1, (h.2 sl hs).2.imp id (fun q => ⟨q.1, ?_⟩)⟩
  refine (q.2.mono (Nat.le_succ b)).same (fun j hj => e2 _) (fun cnt _ hc => ?_)
  unfold dd
  by_cases z : sl = 0
  · simp only [if_pos z]
    exact ⟨fun k j a1 a2 a3 => e1 _ _ (by omega) (by omega), e1 _ _ (by omega) (by omega), e1 _ _ (by omega) (by omega), fun j a1 a2 => e1 _ _ (by omega) (by omega), fun j a1 => e1 _ _ (by omega) (by omega), fun i j a1 a2 => e1 _ _ (by omega) (by omega), fun i j a1 a2 a3 => e1 _ _ (by omega) (by omega)⟩
  · simp only [if_neg z]
    exact ⟨fun k j a1 a2 a3 => e1 _ _ (by omega) (by omega), e1 _ _ (by omega) (by omega), e1 _ _ (by omega) (by omega), fun j a1 a2 => e1 _ _ (by omega) (by omega), fun j a1 => e1 _ _ (by omega) (by omega), fun i j a1 a2 => e1 _ _ (by omega) (by omega), fun i j a1 a2 a3 => e1 _ _ (by omega) (by omega)⟩
theorem wi_nat {x : Int32} {n : Nat} (hn : n < 2 ^ 31) (h : Wi x 0 (nI n)) : ∃ j, j ≤ n ∧ x = nI j := nI_of2 (nI_toInt hn) (Int32.not_lt.mpr h.1) h.2
theorem wi_of {j n : Nat} (h : j ≤ n) (hn : n < 2 ^ 31) : Wi (nI j) 0 (nI n) := ⟨nI_pos' (by omega), nI_le h hn⟩
/-- new settings: everything but the settings is as it was -/
theorem RelP.set {f f' : SX} {A A' : Nat → Int32} {b : Nat} (h : RelP f A b) (hS : SetR f' A') (e1 : ∀ k j, 11 ≤ k → k ≤ 93 → f' k j = f k j) (e2 : ∀ j, 30 ≤ j → A' j = A j) : RelP f' A' b := by
  obtain ⟨cnt, t, r, ⟨g1, g2, g3⟩, g4, g5, g6, g7, g8⟩ := h
  have h40 := g2.2.2.1
  refine ⟨cnt, t, r, ⟨hS, g2.same (e1 _ _ (by omega) (by omega)) (e1 _ _ (by omega) (by omega)) (e1 _ _ (by omega) (by omega)) (e1 _ _ (by omega) (by omega)) (fun j _ => e1 _ _ (by omega) (by omega)) (fun j h1 _ => e2 j (by omega)) (fun j _ => e2 _ (by omega)), g3.same (fun i j _ _ => e1 _ _ (by omega) (by omega)) (fun i j _ _ _ => e1 _ _ (by omega) (by omega)) (fun i j _ _ => e2 _ (by omega))⟩, ?_, ?_, g6, g7, ?_⟩
  · rw [e1 _ _ (by omega) (by omega)]; exact g4
  · rw [e2 _ (by omega)]; exact g5
  · unfold IdleR BusyR
    rw [e1 _ _ (by omega) (by omega), e1 _ _ (by omega) (by omega), e2 35 (by omega), e2 36 (by omega)]
    rcases g8 with ⟨z1, z2⟩ | z
    · exact Or.inl ⟨z1, fun i hi => by rw [e2 _ (by omega)]; exact z2 i hi⟩
    · exact Or.inr z
theorem RelP.setR {f : SX} {A : Nat → Int32} {b : Nat} (h : RelP f A b) : SetR f A := by
  obtain ⟨cnt, t, r, ⟨g1, -⟩, -⟩ := h
  exact g1
theorem SetR.setReturn {X : SX} {t n : Nat} (h : SetR X (X 286)) (ht : t < 4) (hn : n ≤ 10) : SetR (sx (sx X 8 t (nI n)) 286 (16 + t) (nI n)) (sx (sx X 8 t (nI n)) 286 (16 + t) (nI n) 286) := by
  obtain ⟨h1, h2, h3, h4, h5, h6, ⟨s, h7, h8, h9⟩, h10, h11, h12, h13, h14⟩ := h
  have o1 : ∀ k j, k ≠ 286 → ¬ (k = 8 ∧ j = t) → sx (sx X 8 t (nI n)) 286 (16 + t) (nI n) k j = X k j := fun k j a b => by rw [sx_o (by omega), sx_o b]
  have o2 : ∀ j, j ≠ 16 + t → sx (sx X 8 t (nI n)) 286 (16 + t) (nI n) 286 j = X 286 j := fun j a => by rw [sx_o (by omega), sx_o (by omega)]
  have n1 : sx (sx X 8 t (nI n)) 286 (16 + t) (nI n) 8 t = nI n := by rw [sx_o (by omega), sx_e]
  have n2 : sx (sx X 8 t (nI n)) 286 (16 + t) (nI n) 286 (16 + t) = nI n := sx_e
  generalize sx (sx X 8 t (nI n)) 286 (16 + t) (nI n) = Z at *
  refine ⟨fun i j hi hj => by rw [o1 _ _ (by omega) (by omega), o2 _ (by omega)]; exact h1 i j hi hj, fun j hj => ?_, fun j hj => ?_, fun j hj => ?_, by rw [o1 _ _ (by omega) (by omega), o2 _ (by omega)]; exact h5, by rw [o1 _ _ (by omega) (by omega), o2 _ (by omega)]; exact h6, ⟨s, fun i j hi hj => by rw [o2 _ (by omega)]; exact h7 i j hi hj, h8, h9⟩, fun j hj => ?_, fun j hj => ?_, fun j hj => ?_, by rw [o2 _ (by omega)]; exact h13, by rw [o2 _ (by omega)]; exact h14⟩
  · by_cases e : j = t
    · rw [e, n1, n2]
    · rw [o1 _ _ (by omega) (by omega), o2 _ (by omega)]; exact h2 j hj
  · rw [o1 _ _ (by omega) (by omega), o2 _ (by omega)]; exact h3 j hj
  · rw [o1 _ _ (by omega) (by omega), o2 _ (by omega)]; exact h4 j hj
  · by_cases e : j = t
    · rw [e]; exact ⟨n, hn, n2⟩
    · rw [o2 _ (by omega)]; exact h10 j hj
  · rw [o2 _ (by omega)]; exact h11 j hj
  · rw [o2 _ (by omega)]; exact h12 j hj
theorem P_setReturn (l : Launch) (G : GG) (o : Nat) (X : SX) (Y : SY) (b : Nat) (u v : Int32) (h : R2 X b) : PI l yX5_setReturn cX5_setReturn 3 yX6_setReturn cX6_setReturn 3 G o [.int u, .int v] X Y b := by
  by_cases h1 : Wi u 0 3
  · by_cases h2 : Wi v 0 10
    · obtain ⟨t, ht, rfl⟩ := wi_nat (n := 3) (by decide) h1
      obtain ⟨n, hn, rfl⟩ := wi_nat (n := 10) (by decide) h2
      refine PI.of (c_X5_setReturn_c l G o X Y t (nI n) (by omega) h1 h2) (c_X6_setReturn_c l G o _ _ t (nI n) (by omega) h1 h2) ?_ (by decide) ?_
      · rw [sx_o (by omega)]
        exact (h.1.setR).2.1 t (by omega)
      · refine h.slots (fun k j a1 a2 => by rw [sx_o (by omega), sx_o (by omega)]) (fun j => by rw [sx_o (by omega), sx_o (by omega)]) (fun j => by rw [sx_o (by omega), sx_o (by omega)]) ?_
        exact (h.1.mono (Nat.le_succ b)).set ((h.1.setR).setReturn (by omega) hn) (fun k j a1 a2 => by rw [sx_o (by omega), sx_o (by omega)]) (fun j a1 => by rw [sx_o (by omega), sx_o (by omega)])
    · exact PI.of (c_X5_setReturn_b l G o X Y u v h1 h2) (c_X6_setReturn_b l G o _ _ u v h1 h2) rfl (by decide) h.nx
  · exact PI.of (c_X5_setReturn_a l G o X Y u v h1) (c_X6_setReturn_a l G o _ _ u v h1) rfl (by decide) h.nx
theorem SetR.setWork {X : SX} {t n : Nat} (h : SetR X (X 286)) (ht : t < 4) (hn : n ≤ 100) : SetR (sx (sx X 9 t (nI n)) 286 (20 + t) (nI n)) (sx (sx X 9 t (nI n)) 286 (20 + t) (nI n) 286) := by
  obtain ⟨h1, h2, h3, h4, h5, h6, ⟨s, h7, h8, h9⟩, h10, h11, h12, h13, h14⟩ := h
  have o1 : ∀ k j, k ≠ 286 → ¬ (k = 9 ∧ j = t) → sx (sx X 9 t (nI n)) 286 (20 + t) (nI n) k j = X k j := fun k j a b => by rw [sx_o (by omega), sx_o b]
  have o2 : ∀ j, j ≠ 20 + t → sx (sx X 9 t (nI n)) 286 (20 + t) (nI n) 286 j = X 286 j := fun j a => by rw [sx_o (by omega), sx_o (by omega)]
  have n1 : sx (sx X 9 t (nI n)) 286 (20 + t) (nI n) 9 t = nI n := by rw [sx_o (by omega), sx_e]
  have n2 : sx (sx X 9 t (nI n)) 286 (20 + t) (nI n) 286 (20 + t) = nI n := sx_e
  generalize sx (sx X 9 t (nI n)) 286 (20 + t) (nI n) = Z at *
  refine ⟨fun i j hi hj => by rw [o1 _ _ (by omega) (by omega), o2 _ (by omega)]; exact h1 i j hi hj, fun j hj => ?_, fun j hj => ?_, fun j hj => ?_, by rw [o1 _ _ (by omega) (by omega), o2 _ (by omega)]; exact h5, by rw [o1 _ _ (by omega) (by omega), o2 _ (by omega)]; exact h6, ⟨s, fun i j hi hj => by rw [o2 _ (by omega)]; exact h7 i j hi hj, h8, h9⟩, fun j hj => ?_, fun j hj => ?_, fun j hj => ?_, by rw [o2 _ (by omega)]; exact h13, by rw [o2 _ (by omega)]; exact h14⟩
  · rw [o1 _ _ (by omega) (by omega), o2 _ (by omega)]; exact h2 j hj
  · by_cases e : j = t
    · rw [e, n1, n2]
    · rw [o1 _ _ (by omega) (by omega), o2 _ (by omega)]; exact h3 j hj
  · rw [o1 _ _ (by omega) (by omega), o2 _ (by omega)]; exact h4 j hj
  · rw [o2 _ (by omega)]; exact h10 j hj
  · by_cases e : j = t
    · rw [e]; exact ⟨n, hn, n2⟩
    · rw [o2 _ (by omega)]; exact h11 j hj
  · rw [o2 _ (by omega)]; exact h12 j hj
theorem P_setWork (l : Launch) (G : GG) (o : Nat) (X : SX) (Y : SY) (b : Nat) (u v : Int32) (h : R2 X b) : PI l yX5_setWork cX5_setWork 3 yX6_setWork cX6_setWork 3 G o [.int u, .int v] X Y b := by
  by_cases h1 : Wi u 0 3
  · by_cases h2 : Wi v 0 100
    · obtain ⟨t, ht, rfl⟩ := wi_nat (n := 3) (by decide) h1
      obtain ⟨n, hn, rfl⟩ := wi_nat (n := 100) (by decide) h2
      refine PI.of (c_X5_setWork_c l G o X Y t (nI n) (by omega) h1 h2) (c_X6_setWork_c l G o _ _ t (nI n) (by omega) h1 h2) ?_ (by decide) ?_
      · rw [sx_o (by omega)]
        exact (h.1.setR).2.2.1 t (by omega)
      · refine h.slots (fun k j a1 a2 => by rw [sx_o (by omega), sx_o (by omega)]) (fun j => by rw [sx_o (by omega), sx_o (by omega)]) (fun j => by rw [sx_o (by omega), sx_o (by omega)]) ?_
        exact (h.1.mono (Nat.le_succ b)).set ((h.1.setR).setWork (by omega) hn) (fun k j a1 a2 => by rw [sx_o (by omega), sx_o (by omega)]) (fun j a1 => by rw [sx_o (by omega), sx_o (by omega)])
    · exact PI.of (c_X5_setWork_b l G o X Y u v h1 h2) (c_X6_setWork_b l G o _ _ u v h1 h2) rfl (by decide) h.nx
  · exact PI.of (c_X5_setWork_a l G o X Y u v h1) (c_X6_setWork_a l G o _ _ u v h1) rfl (by decide) h.nx
theorem SetR.setFeed {X : SX} {t n : Nat} (h : SetR X (X 286)) (ht : t < 4) (hn : n ≤ 1000) : SetR (sx (sx X 10 t (nI n)) 286 (24 + t) (nI n)) (sx (sx X 10 t (nI n)) 286 (24 + t) (nI n) 286) := by
  obtain ⟨h1, h2, h3, h4, h5, h6, ⟨s, h7, h8, h9⟩, h10, h11, h12, h13, h14⟩ := h
  have o1 : ∀ k j, k ≠ 286 → ¬ (k = 10 ∧ j = t) → sx (sx X 10 t (nI n)) 286 (24 + t) (nI n) k j = X k j := fun k j a b => by rw [sx_o (by omega), sx_o b]
  have o2 : ∀ j, j ≠ 24 + t → sx (sx X 10 t (nI n)) 286 (24 + t) (nI n) 286 j = X 286 j := fun j a => by rw [sx_o (by omega), sx_o (by omega)]
  have n1 : sx (sx X 10 t (nI n)) 286 (24 + t) (nI n) 10 t = nI n := by rw [sx_o (by omega), sx_e]
  have n2 : sx (sx X 10 t (nI n)) 286 (24 + t) (nI n) 286 (24 + t) = nI n := sx_e
  generalize sx (sx X 10 t (nI n)) 286 (24 + t) (nI n) = Z at *
  refine ⟨fun i j hi hj => by rw [o1 _ _ (by omega) (by omega), o2 _ (by omega)]; exact h1 i j hi hj, fun j hj => ?_, fun j hj => ?_, fun j hj => ?_, by rw [o1 _ _ (by omega) (by omega), o2 _ (by omega)]; exact h5, by rw [o1 _ _ (by omega) (by omega), o2 _ (by omega)]; exact h6, ⟨s, fun i j hi hj => by rw [o2 _ (by omega)]; exact h7 i j hi hj, h8, h9⟩, fun j hj => ?_, fun j hj => ?_, fun j hj => ?_, by rw [o2 _ (by omega)]; exact h13, by rw [o2 _ (by omega)]; exact h14⟩
  · rw [o1 _ _ (by omega) (by omega), o2 _ (by omega)]; exact h2 j hj
  · rw [o1 _ _ (by omega) (by omega), o2 _ (by omega)]; exact h3 j hj
  · by_cases e : j = t
    · rw [e, n1, n2]
    · rw [o1 _ _ (by omega) (by omega), o2 _ (by omega)]; exact h4 j hj
  · rw [o2 _ (by omega)]; exact h10 j hj
  · rw [o2 _ (by omega)]; exact h11 j hj
  · by_cases e : j = t
    · rw [e]; exact ⟨n, hn, n2⟩
    · rw [o2 _ (by omega)]; exact h12 j hj
theorem P_setFeed (l : Launch) (G : GG) (o : Nat) (X : SX) (Y : SY) (b : Nat) (u v : Int32) (h : R2 X b) : PI l yX5_setFeed cX5_setFeed 3 yX6_setFeed cX6_setFeed 3 G o [.int u, .int v] X Y b := by
  by_cases h1 : Wi u 0 3
  · by_cases h2 : Wi v 0 1000
    · obtain ⟨t, ht, rfl⟩ := wi_nat (n := 3) (by decide) h1
      obtain ⟨n, hn, rfl⟩ := wi_nat (n := 1000) (by decide) h2
      refine PI.of (c_X5_setFeed_c l G o X Y t (nI n) (by omega) h1 h2) (c_X6_setFeed_c l G o _ _ t (nI n) (by omega) h1 h2) ?_ (by decide) ?_
      · rw [sx_o (by omega)]
        exact (h.1.setR).2.2.2.1 t (by omega)
      · refine h.slots (fun k j a1 a2 => by rw [sx_o (by omega), sx_o (by omega)]) (fun j => by rw [sx_o (by omega), sx_o (by omega)]) (fun j => by rw [sx_o (by omega), sx_o (by omega)]) ?_
        exact (h.1.mono (Nat.le_succ b)).set ((h.1.setR).setFeed (by omega) hn) (fun k j a1 a2 => by rw [sx_o (by omega), sx_o (by omega)]) (fun j a1 => by rw [sx_o (by omega), sx_o (by omega)])
    · exact PI.of (c_X5_setFeed_b l G o X Y u v h1 h2) (c_X6_setFeed_b l G o _ _ u v h1 h2) rfl (by decide) h.nx
  · exact PI.of (c_X5_setFeed_a l G o X Y u v h1) (c_X6_setFeed_a l G o _ _ u v h1) rfl (by decide) h.nx
theorem SetR.setRate {X : SX} {n : Nat} (h : SetR X (X 286)) (hn : 1 ≤ n) (hn2 : n ≤ 100) : SetR (sx (sx X 2 4 (nI n)) 286 28 (nI n)) (sx (sx X 2 4 (nI n)) 286 28 (nI n) 286) := by
  obtain ⟨h1, h2, h3, h4, h5, h6, ⟨s, h7, h8, h9⟩, h10, h11, h12, h13, h14⟩ := h
  have o1 : ∀ k j, k ≠ 286 → ¬ (k = 2 ∧ j = 4) → sx (sx X 2 4 (nI n)) 286 28 (nI n) k j = X k j := fun k j a b => by rw [sx_o (by omega), sx_o b]
  have o2 : ∀ j, j ≠ 28 → sx (sx X 2 4 (nI n)) 286 28 (nI n) 286 j = X 286 j := fun j a => by rw [sx_o (by omega), sx_o (by omega)]
  have n1 : sx (sx X 2 4 (nI n)) 286 28 (nI n) 2 4 = nI n := by rw [sx_o (by omega), sx_e]
  have n2 : sx (sx X 2 4 (nI n)) 286 28 (nI n) 286 28 = nI n := sx_e
  generalize sx (sx X 2 4 (nI n)) 286 28 (nI n) = Z at *
  refine ⟨fun i j hi hj => by rw [o1 _ _ (by omega) (by omega), o2 _ (by omega)]; exact h1 i j hi hj, fun j hj => by rw [o1 _ _ (by omega) (by omega), o2 _ (by omega)]; exact h2 j hj, fun j hj => by rw [o1 _ _ (by omega) (by omega), o2 _ (by omega)]; exact h3 j hj, fun j hj => by rw [o1 _ _ (by omega) (by omega), o2 _ (by omega)]; exact h4 j hj, ?_, ?_, ⟨s, fun i j hi hj => by rw [o2 _ (by omega)]; exact h7 i j hi hj, h8, h9⟩, fun j hj => by rw [o2 _ (by omega)]; exact h10 j hj, fun j hj => by rw [o2 _ (by omega)]; exact h11 j hj, fun j hj => by rw [o2 _ (by omega)]; exact h12 j hj, ?_, ?_⟩
  · rw [n1, n2]
  · rw [o1 _ _ (by omega) (by omega), o2 _ (by omega)]; exact h6
  · exact ⟨n, hn, hn2, n2⟩
  · rw [o2 _ (by omega)]; exact h14
theorem P_setRate (l : Launch) (G : GG) (o : Nat) (X : SX) (Y : SY) (b : Nat) (v : Int32) (h : R2 X b) : PI l yX5_setRate cX5_setRate 3 yX6_setRate cX6_setRate 2 G o [.int v] X Y b := by
  by_cases h2 : Wi v 1 100
  · obtain ⟨n, hn, rfl⟩ := wi_nat (n := 100) (by decide) (x := v) ⟨Int32.le_trans (by decide) h2.1, h2.2⟩
    have hn1 : 1 ≤ n := (nI_leI (a := 1) (by decide) (by omega)).mp h2.1
    refine PI.of (c_X5_setRate_y l G o X Y (nI n) h2) (c_X6_setRate_y l G o _ _ (nI n) h2) ?_ (by decide) ?_
    · rw [sx_o (by omega)]
      exact (h.1.setR).2.2.2.2.1
    · refine h.slots (fun k j a1 a2 => by rw [sx_o (by omega), sx_o (by omega)]) (fun j => by rw [sx_o (by omega), sx_o (by omega)]) (fun j => by rw [sx_o (by omega), sx_o (by omega)]) ?_
      exact (h.1.mono (Nat.le_succ b)).set ((h.1.setR).setRate hn1 hn) (fun k j a1 a2 => by rw [sx_o (by omega), sx_o (by omega)]) (fun j a1 => by rw [sx_o (by omega), sx_o (by omega)])
  · exact PI.of (c_X5_setRate_a l G o X Y v h2) (c_X6_setRate_a l G o _ _ v h2) rfl (by decide) h.nx
theorem SetR.setRule {X : SX} {n : Nat} (h : SetR X (X 286)) (hn : 0 ≤ n) (hn2 : n ≤ 2) : SetR (sx (sx X 2 5 (nI n)) 286 29 (nI n)) (sx (sx X 2 5 (nI n)) 286 29 (nI n) 286) := by
  obtain ⟨h1, h2, h3, h4, h5, h6, ⟨s, h7, h8, h9⟩, h10, h11, h12, h13, h14⟩ := h
  have o1 : ∀ k j, k ≠ 286 → ¬ (k = 2 ∧ j = 5) → sx (sx X 2 5 (nI n)) 286 29 (nI n) k j = X k j := fun k j a b => by rw [sx_o (by omega), sx_o b]
  have o2 : ∀ j, j ≠ 29 → sx (sx X 2 5 (nI n)) 286 29 (nI n) 286 j = X 286 j := fun j a => by rw [sx_o (by omega), sx_o (by omega)]
  have n1 : sx (sx X 2 5 (nI n)) 286 29 (nI n) 2 5 = nI n := by rw [sx_o (by omega), sx_e]
  have n2 : sx (sx X 2 5 (nI n)) 286 29 (nI n) 286 29 = nI n := sx_e
  generalize sx (sx X 2 5 (nI n)) 286 29 (nI n) = Z at *
  refine ⟨fun i j hi hj => by rw [o1 _ _ (by omega) (by omega), o2 _ (by omega)]; exact h1 i j hi hj, fun j hj => by rw [o1 _ _ (by omega) (by omega), o2 _ (by omega)]; exact h2 j hj, fun j hj => by rw [o1 _ _ (by omega) (by omega), o2 _ (by omega)]; exact h3 j hj, fun j hj => by rw [o1 _ _ (by omega) (by omega), o2 _ (by omega)]; exact h4 j hj, ?_, ?_, ⟨s, fun i j hi hj => by rw [o2 _ (by omega)]; exact h7 i j hi hj, h8, h9⟩, fun j hj => by rw [o2 _ (by omega)]; exact h10 j hj, fun j hj => by rw [o2 _ (by omega)]; exact h11 j hj, fun j hj => by rw [o2 _ (by omega)]; exact h12 j hj, ?_, ?_⟩
  · rw [o1 _ _ (by omega) (by omega), o2 _ (by omega)]; exact h5
  · rw [n1, n2]
  · rw [o2 _ (by omega)]; exact h13
  · exact ⟨n, hn2, n2⟩
theorem P_setRule (l : Launch) (G : GG) (o : Nat) (X : SX) (Y : SY) (b : Nat) (v : Int32) (h : R2 X b) : PI l yX5_setRule cX5_setRule 3 yX6_setRule cX6_setRule 2 G o [.int v] X Y b := by
  by_cases h2 : Wi v 0 2
  · obtain ⟨n, hn, rfl⟩ := wi_nat (n := 2) (by decide) (x := v) ⟨h2.1, h2.2⟩
    have hn1 : 0 ≤ n := Nat.zero_le n
    refine PI.of (c_X5_setRule_y l G o X Y (nI n) h2) (c_X6_setRule_y l G o _ _ (nI n) h2) ?_ (by decide) ?_
    · rw [sx_o (by omega)]
      exact (h.1.setR).2.2.2.2.2.1
    · refine h.slots (fun k j a1 a2 => by rw [sx_o (by omega), sx_o (by omega)]) (fun j => by rw [sx_o (by omega), sx_o (by omega)]) (fun j => by rw [sx_o (by omega), sx_o (by omega)]) ?_
      exact (h.1.mono (Nat.le_succ b)).set ((h.1.setR).setRule hn1 hn) (fun k j a1 a2 => by rw [sx_o (by omega), sx_o (by omega)]) (fun j a1 => by rw [sx_o (by omega), sx_o (by omega)])
  · exact PI.of (c_X5_setRule_a l G o X Y v h2) (c_X6_setRule_a l G o _ _ v h2) rfl (by decide) h.nx
theorem P_share (l : Launch) (G : GG) (o : Nat) (X : SX) (Y : SY) (b : Nat) (u v : Int32) (h : R2 X b) : PI l yX5_share cX5_share 3 yX6_share cX6_share 3 G o [.int u, .int v] X Y b := by
  by_cases h1 : Wi u 0 3
  · by_cases h2 : Wi v 0 3
    · obtain ⟨i, hi, rfl⟩ := wi_nat (n := 3) (by decide) h1
      obtain ⟨t, ht, rfl⟩ := wi_nat (n := 3) (by decide) h2
      have e := (h.1.setR).1 i t (by omega) (by omega)
      rcases (show i = 0 ∨ i = 1 ∨ i = 2 ∨ i = 3 by omega) with rfl | rfl | rfl | rfl
      · exact PI.of (c_X5_share_0 l G o X Y t (by omega) h2) (c_X6_share_y l G o _ _ 0 t (by decide) (by omega) h1 h2) (by rw [show (0 + 4 * 0) + t = 4 * 0 + t by omega]; exact e) (by decide) h.nx
      · exact PI.of (c_X5_share_1 l G o X Y t (by omega) h2) (c_X6_share_y l G o _ _ 1 t (by decide) (by omega) h1 h2) (by rw [show (0 + 4 * 1) + t = 4 * 1 + t by omega]; exact e) (by decide) h.nx
      · exact PI.of (c_X5_share_2 l G o X Y t (by omega) h2) (c_X6_share_y l G o _ _ 2 t (by decide) (by omega) h1 h2) (by rw [show (0 + 4 * 2) + t = 4 * 2 + t by omega]; exact e) (by decide) h.nx
      · exact PI.of (c_X5_share_3 l G o X Y t (by omega) h2) (c_X6_share_y l G o _ _ 3 t (by decide) (by omega) h1 h2) (by rw [show (0 + 4 * 3) + t = 4 * 3 + t by omega]; exact e) (by decide) h.nx
    · exact PI.of (c_X5_share_b l G o X Y u v h1 h2) (c_X6_share_b l G o _ _ u v h1 h2) rfl (by decide) h.nx
  · exact PI.of (c_X5_share_a l G o X Y u v h1) (c_X6_share_a l G o _ _ u v h1) rfl (by decide) h.nx
