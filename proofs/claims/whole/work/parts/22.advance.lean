/-! ===== 22: time passes ===== -/
/-- the two sides at the reference's time t; the class's own time field is left open -/
def RelA (C M : SX) (cnt t th r : Nat) : Prop := Core C (M 286) cnt (fun _ => t) th r ∧ M 286 30 = nI t ∧ GroundR C (M 286) cnt t
theorem Core.tC {C : SX} {A : Nat → Int32} {cnt th r : Nat} {tl : Nat → Nat} {v : Int32} (h : Core C A cnt tl th r) : Core (sx C 11 3 v) A cnt tl th r := by
  obtain ⟨hS, hc, hL⟩ := h
  exact ⟨hS.same (fun k j _ _ _ => sx_o (by omega)) (sx_o (by omega)) (sx_o (by omega)) (fun _ _ => rfl), hc.same (sx_o (by omega)) (sx_o (by omega)) (sx_o (by omega)) (sx_o (by omega)) (fun j _ => sx_o (by omega)) (fun _ _ _ => rfl) (fun _ _ => rfl), hL.same (fun i j _ _ => sx_o (by omega)) (fun i j _ _ _ => sx_o (by omega)) (fun _ _ _ _ => rfl)⟩
theorem Core.tM {C M : SX} {cnt th r : Nat} {tl : Nat → Nat} {v : Int32} (h : Core C (M 286) cnt tl th r) : Core C (sx M 286 30 v 286) cnt tl th r := by
  obtain ⟨hS, hc, hL⟩ := h
  exact ⟨hS.same (fun _ _ _ _ _ => rfl) rfl rfl (fun j _ => sx_o (by omega)), hc.same rfl rfl rfl rfl (fun _ _ => rfl) (fun j _ _ => sx_o (by omega)) (fun j _ => sx_o (by omega)), hL.same (fun _ _ _ _ => rfl) (fun _ _ _ _ _ => rfl) (fun i j _ _ => sx_o (by omega))⟩
theorem Core.tl' {C : SX} {A : Nat → Int32} {cnt th r : Nat} {tl tl' : Nat → Nat} (h : Core C A cnt tl th r) (e : ∀ i, i < cnt → tl' i ≤ tl i) : Core C A cnt tl' th r := ⟨h.1, h.2.1, fun i hi => (h.2.2.1 i hi).weak (e i hi) (Nat.le_refl _) (Nat.le_refl _), h.2.2.2⟩
theorem IdleR.tt {C M : SX} {v w : Int32} (h : IdleR C (M 286)) : IdleR (sx C 11 3 v) (sx M 286 30 w 286) := ⟨(sx_o (by omega)).trans h.1, (sx_o (by omega)).trans h.2⟩
/-- at a time at which something happens -/
theorem evP {C M : SX} {cnt th r t : Nat} (ht : t + 1 < 2 ^ 29) (hth : th < 2 ^ 30) (hr : r + 41 < 2 ^ 30) (h : RelA C M cnt t th r) (hn : nxE C cnt = nI (t + 1)) :
    ∃ r', r' ≤ r + 41 ∧ RelA (evX C cnt) (mnX M cnt) cnt (t + 1) th r' := by
  obtain ⟨hc, h30, hG⟩ := h
  have h40 := hc.2.1.2.2.1
  have e30 : M 286 30 + 1 = nI (t + 1) := by rw [h30]; exact nI_1 t
  unfold evX mnX
  rw [hn, e30]
  have hc1 : Core (sx C 11 3 (nI (t + 1))) (sx M 286 30 (nI (t + 1)) 286) cnt (fun _ => t) th r := (hc.tC).tM
  have t1 : (sx C 11 3 (nI (t + 1))) 11 3 = nI (t + 1) := sx_e
  have t2 : (sx M 286 30 (nI (t + 1))) 286 30 = nI (t + 1) := sx_e
  have g5 : (sx C 11 3 (nI (t + 1))) 11 5 = C 11 5 := sx_o (by omega)
  have g6 : (sx C 11 3 (nI (t + 1))) 11 6 = C 11 6 := sx_o (by omega)
  have g35 : (sx M 286 30 (nI (t + 1))) 286 35 = M 286 35 := sx_o (by omega)
  have g36 : (sx M 286 30 (nI (t + 1))) 286 36 = M 286 36 := sx_o (by omega)
  generalize sx C 11 3 (nI (t + 1)) = C1 at *
  generalize sx M 286 30 (nI (t + 1)) = M1 at *
  -- the mill
  have mill : ∃ r1, r ≤ r1 ∧ r1 ≤ r + 1 ∧ Core (fiF C1) (fnF M1 286) cnt (fun _ => t) th r1 ∧ fiF C1 11 3 = nI (t + 1) ∧ fnF M1 286 30 = nI (t + 1) ∧ (IdleR (fiF C1) (fnF M1 286) ∨ ∃ g u, BusyR (fiF C1) (fnF M1 286) cnt (t + 1) (t + 1 + 801) g u) := by
    rcases hG with ⟨⟨i1, i2⟩, -⟩ | ⟨g, u, hb⟩
    · have q1 : fiF C1 = C1 := if_pos (by rw [g5]; exact i1)
      have q2 : fnF M1 = M1 := if_pos (by rw [g35, i2]; decide)
      rw [q1, q2]
      exact ⟨r, Nat.le_refl r, by omega, hc1, t1, t2, Or.inl ⟨by rw [g5]; exact i1, by rw [g35]; exact i2⟩⟩
    · obtain ⟨b1, b2, b3, b4, b5, b6, b7⟩ := hb
      have n1 : ¬ C1 11 5 = (-1) := by rw [g5, b2]; exact nI_nm1 (by omega)
      have n2 : ¬ M1 286 35 < 0 := by rw [g35, b3]; exact nI_pos (by omega)
      by_cases hu : u = t + 1
      · have q1 : fiF C1 = finX C1 g := by
          unfold fiF
          rw [if_neg n1, if_pos (by rw [g6, t1, b4, hu]), g5, b2, nI_clamp (by omega)]
        have q2 : fnF M1 = fnmX M1 g := by
          unfold fnF
          rw [if_neg n2, if_pos (by rw [g36, t2, b5, hu]), g35, b3, nI_clamp (by omega)]
        rw [q1, q2]
        obtain ⟨r1, p1, p2, p3, p4⟩ := finP hc1 b1 (by omega)
        exact ⟨r1, p1, p2, p3, (finX_o (by omega) (by omega) (by omega) (by omega)).trans t1, (fnmX_o (by omega) (by omega)).trans t2, Or.inl p4⟩
      · have q1 : fiF C1 = C1 := by
          unfold fiF
          rw [if_neg n1, if_neg (by rw [g6, t1, b4]; exact fun q => hu (nI_inj (by omega) (by omega) q))]
        have q2 : fnF M1 = M1 := by
          unfold fnF
          rw [if_neg n2, if_neg (by rw [g36, t2, b5]; exact fun q => hu (nI_inj (by omega) (by omega) q))]
        rw [q1, q2]
        exact ⟨r, Nat.le_refl r, by omega, hc1, t1, t2, Or.inr ⟨g, u, b1, by rw [g5]; exact b2, by rw [g35]; exact b3, by rw [g6]; exact b4, by rw [g36]; exact b5, by omega, by omega⟩⟩
  obtain ⟨r1, p1, p2, hc2, s1, s2, hG2⟩ := mill
  generalize fiF C1 = C2 at *
  generalize fnF M1 = M2 at *
  -- the lots that come
  obtain ⟨r2, p3, p4, hc3⟩ := tkP (e := t + 1) (by omega) (by omega) hth (by omega) hc2 s1 s2 cnt (Nat.le_refl cnt)
  have hc4 : Core (tkX C2 cnt) (tmX M2 cnt 286) cnt (fun _ => t + 1) th r2 := hc3.tl' (fun i hi => by rw [if_pos hi]; exact Nat.le_refl _)
  have v1 : tkX C2 cnt 11 3 = nI (t + 1) := (tkX_11 (by decide) cnt).trans s1
  have v2 : tmX M2 cnt 286 30 = nI (t + 1) := (tmX_o (by omega) cnt).trans s2
  have hG3 : IdleR (tkX C2 cnt) (tmX M2 cnt 286) ∨ ∃ g u, BusyR (tkX C2 cnt) (tmX M2 cnt 286) cnt (t + 1) (t + 1 + 801) g u := by
    unfold IdleR BusyR
    rw [tkX_11 (by decide) cnt, tkX_11 (by decide) cnt, tmX_o (by omega) cnt, tmX_o (by omega) cnt]
    exact hG2
  -- the mill starts
  obtain ⟨z1, z2, z3, z4⟩ := stP (by omega) (by omega) hc4 v1 v2 hG3
  exact ⟨r2, by omega, z1, z3, z4⟩
/-- the next event of the class, among what it looks at -/
theorem nxt_le {v : Int32} {pl cm : Nat → Int32} : ∀ k : Nat, (nxt v pl cm k ≤ v ∧ ∀ i, i < k → pl i = 0 → nxt v pl cm k ≤ cm i) ∧ (nxt v pl cm k = v ∨ ∃ i, i < k ∧ pl i = 0 ∧ nxt v pl cm k = cm i)
  | 0 => ⟨⟨Int32.le_refl v, fun i h => absurd h (Nat.not_lt_zero i)⟩, Or.inl rfl⟩
  | k + 1 => by
    obtain ⟨⟨h1, h2⟩, h3⟩ := nxt_le (v := v) (pl := pl) (cm := cm) k
    by_cases hp : pl k = 0
    · by_cases hl : cm k < nxt v pl cm k
      · have e : nxt v pl cm (k + 1) = cm k := (if_pos hp).trans (if_pos hl)
        rw [e]
        refine ⟨⟨?_, fun i hi hpi => ?_⟩, Or.inr ⟨k, by omega, hp, rfl⟩⟩
        · rw [Int32.lt_iff_toInt_lt] at hl
          rw [Int32.le_iff_toInt_le] at h1 ⊢
          omega
        · by_cases ei : i = k
          · rw [ei]; exact Int32.le_refl _
          · have := h2 i (by omega) hpi
            rw [Int32.lt_iff_toInt_lt] at hl
            rw [Int32.le_iff_toInt_le] at this ⊢
            omega
      · have e : nxt v pl cm (k + 1) = nxt v pl cm k := (if_pos hp).trans (if_neg hl)
        rw [e]
        refine ⟨⟨h1, fun i hi hpi => ?_⟩, ?_⟩
        · by_cases ei : i = k
          · rw [ei]; exact i32_le hl
          · exact h2 i (by omega) hpi
        · rcases h3 with q | ⟨i, q1, q2, q3⟩
          · exact Or.inl q
          · exact Or.inr ⟨i, by omega, q2, q3⟩
    · have e : nxt v pl cm (k + 1) = nxt v pl cm k := if_neg hp
      rw [e]
      refine ⟨⟨h1, fun i hi hpi => ?_⟩, ?_⟩
      · by_cases ei : i = k
        · rw [ei] at hpi; exact absurd hpi hp
        · exact h2 i (by omega) hpi
      · rcases h3 with q | ⟨i, q1, q2, q3⟩
        · exact Or.inl q
        · exact Or.inr ⟨i, by omega, q2, q3⟩
/-- of a planned lot -/
theorem plan_lot {f : SX} {A : Nat → Int32} {tl th r i : Nat} (h : LotR f A tl th r i) : (f (14 + 2 * i) 1 = 0 ↔ A (41 + 8 * i + 4) = 0) ∧ (A (41 + 8 * i + 4) = 0 → ∃ w, f (14 + 2 * i) 2 = nI w ∧ A (41 + 8 * i + 6) = nI w ∧ tl < w ∧ w ≤ th) := by
  obtain ⟨⟨a, b, c, d, g1, g2, g3, g4, g5, g6⟩, g7⟩ := h
  rcases g6 with ⟨x1, x2, -, w, x3, x4, x5, x6⟩ | ⟨x1, x2, -⟩ | ⟨x1, x2, -⟩ | ⟨x1, x2⟩
  · exact ⟨by rw [x1, x2], fun _ => ⟨w, x3, x4, x5, x6⟩⟩
  · rw [x1, x2]; exact ⟨by decide, fun q => absurd q (by decide)⟩
  · rw [x1, x2]; exact ⟨by decide, fun q => absurd q (by decide)⟩
  · rw [x1, x2]; exact ⟨by decide, fun q => absurd q (by decide)⟩
/-- the next event is now + 1, or nothing happens at now + 1 -/
theorem next_or {C M : SX} {cnt th r t : Nat} (ht : t + 801 < 2 ^ 30) (hth : th < 2 ^ 30) (h : RelA C M cnt t th r) :
    nI t < nxE C cnt ∧ (nxE C cnt = nI (t + 1) ∨ (nI (t + 1) < nxE C cnt ∧ (∀ i, i < cnt → M 286 (41 + 8 * i + 4) = 0 → ∃ w, M 286 (41 + 8 * i + 6) = nI w ∧ t + 1 < w ∧ w ≤ th) ∧ (IdleR C (M 286) ∨ ∃ g u, g < cnt ∧ M 286 35 = nI g ∧ M 286 36 = nI u ∧ t + 1 < u ∧ u ≤ t + 801))) := by
  obtain ⟨hc, h30, hG⟩ := h
  have h40 := hc.2.1.2.2.1
  obtain ⟨⟨l1, l2⟩, l3⟩ := nxt_le (v := if C 11 5 = (-1) then 2147483647 else C 11 6) (pl := fun q => C (14 + 2 * q) 1) (cm := fun q => C (14 + 2 * q) 2) cnt
  have hd : nxE C cnt = nxt (if C 11 5 = (-1) then 2147483647 else C 11 6) (fun q => C (14 + 2 * q) 1) (fun q => C (14 + 2 * q) 2) cnt := rfl
  rw [← hd] at l1 l2 l3
  have big : ∃ n, nxE C cnt = nI n ∧ t < n ∧ n < 2 ^ 31 := by
    rcases l3 with q | ⟨i, q1, q2, q3⟩
    · rcases hG with ⟨⟨i1, i2⟩, -⟩ | ⟨g, u, hb⟩
      · rw [if_pos i1] at q
        exact ⟨2147483647, q, by omega, by omega⟩
      · obtain ⟨b1, b2, b3, b4, b5, b6, b7⟩ := hb
        rw [if_neg (by rw [b2]; exact nI_nm1 (by omega)), b4] at q
        exact ⟨u, q, b6, by omega⟩
    · obtain ⟨p1, p2⟩ := plan_lot (hc.2.2.1 i q1)
      obtain ⟨w, w1, w2, w3, w4⟩ := p2 (p1.mp q2)
      exact ⟨w, by rw [q3]; exact w1, w3, by omega⟩
  obtain ⟨n, e, hn, hn2⟩ := big
  rw [e] at l1 l2 ⊢
  refine ⟨nI_lt hn hn2, ?_⟩
  by_cases hq : n = t + 1
  · exact Or.inl (by rw [hq])
  · refine Or.inr ⟨nI_lt (by omega) hn2, fun i hi h0 => ?_, ?_⟩
    · obtain ⟨p1, p2⟩ := plan_lot (hc.2.2.1 i hi)
      obtain ⟨w, w1, w2, w3, w4⟩ := p2 h0
      have hle := l2 i hi (p1.mpr h0)
      have hle2 : nI n ≤ nI w := by rw [← w1]; exact hle
      have := (nI_leI hn2 (by omega)).mp hle2
      exact ⟨w, w2, by omega, w4⟩
    · rcases hG with ⟨i1, -⟩ | ⟨g, u, hb⟩
      · exact Or.inl i1
      · obtain ⟨b1, b2, b3, b4, b5, b6, b7⟩ := hb
        rw [if_neg (by rw [b2]; exact nI_nm1 (by omega)), b4] at l1
        have := (nI_leI hn2 (by omega)).mp l1
        exact Or.inr ⟨g, u, b1, b3, b5, by omega, b7⟩
/-- a quiet minute of the reference -/
theorem tm_quiet {M : SX} : ∀ k : Nat, (∀ i, i < k → M 286 (41 + 8 * i + 4) = 0 → ¬ M 286 (41 + 8 * i + 6) = M 286 30) → tmX M k = M
  | 0, _ => rfl
  | k + 1, h => by
    have ih := tm_quiet (M := M) k (fun i hi => h i (by omega))
    unfold tmX
    rw [ih]
    by_cases q : M 286 (41 + 8 * k + 4) = 0
    · rw [if_pos q, if_neg (h k (by omega) q)]
    · rw [if_neg q]
theorem quietP {C M : SX} {cnt th r t : Nat} (ht : t + 801 < 2 ^ 30) (hr : r < 2 ^ 30) (hth : th < 2 ^ 30) (h : RelA C M cnt t th r) (hp : ∀ i, i < cnt → M 286 (41 + 8 * i + 4) = 0 → ∃ w, M 286 (41 + 8 * i + 6) = nI w ∧ t + 1 < w ∧ w ≤ th) (hg : IdleR C (M 286) ∨ ∃ g u, g < cnt ∧ M 286 35 = nI g ∧ M 286 36 = nI u ∧ t + 1 < u ∧ u ≤ t + 801) :
    RelA C (mnX M cnt) cnt (t + 1) th r := by
  obtain ⟨hc, h30, hG⟩ := h
  have h40 := hc.2.1.2.2.1
  have e30 : M 286 30 + 1 = nI (t + 1) := by rw [h30]; exact nI_1 t
  have hM : mnX M cnt = stM (sx M 286 30 (nI (t + 1))) cnt := by
    unfold mnX
    rw [e30]
    have q2 : fnF (sx M 286 30 (nI (t + 1))) = sx M 286 30 (nI (t + 1)) := by
      unfold fnF
      rw [sx_o (by omega), sx_o (by omega), sx_e]
      rcases hg with ⟨i1, i2⟩ | ⟨g, u, b1, b2, b3, b4, b5⟩
      · rw [if_pos (by rw [i2]; decide)]
      · rw [if_neg (by rw [b2]; exact nI_pos (by omega)), if_neg (by rw [b3]; exact fun q => by have := nI_inj (by omega) (by omega) q; omega)]
    rw [q2, tm_quiet cnt]
    intro i hi h0
    rw [sx_o (by omega)] at h0
    rw [sx_o (by omega), sx_e]
    obtain ⟨w, w1, w2, w3⟩ := hp i hi h0
    rw [w1]
    exact fun q => by have := nI_inj (by omega) (by omega) q; omega
  have hc1 : Core C (sx M 286 30 (nI (t + 1)) 286) cnt (fun _ => t + 1) th r := by
    obtain ⟨hS, hcc, hL⟩ := hc
    refine Core.tM ⟨hS, hcc, fun i hi => ?_, hL.2⟩
    obtain ⟨⟨a, b, c, d, g1, g2, g3, g4, g5, g6⟩, g7⟩ := hL.1 i hi
    refine ⟨⟨a, b, c, d, g1, g2, g3, g4, g5, ?_⟩, g7⟩
    rcases g6 with ⟨x1, x2, x0, w, x3, x4, x5, x6⟩ | g6
    · obtain ⟨w', w1, w2, w3⟩ := hp i hi x1
      have : w = w' := nI_inj (by omega) (by omega) (x4.symm.trans w1)
      exact Or.inl ⟨x1, x2, x0, w, x3, x4, (show t + 1 < w by omega), x6⟩
    · exact Or.inr g6
  have hs : stM (sx M 286 30 (nI (t + 1))) cnt = sx M 286 30 (nI (t + 1)) := by
    unfold stM
    rw [sx_o (by omega)]
    rcases hG with ⟨⟨i1, i2⟩, i3⟩ | ⟨g, u, hb⟩
    · rw [if_neg (by rw [i2]; decide)]
      rcases first_same (by omega) hc1 with ⟨e1, e2, e3⟩ | ⟨j, hj, e1, e2, e3⟩
      · rw [e2]
      · rw [sx_o (by omega)] at e3
        exact absurd e3 (i3 j hj)
    · rw [if_pos (by rw [hb.2.2.1]; exact nI_pos' (by have := hb.1; omega))]
  rw [hM, hs]
  refine ⟨hc1, sx_e, ?_⟩
  rcases hG with ⟨⟨i1, i2⟩, i3⟩ | ⟨g, u, b1, b2, b3, b4, b5, b6, b7⟩
  · exact Or.inl ⟨⟨i1, (sx_o (by omega)).trans i2⟩, fun i hi => by rw [sx_o (by omega)]; exact i3 i hi⟩
  · rcases hg with ⟨j1, -⟩ | ⟨g', u', d1, d2, d3, d4, d5⟩
    · rw [b2] at j1; exact absurd j1 (nI_nm1 (by omega))
    · have : u = u' := nI_inj (by omega) (by omega) (b5.symm.trans d3)
      exact Or.inr ⟨g, u, b1, b2, (sx_o (by omega)).trans b3, b4, (sx_o (by omega)).trans b5, by omega, by omega⟩
theorem RelA.tC {C M : SX} {cnt t th r : Nat} {v : Int32} (h : RelA C M cnt t th r) : RelA (sx C 11 3 v) M cnt t th r := by
  refine ⟨h.1.tC, h.2.1, ?_⟩
  have g5 : (sx C 11 3 v) 11 5 = C 11 5 := sx_o (by omega)
  have g6 : (sx C 11 3 v) 11 6 = C 11 6 := sx_o (by omega)
  have := h.2.2
  unfold GroundR IdleR BusyR at *
  rw [g5, g6]
  exact this
/-- d minutes -/
theorem advP {cnt th T : Nat} (hT : T + 801 < 2 ^ 29) (hth : th < 2 ^ 30) : ∀ (d n t r : Nat) (C M : SX), t + d = T → d ≤ n → r + 41 * d < 2 ^ 30 → RelA C M cnt t th r →
    ∃ r', r' ≤ r + 41 * d ∧ RelA (rnX (nI T) cnt n C) (adM cnt d M) cnt T th r' ∧ rnX (nI T) cnt n C 11 3 = nI T
  | 0, n, t, r, C, M, h1, h2, h3, h => by
    have e : rnX (nI T) cnt n C = sx C 11 3 (nI T) := by
      cases n with
      | zero => rfl
      | succ n =>
        obtain ⟨q, -⟩ := next_or (by omega) hth h
        refine if_neg (fun z => ?_)
        have : t = T := by omega
        rw [this] at q
        rw [Int32.lt_iff_toInt_lt] at q
        rw [Int32.le_iff_toInt_le] at z
        omega
    rw [e]
    have : t = T := by omega
    subst this
    exact ⟨r, by omega, h.tC, sx_e⟩
  | d + 1, n, t, r, C, M, h1, h2, h3, h => by
    obtain ⟨q, q2⟩ := next_or (by omega) hth h
    rcases q2 with hn | ⟨hn, hp, hg⟩
    · obtain ⟨m, rfl⟩ : ∃ m, n = m + 1 := ⟨n - 1, by omega⟩
      obtain ⟨r1, p1, p2⟩ := evP (by omega) hth (by omega) h hn
      obtain ⟨r2, p3, p4, p5⟩ := advP hT hth d m (t + 1) r1 (evX C cnt) (mnX M cnt) (by omega) (by omega) (by omega) p2
      have e : rnX (nI T) cnt (m + 1) C = rnX (nI T) cnt m (evX C cnt) := if_pos (by rw [hn]; exact nI_le (by omega) (by omega))
      rw [e]
      exact ⟨r2, by omega, p4, p5⟩
    · have p2 := quietP (by omega) (by omega) hth h hp hg
      obtain ⟨r2, p3, p4, p5⟩ := advP hT hth d n (t + 1) r C (mnX M cnt) (by omega) (by omega) (by omega) p2
      exact ⟨r2, by omega, p4, p5⟩
