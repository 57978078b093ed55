/-! ===== 28: addLot, planLot, advance ===== -/
theorem stF_f {X : SX} {cnt k j : Nat} (hc : cnt ≤ 40) (h : k < 11 ∨ 93 < k) : stF X cnt k j = X k j := by
  unfold stF
  by_cases h1 : X 11 5 = (-1)
  · rw [if_pos h1]
    cases hq : fstN (pB X) (bfX X (X 2 5)) cnt with
    | none => rfl
    | some q =>
      have := fstN_lt _ _ hq
      exact staX_o (by omega) (by omega)
  · rw [if_neg h1]
theorem tkX_f {X : SX} {k j : Nat} (h : k < 11 ∨ 93 < k) : ∀ n : Nat, n ≤ 40 → tkX X n k j = X k j
  | 0, _ => rfl
  | n + 1, hn => by
    have ih := tkX_f (X := X) (j := j) h n (by omega)
    unfold tkX
    split
    · split
      · rw [pbX_o (by omega) (by omega)]; exact ih
      · exact ih
    · exact ih
theorem fiF_f {X : SX} {cnt k j : Nat} (hS : SimInv X cnt) (h : k < 11 ∨ 93 < k) : fiF X k j = X k j := by
  unfold fiF
  split
  · rfl
  · split
    · rename_i h1 h2
      obtain ⟨i, hi, hg⟩ := hS.2.2.1.resolve_left h1
      have h4 := hS.2.1
      rw [hg, nI_clamp (by omega)]
      exact finX_o (by omega) (by omega) (by omega) (by omega)
    · rfl
theorem evX_f {X : SX} {cnt k j : Nat} (hS : SimInv X cnt) (h : k < 11 ∨ 93 < k) : evX X cnt k j = X k j := by
  unfold evX
  rw [stF_f hS.2.1 h, tkX_f h cnt hS.2.1, fiF_f hS.tm h, sx_o (by omega)]
theorem rnX_f {e : Int32} {cnt k j : Nat} (h : k < 11 ∨ 93 < k) : ∀ (n : Nat) (X : SX), SimInv X cnt → rnX e cnt n X k j = X k j
  | 0, X, _ => sx_o (by omega)
  | n + 1, X, hS => by
    unfold rnX
    split
    · rw [rnX_f h n _ hS.ev, evX_f hS h]
    · exact sx_o (by omega)
theorem stM_f {X : SX} {cnt k j : Nat} (h : k ≠ 286) : stM X cnt k j = X k j := by
  unfold stM
  by_cases h1 : 0 ≤ X 286 35
  · rw [if_pos h1]
  · rw [if_neg h1]
    cases hq : fndP (fun a => pBM X a ∧ nI (cntP (fun q => ¬ nI q = nI a ∧ pBM X q ∧ ahM X q a) cnt) = 0) cnt 0 with
    | none => rfl
    | some q => exact smmX_o (by omega)
theorem fnF_f {X : SX} {k j : Nat} (h : k ≠ 286) (h2 : k ≠ 291) : fnF X k j = X k j := by
  unfold fnF
  split
  · rfl
  · split
    · exact fnmX_o h2 (by omega)
    · rfl
theorem mnX_f {X : SX} {cnt k j : Nat} (h : k ≠ 286) (h2 : k ≠ 291) : mnX X cnt k j = X k j := by
  unfold mnX
  rw [stM_f h, tmX_o (by omega) cnt, fnF_f h h2, sx_o (by omega)]
theorem adM_f {cnt k j : Nat} (h : k ≠ 286) (h2 : k ≠ 291) : ∀ (n : Nat) (X : SX), adM cnt n X k j = X k j
  | 0, _ => rfl
  | n + 1, X => by
    show adM cnt n (mnX X cnt) k j = X k j
    rw [adM_f h h2 n, mnX_f h h2]
theorem Rel.inv {X : SX} {A : Nat → Int32} {cnt r t : Nat} {tl : Nat → Nat} {th uh : Nat} (hc : Core X A cnt tl th r) (hG : IdleR X A ∨ ∃ g u, BusyR X A cnt t uh g u) : SimInv X cnt := by
  obtain ⟨n, hn1, hn2, e28⟩ := hc.1.2.2.2.2.2.2.2.2.2.2.1
  refine ⟨hc.2.1.1, hc.2.1.2.2.1, ?_, ?_⟩
  · rcases hG with q | ⟨g, u, q⟩
    · exact Or.inl q.1
    · exact Or.inr ⟨g, q.1, q.2.1⟩
  · rw [hc.1.2.2.2.2.1, e28]
    exact nI_le (a := 1) hn1 (by omega)
theorem Rel.minv {C M : SX} {cnt r t : Nat} {tl : Nat → Nat} {th uh : Nat} (hc : Core C (M 286) cnt tl th r) (hG : IdleR C (M 286) ∨ ∃ g u, BusyR C (M 286) cnt t uh g u) : MInv M cnt := by
  obtain ⟨n, hn1, hn2, e28⟩ := hc.1.2.2.2.2.2.2.2.2.2.2.1
  refine ⟨hc.2.1.2.1, hc.2.1.2.2.1, ?_, ?_⟩
  · rcases hG with q | ⟨g, u, q⟩
    · exact Or.inl (by rw [q.2]; decide)
    · exact Or.inr ⟨g, q.1, q.2.2.1⟩
  · rw [e28]
    exact nI_ne0 (by omega) (by omega)
theorem GroundR.w {f : SX} {A : Nat → Int32} {cnt t : Nat} (h : GroundR f A cnt t) : IdleR f A ∨ ∃ g u, BusyR f A cnt t (t + 801) g u := h.imp (fun q => q.1) id
/-- the relation again, over the one state that both sides have left -/
theorem Rel.back {C M : SX} {cnt t th r b : Nat} (hA : RelA C M cnt t th r) (hC : C 11 3 = nI t) (ht : t ≤ 500 * b) (hr : r ≤ 20500 * b) (hth : th ≤ t + 1000) (e : ∀ k j, k ≤ 93 → M k j = C k j) : RelP M (M 286) b := by
  obtain ⟨hc, h30, hG⟩ := hA
  have h40 := hc.2.1.2.2.1
  have h1 : RelP C (M 286) b := ⟨cnt, t, r, ⟨hc.1, hc.2.1, fun i hi => (hc.2.2.1 i hi).weak (Nat.le_refl _) hth (Nat.le_refl _), hc.2.2.2⟩, hC, h30, ht, hr, hG⟩
  exact h1.same (fun _ _ => rfl) (fun cnt _ hc => ⟨fun k j _ a2 _ => e _ _ (by omega), e _ _ (by omega), e _ _ (by omega), fun j _ _ => e _ _ (by omega), fun j _ => e _ _ (by omega), fun i j a1 _ => e _ _ (by omega), fun i j a1 _ _ => e _ _ (by omega)⟩)
theorem P_advance (l : Launch) (G : GG) (o : Nat) (X : SX) (Y : SY) (b : Nat) (v : Int32) (h : R2 X b) (hb : b ≤ 600) : PI l yX5_advance cX5_advance 2 yX6_advance cX6_advance 3 G o [.int v] X Y b := by
  by_cases h2 : Wi v 1 500
  · obtain ⟨n, hn, rfl⟩ := wi_nat (n := 500) (by decide) (x := v) ⟨Int32.le_trans (by decide) h2.1, h2.2⟩
    obtain ⟨cnt, t, r, hc, g4, g5, g6, g7, g8⟩ := id h.1
    have hG : GroundR X (X 286) cnt t := g8
    have hS : SimInv X cnt := Rel.inv hc hG.w
    have hT : X 11 3 + nI n = nI (t + n) := by rw [g4, nI_add]
    have K1 := c_X5_advance_y l G o X Y n cnt h2 (by omega) hS
    rw [hT] at K1
    have e286 : (rnX (nI (t + n)) cnt n X) 286 = X 286 := funext (fun j => rnX_f (by omega) n X hS)
    have e291 : ∀ j, rnX (nI (t + n)) cnt n X 287 j = X 287 j := fun j => rnX_f (by omega) n X hS
    obtain ⟨r', p1, p2, p3⟩ := advP (cnt := cnt) (th := t + 1000) (T := t + n) (by omega) (by omega) n n t r X (rnX (nI (t + n)) cnt n X) rfl (Nat.le_refl n) (by omega) ⟨by rw [e286]; exact hc, by rw [e286]; exact g5, by rw [e286]; exact hG⟩
    have hM : MInv (rnX (nI (t + n)) cnt n X) cnt := Rel.minv (C := X) (by rw [e286]; exact hc) (by rw [e286]; exact hG.w)
    refine PI.of K1 (c_X6_advance_y l G o _ _ n cnt (by omega) h2 hM) (by rw [p3, p2.2.1]) (by decide) ?_
    refine h.slots (fun k j a1 a2 => by rw [adM_f (by omega) (by omega), rnX_f (by omega) n X hS]) (fun j => by rw [adM_f (by omega) (by omega), rnX_f (by omega) n X hS]) (fun j => by rw [adM_f (by omega) (by omega), rnX_f (by omega) n X hS]) ?_
    exact Rel.back p2 p3 (by omega) (by omega) (by omega) (fun k j a1 => adM_f (by omega) (by omega) _ _)
  · exact PI.of (c_X5_advance_a l G o X Y v h2) (c_X6_advance_a l G o _ _ v h2) rfl (by decide) h.nx
/-- one lot more -/
theorem LotsR.push {f f' : SX} {A A' : Nat → Int32} {n th r r' : Nat} {tl tl' : Nat → Nat} (h : LotsR f A n tl th r) (hr : r ≤ r') (htl : ∀ i, i < n → tl' i ≤ tl i)
    (e1 : ∀ i j, i < n → j < 4 → f' (15 + 2 * i) j = f (15 + 2 * i) j) (e2 : ∀ i j, i < n → 1 ≤ j → j ≤ 4 → f' (14 + 2 * i) j = f (14 + 2 * i) j) (e3 : ∀ i j, i < n → j < 8 → A' (41 + 8 * i + j) = A (41 + 8 * i + j))
    (hg : LotR f' A' (tl' n) th r' n) (hd : A' (41 + 8 * n + 4) = 1 → ∃ u, A' (41 + 8 * n + 5) = nI u ∧ r ≤ u ∧ u < 2 ^ 31) (hr31 : r < 2 ^ 31) : LotsR f' A' (n + 1) tl' th r' := by
  have hu : ∀ i, i < n → A' (41 + 8 * i + 4) = 1 → ∃ u, A' (41 + 8 * i + 5) = nI u ∧ u < r := by
    intro i hi h1
    rw [e3 i 4 hi (by decide)] at h1
    rw [e3 i 5 hi (by decide)]
    obtain ⟨a, b, c, d, u, -, -, -, -, -, m6, m7⟩ := bin_lot (h.1 i hi) h1
    exact ⟨u, m6, m7⟩
  refine ⟨fun i hi => ?_, fun i j hi hj hne hi1 hj1 => ?_⟩
  · by_cases e : i = n
    · rw [e]; exact hg
    · exact ((h.1 i (by omega)).same (fun j => e1 i j (by omega)) (fun j => e2 i j (by omega)) (fun j => e3 i j (by omega))).weak (htl i (by omega)) (Nat.le_refl _) hr
  · by_cases e : i = n
    · subst e
      obtain ⟨u, k1, k2, k3⟩ := hd hi1
      obtain ⟨v, k4, k5⟩ := hu j (by omega) hj1
      rw [k1, k4]
      exact fun q => by have := nI_inj k3 (by omega) q; omega
    · by_cases e' : j = n
      · subst e'
        obtain ⟨u, k1, k2, k3⟩ := hd hj1
        obtain ⟨v, k4, k5⟩ := hu i (by omega) hi1
        rw [k1, k4]
        exact fun q => by have := nI_inj (by omega) k3 q; omega
      · rw [e3 i 4 (by omega) (by decide)] at hi1
        rw [e3 j 4 (by omega) (by decide)] at hj1
        rw [e3 i 5 (by omega) (by decide), e3 j 5 (by omega) (by decide)]
        exact h.2 i j (by omega) (by omega) hne hi1 hj1
theorem mass_n {a b c d : Int32} (h : MassOK a b c d) : ∃ na nb nc nd : Nat, a = nI na ∧ b = nI nb ∧ c = nI nc ∧ d = nI nd ∧ na ≤ 200 ∧ nb ≤ 200 ∧ nc ≤ 200 ∧ nd ≤ 200 ∧ 0 < na + nb + nc + nd := by
  obtain ⟨h1, h2, h3, h4, h5⟩ := h
  obtain ⟨na, ka, rfl⟩ := wi_nat (n := 200) (by decide) h1
  obtain ⟨nb, kb, rfl⟩ := wi_nat (n := 200) (by decide) h2
  obtain ⟨nc, kc, rfl⟩ := wi_nat (n := 200) (by decide) h3
  obtain ⟨nd, kd, rfl⟩ := wi_nat (n := 200) (by decide) h4
  rw [nI_add, nI_add, nI_add] at h5
  exact ⟨na, nb, nc, nd, rfl, rfl, rfl, rfl, ka, kb, kc, kd, (nI_ltI (a := 0) (by decide) (by omega)).mp h5⟩
theorem crX_f {X : SX} {a b c d : Int32} {n k j : Nat} (h : k ≠ 15 + 2 * n) (h2 : ¬ (k = 14 + 2 * n ∧ j = 4)) (h3 : ¬ (k = 11 ∧ j = 2)) : crX X a b c d n k j = X k j := by
  unfold crX
  simp (disch := omega) only [sx_o]
theorem mkX_f {X : SX} {a b c d : Int32} {n k j : Nat} (h : ¬ (k = 286 ∧ ((41 + 8 * n ≤ j ∧ j < 49 + 8 * n) ∨ j = 31))) : mkX X a b c d n k j = X k j := by
  unfold mkX
  simp (disch := omega) only [sx_o]
theorem P_addLot (l : Launch) (G : GG) (o : Nat) (X : SX) (Y : SY) (b : Nat) (a b' c d : Int32) (h : R2 X b) (hb : b ≤ 600) : PI l yX5_addLot cX5_addLot 7 yX6_addLot cX6_addLot 6 G o [.int a, .int b', .int c, .int d] X Y b := by
  by_cases hm : MassOK a b' c d
  · obtain ⟨n, t, r, hc, g4, g5, g6, g7, g8⟩ := id h.1
    have hG : GroundR X (X 286) n t := g8
    have hS : SimInv X n := Rel.inv hc hG.w
    have h40 := hc.2.1.2.2.1
    have e2 := hc.2.1.1
    have e31 := hc.2.1.2.1
    by_cases hf : n = 40
    · subst hf
      exact PI.of (c_X5_addLot_f l G o X Y a b' c d hm (by rw [e2]; decide)) (c_X6_addLot_f l G o _ _ a b' c d hm (by rw [e31]; rfl)) rfl (by decide) h.nx
    · have hn : n < 40 := by omega
      have K1 := c_X5_addLot_y l G o X Y a b' c d n hm (by rw [e2]; exact nI_ge (b := 40) hn (by decide)) hS hn
      have hS1 : SimInv (pbX (crX X a b' c d n) n) (n + 1) := (hS.cr hn).pb
      have f1 : ∀ k j, (k < 11 ∨ 93 < k) → stF (pbX (crX X a b' c d n) n) (n + 1) k j = X k j := fun k j hk => by rw [stF_f (by omega) hk, pbX_o (by omega) (by omega), crX_f (by omega) (by omega) (by omega)]
      have e286 : (stF (pbX (crX X a b' c d n) n) (n + 1)) 286 = X 286 := funext (fun j => f1 286 j (by omega))
      have hM1 : MInv (stF (pbX (crX X a b' c d n) n) (n + 1)) n := Rel.minv (C := X) (by rw [e286]; exact hc) (by rw [e286]; exact hG.w)
      have K2 := c_X6_addLot_y l G o (stF (pbX (crX X a b' c d n) n) (n + 1)) Y a b' c d n hm (by exact fun q => by have := nI_inj (by omega) (b := 40) (by decide) q; omega) hM1 hn
      obtain ⟨na, nb, nc, nd, rfl, rfl, rfl, rfl, ka, kb, kc, kd, hpos⟩ := mass_n hm
      -- both sides with the lot in the bin
      have cC : Core (pbX (crX X (nI na) (nI nb) (nI nc) (nI nd) n) n) ((cmX (mkX (stF (pbX (crX X (nI na) (nI nb) (nI nc) (nI nd) n) n) (n + 1)) (nI na) (nI nb) (nI nc) (nI nd) n) n) 286) (n + 1) (fun _ => t) (t + 1000) (r + 1) := by
        generalize hZ : stF (pbX (crX X (nI na) (nI nb) (nI nc) (nI nd) n) n) (n + 1) = Z at e286
        obtain ⟨hSet, hSc, hL⟩ := hc
        obtain ⟨c1, c2, c3, c4, c5, c6, c7, c8⟩ := id hSc
        have oC : ∀ k j, ¬ (k = 15 + 2 * n) → ¬ (k = 14 + 2 * n) → ¬ (k = 11 ∧ (j = 2 ∨ j = 4)) → pbX (crX X (nI na) (nI nb) (nI nc) (nI nd) n) n k j = X k j := fun k j q1 q2 q3 => by rw [pbX_o (by omega) (by omega), crX_f (by omega) (by omega) (by omega)]
        have oM : ∀ j, ¬ (41 + 8 * n ≤ j ∧ j < 49 + 8 * n) → j ≠ 31 → j ≠ 34 → cmX (mkX Z (nI na) (nI nb) (nI nc) (nI nd) n) n 286 j = X 286 j := fun j q1 q2 q3 => by rw [cmX_o (by omega), mkX_f (by omega), e286]
        have z34 : Z 286 34 = nI r := by rw [e286]; exact c5
        refine ⟨hSet.same (fun k j _ _ _ => oC _ _ (by omega) (by omega) (by omega)) (oC _ _ (by omega) (by omega) (by omega)) (oC _ _ (by omega) (by omega) (by omega)) (fun j _ => oM _ (by omega) (by omega) (by omega)), ⟨?_, ?_, by omega, ?_, ?_, ?_, ?_, fun j _ => ?_⟩, ?_⟩
        · unfold pbX crX; simp (disch := omega) only [sx_o, sx_e]
        · unfold cmX mkX; simp (disch := omega) only [sx_o, sx_e]
        · unfold pbX; rw [sx_e, crX_f (by omega) (by omega) (by omega), c4]; exact nI_1 r
        · unfold cmX; rw [sx_e, mkX_f (by omega), z34]; exact nI_1 r
        · rw [oC _ _ (by omega) (by omega) (by omega), oM _ (by omega) (by omega) (by omega)]; exact c6
        · rw [oC _ _ (by omega) (by omega) (by omega), oM _ (by omega) (by omega) (by omega)]; exact c7
        · rw [oC _ _ (by omega) (by omega) (by omega), oM _ (by omega) (by omega) (by omega)]; exact c8 j (by omega)
        · refine hL.push (by omega) (fun _ _ => Nat.le_refl _) (fun i j _ _ => oC _ _ (by omega) (by omega) (by omega)) (fun i j _ _ _ => oC _ _ (by omega) (by omega) (by omega)) (fun i j _ _ => oM _ (by omega) (by omega) (by omega)) ⟨⟨na, nb, nc, nd, ⟨?_, ?_, ?_, ?_, by omega⟩, ?_, ?_, ?_, ?_, Or.inr (Or.inl ⟨?_, ?_, hpos, r, ?_, ?_, by omega⟩)⟩, ?_⟩ (fun _ => ⟨r, ?_, Nat.le_refl r, by omega⟩) (by omega)
          · unfold pbX crX; simp (disch := omega) only [sx_o, sx_e]
          · unfold pbX crX; simp (disch := omega) only [sx_o, sx_e]
          · unfold pbX crX; simp (disch := omega) only [sx_o, sx_e]
          · unfold pbX crX; simp (disch := omega) only [sx_o, sx_e]
          · unfold cmX mkX; simp (disch := omega) only [sx_o, sx_e]
          · unfold cmX mkX; simp (disch := omega) only [sx_o, sx_e]
          · unfold cmX mkX; simp (disch := omega) only [sx_o, sx_e]
          · unfold cmX mkX; simp (disch := omega) only [sx_o, sx_e]
          · unfold cmX; simp (disch := omega) only [sx_o, sx_e]
          · unfold pbX; simp (disch := omega) only [sx_o, sx_e]
          · unfold pbX; simp (disch := omega) only [sx_o, sx_e]; rw [crX_f (by omega) (by omega) (by omega)]; exact c4
          · unfold cmX; simp (disch := omega) only [sx_o, sx_e]; rw [mkX_f (by omega)]; exact z34
          · unfold pbX crX cmX mkX; simp (disch := omega) only [sx_o, sx_e]
          · unfold cmX; simp (disch := omega) only [sx_o, sx_e]; rw [mkX_f (by omega)]; exact z34
      have tC : pbX (crX X (nI na) (nI nb) (nI nc) (nI nd) n) n 11 3 = nI t := by rw [pbX_o (by omega) (by omega), crX_f (by omega) (by omega) (by omega)]; exact g4
      have tM : (cmX (mkX (stF (pbX (crX X (nI na) (nI nb) (nI nc) (nI nd) n) n) (n + 1)) (nI na) (nI nb) (nI nc) (nI nd) n) n) 286 30 = nI t := by rw [cmX_o (by omega), mkX_f (by omega), e286]; exact g5
      have gG : IdleR (pbX (crX X (nI na) (nI nb) (nI nc) (nI nd) n) n) ((cmX (mkX (stF (pbX (crX X (nI na) (nI nb) (nI nc) (nI nd) n) n) (n + 1)) (nI na) (nI nb) (nI nc) (nI nd) n) n) 286) ∨ ∃ g u, BusyR (pbX (crX X (nI na) (nI nb) (nI nc) (nI nd) n) n) ((cmX (mkX (stF (pbX (crX X (nI na) (nI nb) (nI nc) (nI nd) n) n) (n + 1)) (nI na) (nI nb) (nI nc) (nI nd) n) n) 286) (n + 1) t (t + 801) g u := by
        unfold IdleR BusyR
        rw [pbX_o (j := 5) (by omega) (by omega), crX_f (j := 5) (by omega) (by omega) (by omega), pbX_o (j := 6) (by omega) (by omega), crX_f (j := 6) (by omega) (by omega) (by omega), cmX_o (j := 35) (by omega), mkX_f (j := 35) (by omega), cmX_o (j := 36) (by omega), mkX_f (j := 36) (by omega), e286]
        rcases hG.w with q | ⟨g, u, q1, q2⟩
        · exact Or.inl q
        · exact Or.inr ⟨g, u, by omega, q2⟩
      obtain ⟨z1, z2, z3, z4⟩ := stP (by omega) (by omega) cC tC tM gG
      refine PI.of K1 K2 rfl (by decide) ?_
      have f2 : ∀ k j, k ≠ 286 → stM (cmX (mkX (stF (pbX (crX X (nI na) (nI nb) (nI nc) (nI nd) n) n) (n + 1)) (nI na) (nI nb) (nI nc) (nI nd) n) n) (n + 1) k j = stF (pbX (crX X (nI na) (nI nb) (nI nc) (nI nd) n) n) (n + 1) k j := fun k j q => by rw [stM_f q, cmX_o (by omega), mkX_f (by omega)]
      refine h.slots (fun k j a1 a2 => by rw [f2 _ _ (by omega), f1 _ _ (by omega)]) (fun j => by rw [f2 _ _ (by omega), f1 _ _ (by omega)]) (fun j => by rw [f2 _ _ (by omega), f1 _ _ (by omega)]) ?_
      exact Rel.back ⟨z1, z3, z4⟩ z2 (by omega) (by omega) (Nat.le_refl _) (fun k j a1 => f2 _ _ (by omega))
  · exact PI.of (c_X5_addLot_a l G o X Y a b' c d hm) (c_X6_addLot_a l G o _ _ a b' c d hm) rfl (by decide) h.nx
theorem P_planLot (l : Launch) (G : GG) (o : Nat) (X : SX) (Y : SY) (b : Nat) (w a b' c d : Int32) (h : R2 X b) (hb : b ≤ 600) : PI l yX5_planLot cX5_planLot 8 yX6_planLot cX6_planLot 7 G o [.int w, .int a, .int b', .int c, .int d] X Y b := by
  by_cases hw : Wi w 1 1000
  · by_cases hm : MassOK a b' c d
    · obtain ⟨n, t, r, hc, g4, g5, g6, g7, g8⟩ := id h.1
      have hG : GroundR X (X 286) n t := g8
      have h40 := hc.2.1.2.2.1
      have e2 := hc.2.1.1
      have e31 := hc.2.1.2.1
      by_cases hf : n = 40
      · subst hf
        exact PI.of (c_X5_planLot_f l G o X Y w a b' c d hw hm (by rw [e2]; decide)) (c_X6_planLot_f l G o _ _ w a b' c d hw hm (by rw [e31]; rfl)) rfl (by decide) h.nx
      · have hn : n < 40 := by omega
        have K1 := c_X5_planLot_y l G o X Y w a b' c d n hw hm (by rw [e2]; exact nI_ge (b := 40) hn (by decide)) e2 hn
        obtain ⟨nw, hnw, rfl⟩ := wi_nat (n := 1000) (by decide) (x := w) ⟨Int32.le_trans (by decide) hw.1, hw.2⟩
        have hnw1 : 1 ≤ nw := (nI_leI (a := 1) (by decide) (by omega)).mp hw.1
        have f1 : ∀ k j, (k < 11 ∨ 93 < k) → sx (sx (crX X a b' c d n) (14 + 2 * n) 1 0) (14 + 2 * n) 2 (((crX X a b' c d n) 11 3) + nI nw) k j = X k j := fun k j hk => by rw [sx_o (by omega), sx_o (by omega), crX_f (by omega) (by omega) (by omega)]
        have oC0 : ∀ k j, ¬ (k = 15 + 2 * n) → ¬ (k = 14 + 2 * n) → ¬ (k = 11 ∧ j = 2) → sx (sx (crX X a b' c d n) (14 + 2 * n) 1 0) (14 + 2 * n) 2 (((crX X a b' c d n) 11 3) + nI nw) k j = X k j := fun k j q1 q2 q3 => by rw [sx_o (by omega), sx_o (by omega), crX_f (by omega) (by omega) (by omega)]
        have e286 : (sx (sx (crX X a b' c d n) (14 + 2 * n) 1 0) (14 + 2 * n) 2 (((crX X a b' c d n) 11 3) + nI nw)) 286 = X 286 := funext (fun j => f1 286 j (by omega))
        have t3 : ((crX X a b' c d n) 11 3) + nI nw = nI (t + nw) := by rw [crX_f (by omega) (by omega) (by omega), g4, nI_add]
        have v0 : sx (sx (crX X a b' c d n) (14 + 2 * n) 1 0) (14 + 2 * n) 2 (((crX X a b' c d n) 11 3) + nI nw) 11 2 = nI (n + 1) := by unfold crX; simp (disch := omega) only [sx_o, sx_e]
        have v1 : sx (sx (crX X a b' c d n) (14 + 2 * n) 1 0) (14 + 2 * n) 2 (((crX X a b' c d n) 11 3) + nI nw) (14 + 2 * n) 1 = 0 := by simp (disch := omega) only [sx_o, sx_e]
        have v2 : sx (sx (crX X a b' c d n) (14 + 2 * n) 1 0) (14 + 2 * n) 2 (((crX X a b' c d n) 11 3) + nI nw) (14 + 2 * n) 2 = nI (t + nw) := by rw [sx_e]; exact t3
        have v4 : sx (sx (crX X a b' c d n) (14 + 2 * n) 1 0) (14 + 2 * n) 2 (((crX X a b' c d n) 11 3) + nI nw) (14 + 2 * n) 4 = 0 := by unfold crX; simp (disch := omega) only [sx_o, sx_e]
        have m0 : sx (sx (crX X a b' c d n) (14 + 2 * n) 1 0) (14 + 2 * n) 2 (((crX X a b' c d n) 11 3) + nI nw) (15 + 2 * n) 0 = a := by unfold crX; simp (disch := omega) only [sx_o, sx_e]
        have m1 : sx (sx (crX X a b' c d n) (14 + 2 * n) 1 0) (14 + 2 * n) 2 (((crX X a b' c d n) 11 3) + nI nw) (15 + 2 * n) 1 = b' := by unfold crX; simp (disch := omega) only [sx_o, sx_e]
        have m2 : sx (sx (crX X a b' c d n) (14 + 2 * n) 1 0) (14 + 2 * n) 2 (((crX X a b' c d n) 11 3) + nI nw) (15 + 2 * n) 2 = c := by unfold crX; simp (disch := omega) only [sx_o, sx_e]
        have m3 : sx (sx (crX X a b' c d n) (14 + 2 * n) 1 0) (14 + 2 * n) 2 (((crX X a b' c d n) 11 3) + nI nw) (15 + 2 * n) 3 = d := by unfold crX; simp (disch := omega) only [sx_o, sx_e]
        generalize sx (sx (crX X a b' c d n) (14 + 2 * n) 1 0) (14 + 2 * n) 2 (((crX X a b' c d n) 11 3) + nI nw) = Z at *
        have K2 := c_X6_planLot_y l G o Z Y (nI nw) a b' c d n hw hm (by exact fun q => by have := nI_inj (by omega) (b := 40) (by decide) q; omega) (by rw [e286]; exact e31) hn
        obtain ⟨na, nb, nc, nd, rfl, rfl, rfl, rfl, ka, kb, kc, kd, hpos⟩ := mass_n hm
        have t3m : ((mkX Z (nI na) (nI nb) (nI nc) (nI nd) n) 286 30) + nI nw = nI (t + nw) := by rw [mkX_f (by omega), e286, g5, nI_add]
        rw [t3m] at K2
        refine PI.of K1 K2 rfl (by decide) ?_
        have oM : ∀ j, ¬ (41 + 8 * n ≤ j ∧ j < 49 + 8 * n) → j ≠ 31 → sx (mkX Z (nI na) (nI nb) (nI nc) (nI nd) n) 286 ((41 + (8 * n)) + 6) (nI (t + nw)) 286 j = X 286 j := fun j q1 q2 => by rw [sx_o (by omega), mkX_f (by omega), e286]
        have f2 : ∀ k j, k ≠ 286 → sx (mkX Z (nI na) (nI nb) (nI nc) (nI nd) n) 286 ((41 + (8 * n)) + 6) (nI (t + nw)) k j = Z k j := fun k j q => by rw [sx_o (by omega), mkX_f (by omega)]
        refine h.slots (fun k j a1 a2 => by rw [f2 _ _ (by omega), f1 _ _ (by omega)]) (fun j => by rw [f2 _ _ (by omega), f1 _ _ (by omega)]) (fun j => by rw [f2 _ _ (by omega), f1 _ _ (by omega)]) ?_
        have cC : Core Z ((sx (mkX Z (nI na) (nI nb) (nI nc) (nI nd) n) 286 ((41 + (8 * n)) + 6) (nI (t + nw))) 286) (n + 1) (fun _ => t) (t + 1000) r := by
          obtain ⟨hSet, hSc, hL⟩ := hc
          obtain ⟨c1, c2, c3, c4, c5, c6, c7, c8⟩ := id hSc
          refine ⟨hSet.same (fun k j _ _ _ => oC0 _ _ (by omega) (by omega) (by omega)) (oC0 _ _ (by omega) (by omega) (by omega)) (oC0 _ _ (by omega) (by omega) (by omega)) (fun j _ => oM _ (by omega) (by omega)), ⟨v0, ?_, by omega, ?_, ?_, ?_, ?_, fun j _ => ?_⟩, ?_⟩
          · unfold mkX; simp (disch := omega) only [sx_o, sx_e]
          · rw [oC0 _ _ (by omega) (by omega) (by omega)]; exact c4
          · rw [oM _ (by omega) (by omega)]; exact c5
          · rw [oC0 _ _ (by omega) (by omega) (by omega), oM _ (by omega) (by omega)]; exact c6
          · rw [oC0 _ _ (by omega) (by omega) (by omega), oM _ (by omega) (by omega)]; exact c7
          · rw [oC0 _ _ (by omega) (by omega) (by omega), oM _ (by omega) (by omega)]; exact c8 j (by omega)
          · refine hL.push (Nat.le_refl r) (fun _ _ => Nat.le_refl _) (fun i j _ _ => oC0 _ _ (by omega) (by omega) (by omega)) (fun i j _ _ _ => oC0 _ _ (by omega) (by omega) (by omega)) (fun i j _ _ => oM _ (by omega) (by omega)) ⟨⟨na, nb, nc, nd, ⟨m0, m1, m2, m3, by omega⟩, ?_, ?_, ?_, ?_, Or.inl ⟨?_, v1, hpos, t + nw, v2, ?_, by omega, by omega⟩⟩, ?_⟩ (fun q => ?_) (by omega)
            · unfold mkX; simp (disch := omega) only [sx_o, sx_e]
            · unfold mkX; simp (disch := omega) only [sx_o, sx_e]
            · unfold mkX; simp (disch := omega) only [sx_o, sx_e]
            · unfold mkX; simp (disch := omega) only [sx_o, sx_e]
            · unfold mkX; simp (disch := omega) only [sx_o, sx_e]
            · rw [sx_e]
            · rw [v4]; unfold mkX; simp (disch := omega) only [sx_o, sx_e]
            · have z : sx (mkX Z (nI na) (nI nb) (nI nc) (nI nd) n) 286 ((41 + (8 * n)) + 6) (nI (t + nw)) 286 (41 + 8 * n + 4) = 0 := by unfold mkX; simp (disch := omega) only [sx_o, sx_e]
              rw [z] at q
              exact absurd q (by decide)
        have z0 : sx (mkX Z (nI na) (nI nb) (nI nc) (nI nd) n) 286 ((41 + (8 * n)) + 6) (nI (t + nw)) 286 (41 + 8 * n + 4) = 0 := by unfold mkX; simp (disch := omega) only [sx_o, sx_e]
        refine Rel.back (C := Z) (t := t) (r := r) (th := t + 1000) (cnt := n + 1) ⟨cC, by rw [oM _ (by omega) (by omega)]; exact g5, ?_⟩ (by rw [oC0 _ _ (by omega) (by omega) (by omega)]; exact g4) (by omega) (by omega) (Nat.le_refl _) (fun k j a1 => f2 _ _ (by omega))
        unfold GroundR IdleR BusyR
        rw [oC0 11 5 (by omega) (by omega) (by omega), oC0 11 6 (by omega) (by omega) (by omega), oM 35 (by omega) (by omega), oM 36 (by omega) (by omega)]
        rcases hG with ⟨q1, q2⟩ | ⟨g, u, q1, q2⟩
        · refine Or.inl ⟨q1, fun i hi => ?_⟩
          by_cases e : i = n
          · rw [e, z0]; decide
          · rw [oM _ (by omega) (by omega)]; exact q2 i (by omega)
        · exact Or.inr ⟨g, u, by omega, q2⟩
    · exact PI.of (c_X5_planLot_b l G o X Y w a b' c d hw hm) (c_X6_planLot_b l G o _ _ w a b' c d hw hm) rfl (by decide) h.nx
  · exact PI.of (c_X5_planLot_a l G o X Y w a b' c d hw) (c_X6_planLot_a l G o _ _ w a b' c d hw) rfl (by decide) h.nx
