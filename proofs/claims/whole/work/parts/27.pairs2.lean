/-! ===== 27: reads, setBreakage ===== -/
theorem lot_iff {u : Int32} {cnt : Nat} (h : cnt ≤ 40) : Wi u 0 (nI cnt - 1) ↔ (0 ≤ u ∧ u < nI cnt) := by
  unfold Wi
  rw [Int32.le_iff_toInt_le, Int32.le_iff_toInt_le, Int32.lt_iff_toInt_lt, show (nI cnt - 1).toInt = (cnt : Int) - 1 from pk_sub_toInt (b := 1) (by omega) (by decide), nI_toInt (by omega)]
  omega
theorem lot_n {u : Int32} {cnt : Nat} (h : cnt ≤ 40) (hu : 0 ≤ u ∧ u < nI cnt) : ∃ i, i < cnt ∧ u = nI i := by
  obtain ⟨i, hi, rfl⟩ := nI_of (Int32.not_lt.mpr hu.1)
  exact ⟨i, (nI_ltI hi (by omega)).mp hu.2, rfl⟩
theorem nm1_4 {t : Nat} (h : t ≤ 3) : ¬ nI t = (-1) := nI_nm1 (by omega)
theorem lot_st {f : SX} {A : Nat → Int32} {tl th r i : Nat} (h : LotR f A tl th r i) : f (14 + 2 * i) 1 = A (41 + 8 * i + 4) ∧ (∀ j, j < 4 → f (15 + 2 * i) j = A (41 + 8 * i + j)) ∧ sum4 (f (15 + 2 * i)) = wgt A i ∧ f (14 + 2 * i) 4 = A (41 + 8 * i + 7) := by
  obtain ⟨⟨a, b, c, d, g1, g2, g3, g4, g5, g6⟩, g7⟩ := h
  refine ⟨?_, fun j hj => ?_, ?_, g7⟩
  · rcases g6 with ⟨x1, x2, -⟩ | ⟨x1, x2, -⟩ | ⟨x1, x2, -⟩ | ⟨x1, x2⟩ <;> rw [x1, x2]
  · rcases (show j = 0 ∨ j = 1 ∨ j = 2 ∨ j = 3 by omega) with rfl | rfl | rfl | rfl
    · rw [g1.1]; exact g2.symm
    · rw [g1.2.1]; exact g3.symm
    · rw [g1.2.2.1]; exact g4.symm
    · rw [g1.2.2.2.1]; exact g5.symm
  · rw [sum4_n g1, wgt_n ⟨g2, g3, g4, g5, g1.2.2.2.2⟩]
theorem P_state (l : Launch) (G : GG) (o : Nat) (X : SX) (Y : SY) (b : Nat) (u : Int32) (h : R2 X b) : PI l yX5_state cX5_state 2 yX6_state cX6_state 2 G o [.int u] X Y b := by
  obtain ⟨cnt, t, r, ⟨g1, g2, g3⟩, g4⟩ := id h.1
  by_cases h1 : 0 ≤ u ∧ u < nI cnt
  · obtain ⟨i, hi, rfl⟩ := lot_n g2.2.2.1 h1
    have h40 := g2.2.2.1
    exact PI.of (c_X5_state_y l G o X Y i (by omega) (by rw [g2.1]; exact h1)) (c_X6_state_y l G o _ _ i (by omega) (by rw [g2.2.1]; exact (lot_iff h40).mpr h1)) (lot_st (g3.1 i hi)).1 (by decide) h.nx
  · exact PI.of (c_X5_state_a l G o X Y u (by rw [g2.1]; exact h1)) (c_X6_state_a l G o _ _ u (by rw [g2.2.1]; exact fun q => h1 ((lot_iff g2.2.2.1).mp q))) rfl (by decide) h.nx
theorem P_passes (l : Launch) (G : GG) (o : Nat) (X : SX) (Y : SY) (b : Nat) (u : Int32) (h : R2 X b) : PI l yX5_passes cX5_passes 2 yX6_passes cX6_passes 2 G o [.int u] X Y b := by
  obtain ⟨cnt, t, r, ⟨g1, g2, g3⟩, g4⟩ := id h.1
  by_cases h1 : 0 ≤ u ∧ u < nI cnt
  · obtain ⟨i, hi, rfl⟩ := lot_n g2.2.2.1 h1
    have h40 := g2.2.2.1
    exact PI.of (c_X5_passes_y l G o X Y i (by omega) (by rw [g2.1]; exact h1)) (c_X6_passes_y l G o _ _ i (by omega) (by rw [g2.2.1]; exact (lot_iff h40).mpr h1)) (lot_st (g3.1 i hi)).2.2.2 (by decide) h.nx
  · exact PI.of (c_X5_passes_a l G o X Y u (by rw [g2.1]; exact h1)) (c_X6_passes_a l G o _ _ u (by rw [g2.2.1]; exact fun q => h1 ((lot_iff g2.2.2.1).mp q))) rfl (by decide) h.nx
theorem P_mass (l : Launch) (G : GG) (o : Nat) (X : SX) (Y : SY) (b : Nat) (u v : Int32) (h : R2 X b) : PI l yX5_mass cX5_mass 3 yX6_mass cX6_mass 3 G o [.int u, .int v] X Y b := by
  obtain ⟨cnt, t, r, ⟨g1, g2, g3⟩, g4⟩ := id h.1
  have h40 := g2.2.2.1
  by_cases h1 : 0 ≤ u ∧ u < nI cnt
  · obtain ⟨i, hi, rfl⟩ := lot_n g2.2.2.1 h1
    have hc : 0 ≤ nI i ∧ nI i < X 11 2 := by rw [g2.1]; exact h1
    have hm : Wi (nI i) 0 (X 286 31 - 1) := by rw [g2.2.1]; exact (lot_iff h40).mpr h1
    obtain ⟨s1, s2, s3, s4⟩ := lot_st (g3.1 i hi)
    by_cases h2 : v = (-1)
    · subst h2
      exact PI.of (c_X5_mass_m l G o X Y i (by omega) hc) (c_X6_mass_m l G o _ _ i (by omega) hm) s3 (by decide) h.nx
    · by_cases h3 : Wi v 0 3
      · obtain ⟨t, ht, rfl⟩ := wi_nat (n := 3) (by decide) h3
        exact PI.of (c_X5_mass_y l G o X Y i t (by omega) hc (by omega) h3 h2) (c_X6_mass_y l G o _ _ i t (by omega) hm (by omega) h3 h2) (s2 t (by omega)) (by decide) h.nx
      · exact PI.of (c_X5_mass_s l G o X Y i v (by omega) hc h3 h2) (c_X6_mass_s l G o _ _ i v (by omega) hm h3 h2) rfl (by decide) h.nx
  · exact PI.of (c_X5_mass_a l G o X Y u v (by rw [g2.1]; exact h1)) (c_X6_mass_a l G o _ _ u v (by rw [g2.2.1]; exact fun q => h1 ((lot_iff h40).mp q))) rfl (by decide) h.nx
theorem P_produced (l : Launch) (G : GG) (o : Nat) (X : SX) (Y : SY) (b : Nat) (v : Int32) (h : R2 X b) : PI l yX5_produced cX5_produced 2 yX6_produced cX6_produced 2 G o [.int v] X Y b := by
  obtain ⟨cnt, t, r, ⟨g1, g2, g3⟩, g4⟩ := id h.1
  have hp := g2.2.2.2.2.2.2.2
  by_cases h2 : v = (-1)
  · subst h2
    refine PI.of (c_X5_produced_m l G o X Y) (c_X6_produced_m l G o _ _) ?_ (by decide) h.nx
    unfold sum4
    rw [hp 0 (by decide), hp 1 (by decide), hp 2 (by decide), hp 3 (by decide), Int32.zero_add]
  · by_cases h3 : Wi v 0 3
    · obtain ⟨t, ht, rfl⟩ := wi_nat (n := 3) (by decide) h3
      exact PI.of (c_X5_produced_y l G o X Y t (by omega) h3 h2) (c_X6_produced_y l G o _ _ t (by omega) h3 h2) (hp t (by omega)) (by decide) h.nx
    · exact PI.of (c_X5_produced_a l G o X Y v h3 h2) (c_X6_produced_a l G o _ _ v h3 h2) rfl (by decide) h.nx
theorem P_total (l : Launch) (G : GG) (o : Nat) (X : SX) (Y : SY) (b : Nat) (v : Int32) (h : R2 X b) : PI l yX5_total cX5_total 3 yX6_total cX6_total 2 G o [.int v] X Y b := by
  obtain ⟨cnt, t, r, ⟨g1, g2, g3⟩, g4, g5, g6⟩ := id h.1
  by_cases h3 : Wi v 0 3
  · obtain ⟨t, ht, rfl⟩ := wi_nat (n := 3) (by decide) h3
    rcases (show t = 0 ∨ t = 1 ∨ t = 2 ∨ t = 3 by omega) with rfl | rfl | rfl | rfl
    · exact PI.of (c_X5_total_0 l G o X Y) (c_X6_total_0 l G o _ _) (g4.trans g5.symm) (by decide) h.nx
    · exact PI.of (c_X5_total_1 l G o X Y) (c_X6_total_1 l G o _ _) (g2.1.trans g2.2.1.symm) (by decide) h.nx
    · exact PI.of (c_X5_total_2 l G o X Y) (c_X6_total_2 l G o _ _) g2.2.2.2.2.2.1 (by decide) h.nx
    · exact PI.of (c_X5_total_3 l G o X Y) (c_X6_total_3 l G o _ _) g2.2.2.2.2.2.2.1 (by decide) h.nx
  · refine PI.of (c_X5_total_a l G o X Y v ?_) (c_X6_total_a l G o _ _ v h3) rfl (by decide) h.nx
    have z : ¬ (0 ≤ v.toInt ∧ v.toInt ≤ 3) := fun q => h3 ⟨Int32.le_iff_toInt_le.mpr q.1, Int32.le_iff_toInt_le.mpr q.2⟩
    omega
theorem z01 {v : Int32} : Wi v 0 1 ↔ (v = 0 ∨ v = 1) := by
  constructor
  · intro h
    obtain ⟨j, hj, rfl⟩ := wi_nat (n := 1) (by decide) h
    rcases (show j = 0 ∨ j = 1 by omega) with rfl | rfl
    · exact Or.inl rfl
    · exact Or.inr rfl
  · rintro (rfl | rfl) <;> decide
theorem P_mill (l : Launch) (G : GG) (o : Nat) (X : SX) (Y : SY) (b : Nat) (v : Int32) (h : R2 X b) : PI l yX5_mill cX5_mill 3 yX6_mill cX6_mill 2 G o [.int v] X Y b := by
  obtain ⟨cnt, t, r, ⟨g1, g2, g3⟩, g4, g5, g6, g7, g8⟩ := id h.1
  have h40 := g2.2.2.1
  by_cases h1 : Wi v 0 1
  · rcases g8 with ⟨⟨i1, i2⟩, -⟩ | ⟨g, u, b1, b2, b3, b4, b5, b6, b7⟩
    · have n35 : ¬ 0 ≤ X 286 35 := by rw [i2]; decide
      rcases z01.mp h1 with rfl | rfl
      · exact PI.of (c_X5_mill_i0 l G o X Y (Or.inl i1) i1) (c_X6_mill_i0 l G o _ _ n35) rfl (by decide) h.nx
      · exact PI.of (c_X5_mill_i1 l G o X Y (Or.inl i1) i1) (c_X6_mill_i1 l G o _ _ n35) rfl (by decide) h.nx
    · have n5 : ¬ X 11 5 = (-1) := by rw [b2]; exact nI_nm1 (by omega)
      have n35 : 0 ≤ X 286 35 := by rw [b3]; exact nI_pos' (by omega)
      have hgr : GrI X := Or.inr (by rw [b2]; exact lot_ok g2.1 b1 g2.2.2.1)
      rcases z01.mp h1 with rfl | rfl
      · exact PI.of (c_X5_mill_y0 l G o X Y hgr n5) (c_X6_mill_y0 l G o _ _ n35) (b2.trans b3.symm) (by decide) h.nx
      · exact PI.of (c_X5_mill_y1 l G o X Y hgr n5) (c_X6_mill_y1 l G o _ _ n35) (by rw [b4, b5, g4, g5]) (by decide) h.nx
  · exact PI.of (c_X5_mill_a l G o X Y v (fun q => h1 (z01.mpr q))) (c_X6_mill_a l G o _ _ v h1) rfl (by decide) h.nx
theorem P_bin (l : Launch) (G : GG) (o : Nat) (X : SX) (Y : SY) (b : Nat) (v : Int32) (h : R2 X b) (hb : b ≤ 600) : PI l yX5_bin cX5_bin 3 yX6_bin cX6_bin 4 G o [.int v] X Y b := by
  obtain ⟨cnt, t, r, ⟨g1, g2, g3⟩, g4, g5, g6, g7, g8⟩ := id h.1
  have h40 := g2.2.2.1
  obtain ⟨q, hq, e29⟩ := g1.2.2.2.2.2.2.2.2.2.2.2
  have e25 : X 2 5 = nI q := g1.2.2.2.2.2.1.trans e29
  by_cases h2 : v = (-1)
  · subst h2
    refine PI.of (c_X5_bin_c l G o X Y cnt g2.1 h40) (c_X6_bin_c l G o _ _ cnt g2.2.1 h40) ?_ (by decide) h.nx
    exact congrArg nI (cntP_congr cnt (fun i hi => bin_iff (g3.1 i hi)))
  · have ef : fndP (fun a => pB X a ∧ nI (cntP (fun q => pB X q ∧ bfX X (X 2 5) q a) cnt) = v) cnt 0 = fndP (fun a => pBM X a ∧ nI (cntP (fun q => ¬ nI q = nI a ∧ pBM X q ∧ ahM X q a) cnt) = v) cnt 0 := by
      refine fndP_congr cnt 0 (fun a _ ha => ?_)
      have ha' : a < cnt := by omega
      constructor
      · intro ⟨y1, y2⟩
        have ba := (bin_iff (g3.1 a ha')).mp y1
        exact ⟨ba, by rw [← cnt_place hq (by omega) h40 e25 e29 g3 ha' ba]; exact y2⟩
      · intro ⟨y1, y2⟩
        exact ⟨(bin_iff (g3.1 a ha')).mpr y1, by rw [cnt_place hq (by omega) h40 e25 e29 g3 ha' y1]; exact y2⟩
    by_cases h3 : 0 ≤ v
    · cases hf : fndP (fun a => pB X a ∧ nI (cntP (fun q => pB X q ∧ bfX X (X 2 5) q a) cnt) = v) cnt 0 with
      | none =>
        refine PI.of (c_X5_bin_n l G o X Y v cnt g2.1 h40 h2 hf) (c_X6_bin_y l G o _ _ v cnt g2.2.1 h40 h2 h3) ?_ (by decide) h.nx
        rw [← ef, hf]
        rfl
      | some j =>
        have hj := fndP_lt _ _ _ hf
        refine PI.of (c_X5_bin_y l G o X Y v cnt j g2.1 h40 h2 hf (by omega)) (c_X6_bin_y l G o _ _ v cnt g2.2.1 h40 h2 h3) ?_ (by decide) h.nx
        rw [← ef, hf]
        rfl
    · refine PI.of (c_X5_bin_n l G o X Y v cnt g2.1 h40 h2 (fndP_none cnt 0 (fun a _ ha y => h3 ?_))) (c_X6_bin_m l G o _ _ v h2 h3) rfl (by decide) h.nx
      have hle := cntP_le (P := fun q => pB X q ∧ bfX X (X 2 5) q a) cnt
      rw [← y.2]
      exact nI_pos' (by omega)
theorem wi00 {v : Int32} : Wi v 0 0 ↔ v = 0 := by
  constructor
  · intro h
    obtain ⟨j, hj, rfl⟩ := wi_nat (n := 0) (by decide) h
    have : j = 0 := by omega
    subst this
    rfl
  · rintro rfl; decide
theorem stays_n {a b c : Nat} (h : a + b + c ≤ 10) : ((10 - nI a) - nI b) - nI c = nI (10 - a - b - c) := by
  rw [show (10 : Int32) - nI a = nI (10 - a) from pk_sub (a := 10) (by omega), pk_sub (by omega), pk_sub (by omega)]
/-- a row of shares put anew on both sides -/
theorem SetR.brk {X Z : SX} {j : Nat} {w : Nat → Nat} (h : SetR X (X 286)) (hj : j < 4) (hw : w 0 + w 1 + w 2 + w 3 = 10) (hz : ∀ q, q < j → w q = 0) (e1 : ∀ q, q < 4 → Z (4 + j) q = nI (w q)) (e2 : ∀ q, q < 4 → Z 286 (4 * j + q) = nI (w q)) (o1 : ∀ k q, k ≠ 4 + j → k ≠ 286 → Z k q = X k q) (o2 : ∀ q, (q < 4 * j ∨ 4 * j + 4 ≤ q) → Z 286 q = X 286 q) : SetR Z (Z 286) := by
  obtain ⟨h1, h2, h3, h4, h5, h6, ⟨s, h7, h8, h9⟩, h10, h11, h12, h13, h14⟩ := h
  refine ⟨fun i q hi hq => ?_, fun q hq => ?_, fun q hq => ?_, fun q hq => ?_, ?_, ?_, ⟨fun i q => if i = j then w q else s i q, fun i q hi hq => ?_, fun i hi => ?_, fun i q hiq => ?_⟩, fun q hq => ?_, fun q hq => ?_, fun q hq => ?_, ?_, ?_⟩
  · by_cases e : i = j
    · rw [e, e1 q hq, e2 q hq]
    · rw [o1 _ _ (by omega) (by omega), o2 _ (by omega)]; exact h1 i q hi hq
  · rw [o1 _ _ (by omega) (by omega), o2 _ (by omega)]; exact h2 q hq
  · rw [o1 _ _ (by omega) (by omega), o2 _ (by omega)]; exact h3 q hq
  · rw [o1 _ _ (by omega) (by omega), o2 _ (by omega)]; exact h4 q hq
  · rw [o1 _ _ (by omega) (by omega), o2 _ (by omega)]; exact h5
  · rw [o1 _ _ (by omega) (by omega), o2 _ (by omega)]; exact h6
  · by_cases e : i = j
    · simp only [if_pos e]; rw [e]; exact e2 q hq
    · simp only [if_neg e]; rw [o2 _ (by omega)]; exact h7 i q hi hq
  · by_cases e : i = j
    · simp only [if_pos e]; exact hw
    · simp only [if_neg e]; exact h8 i hi
  · by_cases e : i = j
    · simp only [if_pos e]; exact hz q (by omega)
    · simp only [if_neg e]; exact h9 i q hiq
  · rw [o2 _ (by omega)]; exact h10 q hq
  · rw [o2 _ (by omega)]; exact h11 q hq
  · rw [o2 _ (by omega)]; exact h12 q hq
  · rw [o2 _ (by omega)]; exact h13
  · rw [o2 _ (by omega)]; exact h14
theorem le10 {x : Int32} : ¬ (10 < x) ↔ x ≤ 10 := Int32.not_lt
theorem P_setBreakage_0 (l : Launch) (G : GG) (o : Nat) (X : SX) (Y : SY) (b : Nat) (a b' c : Int32) (h : R2 X b) : PI l yX5_setBreakage cX5_setBreakage 7 yX6_setBreakage cX6_setBreakage 7 G o [.int 0, .int a, .int b', .int c] X Y b := by
  by_cases hok : Wi a 0 10 ∧ Wi b' 0 10 ∧ Wi c 0 10 ∧ (a + b') + c ≤ 10
  · obtain ⟨h0, h1, h2, h3⟩ := hok
    refine PI.of (c_X5_setBreakage_ok_0 l G o X Y a b' c h0 h1 h2 h3) (c_X6_setBreakage_ok_0 l G o _ _ a b' c h0 h1 h2 (le10.mpr h3) ) rfl (by decide) ?_
    obtain ⟨na, hna, rfl⟩ := wi_nat (n := 10) (by decide) h0
    obtain ⟨nb, hnb, rfl⟩ := wi_nat (n := 10) (by decide) h1
    obtain ⟨nc, hnc, rfl⟩ := wi_nat (n := 10) (by decide) h2
    have h3' : na + nb + nc ≤ 10 := by
      rw [nI_add, nI_add] at h3
      exact (nI_leI (by omega) (b := 10) (by decide)).mp h3
    have hst := stays_n h3'
    obtain ⟨s, s1, s2, s3⟩ := (h.1.setR).2.2.2.2.2.2.1
    have hz2 : ∀ q, q < 0 → X 286 (0 + q) = nI 0 := fun q hq => (s1 0 q (by decide) (by omega)).trans (congrArg nI (s3 0 q hq))
    have hz : ∀ q, q < 0 → X 4 q = nI 0 := fun q hq => ((h.1.setR).1 0 q (by decide) (by omega)).trans (hz2 q hq)
    unfold sb0X
    rw [hst]
    refine h.slots (fun k q a1 a2 => by simp (disch := omega) only [sx_o]) (fun q => by simp (disch := omega) only [sx_o]) (fun q => by simp (disch := omega) only [sx_o]) ?_
    refine (h.1.mono (Nat.le_succ b)).set ?_ (fun k q a1 a2 => by simp (disch := omega) only [sx_o]) (fun q a1 => by simp (disch := omega) only [sx_o])
    refine (h.1.setR).brk (j := 0) (w := f4 (10 - na - nb - nc) na nb nc) (by decide) ?_ (fun q hq => ?_) (fun q hq => ?_) (fun q hq => ?_) (fun k q a1 a2 => by simp (disch := omega) only [sx_o]) (fun q hq => by simp (disch := omega) only [sx_o])
    · simp only [f4]
      simp
      omega
    · rcases (show q = 0 ∨ q = 1 ∨ q = 2 ∨ q = 3 by omega) with rfl | rfl | rfl | rfl <;> first | rfl | omega
    · rcases (show q = 0 ∨ q = 1 ∨ q = 2 ∨ q = 3 by omega) with rfl | rfl | rfl | rfl
      · simp (disch := omega) only [sx_o, sx_e, Nat.reduceAdd]
        rfl
      · simp (disch := omega) only [sx_o, sx_e, Nat.reduceAdd]
        rfl
      · simp (disch := omega) only [sx_o, sx_e, Nat.reduceAdd]
        rfl
      · simp (disch := omega) only [sx_o, sx_e, Nat.reduceAdd]
        rfl
    · rcases (show q = 0 ∨ q = 1 ∨ q = 2 ∨ q = 3 by omega) with rfl | rfl | rfl | rfl
      · simp (disch := omega) only [sx_o, sx_e, Nat.reduceAdd, Nat.reduceMul]
        rfl
      · simp (disch := omega) only [sx_o, sx_e, Nat.reduceAdd, Nat.reduceMul]
        rfl
      · simp (disch := omega) only [sx_o, sx_e, Nat.reduceAdd, Nat.reduceMul]
        rfl
      · simp (disch := omega) only [sx_o, sx_e, Nat.reduceAdd, Nat.reduceMul]
        rfl
  · exact PI.of (c_X5_setBreakage_bad_0 l G o X Y a b' c hok) (c_X6_setBreakage_bad_0 l G o _ _ a b' c (fun q => hok ⟨q.1, q.2.1, q.2.2.1, le10.mp (q.2.2.2)⟩)) rfl (by decide) h.nx
theorem P_setBreakage_1 (l : Launch) (G : GG) (o : Nat) (X : SX) (Y : SY) (b : Nat) (a b' c : Int32) (h : R2 X b) : PI l yX5_setBreakage cX5_setBreakage 7 yX6_setBreakage cX6_setBreakage 7 G o [.int 1, .int a, .int b', .int c] X Y b := by
  by_cases hok : Wi a 0 10 ∧ Wi b' 0 10 ∧ Wi c 0 0 ∧ (a + b') + c ≤ 10
  · obtain ⟨h0, h1, h2, h3⟩ := hok
    refine PI.of (c_X5_setBreakage_ok_1 l G o X Y a b' c h0 h1 h2 h3) (c_X6_setBreakage_ok_1 l G o _ _ a b' c h0 h1 (by rw [wi00.mp h2]; decide) (le10.mpr h3) (wi00.mp h2)) rfl (by decide) ?_
    obtain ⟨na, hna, rfl⟩ := wi_nat (n := 10) (by decide) h0
    obtain ⟨nb, hnb, rfl⟩ := wi_nat (n := 10) (by decide) h1
    obtain ⟨nc, hnc, rfl⟩ := wi_nat (n := 0) (by decide) h2
    have h3' : na + nb + nc ≤ 10 := by
      rw [nI_add, nI_add] at h3
      exact (nI_leI (by omega) (b := 10) (by decide)).mp h3
    have hst := stays_n h3'
    obtain ⟨s, s1, s2, s3⟩ := (h.1.setR).2.2.2.2.2.2.1
    have hz2 : ∀ q, q < 1 → X 286 (4 + q) = nI 0 := fun q hq => (s1 1 q (by decide) (by omega)).trans (congrArg nI (s3 1 q hq))
    have hz : ∀ q, q < 1 → X 5 q = nI 0 := fun q hq => ((h.1.setR).1 1 q (by decide) (by omega)).trans (hz2 q hq)
    unfold sb1X
    rw [hst]
    refine h.slots (fun k q a1 a2 => by simp (disch := omega) only [sx_o]) (fun q => by simp (disch := omega) only [sx_o]) (fun q => by simp (disch := omega) only [sx_o]) ?_
    refine (h.1.mono (Nat.le_succ b)).set ?_ (fun k q a1 a2 => by simp (disch := omega) only [sx_o]) (fun q a1 => by simp (disch := omega) only [sx_o])
    refine (h.1.setR).brk (j := 1) (w := f4 0 (10 - na - nb - nc) na nb) (by decide) ?_ (fun q hq => ?_) (fun q hq => ?_) (fun q hq => ?_) (fun k q a1 a2 => by simp (disch := omega) only [sx_o]) (fun q hq => by simp (disch := omega) only [sx_o])
    · simp only [f4]
      simp
      omega
    · rcases (show q = 0 ∨ q = 1 ∨ q = 2 ∨ q = 3 by omega) with rfl | rfl | rfl | rfl <;> first | rfl | omega
    · rcases (show q = 0 ∨ q = 1 ∨ q = 2 ∨ q = 3 by omega) with rfl | rfl | rfl | rfl
      · show _ = nI 0
        simp (disch := omega) only [sx_o, sx_e, Nat.reduceAdd]
        exact hz 0 (by omega)
      · simp (disch := omega) only [sx_o, sx_e, Nat.reduceAdd]
        rfl
      · simp (disch := omega) only [sx_o, sx_e, Nat.reduceAdd]
        rfl
      · simp (disch := omega) only [sx_o, sx_e, Nat.reduceAdd]
        rfl
    · rcases (show q = 0 ∨ q = 1 ∨ q = 2 ∨ q = 3 by omega) with rfl | rfl | rfl | rfl
      · show _ = nI 0
        simp (disch := omega) only [sx_o, sx_e, Nat.reduceAdd, Nat.reduceMul]
        exact hz2 0 (by omega)
      · simp (disch := omega) only [sx_o, sx_e, Nat.reduceAdd, Nat.reduceMul]
        rfl
      · simp (disch := omega) only [sx_o, sx_e, Nat.reduceAdd, Nat.reduceMul]
        rfl
      · simp (disch := omega) only [sx_o, sx_e, Nat.reduceAdd, Nat.reduceMul]
        rfl
  · exact PI.of (c_X5_setBreakage_bad_1 l G o X Y a b' c hok) (c_X6_setBreakage_bad_1 l G o _ _ a b' c (fun q => hok ⟨q.1, q.2.1, wi00.mpr (q.2.2.2.2), le10.mp (q.2.2.2.1)⟩)) rfl (by decide) h.nx
theorem P_setBreakage_2 (l : Launch) (G : GG) (o : Nat) (X : SX) (Y : SY) (b : Nat) (a b' c : Int32) (h : R2 X b) : PI l yX5_setBreakage cX5_setBreakage 7 yX6_setBreakage cX6_setBreakage 7 G o [.int 2, .int a, .int b', .int c] X Y b := by
  by_cases hok : Wi a 0 10 ∧ Wi b' 0 0 ∧ Wi c 0 0 ∧ (a + b') + c ≤ 10
  · obtain ⟨h0, h1, h2, h3⟩ := hok
    refine PI.of (c_X5_setBreakage_ok_2 l G o X Y a b' c h0 h1 h2 h3) (c_X6_setBreakage_ok_2 l G o _ _ a b' c h0 (by rw [wi00.mp h1]; decide) (by rw [wi00.mp h2]; decide) (le10.mpr h3) (wi00.mp h1) (wi00.mp h2)) rfl (by decide) ?_
    obtain ⟨na, hna, rfl⟩ := wi_nat (n := 10) (by decide) h0
    obtain ⟨nb, hnb, rfl⟩ := wi_nat (n := 0) (by decide) h1
    obtain ⟨nc, hnc, rfl⟩ := wi_nat (n := 0) (by decide) h2
    have h3' : na + nb + nc ≤ 10 := by
      rw [nI_add, nI_add] at h3
      exact (nI_leI (by omega) (b := 10) (by decide)).mp h3
    have hst := stays_n h3'
    obtain ⟨s, s1, s2, s3⟩ := (h.1.setR).2.2.2.2.2.2.1
    have hz2 : ∀ q, q < 2 → X 286 (8 + q) = nI 0 := fun q hq => (s1 2 q (by decide) (by omega)).trans (congrArg nI (s3 2 q hq))
    have hz : ∀ q, q < 2 → X 6 q = nI 0 := fun q hq => ((h.1.setR).1 2 q (by decide) (by omega)).trans (hz2 q hq)
    unfold sb2X
    rw [hst]
    refine h.slots (fun k q a1 a2 => by simp (disch := omega) only [sx_o]) (fun q => by simp (disch := omega) only [sx_o]) (fun q => by simp (disch := omega) only [sx_o]) ?_
    refine (h.1.mono (Nat.le_succ b)).set ?_ (fun k q a1 a2 => by simp (disch := omega) only [sx_o]) (fun q a1 => by simp (disch := omega) only [sx_o])
    refine (h.1.setR).brk (j := 2) (w := f4 0 0 (10 - na - nb - nc) na) (by decide) ?_ (fun q hq => ?_) (fun q hq => ?_) (fun q hq => ?_) (fun k q a1 a2 => by simp (disch := omega) only [sx_o]) (fun q hq => by simp (disch := omega) only [sx_o])
    · simp only [f4]
      simp
      omega
    · rcases (show q = 0 ∨ q = 1 ∨ q = 2 ∨ q = 3 by omega) with rfl | rfl | rfl | rfl <;> first | rfl | omega
    · rcases (show q = 0 ∨ q = 1 ∨ q = 2 ∨ q = 3 by omega) with rfl | rfl | rfl | rfl
      · show _ = nI 0
        simp (disch := omega) only [sx_o, sx_e, Nat.reduceAdd]
        exact hz 0 (by omega)
      · show _ = nI 0
        simp (disch := omega) only [sx_o, sx_e, Nat.reduceAdd]
        exact hz 1 (by omega)
      · simp (disch := omega) only [sx_o, sx_e, Nat.reduceAdd]
        rfl
      · simp (disch := omega) only [sx_o, sx_e, Nat.reduceAdd]
        rfl
    · rcases (show q = 0 ∨ q = 1 ∨ q = 2 ∨ q = 3 by omega) with rfl | rfl | rfl | rfl
      · show _ = nI 0
        simp (disch := omega) only [sx_o, sx_e, Nat.reduceAdd, Nat.reduceMul]
        exact hz2 0 (by omega)
      · show _ = nI 0
        simp (disch := omega) only [sx_o, sx_e, Nat.reduceAdd, Nat.reduceMul]
        exact hz2 1 (by omega)
      · simp (disch := omega) only [sx_o, sx_e, Nat.reduceAdd, Nat.reduceMul]
        rfl
      · simp (disch := omega) only [sx_o, sx_e, Nat.reduceAdd, Nat.reduceMul]
        rfl
  · exact PI.of (c_X5_setBreakage_bad_2 l G o X Y a b' c hok) (c_X6_setBreakage_bad_2 l G o _ _ a b' c (fun q => hok ⟨q.1, wi00.mpr (q.2.2.2.2.1), wi00.mpr (q.2.2.2.2.2), le10.mp (q.2.2.2.1)⟩)) rfl (by decide) h.nx
theorem P_setBreakage_3 (l : Launch) (G : GG) (o : Nat) (X : SX) (Y : SY) (b : Nat) (a b' c : Int32) (h : R2 X b) : PI l yX5_setBreakage cX5_setBreakage 7 yX6_setBreakage cX6_setBreakage 7 G o [.int 3, .int a, .int b', .int c] X Y b := by
  by_cases hok : Wi a 0 0 ∧ Wi b' 0 0 ∧ Wi c 0 0 ∧ (a + b') + c ≤ 10
  · obtain ⟨h0, h1, h2, h3⟩ := hok
    refine PI.of (c_X5_setBreakage_ok_3 l G o X Y a b' c h0 h1 h2 h3) (c_X6_setBreakage_ok_3 l G o _ _ a b' c (by rw [wi00.mp h0]; decide) (by rw [wi00.mp h1]; decide) (by rw [wi00.mp h2]; decide) (le10.mpr h3) (wi00.mp h0) (wi00.mp h1) (wi00.mp h2)) rfl (by decide) ?_
    obtain ⟨na, hna, rfl⟩ := wi_nat (n := 0) (by decide) h0
    obtain ⟨nb, hnb, rfl⟩ := wi_nat (n := 0) (by decide) h1
    obtain ⟨nc, hnc, rfl⟩ := wi_nat (n := 0) (by decide) h2
    have h3' : na + nb + nc ≤ 10 := by
      rw [nI_add, nI_add] at h3
      exact (nI_leI (by omega) (b := 10) (by decide)).mp h3
    have hst := stays_n h3'
    obtain ⟨s, s1, s2, s3⟩ := (h.1.setR).2.2.2.2.2.2.1
    have hz2 : ∀ q, q < 3 → X 286 (12 + q) = nI 0 := fun q hq => (s1 3 q (by decide) (by omega)).trans (congrArg nI (s3 3 q hq))
    have hz : ∀ q, q < 3 → X 7 q = nI 0 := fun q hq => ((h.1.setR).1 3 q (by decide) (by omega)).trans (hz2 q hq)
    unfold sb3X
    rw [hst]
    refine h.slots (fun k q a1 a2 => by simp (disch := omega) only [sx_o]) (fun q => by simp (disch := omega) only [sx_o]) (fun q => by simp (disch := omega) only [sx_o]) ?_
    refine (h.1.mono (Nat.le_succ b)).set ?_ (fun k q a1 a2 => by simp (disch := omega) only [sx_o]) (fun q a1 => by simp (disch := omega) only [sx_o])
    refine (h.1.setR).brk (j := 3) (w := f4 0 0 0 (10 - na - nb - nc)) (by decide) ?_ (fun q hq => ?_) (fun q hq => ?_) (fun q hq => ?_) (fun k q a1 a2 => by simp (disch := omega) only [sx_o]) (fun q hq => by simp (disch := omega) only [sx_o])
    · simp only [f4]
      simp
      omega
    · rcases (show q = 0 ∨ q = 1 ∨ q = 2 ∨ q = 3 by omega) with rfl | rfl | rfl | rfl <;> first | rfl | omega
    · rcases (show q = 0 ∨ q = 1 ∨ q = 2 ∨ q = 3 by omega) with rfl | rfl | rfl | rfl
      · show _ = nI 0
        simp (disch := omega) only [sx_o, sx_e, Nat.reduceAdd]
        exact hz 0 (by omega)
      · show _ = nI 0
        simp (disch := omega) only [sx_o, sx_e, Nat.reduceAdd]
        exact hz 1 (by omega)
      · show _ = nI 0
        simp (disch := omega) only [sx_o, sx_e, Nat.reduceAdd]
        exact hz 2 (by omega)
      · simp (disch := omega) only [sx_o, sx_e, Nat.reduceAdd]
        rfl
    · rcases (show q = 0 ∨ q = 1 ∨ q = 2 ∨ q = 3 by omega) with rfl | rfl | rfl | rfl
      · show _ = nI 0
        simp (disch := omega) only [sx_o, sx_e, Nat.reduceAdd, Nat.reduceMul]
        exact hz2 0 (by omega)
      · show _ = nI 0
        simp (disch := omega) only [sx_o, sx_e, Nat.reduceAdd, Nat.reduceMul]
        exact hz2 1 (by omega)
      · show _ = nI 0
        simp (disch := omega) only [sx_o, sx_e, Nat.reduceAdd, Nat.reduceMul]
        exact hz2 2 (by omega)
      · simp (disch := omega) only [sx_o, sx_e, Nat.reduceAdd, Nat.reduceMul]
        rfl
  · exact PI.of (c_X5_setBreakage_bad_3 l G o X Y a b' c hok) (c_X6_setBreakage_bad_3 l G o _ _ a b' c (fun q => hok ⟨wi00.mpr (q.2.2.2.2.1), wi00.mpr (q.2.2.2.2.2.1), wi00.mpr (q.2.2.2.2.2.2), le10.mp (q.2.2.2.1)⟩)) rfl (by decide) h.nx
theorem P_setBreakage (l : Launch) (G : GG) (o : Nat) (X : SX) (Y : SY) (b : Nat) (u a b' c : Int32) (h : R2 X b) : PI l yX5_setBreakage cX5_setBreakage 7 yX6_setBreakage cX6_setBreakage 7 G o [.int u, .int a, .int b', .int c] X Y b := by
  by_cases h1 : Wi u 0 3
  · obtain ⟨i, hi, rfl⟩ := wi_nat (n := 3) (by decide) h1
    rcases (show i = 0 ∨ i = 1 ∨ i = 2 ∨ i = 3 by omega) with rfl | rfl | rfl | rfl
    · exact P_setBreakage_0 l G o X Y b a b' c h
    · exact P_setBreakage_1 l G o X Y b a b' c h
    · exact P_setBreakage_2 l G o X Y b a b' c h
    · exact P_setBreakage_3 l G o X Y b a b' c h
  · exact PI.of (c_X5_setBreakage_s l G o X Y u a b' c h1) (c_X6_setBreakage_s l G o _ _ u a b' c h1) rfl (by decide) h.nx
