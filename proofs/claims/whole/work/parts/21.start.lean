/-! ===== 21: the mill starts a lot: both sides choose the same one ===== -/
def tN (x : Int32) : Nat := x.toNatClampNeg
theorem tN_n {x : Int32} {a : Nat} (h : x = nI a) (ha : a < 2 ^ 31) : tN x = a := by rw [h]; exact nI_clamp ha
/-- the key and the arrival of a lot, as numbers -/
def keyM (A : Nat → Int32) (r i : Nat) : Nat := kN r (tN (A (41 + 8 * i + 0))) (tN (A (41 + 8 * i + 1))) (tN (A (41 + 8 * i + 2))) (tN (A (41 + 8 * i + 3)))
def ltM (A : Nat → Int32) (r i j : Nat) : Prop := keyM A r j < keyM A r i ∨ (keyM A r i = keyM A r j ∧ tN (A (41 + 8 * i + 5)) < tN (A (41 + 8 * j + 5)))
theorem ahd_dif {M : SX} {r i j a b c d a' b' c' d' : Nat} (hr : r ≤ 2) (h29 : M 286 29 = nI r) (h : MsN (fun t => M 286 (41 + 8 * i + t)) a b c d) (h' : MsN (fun t => M 286 (41 + 8 * j + t)) a' b' c' d') : ahdr M i j = dif (nI r) (fun t => M 286 (41 + 8 * i + t)) (fun t => M 286 (41 + 8 * j + t)) := by
  unfold ahdr dif
  rw [h29]
  rcases (show r = 0 ∨ r = 1 ∨ r = 2 by omega) with rfl | rfl | rfl
  · rw [if_pos (by decide), if_neg (by decide), if_neg (by decide)]
  · rw [if_neg (by decide), if_pos (by decide), if_pos (by decide)]
    unfold wgt sum4
    rw [Int32.zero_add, Int32.zero_add]
  · have z0 : ¬ nI 2 = 0 := by decide
    have z1 : ¬ nI 2 = 1 := by decide
    have z2 : nI 2 = 2 := by decide
    simp only [if_neg z0, if_neg z1, if_pos z2]
    unfold crs
    by_cases q0 : M 286 (41 + 8 * i + 0) = M 286 (41 + 8 * j + 0)
    · rw [if_pos q0, if_pos q0]
      by_cases q1 : M 286 (41 + 8 * i + 1) = M 286 (41 + 8 * j + 1)
      · rw [if_pos q1, if_pos q1]
        by_cases q2 : M 286 (41 + 8 * i + 2) = M 286 (41 + 8 * j + 2)
        · rw [if_pos q2, if_pos q2]
          by_cases q3 : M 286 (41 + 8 * i + 3) = M 286 (41 + 8 * j + 3)
          · rw [if_pos q3, q3, Int32.sub_self]
          · rw [if_neg q3]
        · rw [if_neg q2, if_neg q2]
      · rw [if_neg q1, if_neg q1]
    · rw [if_neg q0, if_neg q0]
/-- what is known of a lot in the bin -/
theorem bin_lot {f : SX} {A : Nat → Int32} {tl th r i : Nat} (h : LotR f A tl th r i) (h1 : A (41 + 8 * i + 4) = 1) :
    ∃ a b c d u : Nat, MsN (f (15 + 2 * i)) a b c d ∧ MsN (fun t => A (41 + 8 * i + t)) a b c d ∧ 0 < a + b + c + d ∧ f (14 + 2 * i) 1 = 1 ∧ f (14 + 2 * i) 3 = nI u ∧ A (41 + 8 * i + 5) = nI u ∧ u < r := by
  obtain ⟨⟨a, b, c, d, g1, g2, g3, g4, g5, g6⟩, g7⟩ := h
  rcases g6 with ⟨x1, -⟩ | ⟨x1, x2, x3, u, x4, x5, x6⟩ | ⟨x1, -⟩ | ⟨x1, -⟩
  · rw [h1] at x1; exact absurd x1 (by decide)
  · exact ⟨a, b, c, d, u, g1, ⟨g2, g3, g4, g5, g1.2.2.2.2⟩, x3, x2, x4, x5, x6⟩
  · rw [h1] at x1; exact absurd x1 (by decide)
  · rw [h1] at x1; exact absurd x1 (by decide)
theorem bin_iff {f : SX} {A : Nat → Int32} {tl th r i : Nat} (h : LotR f A tl th r i) : f (14 + 2 * i) 1 = 1 ↔ A (41 + 8 * i + 4) = 1 := by
  obtain ⟨⟨a, b, c, d, g1, g2, g3, g4, g5, g6⟩, g7⟩ := h
  rcases g6 with ⟨x1, x2, -⟩ | ⟨x1, x2, -⟩ | ⟨x1, x2, -⟩ | ⟨x1, x2⟩
  · rw [x1, x2]
  · rw [x1, x2]
  · rw [x1, x2]
  · rw [x1, x2]
theorem bf_lt {C M : SX} {tl tl' th r q i j : Nat} (hq : q ≤ 2) (hr : r < 2 ^ 31) (h29 : C 2 5 = nI q) (hi : LotR C (M 286) tl th r i) (hj : LotR C (M 286) tl' th r j) (bi : M 286 (41 + 8 * i + 4) = 1) (bj : M 286 (41 + 8 * j + 4) = 1) : bfX C (C 2 5) i j ↔ ltM (M 286) q i j := by
  obtain ⟨a, b, c, d, u, m1, m2, m3, m4, m5, m6, m7⟩ := bin_lot hi bi
  obtain ⟨a', b', c', d', u', m1', m2', m3', m4', m5', m6', m7'⟩ := bin_lot hj bj
  have s := m1.2.2.2.2
  have s' := m1'.2.2.2.2
  unfold bfX ltM keyM
  rw [h29, m5, m5', bef_key hq m1 m1' (by omega) (by omega)]
  rw [tN_n m2.1 (by omega), tN_n m2.2.1 (by omega), tN_n m2.2.2.1 (by omega), tN_n m2.2.2.2.1 (by omega), tN_n m2'.1 (by omega), tN_n m2'.2.1 (by omega), tN_n m2'.2.2.1 (by omega), tN_n m2'.2.2.2.1 (by omega), tN_n m6 (by omega), tN_n m6' (by omega)]
theorem ah_lt {C M : SX} {tl tl' th r q i j : Nat} (hq : q ≤ 2) (hr : r < 2 ^ 31) (h29 : M 286 29 = nI q) (hi : LotR C (M 286) tl th r i) (hj : LotR C (M 286) tl' th r j) (bi : M 286 (41 + 8 * i + 4) = 1) (bj : M 286 (41 + 8 * j + 4) = 1) : ahM M i j ↔ ltM (M 286) q i j := by
  obtain ⟨a, b, c, d, u, m1, m2, m3, m4, m5, m6, m7⟩ := bin_lot hi bi
  obtain ⟨a', b', c', d', u', m1', m2', m3', m4', m5', m6', m7'⟩ := bin_lot hj bj
  have s := m1.2.2.2.2
  have s' := m1'.2.2.2.2
  obtain ⟨k1, k2⟩ := dif_key hq m2 m2'
  unfold ahM ltM keyM
  rw [ahd_dif hq h29 m2 m2', k1, k2, m6, m6', nI_ltI (by omega) (by omega)]
  rw [tN_n m2.1 (by omega), tN_n m2.2.1 (by omega), tN_n m2.2.2.1 (by omega), tN_n m2.2.2.2.1 (by omega), tN_n m2'.1 (by omega), tN_n m2'.2.1 (by omega), tN_n m2'.2.2.1 (by omega), tN_n m2'.2.2.2.1 (by omega), tN_n rfl (show u < 2 ^ 31 by omega), tN_n rfl (show u' < 2 ^ 31 by omega)]
theorem ltM_t {A : Nat → Int32} {r i j k : Nat} (h1 : ltM A r i j) (h2 : ltM A r j k) : ltM A r i k := by
  unfold ltM at *
  omega
theorem ltM_a {A : Nat → Int32} {r i j : Nat} (h1 : ltM A r i j) : ¬ ltM A r j i := by
  unfold ltM at *
  omega
/-- the place of a lot in the bin: the same number on both sides -/
theorem cnt_place {C M : SX} {cnt th r q a : Nat} {tl : Nat → Nat} (hq : q ≤ 2) (hr : r < 2 ^ 31) (h40 : cnt ≤ 40) (h25 : C 2 5 = nI q) (h29 : M 286 29 = nI q) (hL : LotsR C (M 286) cnt tl th r) (ha : a < cnt) (ba : M 286 (41 + 8 * a + 4) = 1) :
    cntP (fun q' => pB C q' ∧ bfX C (C 2 5) q' a) cnt = cntP (fun q' => ¬ nI q' = nI a ∧ pBM M q' ∧ ahM M q' a) cnt := by
  refine cntP_congr cnt (fun z hz => ?_)
  constructor
  · intro ⟨y1, y2⟩
    have bz := (bin_iff (hL.1 z hz)).mp y1
    have hl := (bf_lt hq hr h25 (hL.1 z hz) (hL.1 a ha) bz ba).mp y2
    refine ⟨fun e => ?_, bz, (ah_lt hq hr h29 (hL.1 z hz) (hL.1 a ha) bz ba).mpr hl⟩
    have e2 := nI_inj (by omega) (by omega) e
    subst e2
    exact ltM_a hl hl
  · intro ⟨y0, y1, y2⟩
    have hl := (ah_lt hq hr h29 (hL.1 z hz) (hL.1 a ha) y1 ba).mp y2
    exact ⟨(bin_iff (hL.1 z hz)).mpr y1, (bf_lt hq hr h25 (hL.1 z hz) (hL.1 a ha) y1 ba).mpr hl⟩
/-- the search of the class and that of the reference -/
theorem first_same {C M : SX} {cnt th r : Nat} {tl : Nat → Nat} (hr : r < 2 ^ 31) (h : Core C (M 286) cnt tl th r) :
    (fstN (pB C) (bfX C (C 2 5)) cnt = none ∧ fndP (fun a => pBM M a ∧ nI (cntP (fun q => ¬ nI q = nI a ∧ pBM M q ∧ ahM M q a) cnt) = 0) cnt 0 = none ∧ ∀ q, q < cnt → ¬ M 286 (41 + 8 * q + 4) = 1) ∨
    ∃ j, j < cnt ∧ fstN (pB C) (bfX C (C 2 5)) cnt = some j ∧ fndP (fun a => pBM M a ∧ nI (cntP (fun q => ¬ nI q = nI a ∧ pBM M q ∧ ahM M q a) cnt) = 0) cnt 0 = some j ∧ M 286 (41 + 8 * j + 4) = 1 := by
  obtain ⟨hS, hc, hL⟩ := h
  obtain ⟨q, hq, e29⟩ := hS.2.2.2.2.2.2.2.2.2.2.2
  have e25 : C 2 5 = nI q := hS.2.2.2.2.2.1.trans e29
  have h40 := hc.2.2.1
  have tot : ∀ i j, i < cnt → j < cnt → pB C i → pB C j → i ≠ j → ltM (M 286) q i j ∨ ltM (M 286) q j i := by
    intro i j hi hj bi bj hne
    have bi' := (bin_iff (hL.1 i hi)).mp bi
    have bj' := (bin_iff (hL.1 j hj)).mp bj
    obtain ⟨a, b, c, d, u, -, -, -, -, -, m6, m7⟩ := bin_lot (hL.1 i hi) bi'
    obtain ⟨a', b', c', d', u', -, -, -, -, -, m6', m7'⟩ := bin_lot (hL.1 j hj) bj'
    have hd := hL.2 i j hi hj hne bi' bj'
    rw [m6, m6'] at hd
    have hd2 : u ≠ u' := fun z => hd (by rw [z])
    unfold ltM
    rw [tN_n m6 (by omega), tN_n m6' (by omega)]
    omega
  have zero : ∀ a, a < cnt → (nI (cntP (fun q => ¬ nI q = nI a ∧ pBM M q ∧ ahM M q a) cnt) = 0 ↔ ∀ q', q' < cnt → ¬ (¬ nI q' = nI a ∧ pBM M q' ∧ ahM M q' a)) := by
    intro a ha
    have hle := cntP_le (P := fun q => ¬ nI q = nI a ∧ pBM M q ∧ ahM M q a) cnt
    rw [← cntP_0]
    exact ⟨fun z => nI_inj (by omega) (by decide) z, fun z => by rw [z]; rfl⟩
  rcases fstN_spec (B := pB C) (R := bfX C (C 2 5)) (lt := ltM (M 286) q) cnt (fun i j hi hj bi bj => bf_lt hq hr e25 (hL.1 i hi) (hL.1 j hj) ((bin_iff (hL.1 i hi)).mp bi) ((bin_iff (hL.1 j hj)).mp bj)) (fun i j k => ltM_t) tot with ⟨e, hn⟩ | ⟨j, e, hj, hB, hmin⟩
  · refine Or.inl ⟨e, fndP_none cnt 0 (fun z _ hz q' => hn z (by omega) ((bin_iff (hL.1 z (by omega))).mpr q'.1)), fun z hz q' => hn z hz ((bin_iff (hL.1 z hz)).mpr q')⟩
  · have bj := (bin_iff (hL.1 j hj)).mp hB
    refine Or.inr ⟨j, hj, e, fndP_some cnt 0 j (Nat.zero_le j) (by omega) ⟨bj, (zero j hj).mpr (fun z hz y => ?_)⟩ (fun z _ hz y => ?_), bj⟩
    · have hne : z ≠ j := fun q' => y.1 (by rw [q'])
      have hl := hmin z hz ((bin_iff (hL.1 z hz)).mpr y.2.1) hne
      exact ltM_a hl ((ah_lt hq hr e29 (hL.1 z hz) (hL.1 j hj) y.2.1 bj).mp y.2.2)
    · have hz' : z < cnt := by omega
      by_cases hne : z = j
      · exact hne
      · have hl := hmin z hz' ((bin_iff (hL.1 z hz')).mpr y.1) hne
        exact absurd ⟨fun q' => hne (nI_inj (by omega) (by omega) q').symm, bj, (ah_lt hq hr e29 (hL.1 j hj) (hL.1 z hz') bj y.1).mpr hl⟩ ((zero z hz').mp y.2 j hj)
/-- how long the mill grinds -/
theorem due_n {e w q : Nat} (hw : 0 < w) (hw8 : w ≤ 800) (hq : 1 ≤ q) (hq2 : q ≤ 100) (he : e < 2 ^ 30) : ∃ u, nI e + (nI w + nI q - 1) / nI q = nI u ∧ e < u ∧ u ≤ e + 801 := by
  refine ⟨e + (w + q - 1) / q, ?_, ?_, ?_⟩
  · rw [nI_add, show nI (w + q) - 1 = nI (w + q - 1) from pk_sub (b := 1) (by omega), pk_div (by omega) (by omega) (by omega), nI_add]
  · have : 1 ≤ (w + q - 1) / q := (Nat.le_div_iff_mul_le (by omega)).mpr (by omega)
    omega
  · have : (w + q - 1) / q ≤ w := by
      rw [Nat.div_le_iff_le_mul_add_pred (by omega)]
      have : w * 1 ≤ q * w := by rw [Nat.mul_comm q w]; exact Nat.mul_le_mul_left w hq
      omega
    omega
theorem wgt_n {A : Nat → Int32} {i a b c d : Nat} (h : MsN (fun t => A (41 + 8 * i + t)) a b c d) : wgt A i = nI (a + b + c + d) := by
  unfold wgt
  have h0 : A (41 + 8 * i + 0) = nI a := h.1
  have h1 : A (41 + 8 * i + 1) = nI b := h.2.1
  have h2 : A (41 + 8 * i + 2) = nI c := h.2.2.1
  have h3 : A (41 + 8 * i + 3) = nI d := h.2.2.2.1
  rw [h0, h1, h2, h3, nI_add, nI_add, nI_add]
def GroundR (f : SX) (A : Nat → Int32) (cnt t : Nat) : Prop := (IdleR f A ∧ ∀ i, i < cnt → A (41 + 8 * i + 4) ≠ 1) ∨ ∃ g u, BusyR f A cnt t (t + 801) g u
theorem stP {C M : SX} {cnt th r e : Nat} (he : e < 2 ^ 30) (hr : r < 2 ^ 30) (h : Core C (M 286) cnt (fun _ => e) th r) (hC : C 11 3 = nI e) (hM : M 286 30 = nI e) (hG : IdleR C (M 286) ∨ ∃ g u, BusyR C (M 286) cnt e (e + 801) g u) :
    Core (stF C cnt) (stM M cnt 286) cnt (fun _ => e) th r ∧ stF C cnt 11 3 = nI e ∧ stM M cnt 286 30 = nI e ∧ GroundR (stF C cnt) (stM M cnt 286) cnt e := by
  rcases hG with ⟨i1, i2⟩ | ⟨g, u, hb⟩
  · have n35 : ¬ 0 ≤ M 286 35 := by rw [i2]; decide
    rcases first_same (by omega) h with ⟨e1, e2, e3⟩ | ⟨j, hj, e1, e2, e3⟩
    · have q1 : stF C cnt = C := by unfold stF; rw [if_pos i1, e1]
      have q2 : stM M cnt = M := by unfold stM; rw [if_neg n35, e2]
      rw [q1, q2]
      exact ⟨h, hC, hM, Or.inl ⟨⟨i1, i2⟩, e3⟩⟩
    · have q1 : stF C cnt = staX C cnt j := by unfold stF; rw [if_pos i1, e1]
      have q2 : stM M cnt = smmX M cnt j := by unfold stM; rw [if_neg n35, e2]
      rw [q1, q2]
      obtain ⟨hS, hc, hL⟩ := h
      obtain ⟨c1, c2, c3, c4, c5, c6, c7, c8⟩ := id hc
      obtain ⟨a, b, c, d, u, m1, m2, m3, m4, m5, m6, m7⟩ := bin_lot (hL.1 j hj) e3
      obtain ⟨n, hn1, hn2, e28⟩ := hS.2.2.2.2.2.2.2.2.2.2.1
      have e24 : C 2 4 = nI n := hS.2.2.2.2.1.trans e28
      obtain ⟨due, d1, d2, d3⟩ := due_n m3 m1.2.2.2.2 hn1 hn2 he
      have s1 : staX C cnt j (14 + 2 * j) 1 = 2 := by unfold staX; simp (disch := omega) only [sx_o, sx_e]
      have s2 : staX C cnt j 11 5 = nI j := by unfold staX; simp (disch := omega) only [sx_o, sx_e]
      have s3 : staX C cnt j 11 6 = nI due := by
        unfold staX
        rw [sx_e, sx_n (by omega), sx_n (by omega), sum4_n m1, hC, e24]
        exact d1
      have t1 : smmX M cnt j 286 (41 + 8 * j + 4) = 2 := by unfold smmX; simp (disch := omega) only [sx_o, sx_e]
      have t2 : smmX M cnt j 286 35 = nI j := by unfold smmX; simp (disch := omega) only [sx_o, sx_e]
      have t3 : smmX M cnt j 286 36 = nI due := by
        unfold smmX
        rw [sx_e, wgt_n (a := a) (b := b) (c := c) (d := d), hM, e28]
        · exact d1
        · refine ⟨?_, ?_, ?_, ?_, m2.2.2.2.2⟩
          · show (sx (sx M 286 (41 + 8 * j + 4) 2) 286 35 (nI j)) 286 (41 + 8 * j + 0) = nI a
            rw [sx_o (by omega), sx_o (by omega)]; exact m2.1
          · show (sx (sx M 286 (41 + 8 * j + 4) 2) 286 35 (nI j)) 286 (41 + 8 * j + 1) = nI b
            rw [sx_o (by omega), sx_o (by omega)]; exact m2.2.1
          · show (sx (sx M 286 (41 + 8 * j + 4) 2) 286 35 (nI j)) 286 (41 + 8 * j + 2) = nI c
            rw [sx_o (by omega), sx_o (by omega)]; exact m2.2.2.1
          · show (sx (sx M 286 (41 + 8 * j + 4) 2) 286 35 (nI j)) 286 (41 + 8 * j + 3) = nI d
            rw [sx_o (by omega), sx_o (by omega)]; exact m2.2.2.2.1
      refine ⟨⟨hS.same (fun k' z _ _ _ => staX_o (by omega) (by omega)) (staX_o (by omega) (by omega)) (staX_o (by omega) (by omega)) (fun z hz => smmX_o (by omega)), hc.same (staX_o (by omega) (by omega)) (staX_o (by omega) (by omega)) (staX_o (by omega) (by omega)) (staX_o (by omega) (by omega)) (fun z _ => staX_o (by omega) (by omega)) (fun z h1 h2 => smmX_o (by omega)) (fun z h1 => smmX_o (by omega)), ?_⟩, (staX_o (by omega) (by omega)).trans hC, (smmX_o (by omega)).trans hM, Or.inr ⟨j, due, hj, s2, t2, s3, t3, d2, d3⟩⟩
      refine hL.upd1 (g := j) (Nat.le_refl r) (fun _ _ _ => Nat.le_refl _) (fun i z _ hne _ => staX_o (by omega) (by omega)) (fun i z _ hne _ _ => staX_o (by omega) (by omega)) (fun i z _ hne _ => smmX_o (by omega)) ⟨⟨a, b, c, d, ?_, ?_, ?_, ?_, ?_, Or.inr (Or.inr (Or.inl ⟨t1, s1, m3⟩))⟩, ?_⟩ (fun z => ?_) (by omega)
      · unfold MsN
        rw [staX_o (by omega) (by omega), staX_o (by omega) (by omega), staX_o (by omega) (by omega), staX_o (by omega) (by omega)]
        exact m1
      · rw [smmX_o (by omega)]; exact m2.1
      · rw [smmX_o (by omega)]; exact m2.2.1
      · rw [smmX_o (by omega)]; exact m2.2.2.1
      · rw [smmX_o (by omega)]; exact m2.2.2.2.1
      · rw [staX_o (by omega) (by omega), smmX_o (by omega)]; exact (hL.1 j hj).2
      · rw [t1] at z; exact absurd z (by decide)
  · have h40 := h.2.1.2.2.1
    have hg := hb.1
    have q1 : stF C cnt = C := by unfold stF; rw [if_neg (by rw [hb.2.1]; exact nI_nm1 (by omega))]
    have q2 : stM M cnt = M := by unfold stM; rw [if_pos (by rw [hb.2.2.1]; exact nI_pos' (by omega))]
    rw [q1, q2]
    exact ⟨h, hC, hM, Or.inr ⟨g, u, hb⟩⟩
