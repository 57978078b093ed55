/-! ===== 20: the steps of the simulation keep the relation ===== -/
def f4 (a b c d : Nat) : Nat → Nat := fun j => if j = 0 then a else if j = 1 then b else if j = 2 then c else d
theorem engy_congr {w w' m m' : Nat → Int32} (hw : ∀ j, j < 4 → w j = w' j) (hm : ∀ j, j < 4 → m j = m' j) : engy w m = engy w' m' := by
  unfold engy
  rw [hw 0 (by decide), hw 1 (by decide), hw 2 (by decide), hw 3 (by decide), hm 0 (by decide), hm 1 (by decide), hm 2 (by decide), hm 3 (by decide)]
theorem finP {C M : SX} {cnt th r g : Nat} {tl : Nat → Nat} (h : Core C (M 286) cnt tl th r) (hg : g < cnt) (hr : r < 2 ^ 30) :
    ∃ r', r ≤ r' ∧ r' ≤ r + 1 ∧ Core (finX C g) (fnmX M g 286) cnt tl th r' ∧ IdleR (finX C g) (fnmX M g 286) := by
  obtain ⟨hS, hc, hL⟩ := h
  obtain ⟨⟨a, b, c, d, g1, g2, g3, g4, g5, g6⟩, g7⟩ := hL.1 g hg
  obtain ⟨h1, h2, h3, h4, h5, h6, ⟨s, h7, h8, h9⟩, h10, h11, h12, h13, h14⟩ := id hS
  obtain ⟨r0, k0, z0⟩ := h10 0 (by decide)
  obtain ⟨r1, k1, z1⟩ := h10 1 (by decide)
  obtain ⟨r2, k2, z2⟩ := h10 2 (by decide)
  obtain ⟨r3, k3, z3⟩ := h10 3 (by decide)
  obtain ⟨c1, c2, c3, c4, c5, c6, c7, c8⟩ := id hc
  have hs : ShN (fun q => if q = 0 then s 0 1 else if q = 1 then s 0 2 else if q = 2 then s 0 3 else if q = 3 then s 1 2 else if q = 4 then s 1 3 else s 2 3) := by
    have a0 := h8 0 (by decide)
    have a1 := h8 1 (by decide)
    have a2 := h8 2 (by decide)
    refine ⟨?_, ?_, ?_⟩
    · show s 0 1 + s 0 2 + s 0 3 ≤ 10
      omega
    · show s 1 2 + s 1 3 ≤ 10
      omega
    · show s 2 3 ≤ 10
      omega
  generalize hsv : (fun q => if q = 0 then s 0 1 else if q = 1 then s 0 2 else if q = 2 then s 0 3 else if q = 3 then s 1 2 else if q = 4 then s 1 3 else s 2 3) = sv at hs
  have s0 : sv 0 = s 0 1 := by rw [← hsv]; rfl
  have s1 : sv 1 = s 0 2 := by rw [← hsv]; rfl
  have s2 : sv 2 = s 0 3 := by rw [← hsv]; rfl
  have s3 : sv 3 = s 1 2 := by rw [← hsv]; rfl
  have s4 : sv 4 = s 1 3 := by rw [← hsv]; rfl
  have s5 : sv 5 = s 2 3 := by rw [← hsv]; rfl
  have hrr : ∀ j, j < 4 → M 286 (16 + j) = nI (f4 r0 r1 r2 r3 j) ∧ f4 r0 r1 r2 r3 j ≤ 10 := by
    intro j hj
    rcases (show j = 0 ∨ j = 1 ∨ j = 2 ∨ j = 3 by omega) with rfl | rfl | rfl | rfl
    · exact ⟨z0, k0⟩
    · exact ⟨z1, k1⟩
    · exact ⟨z2, k2⟩
    · exact ⟨z3, k3⟩
  have V := finX_v (X := C) (i := g) (s := sv) (m := f4 a b c d) (r := f4 r0 r1 r2 r3) hs g1 (by rw [s0]; exact (h1 0 1 (by decide) (by decide)).trans (h7 0 1 (by decide) (by decide))) (by rw [s1]; exact (h1 0 2 (by decide) (by decide)).trans (h7 0 2 (by decide) (by decide))) (by rw [s2]; exact (h1 0 3 (by decide) (by decide)).trans (h7 0 3 (by decide) (by decide))) (by rw [s3]; exact (h1 1 2 (by decide) (by decide)).trans (h7 1 2 (by decide) (by decide))) (by rw [s4]; exact (h1 1 3 (by decide) (by decide)).trans (h7 1 3 (by decide) (by decide))) (by rw [s5]; exact (h1 2 3 (by decide) (by decide)).trans (h7 2 3 (by decide) (by decide)))
    (fun j hj => ⟨(h2 j hj).trans (hrr j hj).1, (hrr j hj).2⟩)
  have U := fnmX_v (X := M) (i := g) (s := sv) (m := f4 a b c d) (r := f4 r0 r1 r2 r3) hs g1.2.2.2.2 g2 g3 g4 g5 (by rw [s0]; exact h7 0 1 (by decide) (by decide)) (by rw [s1]; exact h7 0 2 (by decide) (by decide)) (by rw [s2]; exact h7 0 3 (by decide) (by decide)) (by rw [s3]; exact h7 1 2 (by decide) (by decide)) (by rw [s4]; exact h7 1 3 (by decide) (by decide)) (by rw [s5]; exact h7 2 3 (by decide) (by decide)) z0 z1 z2 z3 (fun j hj => (hrr j hj).2)
  generalize sv = sv at V U
  obtain ⟨v1, v2, v3, v4, v5, v6⟩ := V
  obtain ⟨⟨u10, u11, u12, u13⟩, u2, u3, u4, u5, u6⟩ := U
  have hSet : SetR (finX C g) (fnmX M g 286) := hS.same (fun k j hk hk2 hj => finX_o (by omega) (by omega) (by omega) (by omega)) (finX_o (by omega) (by omega) (by omega) (by omega)) (finX_o (by omega) (by omega) (by omega) (by omega)) (fun j hj => fnmX_o (by omega) (by omega))
  have hen : finX C g 11 7 = fnmX M g 286 32 := by
    rw [v3, u3, c6, engy_congr (fun j hj => h3 j hj) (m := C (15 + 2 * g)) (m' := fun j => M 286 (41 + 8 * g + j))]
    intro j hj
    rcases (show j = 0 ∨ j = 1 ∨ j = 2 ∨ j = 3 by omega) with rfl | rfl | rfl | rfl
    · rw [g1.1]; exact g2.symm
    · rw [g1.2.1]; exact g3.symm
    · rw [g1.2.2.1]; exact g4.symm
    · rw [g1.2.2.2.1]; exact g5.symm
  have hpr : ∀ j, j < 4 → finX C g 13 j = fnmX M g 286 (37 + j) := fun j hj => by rw [v2 j hj, u2 j hj, c8 j hj]
  have hid : IdleR (finX C g) (fnmX M g 286) := ⟨finX_g, fnmX_g⟩
  have hps : finX C g (14 + 2 * g) 4 = fnmX M g 286 (41 + 8 * g + 7) := by rw [v5, u5, g7]
  have o1 : ∀ i j, i < cnt → i ≠ g → j < 4 → finX C g (15 + 2 * i) j = C (15 + 2 * i) j := fun i j hi hne hj => finX_o (by omega) (by omega) (by omega) (by omega)
  have o2 : ∀ i j, i < cnt → i ≠ g → 1 ≤ j → j ≤ 4 → finX C g (14 + 2 * i) j = C (14 + 2 * i) j := fun i j hi hne h1 h2 => finX_o (by omega) (by omega) (by omega) (by omega)
  have o3 : ∀ i j, i < cnt → i ≠ g → j < 8 → fnmX M g 286 (41 + 8 * i + j) = M 286 (41 + 8 * i + j) := fun i j hi hne hj => fnmX_o (by omega) (by omega)
  have e2 : finX C g 11 2 = nI cnt := (finX_o (by omega) (by omega) (by omega) (by omega)).trans c1
  have e31 : fnmX M g 286 31 = nI cnt := (fnmX_o (by omega) (by omega)).trans c2
  have hret : finX C g 11 8 = fnmX M g 286 33 := by rw [v4, u4, c7]
  rcases v6 with ⟨w1, w2, w3⟩ | ⟨w1, w2, w3, w4⟩
  · rcases u6 with ⟨x1, x2, x3⟩ | ⟨x1, -⟩
    · refine ⟨r, Nat.le_refl r, by omega, ⟨hSet, ⟨e2, e31, c3, w3.trans c4, x3.trans c5, hen, hret, hpr⟩, hL.upd1 (g := g) (Nat.le_refl r) (fun _ _ _ => Nat.le_refl _) o1 o2 o3 ⟨⟨_, _, _, _, v1, u10, u11, u12, u13, Or.inr (Or.inr (Or.inr ⟨x2, w2⟩))⟩, hps⟩ (fun q => ?_) (by omega)⟩, hid⟩
      rw [x2] at q
      exact absurd q (by decide)
    · omega
  · rcases u6 with ⟨x1, -⟩ | ⟨x1, x2, x3, x4⟩
    · omega
    · refine ⟨r + 1, by omega, by omega, ⟨hSet, ⟨e2, e31, c3, by rw [w4, c4]; exact nI_1 r, by rw [x4, c5]; exact nI_1 r, hen, hret, hpr⟩, hL.upd1 (g := g) (by omega) (fun _ _ _ => Nat.le_refl _) o1 o2 o3 ⟨⟨_, _, _, _, v1, u10, u11, u12, u13, Or.inr (Or.inl ⟨x2, w2, w1, r, w3.trans c4, x3.trans c5, by omega⟩)⟩, hps⟩ (fun q => ⟨r, x3.trans c5, Nat.le_refl r, by omega⟩) (by omega)⟩, hid⟩
/-- the lots that are planned for this time come -/
theorem tkP {C M : SX} {cnt th r e : Nat} (he : 1 ≤ e) (he2 : e < 2 ^ 30) (hth : th < 2 ^ 30) (hr : r + 40 < 2 ^ 30) (h : Core C (M 286) cnt (fun _ => e - 1) th r) (hC : C 11 3 = nI e) (hM : M 286 30 = nI e) :
    ∀ k, k ≤ cnt → ∃ r', r ≤ r' ∧ r' ≤ r + k ∧ Core (tkX C k) (tmX M k 286) cnt (fun i => if i < k then e else e - 1) th r'
  | 0, _ => ⟨r, Nat.le_refl r, Nat.le_refl r, h⟩
  | k + 1, hk => by
    obtain ⟨r', p1, p2, hS, hc, hL⟩ := tkP he he2 hth hr h hC hM k (by omega)
    obtain ⟨c1, c2, c3, c4, c5, c6, c7, c8⟩ := id hc
    have hC' : tkX C k 11 3 = nI e := (tkX_11 (by decide) k).trans hC
    have hM' : tmX M k 286 30 = nI e := (tmX_o (by omega) k).trans hM
    obtain ⟨⟨a, b, c, d, g1, g2, g3, g4, g5, g6⟩, g7⟩ := hL.1 k (by omega)
    have same : tkX C (k + 1) = tkX C k → tmX M (k + 1) = tmX M k → LotR (tkX C k) (tmX M k 286) e th r' k → ∃ r', r ≤ r' ∧ r' ≤ r + (k + 1) ∧ Core (tkX C (k + 1)) (tmX M (k + 1) 286) cnt (fun i => if i < k + 1 then e else e - 1) th r' := by
      intro q1 q2 q3
      rw [q1, q2]
      refine ⟨r', p1, by omega, hS, hc, fun i hi => ?_, hL.2⟩
      by_cases e1 : i = k
      · subst e1
        show LotR _ _ (if i < i + 1 then e else e - 1) th r' i
        rw [if_pos (by omega)]
        exact q3
      · have := hL.1 i hi
        show LotR _ _ (if i < k + 1 then e else e - 1) th r' i
        rw [show (if i < k + 1 then e else e - 1) = (if i < k then e else e - 1) by by_cases z : i < k <;> simp [z] <;> omega]
        exact this
    rcases g6 with ⟨x1, x2, x0, w, x3, x4, x5, x6⟩ | ⟨x1, x2, x3⟩ | ⟨x1, x2, x3⟩ | ⟨x1, x2⟩
    · have x5' : e - 1 < w := by
        have : (if k < k then e else e - 1) < w := x5
        rwa [if_neg (by omega)] at this
      by_cases hw : w = e
      · have q1 : tkX C (k + 1) = pbX (tkX C k) k := (if_pos x2).trans (if_pos (by rw [x3, hC', hw]))
        have q2 : tmX M (k + 1) = cmX (tmX M k) k := (if_pos x1).trans (if_pos (by rw [x4, hM', hw]))
        rw [q1, q2]
        have b1 : pbX (tkX C k) k (14 + 2 * k) 1 = 1 := by unfold pbX; simp (disch := omega) only [sx_o, sx_e]
        have b3 : pbX (tkX C k) k (14 + 2 * k) 3 = nI r' := by unfold pbX; simp (disch := omega) only [sx_o, sx_e]; exact c4
        have b4 : pbX (tkX C k) k 11 4 = nI (r' + 1) := by unfold pbX; rw [sx_e, c4]; exact nI_1 r'
        have d1 : cmX (tmX M k) k 286 (41 + 8 * k + 4) = 1 := by unfold cmX; simp (disch := omega) only [sx_o, sx_e]
        have d3 : cmX (tmX M k) k 286 (41 + 8 * k + 5) = nI r' := by unfold cmX; simp (disch := omega) only [sx_o, sx_e]; exact c5
        have d4 : cmX (tmX M k) k 286 34 = nI (r' + 1) := by unfold cmX; rw [sx_e, c5]; exact nI_1 r'
        refine ⟨r' + 1, by omega, by omega, hS.same (fun k' j _ _ _ => pbX_o (by omega) (by omega)) (pbX_o (by omega) (by omega)) (pbX_o (by omega) (by omega)) (fun j hj => cmX_o (by omega)), ⟨(pbX_o (by omega) (by omega)).trans c1, (cmX_o (by omega)).trans c2, c3, b4, d4, ?_, ?_, fun j hj => ?_⟩, ?_⟩
        · rw [pbX_o (by omega) (by omega), cmX_o (by omega)]; exact c6
        · rw [pbX_o (by omega) (by omega), cmX_o (by omega)]; exact c7
        · rw [pbX_o (by omega) (by omega), cmX_o (by omega)]; exact c8 j hj
        · refine hL.upd1 (g := k) (by omega) (fun i hi hne => ?_) (fun i j _ _ _ => pbX_o (by omega) (by omega)) (fun i j _ hne _ _ => pbX_o (by omega) (by omega)) (fun i j _ hne _ => cmX_o (by omega)) ⟨⟨a, b, c, d, ?_, ?_, ?_, ?_, ?_, Or.inr (Or.inl ⟨d1, b1, x0, r', b3, d3, by omega⟩)⟩, ?_⟩ (fun _ => ⟨r', d3, Nat.le_refl _, by omega⟩) (by omega)
          · show (if i < k + 1 then e else e - 1) ≤ (if i < k then e else e - 1)
            by_cases z : i < k
            · rw [if_pos z, if_pos (by omega)]; exact Nat.le_refl _
            · rw [if_neg z, if_neg (by omega)]; exact Nat.le_refl _
          · unfold MsN
            rw [pbX_o (by omega) (by omega), pbX_o (by omega) (by omega), pbX_o (by omega) (by omega), pbX_o (by omega) (by omega)]
            exact g1
          · rw [cmX_o (by omega)]; exact g2
          · rw [cmX_o (by omega)]; exact g3
          · rw [cmX_o (by omega)]; exact g4
          · rw [cmX_o (by omega)]; exact g5
          · rw [pbX_o (by omega) (by omega), cmX_o (by omega)]; exact g7
      · refine same ((if_pos x2).trans (if_neg (by rw [x3, hC']; exact fun q => hw (nI_inj (by omega) (by omega) q)))) ((if_pos x1).trans (if_neg (by rw [x4, hM']; exact fun q => hw (nI_inj (by omega) (by omega) q)))) ⟨⟨a, b, c, d, g1, g2, g3, g4, g5, Or.inl ⟨x1, x2, x0, w, x3, x4, by omega, x6⟩⟩, g7⟩
    · refine same (if_neg (by rw [x2]; decide)) (if_neg (by rw [x1]; decide)) ⟨⟨a, b, c, d, g1, g2, g3, g4, g5, Or.inr (Or.inl ⟨x1, x2, x3⟩)⟩, g7⟩
    · refine same (if_neg (by rw [x2]; decide)) (if_neg (by rw [x1]; decide)) ⟨⟨a, b, c, d, g1, g2, g3, g4, g5, Or.inr (Or.inr (Or.inl ⟨x1, x2, x3⟩))⟩, g7⟩
    · refine same (if_neg (by rw [x2]; decide)) (if_neg (by rw [x1]; decide)) ⟨⟨a, b, c, d, g1, g2, g3, g4, g5, Or.inr (Or.inr (Or.inr ⟨x1, x2⟩))⟩, g7⟩
