/-! ===== 24: the steady state: both sides have the same loads over the same number ===== -/
def StC (X : SX) (s : Nat → Nat → Nat) (fd : Nat → Nat) : Prop := (∀ i j, i < 4 → j < 4 → X (4 + i) j = nI (s i j)) ∧ ∀ j, j < 4 → X 10 j = nI (fd j)
def StM (M : SX) (s : Nat → Nat → Nat) (rr fd : Nat → Nat) : Prop := (∀ i j, i < 4 → j < 4 → M 286 (4 * i + j) = nI (s i j)) ∧ (∀ j, j < 4 → M 289 j = nI (rr j)) ∧ ∀ j, j < 4 → M 286 (24 + j) = nI (fd j)
def Bd (s : Nat → Nat → Nat) (rr fd : Nat → Nat) : Prop := (∀ i j, i < 4 → j < 4 → s i j ≤ 10) ∧ (∀ j, j < 4 → rr j ≤ 10) ∧ ∀ j, j < 4 → fd j ≤ 1000
def YC (Y : SY) (n : Nat) (L : Nat → Nat) (B : Nat) : Prop := Y 282 2 = lN B ∧ ∀ i, i < n → Y 283 i = lN (L i)
def YM (Y : SY) (n : Nat) (L : Nat → Nat) (B : Nat) : Prop := Y 285 5 = lN B ∧ ∀ i, i < n → Y 290 i = lN (L i)
def sumL (L : Nat → Nat) : Nat → Nat
  | 0 => 0
  | n + 1 => sumL L n + L n
def Iv (fd L : Nat → Nat) (B n c : Nat) : Prop := 1 ≤ B ∧ B ≤ 100 ^ n ∧ sumL L n ≤ c * B ∧ ∀ i, i < n → fd i * B ≤ L i
def eN (s : Nat → Nat → Nat) (L : Nat → Nat) (j : Nat) : Nat := match j with
  | 0 => 0
  | 1 => L 0 * s 0 1
  | 2 => L 0 * s 0 2 + L 1 * s 1 2
  | _ => L 0 * s 0 3 + L 1 * s 1 3 + L 2 * s 2 3
def ow (s : Nat → Nat → Nat) (rr : Nat → Nat) (j : Nat) : Nat := 100 - rr j * s j j
def Ln (s : Nat → Nat → Nat) (rr fd L : Nat → Nat) (B j : Nat) : Nat → Nat := if ow s rr j = 0 then (fun i => if i = j then 0 else L i) else (fun i => if i = j then 100 * fd j * B + rr j * eN s L j else L i * ow s rr j)
def Bn (s : Nat → Nat → Nat) (rr : Nat → Nat) (B j : Nat) : Nat := if ow s rr j = 0 then B else B * ow s rr j
theorem m10 {a b : Nat} (h : b ≤ 10) : a * b ≤ 10 * a := by rw [Nat.mul_comm 10 a]; exact Nat.mul_le_mul_left a h
theorem eN_le {s : Nat → Nat → Nat} {rr fd L : Nat → Nat} (hB : Bd s rr fd) : ∀ j, j < 4 → eN s L j ≤ 10 * sumL L j := by
  intro j hj
  rcases (show j = 0 ∨ j = 1 ∨ j = 2 ∨ j = 3 by omega) with rfl | rfl | rfl | rfl
  · exact Nat.le_refl 0
  · have h1 := m10 (a := L 0) (hB.1 0 1 (by decide) (by decide))
    show L 0 * s 0 1 ≤ 10 * (0 + L 0)
    omega
  · have h1 := m10 (a := L 0) (hB.1 0 2 (by decide) (by decide))
    have h2 := m10 (a := L 1) (hB.1 1 2 (by decide) (by decide))
    show L 0 * s 0 2 + L 1 * s 1 2 ≤ 10 * (0 + L 0 + L 1)
    omega
  · have h1 := m10 (a := L 0) (hB.1 0 3 (by decide) (by decide))
    have h2 := m10 (a := L 1) (hB.1 1 3 (by decide) (by decide))
    have h3 := m10 (a := L 2) (hB.1 2 3 (by decide) (by decide))
    show L 0 * s 0 3 + L 1 * s 1 3 + L 2 * s 2 3 ≤ 10 * (0 + L 0 + L 1 + L 2)
    omega
theorem ow_r {s : Nat → Nat → Nat} {rr fd : Nat → Nat} (hB : Bd s rr fd) {j : Nat} (hj : j < 4) : rr j * s j j ≤ 100 ∧ (ow s rr j = 0 ∨ (10 ≤ ow s rr j ∧ ow s rr j ≤ 100)) := by
  have h1 := hB.2.1 j hj
  have h2 := hB.1 j j hj hj
  have h3 : rr j * s j j ≤ 10 * 10 := Nat.mul_le_mul h1 h2
  refine ⟨by omega, ?_⟩
  unfold ow
  by_cases q : rr j = 10
  · rw [q]
    by_cases q2 : s j j = 10
    · rw [q2]; omega
    · omega
  · have h4 : rr j * s j j ≤ 9 * 10 := Nat.mul_le_mul (by omega) h2
    omega
theorem sumL_mul {L : Nat → Nat} {k j v : Nat} : ∀ n, n ≤ j → sumL (fun i => if i = j then v else L i * k) n = sumL L n * k
  | 0, _ => by simp [sumL]
  | n + 1, h => by
    show sumL _ n + (if n = j then v else L n * k) = (sumL L n + L n) * k
    rw [sumL_mul n (by omega), if_neg (by omega), Nat.add_mul]
theorem sumL_set {L : Nat → Nat} {j v : Nat} : ∀ n, n ≤ j → sumL (fun i => if i = j then v else L i) n = sumL L n
  | 0, _ => rfl
  | n + 1, h => by
    show sumL _ n + (if n = j then v else L n) = sumL L n + L n
    rw [sumL_set n (by omega), if_neg (by omega)]
theorem Iv.step {s : Nat → Nat → Nat} {rr fd L : Nat → Nat} {B j c : Nat} (hB : Bd s rr fd) (hj : j < 4) (h : Iv fd L B j c) (hz : ow s rr j = 0 → fd j = 0) : Iv fd (Ln s rr fd L B j) (Bn s rr B j) (j + 1) (11 * c + 10000) := by
  obtain ⟨h1, h2, h3, h4⟩ := h
  have hp : 100 ^ (j + 1) = 100 ^ j * 100 := Nat.pow_succ 100 j
  obtain ⟨hx, ho⟩ := ow_r hB hj
  by_cases q : ow s rr j = 0
  · unfold Ln Bn
    rw [if_pos q, if_pos q]
    refine ⟨h1, by omega, ?_, fun i hi => ?_⟩
    · show sumL _ j + (if j = j then 0 else L j) ≤ _
      rw [sumL_set j (Nat.le_refl j), if_pos rfl]
      have : c * B ≤ (11 * c + 10000) * B := Nat.mul_le_mul_right B (by omega)
      omega
    · show fd i * B ≤ (if i = j then 0 else L i)
      by_cases e : i = j
      · rw [if_pos e, e, hz q]; omega
      · rw [if_neg e]; exact h4 i (by omega)
  · obtain ⟨o1, o2⟩ := ho.resolve_left q
    unfold Ln Bn
    rw [if_neg q, if_neg q]
    generalize ow s rr j = w at *
    have hBw : B * 1 ≤ B * w := Nat.mul_le_mul_left B (by omega)
    have hBw2 : B * w ≤ 100 ^ j * 100 := Nat.mul_le_mul h2 o2
    have he := eN_le (L := L) hB j hj
    refine ⟨by omega, by omega, ?_, fun i hi => ?_⟩
    · show sumL _ j + (if j = j then 100 * fd j * B + rr j * eN s L j else L j * w) ≤ _
      rw [sumL_mul j (Nat.le_refl j), if_pos rfl]
      have t1 : sumL L j * w ≤ c * B * w := Nat.mul_le_mul_right w h3
      have t2 : 100 * fd j * B ≤ 100000 * B := Nat.mul_le_mul_right B (by have := hB.2.2 j hj; omega)
      have t3 : rr j * eN s L j ≤ 10 * (10 * (c * B)) := Nat.mul_le_mul (hB.2.1 j hj) (Nat.le_trans he (Nat.mul_le_mul_left 10 h3))
      have t4 : B * 10 ≤ B * w := Nat.mul_le_mul_left B o1
      have t5 : c * B * 10 ≤ c * B * w := Nat.mul_le_mul_left (c * B) o1
      have t6 : (11 * c + 10000) * (B * w) = 11 * (c * B * w) + 10000 * (B * w) := by rw [Nat.add_mul, Nat.mul_assoc 11 c, Nat.mul_assoc c B w]
      rw [t6]
      omega
    · show fd i * (B * w) ≤ (if i = j then 100 * fd j * B + rr j * eN s L j else L i * w)
      by_cases e : i = j
      · rw [if_pos e, e]
        have t1 : fd j * (B * w) ≤ fd j * (B * 100) := Nat.mul_le_mul_left _ (Nat.mul_le_mul_left B o2)
        have t2 : fd j * (B * 100) = 100 * fd j * B := by rw [Nat.mul_comm B 100, ← Nat.mul_assoc, Nat.mul_comm (fd j) 100]
        omega
      · rw [if_neg e, ← Nat.mul_assoc]
        exact Nat.mul_le_mul_right w (h4 i (by omega))
theorem own_c {a b : Nat} (h : a * b ≤ 100) : (100 : Int32) - nI a * nI b = nI (100 - a * b) := by
  rw [pk_mul]
  exact pk_sub (a := 100) h
theorem i100 {a : Nat} (h : a ≤ 1000) : (100 * nI a : Int32).toInt64 = lN (100 * a) := by
  rw [show (100 : Int32) * nI a = nI (100 * a) from pk_mul 100 a, nI_l (by omega)]
theorem l100 {a : Nat} : (100 : Int64) * lN a = lN (100 * a) := lN_mul 100 a
theorem st0 {X M : SX} {Y Z : SY} {s : Nat → Nat → Nat} {rr fd L : Nat → Nat} {B c : Nat} (hB : Bd s rr fd) (hC : StC X s fd) (hM : StM M s rr fd) (hY : YC Y 0 L B) (hZ : YM Z 0 L B) (hI : Iv fd L B 0 c) (hc : c ≤ 2000000) (h1 : X 282 3 = 1) :
    (∃ Z', llr0 M Z = llr1 M Z' ∧ llY0 M Z = llY1 M Z' ∧ YM Z' 1 (Ln s rr fd L B 0) (Bn s rr B 0) ∧ ss0X X Y (nI (rr 0)) 282 3 = 1 ∧ YC (ss0Y X Y (nI (rr 0))) 1 (Ln s rr fd L B 0) (Bn s rr B 0) ∧ (ow s rr 0 = 0 → fd 0 = 0)) ∨ (llr0 M Z = 0 ∧ ss0X X Y (nI (rr 0)) 282 3 = 0) := by
  have hs00 : X 4 0 = nI (s 0 0) := hC.1 0 0 (by decide) (by decide)
  have hm00 : M 286 0 = nI (s 0 0) := hM.1 0 0 (by decide) (by decide)


  have hf : X 10 0 = nI (fd 0) := hC.2 0 (by decide)
  have hfm : M 286 24 = nI (fd 0) := hM.2.2 0 (by decide)
  have hrm : M 289 0 = nI (rr 0) := hM.2.1 0 (by decide)
  have bf := hB.2.2 0 (by decide)
  have br := hB.2.1 0 (by decide)
  obtain ⟨hx, -⟩ := ow_r hB (show 0 < 4 by decide)
  obtain ⟨i1, i2, i3, -⟩ := hI
  have he := eN_le (L := L) hB 0 (by decide)
  have hcB : c * B ≤ 2000000 * 100 ^ 0 := Nat.mul_le_mul hc i2
  have e63 : eN s L 0 < 2 ^ 63 := by omega
  have ec : ent X Y 0 = lN (eN s L 0) := by
    show 0 = _
    skip
    rfl
  have em : (0 : Int64) = lN (eN s L 0) := by
    skip
    rfl
  have oc : (100 : Int32) - nI (rr 0) * X 4 0 = nI (ow s rr 0) := by rw [hs00]; exact own_c hx
  have om : (100 : Int32) - M 286 0 * M 289 0 = nI (ow s rr 0) := by rw [hm00, hrm, Int32.mul_comm]; exact own_c hx
  have w31 : ow s rr 0 < 2 ^ 31 := by unfold ow; omega
  by_cases q : ow s rr 0 = 0
  · have oc0 : (100 : Int32) - nI (rr 0) * X 4 0 = 0 := by rw [oc, q]; rfl
    have om0 : (100 : Int32) - M 286 0 * M 289 0 = 0 := by rw [om, q]; rfl
    by_cases qf : fd 0 = 0
    · have xf : X 10 0 = 0 := by rw [hf, qf]; rfl
      have mf : ¬ 0 < M 286 24 := by rw [hfm, qf]; decide
      by_cases qe : eN s L 0 = 0
      · have xe : ent X Y 0 = 0 := by rw [ec, qe]; rfl
        have me : (0 : Int64) ≤ 0 := by decide
        refine Or.inl ⟨sy Z 290 0 0, ((if_pos om0).trans (if_neg mf)), ((if_pos om0).trans (if_neg mf)), ?_, ?_, ?_, fun _ => qf⟩
        · unfold Ln Bn
          rw [if_pos q, if_pos q]
          refine ⟨by rw [sy_o (by omega)]; exact hZ.1, fun i hi => ?_⟩
          by_cases ei : i = 0
          · subst ei; rw [sy_e]; rfl
          · show _ = lN (if i = 0 then 0 else L i)
            rw [sy_o (by omega), if_neg ei]; exact hZ.2 i (by omega)
        · have e : ss0X X Y (nI (rr 0)) = sx X 282 3 1 := (if_pos oc0).trans ((if_neg (by rw [h1]; decide)).trans ((if_pos xf).trans (if_pos xe)))
          rw [e, sx_e]
        · have e : ss0Y X Y (nI (rr 0)) = sy Y 283 0 0 := if_pos oc0
          rw [e]
          unfold Ln Bn
          rw [if_pos q, if_pos q]
          refine ⟨by rw [sy_o (by omega)]; exact hY.1, fun i hi => ?_⟩
          by_cases ei : i = 0
          · subst ei; rw [sy_e]; rfl
          · show _ = lN (if i = 0 then 0 else L i)
            rw [sy_o (by omega), if_neg ei]; exact hY.2 i (by omega)
      · have xe : ¬ ent X Y 0 = 0 := by rw [ec]; exact fun z => qe ((lN_z e63).mp z)
        have me : ¬ (0 : Int64) ≤ 0 := by exact absurd rfl qe
        exact absurd rfl qe
    · have xf : ¬ X 10 0 = 0 := by rw [hf]; exact nI_ne0 (by omega) (by omega)
      have mf : 0 < M 286 24 := by rw [hfm]; exact nI_lt (a := 0) (by omega) (by omega)
      refine Or.inr ⟨(if_pos om0).trans (if_pos mf), ?_⟩
      have e : ss0X X Y (nI (rr 0)) = sx X 282 3 0 := (if_pos oc0).trans ((if_neg (by rw [h1]; decide)).trans (if_neg xf))
      rw [e, sx_e]
  · have oc0 : ¬ (100 : Int32) - nI (rr 0) * X 4 0 = 0 := by rw [oc]; exact nI_ne0 (by omega) w31
    have om0 : ¬ (100 : Int32) - M 286 0 * M 289 0 = 0 := by rw [om]; exact nI_ne0 (by omega) w31
    have lo : (nI (ow s rr 0)).toInt64 = lN (ow s rr 0) := nI_l w31
    have lr : (nI (rr 0)).toInt64 = lN (rr 0) := nI_l (by omega)
    have lf : (nI (fd 0)).toInt64 = lN (fd 0) := nI_l (by omega)
    refine Or.inl ⟨_, if_neg om0, if_neg om0, ?_, ?_, ?_, fun z => absurd z q⟩
    · unfold Ln Bn
      rw [if_neg q, if_neg q]
      rw [om, hfm, hrm, lo, lr, lf]
      refine ⟨?_, fun i hi => ?_⟩
      · rw [sy_e, hZ.1, lN_mul]
      · rcases (show i = 0 by omega) with rfl
        · show _ = lN (100 * fd 0 * B + rr 0 * eN s L 0)
          simp (disch := omega) only [sy_o, sy_e]
          rw [hZ.1, l100, lN_mul, show (0 : Int64) = lN (eN s L 0) from rfl, lN_mul, lN_add]
    · have e : ss0X X Y (nI (rr 0)) = X := if_neg oc0
      rw [e]; exact h1
    · unfold ss0Y
      rw [if_neg oc0]
      unfold Ln Bn
      rw [if_neg q, if_neg q]
      rw [ec, oc, hf, i100 bf, lo, lr]
      refine ⟨?_, fun i hi => ?_⟩
      · simp (disch := omega) only [sy_o, sy_e]
        rw [hY.1, lN_mul]
      · rcases (show i = 0 by omega) with rfl
        · show _ = lN (100 * fd 0 * B + rr 0 * eN s L 0)
          simp (disch := omega) only [sy_o, sy_e]
          rw [hY.1, lN_mul, lN_mul, lN_add]
theorem ss0X_z {X : SX} {Y : SY} {r : Int32} (h : X 282 3 = 0) : ss0X X Y r 282 3 = 0 := by
  unfold ss0X
  by_cases q : 100 - (r * (X 4 0)) = 0
  · rw [if_pos q, if_pos h, sx_e]
  · rw [if_neg q]; exact h
theorem st1 {X M : SX} {Y Z : SY} {s : Nat → Nat → Nat} {rr fd L : Nat → Nat} {B c : Nat} (hB : Bd s rr fd) (hC : StC X s fd) (hM : StM M s rr fd) (hY : YC Y 1 L B) (hZ : YM Z 1 L B) (hI : Iv fd L B 1 c) (hc : c ≤ 2000000) (h1 : X 282 3 = 1) :
    (∃ Z', llr1 M Z = llr2 M Z' ∧ llY1 M Z = llY2 M Z' ∧ YM Z' 2 (Ln s rr fd L B 1) (Bn s rr B 1) ∧ ss1X X Y (nI (rr 1)) 282 3 = 1 ∧ YC (ss1Y X Y (nI (rr 1))) 2 (Ln s rr fd L B 1) (Bn s rr B 1) ∧ (ow s rr 1 = 0 → fd 1 = 0)) ∨ (llr1 M Z = 0 ∧ ss1X X Y (nI (rr 1)) 282 3 = 0) := by
  have hs01 : X 4 1 = nI (s 0 1) := hC.1 0 1 (by decide) (by decide)
  have hs11 : X 5 1 = nI (s 1 1) := hC.1 1 1 (by decide) (by decide)
  have hm01 : M 286 1 = nI (s 0 1) := hM.1 0 1 (by decide) (by decide)
  have hm11 : M 286 5 = nI (s 1 1) := hM.1 1 1 (by decide) (by decide)
  have y0 : Y 283 0 = lN (L 0) := hY.2 0 (by decide)
  have z0 : Z 290 0 = lN (L 0) := hZ.2 0 (by decide)
  have l0 : (nI (s 0 1)).toInt64 = lN (s 0 1) := nI_l (by have := hB.1 0 1 (by decide) (by decide); omega)
  have hf : X 10 1 = nI (fd 1) := hC.2 1 (by decide)
  have hfm : M 286 25 = nI (fd 1) := hM.2.2 1 (by decide)
  have hrm : M 289 1 = nI (rr 1) := hM.2.1 1 (by decide)
  have bf := hB.2.2 1 (by decide)
  have br := hB.2.1 1 (by decide)
  obtain ⟨hx, -⟩ := ow_r hB (show 1 < 4 by decide)
  obtain ⟨i1, i2, i3, -⟩ := hI
  have he := eN_le (L := L) hB 1 (by decide)
  have hcB : c * B ≤ 2000000 * 100 ^ 1 := Nat.mul_le_mul hc i2
  have e63 : eN s L 1 < 2 ^ 63 := by omega
  have ec : ent X Y 1 = lN (eN s L 1) := by
    show 0 + Y 283 0 * (X 4 1).toInt64 = _
    simp only [hs01, y0, l0, lN_mul, lN_0a, lN_add]
    rfl
  have em : ((0 + ((Z 290 0) * ((M 286 1).toInt64))) : Int64) = lN (eN s L 1) := by
    simp only [hm01, z0, l0, lN_mul, lN_0a, lN_add]
    rfl
  have oc : (100 : Int32) - nI (rr 1) * X 5 1 = nI (ow s rr 1) := by rw [hs11]; exact own_c hx
  have om : (100 : Int32) - M 286 5 * M 289 1 = nI (ow s rr 1) := by rw [hm11, hrm, Int32.mul_comm]; exact own_c hx
  have w31 : ow s rr 1 < 2 ^ 31 := by unfold ow; omega
  by_cases q : ow s rr 1 = 0
  · have oc0 : (100 : Int32) - nI (rr 1) * X 5 1 = 0 := by rw [oc, q]; rfl
    have om0 : (100 : Int32) - M 286 5 * M 289 1 = 0 := by rw [om, q]; rfl
    by_cases qf : fd 1 = 0
    · have xf : X 10 1 = 0 := by rw [hf, qf]; rfl
      have mf : ¬ 0 < M 286 25 := by rw [hfm, qf]; decide
      by_cases qe : eN s L 1 = 0
      · have xe : ent X Y 1 = 0 := by rw [ec, qe]; rfl
        have me : ((0 + ((Z 290 0) * ((M 286 1).toInt64))) : Int64) ≤ 0 := by rw [em, qe]; decide
        refine Or.inl ⟨sy Z 290 1 0, ((if_pos om0).trans ((if_neg mf).trans (if_pos me))), ((if_pos om0).trans ((if_neg mf).trans (if_pos me))), ?_, ?_, ?_, fun _ => qf⟩
        · unfold Ln Bn
          rw [if_pos q, if_pos q]
          refine ⟨by rw [sy_o (by omega)]; exact hZ.1, fun i hi => ?_⟩
          by_cases ei : i = 1
          · subst ei; rw [sy_e]; rfl
          · show _ = lN (if i = 1 then 0 else L i)
            rw [sy_o (by omega), if_neg ei]; exact hZ.2 i (by omega)
        · have e : ss1X X Y (nI (rr 1)) = sx X 282 3 1 := (if_pos oc0).trans ((if_neg (by rw [h1]; decide)).trans ((if_pos xf).trans (if_pos xe)))
          rw [e, sx_e]
        · have e : ss1Y X Y (nI (rr 1)) = sy Y 283 1 0 := if_pos oc0
          rw [e]
          unfold Ln Bn
          rw [if_pos q, if_pos q]
          refine ⟨by rw [sy_o (by omega)]; exact hY.1, fun i hi => ?_⟩
          by_cases ei : i = 1
          · subst ei; rw [sy_e]; rfl
          · show _ = lN (if i = 1 then 0 else L i)
            rw [sy_o (by omega), if_neg ei]; exact hY.2 i (by omega)
      · have xe : ¬ ent X Y 1 = 0 := by rw [ec]; exact fun z => qe ((lN_z e63).mp z)
        have me : ¬ ((0 + ((Z 290 0) * ((M 286 1).toInt64))) : Int64) ≤ 0 := by rw [em]; exact fun z => qe (Nat.le_zero.mp ((lN_le63 (b := 0) e63 (by decide)).mp z))
        refine Or.inr ⟨(if_pos om0).trans ((if_neg mf).trans (if_neg me)), ?_⟩
        have e : ss1X X Y (nI (rr 1)) = sx X 282 3 0 := (if_pos oc0).trans ((if_neg (by rw [h1]; decide)).trans ((if_pos xf).trans (if_neg xe)))
        rw [e, sx_e]
    · have xf : ¬ X 10 1 = 0 := by rw [hf]; exact nI_ne0 (by omega) (by omega)
      have mf : 0 < M 286 25 := by rw [hfm]; exact nI_lt (a := 0) (by omega) (by omega)
      refine Or.inr ⟨(if_pos om0).trans (if_pos mf), ?_⟩
      have e : ss1X X Y (nI (rr 1)) = sx X 282 3 0 := (if_pos oc0).trans ((if_neg (by rw [h1]; decide)).trans (if_neg xf))
      rw [e, sx_e]
  · have oc0 : ¬ (100 : Int32) - nI (rr 1) * X 5 1 = 0 := by rw [oc]; exact nI_ne0 (by omega) w31
    have om0 : ¬ (100 : Int32) - M 286 5 * M 289 1 = 0 := by rw [om]; exact nI_ne0 (by omega) w31
    have lo : (nI (ow s rr 1)).toInt64 = lN (ow s rr 1) := nI_l w31
    have lr : (nI (rr 1)).toInt64 = lN (rr 1) := nI_l (by omega)
    have lf : (nI (fd 1)).toInt64 = lN (fd 1) := nI_l (by omega)
    refine Or.inl ⟨_, if_neg om0, if_neg om0, ?_, ?_, ?_, fun z => absurd z q⟩
    · unfold Ln Bn
      rw [if_neg q, if_neg q]
      rw [em, om, hfm, hrm, lo, lr, lf]
      refine ⟨?_, fun i hi => ?_⟩
      · rw [sy_e, hZ.1, lN_mul]
      · rcases (show i = 0 ∨ i = 1 by omega) with rfl | rfl
        · show _ = lN (L 0 * ow s rr 1)
          simp (disch := omega) only [sy_o, sy_e]
          rw [z0, lN_mul]
        · show _ = lN (100 * fd 1 * B + rr 1 * eN s L 1)
          simp (disch := omega) only [sy_o, sy_e]
          rw [hZ.1, l100, lN_mul, lN_mul, lN_add]
    · have e : ss1X X Y (nI (rr 1)) = X := if_neg oc0
      rw [e]; exact h1
    · unfold ss1Y
      rw [if_neg oc0]
      unfold Ln Bn
      rw [if_neg q, if_neg q]
      rw [ec, oc, hf, i100 bf, lo, lr]
      refine ⟨?_, fun i hi => ?_⟩
      · simp (disch := omega) only [sy_o, sy_e]
        rw [hY.1, lN_mul]
      · rcases (show i = 0 ∨ i = 1 by omega) with rfl | rfl
        · show _ = lN (L 0 * ow s rr 1)
          simp (disch := omega) only [sy_o, sy_e]
          rw [y0, lN_mul]
        · show _ = lN (100 * fd 1 * B + rr 1 * eN s L 1)
          simp (disch := omega) only [sy_o, sy_e]
          rw [hY.1, lN_mul, lN_mul, lN_add]
theorem ss1X_z {X : SX} {Y : SY} {r : Int32} (h : X 282 3 = 0) : ss1X X Y r 282 3 = 0 := by
  unfold ss1X
  by_cases q : 100 - (r * (X 5 1)) = 0
  · rw [if_pos q, if_pos h, sx_e]
  · rw [if_neg q]; exact h
theorem st2 {X M : SX} {Y Z : SY} {s : Nat → Nat → Nat} {rr fd L : Nat → Nat} {B c : Nat} (hB : Bd s rr fd) (hC : StC X s fd) (hM : StM M s rr fd) (hY : YC Y 2 L B) (hZ : YM Z 2 L B) (hI : Iv fd L B 2 c) (hc : c ≤ 2000000) (h1 : X 282 3 = 1) :
    (∃ Z', llr2 M Z = llr3 M Z' ∧ llY2 M Z = llY3 M Z' ∧ YM Z' 3 (Ln s rr fd L B 2) (Bn s rr B 2) ∧ ss2X X Y (nI (rr 2)) 282 3 = 1 ∧ YC (ss2Y X Y (nI (rr 2))) 3 (Ln s rr fd L B 2) (Bn s rr B 2) ∧ (ow s rr 2 = 0 → fd 2 = 0)) ∨ (llr2 M Z = 0 ∧ ss2X X Y (nI (rr 2)) 282 3 = 0) := by
  have hs02 : X 4 2 = nI (s 0 2) := hC.1 0 2 (by decide) (by decide)
  have hs12 : X 5 2 = nI (s 1 2) := hC.1 1 2 (by decide) (by decide)
  have hs22 : X 6 2 = nI (s 2 2) := hC.1 2 2 (by decide) (by decide)
  have hm02 : M 286 2 = nI (s 0 2) := hM.1 0 2 (by decide) (by decide)
  have hm12 : M 286 6 = nI (s 1 2) := hM.1 1 2 (by decide) (by decide)
  have hm22 : M 286 10 = nI (s 2 2) := hM.1 2 2 (by decide) (by decide)
  have y0 : Y 283 0 = lN (L 0) := hY.2 0 (by decide)
  have z0 : Z 290 0 = lN (L 0) := hZ.2 0 (by decide)
  have y1 : Y 283 1 = lN (L 1) := hY.2 1 (by decide)
  have z1 : Z 290 1 = lN (L 1) := hZ.2 1 (by decide)
  have l0 : (nI (s 0 2)).toInt64 = lN (s 0 2) := nI_l (by have := hB.1 0 2 (by decide) (by decide); omega)
  have l1 : (nI (s 1 2)).toInt64 = lN (s 1 2) := nI_l (by have := hB.1 1 2 (by decide) (by decide); omega)
  have hf : X 10 2 = nI (fd 2) := hC.2 2 (by decide)
  have hfm : M 286 26 = nI (fd 2) := hM.2.2 2 (by decide)
  have hrm : M 289 2 = nI (rr 2) := hM.2.1 2 (by decide)
  have bf := hB.2.2 2 (by decide)
  have br := hB.2.1 2 (by decide)
  obtain ⟨hx, -⟩ := ow_r hB (show 2 < 4 by decide)
  obtain ⟨i1, i2, i3, -⟩ := hI
  have he := eN_le (L := L) hB 2 (by decide)
  have hcB : c * B ≤ 2000000 * 100 ^ 2 := Nat.mul_le_mul hc i2
  have e63 : eN s L 2 < 2 ^ 63 := by omega
  have ec : ent X Y 2 = lN (eN s L 2) := by
    show 0 + Y 283 0 * (X 4 2).toInt64 + Y 283 1 * (X 5 2).toInt64 = _
    simp only [hs02, hs12, y0, y1, l0, l1, lN_mul, lN_0a, lN_add]
    rfl
  have em : (((0 + ((Z 290 0) * ((M 286 2).toInt64))) + ((Z 290 1) * ((M 286 6).toInt64))) : Int64) = lN (eN s L 2) := by
    simp only [hm02, hm12, z0, z1, l0, l1, lN_mul, lN_0a, lN_add]
    rfl
  have oc : (100 : Int32) - nI (rr 2) * X 6 2 = nI (ow s rr 2) := by rw [hs22]; exact own_c hx
  have om : (100 : Int32) - M 286 10 * M 289 2 = nI (ow s rr 2) := by rw [hm22, hrm, Int32.mul_comm]; exact own_c hx
  have w31 : ow s rr 2 < 2 ^ 31 := by unfold ow; omega
  by_cases q : ow s rr 2 = 0
  · have oc0 : (100 : Int32) - nI (rr 2) * X 6 2 = 0 := by rw [oc, q]; rfl
    have om0 : (100 : Int32) - M 286 10 * M 289 2 = 0 := by rw [om, q]; rfl
    by_cases qf : fd 2 = 0
    · have xf : X 10 2 = 0 := by rw [hf, qf]; rfl
      have mf : ¬ 0 < M 286 26 := by rw [hfm, qf]; decide
      by_cases qe : eN s L 2 = 0
      · have xe : ent X Y 2 = 0 := by rw [ec, qe]; rfl
        have me : (((0 + ((Z 290 0) * ((M 286 2).toInt64))) + ((Z 290 1) * ((M 286 6).toInt64))) : Int64) ≤ 0 := by rw [em, qe]; decide
        refine Or.inl ⟨sy Z 290 2 0, ((if_pos om0).trans ((if_neg mf).trans (if_pos me))), ((if_pos om0).trans ((if_neg mf).trans (if_pos me))), ?_, ?_, ?_, fun _ => qf⟩
        · unfold Ln Bn
          rw [if_pos q, if_pos q]
          refine ⟨by rw [sy_o (by omega)]; exact hZ.1, fun i hi => ?_⟩
          by_cases ei : i = 2
          · subst ei; rw [sy_e]; rfl
          · show _ = lN (if i = 2 then 0 else L i)
            rw [sy_o (by omega), if_neg ei]; exact hZ.2 i (by omega)
        · have e : ss2X X Y (nI (rr 2)) = sx X 282 3 1 := (if_pos oc0).trans ((if_neg (by rw [h1]; decide)).trans ((if_pos xf).trans (if_pos xe)))
          rw [e, sx_e]
        · have e : ss2Y X Y (nI (rr 2)) = sy Y 283 2 0 := if_pos oc0
          rw [e]
          unfold Ln Bn
          rw [if_pos q, if_pos q]
          refine ⟨by rw [sy_o (by omega)]; exact hY.1, fun i hi => ?_⟩
          by_cases ei : i = 2
          · subst ei; rw [sy_e]; rfl
          · show _ = lN (if i = 2 then 0 else L i)
            rw [sy_o (by omega), if_neg ei]; exact hY.2 i (by omega)
      · have xe : ¬ ent X Y 2 = 0 := by rw [ec]; exact fun z => qe ((lN_z e63).mp z)
        have me : ¬ (((0 + ((Z 290 0) * ((M 286 2).toInt64))) + ((Z 290 1) * ((M 286 6).toInt64))) : Int64) ≤ 0 := by rw [em]; exact fun z => qe (Nat.le_zero.mp ((lN_le63 (b := 0) e63 (by decide)).mp z))
        refine Or.inr ⟨(if_pos om0).trans ((if_neg mf).trans (if_neg me)), ?_⟩
        have e : ss2X X Y (nI (rr 2)) = sx X 282 3 0 := (if_pos oc0).trans ((if_neg (by rw [h1]; decide)).trans ((if_pos xf).trans (if_neg xe)))
        rw [e, sx_e]
    · have xf : ¬ X 10 2 = 0 := by rw [hf]; exact nI_ne0 (by omega) (by omega)
      have mf : 0 < M 286 26 := by rw [hfm]; exact nI_lt (a := 0) (by omega) (by omega)
      refine Or.inr ⟨(if_pos om0).trans (if_pos mf), ?_⟩
      have e : ss2X X Y (nI (rr 2)) = sx X 282 3 0 := (if_pos oc0).trans ((if_neg (by rw [h1]; decide)).trans (if_neg xf))
      rw [e, sx_e]
  · have oc0 : ¬ (100 : Int32) - nI (rr 2) * X 6 2 = 0 := by rw [oc]; exact nI_ne0 (by omega) w31
    have om0 : ¬ (100 : Int32) - M 286 10 * M 289 2 = 0 := by rw [om]; exact nI_ne0 (by omega) w31
    have lo : (nI (ow s rr 2)).toInt64 = lN (ow s rr 2) := nI_l w31
    have lr : (nI (rr 2)).toInt64 = lN (rr 2) := nI_l (by omega)
    have lf : (nI (fd 2)).toInt64 = lN (fd 2) := nI_l (by omega)
    refine Or.inl ⟨_, if_neg om0, if_neg om0, ?_, ?_, ?_, fun z => absurd z q⟩
    · unfold Ln Bn
      rw [if_neg q, if_neg q]
      rw [em, om, hfm, hrm, lo, lr, lf]
      refine ⟨?_, fun i hi => ?_⟩
      · rw [sy_e, hZ.1, lN_mul]
      · rcases (show i = 0 ∨ i = 1 ∨ i = 2 by omega) with rfl | rfl | rfl
        · show _ = lN (L 0 * ow s rr 2)
          simp (disch := omega) only [sy_o, sy_e]
          rw [z0, lN_mul]
        · show _ = lN (L 1 * ow s rr 2)
          simp (disch := omega) only [sy_o, sy_e]
          rw [z1, lN_mul]
        · show _ = lN (100 * fd 2 * B + rr 2 * eN s L 2)
          simp (disch := omega) only [sy_o, sy_e]
          rw [hZ.1, l100, lN_mul, lN_mul, lN_add]
    · have e : ss2X X Y (nI (rr 2)) = X := if_neg oc0
      rw [e]; exact h1
    · unfold ss2Y
      rw [if_neg oc0]
      unfold Ln Bn
      rw [if_neg q, if_neg q]
      rw [ec, oc, hf, i100 bf, lo, lr]
      refine ⟨?_, fun i hi => ?_⟩
      · simp (disch := omega) only [sy_o, sy_e]
        rw [hY.1, lN_mul]
      · rcases (show i = 0 ∨ i = 1 ∨ i = 2 by omega) with rfl | rfl | rfl
        · show _ = lN (L 0 * ow s rr 2)
          simp (disch := omega) only [sy_o, sy_e]
          rw [y0, lN_mul]
        · show _ = lN (L 1 * ow s rr 2)
          simp (disch := omega) only [sy_o, sy_e]
          rw [y1, lN_mul]
        · show _ = lN (100 * fd 2 * B + rr 2 * eN s L 2)
          simp (disch := omega) only [sy_o, sy_e]
          rw [hY.1, lN_mul, lN_mul, lN_add]
theorem ss2X_z {X : SX} {Y : SY} {r : Int32} (h : X 282 3 = 0) : ss2X X Y r 282 3 = 0 := by
  unfold ss2X
  by_cases q : 100 - (r * (X 6 2)) = 0
  · rw [if_pos q, if_pos h, sx_e]
  · rw [if_neg q]; exact h
theorem st3 {X M : SX} {Y Z : SY} {s : Nat → Nat → Nat} {rr fd L : Nat → Nat} {B c : Nat} (hB : Bd s rr fd) (hC : StC X s fd) (hM : StM M s rr fd) (hY : YC Y 3 L B) (hZ : YM Z 3 L B) (hI : Iv fd L B 3 c) (hc : c ≤ 2000000) (h1 : X 282 3 = 1) :
    (∃ Z', llr3 M Z = llr4 M Z' ∧ llY3 M Z = llY4 M Z' ∧ YM Z' 4 (Ln s rr fd L B 3) (Bn s rr B 3) ∧ ss3X X Y (nI (rr 3)) 282 3 = 1 ∧ YC (ss3Y X Y (nI (rr 3))) 4 (Ln s rr fd L B 3) (Bn s rr B 3) ∧ (ow s rr 3 = 0 → fd 3 = 0)) ∨ (llr3 M Z = 0 ∧ ss3X X Y (nI (rr 3)) 282 3 = 0) := by
  have hs03 : X 4 3 = nI (s 0 3) := hC.1 0 3 (by decide) (by decide)
  have hs13 : X 5 3 = nI (s 1 3) := hC.1 1 3 (by decide) (by decide)
  have hs23 : X 6 3 = nI (s 2 3) := hC.1 2 3 (by decide) (by decide)
  have hs33 : X 7 3 = nI (s 3 3) := hC.1 3 3 (by decide) (by decide)
  have hm03 : M 286 3 = nI (s 0 3) := hM.1 0 3 (by decide) (by decide)
  have hm13 : M 286 7 = nI (s 1 3) := hM.1 1 3 (by decide) (by decide)
  have hm23 : M 286 11 = nI (s 2 3) := hM.1 2 3 (by decide) (by decide)
  have hm33 : M 286 15 = nI (s 3 3) := hM.1 3 3 (by decide) (by decide)
  have y0 : Y 283 0 = lN (L 0) := hY.2 0 (by decide)
  have z0 : Z 290 0 = lN (L 0) := hZ.2 0 (by decide)
  have y1 : Y 283 1 = lN (L 1) := hY.2 1 (by decide)
  have z1 : Z 290 1 = lN (L 1) := hZ.2 1 (by decide)
  have y2 : Y 283 2 = lN (L 2) := hY.2 2 (by decide)
  have z2 : Z 290 2 = lN (L 2) := hZ.2 2 (by decide)
  have l0 : (nI (s 0 3)).toInt64 = lN (s 0 3) := nI_l (by have := hB.1 0 3 (by decide) (by decide); omega)
  have l1 : (nI (s 1 3)).toInt64 = lN (s 1 3) := nI_l (by have := hB.1 1 3 (by decide) (by decide); omega)
  have l2 : (nI (s 2 3)).toInt64 = lN (s 2 3) := nI_l (by have := hB.1 2 3 (by decide) (by decide); omega)
  have hf : X 10 3 = nI (fd 3) := hC.2 3 (by decide)
  have hfm : M 286 27 = nI (fd 3) := hM.2.2 3 (by decide)
  have hrm : M 289 3 = nI (rr 3) := hM.2.1 3 (by decide)
  have bf := hB.2.2 3 (by decide)
  have br := hB.2.1 3 (by decide)
  obtain ⟨hx, -⟩ := ow_r hB (show 3 < 4 by decide)
  obtain ⟨i1, i2, i3, -⟩ := hI
  have he := eN_le (L := L) hB 3 (by decide)
  have hcB : c * B ≤ 2000000 * 100 ^ 3 := Nat.mul_le_mul hc i2
  have e63 : eN s L 3 < 2 ^ 63 := by omega
  have ec : ent X Y 3 = lN (eN s L 3) := by
    show 0 + Y 283 0 * (X 4 3).toInt64 + Y 283 1 * (X 5 3).toInt64 + Y 283 2 * (X 6 3).toInt64 = _
    simp only [hs03, hs13, hs23, y0, y1, y2, l0, l1, l2, lN_mul, lN_0a, lN_add]
    rfl
  have em : ((((0 + ((Z 290 0) * ((M 286 3).toInt64))) + ((Z 290 1) * ((M 286 7).toInt64))) + ((Z 290 2) * ((M 286 11).toInt64))) : Int64) = lN (eN s L 3) := by
    simp only [hm03, hm13, hm23, z0, z1, z2, l0, l1, l2, lN_mul, lN_0a, lN_add]
    rfl
  have oc : (100 : Int32) - nI (rr 3) * X 7 3 = nI (ow s rr 3) := by rw [hs33]; exact own_c hx
  have om : (100 : Int32) - M 286 15 * M 289 3 = nI (ow s rr 3) := by rw [hm33, hrm, Int32.mul_comm]; exact own_c hx
  have w31 : ow s rr 3 < 2 ^ 31 := by unfold ow; omega
  by_cases q : ow s rr 3 = 0
  · have oc0 : (100 : Int32) - nI (rr 3) * X 7 3 = 0 := by rw [oc, q]; rfl
    have om0 : (100 : Int32) - M 286 15 * M 289 3 = 0 := by rw [om, q]; rfl
    by_cases qf : fd 3 = 0
    · have xf : X 10 3 = 0 := by rw [hf, qf]; rfl
      have mf : ¬ 0 < M 286 27 := by rw [hfm, qf]; decide
      by_cases qe : eN s L 3 = 0
      · have xe : ent X Y 3 = 0 := by rw [ec, qe]; rfl
        have me : ((((0 + ((Z 290 0) * ((M 286 3).toInt64))) + ((Z 290 1) * ((M 286 7).toInt64))) + ((Z 290 2) * ((M 286 11).toInt64))) : Int64) ≤ 0 := by rw [em, qe]; decide
        refine Or.inl ⟨sy Z 290 3 0, ((if_pos om0).trans ((if_neg mf).trans (if_pos me))), ((if_pos om0).trans ((if_neg mf).trans (if_pos me))), ?_, ?_, ?_, fun _ => qf⟩
        · unfold Ln Bn
          rw [if_pos q, if_pos q]
          refine ⟨by rw [sy_o (by omega)]; exact hZ.1, fun i hi => ?_⟩
          by_cases ei : i = 3
          · subst ei; rw [sy_e]; rfl
          · show _ = lN (if i = 3 then 0 else L i)
            rw [sy_o (by omega), if_neg ei]; exact hZ.2 i (by omega)
        · have e : ss3X X Y (nI (rr 3)) = sx X 282 3 1 := (if_pos oc0).trans ((if_neg (by rw [h1]; decide)).trans ((if_pos xf).trans (if_pos xe)))
          rw [e, sx_e]
        · have e : ss3Y X Y (nI (rr 3)) = sy Y 283 3 0 := if_pos oc0
          rw [e]
          unfold Ln Bn
          rw [if_pos q, if_pos q]
          refine ⟨by rw [sy_o (by omega)]; exact hY.1, fun i hi => ?_⟩
          by_cases ei : i = 3
          · subst ei; rw [sy_e]; rfl
          · show _ = lN (if i = 3 then 0 else L i)
            rw [sy_o (by omega), if_neg ei]; exact hY.2 i (by omega)
      · have xe : ¬ ent X Y 3 = 0 := by rw [ec]; exact fun z => qe ((lN_z e63).mp z)
        have me : ¬ ((((0 + ((Z 290 0) * ((M 286 3).toInt64))) + ((Z 290 1) * ((M 286 7).toInt64))) + ((Z 290 2) * ((M 286 11).toInt64))) : Int64) ≤ 0 := by rw [em]; exact fun z => qe (Nat.le_zero.mp ((lN_le63 (b := 0) e63 (by decide)).mp z))
        refine Or.inr ⟨(if_pos om0).trans ((if_neg mf).trans (if_neg me)), ?_⟩
        have e : ss3X X Y (nI (rr 3)) = sx X 282 3 0 := (if_pos oc0).trans ((if_neg (by rw [h1]; decide)).trans ((if_pos xf).trans (if_neg xe)))
        rw [e, sx_e]
    · have xf : ¬ X 10 3 = 0 := by rw [hf]; exact nI_ne0 (by omega) (by omega)
      have mf : 0 < M 286 27 := by rw [hfm]; exact nI_lt (a := 0) (by omega) (by omega)
      refine Or.inr ⟨(if_pos om0).trans (if_pos mf), ?_⟩
      have e : ss3X X Y (nI (rr 3)) = sx X 282 3 0 := (if_pos oc0).trans ((if_neg (by rw [h1]; decide)).trans (if_neg xf))
      rw [e, sx_e]
  · have oc0 : ¬ (100 : Int32) - nI (rr 3) * X 7 3 = 0 := by rw [oc]; exact nI_ne0 (by omega) w31
    have om0 : ¬ (100 : Int32) - M 286 15 * M 289 3 = 0 := by rw [om]; exact nI_ne0 (by omega) w31
    have lo : (nI (ow s rr 3)).toInt64 = lN (ow s rr 3) := nI_l w31
    have lr : (nI (rr 3)).toInt64 = lN (rr 3) := nI_l (by omega)
    have lf : (nI (fd 3)).toInt64 = lN (fd 3) := nI_l (by omega)
    refine Or.inl ⟨_, if_neg om0, if_neg om0, ?_, ?_, ?_, fun z => absurd z q⟩
    · unfold Ln Bn
      rw [if_neg q, if_neg q]
      rw [em, om, hfm, hrm, lo, lr, lf]
      refine ⟨?_, fun i hi => ?_⟩
      · rw [sy_e, hZ.1, lN_mul]
      · rcases (show i = 0 ∨ i = 1 ∨ i = 2 ∨ i = 3 by omega) with rfl | rfl | rfl | rfl
        · show _ = lN (L 0 * ow s rr 3)
          simp (disch := omega) only [sy_o, sy_e]
          rw [z0, lN_mul]
        · show _ = lN (L 1 * ow s rr 3)
          simp (disch := omega) only [sy_o, sy_e]
          rw [z1, lN_mul]
        · show _ = lN (L 2 * ow s rr 3)
          simp (disch := omega) only [sy_o, sy_e]
          rw [z2, lN_mul]
        · show _ = lN (100 * fd 3 * B + rr 3 * eN s L 3)
          simp (disch := omega) only [sy_o, sy_e]
          rw [hZ.1, l100, lN_mul, lN_mul, lN_add]
    · have e : ss3X X Y (nI (rr 3)) = X := if_neg oc0
      rw [e]; exact h1
    · unfold ss3Y
      rw [if_neg oc0]
      unfold Ln Bn
      rw [if_neg q, if_neg q]
      rw [ec, oc, hf, i100 bf, lo, lr]
      refine ⟨?_, fun i hi => ?_⟩
      · simp (disch := omega) only [sy_o, sy_e]
        rw [hY.1, lN_mul]
      · rcases (show i = 0 ∨ i = 1 ∨ i = 2 ∨ i = 3 by omega) with rfl | rfl | rfl | rfl
        · show _ = lN (L 0 * ow s rr 3)
          simp (disch := omega) only [sy_o, sy_e]
          rw [y0, lN_mul]
        · show _ = lN (L 1 * ow s rr 3)
          simp (disch := omega) only [sy_o, sy_e]
          rw [y1, lN_mul]
        · show _ = lN (L 2 * ow s rr 3)
          simp (disch := omega) only [sy_o, sy_e]
          rw [y2, lN_mul]
        · show _ = lN (100 * fd 3 * B + rr 3 * eN s L 3)
          simp (disch := omega) only [sy_o, sy_e]
          rw [hY.1, lN_mul, lN_mul, lN_add]
theorem ss3X_z {X : SX} {Y : SY} {r : Int32} (h : X 282 3 = 0) : ss3X X Y r 282 3 = 0 := by
  unfold ss3X
  by_cases q : 100 - (r * (X 7 3)) = 0
  · rw [if_pos q, if_pos h, sx_e]
  · rw [if_neg q]; exact h
