/-! ===== 05: contracts of the small helpers ===== -/
theorem rI1 {P : Prop} [Decidable P] (h : P) : some (Value.int (bI P)) = some (.int 1) := by rw [bI_t h]
theorem rI0 {P : Prop} [Decidable P] (h : ¬ P) : some (Value.int (bI P)) = some (.int 0) := by rw [bI_f h]
theorem i32_le {a b : Int32} (h : ¬ a < b) : b ≤ a := by
  rw [Int32.lt_iff_toInt_lt] at h
  rw [Int32.le_iff_toInt_le]
  omega
theorem i32_nle {a b : Int32} (h : a < b) : ¬ b ≤ a := by
  rw [Int32.lt_iff_toInt_lt] at h
  rw [Int32.le_iff_toInt_le]
  omega
theorem wi_t {v lo hi : Int32} (h1 : ¬ v < lo) (h2 : ¬ hi < v) : Wi v lo hi := ⟨i32_le h1, i32_le h2⟩
theorem wi_f1 {v lo hi : Int32} (h1 : v < lo) : ¬ Wi v lo hi := fun q => i32_nle h1 q.1
theorem wi_f2 {v lo hi : Int32} (h1 : hi < v) : ¬ Wi v lo hi := fun q => i32_nle h1 q.2
theorem i32_one {b : Int32} (h : 1 ≤ b) (h2 : ¬ 1 < b) : b = 1 := by
  rw [Int32.lt_iff_toInt_lt] at h2
  rw [Int32.le_iff_toInt_le] at h
  exact Int32.toInt_inj.mp (by omega)
theorem i32_max {b : Int32} (h : 1 ≤ b) : (if 1 < b then b else 1) = b := by
  by_cases h2 : 1 < b
  · rw [if_pos h2]
  · rw [if_neg h2, i32_one h h2]
theorem i64_max {b : Int64} (h : 1 ≤ b) : (if b < 1 then 1 else b) = b := if_neg (Int64.not_lt.mpr h)
theorem i32_n0 {b : Int32} (h : 1 ≤ b) : ¬ b = 0 := fun q => by
  rw [q] at h
  exact absurd h (by decide)
theorem i64_n0 {b : Int64} (h : 1 ≤ b) : ¬ b = 0 := fun q => by
  rw [q] at h
  exact absurd h (by decide)
/-- the sum of four masses, as the class adds them -/
def sum4 (f : Nat → Int32) : Int32 := 0 + f 0 + f 1 + f 2 + f 3
/-- a lot's masses as they may be -/
abbrev MassOK (a b c d : Int32) : Prop := Wi a 0 200 ∧ Wi b 0 200 ∧ Wi c 0 200 ∧ Wi d 0 200 ∧ 0 < a + b + c + d
set_option maxRecDepth 100000 in
set_option maxHeartbeats 4000000 in
theorem c_X5_isWithin (l : Launch) (G : GG) (o : Nat) (X : SX) (Y : SY) (v : Int32) (lo : Int32) (hi : Int32) : Ct l yX5_isWithin cX5_isWithin 3 (some .boolean) 0 0 G o [.int v, .int lo, .int hi] X Y (some (.int (bI (Wi v lo hi)))) X Y := by
  refine Ct.mk (by decide +kernel) (Nat.le_of_ble_eq_true rfl) rfl ?_
  intro p9 e9 s9 m9 args9 below9 meth9 c9 hE hr hlocks hK hI ls hl
  have hx := hE.1
  have hb := hE.2.1
  have hl : lv_has ls 3 [(0, .int v), (1, .int lo), (2, .int hi)] := hl
  refine lv_iload_n hx hb dX5_isWithin_0 rfl (lv_at hl 0 rfl) ?_
  refine lv_iload_n hx hb dX5_isWithin_1 rfl (lv_at hl 1 rfl) ?_
  refine lv_icmp_lt (tgt := 14) hx hb dX5_isWithin_2 (by decide) (fun c1 => ?_) (fun c1 => ?_)
  · refine lv_iconst (v := 0) hx hb dX5_isWithin_14 (by decide) ?_
    exact x_zret hE hr hlocks hI (by decide) (rI0 (wi_f1 c1)) rfl rfl dX5_isWithin_15
  · refine lv_iload_n hx hb dX5_isWithin_5 rfl (lv_at hl 0 rfl) ?_
    refine lv_iload_n hx hb dX5_isWithin_6 rfl (lv_at hl 2 rfl) ?_
    refine lv_icmp_gt (tgt := 14) hx hb dX5_isWithin_7 (by decide) (fun c2 => ?_) (fun c2 => ?_)
    · refine lv_iconst (v := 0) hx hb dX5_isWithin_14 (by decide) ?_
      exact x_zret hE hr hlocks hI (by decide) (rI0 (wi_f2 c2)) rfl rfl dX5_isWithin_15
    · refine lv_iconst (v := 1) hx hb dX5_isWithin_10 (by decide) ?_
      refine lv_goto (tgt := 15) hx hb dX5_isWithin_11 (by decide) ?_
      exact x_zret hE hr hlocks hI (by decide) (rI1 (wi_t c1 c2)) rfl rfl dX5_isWithin_15
set_option maxRecDepth 100000 in
set_option maxHeartbeats 4000000 in
theorem c_X6_in (l : Launch) (G : GG) (o : Nat) (X : SX) (Y : SY) (v : Int32) (lo : Int32) (hi : Int32) : Ct l yX6_in cX6_in 3 (some .boolean) 0 0 G o [.int v, .int lo, .int hi] X Y (some (.int (bI (Wi v lo hi)))) X Y := by
  refine Ct.mk (by decide +kernel) (Nat.le_of_ble_eq_true rfl) rfl ?_
  intro p9 e9 s9 m9 args9 below9 meth9 c9 hE hr hlocks hK hI ls hl
  have hx := hE.1
  have hb := hE.2.1
  have hl : lv_has ls 3 [(0, .int v), (1, .int lo), (2, .int hi)] := hl
  refine lv_iload_n hx hb dX6_in_0 rfl (lv_at hl 0 rfl) ?_
  refine lv_iload_n hx hb dX6_in_1 rfl (lv_at hl 1 rfl) ?_
  refine lv_icmp_lt (tgt := 14) hx hb dX6_in_2 (by decide) (fun c1 => ?_) (fun c1 => ?_)
  · refine lv_iconst (v := 0) hx hb dX6_in_14 (by decide) ?_
    exact x_zret hE hr hlocks hI (by decide) (rI0 (wi_f1 c1)) rfl rfl dX6_in_15
  · refine lv_iload_n hx hb dX6_in_5 rfl (lv_at hl 0 rfl) ?_
    refine lv_iload_n hx hb dX6_in_6 rfl (lv_at hl 2 rfl) ?_
    refine lv_icmp_gt (tgt := 14) hx hb dX6_in_7 (by decide) (fun c2 => ?_) (fun c2 => ?_)
    · refine lv_iconst (v := 0) hx hb dX6_in_14 (by decide) ?_
      exact x_zret hE hr hlocks hI (by decide) (rI0 (wi_f2 c2)) rfl rfl dX6_in_15
    · refine lv_iconst (v := 1) hx hb dX6_in_10 (by decide) ?_
      refine lv_goto (tgt := 15) hx hb dX6_in_11 (by decide) ?_
      exact x_zret hE hr hlocks hI (by decide) (rI1 (wi_t c1 c2)) rfl rfl dX6_in_15
set_option maxRecDepth 100000 in
set_option maxHeartbeats 4000000 in
theorem c_X5_isSize (l : Launch) (G : GG) (o : Nat) (X : SX) (Y : SY) (v : Int32) : Ct l yX5_isSize cX5_isSize 1 (some .boolean) 1 22 G o [.int v] X Y (some (.int (bI (Wi v 0 3)))) X Y := by
  refine Ct.mk (by decide +kernel) (Nat.le_of_ble_eq_true rfl) rfl ?_
  intro p9 e9 s9 m9 args9 below9 meth9 c9 hE hr hlocks hK hI ls hl
  have hx := hE.1
  have hb := hE.2.1
  have hl : lv_has ls 1 [(0, .int v)] := hl
  refine lv_iload_n hx hb dX5_isSize_0 rfl (lv_at hl 0 rfl) ?_
  refine lv_iconst (v := 0) hx hb dX5_isSize_1 (by decide) ?_
  refine lv_iconst (v := 3) hx hb dX5_isSize_2 (by decide) ?_
  refine x_callSi hE hK hI (c_X5_isWithin l G o _ _ v 0 3 ) mf_X5_isWithin mw_192 rfl hl.1 rfl (Nat.le_of_ble_eq_true rfl) ⟨(Nat.le_of_ble_eq_true rfl), (Nat.le_of_ble_eq_true rfl)⟩ ⟨Nat.zero_le _, Nat.zero_le _⟩ dX5_isSize_3 (fun H locs hI => ?_)
  exact x_zret hE hr hlocks hI bI_01 rfl rfl rfl dX5_isSize_6
set_option maxRecDepth 100000 in
set_option maxHeartbeats 4000000 in
theorem c_X6_isSize (l : Launch) (G : GG) (o : Nat) (X : SX) (Y : SY) (v : Int32) : Ct l yX6_isSize cX6_isSize 1 (some .boolean) 1 22 G o [.int v] X Y (some (.int (bI (Wi v 0 3)))) X Y := by
  refine Ct.mk (by decide +kernel) (Nat.le_of_ble_eq_true rfl) rfl ?_
  intro p9 e9 s9 m9 args9 below9 meth9 c9 hE hr hlocks hK hI ls hl
  have hx := hE.1
  have hb := hE.2.1
  have hl : lv_has ls 1 [(0, .int v)] := hl
  refine lv_iload_n hx hb dX6_isSize_0 rfl (lv_at hl 0 rfl) ?_
  refine lv_iconst (v := 0) hx hb dX6_isSize_1 (by decide) ?_
  refine lv_iconst (v := 3) hx hb dX6_isSize_2 (by decide) ?_
  refine x_callSi hE hK hI (c_X6_in l G o _ _ v 0 3 ) mf_X6_in mw_509 rfl hl.1 rfl (Nat.le_of_ble_eq_true rfl) ⟨(Nat.le_of_ble_eq_true rfl), (Nat.le_of_ble_eq_true rfl)⟩ ⟨Nat.zero_le _, Nat.zero_le _⟩ dX6_isSize_3 (fun H locs hI => ?_)
  exact x_zret hE hr hlocks hI bI_01 rfl rfl rfl dX6_isSize_6
set_option maxRecDepth 100000 in
set_option maxHeartbeats 4000000 in
theorem c_X5_isSlot (l : Launch) (G : GG) (o : Nat) (X : SX) (Y : SY) (v : Int32) : Ct l yX5_isSlot cX5_isSlot 1 (some .boolean) 1 22 G o [.int v] X Y (some (.int (bI (Wi v 0 1)))) X Y := by
  refine Ct.mk (by decide +kernel) (Nat.le_of_ble_eq_true rfl) rfl ?_
  intro p9 e9 s9 m9 args9 below9 meth9 c9 hE hr hlocks hK hI ls hl
  have hx := hE.1
  have hb := hE.2.1
  have hl : lv_has ls 1 [(0, .int v)] := hl
  refine lv_iload_n hx hb dX5_isSlot_0 rfl (lv_at hl 0 rfl) ?_
  refine lv_iconst (v := 0) hx hb dX5_isSlot_1 (by decide) ?_
  refine lv_iconst (v := 1) hx hb dX5_isSlot_2 (by decide) ?_
  refine x_callSi hE hK hI (c_X5_isWithin l G o _ _ v 0 1 ) mf_X5_isWithin mw_192 rfl hl.1 rfl (Nat.le_of_ble_eq_true rfl) ⟨(Nat.le_of_ble_eq_true rfl), (Nat.le_of_ble_eq_true rfl)⟩ ⟨Nat.zero_le _, Nat.zero_le _⟩ dX5_isSlot_3 (fun H locs hI => ?_)
  exact x_zret hE hr hlocks hI bI_01 rfl rfl rfl dX5_isSlot_6
set_option maxRecDepth 100000 in
set_option maxHeartbeats 4000000 in
theorem c_X5_isLotMass (l : Launch) (G : GG) (o : Nat) (X : SX) (Y : SY) (v : Int32) : Ct l yX5_isLotMass cX5_isLotMass 1 (some .boolean) 1 22 G o [.int v] X Y (some (.int (bI (Wi v 0 200)))) X Y := by
  refine Ct.mk (by decide +kernel) (Nat.le_of_ble_eq_true rfl) rfl ?_
  intro p9 e9 s9 m9 args9 below9 meth9 c9 hE hr hlocks hK hI ls hl
  have hx := hE.1
  have hb := hE.2.1
  have hl : lv_has ls 1 [(0, .int v)] := hl
  refine lv_iload_n hx hb dX5_isLotMass_0 rfl (lv_at hl 0 rfl) ?_
  refine lv_iconst (v := 0) hx hb dX5_isLotMass_1 (by decide) ?_
  refine lv_sipush (v := 200) hx hb dX5_isLotMass_2 (by decide) ?_
  refine x_callSi hE hK hI (c_X5_isWithin l G o _ _ v 0 200 ) mf_X5_isWithin mw_192 rfl hl.1 rfl (Nat.le_of_ble_eq_true rfl) ⟨(Nat.le_of_ble_eq_true rfl), (Nat.le_of_ble_eq_true rfl)⟩ ⟨Nat.zero_le _, Nat.zero_le _⟩ dX5_isLotMass_5 (fun H locs hI => ?_)
  exact x_zret hE hr hlocks hI bI_01 rfl rfl rfl dX5_isLotMass_8
set_option maxRecDepth 100000 in
set_option maxHeartbeats 4000000 in
theorem c_X6_isMass (l : Launch) (G : GG) (o : Nat) (X : SX) (Y : SY) (v : Int32) : Ct l yX6_isMass cX6_isMass 1 (some .boolean) 1 22 G o [.int v] X Y (some (.int (bI (Wi v 0 200)))) X Y := by
  refine Ct.mk (by decide +kernel) (Nat.le_of_ble_eq_true rfl) rfl ?_
  intro p9 e9 s9 m9 args9 below9 meth9 c9 hE hr hlocks hK hI ls hl
  have hx := hE.1
  have hb := hE.2.1
  have hl : lv_has ls 1 [(0, .int v)] := hl
  refine lv_iload_n hx hb dX6_isMass_0 rfl (lv_at hl 0 rfl) ?_
  refine lv_iconst (v := 0) hx hb dX6_isMass_1 (by decide) ?_
  refine lv_sipush (v := 200) hx hb dX6_isMass_2 (by decide) ?_
  refine x_callSi hE hK hI (c_X6_in l G o _ _ v 0 200 ) mf_X6_in mw_509 rfl hl.1 rfl (Nat.le_of_ble_eq_true rfl) ⟨(Nat.le_of_ble_eq_true rfl), (Nat.le_of_ble_eq_true rfl)⟩ ⟨Nat.zero_le _, Nat.zero_le _⟩ dX6_isMass_5 (fun H locs hI => ?_)
  exact x_zret hE hr hlocks hI bI_01 rfl rfl rfl dX6_isMass_8
set_option maxRecDepth 100000 in
set_option maxHeartbeats 4000000 in
theorem c_X6_isPart (l : Launch) (G : GG) (o : Nat) (X : SX) (Y : SY) (v : Int32) : Ct l yX6_isPart cX6_isPart 1 (some .boolean) 1 22 G o [.int v] X Y (some (.int (bI (Wi v 0 1)))) X Y := by
  refine Ct.mk (by decide +kernel) (Nat.le_of_ble_eq_true rfl) rfl ?_
  intro p9 e9 s9 m9 args9 below9 meth9 c9 hE hr hlocks hK hI ls hl
  have hx := hE.1
  have hb := hE.2.1
  have hl : lv_has ls 1 [(0, .int v)] := hl
  refine lv_iload_n hx hb dX6_isPart_0 rfl (lv_at hl 0 rfl) ?_
  refine lv_iconst (v := 0) hx hb dX6_isPart_1 (by decide) ?_
  refine lv_iconst (v := 1) hx hb dX6_isPart_2 (by decide) ?_
  refine x_callSi hE hK hI (c_X6_in l G o _ _ v 0 1 ) mf_X6_in mw_509 rfl hl.1 rfl (Nat.le_of_ble_eq_true rfl) ⟨(Nat.le_of_ble_eq_true rfl), (Nat.le_of_ble_eq_true rfl)⟩ ⟨Nat.zero_le _, Nat.zero_le _⟩ dX6_isPart_3 (fun H locs hI => ?_)
  exact x_zret hE hr hlocks hI bI_01 rfl rfl rfl dX6_isPart_6
set_option maxRecDepth 100000 in
set_option maxHeartbeats 4000000 in
theorem c_X5_isZeroOrOne (l : Launch) (G : GG) (o : Nat) (X : SX) (Y : SY) (v : Int32) : Ct l yX5_isZeroOrOne cX5_isZeroOrOne 1 (some .boolean) 0 0 G o [.int v] X Y (some (.int (bI (v = 0 ∨ v = 1)))) X Y := by
  refine Ct.mk (by decide +kernel) (Nat.le_of_ble_eq_true rfl) rfl ?_
  intro p9 e9 s9 m9 args9 below9 meth9 c9 hE hr hlocks hK hI ls hl
  have hx := hE.1
  have hb := hE.2.1
  have hl : lv_has ls 1 [(0, .int v)] := hl
  refine lv_iload_n hx hb dX5_isZeroOrOne_0 rfl (lv_at hl 0 rfl) ?_
  refine lv_if_eq (tgt := 9) hx hb dX5_isZeroOrOne_1 (by decide) (fun c1 => ?_) (fun c1 => ?_)
  · refine lv_iconst (v := 1) hx hb dX5_isZeroOrOne_9 (by decide) ?_
    refine lv_goto (tgt := 14) hx hb dX5_isZeroOrOne_10 (by decide) ?_
    exact x_zret hE hr hlocks hI (by decide) (rI1 (Or.inl c1)) rfl rfl dX5_isZeroOrOne_14
  · refine lv_iload_n hx hb dX5_isZeroOrOne_4 rfl (lv_at hl 0 rfl) ?_
    refine lv_iconst (v := 1) hx hb dX5_isZeroOrOne_5 (by decide) ?_
    refine lv_icmp_ne (tgt := 13) hx hb dX5_isZeroOrOne_6 (by decide) (fun c2 => ?_) (fun c2 => ?_)
    · refine lv_iconst (v := 0) hx hb dX5_isZeroOrOne_13 (by decide) ?_
      exact x_zret hE hr hlocks hI (by decide) (rI0 (fun q => q.elim c1 c2)) rfl rfl dX5_isZeroOrOne_14
    · refine lv_iconst (v := 1) hx hb dX5_isZeroOrOne_9 (by decide) ?_
      refine lv_goto (tgt := 14) hx hb dX5_isZeroOrOne_10 (by decide) ?_
      exact x_zret hE hr hlocks hI (by decide) (rI1 (Or.inr c2)) rfl rfl dX5_isZeroOrOne_14
set_option maxRecDepth 100000 in
set_option maxHeartbeats 4000000 in
theorem c_X5_areLotMasses (l : Launch) (G : GG) (o : Nat) (X : SX) (Y : SY) (a : Int32) (b : Int32) (c : Int32) (d : Int32) : Ct l yX5_areLotMasses cX5_areLotMasses 4 (some .boolean) 2 42 G o [.int a, .int b, .int c, .int d] X Y (some (.int (bI (MassOK a b c d)))) X Y := by
  refine Ct.mk (by decide +kernel) (Nat.le_of_ble_eq_true rfl) rfl ?_
  intro p9 e9 s9 m9 args9 below9 meth9 c9 hE hr hlocks hK hI ls hl
  have hx := hE.1
  have hb := hE.2.1
  have hl : lv_has ls 4 [(0, .int a), (1, .int b), (2, .int c), (3, .int d)] := hl
  refine lv_iload_n hx hb dX5_areLotMasses_0 rfl (lv_at hl 0 rfl) ?_
  refine x_callSi hE hK hI (c_X5_isLotMass l G o _ _ a ) mf_X5_isLotMass mw_300 rfl hl.1 rfl (Nat.le_of_ble_eq_true rfl) ⟨(Nat.le_of_ble_eq_true rfl), (Nat.le_of_ble_eq_true rfl)⟩ ⟨Nat.zero_le _, Nat.zero_le _⟩ dX5_areLotMasses_1 (fun H locs hI => ?_)
  refine lv_if_eq (tgt := 42) hx hb dX5_areLotMasses_4 (by decide) (fun c1 => ?_) (fun c1 => ?_)
  · have c1 := bI_eq0.mp c1
    refine lv_iconst (v := 0) hx hb dX5_areLotMasses_42 (by decide) ?_
    exact x_zret hE hr hlocks hI (by decide) (rI0 (fun q => c1 (q.1))) rfl rfl dX5_areLotMasses_43
  · have c1 := bI_ne0.mp c1
    refine lv_iload_n hx hb dX5_areLotMasses_7 rfl (lv_at hl 1 rfl) ?_
    refine x_callSi hE hK hI (c_X5_isLotMass l G o _ _ b ) mf_X5_isLotMass mw_300 rfl hl.1 rfl (Nat.le_of_ble_eq_true rfl) ⟨(Nat.le_of_ble_eq_true rfl), (Nat.le_of_ble_eq_true rfl)⟩ ⟨Nat.zero_le _, Nat.zero_le _⟩ dX5_areLotMasses_8 (fun H locs hI => ?_)
    refine lv_if_eq (tgt := 42) hx hb dX5_areLotMasses_11 (by decide) (fun c2 => ?_) (fun c2 => ?_)
    · have c2 := bI_eq0.mp c2
      refine lv_iconst (v := 0) hx hb dX5_areLotMasses_42 (by decide) ?_
      exact x_zret hE hr hlocks hI (by decide) (rI0 (fun q => c2 (q.2.1))) rfl rfl dX5_areLotMasses_43
    · have c2 := bI_ne0.mp c2
      refine lv_iload_n hx hb dX5_areLotMasses_14 rfl (lv_at hl 2 rfl) ?_
      refine x_callSi hE hK hI (c_X5_isLotMass l G o _ _ c ) mf_X5_isLotMass mw_300 rfl hl.1 rfl (Nat.le_of_ble_eq_true rfl) ⟨(Nat.le_of_ble_eq_true rfl), (Nat.le_of_ble_eq_true rfl)⟩ ⟨Nat.zero_le _, Nat.zero_le _⟩ dX5_areLotMasses_15 (fun H locs hI => ?_)
      refine lv_if_eq (tgt := 42) hx hb dX5_areLotMasses_18 (by decide) (fun c3 => ?_) (fun c3 => ?_)
      · have c3 := bI_eq0.mp c3
        refine lv_iconst (v := 0) hx hb dX5_areLotMasses_42 (by decide) ?_
        exact x_zret hE hr hlocks hI (by decide) (rI0 (fun q => c3 (q.2.2.1))) rfl rfl dX5_areLotMasses_43
      · have c3 := bI_ne0.mp c3
        refine lv_iload_n hx hb dX5_areLotMasses_21 rfl (lv_at hl 3 rfl) ?_
        refine x_callSi hE hK hI (c_X5_isLotMass l G o _ _ d ) mf_X5_isLotMass mw_300 rfl hl.1 rfl (Nat.le_of_ble_eq_true rfl) ⟨(Nat.le_of_ble_eq_true rfl), (Nat.le_of_ble_eq_true rfl)⟩ ⟨Nat.zero_le _, Nat.zero_le _⟩ dX5_areLotMasses_22 (fun H locs hI => ?_)
        refine lv_if_eq (tgt := 42) hx hb dX5_areLotMasses_25 (by decide) (fun c4 => ?_) (fun c4 => ?_)
        · have c4 := bI_eq0.mp c4
          refine lv_iconst (v := 0) hx hb dX5_areLotMasses_42 (by decide) ?_
          exact x_zret hE hr hlocks hI (by decide) (rI0 (fun q => c4 (q.2.2.2.1))) rfl rfl dX5_areLotMasses_43
        · have c4 := bI_ne0.mp c4
          refine lv_iload_n hx hb dX5_areLotMasses_28 rfl (lv_at hl 0 rfl) ?_
          refine lv_iload_n hx hb dX5_areLotMasses_29 rfl (lv_at hl 1 rfl) ?_
          refine lv_iadd hx hb dX5_areLotMasses_30 ?_
          refine lv_iload_n hx hb dX5_areLotMasses_31 rfl (lv_at hl 2 rfl) ?_
          refine lv_iadd hx hb dX5_areLotMasses_32 ?_
          refine lv_iload_n hx hb dX5_areLotMasses_33 rfl (lv_at hl 3 rfl) ?_
          refine lv_iadd hx hb dX5_areLotMasses_34 ?_
          refine lv_if_le (tgt := 42) hx hb dX5_areLotMasses_35 (by decide) (fun c5 => ?_) (fun c5 => ?_)
          · refine lv_iconst (v := 0) hx hb dX5_areLotMasses_42 (by decide) ?_
            exact x_zret hE hr hlocks hI (by decide) (rI0 (fun q => absurd (q.2.2.2.2) (Int32.not_lt.mpr c5))) rfl rfl dX5_areLotMasses_43
          · refine lv_iconst (v := 1) hx hb dX5_areLotMasses_38 (by decide) ?_
            refine lv_goto (tgt := 43) hx hb dX5_areLotMasses_39 (by decide) ?_
            exact x_zret hE hr hlocks hI (by decide) (rI1 ⟨c1, c2, c3, c4, Int32.not_le.mp c5⟩) rfl rfl dX5_areLotMasses_43
set_option maxRecDepth 100000 in
set_option maxHeartbeats 4000000 in
theorem c_X6_areMasses (l : Launch) (G : GG) (o : Nat) (X : SX) (Y : SY) (a : Int32) (b : Int32) (c : Int32) (d : Int32) : Ct l yX6_areMasses cX6_areMasses 4 (some .boolean) 2 42 G o [.int a, .int b, .int c, .int d] X Y (some (.int (bI (MassOK a b c d)))) X Y := by
  refine Ct.mk (by decide +kernel) (Nat.le_of_ble_eq_true rfl) rfl ?_
  intro p9 e9 s9 m9 args9 below9 meth9 c9 hE hr hlocks hK hI ls hl
  have hx := hE.1
  have hb := hE.2.1
  have hl : lv_has ls 4 [(0, .int a), (1, .int b), (2, .int c), (3, .int d)] := hl
  refine lv_iload_n hx hb dX6_areMasses_0 rfl (lv_at hl 0 rfl) ?_
  refine x_callSi hE hK hI (c_X6_isMass l G o _ _ a ) mf_X6_isMass mw_598 rfl hl.1 rfl (Nat.le_of_ble_eq_true rfl) ⟨(Nat.le_of_ble_eq_true rfl), (Nat.le_of_ble_eq_true rfl)⟩ ⟨Nat.zero_le _, Nat.zero_le _⟩ dX6_areMasses_1 (fun H locs hI => ?_)
  refine lv_if_eq (tgt := 42) hx hb dX6_areMasses_4 (by decide) (fun c1 => ?_) (fun c1 => ?_)
  · have c1 := bI_eq0.mp c1
    refine lv_iconst (v := 0) hx hb dX6_areMasses_42 (by decide) ?_
    exact x_zret hE hr hlocks hI (by decide) (rI0 (fun q => c1 (q.1))) rfl rfl dX6_areMasses_43
  · have c1 := bI_ne0.mp c1
    refine lv_iload_n hx hb dX6_areMasses_7 rfl (lv_at hl 1 rfl) ?_
    refine x_callSi hE hK hI (c_X6_isMass l G o _ _ b ) mf_X6_isMass mw_598 rfl hl.1 rfl (Nat.le_of_ble_eq_true rfl) ⟨(Nat.le_of_ble_eq_true rfl), (Nat.le_of_ble_eq_true rfl)⟩ ⟨Nat.zero_le _, Nat.zero_le _⟩ dX6_areMasses_8 (fun H locs hI => ?_)
    refine lv_if_eq (tgt := 42) hx hb dX6_areMasses_11 (by decide) (fun c2 => ?_) (fun c2 => ?_)
    · have c2 := bI_eq0.mp c2
      refine lv_iconst (v := 0) hx hb dX6_areMasses_42 (by decide) ?_
      exact x_zret hE hr hlocks hI (by decide) (rI0 (fun q => c2 (q.2.1))) rfl rfl dX6_areMasses_43
    · have c2 := bI_ne0.mp c2
      refine lv_iload_n hx hb dX6_areMasses_14 rfl (lv_at hl 2 rfl) ?_
      refine x_callSi hE hK hI (c_X6_isMass l G o _ _ c ) mf_X6_isMass mw_598 rfl hl.1 rfl (Nat.le_of_ble_eq_true rfl) ⟨(Nat.le_of_ble_eq_true rfl), (Nat.le_of_ble_eq_true rfl)⟩ ⟨Nat.zero_le _, Nat.zero_le _⟩ dX6_areMasses_15 (fun H locs hI => ?_)
      refine lv_if_eq (tgt := 42) hx hb dX6_areMasses_18 (by decide) (fun c3 => ?_) (fun c3 => ?_)
      · have c3 := bI_eq0.mp c3
        refine lv_iconst (v := 0) hx hb dX6_areMasses_42 (by decide) ?_
        exact x_zret hE hr hlocks hI (by decide) (rI0 (fun q => c3 (q.2.2.1))) rfl rfl dX6_areMasses_43
      · have c3 := bI_ne0.mp c3
        refine lv_iload_n hx hb dX6_areMasses_21 rfl (lv_at hl 3 rfl) ?_
        refine x_callSi hE hK hI (c_X6_isMass l G o _ _ d ) mf_X6_isMass mw_598 rfl hl.1 rfl (Nat.le_of_ble_eq_true rfl) ⟨(Nat.le_of_ble_eq_true rfl), (Nat.le_of_ble_eq_true rfl)⟩ ⟨Nat.zero_le _, Nat.zero_le _⟩ dX6_areMasses_22 (fun H locs hI => ?_)
        refine lv_if_eq (tgt := 42) hx hb dX6_areMasses_25 (by decide) (fun c4 => ?_) (fun c4 => ?_)
        · have c4 := bI_eq0.mp c4
          refine lv_iconst (v := 0) hx hb dX6_areMasses_42 (by decide) ?_
          exact x_zret hE hr hlocks hI (by decide) (rI0 (fun q => c4 (q.2.2.2.1))) rfl rfl dX6_areMasses_43
        · have c4 := bI_ne0.mp c4
          refine lv_iload_n hx hb dX6_areMasses_28 rfl (lv_at hl 0 rfl) ?_
          refine lv_iload_n hx hb dX6_areMasses_29 rfl (lv_at hl 1 rfl) ?_
          refine lv_iadd hx hb dX6_areMasses_30 ?_
          refine lv_iload_n hx hb dX6_areMasses_31 rfl (lv_at hl 2 rfl) ?_
          refine lv_iadd hx hb dX6_areMasses_32 ?_
          refine lv_iload_n hx hb dX6_areMasses_33 rfl (lv_at hl 3 rfl) ?_
          refine lv_iadd hx hb dX6_areMasses_34 ?_
          refine lv_if_le (tgt := 42) hx hb dX6_areMasses_35 (by decide) (fun c5 => ?_) (fun c5 => ?_)
          · refine lv_iconst (v := 0) hx hb dX6_areMasses_42 (by decide) ?_
            exact x_zret hE hr hlocks hI (by decide) (rI0 (fun q => absurd (q.2.2.2.2) (Int32.not_lt.mpr c5))) rfl rfl dX6_areMasses_43
          · refine lv_iconst (v := 1) hx hb dX6_areMasses_38 (by decide) ?_
            refine lv_goto (tgt := 43) hx hb dX6_areMasses_39 (by decide) ?_
            exact x_zret hE hr hlocks hI (by decide) (rI1 ⟨c1, c2, c3, c4, Int32.not_le.mp c5⟩) rfl rfl dX6_areMasses_43
set_option maxRecDepth 100000 in
set_option maxHeartbeats 4000000 in
theorem c_X5_isShareTo_y (l : Launch) (G : GG) (o : Nat) (X : SX) (Y : SY) (u : Int32) (v : Int32) (h : Wi u 0 3) : Ct l yX5_isShareTo cX5_isShareTo 2 (some .boolean) 2 42 G o [.int u, .int v] X Y (some (.int (bI (Wi v 0 10)))) X Y := by
  refine Ct.mk (by decide +kernel) (Nat.le_of_ble_eq_true rfl) rfl ?_
  intro p9 e9 s9 m9 args9 below9 meth9 c9 hE hr hlocks hK hI ls hl
  have hx := hE.1
  have hb := hE.2.1
  have hl : lv_has ls 2 [(0, .int u), (1, .int v)] := hl
  refine lv_iload_n hx hb dX5_isShareTo_0 rfl (lv_at hl 1 rfl) ?_
  refine lv_iconst (v := 0) hx hb dX5_isShareTo_1 (by decide) ?_
  refine lv_iload_n hx hb dX5_isShareTo_2 rfl (lv_at hl 0 rfl) ?_
  refine x_callSi hE hK hI (c_X5_isSize l G o _ _ u ) mf_X5_isSize mw_189 rfl hl.1 rfl (Nat.le_of_ble_eq_true rfl) ⟨(Nat.le_of_ble_eq_true rfl), (Nat.le_of_ble_eq_true rfl)⟩ ⟨Nat.zero_le _, Nat.zero_le _⟩ dX5_isShareTo_3 (fun H locs hI => ?_)
  refine lv_topi (fun z1 ez1 => ?_)
  obtain rfl : 1 = z1 := (ez1.trans (bI_t h)).symm
  refine lv_if_eq (tgt := 14) hx hb dX5_isShareTo_6 (by decide) (fun q => absurd q (by decide)) (fun _ => ?_)
  refine lv_bipush (v := 10) hx hb dX5_isShareTo_9 (by decide) ?_
  refine lv_goto (tgt := 15) hx hb dX5_isShareTo_11 (by decide) ?_
  refine x_callSi hE hK hI (c_X5_isWithin l G o _ _ v 0 10 ) mf_X5_isWithin mw_192 rfl hl.1 rfl (Nat.le_of_ble_eq_true rfl) ⟨(Nat.le_of_ble_eq_true rfl), (Nat.le_of_ble_eq_true rfl)⟩ ⟨Nat.zero_le _, Nat.zero_le _⟩ dX5_isShareTo_15 (fun H locs hI => ?_)
  exact x_zret hE hr hlocks hI bI_01 rfl rfl rfl dX5_isShareTo_18
set_option maxRecDepth 100000 in
set_option maxHeartbeats 4000000 in
theorem c_X5_isShareTo_n (l : Launch) (G : GG) (o : Nat) (X : SX) (Y : SY) (u : Int32) (v : Int32) (h : ¬ Wi u 0 3) : Ct l yX5_isShareTo cX5_isShareTo 2 (some .boolean) 2 42 G o [.int u, .int v] X Y (some (.int (bI (Wi v 0 0)))) X Y := by
  refine Ct.mk (by decide +kernel) (Nat.le_of_ble_eq_true rfl) rfl ?_
  intro p9 e9 s9 m9 args9 below9 meth9 c9 hE hr hlocks hK hI ls hl
  have hx := hE.1
  have hb := hE.2.1
  have hl : lv_has ls 2 [(0, .int u), (1, .int v)] := hl
  refine lv_iload_n hx hb dX5_isShareTo_0 rfl (lv_at hl 1 rfl) ?_
  refine lv_iconst (v := 0) hx hb dX5_isShareTo_1 (by decide) ?_
  refine lv_iload_n hx hb dX5_isShareTo_2 rfl (lv_at hl 0 rfl) ?_
  refine x_callSi hE hK hI (c_X5_isSize l G o _ _ u ) mf_X5_isSize mw_189 rfl hl.1 rfl (Nat.le_of_ble_eq_true rfl) ⟨(Nat.le_of_ble_eq_true rfl), (Nat.le_of_ble_eq_true rfl)⟩ ⟨Nat.zero_le _, Nat.zero_le _⟩ dX5_isShareTo_3 (fun H locs hI => ?_)
  refine lv_topi (fun z1 ez1 => ?_)
  obtain rfl : 0 = z1 := (ez1.trans (bI_f h)).symm
  refine lv_if_eq (tgt := 14) hx hb dX5_isShareTo_6 (by decide) (fun _ => ?_) (fun q => absurd (by decide) q)
  refine lv_iconst (v := 0) hx hb dX5_isShareTo_14 (by decide) ?_
  refine x_callSi hE hK hI (c_X5_isWithin l G o _ _ v 0 0 ) mf_X5_isWithin mw_192 rfl hl.1 rfl (Nat.le_of_ble_eq_true rfl) ⟨(Nat.le_of_ble_eq_true rfl), (Nat.le_of_ble_eq_true rfl)⟩ ⟨Nat.zero_le _, Nat.zero_le _⟩ dX5_isShareTo_15 (fun H locs hI => ?_)
  exact x_zret hE hr hlocks hI bI_01 rfl rfl rfl dX5_isShareTo_18
set_option maxRecDepth 100000 in
set_option maxHeartbeats 4000000 in
theorem c_X5_sum (l : Launch) (G : GG) (o : Nat) (X : SX) (Y : SY) (k : Nat) (h1 : ∀ (f : Nat → Int32) (g : Nat → Int64), shp G o k f g = .inl (G.2 0, 4, .inl f)) (h2 : k < 292) : Ct l yX5_sum cX5_sum 6 (some .int) 0 0 G o [.ref (o + k)] X Y (some (.int (sum4 (X k)))) X Y := by
  refine Ct.mk (by decide +kernel) (Nat.le_of_ble_eq_true rfl) rfl ?_
  intro p9 e9 s9 m9 args9 below9 meth9 c9 hE hr hlocks hK hI ls hl
  have hx := hE.1
  have hb := hE.2.1
  have hl : lv_has ls 6 [(0, .ref (o + k))] := hl
  refine lv_iconst (v := 0) hx hb dX5_sum_0 (by decide) ?_
  refine lv_istore_n (lv' := [(1, .int 0), (0, .ref (o + k))]) hx hb dX5_sum_1 rfl hl (by decide) rfl (fun ls hl => ?_)
  refine lv_aload_n hx hb dX5_sum_2 rfl (lv_at hl 1 rfl) ?_
  refine lv_astore_n (lv' := [(2, .ref (o + k)), (1, .int 0), (0, .ref (o + k))]) hx hb dX5_sum_3 rfl hl (by decide) rfl (fun ls hl => ?_)
  refine lv_aload_n hx hb dX5_sum_4 rfl (lv_at hl 0 rfl) ?_
  refine x_alen (k := k) (t0 := 0) (v := 4) hE hK hI h2 (h1 _ _) rfl rfl dX5_sum_5 ?_
  refine lv_istore_n (lv' := [(3, .int 4), (2, .ref (o + k)), (1, .int 0), (0, .ref (o + k))]) hx hb dX5_sum_6 rfl hl (by decide) rfl (fun ls hl => ?_)
  refine lv_iconst (v := 0) hx hb dX5_sum_7 (by decide) ?_
  refine lv_istore (lv' := [(4, .int 0), (3, .int 4), (2, .ref (o + k)), (1, .int 0), (0, .ref (o + k))]) hx hb dX5_sum_8 hl (by decide) rfl (fun ls hl => ?_)
  refine lv_iload hx hb dX5_sum_10 (lv_at hl 0 rfl) ?_
  refine lv_iload_n hx hb dX5_sum_12 rfl (lv_at hl 1 rfl) ?_
  refine lv_icmp_ge (tgt := 33) hx hb dX5_sum_13 (by decide) (fun q => absurd q (by decide)) (fun _ => ?_)
  refine lv_aload_n hx hb dX5_sum_16 rfl (lv_at hl 2 rfl) ?_
  refine lv_iload hx hb dX5_sum_17 (lv_at hl 0 rfl) ?_
  refine x_iald (k := k) (j := 0) hE hK hI h2 h1 (by decide) (by decide) rfl dX5_sum_19 ?_
  refine lv_istore (lv' := [(5, .int (X k 0)), (4, .int 0), (3, .int 4), (2, .ref (o + k)), (1, .int 0), (0, .ref (o + k))]) hx hb dX5_sum_20 hl (by decide) rfl (fun ls hl => ?_)
  refine lv_iload_n hx hb dX5_sum_22 rfl (lv_at hl 4 rfl) ?_
  refine lv_iload hx hb dX5_sum_23 (lv_at hl 0 rfl) ?_
  refine lv_iadd hx hb dX5_sum_25 ?_
  refine lv_istore_n (lv' := [(1, .int (0 + (X k 0))), (5, .int (X k 0)), (4, .int 0), (3, .int 4), (2, .ref (o + k)), (0, .ref (o + k))]) hx hb dX5_sum_26 rfl hl (by decide) rfl (fun ls hl => ?_)
  refine lv_iinc (v := 1) (lv' := [(4, .int 1), (1, .int (0 + (X k 0))), (5, .int (X k 0)), (3, .int 4), (2, .ref (o + k)), (0, .ref (o + k))]) hx hb dX5_sum_27 hl (k := 2) rfl (by decide) (by decide) rfl (fun ls hl => ?_)
  refine lv_goto (tgt := 10) hx hb dX5_sum_30 (by decide) ?_
  refine lv_iload hx hb dX5_sum_10 (lv_at hl 0 rfl) ?_
  refine lv_iload_n hx hb dX5_sum_12 rfl (lv_at hl 3 rfl) ?_
  refine lv_icmp_ge (tgt := 33) hx hb dX5_sum_13 (by decide) (fun q => absurd q (by decide)) (fun _ => ?_)
  refine lv_aload_n hx hb dX5_sum_16 rfl (lv_at hl 4 rfl) ?_
  refine lv_iload hx hb dX5_sum_17 (lv_at hl 0 rfl) ?_
  refine x_iald (k := k) (j := 1) hE hK hI h2 h1 (by decide) (by decide) rfl dX5_sum_19 ?_
  refine lv_istore (lv' := [(5, .int (X k 1)), (4, .int 1), (1, .int (0 + (X k 0))), (3, .int 4), (2, .ref (o + k)), (0, .ref (o + k))]) hx hb dX5_sum_20 hl (by decide) rfl (fun ls hl => ?_)
  refine lv_iload_n hx hb dX5_sum_22 rfl (lv_at hl 2 rfl) ?_
  refine lv_iload hx hb dX5_sum_23 (lv_at hl 0 rfl) ?_
  refine lv_iadd hx hb dX5_sum_25 ?_
  refine lv_istore_n (lv' := [(1, .int ((0 + (X k 0)) + (X k 1))), (5, .int (X k 1)), (4, .int 1), (3, .int 4), (2, .ref (o + k)), (0, .ref (o + k))]) hx hb dX5_sum_26 rfl hl (by decide) rfl (fun ls hl => ?_)
  refine lv_iinc (v := 2) (lv' := [(4, .int 2), (1, .int ((0 + (X k 0)) + (X k 1))), (5, .int (X k 1)), (3, .int 4), (2, .ref (o + k)), (0, .ref (o + k))]) hx hb dX5_sum_27 hl (k := 2) rfl (by decide) (by decide) rfl (fun ls hl => ?_)
  refine lv_goto (tgt := 10) hx hb dX5_sum_30 (by decide) ?_
  refine lv_iload hx hb dX5_sum_10 (lv_at hl 0 rfl) ?_
  refine lv_iload_n hx hb dX5_sum_12 rfl (lv_at hl 3 rfl) ?_
  refine lv_icmp_ge (tgt := 33) hx hb dX5_sum_13 (by decide) (fun q => absurd q (by decide)) (fun _ => ?_)
  refine lv_aload_n hx hb dX5_sum_16 rfl (lv_at hl 4 rfl) ?_
  refine lv_iload hx hb dX5_sum_17 (lv_at hl 0 rfl) ?_
  refine x_iald (k := k) (j := 2) hE hK hI h2 h1 (by decide) (by decide) rfl dX5_sum_19 ?_
  refine lv_istore (lv' := [(5, .int (X k 2)), (4, .int 2), (1, .int ((0 + (X k 0)) + (X k 1))), (3, .int 4), (2, .ref (o + k)), (0, .ref (o + k))]) hx hb dX5_sum_20 hl (by decide) rfl (fun ls hl => ?_)
  refine lv_iload_n hx hb dX5_sum_22 rfl (lv_at hl 2 rfl) ?_
  refine lv_iload hx hb dX5_sum_23 (lv_at hl 0 rfl) ?_
  refine lv_iadd hx hb dX5_sum_25 ?_
  refine lv_istore_n (lv' := [(1, .int (((0 + (X k 0)) + (X k 1)) + (X k 2))), (5, .int (X k 2)), (4, .int 2), (3, .int 4), (2, .ref (o + k)), (0, .ref (o + k))]) hx hb dX5_sum_26 rfl hl (by decide) rfl (fun ls hl => ?_)
  refine lv_iinc (v := 3) (lv' := [(4, .int 3), (1, .int (((0 + (X k 0)) + (X k 1)) + (X k 2))), (5, .int (X k 2)), (3, .int 4), (2, .ref (o + k)), (0, .ref (o + k))]) hx hb dX5_sum_27 hl (k := 2) rfl (by decide) (by decide) rfl (fun ls hl => ?_)
  refine lv_goto (tgt := 10) hx hb dX5_sum_30 (by decide) ?_
  refine lv_iload hx hb dX5_sum_10 (lv_at hl 0 rfl) ?_
  refine lv_iload_n hx hb dX5_sum_12 rfl (lv_at hl 3 rfl) ?_
  refine lv_icmp_ge (tgt := 33) hx hb dX5_sum_13 (by decide) (fun q => absurd q (by decide)) (fun _ => ?_)
  refine lv_aload_n hx hb dX5_sum_16 rfl (lv_at hl 4 rfl) ?_
  refine lv_iload hx hb dX5_sum_17 (lv_at hl 0 rfl) ?_
  refine x_iald (k := k) (j := 3) hE hK hI h2 h1 (by decide) (by decide) rfl dX5_sum_19 ?_
  refine lv_istore (lv' := [(5, .int (X k 3)), (4, .int 3), (1, .int (((0 + (X k 0)) + (X k 1)) + (X k 2))), (3, .int 4), (2, .ref (o + k)), (0, .ref (o + k))]) hx hb dX5_sum_20 hl (by decide) rfl (fun ls hl => ?_)
  refine lv_iload_n hx hb dX5_sum_22 rfl (lv_at hl 2 rfl) ?_
  refine lv_iload hx hb dX5_sum_23 (lv_at hl 0 rfl) ?_
  refine lv_iadd hx hb dX5_sum_25 ?_
  refine lv_istore_n (lv' := [(1, .int ((((0 + (X k 0)) + (X k 1)) + (X k 2)) + (X k 3))), (5, .int (X k 3)), (4, .int 3), (3, .int 4), (2, .ref (o + k)), (0, .ref (o + k))]) hx hb dX5_sum_26 rfl hl (by decide) rfl (fun ls hl => ?_)
  refine lv_iinc (v := 4) (lv' := [(4, .int 4), (1, .int ((((0 + (X k 0)) + (X k 1)) + (X k 2)) + (X k 3))), (5, .int (X k 3)), (3, .int 4), (2, .ref (o + k)), (0, .ref (o + k))]) hx hb dX5_sum_27 hl (k := 2) rfl (by decide) (by decide) rfl (fun ls hl => ?_)
  refine lv_goto (tgt := 10) hx hb dX5_sum_30 (by decide) ?_
  refine lv_iload hx hb dX5_sum_10 (lv_at hl 0 rfl) ?_
  refine lv_iload_n hx hb dX5_sum_12 rfl (lv_at hl 3 rfl) ?_
  refine lv_icmp_ge (tgt := 33) hx hb dX5_sum_13 (by decide) (fun _ => ?_) (fun q => absurd (by decide) q)
  refine lv_iload_n hx hb dX5_sum_33 rfl (lv_at hl 1 rfl) ?_
  exact x_iret hE hr hlocks hI rfl rfl rfl dX5_sum_34
