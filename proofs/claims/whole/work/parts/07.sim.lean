/-! ===== 07: the simulation ===== -/
def nxt (v : Int32) (pl cm : Nat → Int32) : Nat → Int32
  | 0 => v
  | k + 1 => if pl k = 0 then (if cm k < nxt v pl cm k then cm k else nxt v pl cm k) else nxt v pl cm k
def cntP (P : Nat → Prop) [DecidablePred P] : Nat → Nat
  | 0 => 0
  | k + 1 => if P k then cntP P k + 1 else cntP P k
def fndP (P : Nat → Prop) [DecidablePred P] : Nat → Nat → Option Nat
  | 0, _ => none
  | n + 1, i => if P i then some i else fndP P n (i + 1)
def oI (d : Int32) (q : Option Nat) : Int32 := match q with
  | none => d
  | some j => nI j
def fstN (B : Nat → Prop) (R : Nat → Nat → Prop) [DecidablePred B] [∀ a b, Decidable (R a b)] : Nat → Option Nat
  | 0 => none
  | k + 1 => match fstN B R k with
    | none => if B k then some k else none
    | some j => if B k then (if R k j then some k else some j) else some j
theorem fstN_lt {B : Nat → Prop} {R : Nat → Nat → Prop} [DecidablePred B] [∀ a b, Decidable (R a b)] : ∀ (k j : Nat), fstN B R k = some j → j < k
  | 0, j, h => by cases h
  | k + 1, j, h => by
    unfold fstN at h
    cases hq : fstN B R k with
    | none =>
      rw [hq] at h
      dsimp only at h
      split at h
      · cases h; omega
      · cases h
    | some i =>
      rw [hq] at h
      have hi := fstN_lt k i hq
      dsimp only at h
      split at h
      · split at h
        · cases h; omega
        · cases h; omega
      · cases h; omega
theorem nI_nm1 {j : Nat} (h : j < 2 ^ 31) : ¬ nI j = (-1) := fun q => nI_pos h (by rw [q]; decide)
def nxE (X : SX) (cnt : Nat) : Int32 := nxt (if X 11 5 = (-1) then 2147483647 else X 11 6) (fun q => X (14 + 2 * q) 1) (fun q => X (14 + 2 * q) 2) cnt
/-- the mill is idle, or its lot is one that was made -/
def GrI (X : SX) : Prop := X 11 5 = (-1) ∨ (0 ≤ X 11 5 ∧ X 11 5 < X 11 2)
theorem GrI.n {v w : Int32} (h : 0 ≤ v ∧ v < w) : ¬ v = (-1) := fun q => by
  rw [q] at h
  exact absurd h.1 (by decide)
theorem lot_ok {v : Int32} {j n : Nat} (hc : v = nI n) (h : j < n) (hn : n ≤ 40) : 0 ≤ nI j ∧ nI j < v := by
  rw [hc]
  exact ⟨nI_le (a := 0) (Nat.zero_le j) (by omega), Int32.not_le.mp (nI_ge h (by omega))⟩
theorem lot_no {w : Int32} : ¬ (0 ≤ (-1 : Int32) ∧ (-1) < w) := fun q => absurd q.1 (by decide)
abbrev pB (X : SX) (i : Nat) : Prop := X (14 + 2 * i) 1 = 1
abbrev bfX (X : SX) (r : Int32) (i j : Nat) : Prop := bef r (X (15 + 2 * i)) (X (14 + 2 * i) 3) (X (15 + 2 * j)) (X (14 + 2 * j) 3)
set_option maxRecDepth 100000 in
set_option maxHeartbeats 4000000 in
theorem c_X3_hasLot (l : Launch) (G : GG) (o : Nat) (X : SX) (Y : SY) (v : Int32) : Ct l yX3_hasLot cX3_hasLot 2 (some .boolean) 0 0 G o [.ref (o + 11), .int v] X Y (some (.int (bI (0 ≤ v ∧ v < X 11 2)))) X Y := by
  refine Ct.mk (by decide +kernel) (Nat.le_of_ble_eq_true rfl) rfl ?_
  intro p9 e9 s9 m9 args9 below9 meth9 c9 hE hr hlocks hK hI ls hl
  have hx := hE.1
  have hb := hE.2.1
  have hl : lv_has ls 2 [(0, .ref (o + 11)), (1, .int v)] := hl
  refine lv_iload_n hx hb dX3_hasLot_0 rfl (lv_at hl 1 rfl) ?_
  refine lv_if_lt (tgt := 16) hx hb dX3_hasLot_1 (by decide) (fun c1 => ?_) (fun c1 => ?_)
  · refine lv_iconst (v := 0) hx hb dX3_hasLot_16 (by decide) ?_
    exact x_zret hE hr hlocks hI (by decide) (rI0 (fun q => i32_nle c1 q.1)) rfl rfl dX3_hasLot_17
  · refine lv_iload_n hx hb dX3_hasLot_4 rfl (lv_at hl 1 rfl) ?_
    refine lv_aload_n hx hb dX3_hasLot_5 rfl (lv_at hl 0 rfl) ?_
    refine x_get (k := 11) hE hK hI (by decide) inG3 (e_11 G o _ _) rfl 2 (by decide) mw_106 rfl dX3_hasLot_6 ?_
    refine lv_icmp_ge (tgt := 16) hx hb dX3_hasLot_9 (by decide) (fun c2 => ?_) (fun c2 => ?_)
    · refine lv_iconst (v := 0) hx hb dX3_hasLot_16 (by decide) ?_
      exact x_zret hE hr hlocks hI (by decide) (rI0 (fun q => absurd q.2 (Int32.not_lt.mpr c2))) rfl rfl dX3_hasLot_17
    · refine lv_iconst (v := 1) hx hb dX3_hasLot_12 (by decide) ?_
      refine lv_goto (tgt := 17) hx hb dX3_hasLot_13 (by decide) ?_
      exact x_zret hE hr hlocks hI (by decide) (rI1 ⟨i32_le c1, Int32.not_le.mp c2⟩) rfl rfl dX3_hasLot_17
set_option maxRecDepth 100000 in
set_option maxHeartbeats 4000000 in
theorem c_X3_isIdle (l : Launch) (G : GG) (o : Nat) (X : SX) (Y : SY) (hG : GrI X) : Ct l yX3_isIdle cX3_isIdle 1 (some .boolean) 1 21 G o [.ref (o + 11)] X Y (some (.int (bI (X 11 5 = (-1))))) X Y := by
  refine Ct.mk (by decide +kernel) (Nat.le_of_ble_eq_true rfl) rfl ?_
  intro p9 e9 s9 m9 args9 below9 meth9 c9 hE hr hlocks hK hI ls hl
  have hx := hE.1
  have hb := hE.2.1
  have hl : lv_has ls 1 [(0, .ref (o + 11))] := hl
  refine lv_aload_n hx hb dX3_isIdle_0 rfl (lv_at hl 0 rfl) ?_
  refine lv_aload_n hx hb dX3_isIdle_1 rfl (lv_at hl 0 rfl) ?_
  refine x_get (k := 11) hE hK hI (by decide) inG3 (e_11 G o _ _) rfl 5 (by decide) mw_111 rfl dX3_isIdle_2 ?_
  refine x_callVi (k := 11) hE hK hI (c_X3_hasLot l G o _ _ (X 11 5) ) mf_X3_hasLot mw_323 (by decide) ((e_11 G o) _ _) rfl rfl hl.1 rfl (Nat.le_of_ble_eq_true rfl) ⟨(Nat.le_of_ble_eq_true rfl), (Nat.le_of_ble_eq_true rfl)⟩ ⟨Nat.zero_le _, Nat.zero_le _⟩ dX3_isIdle_5 (fun H locs hI => ?_)
  refine lv_if_ne (tgt := 15) hx hb dX3_isIdle_8 (by decide) (fun c1 => ?_) (fun c1 => ?_)
  · have c1 := bI_ne0.mp c1
    refine lv_iconst (v := 0) hx hb dX3_isIdle_15 (by decide) ?_
    exact x_zret hE hr hlocks hI (by decide) (rI0 (GrI.n c1)) rfl rfl dX3_isIdle_16
  · have c1 := bI_eq0.mp c1
    refine lv_iconst (v := 1) hx hb dX3_isIdle_11 (by decide) ?_
    refine lv_goto (tgt := 16) hx hb dX3_isIdle_12 (by decide) ?_
    exact x_zret hE hr hlocks hI (by decide) (rI1 (hG.resolve_right c1)) rfl rfl dX3_isIdle_16
set_option maxRecDepth 100000 in
set_option maxHeartbeats 4000000 in
theorem c_X3_minutesToGrind (l : Launch) (G : GG) (o : Nat) (X : SX) (Y : SY) (m : Int32) (r : Int32) (h : 1 ≤ r) : Ct l yX3_minutesToGrind cX3_minutesToGrind 3 (some .int) 1 23 G o [.int m, .int r] X Y (some (.int (((m + r) - 1) / r))) X Y := by
  refine Ct.mk (by decide +kernel) (Nat.le_of_ble_eq_true rfl) rfl ?_
  intro p9 e9 s9 m9 args9 below9 meth9 c9 hE hr hlocks hK hI ls hl
  have hx := hE.1
  have hb := hE.2.1
  have hl : lv_has ls 3 [(0, .int m), (1, .int r)] := hl
  refine lv_iconst (v := 1) hx hb dX3_minutesToGrind_0 (by decide) ?_
  refine lv_iload_n hx hb dX3_minutesToGrind_1 rfl (lv_at hl 1 rfl) ?_
  refine va_mmax hx hb (hE.2.2.1.trans hl.1.symm) hE.2.2.2.1 (hE.2.2.2.2 _ mw_341) (hE.2.2.2.2 _ mw_342) (hE.2.2.2.2 _ mw_8) (hE.2.2.2.2 _ mw_343) (Nat.le_of_ble_eq_true rfl) (Nat.le_of_ble_eq_true rfl) (Nat.le_of_ble_eq_true rfl) (Nat.le_of_ble_eq_true rfl) dX3_minutesToGrind_2 ?_
  refine lv_topi (fun z1 ez1 => ?_)
  obtain rfl : r = z1 := (ez1.trans (i32_max h)).symm
  refine lv_istore_n (lv' := [(2, .int r), (0, .int m), (1, .int r)]) hx hb dX3_minutesToGrind_5 rfl hl (by decide) rfl (fun ls hl => ?_)
  refine lv_iload_n hx hb dX3_minutesToGrind_6 rfl (lv_at hl 1 rfl) ?_
  refine lv_iload_n hx hb dX3_minutesToGrind_7 rfl (lv_at hl 0 rfl) ?_
  refine lv_iadd hx hb dX3_minutesToGrind_8 ?_
  refine lv_iconst (v := 1) hx hb dX3_minutesToGrind_9 (by decide) ?_
  refine lv_isub hx hb dX3_minutesToGrind_10 ?_
  refine lv_iload_n hx hb dX3_minutesToGrind_11 rfl (lv_at hl 0 rfl) ?_
  refine lv_idiv hx hb dX3_minutesToGrind_12 (i32_n0 h) ?_
  exact x_iret hE hr hlocks hI rfl rfl rfl dX3_minutesToGrind_13
set_option maxRecDepth 100000 in
set_option maxHeartbeats 4000000 in
theorem c_X3_create_f (l : Launch) (G : GG) (o : Nat) (X : SX) (Y : SY) (a : Int32) (b : Int32) (c : Int32) (d : Int32) (h : 40 ≤ X 11 2) : Ct l yX3_create cX3_create 7 (some .int) 0 0 G o [.ref (o + 11), .int a, .int b, .int c, .int d] X Y (some (.int (-1))) X Y := by
  refine Ct.mk (by decide +kernel) (Nat.le_of_ble_eq_true rfl) rfl ?_
  intro p9 e9 s9 m9 args9 below9 meth9 c9 hE hr hlocks hK hI ls hl
  have hx := hE.1
  have hb := hE.2.1
  have hl : lv_has ls 7 [(0, .ref (o + 11)), (1, .int a), (2, .int b), (3, .int c), (4, .int d)] := hl
  refine lv_aload_n hx hb dX3_create_0 rfl (lv_at hl 0 rfl) ?_
  refine x_get (k := 11) hE hK hI (by decide) inG3 (e_11 G o _ _) rfl 2 (by decide) mw_106 rfl dX3_create_1 ?_
  refine lv_bipush (v := 40) hx hb dX3_create_4 (by decide) ?_
  refine lv_icmp_lt (tgt := 11) hx hb dX3_create_6 (by decide) (fun q => absurd q (Int32.not_lt.mpr h)) (fun _ => ?_)
  refine lv_iconst (v := (-1)) hx hb dX3_create_9 (by decide) ?_
  exact x_iret hE hr hlocks hI rfl rfl rfl dX3_create_10
def crX (X : SX) (a : Int32) (b : Int32) (c : Int32) (d : Int32) (n : Nat) : SX := sx (sx (sx (sx (sx (sx X (15 + 2 * n) 0 a) (15 + 2 * n) 1 b) (15 + 2 * n) 2 c) (15 + 2 * n) 3 d) (14 + 2 * n) 4 0) 11 2 (nI (n + 1))
set_option maxRecDepth 100000 in
set_option maxHeartbeats 4000000 in
theorem c_X3_create (l : Launch) (G : GG) (o : Nat) (X : SX) (Y : SY) (a : Int32) (b : Int32) (c : Int32) (d : Int32) (n : Nat) (hc : X 11 2 = nI n) (h_n : n < 40) : Ct l yX3_create cX3_create 7 (some .int) 0 0 G o [.ref (o + 11), .int a, .int b, .int c, .int d] X Y (some (.int (nI n))) (crX X a b c d n) Y := by
  refine Ct.mk (by decide +kernel) (Nat.le_of_ble_eq_true rfl) rfl ?_
  intro p9 e9 s9 m9 args9 below9 meth9 c9 hE hr hlocks hK hI ls hl
  have hx := hE.1
  have hb := hE.2.1
  have hl : lv_has ls 7 [(0, .ref (o + 11)), (1, .int a), (2, .int b), (3, .int c), (4, .int d)] := hl
  refine lv_aload_n hx hb dX3_create_0 rfl (lv_at hl 0 rfl) ?_
  refine x_get (k := 11) hE hK hI (by decide) inG3 (e_11 G o _ _) rfl 2 (by decide) mw_106 rfl dX3_create_1 ?_
  refine lv_topi (fun z1 ez1 => ?_)
  obtain rfl : nI n = z1 := (ez1.trans (hc)).symm
  refine lv_bipush (v := 40) hx hb dX3_create_4 (by decide) ?_
  refine lv_icmp_lt (tgt := 11) hx hb dX3_create_6 (by decide) (fun _ => ?_) (fun q => absurd (Int32.not_le.mp (nI_ge (b := 40) h_n (by decide))) q)
  refine lv_aload_n hx hb dX3_create_11 rfl (lv_at hl 0 rfl) ?_
  refine x_get (k := 11) hE hK hI (by decide) inG3 (e_11 G o _ _) rfl 2 (by decide) mw_106 rfl dX3_create_12 ?_
  refine lv_topi (fun z2 ez2 => ?_)
  obtain rfl : nI n = z2 := (ez2.trans (hc)).symm
  refine lv_istore (lv' := [(5, .int (nI n)), (0, .ref (o + 11)), (1, .int a), (2, .int b), (3, .int c), (4, .int d)]) hx hb dX3_create_15 hl (by decide) rfl (fun ls hl => ?_)
  refine lv_aload_n hx hb dX3_create_17 rfl (lv_at hl 1 rfl) ?_
  refine x_get (k := 11) hE hK hI (by decide) inG3 (e_11 G o _ _) rfl 0 (by decide) mw_102 rfl dX3_create_18 ?_
  refine lv_iload hx hb dX3_create_21 (lv_at hl 0 rfl) ?_
  refine x_aald (k := 12) (j := n) (t0 := 3) (q := o + (14 + 2 * n)) hE hK hI (by decide) (e_12 G o) rfl rfl h_n (by decide) rfl (ql_14 h_n) dX3_create_23 ?_
  refine lv_astore (lv' := [(6, .ref (o + (14 + 2 * n))), (5, .int (nI n)), (0, .ref (o + 11)), (1, .int a), (2, .int b), (3, .int c), (4, .int d)]) hx hb dX3_create_24 hl (by decide) rfl (fun ls hl => ?_)
  refine lv_aload hx hb dX3_create_26 (lv_at hl 0 rfl) ?_
  refine x_get (k := (14 + 2 * n)) hE hK hI (by have := h_n; omega) inG0 (el_14 G o h_n _ _) rfl 0 (by decide) mw_79 rfl dX3_create_28 ?_
  refine lv_iconst (v := 0) hx hb dX3_create_31 (by decide) ?_
  refine lv_iload_n hx hb dX3_create_32 rfl (lv_at hl 3 rfl) ?_
  refine x_iast (k := (15 + 2 * n)) (j := 0) hE hK hI (by have := h_n; omega) (em_14 G o h_n) (by decide) (by decide) rfl dX3_create_33 (fun H locs hI => ?_)
  refine lv_aload hx hb dX3_create_34 (lv_at hl 0 rfl) ?_
  refine x_get (k := (14 + 2 * n)) hE hK hI (by have := h_n; omega) inG0 (el_14 G o h_n _ _) rfl 0 (by decide) mw_79 rfl dX3_create_36 ?_
  refine lv_iconst (v := 1) hx hb dX3_create_39 (by decide) ?_
  refine lv_iload_n hx hb dX3_create_40 rfl (lv_at hl 4 rfl) ?_
  refine x_iast (k := (15 + 2 * n)) (j := 1) hE hK hI (by have := h_n; omega) (em_14 G o h_n) (by decide) (by decide) rfl dX3_create_41 (fun H locs hI => ?_)
  refine lv_aload hx hb dX3_create_42 (lv_at hl 0 rfl) ?_
  refine x_get (k := (14 + 2 * n)) hE hK hI (by have := h_n; omega) inG0 (el_14 G o h_n _ _) rfl 0 (by decide) mw_79 rfl dX3_create_44 ?_
  refine lv_iconst (v := 2) hx hb dX3_create_47 (by decide) ?_
  refine lv_iload_n hx hb dX3_create_48 rfl (lv_at hl 5 rfl) ?_
  refine x_iast (k := (15 + 2 * n)) (j := 2) hE hK hI (by have := h_n; omega) (em_14 G o h_n) (by decide) (by decide) rfl dX3_create_49 (fun H locs hI => ?_)
  refine lv_aload hx hb dX3_create_50 (lv_at hl 0 rfl) ?_
  refine x_get (k := (14 + 2 * n)) hE hK hI (by have := h_n; omega) inG0 (el_14 G o h_n _ _) rfl 0 (by decide) mw_79 rfl dX3_create_52 ?_
  refine lv_iconst (v := 3) hx hb dX3_create_55 (by decide) ?_
  refine lv_iload hx hb dX3_create_56 (lv_at hl 6 rfl) ?_
  refine x_iast (k := (15 + 2 * n)) (j := 3) hE hK hI (by have := h_n; omega) (em_14 G o h_n) (by decide) (by decide) rfl dX3_create_58 (fun H locs hI => ?_)
  refine lv_aload hx hb dX3_create_59 (lv_at hl 0 rfl) ?_
  refine lv_iconst (v := 0) hx hb dX3_create_61 (by decide) ?_
  refine x_puti (k := (14 + 2 * n)) hE hK hI (by have := h_n; omega) inG0 tyX0 tyX0_ok nmX0 (el_14 G o h_n) rfl 4 (by decide) mw_89 rfl (by decide +kernel) (by exact Nat.le_of_ble_eq_true rfl) rfl dX3_create_62 (fun H locs hI => ?_)
  refine lv_aload_n hx hb dX3_create_65 rfl (lv_at hl 2 rfl) ?_
  refine lv_dup hx hb dX3_create_66 rfl ?_
  refine x_get (k := 11) hE hK hI (by decide) inG3 (e_11 G o _ _) rfl 2 (by decide) mw_106 rfl dX3_create_67 ?_
  refine lv_topi (fun z3 ez3 => ?_)
  obtain rfl : nI n = z3 := (ez3.trans ((sx_o (by omega)).trans ((sx_o (by omega)).trans ((sx_o (by omega)).trans ((sx_o (by omega)).trans ((sx_o (by omega)).trans (hc))))))).symm
  refine lv_iconst (v := 1) hx hb dX3_create_70 (by decide) ?_
  refine lv_iadd hx hb dX3_create_71 ?_
  refine lv_topi (fun z4 ez4 => ?_)
  obtain rfl : nI (n + 1) = z4 := (ez4.trans (nI_add n 1)).symm
  refine x_puti (k := 11) hE hK hI (by decide) inG3 tyX3 tyX3_ok nmX3 (e_11 G o) rfl 2 (by decide) mw_106 rfl (by decide +kernel) (by exact Nat.le_of_ble_eq_true rfl) rfl dX3_create_72 (fun H locs hI => ?_)
  refine lv_iload hx hb dX3_create_75 (lv_at hl 1 rfl) ?_
  exact x_iret hE hr hlocks hI rfl rfl rfl dX3_create_77
set_option maxRecDepth 100000 in
set_option maxHeartbeats 4000000 in
theorem c_X3_plan (l : Launch) (G : GG) (o : Nat) (X : SX) (Y : SY) (i : Nat) (v : Int32) (h_i : i < 40) : Ct l yX3_plan cX3_plan 3 none 0 0 G o [.ref (o + 11), .ref (o + (14 + 2 * i)), .int v] X Y none (sx (sx X (14 + 2 * i) 1 0) (14 + 2 * i) 2 ((X 11 3) + v)) Y := by
  refine Ct.mk (by decide +kernel) (Nat.le_of_ble_eq_true rfl) rfl ?_
  intro p9 e9 s9 m9 args9 below9 meth9 c9 hE hr hlocks hK hI ls hl
  have hx := hE.1
  have hb := hE.2.1
  have hl : lv_has ls 3 [(0, .ref (o + 11)), (1, .ref (o + (14 + 2 * i))), (2, .int v)] := hl
  refine lv_aload_n hx hb dX3_plan_0 rfl (lv_at hl 1 rfl) ?_
  refine lv_iconst (v := 0) hx hb dX3_plan_1 (by decide) ?_
  refine x_puti (k := (14 + 2 * i)) hE hK hI (by have := h_i; omega) inG0 tyX0 tyX0_ok nmX0 (el_14 G o h_i) rfl 1 (by decide) mw_82 rfl (by decide +kernel) (by exact Nat.le_of_ble_eq_true rfl) rfl dX3_plan_2 (fun H locs hI => ?_)
  refine lv_aload_n hx hb dX3_plan_5 rfl (lv_at hl 1 rfl) ?_
  refine lv_aload_n hx hb dX3_plan_6 rfl (lv_at hl 0 rfl) ?_
  refine x_get (k := 11) hE hK hI (by decide) inG3 (e_11 G o _ _) rfl 3 (by decide) mw_108 rfl dX3_plan_7 ?_
  refine lv_topi (fun z1 ez1 => ?_)
  obtain rfl : X 11 3 = z1 := (ez1.trans ((sx_o (by omega)))).symm
  refine lv_iload_n hx hb dX3_plan_10 rfl (lv_at hl 2 rfl) ?_
  refine lv_iadd hx hb dX3_plan_11 ?_
  refine x_puti (k := (14 + 2 * i)) hE hK hI (by have := h_i; omega) inG0 tyX0 tyX0_ok nmX0 (el_14 G o h_i) rfl 2 (by decide) mw_85 rfl (by decide +kernel) (by exact Nat.le_of_ble_eq_true rfl) rfl dX3_plan_12 (fun H locs hI => ?_)
  exact x_vret hE hr hlocks hI rfl rfl rfl dX3_plan_15
def pbX (X : SX) (i : Nat) : SX := sx (sx (sx X (14 + 2 * i) 1 1) (14 + 2 * i) 3 (X 11 4)) 11 4 ((X 11 4) + 1)
set_option maxRecDepth 100000 in
set_option maxHeartbeats 4000000 in
theorem c_X3_putIntoBin (l : Launch) (G : GG) (o : Nat) (X : SX) (Y : SY) (i : Nat) (h_i : i < 40) : Ct l yX3_putIntoBin cX3_putIntoBin 2 none 0 0 G o [.ref (o + 11), .ref (o + (14 + 2 * i))] X Y none (pbX X i) Y := by
  refine Ct.mk (by decide +kernel) (Nat.le_of_ble_eq_true rfl) rfl ?_
  intro p9 e9 s9 m9 args9 below9 meth9 c9 hE hr hlocks hK hI ls hl
  have hx := hE.1
  have hb := hE.2.1
  have hl : lv_has ls 2 [(0, .ref (o + 11)), (1, .ref (o + (14 + 2 * i)))] := hl
  refine lv_aload_n hx hb dX3_putIntoBin_0 rfl (lv_at hl 1 rfl) ?_
  refine lv_iconst (v := 1) hx hb dX3_putIntoBin_1 (by decide) ?_
  refine x_puti (k := (14 + 2 * i)) hE hK hI (by have := h_i; omega) inG0 tyX0 tyX0_ok nmX0 (el_14 G o h_i) rfl 1 (by decide) mw_82 rfl (by decide +kernel) (by exact Nat.le_of_ble_eq_true rfl) rfl dX3_putIntoBin_2 (fun H locs hI => ?_)
  refine lv_aload_n hx hb dX3_putIntoBin_5 rfl (lv_at hl 1 rfl) ?_
  refine lv_aload_n hx hb dX3_putIntoBin_6 rfl (lv_at hl 0 rfl) ?_
  refine x_get (k := 11) hE hK hI (by decide) inG3 (e_11 G o _ _) rfl 4 (by decide) mw_110 rfl dX3_putIntoBin_7 ?_
  refine lv_topi (fun z1 ez1 => ?_)
  obtain rfl : X 11 4 = z1 := (ez1.trans ((sx_o (by omega)))).symm
  refine x_puti (k := (14 + 2 * i)) hE hK hI (by have := h_i; omega) inG0 tyX0 tyX0_ok nmX0 (el_14 G o h_i) rfl 3 (by decide) mw_87 rfl (by decide +kernel) (by exact Nat.le_of_ble_eq_true rfl) rfl dX3_putIntoBin_10 (fun H locs hI => ?_)
  refine lv_aload_n hx hb dX3_putIntoBin_13 rfl (lv_at hl 0 rfl) ?_
  refine lv_dup hx hb dX3_putIntoBin_14 rfl ?_
  refine x_get (k := 11) hE hK hI (by decide) inG3 (e_11 G o _ _) rfl 4 (by decide) mw_110 rfl dX3_putIntoBin_15 ?_
  refine lv_topi (fun z2 ez2 => ?_)
  obtain rfl : X 11 4 = z2 := (ez2.trans ((sx_o (by omega)).trans ((sx_o (by omega))))).symm
  refine lv_iconst (v := 1) hx hb dX3_putIntoBin_18 (by decide) ?_
  refine lv_iadd hx hb dX3_putIntoBin_19 ?_
  refine x_puti (k := 11) hE hK hI (by decide) inG3 tyX3 tyX3_ok nmX3 (e_11 G o) rfl 4 (by decide) mw_110 rfl (by decide +kernel) (by exact Nat.le_of_ble_eq_true rfl) rfl dX3_putIntoBin_20 (fun H locs hI => ?_)
  exact x_vret hE hr hlocks hI rfl rfl rfl dX3_putIntoBin_23
set_option maxRecDepth 100000 in
set_option maxHeartbeats 4000000 in
theorem lp_X3_nextEvent (l : Launch) (G : GG) (o : Nat) (X : SX) (Y : SY) (cnt : Nat) (hc : X 11 2 = nI cnt) (h40 : cnt ≤ 40) {p9 : Program} {e9 : Env} {s9 : State} {m9 : MethodId} {args9 : Array Value} {below9 : List Frame} {meth9 : Method} {c9 : Code} (hE : gE p9 m9 c9 cX3_nextEvent 4 s9 args9 yX3_nextEvent.cls) (hr : meth9.sig.returnType = (some .int)) (hlocks : meth9.locks = false) (hK : KK G s9) :
    ∀ (n : Nat) (i : Nat), i + n = cnt → ∀ (H : Heap) (locs : List Loc), In G o X Y s9.heap H locs → ∀ ls : Array Slot, lv_has ls 4 [(0, .ref (o + 11)), (1, .int (nxt (if X 11 5 = (-1) then 2147483647 else X 11 6) (fun q => X (14 + 2 * q) 1) (fun q => X (14 + 2 * q) 2) i)), (2, .int (nI i))] → W p9 l e9 (Rm 2 41) s9 m9 args9 below9 meth9 c9 H locs 0 0 (MQ below9 (Qw G o (some (.int (nxE X cnt))) X Y) args9 s9 0 0 (rg o)) (F0 m9 19 ls []) := by
  have hx := hE.1
  have hb := hE.2.1
  intro n
  induction n with
  | zero =>
    intro i hi H locs hI ls hl
    have ei : i = cnt := by omega
    refine lv_iload_n hx hb dX3_nextEvent_19 rfl (lv_at hl 2 rfl) ?_
    refine lv_aload_n hx hb dX3_nextEvent_20 rfl (lv_at hl 0 rfl) ?_
    refine x_get (k := 11) hE hK hI (by decide) inG3 (e_11 G o _ _) rfl 2 (by decide) mw_106 rfl dX3_nextEvent_21 ?_
    refine lv_topi (fun z1 ez1 => ?_)
    obtain rfl : nI cnt = z1 := (ez1.trans (hc)).symm
    refine lv_icmp_ge (tgt := 56) hx hb dX3_nextEvent_24 (by decide) (fun _ => ?_) (fun q => absurd (nI_le (by omega) (by omega)) q)
    refine lv_iload_n hx hb dX3_nextEvent_56 rfl (lv_at hl 1 rfl) ?_
    exact x_iret hE hr hlocks hI (congrArg (fun q => some (Value.int (nxE X q))) ei.symm) rfl rfl dX3_nextEvent_57
  | succ n ih =>
    intro i hi H locs hI ls hl
    have h_i : i < 40 := by omega
    refine lv_iload_n hx hb dX3_nextEvent_19 rfl (lv_at hl 2 rfl) ?_
    refine lv_aload_n hx hb dX3_nextEvent_20 rfl (lv_at hl 0 rfl) ?_
    refine x_get (k := 11) hE hK hI (by decide) inG3 (e_11 G o _ _) rfl 2 (by decide) mw_106 rfl dX3_nextEvent_21 ?_
    refine lv_topi (fun z1 ez1 => ?_)
    obtain rfl : nI cnt = z1 := (ez1.trans (hc)).symm
    refine lv_icmp_ge (tgt := 56) hx hb dX3_nextEvent_24 (by decide) (fun q => absurd q (nI_ge (by omega) (by omega))) (fun _ => ?_)
    refine lv_aload_n hx hb dX3_nextEvent_27 rfl (lv_at hl 0 rfl) ?_
    refine x_get (k := 11) hE hK hI (by decide) inG3 (e_11 G o _ _) rfl 0 (by decide) mw_102 rfl dX3_nextEvent_28 ?_
    refine lv_iload_n hx hb dX3_nextEvent_31 rfl (lv_at hl 2 rfl) ?_
    refine x_aald (k := 12) (j := i) (t0 := 3) (q := o + (14 + 2 * i)) hE hK hI (by decide) (e_12 G o) rfl rfl h_i (by decide) rfl (ql_14 h_i) dX3_nextEvent_32 ?_
    refine lv_astore_n (lv' := [(3, .ref (o + (14 + 2 * i))), (0, .ref (o + 11)), (1, .int (nxt (if X 11 5 = (-1) then 2147483647 else X 11 6) (fun q => X (14 + 2 * q) 1) (fun q => X (14 + 2 * q) 2) i)), (2, .int (nI i))]) hx hb dX3_nextEvent_33 rfl hl (by decide) rfl (fun ls hl => ?_)
    refine lv_aload_n hx hb dX3_nextEvent_34 rfl (lv_at hl 0 rfl) ?_
    refine x_get (k := (14 + 2 * i)) hE hK hI (by have := h_i; omega) inG0 (el_14 G o h_i _ _) rfl 1 (by decide) mw_82 rfl dX3_nextEvent_35 ?_
    refine lv_if_ne (tgt := 50) hx hb dX3_nextEvent_38 (by decide) (fun c2 => ?_) (fun c2 => ?_)
    · refine lv_iinc (v := nI (i + 1)) (lv' := [(2, .int (nI (i + 1))), (3, .ref (o + (14 + 2 * i))), (0, .ref (o + 11)), (1, .int (nxt (if X 11 5 = (-1) then 2147483647 else X 11 6) (fun q => X (14 + 2 * q) 1) (fun q => X (14 + 2 * q) 2) i))]) hx hb dX3_nextEvent_50 hl (k := 3) rfl (nI_add i 1) (by decide) rfl (fun ls hl => ?_)
      refine lv_goto (tgt := 19) hx hb dX3_nextEvent_53 (by decide) ?_
      have ih' := ih (i + 1) (by omega) H locs hI ls
      rw [show nxt (if X 11 5 = (-1) then 2147483647 else X 11 6) (fun q => X (14 + 2 * q) 1) (fun q => X (14 + 2 * q) 2) (i + 1) = nxt (if X 11 5 = (-1) then 2147483647 else X 11 6) (fun q => X (14 + 2 * q) 1) (fun q => X (14 + 2 * q) 2) i from if_neg c2] at ih'
      exact ih' (lv_sub hl [2, 3, 0] rfl)
    · refine lv_iload_n hx hb dX3_nextEvent_41 rfl (lv_at hl 2 rfl) ?_
      refine lv_aload_n hx hb dX3_nextEvent_42 rfl (lv_at hl 0 rfl) ?_
      refine x_get (k := (14 + 2 * i)) hE hK hI (by have := h_i; omega) inG0 (el_14 G o h_i _ _) rfl 2 (by decide) mw_85 rfl dX3_nextEvent_43 ?_
      refine va_mmin hx hb (hE.2.2.1.trans hl.1.symm) hE.2.2.2.1 (hE.2.2.2.2 _ mw_365) (hE.2.2.2.2 _ mw_366) (hE.2.2.2.2 _ mw_8) (hE.2.2.2.2 _ mw_367) (Nat.le_of_ble_eq_true rfl) (Nat.le_of_ble_eq_true rfl) (Nat.le_of_ble_eq_true rfl) (Nat.le_of_ble_eq_true rfl) dX3_nextEvent_46 ?_
      refine lv_istore_n (lv' := [(1, .int (if X (14 + 2 * i) 2 < nxt (if X 11 5 = (-1) then 2147483647 else X 11 6) (fun q => X (14 + 2 * q) 1) (fun q => X (14 + 2 * q) 2) i then X (14 + 2 * i) 2 else nxt (if X 11 5 = (-1) then 2147483647 else X 11 6) (fun q => X (14 + 2 * q) 1) (fun q => X (14 + 2 * q) 2) i)), (3, .ref (o + (14 + 2 * i))), (0, .ref (o + 11)), (2, .int (nI i))]) hx hb dX3_nextEvent_49 rfl hl (by decide) rfl (fun ls hl => ?_)
      refine lv_iinc (v := nI (i + 1)) (lv' := [(2, .int (nI (i + 1))), (1, .int (if X (14 + 2 * i) 2 < nxt (if X 11 5 = (-1) then 2147483647 else X 11 6) (fun q => X (14 + 2 * q) 1) (fun q => X (14 + 2 * q) 2) i then X (14 + 2 * i) 2 else nxt (if X 11 5 = (-1) then 2147483647 else X 11 6) (fun q => X (14 + 2 * q) 1) (fun q => X (14 + 2 * q) 2) i)), (3, .ref (o + (14 + 2 * i))), (0, .ref (o + 11))]) hx hb dX3_nextEvent_50 hl (k := 3) rfl (nI_add i 1) (by decide) rfl (fun ls hl => ?_)
      refine lv_goto (tgt := 19) hx hb dX3_nextEvent_53 (by decide) ?_
      have ih' := ih (i + 1) (by omega) H locs hI ls
      rw [show nxt (if X 11 5 = (-1) then 2147483647 else X 11 6) (fun q => X (14 + 2 * q) 1) (fun q => X (14 + 2 * q) 2) (i + 1) = if X (14 + 2 * i) 2 < nxt (if X 11 5 = (-1) then 2147483647 else X 11 6) (fun q => X (14 + 2 * q) 1) (fun q => X (14 + 2 * q) 2) i then X (14 + 2 * i) 2 else nxt (if X 11 5 = (-1) then 2147483647 else X 11 6) (fun q => X (14 + 2 * q) 1) (fun q => X (14 + 2 * q) 2) i from if_pos c2] at ih'
      exact ih' (lv_sub hl [3, 1, 0] rfl)
set_option maxRecDepth 100000 in
set_option maxHeartbeats 4000000 in
theorem c_X3_nextEvent (l : Launch) (G : GG) (o : Nat) (X : SX) (Y : SY) (cnt : Nat) (hc : X 11 2 = nI cnt) (h40 : cnt ≤ 40) (hG : GrI X) : Ct l yX3_nextEvent cX3_nextEvent 4 (some .int) 2 41 G o [.ref (o + 11)] X Y (some (.int (nxE X cnt))) X Y := by
  refine Ct.mk (by decide +kernel) (Nat.le_of_ble_eq_true rfl) rfl ?_
  intro p9 e9 s9 m9 args9 below9 meth9 c9 hE hr hlocks hK hI ls hl
  have hx := hE.1
  have hb := hE.2.1
  have hl : lv_has ls 4 [(0, .ref (o + 11))] := hl
  refine lv_aload_n hx hb dX3_nextEvent_0 rfl (lv_at hl 0 rfl) ?_
  refine x_callVi (k := 11) hE hK hI (c_X3_isIdle l G o _ _  hG) mf_X3_isIdle mw_319 (by decide) ((e_11 G o) _ _) rfl rfl hl.1 rfl (Nat.le_of_ble_eq_true rfl) ⟨(Nat.le_of_ble_eq_true rfl), (Nat.le_of_ble_eq_true rfl)⟩ ⟨Nat.zero_le _, Nat.zero_le _⟩ dX3_nextEvent_1 (fun H locs hI => ?_)
  refine lv_if_eq (tgt := 12) hx hb dX3_nextEvent_4 (by decide) (fun c1 => ?_) (fun c1 => ?_)
  · have c1 := bI_eq0.mp c1
    refine lv_aload_n hx hb dX3_nextEvent_12 rfl (lv_at hl 0 rfl) ?_
    refine x_get (k := 11) hE hK hI (by decide) inG3 (e_11 G o _ _) rfl 6 (by decide) mw_113 rfl dX3_nextEvent_13 ?_
    refine lv_istore_n (lv' := [(1, .int (X 11 6)), (0, .ref (o + 11))]) hx hb dX3_nextEvent_16 rfl hl (by decide) rfl (fun ls hl => ?_)
    refine lv_iconst (v := 0) hx hb dX3_nextEvent_17 (by decide) ?_
    refine lv_istore_n (lv' := [(2, .int 0), (1, .int (X 11 6)), (0, .ref (o + 11))]) hx hb dX3_nextEvent_18 rfl hl (by decide) rfl (fun ls hl => ?_)
    have hl : lv_has ls 4 [(2, .int (nI 0)), (1, .int (nxt (if X 11 5 = (-1) then 2147483647 else X 11 6) (fun q => X (14 + 2 * q) 1) (fun q => X (14 + 2 * q) 2) 0)), (0, .ref (o + 11))] := by
      rw [show nxt (if X 11 5 = (-1) then 2147483647 else X 11 6) (fun q => X (14 + 2 * q) 1) (fun q => X (14 + 2 * q) 2) 0 = X 11 6 from if_neg c1]
      exact hl
    exact lp_X3_nextEvent l G o X Y cnt hc h40 hE hr hlocks hK cnt 0 (by omega) _ _ hI ls (lv_sub hl [2, 1, 0] rfl)
  · have c1 := bI_ne0.mp c1
    refine lv_ldc hx hb hE.2.2.2.1 (hE.2.2.2.2 _ mw_364) dX3_nextEvent_7 ?_
    refine lv_goto (tgt := 16) hx hb dX3_nextEvent_9 (by decide) ?_
    refine lv_istore_n (lv' := [(1, .int 2147483647), (0, .ref (o + 11))]) hx hb dX3_nextEvent_16 rfl hl (by decide) rfl (fun ls hl => ?_)
    refine lv_iconst (v := 0) hx hb dX3_nextEvent_17 (by decide) ?_
    refine lv_istore_n (lv' := [(2, .int 0), (1, .int 2147483647), (0, .ref (o + 11))]) hx hb dX3_nextEvent_18 rfl hl (by decide) rfl (fun ls hl => ?_)
    have hl : lv_has ls 4 [(2, .int (nI 0)), (1, .int (nxt (if X 11 5 = (-1) then 2147483647 else X 11 6) (fun q => X (14 + 2 * q) 1) (fun q => X (14 + 2 * q) 2) 0)), (0, .ref (o + 11))] := by
      rw [show nxt (if X 11 5 = (-1) then 2147483647 else X 11 6) (fun q => X (14 + 2 * q) 1) (fun q => X (14 + 2 * q) 2) 0 = 2147483647 from if_pos c1]
      exact hl
    exact lp_X3_nextEvent l G o X Y cnt hc h40 hE hr hlocks hK cnt 0 (by omega) _ _ hI ls (lv_sub hl [2, 1, 0] rfl)
set_option maxRecDepth 100000 in
set_option maxHeartbeats 4000000 in
theorem lp_X3_countBin (l : Launch) (G : GG) (o : Nat) (X : SX) (Y : SY) (cnt : Nat) (hc : X 11 2 = nI cnt) (h40 : cnt ≤ 40) {p9 : Program} {e9 : Env} {s9 : State} {m9 : MethodId} {args9 : Array Value} {below9 : List Frame} {meth9 : Method} {c9 : Code} (hE : gE p9 m9 c9 cX3_countBin 3 s9 args9 yX3_countBin.cls) (hr : meth9.sig.returnType = (some .int)) (hlocks : meth9.locks = false) (hK : KK G s9) :
    ∀ (n : Nat) (i : Nat), i + n = cnt → ∀ (H : Heap) (locs : List Loc), In G o X Y s9.heap H locs → ∀ ls : Array Slot, lv_has ls 3 [(0, .ref (o + 11)), (1, .int (nI (cntP (pB X) i))), (2, .int (nI i))] → W p9 l e9 (Rm 0 0) s9 m9 args9 below9 meth9 c9 H locs 0 0 (MQ below9 (Qw G o (some (.int (nI (cntP (pB X) cnt)))) X Y) args9 s9 0 0 (rg o)) (F0 m9 4 ls []) := by
  have hx := hE.1
  have hb := hE.2.1
  intro n
  induction n with
  | zero =>
    intro i hi H locs hI ls hl
    have ei : i = cnt := by omega
    refine lv_iload_n hx hb dX3_countBin_4 rfl (lv_at hl 2 rfl) ?_
    refine lv_aload_n hx hb dX3_countBin_5 rfl (lv_at hl 0 rfl) ?_
    refine x_get (k := 11) hE hK hI (by decide) inG3 (e_11 G o _ _) rfl 2 (by decide) mw_106 rfl dX3_countBin_6 ?_
    refine lv_topi (fun z1 ez1 => ?_)
    obtain rfl : nI cnt = z1 := (ez1.trans (hc)).symm
    refine lv_icmp_ge (tgt := 34) hx hb dX3_countBin_9 (by decide) (fun _ => ?_) (fun q => absurd (nI_le (by omega) (by omega)) q)
    refine lv_iload_n hx hb dX3_countBin_34 rfl (lv_at hl 1 rfl) ?_
    exact x_iret hE hr hlocks hI (by rw [ei]) rfl rfl dX3_countBin_35
  | succ n ih =>
    intro i hi H locs hI ls hl
    have h_i : i < 40 := by omega
    refine lv_iload_n hx hb dX3_countBin_4 rfl (lv_at hl 2 rfl) ?_
    refine lv_aload_n hx hb dX3_countBin_5 rfl (lv_at hl 0 rfl) ?_
    refine x_get (k := 11) hE hK hI (by decide) inG3 (e_11 G o _ _) rfl 2 (by decide) mw_106 rfl dX3_countBin_6 ?_
    refine lv_topi (fun z1 ez1 => ?_)
    obtain rfl : nI cnt = z1 := (ez1.trans (hc)).symm
    refine lv_icmp_ge (tgt := 34) hx hb dX3_countBin_9 (by decide) (fun q => absurd q (nI_ge (by omega) (by omega))) (fun _ => ?_)
    refine lv_aload_n hx hb dX3_countBin_12 rfl (lv_at hl 0 rfl) ?_
    refine x_get (k := 11) hE hK hI (by decide) inG3 (e_11 G o _ _) rfl 0 (by decide) mw_102 rfl dX3_countBin_13 ?_
    refine lv_iload_n hx hb dX3_countBin_16 rfl (lv_at hl 2 rfl) ?_
    refine x_aald (k := 12) (j := i) (t0 := 3) (q := o + (14 + 2 * i)) hE hK hI (by decide) (e_12 G o) rfl rfl h_i (by decide) rfl (ql_14 h_i) dX3_countBin_17 ?_
    refine x_get (k := (14 + 2 * i)) hE hK hI (by have := h_i; omega) inG0 (el_14 G o h_i _ _) rfl 1 (by decide) mw_82 rfl dX3_countBin_18 ?_
    refine lv_iconst (v := 1) hx hb dX3_countBin_21 (by decide) ?_
    refine lv_icmp_ne (tgt := 28) hx hb dX3_countBin_22 (by decide) (fun c2 => ?_) (fun c2 => ?_)
    · refine lv_iinc (v := nI (i + 1)) (lv' := [(2, .int (nI (i + 1))), (0, .ref (o + 11)), (1, .int (nI (cntP (pB X) i)))]) hx hb dX3_countBin_28 hl (k := 2) rfl (nI_add i 1) (by decide) rfl (fun ls hl => ?_)
      refine lv_goto (tgt := 4) hx hb dX3_countBin_31 (by decide) ?_
      have ih' := ih (i + 1) (by omega) H locs hI ls
      rw [show cntP (pB X) (i + 1) = cntP (pB X) i from if_neg (fun q => c2 q)] at ih'
      exact ih' (lv_sub hl [1, 2, 0] rfl)
    · refine lv_iinc (v := nI ((cntP (pB X) i) + 1)) (lv' := [(1, .int (nI ((cntP (pB X) i) + 1))), (0, .ref (o + 11)), (2, .int (nI i))]) hx hb dX3_countBin_25 hl (k := 1) rfl (nI_add (cntP (pB X) i) 1) (by decide) rfl (fun ls hl => ?_)
      refine lv_iinc (v := nI (i + 1)) (lv' := [(2, .int (nI (i + 1))), (1, .int (nI ((cntP (pB X) i) + 1))), (0, .ref (o + 11))]) hx hb dX3_countBin_28 hl (k := 2) rfl (nI_add i 1) (by decide) rfl (fun ls hl => ?_)
      refine lv_goto (tgt := 4) hx hb dX3_countBin_31 (by decide) ?_
      have ih' := ih (i + 1) (by omega) H locs hI ls
      rw [show cntP (pB X) (i + 1) = (cntP (pB X) i) + 1 from if_pos c2] at ih'
      exact ih' (lv_sub hl [2, 1, 0] rfl)
set_option maxRecDepth 100000 in
set_option maxHeartbeats 4000000 in
theorem c_X3_countBin (l : Launch) (G : GG) (o : Nat) (X : SX) (Y : SY) (cnt : Nat) (hc : X 11 2 = nI cnt) (h40 : cnt ≤ 40) : Ct l yX3_countBin cX3_countBin 3 (some .int) 0 0 G o [.ref (o + 11)] X Y (some (.int (nI (cntP (pB X) cnt)))) X Y := by
  refine Ct.mk (by decide +kernel) (Nat.le_of_ble_eq_true rfl) rfl ?_
  intro p9 e9 s9 m9 args9 below9 meth9 c9 hE hr hlocks hK hI ls hl
  have hx := hE.1
  have hb := hE.2.1
  have hl : lv_has ls 3 [(0, .ref (o + 11))] := hl
  refine lv_iconst (v := 0) hx hb dX3_countBin_0 (by decide) ?_
  refine lv_istore_n (lv' := [(1, .int 0), (0, .ref (o + 11))]) hx hb dX3_countBin_1 rfl hl (by decide) rfl (fun ls hl => ?_)
  refine lv_iconst (v := 0) hx hb dX3_countBin_2 (by decide) ?_
  refine lv_istore_n (lv' := [(2, .int 0), (1, .int 0), (0, .ref (o + 11))]) hx hb dX3_countBin_3 rfl hl (by decide) rfl (fun ls hl => ?_)
  exact lp_X3_countBin l G o X Y cnt hc h40 hE hr hlocks hK cnt 0 (by omega) _ _ hI ls (lv_sub hl [2, 1, 0] rfl)
set_option maxRecDepth 100000 in
set_option maxHeartbeats 4000000 in
theorem lp_X3_countBefore (l : Launch) (G : GG) (o : Nat) (X : SX) (Y : SY) (j : Nat) (r : Int32) (cnt : Nat) (h_j : j < 40) (hc : X 11 2 = nI cnt) (h40 : cnt ≤ 40) {p9 : Program} {e9 : Env} {s9 : State} {m9 : MethodId} {args9 : Array Value} {below9 : List Frame} {meth9 : Method} {c9 : Code} (hE : gE p9 m9 c9 cX3_countBefore 6 s9 args9 yX3_countBefore.cls) (hr : meth9.sig.returnType = (some .int)) (hlocks : meth9.locks = false) (hK : KK G s9) :
    ∀ (n : Nat) (i : Nat), i + n = cnt → ∀ (H : Heap) (locs : List Loc), In G o X Y s9.heap H locs → ∀ ls : Array Slot, lv_has ls 6 [(0, .ref (o + 11)), (1, .ref (o + (14 + 2 * j))), (2, .int r), (3, .int (nI (cntP (fun q => pB X q ∧ bfX X r q j) i))), (4, .int (nI i))] → W p9 l e9 (Rm 2 48) s9 m9 args9 below9 meth9 c9 H locs 0 0 (MQ below9 (Qw G o (some (.int (nI (cntP (fun q => pB X q ∧ bfX X r q j) cnt)))) X Y) args9 s9 0 0 (rg o)) (F0 m9 5 ls []) := by
  have hx := hE.1
  have hb := hE.2.1
  intro n
  induction n with
  | zero =>
    intro i hi H locs hI ls hl
    have ei : i = cnt := by omega
    refine lv_iload hx hb dX3_countBefore_5 (lv_at hl 4 rfl) ?_
    refine lv_aload_n hx hb dX3_countBefore_7 rfl (lv_at hl 0 rfl) ?_
    refine x_get (k := 11) hE hK hI (by decide) inG3 (e_11 G o _ _) rfl 2 (by decide) mw_106 rfl dX3_countBefore_8 ?_
    refine lv_topi (fun z1 ez1 => ?_)
    obtain rfl : nI cnt = z1 := (ez1.trans (hc)).symm
    refine lv_icmp_ge (tgt := 51) hx hb dX3_countBefore_11 (by decide) (fun _ => ?_) (fun q => absurd (nI_le (by omega) (by omega)) q)
    refine lv_iload_n hx hb dX3_countBefore_51 rfl (lv_at hl 3 rfl) ?_
    exact x_iret hE hr hlocks hI (by rw [ei]) rfl rfl dX3_countBefore_52
  | succ n ih =>
    intro i hi H locs hI ls hl
    have h_i : i < 40 := by omega
    refine lv_iload hx hb dX3_countBefore_5 (lv_at hl 4 rfl) ?_
    refine lv_aload_n hx hb dX3_countBefore_7 rfl (lv_at hl 0 rfl) ?_
    refine x_get (k := 11) hE hK hI (by decide) inG3 (e_11 G o _ _) rfl 2 (by decide) mw_106 rfl dX3_countBefore_8 ?_
    refine lv_topi (fun z1 ez1 => ?_)
    obtain rfl : nI cnt = z1 := (ez1.trans (hc)).symm
    refine lv_icmp_ge (tgt := 51) hx hb dX3_countBefore_11 (by decide) (fun q => absurd q (nI_ge (by omega) (by omega))) (fun _ => ?_)
    refine lv_aload_n hx hb dX3_countBefore_14 rfl (lv_at hl 0 rfl) ?_
    refine x_get (k := 11) hE hK hI (by decide) inG3 (e_11 G o _ _) rfl 0 (by decide) mw_102 rfl dX3_countBefore_15 ?_
    refine lv_iload hx hb dX3_countBefore_18 (lv_at hl 4 rfl) ?_
    refine x_aald (k := 12) (j := i) (t0 := 3) (q := o + (14 + 2 * i)) hE hK hI (by decide) (e_12 G o) rfl rfl h_i (by decide) rfl (ql_14 h_i) dX3_countBefore_20 ?_
    refine lv_astore (lv' := [(5, .ref (o + (14 + 2 * i))), (0, .ref (o + 11)), (1, .ref (o + (14 + 2 * j))), (2, .int r), (3, .int (nI (cntP (fun q => pB X q ∧ bfX X r q j) i))), (4, .int (nI i))]) hx hb dX3_countBefore_21 hl (by decide) rfl (fun ls hl => ?_)
    refine lv_aload hx hb dX3_countBefore_23 (lv_at hl 0 rfl) ?_
    refine x_get (k := (14 + 2 * i)) hE hK hI (by have := h_i; omega) inG0 (el_14 G o h_i _ _) rfl 1 (by decide) mw_82 rfl dX3_countBefore_25 ?_
    refine lv_iconst (v := 1) hx hb dX3_countBefore_28 (by decide) ?_
    refine lv_icmp_ne (tgt := 45) hx hb dX3_countBefore_29 (by decide) (fun c2 => ?_) (fun c2 => ?_)
    · refine lv_iinc (v := nI (i + 1)) (lv' := [(4, .int (nI (i + 1))), (5, .ref (o + (14 + 2 * i))), (0, .ref (o + 11)), (1, .ref (o + (14 + 2 * j))), (2, .int r), (3, .int (nI (cntP (fun q => pB X q ∧ bfX X r q j) i)))]) hx hb dX3_countBefore_45 hl (k := 5) rfl (nI_add i 1) (by decide) rfl (fun ls hl => ?_)
      refine lv_goto (tgt := 5) hx hb dX3_countBefore_48 (by decide) ?_
      have ih' := ih (i + 1) (by omega) H locs hI ls
      rw [show cntP (fun q => pB X q ∧ bfX X r q j) (i + 1) = cntP (fun q => pB X q ∧ bfX X r q j) i from if_neg (fun q => c2 q.1)] at ih'
      exact ih' (lv_sub hl [2, 3, 4, 5, 0] rfl)
    · refine lv_aload hx hb dX3_countBefore_32 (lv_at hl 0 rfl) ?_
      refine lv_aload_n hx hb dX3_countBefore_34 rfl (lv_at hl 2 rfl) ?_
      refine lv_iload_n hx hb dX3_countBefore_35 rfl (lv_at hl 3 rfl) ?_
      refine x_callVi (k := (14 + 2 * i)) hE hK hI (c_X0_standsBefore l G o _ _ i j r h_i h_j) mf_X0_standsBefore mw_328 (by have := h_i; omega) ((el_14 G o h_i) _ _) rfl rfl hl.1 rfl (Nat.le_of_ble_eq_true rfl) ⟨(Nat.le_of_ble_eq_true rfl), (Nat.le_of_ble_eq_true rfl)⟩ ⟨Nat.zero_le _, Nat.zero_le _⟩ dX3_countBefore_36 (fun H locs hI => ?_)
      refine lv_if_eq (tgt := 45) hx hb dX3_countBefore_39 (by decide) (fun c3 => ?_) (fun c3 => ?_)
      · have c3 := bI_eq0.mp c3
        refine lv_iinc (v := nI (i + 1)) (lv' := [(4, .int (nI (i + 1))), (5, .ref (o + (14 + 2 * i))), (0, .ref (o + 11)), (1, .ref (o + (14 + 2 * j))), (2, .int r), (3, .int (nI (cntP (fun q => pB X q ∧ bfX X r q j) i)))]) hx hb dX3_countBefore_45 hl (k := 5) rfl (nI_add i 1) (by decide) rfl (fun ls hl => ?_)
        refine lv_goto (tgt := 5) hx hb dX3_countBefore_48 (by decide) ?_
        have ih' := ih (i + 1) (by omega) H locs hI ls
        rw [show cntP (fun q => pB X q ∧ bfX X r q j) (i + 1) = cntP (fun q => pB X q ∧ bfX X r q j) i from if_neg (fun q => c3 q.2)] at ih'
        exact ih' (lv_sub hl [2, 3, 4, 5, 0] rfl)
      · have c3 := bI_ne0.mp c3
        refine lv_iinc (v := nI ((cntP (fun q => pB X q ∧ bfX X r q j) i) + 1)) (lv' := [(3, .int (nI ((cntP (fun q => pB X q ∧ bfX X r q j) i) + 1))), (5, .ref (o + (14 + 2 * i))), (0, .ref (o + 11)), (1, .ref (o + (14 + 2 * j))), (2, .int r), (4, .int (nI i))]) hx hb dX3_countBefore_42 hl (k := 4) rfl (nI_add (cntP (fun q => pB X q ∧ bfX X r q j) i) 1) (by decide) rfl (fun ls hl => ?_)
        refine lv_iinc (v := nI (i + 1)) (lv' := [(4, .int (nI (i + 1))), (3, .int (nI ((cntP (fun q => pB X q ∧ bfX X r q j) i) + 1))), (5, .ref (o + (14 + 2 * i))), (0, .ref (o + 11)), (1, .ref (o + (14 + 2 * j))), (2, .int r)]) hx hb dX3_countBefore_45 hl (k := 5) rfl (nI_add i 1) (by decide) rfl (fun ls hl => ?_)
        refine lv_goto (tgt := 5) hx hb dX3_countBefore_48 (by decide) ?_
        have ih' := ih (i + 1) (by omega) H locs hI ls
        rw [show cntP (fun q => pB X q ∧ bfX X r q j) (i + 1) = (cntP (fun q => pB X q ∧ bfX X r q j) i) + 1 from if_pos ⟨c2, c3⟩] at ih'
        exact ih' (lv_sub hl [3, 4, 5, 1, 0] rfl)
set_option maxRecDepth 100000 in
set_option maxHeartbeats 4000000 in
theorem c_X3_countBefore (l : Launch) (G : GG) (o : Nat) (X : SX) (Y : SY) (j : Nat) (r : Int32) (cnt : Nat) (h_j : j < 40) (hc : X 11 2 = nI cnt) (h40 : cnt ≤ 40) : Ct l yX3_countBefore cX3_countBefore 6 (some .int) 2 48 G o [.ref (o + 11), .ref (o + (14 + 2 * j)), .int r] X Y (some (.int (nI (cntP (fun q => pB X q ∧ bfX X r q j) cnt)))) X Y := by
  refine Ct.mk (by decide +kernel) (Nat.le_of_ble_eq_true rfl) rfl ?_
  intro p9 e9 s9 m9 args9 below9 meth9 c9 hE hr hlocks hK hI ls hl
  have hx := hE.1
  have hb := hE.2.1
  have hl : lv_has ls 6 [(0, .ref (o + 11)), (1, .ref (o + (14 + 2 * j))), (2, .int r)] := hl
  refine lv_iconst (v := 0) hx hb dX3_countBefore_0 (by decide) ?_
  refine lv_istore_n (lv' := [(3, .int 0), (0, .ref (o + 11)), (1, .ref (o + (14 + 2 * j))), (2, .int r)]) hx hb dX3_countBefore_1 rfl hl (by decide) rfl (fun ls hl => ?_)
  refine lv_iconst (v := 0) hx hb dX3_countBefore_2 (by decide) ?_
  refine lv_istore (lv' := [(4, .int 0), (3, .int 0), (0, .ref (o + 11)), (1, .ref (o + (14 + 2 * j))), (2, .int r)]) hx hb dX3_countBefore_3 hl (by decide) rfl (fun ls hl => ?_)
  exact lp_X3_countBefore l G o X Y j r cnt h_j hc h40 hE hr hlocks hK cnt 0 (by omega) _ _ hI ls (lv_sub hl [2, 3, 4, 1, 0] rfl)
set_option maxRecDepth 100000 in
set_option maxHeartbeats 4000000 in
theorem lp_X3_lotAt (l : Launch) (G : GG) (o : Nat) (X : SX) (Y : SY) (v : Int32) (r : Int32) (cnt : Nat) (hc : X 11 2 = nI cnt) (h40 : cnt ≤ 40) {p9 : Program} {e9 : Env} {s9 : State} {m9 : MethodId} {args9 : Array Value} {below9 : List Frame} {meth9 : Method} {c9 : Code} (hE : gE p9 m9 c9 cX3_lotAt 5 s9 args9 yX3_lotAt.cls) (hr : meth9.sig.returnType = (some .int)) (hlocks : meth9.locks = false) (hK : KK G s9) :
    ∀ (n : Nat) (i : Nat), i + n = cnt → ∀ (H : Heap) (locs : List Loc), In G o X Y s9.heap H locs → ∀ ls : Array Slot, lv_has ls 5 [(0, .ref (o + 11)), (1, .int v), (2, .int r), (3, .int (nI i))] → W p9 l e9 (Rm 3 73) s9 m9 args9 below9 meth9 c9 H locs 0 0 (MQ below9 (Qw G o (some (.int (oI (-1) (fndP (fun a => pB X a ∧ nI (cntP (fun q => pB X q ∧ bfX X r q a) cnt) = v) n i)))) X Y) args9 s9 0 0 (rg o)) (F0 m9 2 ls []) := by
  have hx := hE.1
  have hb := hE.2.1
  intro n
  induction n with
  | zero =>
    intro i hi H locs hI ls hl
    refine lv_iload_n hx hb dX3_lotAt_2 rfl (lv_at hl 3 rfl) ?_
    refine lv_aload_n hx hb dX3_lotAt_3 rfl (lv_at hl 0 rfl) ?_
    refine x_get (k := 11) hE hK hI (by decide) inG3 (e_11 G o _ _) rfl 2 (by decide) mw_106 rfl dX3_lotAt_4 ?_
    refine lv_topi (fun z1 ez1 => ?_)
    obtain rfl : nI cnt = z1 := (ez1.trans (hc)).symm
    refine lv_icmp_ge (tgt := 46) hx hb dX3_lotAt_7 (by decide) (fun _ => ?_) (fun q => absurd (nI_le (by omega) (by omega)) q)
    refine lv_iconst (v := (-1)) hx hb dX3_lotAt_46 (by decide) ?_
    exact x_iret hE hr hlocks hI rfl rfl rfl dX3_lotAt_47
  | succ n ih =>
    intro i hi H locs hI ls hl
    have h_i : i < 40 := by omega
    refine lv_iload_n hx hb dX3_lotAt_2 rfl (lv_at hl 3 rfl) ?_
    refine lv_aload_n hx hb dX3_lotAt_3 rfl (lv_at hl 0 rfl) ?_
    refine x_get (k := 11) hE hK hI (by decide) inG3 (e_11 G o _ _) rfl 2 (by decide) mw_106 rfl dX3_lotAt_4 ?_
    refine lv_topi (fun z1 ez1 => ?_)
    obtain rfl : nI cnt = z1 := (ez1.trans (hc)).symm
    refine lv_icmp_ge (tgt := 46) hx hb dX3_lotAt_7 (by decide) (fun q => absurd q (nI_ge (by omega) (by omega))) (fun _ => ?_)
    refine lv_aload_n hx hb dX3_lotAt_10 rfl (lv_at hl 0 rfl) ?_
    refine x_get (k := 11) hE hK hI (by decide) inG3 (e_11 G o _ _) rfl 0 (by decide) mw_102 rfl dX3_lotAt_11 ?_
    refine lv_iload_n hx hb dX3_lotAt_14 rfl (lv_at hl 3 rfl) ?_
    refine x_aald (k := 12) (j := i) (t0 := 3) (q := o + (14 + 2 * i)) hE hK hI (by decide) (e_12 G o) rfl rfl h_i (by decide) rfl (ql_14 h_i) dX3_lotAt_15 ?_
    refine lv_astore (lv' := [(4, .ref (o + (14 + 2 * i))), (0, .ref (o + 11)), (1, .int v), (2, .int r), (3, .int (nI i))]) hx hb dX3_lotAt_16 hl (by decide) rfl (fun ls hl => ?_)
    refine lv_aload hx hb dX3_lotAt_18 (lv_at hl 0 rfl) ?_
    refine x_get (k := (14 + 2 * i)) hE hK hI (by have := h_i; omega) inG0 (el_14 G o h_i _ _) rfl 1 (by decide) mw_82 rfl dX3_lotAt_20 ?_
    refine lv_iconst (v := 1) hx hb dX3_lotAt_23 (by decide) ?_
    refine lv_icmp_ne (tgt := 40) hx hb dX3_lotAt_24 (by decide) (fun c2 => ?_) (fun c2 => ?_)
    · refine lv_iinc (v := nI (i + 1)) (lv' := [(3, .int (nI (i + 1))), (4, .ref (o + (14 + 2 * i))), (0, .ref (o + 11)), (1, .int v), (2, .int r)]) hx hb dX3_lotAt_40 hl (k := 4) rfl (nI_add i 1) (by decide) rfl (fun ls hl => ?_)
      refine lv_goto (tgt := 2) hx hb dX3_lotAt_43 (by decide) ?_
      have ih' := ih (i + 1) (by omega) H locs hI ls (lv_sub hl [2, 3, 4, 0] rfl)
      rw [← show fndP (fun a => pB X a ∧ nI (cntP (fun q => pB X q ∧ bfX X r q a) cnt) = v) (n + 1) i = fndP (fun a => pB X a ∧ nI (cntP (fun q => pB X q ∧ bfX X r q a) cnt) = v) n (i + 1) from if_neg (fun q => c2 q.1)] at ih'
      exact ih'
    · refine lv_aload_n hx hb dX3_lotAt_27 rfl (lv_at hl 1 rfl) ?_
      refine lv_aload hx hb dX3_lotAt_28 (lv_at hl 0 rfl) ?_
      refine lv_iload_n hx hb dX3_lotAt_30 rfl (lv_at hl 3 rfl) ?_
      refine x_callVi (k := 11) hE hK hI (c_X3_countBefore l G o _ _ i r cnt h_i hc h40) mf_X3_countBefore mw_410 (by decide) ((e_11 G o) _ _) rfl rfl hl.1 rfl (Nat.le_of_ble_eq_true rfl) ⟨(Nat.le_of_ble_eq_true rfl), (Nat.le_of_ble_eq_true rfl)⟩ ⟨Nat.zero_le _, Nat.zero_le _⟩ dX3_lotAt_31 (fun H locs hI => ?_)
      refine lv_iload_n hx hb dX3_lotAt_34 rfl (lv_at hl 2 rfl) ?_
      refine lv_icmp_ne (tgt := 40) hx hb dX3_lotAt_35 (by decide) (fun c3 => ?_) (fun c3 => ?_)
      · refine lv_iinc (v := nI (i + 1)) (lv' := [(3, .int (nI (i + 1))), (4, .ref (o + (14 + 2 * i))), (0, .ref (o + 11)), (1, .int v), (2, .int r)]) hx hb dX3_lotAt_40 hl (k := 4) rfl (nI_add i 1) (by decide) rfl (fun ls hl => ?_)
        refine lv_goto (tgt := 2) hx hb dX3_lotAt_43 (by decide) ?_
        have ih' := ih (i + 1) (by omega) H locs hI ls (lv_sub hl [2, 3, 4, 0] rfl)
        rw [← show fndP (fun a => pB X a ∧ nI (cntP (fun q => pB X q ∧ bfX X r q a) cnt) = v) (n + 1) i = fndP (fun a => pB X a ∧ nI (cntP (fun q => pB X q ∧ bfX X r q a) cnt) = v) n (i + 1) from if_neg (fun q => c3 q.2)] at ih'
        exact ih'
      · refine lv_iload_n hx hb dX3_lotAt_38 rfl (lv_at hl 4 rfl) ?_
        exact x_iret hE hr hlocks hI (congrArg (fun q => some (Value.int (oI (-1) q))) (if_pos ⟨c2, c3⟩)) rfl rfl dX3_lotAt_39
set_option maxRecDepth 100000 in
set_option maxHeartbeats 4000000 in
theorem c_X3_lotAt (l : Launch) (G : GG) (o : Nat) (X : SX) (Y : SY) (v : Int32) (r : Int32) (cnt : Nat) (hc : X 11 2 = nI cnt) (h40 : cnt ≤ 40) : Ct l yX3_lotAt cX3_lotAt 5 (some .int) 3 73 G o [.ref (o + 11), .int v, .int r] X Y (some (.int (oI (-1) (fndP (fun a => pB X a ∧ nI (cntP (fun q => pB X q ∧ bfX X r q a) cnt) = v) cnt 0)))) X Y := by
  refine Ct.mk (by decide +kernel) (Nat.le_of_ble_eq_true rfl) rfl ?_
  intro p9 e9 s9 m9 args9 below9 meth9 c9 hE hr hlocks hK hI ls hl
  have hx := hE.1
  have hb := hE.2.1
  have hl : lv_has ls 5 [(0, .ref (o + 11)), (1, .int v), (2, .int r)] := hl
  refine lv_iconst (v := 0) hx hb dX3_lotAt_0 (by decide) ?_
  refine lv_istore_n (lv' := [(3, .int 0), (0, .ref (o + 11)), (1, .int v), (2, .int r)]) hx hb dX3_lotAt_1 rfl hl (by decide) rfl (fun ls hl => ?_)
  exact lp_X3_lotAt l G o X Y v r cnt hc h40 hE hr hlocks hK cnt 0 (by omega) _ _ hI ls (lv_sub hl [1, 2, 3, 0] rfl)
set_option maxRecDepth 100000 in
set_option maxHeartbeats 4000000 in
theorem lp_X3_firstOfBin (l : Launch) (G : GG) (o : Nat) (X : SX) (Y : SY) (r : Int32) (cnt : Nat) (hc : X 11 2 = nI cnt) (h40 : cnt ≤ 40) {p9 : Program} {e9 : Env} {s9 : State} {m9 : MethodId} {args9 : Array Value} {below9 : List Frame} {meth9 : Method} {c9 : Code} (hE : gE p9 m9 c9 cX3_firstOfBin 5 s9 args9 yX3_firstOfBin.cls) (hr : meth9.sig.returnType = (some .int)) (hlocks : meth9.locks = false) (hK : KK G s9) :
    ∀ (n : Nat) (i : Nat), i + n = cnt → ∀ (H : Heap) (locs : List Loc), In G o X Y s9.heap H locs → ∀ ls : Array Slot, lv_has ls 5 [(0, .ref (o + 11)), (1, .int r), (2, .int (oI (-1) (fstN (pB X) (bfX X r) i))), (3, .int (nI i))] → W p9 l e9 (Rm 2 48) s9 m9 args9 below9 meth9 c9 H locs 0 0 (MQ below9 (Qw G o (some (.int (oI (-1) (fstN (pB X) (bfX X r) cnt)))) X Y) args9 s9 0 0 (rg o)) (F0 m9 4 ls []) := by
  have hx := hE.1
  have hb := hE.2.1
  intro n
  induction n with
  | zero =>
    intro i hi H locs hI ls hl
    have ei : i = cnt := by omega
    refine lv_iload_n hx hb dX3_firstOfBin_4 rfl (lv_at hl 3 rfl) ?_
    refine lv_aload_n hx hb dX3_firstOfBin_5 rfl (lv_at hl 0 rfl) ?_
    refine x_get (k := 11) hE hK hI (by decide) inG3 (e_11 G o _ _) rfl 2 (by decide) mw_106 rfl dX3_firstOfBin_6 ?_
    refine lv_topi (fun z1 ez1 => ?_)
    obtain rfl : nI cnt = z1 := (ez1.trans (hc)).symm
    refine lv_icmp_ge (tgt := 57) hx hb dX3_firstOfBin_9 (by decide) (fun _ => ?_) (fun q => absurd (nI_le (by omega) (by omega)) q)
    refine lv_iload_n hx hb dX3_firstOfBin_57 rfl (lv_at hl 2 rfl) ?_
    exact x_iret hE hr hlocks hI (by rw [ei]) rfl rfl dX3_firstOfBin_58
  | succ n ih =>
    intro i hi H locs hI ls hl
    have h_i : i < 40 := by omega
    cases hq : fstN (pB X) (bfX X r) i with
    | none =>
      rw [hq] at hl
      refine lv_iload_n hx hb dX3_firstOfBin_4 rfl (lv_at hl 3 rfl) ?_
      refine lv_aload_n hx hb dX3_firstOfBin_5 rfl (lv_at hl 0 rfl) ?_
      refine x_get (k := 11) hE hK hI (by decide) inG3 (e_11 G o _ _) rfl 2 (by decide) mw_106 rfl dX3_firstOfBin_6 ?_
      refine lv_topi (fun z1 ez1 => ?_)
      obtain rfl : nI cnt = z1 := (ez1.trans (hc)).symm
      refine lv_icmp_ge (tgt := 57) hx hb dX3_firstOfBin_9 (by decide) (fun q => absurd q (nI_ge (by omega) (by omega))) (fun _ => ?_)
      refine lv_aload_n hx hb dX3_firstOfBin_12 rfl (lv_at hl 0 rfl) ?_
      refine x_get (k := 11) hE hK hI (by decide) inG3 (e_11 G o _ _) rfl 0 (by decide) mw_102 rfl dX3_firstOfBin_13 ?_
      refine lv_iload_n hx hb dX3_firstOfBin_16 rfl (lv_at hl 3 rfl) ?_
      refine x_aald (k := 12) (j := i) (t0 := 3) (q := o + (14 + 2 * i)) hE hK hI (by decide) (e_12 G o) rfl rfl h_i (by decide) rfl (ql_14 h_i) dX3_firstOfBin_17 ?_
      refine lv_astore (lv' := [(4, .ref (o + (14 + 2 * i))), (0, .ref (o + 11)), (1, .int r), (2, .int (-1)), (3, .int (nI i))]) hx hb dX3_firstOfBin_18 hl (by decide) rfl (fun ls hl => ?_)
      refine lv_aload hx hb dX3_firstOfBin_20 (lv_at hl 0 rfl) ?_
      refine x_get (k := (14 + 2 * i)) hE hK hI (by have := h_i; omega) inG0 (el_14 G o h_i _ _) rfl 1 (by decide) mw_82 rfl dX3_firstOfBin_22 ?_
      refine lv_iconst (v := 1) hx hb dX3_firstOfBin_25 (by decide) ?_
      refine lv_icmp_ne (tgt := 51) hx hb dX3_firstOfBin_26 (by decide) (fun c2 => ?_) (fun c2 => ?_)
      · refine lv_iinc (v := nI (i + 1)) (lv' := [(3, .int (nI (i + 1))), (4, .ref (o + (14 + 2 * i))), (0, .ref (o + 11)), (1, .int r), (2, .int (-1))]) hx hb dX3_firstOfBin_51 hl (k := 4) rfl (nI_add i 1) (by decide) rfl (fun ls hl => ?_)
        refine lv_goto (tgt := 4) hx hb dX3_firstOfBin_54 (by decide) ?_
        have ih' := ih (i + 1) (by omega) H locs hI ls
        rw [show fstN (pB X) (bfX X r) (i + 1) = none by (unfold fstN; rw [hq]; dsimp only; rw [if_neg c2])] at ih'
        exact ih' (lv_sub hl [2, 3, 4, 0] rfl)
      · refine lv_iload_n hx hb dX3_firstOfBin_29 rfl (lv_at hl 3 rfl) ?_
        refine lv_iconst (v := (-1)) hx hb dX3_firstOfBin_30 (by decide) ?_
        refine lv_icmp_eq (tgt := 49) hx hb dX3_firstOfBin_31 (by decide) (fun _ => ?_) (fun q => absurd (by decide) q)
        refine lv_iload_n hx hb dX3_firstOfBin_49 rfl (lv_at hl 4 rfl) ?_
        refine lv_istore_n (lv' := [(2, .int (nI i)), (4, .ref (o + (14 + 2 * i))), (0, .ref (o + 11)), (1, .int r), (3, .int (nI i))]) hx hb dX3_firstOfBin_50 rfl hl (by decide) rfl (fun ls hl => ?_)
        refine lv_iinc (v := nI (i + 1)) (lv' := [(3, .int (nI (i + 1))), (2, .int (nI i)), (4, .ref (o + (14 + 2 * i))), (0, .ref (o + 11)), (1, .int r)]) hx hb dX3_firstOfBin_51 hl (k := 4) rfl (nI_add i 1) (by decide) rfl (fun ls hl => ?_)
        refine lv_goto (tgt := 4) hx hb dX3_firstOfBin_54 (by decide) ?_
        have ih' := ih (i + 1) (by omega) H locs hI ls
        rw [show fstN (pB X) (bfX X r) (i + 1) = some i by (unfold fstN; rw [hq]; dsimp only; rw [if_pos c2])] at ih'
        exact ih' (lv_sub hl [3, 4, 1, 0] rfl)
    | some j =>
      rw [hq] at hl
      have h_j : j < 40 := Nat.lt_trans (fstN_lt _ _ hq) h_i
      have hjn : ¬ nI j = (-1) := nI_nm1 (by omega)
      refine lv_iload_n hx hb dX3_firstOfBin_4 rfl (lv_at hl 3 rfl) ?_
      refine lv_aload_n hx hb dX3_firstOfBin_5 rfl (lv_at hl 0 rfl) ?_
      refine x_get (k := 11) hE hK hI (by decide) inG3 (e_11 G o _ _) rfl 2 (by decide) mw_106 rfl dX3_firstOfBin_6 ?_
      refine lv_topi (fun z1 ez1 => ?_)
      obtain rfl : nI cnt = z1 := (ez1.trans (hc)).symm
      refine lv_icmp_ge (tgt := 57) hx hb dX3_firstOfBin_9 (by decide) (fun q => absurd q (nI_ge (by omega) (by omega))) (fun _ => ?_)
      refine lv_aload_n hx hb dX3_firstOfBin_12 rfl (lv_at hl 0 rfl) ?_
      refine x_get (k := 11) hE hK hI (by decide) inG3 (e_11 G o _ _) rfl 0 (by decide) mw_102 rfl dX3_firstOfBin_13 ?_
      refine lv_iload_n hx hb dX3_firstOfBin_16 rfl (lv_at hl 3 rfl) ?_
      refine x_aald (k := 12) (j := i) (t0 := 3) (q := o + (14 + 2 * i)) hE hK hI (by decide) (e_12 G o) rfl rfl h_i (by decide) rfl (ql_14 h_i) dX3_firstOfBin_17 ?_
      refine lv_astore (lv' := [(4, .ref (o + (14 + 2 * i))), (0, .ref (o + 11)), (1, .int r), (2, .int (nI j)), (3, .int (nI i))]) hx hb dX3_firstOfBin_18 hl (by decide) rfl (fun ls hl => ?_)
      refine lv_aload hx hb dX3_firstOfBin_20 (lv_at hl 0 rfl) ?_
      refine x_get (k := (14 + 2 * i)) hE hK hI (by have := h_i; omega) inG0 (el_14 G o h_i _ _) rfl 1 (by decide) mw_82 rfl dX3_firstOfBin_22 ?_
      refine lv_iconst (v := 1) hx hb dX3_firstOfBin_25 (by decide) ?_
      refine lv_icmp_ne (tgt := 51) hx hb dX3_firstOfBin_26 (by decide) (fun c2 => ?_) (fun c2 => ?_)
      · refine lv_iinc (v := nI (i + 1)) (lv' := [(3, .int (nI (i + 1))), (4, .ref (o + (14 + 2 * i))), (0, .ref (o + 11)), (1, .int r), (2, .int (nI j))]) hx hb dX3_firstOfBin_51 hl (k := 4) rfl (nI_add i 1) (by decide) rfl (fun ls hl => ?_)
        refine lv_goto (tgt := 4) hx hb dX3_firstOfBin_54 (by decide) ?_
        have ih' := ih (i + 1) (by omega) H locs hI ls
        rw [show fstN (pB X) (bfX X r) (i + 1) = some j by (unfold fstN; rw [hq]; dsimp only; rw [if_neg c2])] at ih'
        exact ih' (lv_sub hl [2, 3, 4, 0] rfl)
      · refine lv_iload_n hx hb dX3_firstOfBin_29 rfl (lv_at hl 3 rfl) ?_
        refine lv_iconst (v := (-1)) hx hb dX3_firstOfBin_30 (by decide) ?_
        refine lv_icmp_eq (tgt := 49) hx hb dX3_firstOfBin_31 (by decide) (fun q => absurd q hjn) (fun _ => ?_)
        refine lv_aload hx hb dX3_firstOfBin_34 (lv_at hl 0 rfl) ?_
        refine lv_aload_n hx hb dX3_firstOfBin_36 rfl (lv_at hl 1 rfl) ?_
        refine x_get (k := 11) hE hK hI (by decide) inG3 (e_11 G o _ _) rfl 0 (by decide) mw_102 rfl dX3_firstOfBin_37 ?_
        refine lv_iload_n hx hb dX3_firstOfBin_40 rfl (lv_at hl 3 rfl) ?_
        refine x_aald (k := 12) (j := j) (t0 := 3) (q := o + (14 + 2 * j)) hE hK hI (by decide) (e_12 G o) rfl rfl h_j (by decide) rfl (ql_14 h_j) dX3_firstOfBin_41 ?_
        refine lv_iload_n hx hb dX3_firstOfBin_42 rfl (lv_at hl 2 rfl) ?_
        refine x_callVi (k := (14 + 2 * i)) hE hK hI (c_X0_standsBefore l G o _ _ i j r h_i h_j) mf_X0_standsBefore mw_328 (by have := h_i; omega) ((el_14 G o h_i) _ _) rfl rfl hl.1 rfl (Nat.le_of_ble_eq_true rfl) ⟨(Nat.le_of_ble_eq_true rfl), (Nat.le_of_ble_eq_true rfl)⟩ ⟨Nat.zero_le _, Nat.zero_le _⟩ dX3_firstOfBin_43 (fun H locs hI => ?_)
        refine lv_if_eq (tgt := 51) hx hb dX3_firstOfBin_46 (by decide) (fun c3 => ?_) (fun c3 => ?_)
        · have c3 := bI_eq0.mp c3
          refine lv_iinc (v := nI (i + 1)) (lv' := [(3, .int (nI (i + 1))), (4, .ref (o + (14 + 2 * i))), (0, .ref (o + 11)), (1, .int r), (2, .int (nI j))]) hx hb dX3_firstOfBin_51 hl (k := 4) rfl (nI_add i 1) (by decide) rfl (fun ls hl => ?_)
          refine lv_goto (tgt := 4) hx hb dX3_firstOfBin_54 (by decide) ?_
          have ih' := ih (i + 1) (by omega) H locs hI ls
          rw [show fstN (pB X) (bfX X r) (i + 1) = some j by (unfold fstN; rw [hq]; dsimp only; rw [if_pos c2, if_neg c3])] at ih'
          exact ih' (lv_sub hl [2, 3, 4, 0] rfl)
        · have c3 := bI_ne0.mp c3
          refine lv_iload_n hx hb dX3_firstOfBin_49 rfl (lv_at hl 4 rfl) ?_
          refine lv_istore_n (lv' := [(2, .int (nI i)), (4, .ref (o + (14 + 2 * i))), (0, .ref (o + 11)), (1, .int r), (3, .int (nI i))]) hx hb dX3_firstOfBin_50 rfl hl (by decide) rfl (fun ls hl => ?_)
          refine lv_iinc (v := nI (i + 1)) (lv' := [(3, .int (nI (i + 1))), (2, .int (nI i)), (4, .ref (o + (14 + 2 * i))), (0, .ref (o + 11)), (1, .int r)]) hx hb dX3_firstOfBin_51 hl (k := 4) rfl (nI_add i 1) (by decide) rfl (fun ls hl => ?_)
          refine lv_goto (tgt := 4) hx hb dX3_firstOfBin_54 (by decide) ?_
          have ih' := ih (i + 1) (by omega) H locs hI ls
          rw [show fstN (pB X) (bfX X r) (i + 1) = some i by (unfold fstN; rw [hq]; dsimp only; rw [if_pos c2, if_pos c3])] at ih'
          exact ih' (lv_sub hl [3, 4, 1, 0] rfl)
set_option maxRecDepth 100000 in
set_option maxHeartbeats 4000000 in
theorem c_X3_firstOfBin (l : Launch) (G : GG) (o : Nat) (X : SX) (Y : SY) (r : Int32) (cnt : Nat) (hc : X 11 2 = nI cnt) (h40 : cnt ≤ 40) : Ct l yX3_firstOfBin cX3_firstOfBin 5 (some .int) 2 48 G o [.ref (o + 11), .int r] X Y (some (.int (oI (-1) (fstN (pB X) (bfX X r) cnt)))) X Y := by
  refine Ct.mk (by decide +kernel) (Nat.le_of_ble_eq_true rfl) rfl ?_
  intro p9 e9 s9 m9 args9 below9 meth9 c9 hE hr hlocks hK hI ls hl
  have hx := hE.1
  have hb := hE.2.1
  have hl : lv_has ls 5 [(0, .ref (o + 11)), (1, .int r)] := hl
  refine lv_iconst (v := (-1)) hx hb dX3_firstOfBin_0 (by decide) ?_
  refine lv_istore_n (lv' := [(2, .int (-1)), (0, .ref (o + 11)), (1, .int r)]) hx hb dX3_firstOfBin_1 rfl hl (by decide) rfl (fun ls hl => ?_)
  refine lv_iconst (v := 0) hx hb dX3_firstOfBin_2 (by decide) ?_
  refine lv_istore_n (lv' := [(3, .int 0), (2, .int (-1)), (0, .ref (o + 11)), (1, .int r)]) hx hb dX3_firstOfBin_3 rfl hl (by decide) rfl (fun ls hl => ?_)
  exact lp_X3_firstOfBin l G o X Y r cnt hc h40 hE hr hlocks hK cnt 0 (by omega) _ _ hI ls (lv_sub hl [2, 3, 1, 0] rfl)
def tkX (X : SX) : Nat → SX
  | 0 => X
  | k + 1 => if tkX X k (14 + 2 * k) 1 = 0 then (if tkX X k (14 + 2 * k) 2 = tkX X k 11 3 then pbX (tkX X k) k else tkX X k) else tkX X k
theorem pbX_o {X : SX} {i k j : Nat} (h1 : ¬ (k = 14 + 2 * i ∧ (j = 1 ∨ j = 3))) (h2 : ¬ (k = 11 ∧ j = 4)) : pbX X i k j = X k j := by
  unfold pbX
  rw [sx_o h2, sx_o (fun q => h1 ⟨q.1, Or.inr q.2⟩), sx_o (fun q => h1 ⟨q.1, Or.inl q.2⟩)]
theorem tkX_11 {X : SX} {j : Nat} (hj : j ≠ 4) : ∀ k : Nat, tkX X k 11 j = X 11 j
  | 0 => rfl
  | k + 1 => by
    have ih := tkX_11 (X := X) hj k
    unfold tkX
    split
    · split
      · rw [pbX_o (by omega) (by omega)]; exact ih
      · exact ih
    · exact ih
set_option maxRecDepth 100000 in
set_option maxHeartbeats 4000000 in
theorem lp_X3_takePlannedLots (l : Launch) (G : GG) (o : Nat) (X : SX) (Y : SY) (cnt : Nat) (hc : X 11 2 = nI cnt) (h40 : cnt ≤ 40) {p9 : Program} {e9 : Env} {s9 : State} {m9 : MethodId} {args9 : Array Value} {below9 : List Frame} {meth9 : Method} {c9 : Code} (hE : gE p9 m9 c9 cX3_takePlannedLots 3 s9 args9 yX3_takePlannedLots.cls) (hr : meth9.sig.returnType = none) (hlocks : meth9.locks = false) (hK : KK G s9) :
    ∀ (n : Nat) (i : Nat), i + n = cnt → ∀ (H : Heap) (locs : List Loc), In G o (tkX X i) Y s9.heap H locs → ∀ ls : Array Slot, lv_has ls 3 [(0, .ref (o + 11)), (1, .int (nI i))] → W p9 l e9 (Rm 1 21) s9 m9 args9 below9 meth9 c9 H locs 0 0 (MQ below9 (Qw G o none (tkX X cnt) Y) args9 s9 0 0 (rg o)) (F0 m9 2 ls []) := by
  have hx := hE.1
  have hb := hE.2.1
  intro n
  induction n with
  | zero =>
    intro i hi H locs hI ls hl
    have ei : i = cnt := by omega
    refine lv_iload_n hx hb dX3_takePlannedLots_2 rfl (lv_at hl 1 rfl) ?_
    refine lv_aload_n hx hb dX3_takePlannedLots_3 rfl (lv_at hl 0 rfl) ?_
    refine x_get (k := 11) hE hK hI (by decide) inG3 (e_11 G o _ _) rfl 2 (by decide) mw_106 rfl dX3_takePlannedLots_4 ?_
    refine lv_topi (fun z1 ez1 => ?_)
    obtain rfl : nI cnt = z1 := (ez1.trans (((tkX_11 (by decide) _).trans hc))).symm
    refine lv_icmp_ge (tgt := 46) hx hb dX3_takePlannedLots_7 (by decide) (fun _ => ?_) (fun q => absurd (nI_le (by omega) (by omega)) q)
    exact x_vret hE hr hlocks hI rfl (by rw [ei]) rfl dX3_takePlannedLots_46
  | succ n ih =>
    intro i hi H locs hI ls hl
    have h_i : i < 40 := by omega
    refine lv_iload_n hx hb dX3_takePlannedLots_2 rfl (lv_at hl 1 rfl) ?_
    refine lv_aload_n hx hb dX3_takePlannedLots_3 rfl (lv_at hl 0 rfl) ?_
    refine x_get (k := 11) hE hK hI (by decide) inG3 (e_11 G o _ _) rfl 2 (by decide) mw_106 rfl dX3_takePlannedLots_4 ?_
    refine lv_topi (fun z1 ez1 => ?_)
    obtain rfl : nI cnt = z1 := (ez1.trans (((tkX_11 (by decide) _).trans hc))).symm
    refine lv_icmp_ge (tgt := 46) hx hb dX3_takePlannedLots_7 (by decide) (fun q => absurd q (nI_ge (by omega) (by omega))) (fun _ => ?_)
    refine lv_aload_n hx hb dX3_takePlannedLots_10 rfl (lv_at hl 0 rfl) ?_
    refine x_get (k := 11) hE hK hI (by decide) inG3 (e_11 G o _ _) rfl 0 (by decide) mw_102 rfl dX3_takePlannedLots_11 ?_
    refine lv_iload_n hx hb dX3_takePlannedLots_14 rfl (lv_at hl 1 rfl) ?_
    refine x_aald (k := 12) (j := i) (t0 := 3) (q := o + (14 + 2 * i)) hE hK hI (by decide) (e_12 G o) rfl rfl h_i (by decide) rfl (ql_14 h_i) dX3_takePlannedLots_15 ?_
    refine lv_astore_n (lv' := [(2, .ref (o + (14 + 2 * i))), (0, .ref (o + 11)), (1, .int (nI i))]) hx hb dX3_takePlannedLots_16 rfl hl (by decide) rfl (fun ls hl => ?_)
    refine lv_aload_n hx hb dX3_takePlannedLots_17 rfl (lv_at hl 0 rfl) ?_
    refine x_get (k := (14 + 2 * i)) hE hK hI (by have := h_i; omega) inG0 (el_14 G o h_i _ _) rfl 1 (by decide) mw_82 rfl dX3_takePlannedLots_18 ?_
    refine lv_if_ne (tgt := 40) hx hb dX3_takePlannedLots_21 (by decide) (fun c2 => ?_) (fun c2 => ?_)
    · refine lv_iinc (v := nI (i + 1)) (lv' := [(1, .int (nI (i + 1))), (2, .ref (o + (14 + 2 * i))), (0, .ref (o + 11))]) hx hb dX3_takePlannedLots_40 hl (k := 2) rfl (nI_add i 1) (by decide) rfl (fun ls hl => ?_)
      refine lv_goto (tgt := 2) hx hb dX3_takePlannedLots_43 (by decide) ?_
      have ih' := ih (i + 1) (by omega) H locs
      rw [show tkX X (i + 1) = tkX X i from if_neg c2] at ih'
      exact ih' hI ls (lv_sub hl [2, 0] rfl)
    · refine lv_aload_n hx hb dX3_takePlannedLots_24 rfl (lv_at hl 0 rfl) ?_
      refine x_get (k := (14 + 2 * i)) hE hK hI (by have := h_i; omega) inG0 (el_14 G o h_i _ _) rfl 2 (by decide) mw_85 rfl dX3_takePlannedLots_25 ?_
      refine lv_aload_n hx hb dX3_takePlannedLots_28 rfl (lv_at hl 1 rfl) ?_
      refine x_get (k := 11) hE hK hI (by decide) inG3 (e_11 G o _ _) rfl 3 (by decide) mw_108 rfl dX3_takePlannedLots_29 ?_
      refine lv_icmp_ne (tgt := 40) hx hb dX3_takePlannedLots_32 (by decide) (fun c3 => ?_) (fun c3 => ?_)
      · refine lv_iinc (v := nI (i + 1)) (lv' := [(1, .int (nI (i + 1))), (2, .ref (o + (14 + 2 * i))), (0, .ref (o + 11))]) hx hb dX3_takePlannedLots_40 hl (k := 2) rfl (nI_add i 1) (by decide) rfl (fun ls hl => ?_)
        refine lv_goto (tgt := 2) hx hb dX3_takePlannedLots_43 (by decide) ?_
        have ih' := ih (i + 1) (by omega) H locs
        rw [show tkX X (i + 1) = tkX X i from (if_pos c2).trans (if_neg c3)] at ih'
        exact ih' hI ls (lv_sub hl [2, 0] rfl)
      · refine lv_aload_n hx hb dX3_takePlannedLots_35 rfl (lv_at hl 1 rfl) ?_
        refine lv_aload_n hx hb dX3_takePlannedLots_36 rfl (lv_at hl 0 rfl) ?_
        refine x_callVv (k := 11) hE hK hI (c_X3_putIntoBin l G o _ _ i h_i) mf_X3_putIntoBin mw_384 (by decide) ((e_11 G o) _ _) rfl rfl hl.1 rfl (Nat.le_of_ble_eq_true rfl) ⟨(Nat.le_of_ble_eq_true rfl), (Nat.le_of_ble_eq_true rfl)⟩ ⟨Nat.zero_le _, Nat.zero_le _⟩ dX3_takePlannedLots_37 (fun H locs hI => ?_)
        refine lv_iinc (v := nI (i + 1)) (lv' := [(1, .int (nI (i + 1))), (2, .ref (o + (14 + 2 * i))), (0, .ref (o + 11))]) hx hb dX3_takePlannedLots_40 hl (k := 2) rfl (nI_add i 1) (by decide) rfl (fun ls hl => ?_)
        refine lv_goto (tgt := 2) hx hb dX3_takePlannedLots_43 (by decide) ?_
        have ih' := ih (i + 1) (by omega) H locs
        rw [show tkX X (i + 1) = pbX (tkX X i) i from (if_pos c2).trans (if_pos c3)] at ih'
        exact ih' hI ls (lv_sub hl [2, 0] rfl)
set_option maxRecDepth 100000 in
set_option maxHeartbeats 4000000 in
theorem c_X3_takePlannedLots (l : Launch) (G : GG) (o : Nat) (X : SX) (Y : SY) (cnt : Nat) (hc : X 11 2 = nI cnt) (h40 : cnt ≤ 40) : Ct l yX3_takePlannedLots cX3_takePlannedLots 3 none 1 21 G o [.ref (o + 11)] X Y none (tkX X cnt) Y := by
  refine Ct.mk (by decide +kernel) (Nat.le_of_ble_eq_true rfl) rfl ?_
  intro p9 e9 s9 m9 args9 below9 meth9 c9 hE hr hlocks hK hI ls hl
  have hx := hE.1
  have hb := hE.2.1
  have hl : lv_has ls 3 [(0, .ref (o + 11))] := hl
  refine lv_iconst (v := 0) hx hb dX3_takePlannedLots_0 (by decide) ?_
  refine lv_istore_n (lv' := [(1, .int 0), (0, .ref (o + 11))]) hx hb dX3_takePlannedLots_1 rfl hl (by decide) rfl (fun ls hl => ?_)
  exact lp_X3_takePlannedLots l G o X Y cnt hc h40 hE hr hlocks hK cnt 0 (by omega) _ _ hI ls (lv_sub hl [1, 0] rfl)
set_option maxRecDepth 100000 in
set_option maxHeartbeats 4000000 in
theorem c_X3_startIfIdle_busy (l : Launch) (G : GG) (o : Nat) (X : SX) (Y : SY) (hG : GrI X) (h : ¬ (X 11 5 = (-1))) : Ct l yX3_startIfIdle cX3_startIfIdle 4 none 3 72 G o [.ref (o + 11), .ref (o + 2)] X Y none X Y := by
  refine Ct.mk (by decide +kernel) (Nat.le_of_ble_eq_true rfl) rfl ?_
  intro p9 e9 s9 m9 args9 below9 meth9 c9 hE hr hlocks hK hI ls hl
  have hx := hE.1
  have hb := hE.2.1
  have hl : lv_has ls 4 [(0, .ref (o + 11)), (1, .ref (o + 2))] := hl
  refine lv_aload_n hx hb dX3_startIfIdle_0 rfl (lv_at hl 0 rfl) ?_
  refine x_callVi (k := 11) hE hK hI (c_X3_isIdle l G o _ _  hG) mf_X3_isIdle mw_319 (by decide) ((e_11 G o) _ _) rfl rfl hl.1 rfl (Nat.le_of_ble_eq_true rfl) ⟨(Nat.le_of_ble_eq_true rfl), (Nat.le_of_ble_eq_true rfl)⟩ ⟨Nat.zero_le _, Nat.zero_le _⟩ dX3_startIfIdle_1 (fun H locs hI => ?_)
  refine lv_topi (fun z1 ez1 => ?_)
  obtain rfl : 0 = z1 := (ez1.trans (bI_f h)).symm
  refine lv_if_ne (tgt := 8) hx hb dX3_startIfIdle_4 (by decide) (fun q => absurd (by decide) q) (fun _ => ?_)
  exact x_vret hE hr hlocks hI rfl rfl rfl dX3_startIfIdle_7
set_option maxRecDepth 100000 in
set_option maxHeartbeats 4000000 in
theorem c_X3_startIfIdle_none (l : Launch) (G : GG) (o : Nat) (X : SX) (Y : SY) (cnt : Nat) (hc : X 11 2 = nI cnt) (h40 : cnt ≤ 40) (hG : GrI X) (h : X 11 5 = (-1)) (hq : fstN (pB X) (bfX X (X 2 5)) cnt = none) : Ct l yX3_startIfIdle cX3_startIfIdle 4 none 3 72 G o [.ref (o + 11), .ref (o + 2)] X Y none X Y := by
  refine Ct.mk (by decide +kernel) (Nat.le_of_ble_eq_true rfl) rfl ?_
  intro p9 e9 s9 m9 args9 below9 meth9 c9 hE hr hlocks hK hI ls hl
  have hx := hE.1
  have hb := hE.2.1
  have hl : lv_has ls 4 [(0, .ref (o + 11)), (1, .ref (o + 2))] := hl
  refine lv_aload_n hx hb dX3_startIfIdle_0 rfl (lv_at hl 0 rfl) ?_
  refine x_callVi (k := 11) hE hK hI (c_X3_isIdle l G o _ _  hG) mf_X3_isIdle mw_319 (by decide) ((e_11 G o) _ _) rfl rfl hl.1 rfl (Nat.le_of_ble_eq_true rfl) ⟨(Nat.le_of_ble_eq_true rfl), (Nat.le_of_ble_eq_true rfl)⟩ ⟨Nat.zero_le _, Nat.zero_le _⟩ dX3_startIfIdle_1 (fun H locs hI => ?_)
  refine lv_topi (fun z1 ez1 => ?_)
  obtain rfl : 1 = z1 := (ez1.trans (bI_t h)).symm
  refine lv_if_ne (tgt := 8) hx hb dX3_startIfIdle_4 (by decide) (fun _ => ?_) (fun q => absurd q (by decide))
  refine lv_aload_n hx hb dX3_startIfIdle_8 rfl (lv_at hl 0 rfl) ?_
  refine lv_aload_n hx hb dX3_startIfIdle_9 rfl (lv_at hl 1 rfl) ?_
  refine x_get (k := 2) hE hK hI (by decide) inG2 (e_2 G o _ _) rfl 5 (by decide) mw_49 rfl dX3_startIfIdle_10 ?_
  refine x_callVi (k := 11) hE hK hI (c_X3_firstOfBin l G o _ _ (X 2 5) cnt hc h40) mf_X3_firstOfBin mw_324 (by decide) ((e_11 G o) _ _) rfl rfl hl.1 rfl (Nat.le_of_ble_eq_true rfl) ⟨(Nat.le_of_ble_eq_true rfl), (Nat.le_of_ble_eq_true rfl)⟩ ⟨Nat.zero_le _, Nat.zero_le _⟩ dX3_startIfIdle_13 (fun H locs hI => ?_)
  refine lv_topi (fun z2 ez2 => ?_)
  obtain rfl : (-1) = z2 := (ez2.trans (congrArg (oI (-1)) hq)).symm
  refine lv_istore_n (lv' := [(2, .int (-1)), (0, .ref (o + 11)), (1, .ref (o + 2))]) hx hb dX3_startIfIdle_16 rfl hl (by decide) rfl (fun ls hl => ?_)
  refine lv_aload_n hx hb dX3_startIfIdle_17 rfl (lv_at hl 1 rfl) ?_
  refine lv_iload_n hx hb dX3_startIfIdle_18 rfl (lv_at hl 0 rfl) ?_
  refine x_callVi (k := 11) hE hK hI (c_X3_hasLot l G o _ _ (-1) ) mf_X3_hasLot mw_323 (by decide) ((e_11 G o) _ _) rfl rfl hl.1 rfl (Nat.le_of_ble_eq_true rfl) ⟨(Nat.le_of_ble_eq_true rfl), (Nat.le_of_ble_eq_true rfl)⟩ ⟨Nat.zero_le _, Nat.zero_le _⟩ dX3_startIfIdle_19 (fun H locs hI => ?_)
  refine lv_topi (fun z3 ez3 => ?_)
  obtain rfl : 0 = z3 := (ez3.trans (bI_f lot_no)).symm
  refine lv_if_ne (tgt := 26) hx hb dX3_startIfIdle_22 (by decide) (fun q => absurd (by decide) q) (fun _ => ?_)
  exact x_vret hE hr hlocks hI rfl rfl rfl dX3_startIfIdle_25
def staX (X : SX) (cnt : Nat) (j : Nat) : SX := sx (sx (sx X (14 + 2 * j) 1 2) 11 5 (nI j)) 11 6 ((X 11 3) + ((((sum4 ((sx (sx X (14 + 2 * j) 1 2) 11 5 (nI j)) (15 + 2 * j))) + (X 2 4)) - 1) / (X 2 4)))
set_option maxRecDepth 100000 in
set_option maxHeartbeats 4000000 in
theorem c_X3_startIfIdle_some (l : Launch) (G : GG) (o : Nat) (X : SX) (Y : SY) (cnt : Nat) (j : Nat) (hc : X 11 2 = nI cnt) (h40 : cnt ≤ 40) (hG : GrI X) (h : X 11 5 = (-1)) (hq : fstN (pB X) (bfX X (X 2 5)) cnt = some j) (h_j : j < 40) (h_jc : j < cnt) (hr0 : 1 ≤ X 2 4) : Ct l yX3_startIfIdle cX3_startIfIdle 4 none 3 72 G o [.ref (o + 11), .ref (o + 2)] X Y none (staX X cnt j) Y := by
  refine Ct.mk (by decide +kernel) (Nat.le_of_ble_eq_true rfl) rfl ?_
  intro p9 e9 s9 m9 args9 below9 meth9 c9 hE hr hlocks hK hI ls hl
  have hx := hE.1
  have hb := hE.2.1
  have hl : lv_has ls 4 [(0, .ref (o + 11)), (1, .ref (o + 2))] := hl
  refine lv_aload_n hx hb dX3_startIfIdle_0 rfl (lv_at hl 0 rfl) ?_
  refine x_callVi (k := 11) hE hK hI (c_X3_isIdle l G o _ _  hG) mf_X3_isIdle mw_319 (by decide) ((e_11 G o) _ _) rfl rfl hl.1 rfl (Nat.le_of_ble_eq_true rfl) ⟨(Nat.le_of_ble_eq_true rfl), (Nat.le_of_ble_eq_true rfl)⟩ ⟨Nat.zero_le _, Nat.zero_le _⟩ dX3_startIfIdle_1 (fun H locs hI => ?_)
  refine lv_topi (fun z1 ez1 => ?_)
  obtain rfl : 1 = z1 := (ez1.trans (bI_t h)).symm
  refine lv_if_ne (tgt := 8) hx hb dX3_startIfIdle_4 (by decide) (fun _ => ?_) (fun q => absurd q (by decide))
  refine lv_aload_n hx hb dX3_startIfIdle_8 rfl (lv_at hl 0 rfl) ?_
  refine lv_aload_n hx hb dX3_startIfIdle_9 rfl (lv_at hl 1 rfl) ?_
  refine x_get (k := 2) hE hK hI (by decide) inG2 (e_2 G o _ _) rfl 5 (by decide) mw_49 rfl dX3_startIfIdle_10 ?_
  refine x_callVi (k := 11) hE hK hI (c_X3_firstOfBin l G o _ _ (X 2 5) cnt hc h40) mf_X3_firstOfBin mw_324 (by decide) ((e_11 G o) _ _) rfl rfl hl.1 rfl (Nat.le_of_ble_eq_true rfl) ⟨(Nat.le_of_ble_eq_true rfl), (Nat.le_of_ble_eq_true rfl)⟩ ⟨Nat.zero_le _, Nat.zero_le _⟩ dX3_startIfIdle_13 (fun H locs hI => ?_)
  refine lv_topi (fun z2 ez2 => ?_)
  obtain rfl : nI j = z2 := (ez2.trans (congrArg (oI (-1)) hq)).symm
  refine lv_istore_n (lv' := [(2, .int (nI j)), (0, .ref (o + 11)), (1, .ref (o + 2))]) hx hb dX3_startIfIdle_16 rfl hl (by decide) rfl (fun ls hl => ?_)
  refine lv_aload_n hx hb dX3_startIfIdle_17 rfl (lv_at hl 1 rfl) ?_
  refine lv_iload_n hx hb dX3_startIfIdle_18 rfl (lv_at hl 0 rfl) ?_
  refine x_callVi (k := 11) hE hK hI (c_X3_hasLot l G o _ _ (nI j) ) mf_X3_hasLot mw_323 (by decide) ((e_11 G o) _ _) rfl rfl hl.1 rfl (Nat.le_of_ble_eq_true rfl) ⟨(Nat.le_of_ble_eq_true rfl), (Nat.le_of_ble_eq_true rfl)⟩ ⟨Nat.zero_le _, Nat.zero_le _⟩ dX3_startIfIdle_19 (fun H locs hI => ?_)
  refine lv_topi (fun z3 ez3 => ?_)
  obtain rfl : 1 = z3 := (ez3.trans (bI_t (lot_ok hc h_jc h40))).symm
  refine lv_if_ne (tgt := 26) hx hb dX3_startIfIdle_22 (by decide) (fun _ => ?_) (fun q => absurd q (by decide))
  refine lv_aload_n hx hb dX3_startIfIdle_26 rfl (lv_at hl 1 rfl) ?_
  refine x_get (k := 11) hE hK hI (by decide) inG3 (e_11 G o _ _) rfl 0 (by decide) mw_102 rfl dX3_startIfIdle_27 ?_
  refine lv_iload_n hx hb dX3_startIfIdle_30 rfl (lv_at hl 0 rfl) ?_
  refine x_aald (k := 12) (j := j) (t0 := 3) (q := o + (14 + 2 * j)) hE hK hI (by decide) (e_12 G o) rfl rfl h_j (by decide) rfl (ql_14 h_j) dX3_startIfIdle_31 ?_
  refine lv_astore_n (lv' := [(3, .ref (o + (14 + 2 * j))), (2, .int (nI j)), (0, .ref (o + 11)), (1, .ref (o + 2))]) hx hb dX3_startIfIdle_32 rfl hl (by decide) rfl (fun ls hl => ?_)
  refine lv_aload_n hx hb dX3_startIfIdle_33 rfl (lv_at hl 0 rfl) ?_
  refine lv_iconst (v := 2) hx hb dX3_startIfIdle_34 (by decide) ?_
  refine x_puti (k := (14 + 2 * j)) hE hK hI (by have := h_j; omega) inG0 tyX0 tyX0_ok nmX0 (el_14 G o h_j) rfl 1 (by decide) mw_82 rfl (by decide +kernel) (by exact Nat.le_of_ble_eq_true rfl) rfl dX3_startIfIdle_35 (fun H locs hI => ?_)
  refine lv_aload_n hx hb dX3_startIfIdle_38 rfl (lv_at hl 2 rfl) ?_
  refine lv_iload_n hx hb dX3_startIfIdle_39 rfl (lv_at hl 1 rfl) ?_
  refine x_puti (k := 11) hE hK hI (by decide) inG3 tyX3 tyX3_ok nmX3 (e_11 G o) rfl 5 (by decide) mw_111 rfl (by decide +kernel) (by exact Nat.le_of_ble_eq_true rfl) rfl dX3_startIfIdle_40 (fun H locs hI => ?_)
  refine lv_aload_n hx hb dX3_startIfIdle_43 rfl (lv_at hl 2 rfl) ?_
  refine lv_aload_n hx hb dX3_startIfIdle_44 rfl (lv_at hl 2 rfl) ?_
  refine x_get (k := 11) hE hK hI (by decide) inG3 (e_11 G o _ _) rfl 3 (by decide) mw_108 rfl dX3_startIfIdle_45 ?_
  refine lv_topi (fun z4 ez4 => ?_)
  obtain rfl : X 11 3 = z4 := (ez4.trans ((sx_o (by decide)).trans ((sx_o (by omega))))).symm
  refine lv_aload_n hx hb dX3_startIfIdle_48 rfl (lv_at hl 0 rfl) ?_
  refine x_get (k := (14 + 2 * j)) hE hK hI (by have := h_j; omega) inG0 (el_14 G o h_j _ _) rfl 0 (by decide) mw_79 rfl dX3_startIfIdle_49 ?_
  refine x_callNi hE hK hI (c_X5_sum l G o _ _ (15 + 2 * j) (em_14 G o h_j) (by have := h_j; omega)) mf_X5_sum hK.2.2.2 rfl hl.1 rfl (Nat.le_of_ble_eq_true rfl) ⟨(Nat.le_of_ble_eq_true rfl), (Nat.le_of_ble_eq_true rfl)⟩ ⟨Nat.zero_le _, Nat.zero_le _⟩ dX3_startIfIdle_52 (fun H locs hI => ?_)
  refine lv_aload_n hx hb dX3_startIfIdle_55 rfl (lv_at hl 3 rfl) ?_
  refine x_get (k := 2) hE hK hI (by decide) inG2 (e_2 G o _ _) rfl 4 (by decide) mw_46 rfl dX3_startIfIdle_56 ?_
  refine lv_topi (fun z5 ez5 => ?_)
  obtain rfl : X 2 4 = z5 := (ez5.trans ((sx_o (by decide)).trans ((sx_o (by omega))))).symm
  refine x_callSi hE hK hI (c_X3_minutesToGrind l G o _ _ (sum4 ((sx (sx X (14 + 2 * j) 1 2) 11 5 (nI j)) (15 + 2 * j))) (X 2 4) hr0) mf_X3_minutesToGrind mw_338 rfl hl.1 rfl (Nat.le_of_ble_eq_true rfl) ⟨(Nat.le_of_ble_eq_true rfl), (Nat.le_of_ble_eq_true rfl)⟩ ⟨Nat.zero_le _, Nat.zero_le _⟩ dX3_startIfIdle_59 (fun H locs hI => ?_)
  refine lv_iadd hx hb dX3_startIfIdle_62 ?_
  refine x_puti (k := 11) hE hK hI (by decide) inG3 tyX3 tyX3_ok nmX3 (e_11 G o) rfl 6 (by decide) mw_113 rfl (by decide +kernel) (by exact Nat.le_of_ble_eq_true rfl) rfl dX3_startIfIdle_63 (fun H locs hI => ?_)
  exact x_vret hE hr hlocks hI rfl rfl rfl dX3_startIfIdle_66
set_option maxRecDepth 100000 in
set_option maxHeartbeats 4000000 in
theorem c_X3_finishIfDue_no1 (l : Launch) (G : GG) (o : Nat) (X : SX) (Y : SY) (hG : GrI X) (h : X 11 5 = (-1)) : Ct l yX3_finishIfDue cX3_finishIfDue 4 none 2 41 G o [.ref (o + 11), .ref (o + 2)] X Y none X Y := by
  refine Ct.mk (by decide +kernel) (Nat.le_of_ble_eq_true rfl) rfl ?_
  intro p9 e9 s9 m9 args9 below9 meth9 c9 hE hr hlocks hK hI ls hl
  have hx := hE.1
  have hb := hE.2.1
  have hl : lv_has ls 4 [(0, .ref (o + 11)), (1, .ref (o + 2))] := hl
  refine lv_aload_n hx hb dX3_finishIfDue_0 rfl (lv_at hl 0 rfl) ?_
  refine x_callVi (k := 11) hE hK hI (c_X3_isIdle l G o _ _  hG) mf_X3_isIdle mw_319 (by decide) ((e_11 G o) _ _) rfl rfl hl.1 rfl (Nat.le_of_ble_eq_true rfl) ⟨(Nat.le_of_ble_eq_true rfl), (Nat.le_of_ble_eq_true rfl)⟩ ⟨Nat.zero_le _, Nat.zero_le _⟩ dX3_finishIfDue_1 (fun H locs hI => ?_)
  refine lv_topi (fun z1 ez1 => ?_)
  obtain rfl : 1 = z1 := (ez1.trans (bI_t h)).symm
  refine lv_if_ne (tgt := 18) hx hb dX3_finishIfDue_4 (by decide) (fun _ => ?_) (fun q => absurd q (by decide))
  exact x_vret hE hr hlocks hI rfl rfl rfl dX3_finishIfDue_18
set_option maxRecDepth 100000 in
set_option maxHeartbeats 4000000 in
theorem c_X3_finishIfDue_no2 (l : Launch) (G : GG) (o : Nat) (X : SX) (Y : SY) (hG : GrI X) (h : ¬ (X 11 5 = (-1))) (h2 : ¬ (X 11 6 = X 11 3)) : Ct l yX3_finishIfDue cX3_finishIfDue 4 none 2 41 G o [.ref (o + 11), .ref (o + 2)] X Y none X Y := by
  refine Ct.mk (by decide +kernel) (Nat.le_of_ble_eq_true rfl) rfl ?_
  intro p9 e9 s9 m9 args9 below9 meth9 c9 hE hr hlocks hK hI ls hl
  have hx := hE.1
  have hb := hE.2.1
  have hl : lv_has ls 4 [(0, .ref (o + 11)), (1, .ref (o + 2))] := hl
  refine lv_aload_n hx hb dX3_finishIfDue_0 rfl (lv_at hl 0 rfl) ?_
  refine x_callVi (k := 11) hE hK hI (c_X3_isIdle l G o _ _  hG) mf_X3_isIdle mw_319 (by decide) ((e_11 G o) _ _) rfl rfl hl.1 rfl (Nat.le_of_ble_eq_true rfl) ⟨(Nat.le_of_ble_eq_true rfl), (Nat.le_of_ble_eq_true rfl)⟩ ⟨Nat.zero_le _, Nat.zero_le _⟩ dX3_finishIfDue_1 (fun H locs hI => ?_)
  refine lv_topi (fun z1 ez1 => ?_)
  obtain rfl : 0 = z1 := (ez1.trans (bI_f h)).symm
  refine lv_if_ne (tgt := 18) hx hb dX3_finishIfDue_4 (by decide) (fun q => absurd (by decide) q) (fun _ => ?_)
  refine lv_aload_n hx hb dX3_finishIfDue_7 rfl (lv_at hl 0 rfl) ?_
  refine x_get (k := 11) hE hK hI (by decide) inG3 (e_11 G o _ _) rfl 6 (by decide) mw_113 rfl dX3_finishIfDue_8 ?_
  refine lv_aload_n hx hb dX3_finishIfDue_11 rfl (lv_at hl 0 rfl) ?_
  refine x_get (k := 11) hE hK hI (by decide) inG3 (e_11 G o _ _) rfl 3 (by decide) mw_108 rfl dX3_finishIfDue_12 ?_
  refine lv_icmp_eq (tgt := 19) hx hb dX3_finishIfDue_15 (by decide) (fun q => absurd q h2) (fun _ => ?_)
  exact x_vret hE hr hlocks hI rfl rfl rfl dX3_finishIfDue_18
def finX (X : SX) (i : Nat) : SX := if sum4 ((sx (clsX (brkX (sx (sx X 11 5 (-1)) 11 7 ((X 11 7) + (engy ((sx X 11 5 (-1)) 9) ((sx X 11 5 (-1)) (15 + 2 * i))))) i) i) (14 + 2 * i) 4 (((clsX (brkX (sx (sx X 11 5 (-1)) 11 7 ((X 11 7) + (engy ((sx X 11 5 (-1)) 9) ((sx X 11 5 (-1)) (15 + 2 * i))))) i) i) (14 + 2 * i) 4) + 1)) (15 + 2 * i)) = 0 then (sx (sx (sx (clsX (brkX (sx (sx X 11 5 (-1)) 11 7 ((X 11 7) + (engy ((sx X 11 5 (-1)) 9) ((sx X 11 5 (-1)) (15 + 2 * i))))) i) i) (14 + 2 * i) 4 (((clsX (brkX (sx (sx X 11 5 (-1)) 11 7 ((X 11 7) + (engy ((sx X 11 5 (-1)) 9) ((sx X 11 5 (-1)) (15 + 2 * i))))) i) i) (14 + 2 * i) 4) + 1)) 11 8 (((clsX (brkX (sx (sx X 11 5 (-1)) 11 7 ((X 11 7) + (engy ((sx X 11 5 (-1)) 9) ((sx X 11 5 (-1)) (15 + 2 * i))))) i) i) 11 8) + (sum4 ((sx (clsX (brkX (sx (sx X 11 5 (-1)) 11 7 ((X 11 7) + (engy ((sx X 11 5 (-1)) 9) ((sx X 11 5 (-1)) (15 + 2 * i))))) i) i) (14 + 2 * i) 4 (((clsX (brkX (sx (sx X 11 5 (-1)) 11 7 ((X 11 7) + (engy ((sx X 11 5 (-1)) 9) ((sx X 11 5 (-1)) (15 + 2 * i))))) i) i) (14 + 2 * i) 4) + 1)) (15 + 2 * i))))) (14 + 2 * i) 1 3) else (pbX (sx (sx (clsX (brkX (sx (sx X 11 5 (-1)) 11 7 ((X 11 7) + (engy ((sx X 11 5 (-1)) 9) ((sx X 11 5 (-1)) (15 + 2 * i))))) i) i) (14 + 2 * i) 4 (((clsX (brkX (sx (sx X 11 5 (-1)) 11 7 ((X 11 7) + (engy ((sx X 11 5 (-1)) 9) ((sx X 11 5 (-1)) (15 + 2 * i))))) i) i) (14 + 2 * i) 4) + 1)) 11 8 (((clsX (brkX (sx (sx X 11 5 (-1)) 11 7 ((X 11 7) + (engy ((sx X 11 5 (-1)) 9) ((sx X 11 5 (-1)) (15 + 2 * i))))) i) i) 11 8) + (sum4 ((sx (clsX (brkX (sx (sx X 11 5 (-1)) 11 7 ((X 11 7) + (engy ((sx X 11 5 (-1)) 9) ((sx X 11 5 (-1)) (15 + 2 * i))))) i) i) (14 + 2 * i) 4 (((clsX (brkX (sx (sx X 11 5 (-1)) 11 7 ((X 11 7) + (engy ((sx X 11 5 (-1)) 9) ((sx X 11 5 (-1)) (15 + 2 * i))))) i) i) (14 + 2 * i) 4) + 1)) (15 + 2 * i))))) i)
set_option maxRecDepth 100000 in
set_option maxHeartbeats 4000000 in
theorem c_X3_finishIfDue_yes (l : Launch) (G : GG) (o : Nat) (X : SX) (Y : SY) (i : Nat) (hG : GrI X) (hg : X 11 5 = nI i) (h_i : i < 40) (h2 : X 11 6 = X 11 3) : Ct l yX3_finishIfDue cX3_finishIfDue 4 none 2 41 G o [.ref (o + 11), .ref (o + 2)] X Y none (finX X i) Y := by
  refine Ct.mk (by decide +kernel) (Nat.le_of_ble_eq_true rfl) rfl ?_
  intro p9 e9 s9 m9 args9 below9 meth9 c9 hE hr hlocks hK hI ls hl
  have hx := hE.1
  have hb := hE.2.1
  have hl : lv_has ls 4 [(0, .ref (o + 11)), (1, .ref (o + 2))] := hl
  refine lv_aload_n hx hb dX3_finishIfDue_0 rfl (lv_at hl 0 rfl) ?_
  refine x_callVi (k := 11) hE hK hI (c_X3_isIdle l G o _ _  hG) mf_X3_isIdle mw_319 (by decide) ((e_11 G o) _ _) rfl rfl hl.1 rfl (Nat.le_of_ble_eq_true rfl) ⟨(Nat.le_of_ble_eq_true rfl), (Nat.le_of_ble_eq_true rfl)⟩ ⟨Nat.zero_le _, Nat.zero_le _⟩ dX3_finishIfDue_1 (fun H locs hI => ?_)
  refine lv_topi (fun z1 ez1 => ?_)
  obtain rfl : 0 = z1 := (ez1.trans (bI_f (by rw [hg]; exact nI_nm1 (Nat.lt_trans h_i (by decide))))).symm
  refine lv_if_ne (tgt := 18) hx hb dX3_finishIfDue_4 (by decide) (fun q => absurd (by decide) q) (fun _ => ?_)
  refine lv_aload_n hx hb dX3_finishIfDue_7 rfl (lv_at hl 0 rfl) ?_
  refine x_get (k := 11) hE hK hI (by decide) inG3 (e_11 G o _ _) rfl 6 (by decide) mw_113 rfl dX3_finishIfDue_8 ?_
  refine lv_aload_n hx hb dX3_finishIfDue_11 rfl (lv_at hl 0 rfl) ?_
  refine x_get (k := 11) hE hK hI (by decide) inG3 (e_11 G o _ _) rfl 3 (by decide) mw_108 rfl dX3_finishIfDue_12 ?_
  refine lv_icmp_eq (tgt := 19) hx hb dX3_finishIfDue_15 (by decide) (fun _ => ?_) (fun q => absurd h2 q)
  refine lv_aload_n hx hb dX3_finishIfDue_19 rfl (lv_at hl 0 rfl) ?_
  refine x_get (k := 11) hE hK hI (by decide) inG3 (e_11 G o _ _) rfl 0 (by decide) mw_102 rfl dX3_finishIfDue_20 ?_
  refine lv_aload_n hx hb dX3_finishIfDue_23 rfl (lv_at hl 0 rfl) ?_
  refine x_get (k := 11) hE hK hI (by decide) inG3 (e_11 G o _ _) rfl 5 (by decide) mw_111 rfl dX3_finishIfDue_24 ?_
  refine lv_topi (fun z2 ez2 => ?_)
  obtain rfl : nI i = z2 := (ez2.trans (hg)).symm
  refine x_aald (k := 12) (j := i) (t0 := 3) (q := o + (14 + 2 * i)) hE hK hI (by decide) (e_12 G o) rfl rfl h_i (by decide) rfl (ql_14 h_i) dX3_finishIfDue_27 ?_
  refine lv_astore_n (lv' := [(2, .ref (o + (14 + 2 * i))), (0, .ref (o + 11)), (1, .ref (o + 2))]) hx hb dX3_finishIfDue_28 rfl hl (by decide) rfl (fun ls hl => ?_)
  refine lv_aload_n hx hb dX3_finishIfDue_29 rfl (lv_at hl 1 rfl) ?_
  refine lv_iconst (v := (-1)) hx hb dX3_finishIfDue_30 (by decide) ?_
  refine x_puti (k := 11) hE hK hI (by decide) inG3 tyX3 tyX3_ok nmX3 (e_11 G o) rfl 5 (by decide) mw_111 rfl (by decide +kernel) (by exact Nat.le_of_ble_eq_true rfl) rfl dX3_finishIfDue_31 (fun H locs hI => ?_)
  refine lv_aload_n hx hb dX3_finishIfDue_34 rfl (lv_at hl 1 rfl) ?_
  refine lv_dup hx hb dX3_finishIfDue_35 rfl ?_
  refine x_get (k := 11) hE hK hI (by decide) inG3 (e_11 G o _ _) rfl 7 (by decide) mw_115 rfl dX3_finishIfDue_36 ?_
  refine lv_topi (fun z3 ez3 => ?_)
  obtain rfl : X 11 7 = z3 := (ez3.trans ((sx_o (by decide)))).symm
  refine lv_aload_n hx hb dX3_finishIfDue_39 rfl (lv_at hl 0 rfl) ?_
  refine lv_aload_n hx hb dX3_finishIfDue_40 rfl (lv_at hl 2 rfl) ?_
  refine x_get (k := 2) hE hK hI (by decide) inG2 (e_2 G o _ _) rfl 2 (by decide) mw_41 rfl dX3_finishIfDue_41 ?_
  refine x_callVi (k := (14 + 2 * i)) hE hK hI (c_X0_energyToGrind l G o _ _ i h_i) mf_X0_energyToGrind mw_372 (by have := h_i; omega) ((el_14 G o h_i) _ _) rfl rfl hl.1 rfl (Nat.le_of_ble_eq_true rfl) ⟨(Nat.le_of_ble_eq_true rfl), (Nat.le_of_ble_eq_true rfl)⟩ ⟨Nat.zero_le _, Nat.zero_le _⟩ dX3_finishIfDue_44 (fun H locs hI => ?_)
  refine lv_iadd hx hb dX3_finishIfDue_47 ?_
  refine x_puti (k := 11) hE hK hI (by decide) inG3 tyX3 tyX3_ok nmX3 (e_11 G o) rfl 7 (by decide) mw_115 rfl (by decide +kernel) (by exact Nat.le_of_ble_eq_true rfl) rfl dX3_finishIfDue_48 (fun H locs hI => ?_)
  refine lv_aload_n hx hb dX3_finishIfDue_51 rfl (lv_at hl 0 rfl) ?_
  refine lv_aload_n hx hb dX3_finishIfDue_52 rfl (lv_at hl 2 rfl) ?_
  refine x_get (k := 2) hE hK hI (by decide) inG2 (e_2 G o _ _) rfl 0 (by decide) mw_35 rfl dX3_finishIfDue_53 ?_
  refine x_callVv (k := (14 + 2 * i)) hE hK hI (c_X0_breakOre l G o _ _ i h_i) mf_X0_breakOre mw_376 (by have := h_i; omega) ((el_14 G o h_i) _ _) rfl rfl hl.1 rfl (Nat.le_of_ble_eq_true rfl) ⟨(Nat.le_of_ble_eq_true rfl), (Nat.le_of_ble_eq_true rfl)⟩ ⟨Nat.zero_le _, Nat.zero_le _⟩ dX3_finishIfDue_56 (fun H locs hI => ?_)
  refine lv_aload_n hx hb dX3_finishIfDue_59 rfl (lv_at hl 0 rfl) ?_
  refine lv_aload_n hx hb dX3_finishIfDue_60 rfl (lv_at hl 2 rfl) ?_
  refine x_get (k := 2) hE hK hI (by decide) inG2 (e_2 G o _ _) rfl 1 (by decide) mw_38 rfl dX3_finishIfDue_61 ?_
  refine lv_aload_n hx hb dX3_finishIfDue_64 rfl (lv_at hl 1 rfl) ?_
  refine x_get (k := 11) hE hK hI (by decide) inG3 (e_11 G o _ _) rfl 1 (by decide) mw_104 rfl dX3_finishIfDue_65 ?_
  refine x_callVv (k := (14 + 2 * i)) hE hK hI (c_X0_classify l G o _ _ i h_i) mf_X0_classify mw_380 (by have := h_i; omega) ((el_14 G o h_i) _ _) rfl rfl hl.1 rfl (Nat.le_of_ble_eq_true rfl) ⟨(Nat.le_of_ble_eq_true rfl), (Nat.le_of_ble_eq_true rfl)⟩ ⟨Nat.zero_le _, Nat.zero_le _⟩ dX3_finishIfDue_68 (fun H locs hI => ?_)
  refine lv_aload_n hx hb dX3_finishIfDue_71 rfl (lv_at hl 0 rfl) ?_
  refine lv_dup hx hb dX3_finishIfDue_72 rfl ?_
  refine x_get (k := (14 + 2 * i)) hE hK hI (by have := h_i; omega) inG0 (el_14 G o h_i _ _) rfl 4 (by decide) mw_89 rfl dX3_finishIfDue_73 ?_
  refine lv_iconst (v := 1) hx hb dX3_finishIfDue_76 (by decide) ?_
  refine lv_iadd hx hb dX3_finishIfDue_77 ?_
  refine x_puti (k := (14 + 2 * i)) hE hK hI (by have := h_i; omega) inG0 tyX0 tyX0_ok nmX0 (el_14 G o h_i) rfl 4 (by decide) mw_89 rfl (by decide +kernel) (by exact Nat.le_of_ble_eq_true rfl) rfl dX3_finishIfDue_78 (fun H locs hI => ?_)
  refine lv_aload_n hx hb dX3_finishIfDue_81 rfl (lv_at hl 0 rfl) ?_
  refine x_get (k := (14 + 2 * i)) hE hK hI (by have := h_i; omega) inG0 (el_14 G o h_i _ _) rfl 0 (by decide) mw_79 rfl dX3_finishIfDue_82 ?_
  refine x_callNi hE hK hI (c_X5_sum l G o _ _ (15 + 2 * i) (em_14 G o h_i) (by have := h_i; omega)) mf_X5_sum hK.2.2.2 rfl hl.1 rfl (Nat.le_of_ble_eq_true rfl) ⟨(Nat.le_of_ble_eq_true rfl), (Nat.le_of_ble_eq_true rfl)⟩ ⟨Nat.zero_le _, Nat.zero_le _⟩ dX3_finishIfDue_85 (fun H locs hI => ?_)
  refine lv_istore_n (lv' := [(3, .int (sum4 ((sx (clsX (brkX (sx (sx X 11 5 (-1)) 11 7 ((X 11 7) + (engy ((sx X 11 5 (-1)) 9) ((sx X 11 5 (-1)) (15 + 2 * i))))) i) i) (14 + 2 * i) 4 (((clsX (brkX (sx (sx X 11 5 (-1)) 11 7 ((X 11 7) + (engy ((sx X 11 5 (-1)) 9) ((sx X 11 5 (-1)) (15 + 2 * i))))) i) i) (14 + 2 * i) 4) + 1)) (15 + 2 * i)))), (2, .ref (o + (14 + 2 * i))), (0, .ref (o + 11)), (1, .ref (o + 2))]) hx hb dX3_finishIfDue_88 rfl hl (by decide) rfl (fun ls hl => ?_)
  refine lv_aload_n hx hb dX3_finishIfDue_89 rfl (lv_at hl 2 rfl) ?_
  refine lv_dup hx hb dX3_finishIfDue_90 rfl ?_
  refine x_get (k := 11) hE hK hI (by decide) inG3 (e_11 G o _ _) rfl 8 (by decide) mw_117 rfl dX3_finishIfDue_91 ?_
  refine lv_topi (fun z4 ez4 => ?_)
  obtain rfl : (clsX (brkX (sx (sx X 11 5 (-1)) 11 7 ((X 11 7) + (engy ((sx X 11 5 (-1)) 9) ((sx X 11 5 (-1)) (15 + 2 * i))))) i) i) 11 8 = z4 := (ez4.trans ((sx_o (by omega)))).symm
  refine lv_iload_n hx hb dX3_finishIfDue_94 rfl (lv_at hl 0 rfl) ?_
  refine lv_iadd hx hb dX3_finishIfDue_95 ?_
  refine x_puti (k := 11) hE hK hI (by decide) inG3 tyX3 tyX3_ok nmX3 (e_11 G o) rfl 8 (by decide) mw_117 rfl (by decide +kernel) (by exact Nat.le_of_ble_eq_true rfl) rfl dX3_finishIfDue_96 (fun H locs hI => ?_)
  refine lv_iload_n hx hb dX3_finishIfDue_99 rfl (lv_at hl 0 rfl) ?_
  refine lv_if_ne (tgt := 111) hx hb dX3_finishIfDue_100 (by decide) (fun c5 => ?_) (fun c5 => ?_)
  · refine lv_aload_n hx hb dX3_finishIfDue_111 rfl (lv_at hl 2 rfl) ?_
    refine lv_aload_n hx hb dX3_finishIfDue_112 rfl (lv_at hl 1 rfl) ?_
    refine x_callVv (k := 11) hE hK hI (c_X3_putIntoBin l G o _ _ i h_i) mf_X3_putIntoBin mw_384 (by decide) ((e_11 G o) _ _) rfl rfl hl.1 rfl (Nat.le_of_ble_eq_true rfl) ⟨(Nat.le_of_ble_eq_true rfl), (Nat.le_of_ble_eq_true rfl)⟩ ⟨Nat.zero_le _, Nat.zero_le _⟩ dX3_finishIfDue_113 (fun H locs hI => ?_)
    exact x_vret hE hr hlocks hI rfl ((if_neg c5).symm) rfl dX3_finishIfDue_116
  · refine lv_aload_n hx hb dX3_finishIfDue_103 rfl (lv_at hl 1 rfl) ?_
    refine lv_iconst (v := 3) hx hb dX3_finishIfDue_104 (by decide) ?_
    refine x_puti (k := (14 + 2 * i)) hE hK hI (by have := h_i; omega) inG0 tyX0 tyX0_ok nmX0 (el_14 G o h_i) rfl 1 (by decide) mw_82 rfl (by decide +kernel) (by exact Nat.le_of_ble_eq_true rfl) rfl dX3_finishIfDue_105 (fun H locs hI => ?_)
    refine lv_goto (tgt := 116) hx hb dX3_finishIfDue_108 (by decide) ?_
    exact x_vret hE hr hlocks hI rfl ((if_pos c5).symm) rfl dX3_finishIfDue_116
/-- what holds of the simulation between its steps -/
def SimInv (X : SX) (cnt : Nat) : Prop := X 11 2 = nI cnt ∧ cnt ≤ 40 ∧ (X 11 5 = (-1) ∨ ∃ i, i < cnt ∧ X 11 5 = nI i) ∧ 1 ≤ X 2 4
theorem SimInv.gr {X : SX} {cnt : Nat} (h : SimInv X cnt) : GrI X := by
  rcases h.2.2.1 with q | ⟨i, q1, q2⟩
  · exact Or.inl q
  · refine Or.inr ?_
    rw [q2]
    exact lot_ok h.1 q1 h.2.1
def stF (X : SX) (cnt : Nat) : SX := if X 11 5 = (-1) then (match fstN (pB X) (bfX X (X 2 5)) cnt with
  | none => X
  | some j => staX X cnt j) else X
def fiF (X : SX) : SX := if X 11 5 = (-1) then X else if X 11 6 = X 11 3 then finX X (X 11 5).toNatClampNeg else X
theorem c_X3_startIfIdle (l : Launch) (G : GG) (o : Nat) (X : SX) (Y : SY) (cnt : Nat) (hS : SimInv X cnt) : Ct l yX3_startIfIdle cX3_startIfIdle 4 none 3 72 G o [.ref (o + 11), .ref (o + 2)] X Y none (stF X cnt) Y := by
  unfold stF
  by_cases h : X 11 5 = (-1)
  · rw [if_pos h]
    cases hq : fstN (pB X) (bfX X (X 2 5)) cnt with
    | none => exact c_X3_startIfIdle_none l G o X Y cnt hS.1 hS.2.1 hS.gr h hq
    | some j => exact c_X3_startIfIdle_some l G o X Y cnt j hS.1 hS.2.1 hS.gr h hq (by have := fstN_lt _ _ hq; have := hS.2.1; omega) (fstN_lt _ _ hq) hS.2.2.2
  · rw [if_neg h]
    exact c_X3_startIfIdle_busy l G o X Y hS.gr h
theorem c_X3_finishIfDue (l : Launch) (G : GG) (o : Nat) (X : SX) (Y : SY) (cnt : Nat) (hS : SimInv X cnt) : Ct l yX3_finishIfDue cX3_finishIfDue 4 none 2 41 G o [.ref (o + 11), .ref (o + 2)] X Y none (fiF X) Y := by
  unfold fiF
  by_cases h : X 11 5 = (-1)
  · rw [if_pos h]
    exact c_X3_finishIfDue_no1 l G o X Y hS.gr h
  · rw [if_neg h]
    by_cases h2 : X 11 6 = X 11 3
    · rw [if_pos h2]
      obtain ⟨i, hi, hg⟩ := hS.2.2.1.resolve_left h
      have h4 := hS.2.1
      have e : (X 11 5).toNatClampNeg = i := by rw [hg]; exact nI_clamp (by omega)
      rw [e]
      exact c_X3_finishIfDue_yes l G o X Y i hS.gr hg (by omega) h2
    · rw [if_neg h2]
      exact c_X3_finishIfDue_no2 l G o X Y hS.gr h h2
theorem c_X3_take (l : Launch) (G : GG) (o : Nat) (X : SX) (Y : SY) (cnt : Nat) (hS : SimInv X cnt) : Ct l yX3_takePlannedLots cX3_takePlannedLots 3 none 1 21 G o [.ref (o + 11)] X Y none (tkX X cnt) Y := c_X3_takePlannedLots l G o X Y cnt hS.1 hS.2.1
