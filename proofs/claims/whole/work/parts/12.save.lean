/-! ===== 12: saving and restoring in the class ===== -/
theorem cx_in {X : SX} {k0 k j : Nat} (h : j < 4) : cx X k0 k k j = X k0 j := by
  unfold cx
  rw [if_pos rfl, pk_cpy_in (Nat.zero_le _) (by omega)]
  simp
def se_1_95_X (X : SX) : SX := sx (sx (cx (cx (cx (cx (cx (cx (cx X 98 4) 99 5) 100 6) 101 7) 102 8) 103 9) 104 10) 2 4 (X 96 4)) 2 5 (X 96 5)
set_option maxRecDepth 100000 in
set_option maxHeartbeats 4000000 in
theorem c_X2_copyFrom_1_95 (l : Launch) (G : GG) (o : Nat) (X : SX) (Y : SY) : Ct l yX2_copyFrom cX2_copyFrom 3 none 1 60 G o [.ref (o + 2), .ref (o + 96)] X Y none (se_1_95_X X) Y := by
  refine Ct.mk (by decide +kernel) (Nat.le_of_ble_eq_true rfl) rfl ?_
  intro p9 e9 s9 m9 args9 below9 meth9 c9 hE hr hlocks hK hI ls hl
  have hx := hE.1
  have hb := hE.2.1
  have hl : lv_has ls 3 [(0, .ref (o + 2)), (1, .ref (o + 96))] := hl
  refine lv_iconst (v := 0) hx hb dX2_copyFrom_0 (by decide) ?_
  refine lv_istore_n (lv' := [(2, .int 0), (0, .ref (o + 2)), (1, .ref (o + 96))]) hx hb dX2_copyFrom_1 rfl hl (by decide) rfl (fun ls hl => ?_)
  refine lv_iload_n hx hb dX2_copyFrom_2 rfl (lv_at hl 0 rfl) ?_
  refine lv_iconst (v := 4) hx hb dX2_copyFrom_3 (by decide) ?_
  refine lv_icmp_ge (tgt := 31) hx hb dX2_copyFrom_4 (by decide) (fun q => absurd q (by decide)) (fun _ => ?_)
  refine lv_aload_n hx hb dX2_copyFrom_7 rfl (lv_at hl 2 rfl) ?_
  refine x_get (k := 96) hE hK hI (by decide) inG2 (e_96 G o _ _) rfl 0 (by decide) mw_32 rfl dX2_copyFrom_8 ?_
  refine lv_iload_n hx hb dX2_copyFrom_11 rfl (lv_at hl 0 rfl) ?_
  refine x_aald (k := 97) (j := 0) (t0 := 5) (q := o + 98) hE hK hI (by decide) (e_97 G o) rfl rfl (by decide) (by decide) rfl rfl dX2_copyFrom_12 ?_
  refine lv_iconst (v := 0) hx hb dX2_copyFrom_13 (by decide) ?_
  refine lv_aload_n hx hb dX2_copyFrom_14 rfl (lv_at hl 1 rfl) ?_
  refine x_get (k := 2) hE hK hI (by decide) inG2 (e_2 G o _ _) rfl 0 (by decide) mw_32 rfl dX2_copyFrom_15 ?_
  refine lv_iload_n hx hb dX2_copyFrom_18 rfl (lv_at hl 0 rfl) ?_
  refine x_aald (k := 3) (j := 0) (t0 := 5) (q := o + 4) hE hK hI (by decide) (e_3 G o) rfl rfl (by decide) (by decide) rfl rfl dX2_copyFrom_19 ?_
  refine lv_iconst (v := 0) hx hb dX2_copyFrom_20 (by decide) ?_
  refine lv_iconst (v := 4) hx hb dX2_copyFrom_21 (by decide) ?_
  refine x_copy (k0 := 98) (k := 4) hE hK hI (by decide) (by decide) (e_98 G o) (e_4 G o) (hE.2.2.1.trans hl.1.symm) mw_457 (Nat.le_of_ble_eq_true rfl) (by decide +kernel) dX2_copyFrom_22 (fun H locs hI => ?_)
  refine lv_iinc (v := 1) (lv' := [(2, .int 1), (0, .ref (o + 2)), (1, .ref (o + 96))]) hx hb dX2_copyFrom_25 hl (k := 0) rfl (by decide) (by decide) rfl (fun ls hl => ?_)
  refine lv_goto (tgt := 2) hx hb dX2_copyFrom_28 (by decide) ?_
  refine lv_iload_n hx hb dX2_copyFrom_2 rfl (lv_at hl 0 rfl) ?_
  refine lv_iconst (v := 4) hx hb dX2_copyFrom_3 (by decide) ?_
  refine lv_icmp_ge (tgt := 31) hx hb dX2_copyFrom_4 (by decide) (fun q => absurd q (by decide)) (fun _ => ?_)
  refine lv_aload_n hx hb dX2_copyFrom_7 rfl (lv_at hl 2 rfl) ?_
  refine x_get (k := 96) hE hK hI (by decide) inG2 (e_96 G o _ _) rfl 0 (by decide) mw_32 rfl dX2_copyFrom_8 ?_
  refine lv_iload_n hx hb dX2_copyFrom_11 rfl (lv_at hl 0 rfl) ?_
  refine x_aald (k := 97) (j := 1) (t0 := 5) (q := o + 99) hE hK hI (by decide) (e_97 G o) rfl rfl (by decide) (by decide) rfl rfl dX2_copyFrom_12 ?_
  refine lv_iconst (v := 0) hx hb dX2_copyFrom_13 (by decide) ?_
  refine lv_aload_n hx hb dX2_copyFrom_14 rfl (lv_at hl 1 rfl) ?_
  refine x_get (k := 2) hE hK hI (by decide) inG2 (e_2 G o _ _) rfl 0 (by decide) mw_32 rfl dX2_copyFrom_15 ?_
  refine lv_iload_n hx hb dX2_copyFrom_18 rfl (lv_at hl 0 rfl) ?_
  refine x_aald (k := 3) (j := 1) (t0 := 5) (q := o + 5) hE hK hI (by decide) (e_3 G o) rfl rfl (by decide) (by decide) rfl rfl dX2_copyFrom_19 ?_
  refine lv_iconst (v := 0) hx hb dX2_copyFrom_20 (by decide) ?_
  refine lv_iconst (v := 4) hx hb dX2_copyFrom_21 (by decide) ?_
  refine x_copy (k0 := 99) (k := 5) hE hK hI (by decide) (by decide) (e_99 G o) (e_5 G o) (hE.2.2.1.trans hl.1.symm) mw_457 (Nat.le_of_ble_eq_true rfl) (by decide +kernel) dX2_copyFrom_22 (fun H locs hI => ?_)
  refine lv_iinc (v := 2) (lv' := [(2, .int 2), (0, .ref (o + 2)), (1, .ref (o + 96))]) hx hb dX2_copyFrom_25 hl (k := 0) rfl (by decide) (by decide) rfl (fun ls hl => ?_)
  refine lv_goto (tgt := 2) hx hb dX2_copyFrom_28 (by decide) ?_
  refine lv_iload_n hx hb dX2_copyFrom_2 rfl (lv_at hl 0 rfl) ?_
  refine lv_iconst (v := 4) hx hb dX2_copyFrom_3 (by decide) ?_
  refine lv_icmp_ge (tgt := 31) hx hb dX2_copyFrom_4 (by decide) (fun q => absurd q (by decide)) (fun _ => ?_)
  refine lv_aload_n hx hb dX2_copyFrom_7 rfl (lv_at hl 2 rfl) ?_
  refine x_get (k := 96) hE hK hI (by decide) inG2 (e_96 G o _ _) rfl 0 (by decide) mw_32 rfl dX2_copyFrom_8 ?_
  refine lv_iload_n hx hb dX2_copyFrom_11 rfl (lv_at hl 0 rfl) ?_
  refine x_aald (k := 97) (j := 2) (t0 := 5) (q := o + 100) hE hK hI (by decide) (e_97 G o) rfl rfl (by decide) (by decide) rfl rfl dX2_copyFrom_12 ?_
  refine lv_iconst (v := 0) hx hb dX2_copyFrom_13 (by decide) ?_
  refine lv_aload_n hx hb dX2_copyFrom_14 rfl (lv_at hl 1 rfl) ?_
  refine x_get (k := 2) hE hK hI (by decide) inG2 (e_2 G o _ _) rfl 0 (by decide) mw_32 rfl dX2_copyFrom_15 ?_
  refine lv_iload_n hx hb dX2_copyFrom_18 rfl (lv_at hl 0 rfl) ?_
  refine x_aald (k := 3) (j := 2) (t0 := 5) (q := o + 6) hE hK hI (by decide) (e_3 G o) rfl rfl (by decide) (by decide) rfl rfl dX2_copyFrom_19 ?_
  refine lv_iconst (v := 0) hx hb dX2_copyFrom_20 (by decide) ?_
  refine lv_iconst (v := 4) hx hb dX2_copyFrom_21 (by decide) ?_
  refine x_copy (k0 := 100) (k := 6) hE hK hI (by decide) (by decide) (e_100 G o) (e_6 G o) (hE.2.2.1.trans hl.1.symm) mw_457 (Nat.le_of_ble_eq_true rfl) (by decide +kernel) dX2_copyFrom_22 (fun H locs hI => ?_)
  refine lv_iinc (v := 3) (lv' := [(2, .int 3), (0, .ref (o + 2)), (1, .ref (o + 96))]) hx hb dX2_copyFrom_25 hl (k := 0) rfl (by decide) (by decide) rfl (fun ls hl => ?_)
  refine lv_goto (tgt := 2) hx hb dX2_copyFrom_28 (by decide) ?_
  refine lv_iload_n hx hb dX2_copyFrom_2 rfl (lv_at hl 0 rfl) ?_
  refine lv_iconst (v := 4) hx hb dX2_copyFrom_3 (by decide) ?_
  refine lv_icmp_ge (tgt := 31) hx hb dX2_copyFrom_4 (by decide) (fun q => absurd q (by decide)) (fun _ => ?_)
  refine lv_aload_n hx hb dX2_copyFrom_7 rfl (lv_at hl 2 rfl) ?_
  refine x_get (k := 96) hE hK hI (by decide) inG2 (e_96 G o _ _) rfl 0 (by decide) mw_32 rfl dX2_copyFrom_8 ?_
  refine lv_iload_n hx hb dX2_copyFrom_11 rfl (lv_at hl 0 rfl) ?_
  refine x_aald (k := 97) (j := 3) (t0 := 5) (q := o + 101) hE hK hI (by decide) (e_97 G o) rfl rfl (by decide) (by decide) rfl rfl dX2_copyFrom_12 ?_
  refine lv_iconst (v := 0) hx hb dX2_copyFrom_13 (by decide) ?_
  refine lv_aload_n hx hb dX2_copyFrom_14 rfl (lv_at hl 1 rfl) ?_
  refine x_get (k := 2) hE hK hI (by decide) inG2 (e_2 G o _ _) rfl 0 (by decide) mw_32 rfl dX2_copyFrom_15 ?_
  refine lv_iload_n hx hb dX2_copyFrom_18 rfl (lv_at hl 0 rfl) ?_
  refine x_aald (k := 3) (j := 3) (t0 := 5) (q := o + 7) hE hK hI (by decide) (e_3 G o) rfl rfl (by decide) (by decide) rfl rfl dX2_copyFrom_19 ?_
  refine lv_iconst (v := 0) hx hb dX2_copyFrom_20 (by decide) ?_
  refine lv_iconst (v := 4) hx hb dX2_copyFrom_21 (by decide) ?_
  refine x_copy (k0 := 101) (k := 7) hE hK hI (by decide) (by decide) (e_101 G o) (e_7 G o) (hE.2.2.1.trans hl.1.symm) mw_457 (Nat.le_of_ble_eq_true rfl) (by decide +kernel) dX2_copyFrom_22 (fun H locs hI => ?_)
  refine lv_iinc (v := 4) (lv' := [(2, .int 4), (0, .ref (o + 2)), (1, .ref (o + 96))]) hx hb dX2_copyFrom_25 hl (k := 0) rfl (by decide) (by decide) rfl (fun ls hl => ?_)
  refine lv_goto (tgt := 2) hx hb dX2_copyFrom_28 (by decide) ?_
  refine lv_iload_n hx hb dX2_copyFrom_2 rfl (lv_at hl 0 rfl) ?_
  refine lv_iconst (v := 4) hx hb dX2_copyFrom_3 (by decide) ?_
  refine lv_icmp_ge (tgt := 31) hx hb dX2_copyFrom_4 (by decide) (fun _ => ?_) (fun q => absurd (by decide) q)
  refine lv_aload_n hx hb dX2_copyFrom_31 rfl (lv_at hl 2 rfl) ?_
  refine x_get (k := 96) hE hK hI (by decide) inG2 (e_96 G o _ _) rfl 1 (by decide) mw_36 rfl dX2_copyFrom_32 ?_
  refine lv_iconst (v := 0) hx hb dX2_copyFrom_35 (by decide) ?_
  refine lv_aload_n hx hb dX2_copyFrom_36 rfl (lv_at hl 1 rfl) ?_
  refine x_get (k := 2) hE hK hI (by decide) inG2 (e_2 G o _ _) rfl 1 (by decide) mw_36 rfl dX2_copyFrom_37 ?_
  refine lv_iconst (v := 0) hx hb dX2_copyFrom_40 (by decide) ?_
  refine lv_iconst (v := 4) hx hb dX2_copyFrom_41 (by decide) ?_
  refine x_copy (k0 := 102) (k := 8) hE hK hI (by decide) (by decide) (e_102 G o) (e_8 G o) (hE.2.2.1.trans hl.1.symm) mw_457 (Nat.le_of_ble_eq_true rfl) (by decide +kernel) dX2_copyFrom_42 (fun H locs hI => ?_)
  refine lv_aload_n hx hb dX2_copyFrom_45 rfl (lv_at hl 2 rfl) ?_
  refine x_get (k := 96) hE hK hI (by decide) inG2 (e_96 G o _ _) rfl 2 (by decide) mw_39 rfl dX2_copyFrom_46 ?_
  refine lv_iconst (v := 0) hx hb dX2_copyFrom_49 (by decide) ?_
  refine lv_aload_n hx hb dX2_copyFrom_50 rfl (lv_at hl 1 rfl) ?_
  refine x_get (k := 2) hE hK hI (by decide) inG2 (e_2 G o _ _) rfl 2 (by decide) mw_39 rfl dX2_copyFrom_51 ?_
  refine lv_iconst (v := 0) hx hb dX2_copyFrom_54 (by decide) ?_
  refine lv_iconst (v := 4) hx hb dX2_copyFrom_55 (by decide) ?_
  refine x_copy (k0 := 103) (k := 9) hE hK hI (by decide) (by decide) (e_103 G o) (e_9 G o) (hE.2.2.1.trans hl.1.symm) mw_457 (Nat.le_of_ble_eq_true rfl) (by decide +kernel) dX2_copyFrom_56 (fun H locs hI => ?_)
  refine lv_aload_n hx hb dX2_copyFrom_59 rfl (lv_at hl 2 rfl) ?_
  refine x_get (k := 96) hE hK hI (by decide) inG2 (e_96 G o _ _) rfl 3 (by decide) mw_42 rfl dX2_copyFrom_60 ?_
  refine lv_iconst (v := 0) hx hb dX2_copyFrom_63 (by decide) ?_
  refine lv_aload_n hx hb dX2_copyFrom_64 rfl (lv_at hl 1 rfl) ?_
  refine x_get (k := 2) hE hK hI (by decide) inG2 (e_2 G o _ _) rfl 3 (by decide) mw_42 rfl dX2_copyFrom_65 ?_
  refine lv_iconst (v := 0) hx hb dX2_copyFrom_68 (by decide) ?_
  refine lv_iconst (v := 4) hx hb dX2_copyFrom_69 (by decide) ?_
  refine x_copy (k0 := 104) (k := 10) hE hK hI (by decide) (by decide) (e_104 G o) (e_10 G o) (hE.2.2.1.trans hl.1.symm) mw_457 (Nat.le_of_ble_eq_true rfl) (by decide +kernel) dX2_copyFrom_70 (fun H locs hI => ?_)
  refine lv_aload_n hx hb dX2_copyFrom_73 rfl (lv_at hl 1 rfl) ?_
  refine lv_aload_n hx hb dX2_copyFrom_74 rfl (lv_at hl 2 rfl) ?_
  refine x_get (k := 96) hE hK hI (by decide) inG2 (e_96 G o _ _) rfl 4 (by decide) mw_45 rfl dX2_copyFrom_75 ?_
  refine lv_topi (fun z1 ez1 => ?_)
  obtain rfl : X 96 4 = z1 := (ez1.trans ((cx_o (by omega)).trans ((cx_o (by omega)).trans ((cx_o (by omega)).trans ((cx_o (by omega)).trans ((cx_o (by omega)).trans ((cx_o (by omega)).trans ((cx_o (by omega)))))))))).symm
  refine x_puti (k := 2) hE hK hI (by decide) inG2 tyX2 tyX2_ok nmX2 (e_2 G o) rfl 4 (by decide) mw_45 rfl (by decide +kernel) (by exact Nat.le_of_ble_eq_true rfl) rfl dX2_copyFrom_78 (fun H locs hI => ?_)
  refine lv_aload_n hx hb dX2_copyFrom_81 rfl (lv_at hl 1 rfl) ?_
  refine lv_aload_n hx hb dX2_copyFrom_82 rfl (lv_at hl 2 rfl) ?_
  refine x_get (k := 96) hE hK hI (by decide) inG2 (e_96 G o _ _) rfl 5 (by decide) mw_48 rfl dX2_copyFrom_83 ?_
  refine lv_topi (fun z2 ez2 => ?_)
  obtain rfl : X 96 5 = z2 := (ez2.trans ((sx_o (by decide)).trans ((cx_o (by omega)).trans ((cx_o (by omega)).trans ((cx_o (by omega)).trans ((cx_o (by omega)).trans ((cx_o (by omega)).trans ((cx_o (by omega)).trans ((cx_o (by omega))))))))))).symm
  refine x_puti (k := 2) hE hK hI (by decide) inG2 tyX2 tyX2_ok nmX2 (e_2 G o) rfl 5 (by decide) mw_48 rfl (by decide +kernel) (by exact Nat.le_of_ble_eq_true rfl) rfl dX2_copyFrom_86 (fun H locs hI => ?_)
  exact x_vret hE hr hlocks hI rfl rfl rfl dX2_copyFrom_89
def cl_1_95 (X : SX) : Nat → SX
  | 0 => X
  | k + 1 => lc_14_108_X (cl_1_95 X k) k
theorem lc_14_108_X_o {X : SX} {i k j : Nat} (h : k ≠ 14 + 2 * i) (h2 : k ≠ 15 + 2 * i) : lc_14_108_X X i k j = X k j := by
  unfold lc_14_108_X
  simp (disch := omega) only [sx_o, cx_o]
theorem cl_1_95_o {X : SX} {k j : Nat} : ∀ n : Nat, n ≤ 40 → (k < 14 ∨ 14 + 2 * n ≤ k) → cl_1_95 X n k j = X k j
  | 0, _, _ => rfl
  | n + 1, hn, h => by
    show lc_14_108_X (cl_1_95 X n) n k j = X k j
    rw [lc_14_108_X_o (by omega) (by omega)]
    exact cl_1_95_o n (by omega) (by omega)
def si_1_95_X (X : SX) (cnt : Nat) : SX := sx (sx (sx (sx (sx (sx (sx (cx (cl_1_95 X cnt) 107 13) 11 2 (nI cnt)) 11 3 (X 105 3)) 11 4 (X 105 4)) 11 5 (X 105 5)) 11 6 (X 105 6)) 11 7 (X 105 7)) 11 8 (X 105 8)
set_option maxRecDepth 100000 in
set_option maxHeartbeats 4000000 in
theorem lp_X3_copyFrom_1_95 (l : Launch) (G : GG) (o : Nat) (X : SX) (Y : SY) (cnt : Nat) (hc : X 105 2 = nI cnt) (h40 : cnt ≤ 40) {p9 : Program} {e9 : Env} {s9 : State} {m9 : MethodId} {args9 : Array Value} {below9 : List Frame} {meth9 : Method} {c9 : Code} (hE : gE p9 m9 c9 cX3_copyFrom 3 s9 args9 yX3_copyFrom.cls) (hr : meth9.sig.returnType = none) (hlocks : meth9.locks = false) (hK : KK G s9) :
    ∀ (n : Nat) (i : Nat), i + n = cnt → ∀ (H : Heap) (locs : List Loc), In G o (cl_1_95 X i) Y s9.heap H locs → ∀ ls : Array Slot, lv_has ls 3 [(0, .ref (o + 11)), (1, .ref (o + 105)), (2, .int (nI i))] → W p9 l e9 (Rm 2 81) s9 m9 args9 below9 meth9 c9 H locs 0 0 (MQ below9 (Qw G o none (si_1_95_X X cnt) Y) args9 s9 0 0 (rg o)) (F0 m9 2 ls []) := by
  have hx := hE.1
  have hb := hE.2.1
  intro n
  induction n with
  | zero =>
    intro i hi H locs hI ls hl
    have ei : i = cnt := by omega
    refine lv_iload_n hx hb dX3_copyFrom_2 rfl (lv_at hl 2 rfl) ?_
    refine lv_aload_n hx hb dX3_copyFrom_3 rfl (lv_at hl 1 rfl) ?_
    refine x_get (k := 105) hE hK hI (by decide) inG3 (e_105 G o _ _) rfl 2 (by decide) mw_106 rfl dX3_copyFrom_4 ?_
    refine lv_topi (fun z1 ez1 => ?_)
    obtain rfl : nI cnt = z1 := (ez1.trans (((cl_1_95_o i (by omega) (by omega)).trans hc))).symm
    refine lv_icmp_ge (tgt := 31) hx hb dX3_copyFrom_7 (by decide) (fun _ => ?_) (fun q => absurd (nI_le (by omega) (by omega)) q)
    refine lv_aload_n hx hb dX3_copyFrom_31 rfl (lv_at hl 1 rfl) ?_
    refine x_get (k := 105) hE hK hI (by decide) inG3 (e_105 G o _ _) rfl 1 (by decide) mw_104 rfl dX3_copyFrom_32 ?_
    refine lv_iconst (v := 0) hx hb dX3_copyFrom_35 (by decide) ?_
    refine lv_aload_n hx hb dX3_copyFrom_36 rfl (lv_at hl 0 rfl) ?_
    refine x_get (k := 11) hE hK hI (by decide) inG3 (e_11 G o _ _) rfl 1 (by decide) mw_104 rfl dX3_copyFrom_37 ?_
    refine lv_iconst (v := 0) hx hb dX3_copyFrom_40 (by decide) ?_
    refine lv_iconst (v := 4) hx hb dX3_copyFrom_41 (by decide) ?_
    refine x_copy (k0 := 107) (k := 13) hE hK hI (by decide) (by decide) (e_107 G o) (e_13 G o) (hE.2.2.1.trans hl.1.symm) mw_469 (Nat.le_of_ble_eq_true rfl) (by decide +kernel) dX3_copyFrom_42 (fun H locs hI => ?_)
    refine lv_aload_n hx hb dX3_copyFrom_45 rfl (lv_at hl 0 rfl) ?_
    refine lv_aload_n hx hb dX3_copyFrom_46 rfl (lv_at hl 1 rfl) ?_
    refine x_get (k := 105) hE hK hI (by decide) inG3 (e_105 G o _ _) rfl 2 (by decide) mw_106 rfl dX3_copyFrom_47 ?_
    refine lv_topi (fun z2 ez2 => ?_)
    obtain rfl : nI cnt = z2 := (ez2.trans ((cx_o (by omega)).trans (((cl_1_95_o i (by omega) (by omega)).trans hc)))).symm
    refine x_puti (k := 11) hE hK hI (by decide) inG3 tyX3 tyX3_ok nmX3 (e_11 G o) rfl 2 (by decide) mw_106 rfl (by decide +kernel) (by exact Nat.le_of_ble_eq_true rfl) rfl dX3_copyFrom_50 (fun H locs hI => ?_)
    refine lv_aload_n hx hb dX3_copyFrom_53 rfl (lv_at hl 0 rfl) ?_
    refine lv_aload_n hx hb dX3_copyFrom_54 rfl (lv_at hl 1 rfl) ?_
    refine x_get (k := 105) hE hK hI (by decide) inG3 (e_105 G o _ _) rfl 3 (by decide) mw_108 rfl dX3_copyFrom_55 ?_
    refine lv_topi (fun z3 ez3 => ?_)
    obtain rfl : X 105 3 = z3 := (ez3.trans ((sx_o (by decide)).trans ((cx_o (by omega)).trans (((cl_1_95_o i (by omega) (by omega)).trans rfl))))).symm
    refine x_puti (k := 11) hE hK hI (by decide) inG3 tyX3 tyX3_ok nmX3 (e_11 G o) rfl 3 (by decide) mw_108 rfl (by decide +kernel) (by exact Nat.le_of_ble_eq_true rfl) rfl dX3_copyFrom_58 (fun H locs hI => ?_)
    refine lv_aload_n hx hb dX3_copyFrom_61 rfl (lv_at hl 0 rfl) ?_
    refine lv_aload_n hx hb dX3_copyFrom_62 rfl (lv_at hl 1 rfl) ?_
    refine x_get (k := 105) hE hK hI (by decide) inG3 (e_105 G o _ _) rfl 4 (by decide) mw_110 rfl dX3_copyFrom_63 ?_
    refine lv_topi (fun z4 ez4 => ?_)
    obtain rfl : X 105 4 = z4 := (ez4.trans ((sx_o (by decide)).trans ((sx_o (by decide)).trans ((cx_o (by omega)).trans (((cl_1_95_o i (by omega) (by omega)).trans rfl)))))).symm
    refine x_puti (k := 11) hE hK hI (by decide) inG3 tyX3 tyX3_ok nmX3 (e_11 G o) rfl 4 (by decide) mw_110 rfl (by decide +kernel) (by exact Nat.le_of_ble_eq_true rfl) rfl dX3_copyFrom_66 (fun H locs hI => ?_)
    refine lv_aload_n hx hb dX3_copyFrom_69 rfl (lv_at hl 0 rfl) ?_
    refine lv_aload_n hx hb dX3_copyFrom_70 rfl (lv_at hl 1 rfl) ?_
    refine x_get (k := 105) hE hK hI (by decide) inG3 (e_105 G o _ _) rfl 5 (by decide) mw_111 rfl dX3_copyFrom_71 ?_
    refine lv_topi (fun z5 ez5 => ?_)
    obtain rfl : X 105 5 = z5 := (ez5.trans ((sx_o (by decide)).trans ((sx_o (by decide)).trans ((sx_o (by decide)).trans ((cx_o (by omega)).trans (((cl_1_95_o i (by omega) (by omega)).trans rfl))))))).symm
    refine x_puti (k := 11) hE hK hI (by decide) inG3 tyX3 tyX3_ok nmX3 (e_11 G o) rfl 5 (by decide) mw_111 rfl (by decide +kernel) (by exact Nat.le_of_ble_eq_true rfl) rfl dX3_copyFrom_74 (fun H locs hI => ?_)
    refine lv_aload_n hx hb dX3_copyFrom_77 rfl (lv_at hl 0 rfl) ?_
    refine lv_aload_n hx hb dX3_copyFrom_78 rfl (lv_at hl 1 rfl) ?_
    refine x_get (k := 105) hE hK hI (by decide) inG3 (e_105 G o _ _) rfl 6 (by decide) mw_113 rfl dX3_copyFrom_79 ?_
    refine lv_topi (fun z6 ez6 => ?_)
    obtain rfl : X 105 6 = z6 := (ez6.trans ((sx_o (by decide)).trans ((sx_o (by decide)).trans ((sx_o (by decide)).trans ((sx_o (by decide)).trans ((cx_o (by omega)).trans (((cl_1_95_o i (by omega) (by omega)).trans rfl)))))))).symm
    refine x_puti (k := 11) hE hK hI (by decide) inG3 tyX3 tyX3_ok nmX3 (e_11 G o) rfl 6 (by decide) mw_113 rfl (by decide +kernel) (by exact Nat.le_of_ble_eq_true rfl) rfl dX3_copyFrom_82 (fun H locs hI => ?_)
    refine lv_aload_n hx hb dX3_copyFrom_85 rfl (lv_at hl 0 rfl) ?_
    refine lv_aload_n hx hb dX3_copyFrom_86 rfl (lv_at hl 1 rfl) ?_
    refine x_get (k := 105) hE hK hI (by decide) inG3 (e_105 G o _ _) rfl 7 (by decide) mw_115 rfl dX3_copyFrom_87 ?_
    refine lv_topi (fun z7 ez7 => ?_)
    obtain rfl : X 105 7 = z7 := (ez7.trans ((sx_o (by decide)).trans ((sx_o (by decide)).trans ((sx_o (by decide)).trans ((sx_o (by decide)).trans ((sx_o (by decide)).trans ((cx_o (by omega)).trans (((cl_1_95_o i (by omega) (by omega)).trans rfl))))))))).symm
    refine x_puti (k := 11) hE hK hI (by decide) inG3 tyX3 tyX3_ok nmX3 (e_11 G o) rfl 7 (by decide) mw_115 rfl (by decide +kernel) (by exact Nat.le_of_ble_eq_true rfl) rfl dX3_copyFrom_90 (fun H locs hI => ?_)
    refine lv_aload_n hx hb dX3_copyFrom_93 rfl (lv_at hl 0 rfl) ?_
    refine lv_aload_n hx hb dX3_copyFrom_94 rfl (lv_at hl 1 rfl) ?_
    refine x_get (k := 105) hE hK hI (by decide) inG3 (e_105 G o _ _) rfl 8 (by decide) mw_117 rfl dX3_copyFrom_95 ?_
    refine lv_topi (fun z8 ez8 => ?_)
    obtain rfl : X 105 8 = z8 := (ez8.trans ((sx_o (by decide)).trans ((sx_o (by decide)).trans ((sx_o (by decide)).trans ((sx_o (by decide)).trans ((sx_o (by decide)).trans ((sx_o (by decide)).trans ((cx_o (by omega)).trans (((cl_1_95_o i (by omega) (by omega)).trans rfl)))))))))).symm
    refine x_puti (k := 11) hE hK hI (by decide) inG3 tyX3 tyX3_ok nmX3 (e_11 G o) rfl 8 (by decide) mw_117 rfl (by decide +kernel) (by exact Nat.le_of_ble_eq_true rfl) rfl dX3_copyFrom_98 (fun H locs hI => ?_)
    exact x_vret hE hr hlocks hI rfl (by rw [ei]; rfl) rfl dX3_copyFrom_101
  | succ n ih =>
    intro i hi H locs hI ls hl
    have h_i : i < 40 := by omega
    refine lv_iload_n hx hb dX3_copyFrom_2 rfl (lv_at hl 2 rfl) ?_
    refine lv_aload_n hx hb dX3_copyFrom_3 rfl (lv_at hl 1 rfl) ?_
    refine x_get (k := 105) hE hK hI (by decide) inG3 (e_105 G o _ _) rfl 2 (by decide) mw_106 rfl dX3_copyFrom_4 ?_
    refine lv_topi (fun z1 ez1 => ?_)
    obtain rfl : nI cnt = z1 := (ez1.trans (((cl_1_95_o i (by omega) (by omega)).trans hc))).symm
    refine lv_icmp_ge (tgt := 31) hx hb dX3_copyFrom_7 (by decide) (fun q => absurd q (nI_ge (by omega) (by omega))) (fun _ => ?_)
    refine lv_aload_n hx hb dX3_copyFrom_10 rfl (lv_at hl 0 rfl) ?_
    refine x_get (k := 11) hE hK hI (by decide) inG3 (e_11 G o _ _) rfl 0 (by decide) mw_102 rfl dX3_copyFrom_11 ?_
    refine lv_iload_n hx hb dX3_copyFrom_14 rfl (lv_at hl 2 rfl) ?_
    refine x_aald (k := 12) (j := i) (t0 := 3) (q := o + (14 + 2 * i)) hE hK hI (by decide) (e_12 G o) rfl rfl h_i (by decide) rfl (ql_14 h_i) dX3_copyFrom_15 ?_
    refine lv_aload_n hx hb dX3_copyFrom_16 rfl (lv_at hl 1 rfl) ?_
    refine x_get (k := 105) hE hK hI (by decide) inG3 (e_105 G o _ _) rfl 0 (by decide) mw_102 rfl dX3_copyFrom_17 ?_
    refine lv_iload_n hx hb dX3_copyFrom_20 rfl (lv_at hl 2 rfl) ?_
    refine x_aald (k := 106) (j := i) (t0 := 3) (q := o + (108 + 2 * i)) hE hK hI (by decide) (e_106 G o) rfl rfl h_i (by decide) rfl (ql_108 h_i) dX3_copyFrom_21 ?_
    refine x_callVv (k := (14 + 2 * i)) hE hK hI (c_X0_copyFrom_14_108 l G o _ _ i h_i) mf_X0_copyFrom mw_464 (by have := h_i; omega) ((el_14 G o h_i) _ _) rfl rfl hl.1 rfl (Nat.le_of_ble_eq_true rfl) ⟨(Nat.le_of_ble_eq_true rfl), (Nat.le_of_ble_eq_true rfl)⟩ ⟨Nat.zero_le _, Nat.zero_le _⟩ dX3_copyFrom_22 (fun H locs hI => ?_)
    refine lv_iinc (v := nI (i + 1)) (lv' := [(2, .int (nI (i + 1))), (0, .ref (o + 11)), (1, .ref (o + 105))]) hx hb dX3_copyFrom_25 hl (k := 2) rfl (nI_add i 1) (by decide) rfl (fun ls hl => ?_)
    refine lv_goto (tgt := 2) hx hb dX3_copyFrom_28 (by decide) ?_
    exact ih (i + 1) (by omega) H locs hI ls (lv_sub hl [1, 2, 0] rfl)
set_option maxRecDepth 100000 in
set_option maxHeartbeats 4000000 in
theorem c_X3_copyFrom_1_95 (l : Launch) (G : GG) (o : Nat) (X : SX) (Y : SY) (cnt : Nat) (hc : X 105 2 = nI cnt) (h40 : cnt ≤ 40) : Ct l yX3_copyFrom cX3_copyFrom 3 none 2 81 G o [.ref (o + 11), .ref (o + 105)] X Y none (si_1_95_X X cnt) Y := by
  refine Ct.mk (by decide +kernel) (Nat.le_of_ble_eq_true rfl) rfl ?_
  intro p9 e9 s9 m9 args9 below9 meth9 c9 hE hr hlocks hK hI ls hl
  have hx := hE.1
  have hb := hE.2.1
  have hl : lv_has ls 3 [(0, .ref (o + 11)), (1, .ref (o + 105))] := hl
  refine lv_iconst (v := 0) hx hb dX3_copyFrom_0 (by decide) ?_
  refine lv_istore_n (lv' := [(2, .int 0), (0, .ref (o + 11)), (1, .ref (o + 105))]) hx hb dX3_copyFrom_1 rfl hl (by decide) rfl (fun ls hl => ?_)
  exact lp_X3_copyFrom_1_95 l G o X Y cnt hc h40 hE hr hlocks hK cnt 0 (by omega) _ _ hI ls (lv_sub hl [1, 2, 0] rfl)
theorem se_1_95_X_o {X : SX} {k j : Nat} (h : k < 2 ∨ 10 < k) : se_1_95_X X k j = X k j := by
  unfold se_1_95_X
  simp (disch := omega) only [sx_o, cx_o]
def pc_1_95_X (X : SX) (cnt : Nat) : SX := si_1_95_X (se_1_95_X X) cnt
set_option maxRecDepth 100000 in
set_option maxHeartbeats 4000000 in
theorem c_X1_copyFrom_1_95 (l : Launch) (G : GG) (o : Nat) (X : SX) (Y : SY) (cnt : Nat) (hc : X 105 2 = nI cnt) (h40 : cnt ≤ 40) : Ct l yX1_copyFrom cX1_copyFrom 2 none 3 103 G o [.ref (o + 1), .ref (o + 95)] X Y none (pc_1_95_X X cnt) Y := by
  refine Ct.mk (by decide +kernel) (Nat.le_of_ble_eq_true rfl) rfl ?_
  intro p9 e9 s9 m9 args9 below9 meth9 c9 hE hr hlocks hK hI ls hl
  have hx := hE.1
  have hb := hE.2.1
  have hl : lv_has ls 2 [(0, .ref (o + 1)), (1, .ref (o + 95))] := hl
  refine lv_aload_n hx hb dX1_copyFrom_0 rfl (lv_at hl 0 rfl) ?_
  refine x_get (k := 1) hE hK hI (by decide) inG1 (e_1 G o _ _) rfl 0 (by decide) mw_138 rfl dX1_copyFrom_1 ?_
  refine lv_aload_n hx hb dX1_copyFrom_4 rfl (lv_at hl 1 rfl) ?_
  refine x_get (k := 95) hE hK hI (by decide) inG1 (e_95 G o _ _) rfl 0 (by decide) mw_138 rfl dX1_copyFrom_5 ?_
  refine x_callVv (k := 2) hE hK hI (c_X2_copyFrom_1_95 l G o _ _  ) mf_X2_copyFrom mw_453 (by decide) ((e_2 G o) _ _) rfl rfl hl.1 rfl (Nat.le_of_ble_eq_true rfl) ⟨(Nat.le_of_ble_eq_true rfl), (Nat.le_of_ble_eq_true rfl)⟩ ⟨Nat.zero_le _, Nat.zero_le _⟩ dX1_copyFrom_8 (fun H locs hI => ?_)
  refine lv_aload_n hx hb dX1_copyFrom_11 rfl (lv_at hl 0 rfl) ?_
  refine x_get (k := 1) hE hK hI (by decide) inG1 (e_1 G o _ _) rfl 1 (by decide) mw_140 rfl dX1_copyFrom_12 ?_
  refine lv_aload_n hx hb dX1_copyFrom_15 rfl (lv_at hl 1 rfl) ?_
  refine x_get (k := 95) hE hK hI (by decide) inG1 (e_95 G o _ _) rfl 1 (by decide) mw_140 rfl dX1_copyFrom_16 ?_
  refine x_callVv (k := 11) hE hK hI (c_X3_copyFrom_1_95 l G o _ _ cnt ((se_1_95_X_o (by omega)).trans hc) h40) mf_X3_copyFrom mw_460 (by decide) ((e_11 G o) _ _) rfl rfl hl.1 rfl (Nat.le_of_ble_eq_true rfl) ⟨(Nat.le_of_ble_eq_true rfl), (Nat.le_of_ble_eq_true rfl)⟩ ⟨Nat.zero_le _, Nat.zero_le _⟩ dX1_copyFrom_19 (fun H locs hI => ?_)
  exact x_vret hE hr hlocks hI rfl rfl rfl dX1_copyFrom_22
def se_1_188_X (X : SX) : SX := sx (sx (cx (cx (cx (cx (cx (cx (cx X 191 4) 192 5) 193 6) 194 7) 195 8) 196 9) 197 10) 2 4 (X 189 4)) 2 5 (X 189 5)
set_option maxRecDepth 100000 in
set_option maxHeartbeats 4000000 in
theorem c_X2_copyFrom_1_188 (l : Launch) (G : GG) (o : Nat) (X : SX) (Y : SY) : Ct l yX2_copyFrom cX2_copyFrom 3 none 1 60 G o [.ref (o + 2), .ref (o + 189)] X Y none (se_1_188_X X) Y := by
  refine Ct.mk (by decide +kernel) (Nat.le_of_ble_eq_true rfl) rfl ?_
  intro p9 e9 s9 m9 args9 below9 meth9 c9 hE hr hlocks hK hI ls hl
  have hx := hE.1
  have hb := hE.2.1
  have hl : lv_has ls 3 [(0, .ref (o + 2)), (1, .ref (o + 189))] := hl
  refine lv_iconst (v := 0) hx hb dX2_copyFrom_0 (by decide) ?_
  refine lv_istore_n (lv' := [(2, .int 0), (0, .ref (o + 2)), (1, .ref (o + 189))]) hx hb dX2_copyFrom_1 rfl hl (by decide) rfl (fun ls hl => ?_)
  refine lv_iload_n hx hb dX2_copyFrom_2 rfl (lv_at hl 0 rfl) ?_
  refine lv_iconst (v := 4) hx hb dX2_copyFrom_3 (by decide) ?_
  refine lv_icmp_ge (tgt := 31) hx hb dX2_copyFrom_4 (by decide) (fun q => absurd q (by decide)) (fun _ => ?_)
  refine lv_aload_n hx hb dX2_copyFrom_7 rfl (lv_at hl 2 rfl) ?_
  refine x_get (k := 189) hE hK hI (by decide) inG2 (e_189 G o _ _) rfl 0 (by decide) mw_32 rfl dX2_copyFrom_8 ?_
  refine lv_iload_n hx hb dX2_copyFrom_11 rfl (lv_at hl 0 rfl) ?_
  refine x_aald (k := 190) (j := 0) (t0 := 5) (q := o + 191) hE hK hI (by decide) (e_190 G o) rfl rfl (by decide) (by decide) rfl rfl dX2_copyFrom_12 ?_
  refine lv_iconst (v := 0) hx hb dX2_copyFrom_13 (by decide) ?_
  refine lv_aload_n hx hb dX2_copyFrom_14 rfl (lv_at hl 1 rfl) ?_
  refine x_get (k := 2) hE hK hI (by decide) inG2 (e_2 G o _ _) rfl 0 (by decide) mw_32 rfl dX2_copyFrom_15 ?_
  refine lv_iload_n hx hb dX2_copyFrom_18 rfl (lv_at hl 0 rfl) ?_
  refine x_aald (k := 3) (j := 0) (t0 := 5) (q := o + 4) hE hK hI (by decide) (e_3 G o) rfl rfl (by decide) (by decide) rfl rfl dX2_copyFrom_19 ?_
  refine lv_iconst (v := 0) hx hb dX2_copyFrom_20 (by decide) ?_
  refine lv_iconst (v := 4) hx hb dX2_copyFrom_21 (by decide) ?_
  refine x_copy (k0 := 191) (k := 4) hE hK hI (by decide) (by decide) (e_191 G o) (e_4 G o) (hE.2.2.1.trans hl.1.symm) mw_457 (Nat.le_of_ble_eq_true rfl) (by decide +kernel) dX2_copyFrom_22 (fun H locs hI => ?_)
  refine lv_iinc (v := 1) (lv' := [(2, .int 1), (0, .ref (o + 2)), (1, .ref (o + 189))]) hx hb dX2_copyFrom_25 hl (k := 0) rfl (by decide) (by decide) rfl (fun ls hl => ?_)
  refine lv_goto (tgt := 2) hx hb dX2_copyFrom_28 (by decide) ?_
  refine lv_iload_n hx hb dX2_copyFrom_2 rfl (lv_at hl 0 rfl) ?_
  refine lv_iconst (v := 4) hx hb dX2_copyFrom_3 (by decide) ?_
  refine lv_icmp_ge (tgt := 31) hx hb dX2_copyFrom_4 (by decide) (fun q => absurd q (by decide)) (fun _ => ?_)
  refine lv_aload_n hx hb dX2_copyFrom_7 rfl (lv_at hl 2 rfl) ?_
  refine x_get (k := 189) hE hK hI (by decide) inG2 (e_189 G o _ _) rfl 0 (by decide) mw_32 rfl dX2_copyFrom_8 ?_
  refine lv_iload_n hx hb dX2_copyFrom_11 rfl (lv_at hl 0 rfl) ?_
  refine x_aald (k := 190) (j := 1) (t0 := 5) (q := o + 192) hE hK hI (by decide) (e_190 G o) rfl rfl (by decide) (by decide) rfl rfl dX2_copyFrom_12 ?_
  refine lv_iconst (v := 0) hx hb dX2_copyFrom_13 (by decide) ?_
  refine lv_aload_n hx hb dX2_copyFrom_14 rfl (lv_at hl 1 rfl) ?_
  refine x_get (k := 2) hE hK hI (by decide) inG2 (e_2 G o _ _) rfl 0 (by decide) mw_32 rfl dX2_copyFrom_15 ?_
  refine lv_iload_n hx hb dX2_copyFrom_18 rfl (lv_at hl 0 rfl) ?_
  refine x_aald (k := 3) (j := 1) (t0 := 5) (q := o + 5) hE hK hI (by decide) (e_3 G o) rfl rfl (by decide) (by decide) rfl rfl dX2_copyFrom_19 ?_
  refine lv_iconst (v := 0) hx hb dX2_copyFrom_20 (by decide) ?_
  refine lv_iconst (v := 4) hx hb dX2_copyFrom_21 (by decide) ?_
  refine x_copy (k0 := 192) (k := 5) hE hK hI (by decide) (by decide) (e_192 G o) (e_5 G o) (hE.2.2.1.trans hl.1.symm) mw_457 (Nat.le_of_ble_eq_true rfl) (by decide +kernel) dX2_copyFrom_22 (fun H locs hI => ?_)
  refine lv_iinc (v := 2) (lv' := [(2, .int 2), (0, .ref (o + 2)), (1, .ref (o + 189))]) hx hb dX2_copyFrom_25 hl (k := 0) rfl (by decide) (by decide) rfl (fun ls hl => ?_)
  refine lv_goto (tgt := 2) hx hb dX2_copyFrom_28 (by decide) ?_
  refine lv_iload_n hx hb dX2_copyFrom_2 rfl (lv_at hl 0 rfl) ?_
  refine lv_iconst (v := 4) hx hb dX2_copyFrom_3 (by decide) ?_
  refine lv_icmp_ge (tgt := 31) hx hb dX2_copyFrom_4 (by decide) (fun q => absurd q (by decide)) (fun _ => ?_)
  refine lv_aload_n hx hb dX2_copyFrom_7 rfl (lv_at hl 2 rfl) ?_
  refine x_get (k := 189) hE hK hI (by decide) inG2 (e_189 G o _ _) rfl 0 (by decide) mw_32 rfl dX2_copyFrom_8 ?_
  refine lv_iload_n hx hb dX2_copyFrom_11 rfl (lv_at hl 0 rfl) ?_
  refine x_aald (k := 190) (j := 2) (t0 := 5) (q := o + 193) hE hK hI (by decide) (e_190 G o) rfl rfl (by decide) (by decide) rfl rfl dX2_copyFrom_12 ?_
  refine lv_iconst (v := 0) hx hb dX2_copyFrom_13 (by decide) ?_
  refine lv_aload_n hx hb dX2_copyFrom_14 rfl (lv_at hl 1 rfl) ?_
  refine x_get (k := 2) hE hK hI (by decide) inG2 (e_2 G o _ _) rfl 0 (by decide) mw_32 rfl dX2_copyFrom_15 ?_
  refine lv_iload_n hx hb dX2_copyFrom_18 rfl (lv_at hl 0 rfl) ?_
  refine x_aald (k := 3) (j := 2) (t0 := 5) (q := o + 6) hE hK hI (by decide) (e_3 G o) rfl rfl (by decide) (by decide) rfl rfl dX2_copyFrom_19 ?_
  refine lv_iconst (v := 0) hx hb dX2_copyFrom_20 (by decide) ?_
  refine lv_iconst (v := 4) hx hb dX2_copyFrom_21 (by decide) ?_
  refine x_copy (k0 := 193) (k := 6) hE hK hI (by decide) (by decide) (e_193 G o) (e_6 G o) (hE.2.2.1.trans hl.1.symm) mw_457 (Nat.le_of_ble_eq_true rfl) (by decide +kernel) dX2_copyFrom_22 (fun H locs hI => ?_)
  refine lv_iinc (v := 3) (lv' := [(2, .int 3), (0, .ref (o + 2)), (1, .ref (o + 189))]) hx hb dX2_copyFrom_25 hl (k := 0) rfl (by decide) (by decide) rfl (fun ls hl => ?_)
  refine lv_goto (tgt := 2) hx hb dX2_copyFrom_28 (by decide) ?_
  refine lv_iload_n hx hb dX2_copyFrom_2 rfl (lv_at hl 0 rfl) ?_
  refine lv_iconst (v := 4) hx hb dX2_copyFrom_3 (by decide) ?_
  refine lv_icmp_ge (tgt := 31) hx hb dX2_copyFrom_4 (by decide) (fun q => absurd q (by decide)) (fun _ => ?_)
  refine lv_aload_n hx hb dX2_copyFrom_7 rfl (lv_at hl 2 rfl) ?_
  refine x_get (k := 189) hE hK hI (by decide) inG2 (e_189 G o _ _) rfl 0 (by decide) mw_32 rfl dX2_copyFrom_8 ?_
  refine lv_iload_n hx hb dX2_copyFrom_11 rfl (lv_at hl 0 rfl) ?_
  refine x_aald (k := 190) (j := 3) (t0 := 5) (q := o + 194) hE hK hI (by decide) (e_190 G o) rfl rfl (by decide) (by decide) rfl rfl dX2_copyFrom_12 ?_
  refine lv_iconst (v := 0) hx hb dX2_copyFrom_13 (by decide) ?_
  refine lv_aload_n hx hb dX2_copyFrom_14 rfl (lv_at hl 1 rfl) ?_
  refine x_get (k := 2) hE hK hI (by decide) inG2 (e_2 G o _ _) rfl 0 (by decide) mw_32 rfl dX2_copyFrom_15 ?_
  refine lv_iload_n hx hb dX2_copyFrom_18 rfl (lv_at hl 0 rfl) ?_
  refine x_aald (k := 3) (j := 3) (t0 := 5) (q := o + 7) hE hK hI (by decide) (e_3 G o) rfl rfl (by decide) (by decide) rfl rfl dX2_copyFrom_19 ?_
  refine lv_iconst (v := 0) hx hb dX2_copyFrom_20 (by decide) ?_
  refine lv_iconst (v := 4) hx hb dX2_copyFrom_21 (by decide) ?_
  refine x_copy (k0 := 194) (k := 7) hE hK hI (by decide) (by decide) (e_194 G o) (e_7 G o) (hE.2.2.1.trans hl.1.symm) mw_457 (Nat.le_of_ble_eq_true rfl) (by decide +kernel) dX2_copyFrom_22 (fun H locs hI => ?_)
  refine lv_iinc (v := 4) (lv' := [(2, .int 4), (0, .ref (o + 2)), (1, .ref (o + 189))]) hx hb dX2_copyFrom_25 hl (k := 0) rfl (by decide) (by decide) rfl (fun ls hl => ?_)
  refine lv_goto (tgt := 2) hx hb dX2_copyFrom_28 (by decide) ?_
  refine lv_iload_n hx hb dX2_copyFrom_2 rfl (lv_at hl 0 rfl) ?_
  refine lv_iconst (v := 4) hx hb dX2_copyFrom_3 (by decide) ?_
  refine lv_icmp_ge (tgt := 31) hx hb dX2_copyFrom_4 (by decide) (fun _ => ?_) (fun q => absurd (by decide) q)
  refine lv_aload_n hx hb dX2_copyFrom_31 rfl (lv_at hl 2 rfl) ?_
  refine x_get (k := 189) hE hK hI (by decide) inG2 (e_189 G o _ _) rfl 1 (by decide) mw_36 rfl dX2_copyFrom_32 ?_
  refine lv_iconst (v := 0) hx hb dX2_copyFrom_35 (by decide) ?_
  refine lv_aload_n hx hb dX2_copyFrom_36 rfl (lv_at hl 1 rfl) ?_
  refine x_get (k := 2) hE hK hI (by decide) inG2 (e_2 G o _ _) rfl 1 (by decide) mw_36 rfl dX2_copyFrom_37 ?_
  refine lv_iconst (v := 0) hx hb dX2_copyFrom_40 (by decide) ?_
  refine lv_iconst (v := 4) hx hb dX2_copyFrom_41 (by decide) ?_
  refine x_copy (k0 := 195) (k := 8) hE hK hI (by decide) (by decide) (e_195 G o) (e_8 G o) (hE.2.2.1.trans hl.1.symm) mw_457 (Nat.le_of_ble_eq_true rfl) (by decide +kernel) dX2_copyFrom_42 (fun H locs hI => ?_)
  refine lv_aload_n hx hb dX2_copyFrom_45 rfl (lv_at hl 2 rfl) ?_
  refine x_get (k := 189) hE hK hI (by decide) inG2 (e_189 G o _ _) rfl 2 (by decide) mw_39 rfl dX2_copyFrom_46 ?_
  refine lv_iconst (v := 0) hx hb dX2_copyFrom_49 (by decide) ?_
  refine lv_aload_n hx hb dX2_copyFrom_50 rfl (lv_at hl 1 rfl) ?_
  refine x_get (k := 2) hE hK hI (by decide) inG2 (e_2 G o _ _) rfl 2 (by decide) mw_39 rfl dX2_copyFrom_51 ?_
  refine lv_iconst (v := 0) hx hb dX2_copyFrom_54 (by decide) ?_
  refine lv_iconst (v := 4) hx hb dX2_copyFrom_55 (by decide) ?_
  refine x_copy (k0 := 196) (k := 9) hE hK hI (by decide) (by decide) (e_196 G o) (e_9 G o) (hE.2.2.1.trans hl.1.symm) mw_457 (Nat.le_of_ble_eq_true rfl) (by decide +kernel) dX2_copyFrom_56 (fun H locs hI => ?_)
  refine lv_aload_n hx hb dX2_copyFrom_59 rfl (lv_at hl 2 rfl) ?_
  refine x_get (k := 189) hE hK hI (by decide) inG2 (e_189 G o _ _) rfl 3 (by decide) mw_42 rfl dX2_copyFrom_60 ?_
  refine lv_iconst (v := 0) hx hb dX2_copyFrom_63 (by decide) ?_
  refine lv_aload_n hx hb dX2_copyFrom_64 rfl (lv_at hl 1 rfl) ?_
  refine x_get (k := 2) hE hK hI (by decide) inG2 (e_2 G o _ _) rfl 3 (by decide) mw_42 rfl dX2_copyFrom_65 ?_
  refine lv_iconst (v := 0) hx hb dX2_copyFrom_68 (by decide) ?_
  refine lv_iconst (v := 4) hx hb dX2_copyFrom_69 (by decide) ?_
  refine x_copy (k0 := 197) (k := 10) hE hK hI (by decide) (by decide) (e_197 G o) (e_10 G o) (hE.2.2.1.trans hl.1.symm) mw_457 (Nat.le_of_ble_eq_true rfl) (by decide +kernel) dX2_copyFrom_70 (fun H locs hI => ?_)
  refine lv_aload_n hx hb dX2_copyFrom_73 rfl (lv_at hl 1 rfl) ?_
  refine lv_aload_n hx hb dX2_copyFrom_74 rfl (lv_at hl 2 rfl) ?_
  refine x_get (k := 189) hE hK hI (by decide) inG2 (e_189 G o _ _) rfl 4 (by decide) mw_45 rfl dX2_copyFrom_75 ?_
  refine lv_topi (fun z1 ez1 => ?_)
  obtain rfl : X 189 4 = z1 := (ez1.trans ((cx_o (by omega)).trans ((cx_o (by omega)).trans ((cx_o (by omega)).trans ((cx_o (by omega)).trans ((cx_o (by omega)).trans ((cx_o (by omega)).trans ((cx_o (by omega)))))))))).symm
  refine x_puti (k := 2) hE hK hI (by decide) inG2 tyX2 tyX2_ok nmX2 (e_2 G o) rfl 4 (by decide) mw_45 rfl (by decide +kernel) (by exact Nat.le_of_ble_eq_true rfl) rfl dX2_copyFrom_78 (fun H locs hI => ?_)
  refine lv_aload_n hx hb dX2_copyFrom_81 rfl (lv_at hl 1 rfl) ?_
  refine lv_aload_n hx hb dX2_copyFrom_82 rfl (lv_at hl 2 rfl) ?_
  refine x_get (k := 189) hE hK hI (by decide) inG2 (e_189 G o _ _) rfl 5 (by decide) mw_48 rfl dX2_copyFrom_83 ?_
  refine lv_topi (fun z2 ez2 => ?_)
  obtain rfl : X 189 5 = z2 := (ez2.trans ((sx_o (by decide)).trans ((cx_o (by omega)).trans ((cx_o (by omega)).trans ((cx_o (by omega)).trans ((cx_o (by omega)).trans ((cx_o (by omega)).trans ((cx_o (by omega)).trans ((cx_o (by omega))))))))))).symm
  refine x_puti (k := 2) hE hK hI (by decide) inG2 tyX2 tyX2_ok nmX2 (e_2 G o) rfl 5 (by decide) mw_48 rfl (by decide +kernel) (by exact Nat.le_of_ble_eq_true rfl) rfl dX2_copyFrom_86 (fun H locs hI => ?_)
  exact x_vret hE hr hlocks hI rfl rfl rfl dX2_copyFrom_89
def cl_1_188 (X : SX) : Nat → SX
  | 0 => X
  | k + 1 => lc_14_201_X (cl_1_188 X k) k
theorem lc_14_201_X_o {X : SX} {i k j : Nat} (h : k ≠ 14 + 2 * i) (h2 : k ≠ 15 + 2 * i) : lc_14_201_X X i k j = X k j := by
  unfold lc_14_201_X
  simp (disch := omega) only [sx_o, cx_o]
theorem cl_1_188_o {X : SX} {k j : Nat} : ∀ n : Nat, n ≤ 40 → (k < 14 ∨ 14 + 2 * n ≤ k) → cl_1_188 X n k j = X k j
  | 0, _, _ => rfl
  | n + 1, hn, h => by
    show lc_14_201_X (cl_1_188 X n) n k j = X k j
    rw [lc_14_201_X_o (by omega) (by omega)]
    exact cl_1_188_o n (by omega) (by omega)
def si_1_188_X (X : SX) (cnt : Nat) : SX := sx (sx (sx (sx (sx (sx (sx (cx (cl_1_188 X cnt) 200 13) 11 2 (nI cnt)) 11 3 (X 198 3)) 11 4 (X 198 4)) 11 5 (X 198 5)) 11 6 (X 198 6)) 11 7 (X 198 7)) 11 8 (X 198 8)
set_option maxRecDepth 100000 in
set_option maxHeartbeats 4000000 in
theorem lp_X3_copyFrom_1_188 (l : Launch) (G : GG) (o : Nat) (X : SX) (Y : SY) (cnt : Nat) (hc : X 198 2 = nI cnt) (h40 : cnt ≤ 40) {p9 : Program} {e9 : Env} {s9 : State} {m9 : MethodId} {args9 : Array Value} {below9 : List Frame} {meth9 : Method} {c9 : Code} (hE : gE p9 m9 c9 cX3_copyFrom 3 s9 args9 yX3_copyFrom.cls) (hr : meth9.sig.returnType = none) (hlocks : meth9.locks = false) (hK : KK G s9) :
    ∀ (n : Nat) (i : Nat), i + n = cnt → ∀ (H : Heap) (locs : List Loc), In G o (cl_1_188 X i) Y s9.heap H locs → ∀ ls : Array Slot, lv_has ls 3 [(0, .ref (o + 11)), (1, .ref (o + 198)), (2, .int (nI i))] → W p9 l e9 (Rm 2 81) s9 m9 args9 below9 meth9 c9 H locs 0 0 (MQ below9 (Qw G o none (si_1_188_X X cnt) Y) args9 s9 0 0 (rg o)) (F0 m9 2 ls []) := by
  have hx := hE.1
  have hb := hE.2.1
  intro n
  induction n with
  | zero =>
    intro i hi H locs hI ls hl
    have ei : i = cnt := by omega
    refine lv_iload_n hx hb dX3_copyFrom_2 rfl (lv_at hl 2 rfl) ?_
    refine lv_aload_n hx hb dX3_copyFrom_3 rfl (lv_at hl 1 rfl) ?_
    refine x_get (k := 198) hE hK hI (by decide) inG3 (e_198 G o _ _) rfl 2 (by decide) mw_106 rfl dX3_copyFrom_4 ?_
    refine lv_topi (fun z1 ez1 => ?_)
    obtain rfl : nI cnt = z1 := (ez1.trans (((cl_1_188_o i (by omega) (by omega)).trans hc))).symm
    refine lv_icmp_ge (tgt := 31) hx hb dX3_copyFrom_7 (by decide) (fun _ => ?_) (fun q => absurd (nI_le (by omega) (by omega)) q)
    refine lv_aload_n hx hb dX3_copyFrom_31 rfl (lv_at hl 1 rfl) ?_
    refine x_get (k := 198) hE hK hI (by decide) inG3 (e_198 G o _ _) rfl 1 (by decide) mw_104 rfl dX3_copyFrom_32 ?_
    refine lv_iconst (v := 0) hx hb dX3_copyFrom_35 (by decide) ?_
    refine lv_aload_n hx hb dX3_copyFrom_36 rfl (lv_at hl 0 rfl) ?_
    refine x_get (k := 11) hE hK hI (by decide) inG3 (e_11 G o _ _) rfl 1 (by decide) mw_104 rfl dX3_copyFrom_37 ?_
    refine lv_iconst (v := 0) hx hb dX3_copyFrom_40 (by decide) ?_
    refine lv_iconst (v := 4) hx hb dX3_copyFrom_41 (by decide) ?_
    refine x_copy (k0 := 200) (k := 13) hE hK hI (by decide) (by decide) (e_200 G o) (e_13 G o) (hE.2.2.1.trans hl.1.symm) mw_469 (Nat.le_of_ble_eq_true rfl) (by decide +kernel) dX3_copyFrom_42 (fun H locs hI => ?_)
    refine lv_aload_n hx hb dX3_copyFrom_45 rfl (lv_at hl 0 rfl) ?_
    refine lv_aload_n hx hb dX3_copyFrom_46 rfl (lv_at hl 1 rfl) ?_
    refine x_get (k := 198) hE hK hI (by decide) inG3 (e_198 G o _ _) rfl 2 (by decide) mw_106 rfl dX3_copyFrom_47 ?_
    refine lv_topi (fun z2 ez2 => ?_)
    obtain rfl : nI cnt = z2 := (ez2.trans ((cx_o (by omega)).trans (((cl_1_188_o i (by omega) (by omega)).trans hc)))).symm
    refine x_puti (k := 11) hE hK hI (by decide) inG3 tyX3 tyX3_ok nmX3 (e_11 G o) rfl 2 (by decide) mw_106 rfl (by decide +kernel) (by exact Nat.le_of_ble_eq_true rfl) rfl dX3_copyFrom_50 (fun H locs hI => ?_)
    refine lv_aload_n hx hb dX3_copyFrom_53 rfl (lv_at hl 0 rfl) ?_
    refine lv_aload_n hx hb dX3_copyFrom_54 rfl (lv_at hl 1 rfl) ?_
    refine x_get (k := 198) hE hK hI (by decide) inG3 (e_198 G o _ _) rfl 3 (by decide) mw_108 rfl dX3_copyFrom_55 ?_
    refine lv_topi (fun z3 ez3 => ?_)
    obtain rfl : X 198 3 = z3 := (ez3.trans ((sx_o (by decide)).trans ((cx_o (by omega)).trans (((cl_1_188_o i (by omega) (by omega)).trans rfl))))).symm
    refine x_puti (k := 11) hE hK hI (by decide) inG3 tyX3 tyX3_ok nmX3 (e_11 G o) rfl 3 (by decide) mw_108 rfl (by decide +kernel) (by exact Nat.le_of_ble_eq_true rfl) rfl dX3_copyFrom_58 (fun H locs hI => ?_)
    refine lv_aload_n hx hb dX3_copyFrom_61 rfl (lv_at hl 0 rfl) ?_
    refine lv_aload_n hx hb dX3_copyFrom_62 rfl (lv_at hl 1 rfl) ?_
    refine x_get (k := 198) hE hK hI (by decide) inG3 (e_198 G o _ _) rfl 4 (by decide) mw_110 rfl dX3_copyFrom_63 ?_
    refine lv_topi (fun z4 ez4 => ?_)
    obtain rfl : X 198 4 = z4 := (ez4.trans ((sx_o (by decide)).trans ((sx_o (by decide)).trans ((cx_o (by omega)).trans (((cl_1_188_o i (by omega) (by omega)).trans rfl)))))).symm
    refine x_puti (k := 11) hE hK hI (by decide) inG3 tyX3 tyX3_ok nmX3 (e_11 G o) rfl 4 (by decide) mw_110 rfl (by decide +kernel) (by exact Nat.le_of_ble_eq_true rfl) rfl dX3_copyFrom_66 (fun H locs hI => ?_)
    refine lv_aload_n hx hb dX3_copyFrom_69 rfl (lv_at hl 0 rfl) ?_
    refine lv_aload_n hx hb dX3_copyFrom_70 rfl (lv_at hl 1 rfl) ?_
    refine x_get (k := 198) hE hK hI (by decide) inG3 (e_198 G o _ _) rfl 5 (by decide) mw_111 rfl dX3_copyFrom_71 ?_
    refine lv_topi (fun z5 ez5 => ?_)
    obtain rfl : X 198 5 = z5 := (ez5.trans ((sx_o (by decide)).trans ((sx_o (by decide)).trans ((sx_o (by decide)).trans ((cx_o (by omega)).trans (((cl_1_188_o i (by omega) (by omega)).trans rfl))))))).symm
    refine x_puti (k := 11) hE hK hI (by decide) inG3 tyX3 tyX3_ok nmX3 (e_11 G o) rfl 5 (by decide) mw_111 rfl (by decide +kernel) (by exact Nat.le_of_ble_eq_true rfl) rfl dX3_copyFrom_74 (fun H locs hI => ?_)
    refine lv_aload_n hx hb dX3_copyFrom_77 rfl (lv_at hl 0 rfl) ?_
    refine lv_aload_n hx hb dX3_copyFrom_78 rfl (lv_at hl 1 rfl) ?_
    refine x_get (k := 198) hE hK hI (by decide) inG3 (e_198 G o _ _) rfl 6 (by decide) mw_113 rfl dX3_copyFrom_79 ?_
    refine lv_topi (fun z6 ez6 => ?_)
    obtain rfl : X 198 6 = z6 := (ez6.trans ((sx_o (by decide)).trans ((sx_o (by decide)).trans ((sx_o (by decide)).trans ((sx_o (by decide)).trans ((cx_o (by omega)).trans (((cl_1_188_o i (by omega) (by omega)).trans rfl)))))))).symm
    refine x_puti (k := 11) hE hK hI (by decide) inG3 tyX3 tyX3_ok nmX3 (e_11 G o) rfl 6 (by decide) mw_113 rfl (by decide +kernel) (by exact Nat.le_of_ble_eq_true rfl) rfl dX3_copyFrom_82 (fun H locs hI => ?_)
    refine lv_aload_n hx hb dX3_copyFrom_85 rfl (lv_at hl 0 rfl) ?_
    refine lv_aload_n hx hb dX3_copyFrom_86 rfl (lv_at hl 1 rfl) ?_
    refine x_get (k := 198) hE hK hI (by decide) inG3 (e_198 G o _ _) rfl 7 (by decide) mw_115 rfl dX3_copyFrom_87 ?_
    refine lv_topi (fun z7 ez7 => ?_)
    obtain rfl : X 198 7 = z7 := (ez7.trans ((sx_o (by decide)).trans ((sx_o (by decide)).trans ((sx_o (by decide)).trans ((sx_o (by decide)).trans ((sx_o (by decide)).trans ((cx_o (by omega)).trans (((cl_1_188_o i (by omega) (by omega)).trans rfl))))))))).symm
    refine x_puti (k := 11) hE hK hI (by decide) inG3 tyX3 tyX3_ok nmX3 (e_11 G o) rfl 7 (by decide) mw_115 rfl (by decide +kernel) (by exact Nat.le_of_ble_eq_true rfl) rfl dX3_copyFrom_90 (fun H locs hI => ?_)
    refine lv_aload_n hx hb dX3_copyFrom_93 rfl (lv_at hl 0 rfl) ?_
    refine lv_aload_n hx hb dX3_copyFrom_94 rfl (lv_at hl 1 rfl) ?_
    refine x_get (k := 198) hE hK hI (by decide) inG3 (e_198 G o _ _) rfl 8 (by decide) mw_117 rfl dX3_copyFrom_95 ?_
    refine lv_topi (fun z8 ez8 => ?_)
    obtain rfl : X 198 8 = z8 := (ez8.trans ((sx_o (by decide)).trans ((sx_o (by decide)).trans ((sx_o (by decide)).trans ((sx_o (by decide)).trans ((sx_o (by decide)).trans ((sx_o (by decide)).trans ((cx_o (by omega)).trans (((cl_1_188_o i (by omega) (by omega)).trans rfl)))))))))).symm
    refine x_puti (k := 11) hE hK hI (by decide) inG3 tyX3 tyX3_ok nmX3 (e_11 G o) rfl 8 (by decide) mw_117 rfl (by decide +kernel) (by exact Nat.le_of_ble_eq_true rfl) rfl dX3_copyFrom_98 (fun H locs hI => ?_)
    exact x_vret hE hr hlocks hI rfl (by rw [ei]; rfl) rfl dX3_copyFrom_101
  | succ n ih =>
    intro i hi H locs hI ls hl
    have h_i : i < 40 := by omega
    refine lv_iload_n hx hb dX3_copyFrom_2 rfl (lv_at hl 2 rfl) ?_
    refine lv_aload_n hx hb dX3_copyFrom_3 rfl (lv_at hl 1 rfl) ?_
    refine x_get (k := 198) hE hK hI (by decide) inG3 (e_198 G o _ _) rfl 2 (by decide) mw_106 rfl dX3_copyFrom_4 ?_
    refine lv_topi (fun z1 ez1 => ?_)
    obtain rfl : nI cnt = z1 := (ez1.trans (((cl_1_188_o i (by omega) (by omega)).trans hc))).symm
    refine lv_icmp_ge (tgt := 31) hx hb dX3_copyFrom_7 (by decide) (fun q => absurd q (nI_ge (by omega) (by omega))) (fun _ => ?_)
    refine lv_aload_n hx hb dX3_copyFrom_10 rfl (lv_at hl 0 rfl) ?_
    refine x_get (k := 11) hE hK hI (by decide) inG3 (e_11 G o _ _) rfl 0 (by decide) mw_102 rfl dX3_copyFrom_11 ?_
    refine lv_iload_n hx hb dX3_copyFrom_14 rfl (lv_at hl 2 rfl) ?_
    refine x_aald (k := 12) (j := i) (t0 := 3) (q := o + (14 + 2 * i)) hE hK hI (by decide) (e_12 G o) rfl rfl h_i (by decide) rfl (ql_14 h_i) dX3_copyFrom_15 ?_
    refine lv_aload_n hx hb dX3_copyFrom_16 rfl (lv_at hl 1 rfl) ?_
    refine x_get (k := 198) hE hK hI (by decide) inG3 (e_198 G o _ _) rfl 0 (by decide) mw_102 rfl dX3_copyFrom_17 ?_
    refine lv_iload_n hx hb dX3_copyFrom_20 rfl (lv_at hl 2 rfl) ?_
    refine x_aald (k := 199) (j := i) (t0 := 3) (q := o + (201 + 2 * i)) hE hK hI (by decide) (e_199 G o) rfl rfl h_i (by decide) rfl (ql_201 h_i) dX3_copyFrom_21 ?_
    refine x_callVv (k := (14 + 2 * i)) hE hK hI (c_X0_copyFrom_14_201 l G o _ _ i h_i) mf_X0_copyFrom mw_464 (by have := h_i; omega) ((el_14 G o h_i) _ _) rfl rfl hl.1 rfl (Nat.le_of_ble_eq_true rfl) ⟨(Nat.le_of_ble_eq_true rfl), (Nat.le_of_ble_eq_true rfl)⟩ ⟨Nat.zero_le _, Nat.zero_le _⟩ dX3_copyFrom_22 (fun H locs hI => ?_)
    refine lv_iinc (v := nI (i + 1)) (lv' := [(2, .int (nI (i + 1))), (0, .ref (o + 11)), (1, .ref (o + 198))]) hx hb dX3_copyFrom_25 hl (k := 2) rfl (nI_add i 1) (by decide) rfl (fun ls hl => ?_)
    refine lv_goto (tgt := 2) hx hb dX3_copyFrom_28 (by decide) ?_
    exact ih (i + 1) (by omega) H locs hI ls (lv_sub hl [1, 2, 0] rfl)
set_option maxRecDepth 100000 in
set_option maxHeartbeats 4000000 in
theorem c_X3_copyFrom_1_188 (l : Launch) (G : GG) (o : Nat) (X : SX) (Y : SY) (cnt : Nat) (hc : X 198 2 = nI cnt) (h40 : cnt ≤ 40) : Ct l yX3_copyFrom cX3_copyFrom 3 none 2 81 G o [.ref (o + 11), .ref (o + 198)] X Y none (si_1_188_X X cnt) Y := by
  refine Ct.mk (by decide +kernel) (Nat.le_of_ble_eq_true rfl) rfl ?_
  intro p9 e9 s9 m9 args9 below9 meth9 c9 hE hr hlocks hK hI ls hl
  have hx := hE.1
  have hb := hE.2.1
  have hl : lv_has ls 3 [(0, .ref (o + 11)), (1, .ref (o + 198))] := hl
  refine lv_iconst (v := 0) hx hb dX3_copyFrom_0 (by decide) ?_
  refine lv_istore_n (lv' := [(2, .int 0), (0, .ref (o + 11)), (1, .ref (o + 198))]) hx hb dX3_copyFrom_1 rfl hl (by decide) rfl (fun ls hl => ?_)
  exact lp_X3_copyFrom_1_188 l G o X Y cnt hc h40 hE hr hlocks hK cnt 0 (by omega) _ _ hI ls (lv_sub hl [1, 2, 0] rfl)
theorem se_1_188_X_o {X : SX} {k j : Nat} (h : k < 2 ∨ 10 < k) : se_1_188_X X k j = X k j := by
  unfold se_1_188_X
  simp (disch := omega) only [sx_o, cx_o]
def pc_1_188_X (X : SX) (cnt : Nat) : SX := si_1_188_X (se_1_188_X X) cnt
set_option maxRecDepth 100000 in
set_option maxHeartbeats 4000000 in
theorem c_X1_copyFrom_1_188 (l : Launch) (G : GG) (o : Nat) (X : SX) (Y : SY) (cnt : Nat) (hc : X 198 2 = nI cnt) (h40 : cnt ≤ 40) : Ct l yX1_copyFrom cX1_copyFrom 2 none 3 103 G o [.ref (o + 1), .ref (o + 188)] X Y none (pc_1_188_X X cnt) Y := by
  refine Ct.mk (by decide +kernel) (Nat.le_of_ble_eq_true rfl) rfl ?_
  intro p9 e9 s9 m9 args9 below9 meth9 c9 hE hr hlocks hK hI ls hl
  have hx := hE.1
  have hb := hE.2.1
  have hl : lv_has ls 2 [(0, .ref (o + 1)), (1, .ref (o + 188))] := hl
  refine lv_aload_n hx hb dX1_copyFrom_0 rfl (lv_at hl 0 rfl) ?_
  refine x_get (k := 1) hE hK hI (by decide) inG1 (e_1 G o _ _) rfl 0 (by decide) mw_138 rfl dX1_copyFrom_1 ?_
  refine lv_aload_n hx hb dX1_copyFrom_4 rfl (lv_at hl 1 rfl) ?_
  refine x_get (k := 188) hE hK hI (by decide) inG1 (e_188 G o _ _) rfl 0 (by decide) mw_138 rfl dX1_copyFrom_5 ?_
  refine x_callVv (k := 2) hE hK hI (c_X2_copyFrom_1_188 l G o _ _  ) mf_X2_copyFrom mw_453 (by decide) ((e_2 G o) _ _) rfl rfl hl.1 rfl (Nat.le_of_ble_eq_true rfl) ⟨(Nat.le_of_ble_eq_true rfl), (Nat.le_of_ble_eq_true rfl)⟩ ⟨Nat.zero_le _, Nat.zero_le _⟩ dX1_copyFrom_8 (fun H locs hI => ?_)
  refine lv_aload_n hx hb dX1_copyFrom_11 rfl (lv_at hl 0 rfl) ?_
  refine x_get (k := 1) hE hK hI (by decide) inG1 (e_1 G o _ _) rfl 1 (by decide) mw_140 rfl dX1_copyFrom_12 ?_
  refine lv_aload_n hx hb dX1_copyFrom_15 rfl (lv_at hl 1 rfl) ?_
  refine x_get (k := 188) hE hK hI (by decide) inG1 (e_188 G o _ _) rfl 1 (by decide) mw_140 rfl dX1_copyFrom_16 ?_
  refine x_callVv (k := 11) hE hK hI (c_X3_copyFrom_1_188 l G o _ _ cnt ((se_1_188_X_o (by omega)).trans hc) h40) mf_X3_copyFrom mw_460 (by decide) ((e_11 G o) _ _) rfl rfl hl.1 rfl (Nat.le_of_ble_eq_true rfl) ⟨(Nat.le_of_ble_eq_true rfl), (Nat.le_of_ble_eq_true rfl)⟩ ⟨Nat.zero_le _, Nat.zero_le _⟩ dX1_copyFrom_19 (fun H locs hI => ?_)
  exact x_vret hE hr hlocks hI rfl rfl rfl dX1_copyFrom_22
def se_95_1_X (X : SX) : SX := sx (sx (cx (cx (cx (cx (cx (cx (cx X 4 98) 5 99) 6 100) 7 101) 8 102) 9 103) 10 104) 96 4 (X 2 4)) 96 5 (X 2 5)
set_option maxRecDepth 100000 in
set_option maxHeartbeats 4000000 in
theorem c_X2_copyFrom_95_1 (l : Launch) (G : GG) (o : Nat) (X : SX) (Y : SY) : Ct l yX2_copyFrom cX2_copyFrom 3 none 1 60 G o [.ref (o + 96), .ref (o + 2)] X Y none (se_95_1_X X) Y := by
  refine Ct.mk (by decide +kernel) (Nat.le_of_ble_eq_true rfl) rfl ?_
  intro p9 e9 s9 m9 args9 below9 meth9 c9 hE hr hlocks hK hI ls hl
  have hx := hE.1
  have hb := hE.2.1
  have hl : lv_has ls 3 [(0, .ref (o + 96)), (1, .ref (o + 2))] := hl
  refine lv_iconst (v := 0) hx hb dX2_copyFrom_0 (by decide) ?_
  refine lv_istore_n (lv' := [(2, .int 0), (0, .ref (o + 96)), (1, .ref (o + 2))]) hx hb dX2_copyFrom_1 rfl hl (by decide) rfl (fun ls hl => ?_)
  refine lv_iload_n hx hb dX2_copyFrom_2 rfl (lv_at hl 0 rfl) ?_
  refine lv_iconst (v := 4) hx hb dX2_copyFrom_3 (by decide) ?_
  refine lv_icmp_ge (tgt := 31) hx hb dX2_copyFrom_4 (by decide) (fun q => absurd q (by decide)) (fun _ => ?_)
  refine lv_aload_n hx hb dX2_copyFrom_7 rfl (lv_at hl 2 rfl) ?_
  refine x_get (k := 2) hE hK hI (by decide) inG2 (e_2 G o _ _) rfl 0 (by decide) mw_32 rfl dX2_copyFrom_8 ?_
  refine lv_iload_n hx hb dX2_copyFrom_11 rfl (lv_at hl 0 rfl) ?_
  refine x_aald (k := 3) (j := 0) (t0 := 5) (q := o + 4) hE hK hI (by decide) (e_3 G o) rfl rfl (by decide) (by decide) rfl rfl dX2_copyFrom_12 ?_
  refine lv_iconst (v := 0) hx hb dX2_copyFrom_13 (by decide) ?_
  refine lv_aload_n hx hb dX2_copyFrom_14 rfl (lv_at hl 1 rfl) ?_
  refine x_get (k := 96) hE hK hI (by decide) inG2 (e_96 G o _ _) rfl 0 (by decide) mw_32 rfl dX2_copyFrom_15 ?_
  refine lv_iload_n hx hb dX2_copyFrom_18 rfl (lv_at hl 0 rfl) ?_
  refine x_aald (k := 97) (j := 0) (t0 := 5) (q := o + 98) hE hK hI (by decide) (e_97 G o) rfl rfl (by decide) (by decide) rfl rfl dX2_copyFrom_19 ?_
  refine lv_iconst (v := 0) hx hb dX2_copyFrom_20 (by decide) ?_
  refine lv_iconst (v := 4) hx hb dX2_copyFrom_21 (by decide) ?_
  refine x_copy (k0 := 4) (k := 98) hE hK hI (by decide) (by decide) (e_4 G o) (e_98 G o) (hE.2.2.1.trans hl.1.symm) mw_457 (Nat.le_of_ble_eq_true rfl) (by decide +kernel) dX2_copyFrom_22 (fun H locs hI => ?_)
  refine lv_iinc (v := 1) (lv' := [(2, .int 1), (0, .ref (o + 96)), (1, .ref (o + 2))]) hx hb dX2_copyFrom_25 hl (k := 0) rfl (by decide) (by decide) rfl (fun ls hl => ?_)
  refine lv_goto (tgt := 2) hx hb dX2_copyFrom_28 (by decide) ?_
  refine lv_iload_n hx hb dX2_copyFrom_2 rfl (lv_at hl 0 rfl) ?_
  refine lv_iconst (v := 4) hx hb dX2_copyFrom_3 (by decide) ?_
  refine lv_icmp_ge (tgt := 31) hx hb dX2_copyFrom_4 (by decide) (fun q => absurd q (by decide)) (fun _ => ?_)
  refine lv_aload_n hx hb dX2_copyFrom_7 rfl (lv_at hl 2 rfl) ?_
  refine x_get (k := 2) hE hK hI (by decide) inG2 (e_2 G o _ _) rfl 0 (by decide) mw_32 rfl dX2_copyFrom_8 ?_
  refine lv_iload_n hx hb dX2_copyFrom_11 rfl (lv_at hl 0 rfl) ?_
  refine x_aald (k := 3) (j := 1) (t0 := 5) (q := o + 5) hE hK hI (by decide) (e_3 G o) rfl rfl (by decide) (by decide) rfl rfl dX2_copyFrom_12 ?_
  refine lv_iconst (v := 0) hx hb dX2_copyFrom_13 (by decide) ?_
  refine lv_aload_n hx hb dX2_copyFrom_14 rfl (lv_at hl 1 rfl) ?_
  refine x_get (k := 96) hE hK hI (by decide) inG2 (e_96 G o _ _) rfl 0 (by decide) mw_32 rfl dX2_copyFrom_15 ?_
  refine lv_iload_n hx hb dX2_copyFrom_18 rfl (lv_at hl 0 rfl) ?_
  refine x_aald (k := 97) (j := 1) (t0 := 5) (q := o + 99) hE hK hI (by decide) (e_97 G o) rfl rfl (by decide) (by decide) rfl rfl dX2_copyFrom_19 ?_
  refine lv_iconst (v := 0) hx hb dX2_copyFrom_20 (by decide) ?_
  refine lv_iconst (v := 4) hx hb dX2_copyFrom_21 (by decide) ?_
  refine x_copy (k0 := 5) (k := 99) hE hK hI (by decide) (by decide) (e_5 G o) (e_99 G o) (hE.2.2.1.trans hl.1.symm) mw_457 (Nat.le_of_ble_eq_true rfl) (by decide +kernel) dX2_copyFrom_22 (fun H locs hI => ?_)
  refine lv_iinc (v := 2) (lv' := [(2, .int 2), (0, .ref (o + 96)), (1, .ref (o + 2))]) hx hb dX2_copyFrom_25 hl (k := 0) rfl (by decide) (by decide) rfl (fun ls hl => ?_)
  refine lv_goto (tgt := 2) hx hb dX2_copyFrom_28 (by decide) ?_
  refine lv_iload_n hx hb dX2_copyFrom_2 rfl (lv_at hl 0 rfl) ?_
  refine lv_iconst (v := 4) hx hb dX2_copyFrom_3 (by decide) ?_
  refine lv_icmp_ge (tgt := 31) hx hb dX2_copyFrom_4 (by decide) (fun q => absurd q (by decide)) (fun _ => ?_)
  refine lv_aload_n hx hb dX2_copyFrom_7 rfl (lv_at hl 2 rfl) ?_
  refine x_get (k := 2) hE hK hI (by decide) inG2 (e_2 G o _ _) rfl 0 (by decide) mw_32 rfl dX2_copyFrom_8 ?_
  refine lv_iload_n hx hb dX2_copyFrom_11 rfl (lv_at hl 0 rfl) ?_
  refine x_aald (k := 3) (j := 2) (t0 := 5) (q := o + 6) hE hK hI (by decide) (e_3 G o) rfl rfl (by decide) (by decide) rfl rfl dX2_copyFrom_12 ?_
  refine lv_iconst (v := 0) hx hb dX2_copyFrom_13 (by decide) ?_
  refine lv_aload_n hx hb dX2_copyFrom_14 rfl (lv_at hl 1 rfl) ?_
  refine x_get (k := 96) hE hK hI (by decide) inG2 (e_96 G o _ _) rfl 0 (by decide) mw_32 rfl dX2_copyFrom_15 ?_
  refine lv_iload_n hx hb dX2_copyFrom_18 rfl (lv_at hl 0 rfl) ?_
  refine x_aald (k := 97) (j := 2) (t0 := 5) (q := o + 100) hE hK hI (by decide) (e_97 G o) rfl rfl (by decide) (by decide) rfl rfl dX2_copyFrom_19 ?_
  refine lv_iconst (v := 0) hx hb dX2_copyFrom_20 (by decide) ?_
  refine lv_iconst (v := 4) hx hb dX2_copyFrom_21 (by decide) ?_
  refine x_copy (k0 := 6) (k := 100) hE hK hI (by decide) (by decide) (e_6 G o) (e_100 G o) (hE.2.2.1.trans hl.1.symm) mw_457 (Nat.le_of_ble_eq_true rfl) (by decide +kernel) dX2_copyFrom_22 (fun H locs hI => ?_)
  refine lv_iinc (v := 3) (lv' := [(2, .int 3), (0, .ref (o + 96)), (1, .ref (o + 2))]) hx hb dX2_copyFrom_25 hl (k := 0) rfl (by decide) (by decide) rfl (fun ls hl => ?_)
  refine lv_goto (tgt := 2) hx hb dX2_copyFrom_28 (by decide) ?_
  refine lv_iload_n hx hb dX2_copyFrom_2 rfl (lv_at hl 0 rfl) ?_
  refine lv_iconst (v := 4) hx hb dX2_copyFrom_3 (by decide) ?_
  refine lv_icmp_ge (tgt := 31) hx hb dX2_copyFrom_4 (by decide) (fun q => absurd q (by decide)) (fun _ => ?_)
  refine lv_aload_n hx hb dX2_copyFrom_7 rfl (lv_at hl 2 rfl) ?_
  refine x_get (k := 2) hE hK hI (by decide) inG2 (e_2 G o _ _) rfl 0 (by decide) mw_32 rfl dX2_copyFrom_8 ?_
  refine lv_iload_n hx hb dX2_copyFrom_11 rfl (lv_at hl 0 rfl) ?_
  refine x_aald (k := 3) (j := 3) (t0 := 5) (q := o + 7) hE hK hI (by decide) (e_3 G o) rfl rfl (by decide) (by decide) rfl rfl dX2_copyFrom_12 ?_
  refine lv_iconst (v := 0) hx hb dX2_copyFrom_13 (by decide) ?_
  refine lv_aload_n hx hb dX2_copyFrom_14 rfl (lv_at hl 1 rfl) ?_
  refine x_get (k := 96) hE hK hI (by decide) inG2 (e_96 G o _ _) rfl 0 (by decide) mw_32 rfl dX2_copyFrom_15 ?_
  refine lv_iload_n hx hb dX2_copyFrom_18 rfl (lv_at hl 0 rfl) ?_
  refine x_aald (k := 97) (j := 3) (t0 := 5) (q := o + 101) hE hK hI (by decide) (e_97 G o) rfl rfl (by decide) (by decide) rfl rfl dX2_copyFrom_19 ?_
  refine lv_iconst (v := 0) hx hb dX2_copyFrom_20 (by decide) ?_
  refine lv_iconst (v := 4) hx hb dX2_copyFrom_21 (by decide) ?_
  refine x_copy (k0 := 7) (k := 101) hE hK hI (by decide) (by decide) (e_7 G o) (e_101 G o) (hE.2.2.1.trans hl.1.symm) mw_457 (Nat.le_of_ble_eq_true rfl) (by decide +kernel) dX2_copyFrom_22 (fun H locs hI => ?_)
  refine lv_iinc (v := 4) (lv' := [(2, .int 4), (0, .ref (o + 96)), (1, .ref (o + 2))]) hx hb dX2_copyFrom_25 hl (k := 0) rfl (by decide) (by decide) rfl (fun ls hl => ?_)
  refine lv_goto (tgt := 2) hx hb dX2_copyFrom_28 (by decide) ?_
  refine lv_iload_n hx hb dX2_copyFrom_2 rfl (lv_at hl 0 rfl) ?_
  refine lv_iconst (v := 4) hx hb dX2_copyFrom_3 (by decide) ?_
  refine lv_icmp_ge (tgt := 31) hx hb dX2_copyFrom_4 (by decide) (fun _ => ?_) (fun q => absurd (by decide) q)
  refine lv_aload_n hx hb dX2_copyFrom_31 rfl (lv_at hl 2 rfl) ?_
  refine x_get (k := 2) hE hK hI (by decide) inG2 (e_2 G o _ _) rfl 1 (by decide) mw_36 rfl dX2_copyFrom_32 ?_
  refine lv_iconst (v := 0) hx hb dX2_copyFrom_35 (by decide) ?_
  refine lv_aload_n hx hb dX2_copyFrom_36 rfl (lv_at hl 1 rfl) ?_
  refine x_get (k := 96) hE hK hI (by decide) inG2 (e_96 G o _ _) rfl 1 (by decide) mw_36 rfl dX2_copyFrom_37 ?_
  refine lv_iconst (v := 0) hx hb dX2_copyFrom_40 (by decide) ?_
  refine lv_iconst (v := 4) hx hb dX2_copyFrom_41 (by decide) ?_
  refine x_copy (k0 := 8) (k := 102) hE hK hI (by decide) (by decide) (e_8 G o) (e_102 G o) (hE.2.2.1.trans hl.1.symm) mw_457 (Nat.le_of_ble_eq_true rfl) (by decide +kernel) dX2_copyFrom_42 (fun H locs hI => ?_)
  refine lv_aload_n hx hb dX2_copyFrom_45 rfl (lv_at hl 2 rfl) ?_
  refine x_get (k := 2) hE hK hI (by decide) inG2 (e_2 G o _ _) rfl 2 (by decide) mw_39 rfl dX2_copyFrom_46 ?_
  refine lv_iconst (v := 0) hx hb dX2_copyFrom_49 (by decide) ?_
  refine lv_aload_n hx hb dX2_copyFrom_50 rfl (lv_at hl 1 rfl) ?_
  refine x_get (k := 96) hE hK hI (by decide) inG2 (e_96 G o _ _) rfl 2 (by decide) mw_39 rfl dX2_copyFrom_51 ?_
  refine lv_iconst (v := 0) hx hb dX2_copyFrom_54 (by decide) ?_
  refine lv_iconst (v := 4) hx hb dX2_copyFrom_55 (by decide) ?_
  refine x_copy (k0 := 9) (k := 103) hE hK hI (by decide) (by decide) (e_9 G o) (e_103 G o) (hE.2.2.1.trans hl.1.symm) mw_457 (Nat.le_of_ble_eq_true rfl) (by decide +kernel) dX2_copyFrom_56 (fun H locs hI => ?_)
  refine lv_aload_n hx hb dX2_copyFrom_59 rfl (lv_at hl 2 rfl) ?_
  refine x_get (k := 2) hE hK hI (by decide) inG2 (e_2 G o _ _) rfl 3 (by decide) mw_42 rfl dX2_copyFrom_60 ?_
  refine lv_iconst (v := 0) hx hb dX2_copyFrom_63 (by decide) ?_
  refine lv_aload_n hx hb dX2_copyFrom_64 rfl (lv_at hl 1 rfl) ?_
  refine x_get (k := 96) hE hK hI (by decide) inG2 (e_96 G o _ _) rfl 3 (by decide) mw_42 rfl dX2_copyFrom_65 ?_
  refine lv_iconst (v := 0) hx hb dX2_copyFrom_68 (by decide) ?_
  refine lv_iconst (v := 4) hx hb dX2_copyFrom_69 (by decide) ?_
  refine x_copy (k0 := 10) (k := 104) hE hK hI (by decide) (by decide) (e_10 G o) (e_104 G o) (hE.2.2.1.trans hl.1.symm) mw_457 (Nat.le_of_ble_eq_true rfl) (by decide +kernel) dX2_copyFrom_70 (fun H locs hI => ?_)
  refine lv_aload_n hx hb dX2_copyFrom_73 rfl (lv_at hl 1 rfl) ?_
  refine lv_aload_n hx hb dX2_copyFrom_74 rfl (lv_at hl 2 rfl) ?_
  refine x_get (k := 2) hE hK hI (by decide) inG2 (e_2 G o _ _) rfl 4 (by decide) mw_45 rfl dX2_copyFrom_75 ?_
  refine lv_topi (fun z1 ez1 => ?_)
  obtain rfl : X 2 4 = z1 := (ez1.trans ((cx_o (by omega)).trans ((cx_o (by omega)).trans ((cx_o (by omega)).trans ((cx_o (by omega)).trans ((cx_o (by omega)).trans ((cx_o (by omega)).trans ((cx_o (by omega)))))))))).symm
  refine x_puti (k := 96) hE hK hI (by decide) inG2 tyX2 tyX2_ok nmX2 (e_96 G o) rfl 4 (by decide) mw_45 rfl (by decide +kernel) (by exact Nat.le_of_ble_eq_true rfl) rfl dX2_copyFrom_78 (fun H locs hI => ?_)
  refine lv_aload_n hx hb dX2_copyFrom_81 rfl (lv_at hl 1 rfl) ?_
  refine lv_aload_n hx hb dX2_copyFrom_82 rfl (lv_at hl 2 rfl) ?_
  refine x_get (k := 2) hE hK hI (by decide) inG2 (e_2 G o _ _) rfl 5 (by decide) mw_48 rfl dX2_copyFrom_83 ?_
  refine lv_topi (fun z2 ez2 => ?_)
  obtain rfl : X 2 5 = z2 := (ez2.trans ((sx_o (by decide)).trans ((cx_o (by omega)).trans ((cx_o (by omega)).trans ((cx_o (by omega)).trans ((cx_o (by omega)).trans ((cx_o (by omega)).trans ((cx_o (by omega)).trans ((cx_o (by omega))))))))))).symm
  refine x_puti (k := 96) hE hK hI (by decide) inG2 tyX2 tyX2_ok nmX2 (e_96 G o) rfl 5 (by decide) mw_48 rfl (by decide +kernel) (by exact Nat.le_of_ble_eq_true rfl) rfl dX2_copyFrom_86 (fun H locs hI => ?_)
  exact x_vret hE hr hlocks hI rfl rfl rfl dX2_copyFrom_89
def cl_95_1 (X : SX) : Nat → SX
  | 0 => X
  | k + 1 => lc_108_14_X (cl_95_1 X k) k
theorem lc_108_14_X_o {X : SX} {i k j : Nat} (h : k ≠ 108 + 2 * i) (h2 : k ≠ 109 + 2 * i) : lc_108_14_X X i k j = X k j := by
  unfold lc_108_14_X
  simp (disch := omega) only [sx_o, cx_o]
theorem cl_95_1_o {X : SX} {k j : Nat} : ∀ n : Nat, n ≤ 40 → (k < 108 ∨ 108 + 2 * n ≤ k) → cl_95_1 X n k j = X k j
  | 0, _, _ => rfl
  | n + 1, hn, h => by
    show lc_108_14_X (cl_95_1 X n) n k j = X k j
    rw [lc_108_14_X_o (by omega) (by omega)]
    exact cl_95_1_o n (by omega) (by omega)
def si_95_1_X (X : SX) (cnt : Nat) : SX := sx (sx (sx (sx (sx (sx (sx (cx (cl_95_1 X cnt) 13 107) 105 2 (nI cnt)) 105 3 (X 11 3)) 105 4 (X 11 4)) 105 5 (X 11 5)) 105 6 (X 11 6)) 105 7 (X 11 7)) 105 8 (X 11 8)
set_option maxRecDepth 100000 in
set_option maxHeartbeats 4000000 in
theorem lp_X3_copyFrom_95_1 (l : Launch) (G : GG) (o : Nat) (X : SX) (Y : SY) (cnt : Nat) (hc : X 11 2 = nI cnt) (h40 : cnt ≤ 40) {p9 : Program} {e9 : Env} {s9 : State} {m9 : MethodId} {args9 : Array Value} {below9 : List Frame} {meth9 : Method} {c9 : Code} (hE : gE p9 m9 c9 cX3_copyFrom 3 s9 args9 yX3_copyFrom.cls) (hr : meth9.sig.returnType = none) (hlocks : meth9.locks = false) (hK : KK G s9) :
    ∀ (n : Nat) (i : Nat), i + n = cnt → ∀ (H : Heap) (locs : List Loc), In G o (cl_95_1 X i) Y s9.heap H locs → ∀ ls : Array Slot, lv_has ls 3 [(0, .ref (o + 105)), (1, .ref (o + 11)), (2, .int (nI i))] → W p9 l e9 (Rm 2 81) s9 m9 args9 below9 meth9 c9 H locs 0 0 (MQ below9 (Qw G o none (si_95_1_X X cnt) Y) args9 s9 0 0 (rg o)) (F0 m9 2 ls []) := by
  have hx := hE.1
  have hb := hE.2.1
  intro n
  induction n with
  | zero =>
    intro i hi H locs hI ls hl
    have ei : i = cnt := by omega
    refine lv_iload_n hx hb dX3_copyFrom_2 rfl (lv_at hl 2 rfl) ?_
    refine lv_aload_n hx hb dX3_copyFrom_3 rfl (lv_at hl 1 rfl) ?_
    refine x_get (k := 11) hE hK hI (by decide) inG3 (e_11 G o _ _) rfl 2 (by decide) mw_106 rfl dX3_copyFrom_4 ?_
    refine lv_topi (fun z1 ez1 => ?_)
    obtain rfl : nI cnt = z1 := (ez1.trans (((cl_95_1_o i (by omega) (by omega)).trans hc))).symm
    refine lv_icmp_ge (tgt := 31) hx hb dX3_copyFrom_7 (by decide) (fun _ => ?_) (fun q => absurd (nI_le (by omega) (by omega)) q)
    refine lv_aload_n hx hb dX3_copyFrom_31 rfl (lv_at hl 1 rfl) ?_
    refine x_get (k := 11) hE hK hI (by decide) inG3 (e_11 G o _ _) rfl 1 (by decide) mw_104 rfl dX3_copyFrom_32 ?_
    refine lv_iconst (v := 0) hx hb dX3_copyFrom_35 (by decide) ?_
    refine lv_aload_n hx hb dX3_copyFrom_36 rfl (lv_at hl 0 rfl) ?_
    refine x_get (k := 105) hE hK hI (by decide) inG3 (e_105 G o _ _) rfl 1 (by decide) mw_104 rfl dX3_copyFrom_37 ?_
    refine lv_iconst (v := 0) hx hb dX3_copyFrom_40 (by decide) ?_
    refine lv_iconst (v := 4) hx hb dX3_copyFrom_41 (by decide) ?_
    refine x_copy (k0 := 13) (k := 107) hE hK hI (by decide) (by decide) (e_13 G o) (e_107 G o) (hE.2.2.1.trans hl.1.symm) mw_469 (Nat.le_of_ble_eq_true rfl) (by decide +kernel) dX3_copyFrom_42 (fun H locs hI => ?_)
    refine lv_aload_n hx hb dX3_copyFrom_45 rfl (lv_at hl 0 rfl) ?_
    refine lv_aload_n hx hb dX3_copyFrom_46 rfl (lv_at hl 1 rfl) ?_
    refine x_get (k := 11) hE hK hI (by decide) inG3 (e_11 G o _ _) rfl 2 (by decide) mw_106 rfl dX3_copyFrom_47 ?_
    refine lv_topi (fun z2 ez2 => ?_)
    obtain rfl : nI cnt = z2 := (ez2.trans ((cx_o (by omega)).trans (((cl_95_1_o i (by omega) (by omega)).trans hc)))).symm
    refine x_puti (k := 105) hE hK hI (by decide) inG3 tyX3 tyX3_ok nmX3 (e_105 G o) rfl 2 (by decide) mw_106 rfl (by decide +kernel) (by exact Nat.le_of_ble_eq_true rfl) rfl dX3_copyFrom_50 (fun H locs hI => ?_)
    refine lv_aload_n hx hb dX3_copyFrom_53 rfl (lv_at hl 0 rfl) ?_
    refine lv_aload_n hx hb dX3_copyFrom_54 rfl (lv_at hl 1 rfl) ?_
    refine x_get (k := 11) hE hK hI (by decide) inG3 (e_11 G o _ _) rfl 3 (by decide) mw_108 rfl dX3_copyFrom_55 ?_
    refine lv_topi (fun z3 ez3 => ?_)
    obtain rfl : X 11 3 = z3 := (ez3.trans ((sx_o (by decide)).trans ((cx_o (by omega)).trans (((cl_95_1_o i (by omega) (by omega)).trans rfl))))).symm
    refine x_puti (k := 105) hE hK hI (by decide) inG3 tyX3 tyX3_ok nmX3 (e_105 G o) rfl 3 (by decide) mw_108 rfl (by decide +kernel) (by exact Nat.le_of_ble_eq_true rfl) rfl dX3_copyFrom_58 (fun H locs hI => ?_)
    refine lv_aload_n hx hb dX3_copyFrom_61 rfl (lv_at hl 0 rfl) ?_
    refine lv_aload_n hx hb dX3_copyFrom_62 rfl (lv_at hl 1 rfl) ?_
    refine x_get (k := 11) hE hK hI (by decide) inG3 (e_11 G o _ _) rfl 4 (by decide) mw_110 rfl dX3_copyFrom_63 ?_
    refine lv_topi (fun z4 ez4 => ?_)
    obtain rfl : X 11 4 = z4 := (ez4.trans ((sx_o (by decide)).trans ((sx_o (by decide)).trans ((cx_o (by omega)).trans (((cl_95_1_o i (by omega) (by omega)).trans rfl)))))).symm
    refine x_puti (k := 105) hE hK hI (by decide) inG3 tyX3 tyX3_ok nmX3 (e_105 G o) rfl 4 (by decide) mw_110 rfl (by decide +kernel) (by exact Nat.le_of_ble_eq_true rfl) rfl dX3_copyFrom_66 (fun H locs hI => ?_)
    refine lv_aload_n hx hb dX3_copyFrom_69 rfl (lv_at hl 0 rfl) ?_
    refine lv_aload_n hx hb dX3_copyFrom_70 rfl (lv_at hl 1 rfl) ?_
    refine x_get (k := 11) hE hK hI (by decide) inG3 (e_11 G o _ _) rfl 5 (by decide) mw_111 rfl dX3_copyFrom_71 ?_
    refine lv_topi (fun z5 ez5 => ?_)
    obtain rfl : X 11 5 = z5 := (ez5.trans ((sx_o (by decide)).trans ((sx_o (by decide)).trans ((sx_o (by decide)).trans ((cx_o (by omega)).trans (((cl_95_1_o i (by omega) (by omega)).trans rfl))))))).symm
    refine x_puti (k := 105) hE hK hI (by decide) inG3 tyX3 tyX3_ok nmX3 (e_105 G o) rfl 5 (by decide) mw_111 rfl (by decide +kernel) (by exact Nat.le_of_ble_eq_true rfl) rfl dX3_copyFrom_74 (fun H locs hI => ?_)
    refine lv_aload_n hx hb dX3_copyFrom_77 rfl (lv_at hl 0 rfl) ?_
    refine lv_aload_n hx hb dX3_copyFrom_78 rfl (lv_at hl 1 rfl) ?_
    refine x_get (k := 11) hE hK hI (by decide) inG3 (e_11 G o _ _) rfl 6 (by decide) mw_113 rfl dX3_copyFrom_79 ?_
    refine lv_topi (fun z6 ez6 => ?_)
    obtain rfl : X 11 6 = z6 := (ez6.trans ((sx_o (by decide)).trans ((sx_o (by decide)).trans ((sx_o (by decide)).trans ((sx_o (by decide)).trans ((cx_o (by omega)).trans (((cl_95_1_o i (by omega) (by omega)).trans rfl)))))))).symm
    refine x_puti (k := 105) hE hK hI (by decide) inG3 tyX3 tyX3_ok nmX3 (e_105 G o) rfl 6 (by decide) mw_113 rfl (by decide +kernel) (by exact Nat.le_of_ble_eq_true rfl) rfl dX3_copyFrom_82 (fun H locs hI => ?_)
    refine lv_aload_n hx hb dX3_copyFrom_85 rfl (lv_at hl 0 rfl) ?_
    refine lv_aload_n hx hb dX3_copyFrom_86 rfl (lv_at hl 1 rfl) ?_
    refine x_get (k := 11) hE hK hI (by decide) inG3 (e_11 G o _ _) rfl 7 (by decide) mw_115 rfl dX3_copyFrom_87 ?_
    refine lv_topi (fun z7 ez7 => ?_)
    obtain rfl : X 11 7 = z7 := (ez7.trans ((sx_o (by decide)).trans ((sx_o (by decide)).trans ((sx_o (by decide)).trans ((sx_o (by decide)).trans ((sx_o (by decide)).trans ((cx_o (by omega)).trans (((cl_95_1_o i (by omega) (by omega)).trans rfl))))))))).symm
    refine x_puti (k := 105) hE hK hI (by decide) inG3 tyX3 tyX3_ok nmX3 (e_105 G o) rfl 7 (by decide) mw_115 rfl (by decide +kernel) (by exact Nat.le_of_ble_eq_true rfl) rfl dX3_copyFrom_90 (fun H locs hI => ?_)
    refine lv_aload_n hx hb dX3_copyFrom_93 rfl (lv_at hl 0 rfl) ?_
    refine lv_aload_n hx hb dX3_copyFrom_94 rfl (lv_at hl 1 rfl) ?_
    refine x_get (k := 11) hE hK hI (by decide) inG3 (e_11 G o _ _) rfl 8 (by decide) mw_117 rfl dX3_copyFrom_95 ?_
    refine lv_topi (fun z8 ez8 => ?_)
    obtain rfl : X 11 8 = z8 := (ez8.trans ((sx_o (by decide)).trans ((sx_o (by decide)).trans ((sx_o (by decide)).trans ((sx_o (by decide)).trans ((sx_o (by decide)).trans ((sx_o (by decide)).trans ((cx_o (by omega)).trans (((cl_95_1_o i (by omega) (by omega)).trans rfl)))))))))).symm
    refine x_puti (k := 105) hE hK hI (by decide) inG3 tyX3 tyX3_ok nmX3 (e_105 G o) rfl 8 (by decide) mw_117 rfl (by decide +kernel) (by exact Nat.le_of_ble_eq_true rfl) rfl dX3_copyFrom_98 (fun H locs hI => ?_)
    exact x_vret hE hr hlocks hI rfl (by rw [ei]; rfl) rfl dX3_copyFrom_101
  | succ n ih =>
    intro i hi H locs hI ls hl
    have h_i : i < 40 := by omega
    refine lv_iload_n hx hb dX3_copyFrom_2 rfl (lv_at hl 2 rfl) ?_
    refine lv_aload_n hx hb dX3_copyFrom_3 rfl (lv_at hl 1 rfl) ?_
    refine x_get (k := 11) hE hK hI (by decide) inG3 (e_11 G o _ _) rfl 2 (by decide) mw_106 rfl dX3_copyFrom_4 ?_
    refine lv_topi (fun z1 ez1 => ?_)
    obtain rfl : nI cnt = z1 := (ez1.trans (((cl_95_1_o i (by omega) (by omega)).trans hc))).symm
    refine lv_icmp_ge (tgt := 31) hx hb dX3_copyFrom_7 (by decide) (fun q => absurd q (nI_ge (by omega) (by omega))) (fun _ => ?_)
    refine lv_aload_n hx hb dX3_copyFrom_10 rfl (lv_at hl 0 rfl) ?_
    refine x_get (k := 105) hE hK hI (by decide) inG3 (e_105 G o _ _) rfl 0 (by decide) mw_102 rfl dX3_copyFrom_11 ?_
    refine lv_iload_n hx hb dX3_copyFrom_14 rfl (lv_at hl 2 rfl) ?_
    refine x_aald (k := 106) (j := i) (t0 := 3) (q := o + (108 + 2 * i)) hE hK hI (by decide) (e_106 G o) rfl rfl h_i (by decide) rfl (ql_108 h_i) dX3_copyFrom_15 ?_
    refine lv_aload_n hx hb dX3_copyFrom_16 rfl (lv_at hl 1 rfl) ?_
    refine x_get (k := 11) hE hK hI (by decide) inG3 (e_11 G o _ _) rfl 0 (by decide) mw_102 rfl dX3_copyFrom_17 ?_
    refine lv_iload_n hx hb dX3_copyFrom_20 rfl (lv_at hl 2 rfl) ?_
    refine x_aald (k := 12) (j := i) (t0 := 3) (q := o + (14 + 2 * i)) hE hK hI (by decide) (e_12 G o) rfl rfl h_i (by decide) rfl (ql_14 h_i) dX3_copyFrom_21 ?_
    refine x_callVv (k := (108 + 2 * i)) hE hK hI (c_X0_copyFrom_108_14 l G o _ _ i h_i) mf_X0_copyFrom mw_464 (by have := h_i; omega) ((el_108 G o h_i) _ _) rfl rfl hl.1 rfl (Nat.le_of_ble_eq_true rfl) ⟨(Nat.le_of_ble_eq_true rfl), (Nat.le_of_ble_eq_true rfl)⟩ ⟨Nat.zero_le _, Nat.zero_le _⟩ dX3_copyFrom_22 (fun H locs hI => ?_)
    refine lv_iinc (v := nI (i + 1)) (lv' := [(2, .int (nI (i + 1))), (0, .ref (o + 105)), (1, .ref (o + 11))]) hx hb dX3_copyFrom_25 hl (k := 2) rfl (nI_add i 1) (by decide) rfl (fun ls hl => ?_)
    refine lv_goto (tgt := 2) hx hb dX3_copyFrom_28 (by decide) ?_
    exact ih (i + 1) (by omega) H locs hI ls (lv_sub hl [1, 2, 0] rfl)
set_option maxRecDepth 100000 in
set_option maxHeartbeats 4000000 in
theorem c_X3_copyFrom_95_1 (l : Launch) (G : GG) (o : Nat) (X : SX) (Y : SY) (cnt : Nat) (hc : X 11 2 = nI cnt) (h40 : cnt ≤ 40) : Ct l yX3_copyFrom cX3_copyFrom 3 none 2 81 G o [.ref (o + 105), .ref (o + 11)] X Y none (si_95_1_X X cnt) Y := by
  refine Ct.mk (by decide +kernel) (Nat.le_of_ble_eq_true rfl) rfl ?_
  intro p9 e9 s9 m9 args9 below9 meth9 c9 hE hr hlocks hK hI ls hl
  have hx := hE.1
  have hb := hE.2.1
  have hl : lv_has ls 3 [(0, .ref (o + 105)), (1, .ref (o + 11))] := hl
  refine lv_iconst (v := 0) hx hb dX3_copyFrom_0 (by decide) ?_
  refine lv_istore_n (lv' := [(2, .int 0), (0, .ref (o + 105)), (1, .ref (o + 11))]) hx hb dX3_copyFrom_1 rfl hl (by decide) rfl (fun ls hl => ?_)
  exact lp_X3_copyFrom_95_1 l G o X Y cnt hc h40 hE hr hlocks hK cnt 0 (by omega) _ _ hI ls (lv_sub hl [1, 2, 0] rfl)
theorem se_95_1_X_o {X : SX} {k j : Nat} (h : k < 96 ∨ 104 < k) : se_95_1_X X k j = X k j := by
  unfold se_95_1_X
  simp (disch := omega) only [sx_o, cx_o]
def pc_95_1_X (X : SX) (cnt : Nat) : SX := si_95_1_X (se_95_1_X X) cnt
set_option maxRecDepth 100000 in
set_option maxHeartbeats 4000000 in
theorem c_X1_copyFrom_95_1 (l : Launch) (G : GG) (o : Nat) (X : SX) (Y : SY) (cnt : Nat) (hc : X 11 2 = nI cnt) (h40 : cnt ≤ 40) : Ct l yX1_copyFrom cX1_copyFrom 2 none 3 103 G o [.ref (o + 95), .ref (o + 1)] X Y none (pc_95_1_X X cnt) Y := by
  refine Ct.mk (by decide +kernel) (Nat.le_of_ble_eq_true rfl) rfl ?_
  intro p9 e9 s9 m9 args9 below9 meth9 c9 hE hr hlocks hK hI ls hl
  have hx := hE.1
  have hb := hE.2.1
  have hl : lv_has ls 2 [(0, .ref (o + 95)), (1, .ref (o + 1))] := hl
  refine lv_aload_n hx hb dX1_copyFrom_0 rfl (lv_at hl 0 rfl) ?_
  refine x_get (k := 95) hE hK hI (by decide) inG1 (e_95 G o _ _) rfl 0 (by decide) mw_138 rfl dX1_copyFrom_1 ?_
  refine lv_aload_n hx hb dX1_copyFrom_4 rfl (lv_at hl 1 rfl) ?_
  refine x_get (k := 1) hE hK hI (by decide) inG1 (e_1 G o _ _) rfl 0 (by decide) mw_138 rfl dX1_copyFrom_5 ?_
  refine x_callVv (k := 96) hE hK hI (c_X2_copyFrom_95_1 l G o _ _  ) mf_X2_copyFrom mw_453 (by decide) ((e_96 G o) _ _) rfl rfl hl.1 rfl (Nat.le_of_ble_eq_true rfl) ⟨(Nat.le_of_ble_eq_true rfl), (Nat.le_of_ble_eq_true rfl)⟩ ⟨Nat.zero_le _, Nat.zero_le _⟩ dX1_copyFrom_8 (fun H locs hI => ?_)
  refine lv_aload_n hx hb dX1_copyFrom_11 rfl (lv_at hl 0 rfl) ?_
  refine x_get (k := 95) hE hK hI (by decide) inG1 (e_95 G o _ _) rfl 1 (by decide) mw_140 rfl dX1_copyFrom_12 ?_
  refine lv_aload_n hx hb dX1_copyFrom_15 rfl (lv_at hl 1 rfl) ?_
  refine x_get (k := 1) hE hK hI (by decide) inG1 (e_1 G o _ _) rfl 1 (by decide) mw_140 rfl dX1_copyFrom_16 ?_
  refine x_callVv (k := 105) hE hK hI (c_X3_copyFrom_95_1 l G o _ _ cnt ((se_95_1_X_o (by omega)).trans hc) h40) mf_X3_copyFrom mw_460 (by decide) ((e_105 G o) _ _) rfl rfl hl.1 rfl (Nat.le_of_ble_eq_true rfl) ⟨(Nat.le_of_ble_eq_true rfl), (Nat.le_of_ble_eq_true rfl)⟩ ⟨Nat.zero_le _, Nat.zero_le _⟩ dX1_copyFrom_19 (fun H locs hI => ?_)
  exact x_vret hE hr hlocks hI rfl rfl rfl dX1_copyFrom_22
def se_188_1_X (X : SX) : SX := sx (sx (cx (cx (cx (cx (cx (cx (cx X 4 191) 5 192) 6 193) 7 194) 8 195) 9 196) 10 197) 189 4 (X 2 4)) 189 5 (X 2 5)
set_option maxRecDepth 100000 in
set_option maxHeartbeats 4000000 in
theorem c_X2_copyFrom_188_1 (l : Launch) (G : GG) (o : Nat) (X : SX) (Y : SY) : Ct l yX2_copyFrom cX2_copyFrom 3 none 1 60 G o [.ref (o + 189), .ref (o + 2)] X Y none (se_188_1_X X) Y := by
  refine Ct.mk (by decide +kernel) (Nat.le_of_ble_eq_true rfl) rfl ?_
  intro p9 e9 s9 m9 args9 below9 meth9 c9 hE hr hlocks hK hI ls hl
  have hx := hE.1
  have hb := hE.2.1
  have hl : lv_has ls 3 [(0, .ref (o + 189)), (1, .ref (o + 2))] := hl
  refine lv_iconst (v := 0) hx hb dX2_copyFrom_0 (by decide) ?_
  refine lv_istore_n (lv' := [(2, .int 0), (0, .ref (o + 189)), (1, .ref (o + 2))]) hx hb dX2_copyFrom_1 rfl hl (by decide) rfl (fun ls hl => ?_)
  refine lv_iload_n hx hb dX2_copyFrom_2 rfl (lv_at hl 0 rfl) ?_
  refine lv_iconst (v := 4) hx hb dX2_copyFrom_3 (by decide) ?_
  refine lv_icmp_ge (tgt := 31) hx hb dX2_copyFrom_4 (by decide) (fun q => absurd q (by decide)) (fun _ => ?_)
  refine lv_aload_n hx hb dX2_copyFrom_7 rfl (lv_at hl 2 rfl) ?_
  refine x_get (k := 2) hE hK hI (by decide) inG2 (e_2 G o _ _) rfl 0 (by decide) mw_32 rfl dX2_copyFrom_8 ?_
  refine lv_iload_n hx hb dX2_copyFrom_11 rfl (lv_at hl 0 rfl) ?_
  refine x_aald (k := 3) (j := 0) (t0 := 5) (q := o + 4) hE hK hI (by decide) (e_3 G o) rfl rfl (by decide) (by decide) rfl rfl dX2_copyFrom_12 ?_
  refine lv_iconst (v := 0) hx hb dX2_copyFrom_13 (by decide) ?_
  refine lv_aload_n hx hb dX2_copyFrom_14 rfl (lv_at hl 1 rfl) ?_
  refine x_get (k := 189) hE hK hI (by decide) inG2 (e_189 G o _ _) rfl 0 (by decide) mw_32 rfl dX2_copyFrom_15 ?_
  refine lv_iload_n hx hb dX2_copyFrom_18 rfl (lv_at hl 0 rfl) ?_
  refine x_aald (k := 190) (j := 0) (t0 := 5) (q := o + 191) hE hK hI (by decide) (e_190 G o) rfl rfl (by decide) (by decide) rfl rfl dX2_copyFrom_19 ?_
  refine lv_iconst (v := 0) hx hb dX2_copyFrom_20 (by decide) ?_
  refine lv_iconst (v := 4) hx hb dX2_copyFrom_21 (by decide) ?_
  refine x_copy (k0 := 4) (k := 191) hE hK hI (by decide) (by decide) (e_4 G o) (e_191 G o) (hE.2.2.1.trans hl.1.symm) mw_457 (Nat.le_of_ble_eq_true rfl) (by decide +kernel) dX2_copyFrom_22 (fun H locs hI => ?_)
  refine lv_iinc (v := 1) (lv' := [(2, .int 1), (0, .ref (o + 189)), (1, .ref (o + 2))]) hx hb dX2_copyFrom_25 hl (k := 0) rfl (by decide) (by decide) rfl (fun ls hl => ?_)
  refine lv_goto (tgt := 2) hx hb dX2_copyFrom_28 (by decide) ?_
  refine lv_iload_n hx hb dX2_copyFrom_2 rfl (lv_at hl 0 rfl) ?_
  refine lv_iconst (v := 4) hx hb dX2_copyFrom_3 (by decide) ?_
  refine lv_icmp_ge (tgt := 31) hx hb dX2_copyFrom_4 (by decide) (fun q => absurd q (by decide)) (fun _ => ?_)
  refine lv_aload_n hx hb dX2_copyFrom_7 rfl (lv_at hl 2 rfl) ?_
  refine x_get (k := 2) hE hK hI (by decide) inG2 (e_2 G o _ _) rfl 0 (by decide) mw_32 rfl dX2_copyFrom_8 ?_
  refine lv_iload_n hx hb dX2_copyFrom_11 rfl (lv_at hl 0 rfl) ?_
  refine x_aald (k := 3) (j := 1) (t0 := 5) (q := o + 5) hE hK hI (by decide) (e_3 G o) rfl rfl (by decide) (by decide) rfl rfl dX2_copyFrom_12 ?_
  refine lv_iconst (v := 0) hx hb dX2_copyFrom_13 (by decide) ?_
  refine lv_aload_n hx hb dX2_copyFrom_14 rfl (lv_at hl 1 rfl) ?_
  refine x_get (k := 189) hE hK hI (by decide) inG2 (e_189 G o _ _) rfl 0 (by decide) mw_32 rfl dX2_copyFrom_15 ?_
  refine lv_iload_n hx hb dX2_copyFrom_18 rfl (lv_at hl 0 rfl) ?_
  refine x_aald (k := 190) (j := 1) (t0 := 5) (q := o + 192) hE hK hI (by decide) (e_190 G o) rfl rfl (by decide) (by decide) rfl rfl dX2_copyFrom_19 ?_
  refine lv_iconst (v := 0) hx hb dX2_copyFrom_20 (by decide) ?_
  refine lv_iconst (v := 4) hx hb dX2_copyFrom_21 (by decide) ?_
  refine x_copy (k0 := 5) (k := 192) hE hK hI (by decide) (by decide) (e_5 G o) (e_192 G o) (hE.2.2.1.trans hl.1.symm) mw_457 (Nat.le_of_ble_eq_true rfl) (by decide +kernel) dX2_copyFrom_22 (fun H locs hI => ?_)
  refine lv_iinc (v := 2) (lv' := [(2, .int 2), (0, .ref (o + 189)), (1, .ref (o + 2))]) hx hb dX2_copyFrom_25 hl (k := 0) rfl (by decide) (by decide) rfl (fun ls hl => ?_)
  refine lv_goto (tgt := 2) hx hb dX2_copyFrom_28 (by decide) ?_
  refine lv_iload_n hx hb dX2_copyFrom_2 rfl (lv_at hl 0 rfl) ?_
  refine lv_iconst (v := 4) hx hb dX2_copyFrom_3 (by decide) ?_
  refine lv_icmp_ge (tgt := 31) hx hb dX2_copyFrom_4 (by decide) (fun q => absurd q (by decide)) (fun _ => ?_)
  refine lv_aload_n hx hb dX2_copyFrom_7 rfl (lv_at hl 2 rfl) ?_
  refine x_get (k := 2) hE hK hI (by decide) inG2 (e_2 G o _ _) rfl 0 (by decide) mw_32 rfl dX2_copyFrom_8 ?_
  refine lv_iload_n hx hb dX2_copyFrom_11 rfl (lv_at hl 0 rfl) ?_
  refine x_aald (k := 3) (j := 2) (t0 := 5) (q := o + 6) hE hK hI (by decide) (e_3 G o) rfl rfl (by decide) (by decide) rfl rfl dX2_copyFrom_12 ?_
  refine lv_iconst (v := 0) hx hb dX2_copyFrom_13 (by decide) ?_
  refine lv_aload_n hx hb dX2_copyFrom_14 rfl (lv_at hl 1 rfl) ?_
  refine x_get (k := 189) hE hK hI (by decide) inG2 (e_189 G o _ _) rfl 0 (by decide) mw_32 rfl dX2_copyFrom_15 ?_
  refine lv_iload_n hx hb dX2_copyFrom_18 rfl (lv_at hl 0 rfl) ?_
  refine x_aald (k := 190) (j := 2) (t0 := 5) (q := o + 193) hE hK hI (by decide) (e_190 G o) rfl rfl (by decide) (by decide) rfl rfl dX2_copyFrom_19 ?_
  refine lv_iconst (v := 0) hx hb dX2_copyFrom_20 (by decide) ?_
  refine lv_iconst (v := 4) hx hb dX2_copyFrom_21 (by decide) ?_
  refine x_copy (k0 := 6) (k := 193) hE hK hI (by decide) (by decide) (e_6 G o) (e_193 G o) (hE.2.2.1.trans hl.1.symm) mw_457 (Nat.le_of_ble_eq_true rfl) (by decide +kernel) dX2_copyFrom_22 (fun H locs hI => ?_)
  refine lv_iinc (v := 3) (lv' := [(2, .int 3), (0, .ref (o + 189)), (1, .ref (o + 2))]) hx hb dX2_copyFrom_25 hl (k := 0) rfl (by decide) (by decide) rfl (fun ls hl => ?_)
  refine lv_goto (tgt := 2) hx hb dX2_copyFrom_28 (by decide) ?_
  refine lv_iload_n hx hb dX2_copyFrom_2 rfl (lv_at hl 0 rfl) ?_
  refine lv_iconst (v := 4) hx hb dX2_copyFrom_3 (by decide) ?_
  refine lv_icmp_ge (tgt := 31) hx hb dX2_copyFrom_4 (by decide) (fun q => absurd q (by decide)) (fun _ => ?_)
  refine lv_aload_n hx hb dX2_copyFrom_7 rfl (lv_at hl 2 rfl) ?_
  refine x_get (k := 2) hE hK hI (by decide) inG2 (e_2 G o _ _) rfl 0 (by decide) mw_32 rfl dX2_copyFrom_8 ?_
  refine lv_iload_n hx hb dX2_copyFrom_11 rfl (lv_at hl 0 rfl) ?_
  refine x_aald (k := 3) (j := 3) (t0 := 5) (q := o + 7) hE hK hI (by decide) (e_3 G o) rfl rfl (by decide) (by decide) rfl rfl dX2_copyFrom_12 ?_
  refine lv_iconst (v := 0) hx hb dX2_copyFrom_13 (by decide) ?_
  refine lv_aload_n hx hb dX2_copyFrom_14 rfl (lv_at hl 1 rfl) ?_
  refine x_get (k := 189) hE hK hI (by decide) inG2 (e_189 G o _ _) rfl 0 (by decide) mw_32 rfl dX2_copyFrom_15 ?_
  refine lv_iload_n hx hb dX2_copyFrom_18 rfl (lv_at hl 0 rfl) ?_
  refine x_aald (k := 190) (j := 3) (t0 := 5) (q := o + 194) hE hK hI (by decide) (e_190 G o) rfl rfl (by decide) (by decide) rfl rfl dX2_copyFrom_19 ?_
  refine lv_iconst (v := 0) hx hb dX2_copyFrom_20 (by decide) ?_
  refine lv_iconst (v := 4) hx hb dX2_copyFrom_21 (by decide) ?_
  refine x_copy (k0 := 7) (k := 194) hE hK hI (by decide) (by decide) (e_7 G o) (e_194 G o) (hE.2.2.1.trans hl.1.symm) mw_457 (Nat.le_of_ble_eq_true rfl) (by decide +kernel) dX2_copyFrom_22 (fun H locs hI => ?_)
  refine lv_iinc (v := 4) (lv' := [(2, .int 4), (0, .ref (o + 189)), (1, .ref (o + 2))]) hx hb dX2_copyFrom_25 hl (k := 0) rfl (by decide) (by decide) rfl (fun ls hl => ?_)
  refine lv_goto (tgt := 2) hx hb dX2_copyFrom_28 (by decide) ?_
  refine lv_iload_n hx hb dX2_copyFrom_2 rfl (lv_at hl 0 rfl) ?_
  refine lv_iconst (v := 4) hx hb dX2_copyFrom_3 (by decide) ?_
  refine lv_icmp_ge (tgt := 31) hx hb dX2_copyFrom_4 (by decide) (fun _ => ?_) (fun q => absurd (by decide) q)
  refine lv_aload_n hx hb dX2_copyFrom_31 rfl (lv_at hl 2 rfl) ?_
  refine x_get (k := 2) hE hK hI (by decide) inG2 (e_2 G o _ _) rfl 1 (by decide) mw_36 rfl dX2_copyFrom_32 ?_
  refine lv_iconst (v := 0) hx hb dX2_copyFrom_35 (by decide) ?_
  refine lv_aload_n hx hb dX2_copyFrom_36 rfl (lv_at hl 1 rfl) ?_
  refine x_get (k := 189) hE hK hI (by decide) inG2 (e_189 G o _ _) rfl 1 (by decide) mw_36 rfl dX2_copyFrom_37 ?_
  refine lv_iconst (v := 0) hx hb dX2_copyFrom_40 (by decide) ?_
  refine lv_iconst (v := 4) hx hb dX2_copyFrom_41 (by decide) ?_
  refine x_copy (k0 := 8) (k := 195) hE hK hI (by decide) (by decide) (e_8 G o) (e_195 G o) (hE.2.2.1.trans hl.1.symm) mw_457 (Nat.le_of_ble_eq_true rfl) (by decide +kernel) dX2_copyFrom_42 (fun H locs hI => ?_)
  refine lv_aload_n hx hb dX2_copyFrom_45 rfl (lv_at hl 2 rfl) ?_
  refine x_get (k := 2) hE hK hI (by decide) inG2 (e_2 G o _ _) rfl 2 (by decide) mw_39 rfl dX2_copyFrom_46 ?_
  refine lv_iconst (v := 0) hx hb dX2_copyFrom_49 (by decide) ?_
  refine lv_aload_n hx hb dX2_copyFrom_50 rfl (lv_at hl 1 rfl) ?_
  refine x_get (k := 189) hE hK hI (by decide) inG2 (e_189 G o _ _) rfl 2 (by decide) mw_39 rfl dX2_copyFrom_51 ?_
  refine lv_iconst (v := 0) hx hb dX2_copyFrom_54 (by decide) ?_
  refine lv_iconst (v := 4) hx hb dX2_copyFrom_55 (by decide) ?_
  refine x_copy (k0 := 9) (k := 196) hE hK hI (by decide) (by decide) (e_9 G o) (e_196 G o) (hE.2.2.1.trans hl.1.symm) mw_457 (Nat.le_of_ble_eq_true rfl) (by decide +kernel) dX2_copyFrom_56 (fun H locs hI => ?_)
  refine lv_aload_n hx hb dX2_copyFrom_59 rfl (lv_at hl 2 rfl) ?_
  refine x_get (k := 2) hE hK hI (by decide) inG2 (e_2 G o _ _) rfl 3 (by decide) mw_42 rfl dX2_copyFrom_60 ?_
  refine lv_iconst (v := 0) hx hb dX2_copyFrom_63 (by decide) ?_
  refine lv_aload_n hx hb dX2_copyFrom_64 rfl (lv_at hl 1 rfl) ?_
  refine x_get (k := 189) hE hK hI (by decide) inG2 (e_189 G o _ _) rfl 3 (by decide) mw_42 rfl dX2_copyFrom_65 ?_
  refine lv_iconst (v := 0) hx hb dX2_copyFrom_68 (by decide) ?_
  refine lv_iconst (v := 4) hx hb dX2_copyFrom_69 (by decide) ?_
  refine x_copy (k0 := 10) (k := 197) hE hK hI (by decide) (by decide) (e_10 G o) (e_197 G o) (hE.2.2.1.trans hl.1.symm) mw_457 (Nat.le_of_ble_eq_true rfl) (by decide +kernel) dX2_copyFrom_70 (fun H locs hI => ?_)
  refine lv_aload_n hx hb dX2_copyFrom_73 rfl (lv_at hl 1 rfl) ?_
  refine lv_aload_n hx hb dX2_copyFrom_74 rfl (lv_at hl 2 rfl) ?_
  refine x_get (k := 2) hE hK hI (by decide) inG2 (e_2 G o _ _) rfl 4 (by decide) mw_45 rfl dX2_copyFrom_75 ?_
  refine lv_topi (fun z1 ez1 => ?_)
  obtain rfl : X 2 4 = z1 := (ez1.trans ((cx_o (by omega)).trans ((cx_o (by omega)).trans ((cx_o (by omega)).trans ((cx_o (by omega)).trans ((cx_o (by omega)).trans ((cx_o (by omega)).trans ((cx_o (by omega)))))))))).symm
  refine x_puti (k := 189) hE hK hI (by decide) inG2 tyX2 tyX2_ok nmX2 (e_189 G o) rfl 4 (by decide) mw_45 rfl (by decide +kernel) (by exact Nat.le_of_ble_eq_true rfl) rfl dX2_copyFrom_78 (fun H locs hI => ?_)
  refine lv_aload_n hx hb dX2_copyFrom_81 rfl (lv_at hl 1 rfl) ?_
  refine lv_aload_n hx hb dX2_copyFrom_82 rfl (lv_at hl 2 rfl) ?_
  refine x_get (k := 2) hE hK hI (by decide) inG2 (e_2 G o _ _) rfl 5 (by decide) mw_48 rfl dX2_copyFrom_83 ?_
  refine lv_topi (fun z2 ez2 => ?_)
  obtain rfl : X 2 5 = z2 := (ez2.trans ((sx_o (by decide)).trans ((cx_o (by omega)).trans ((cx_o (by omega)).trans ((cx_o (by omega)).trans ((cx_o (by omega)).trans ((cx_o (by omega)).trans ((cx_o (by omega)).trans ((cx_o (by omega))))))))))).symm
  refine x_puti (k := 189) hE hK hI (by decide) inG2 tyX2 tyX2_ok nmX2 (e_189 G o) rfl 5 (by decide) mw_48 rfl (by decide +kernel) (by exact Nat.le_of_ble_eq_true rfl) rfl dX2_copyFrom_86 (fun H locs hI => ?_)
  exact x_vret hE hr hlocks hI rfl rfl rfl dX2_copyFrom_89
def cl_188_1 (X : SX) : Nat → SX
  | 0 => X
  | k + 1 => lc_201_14_X (cl_188_1 X k) k
theorem lc_201_14_X_o {X : SX} {i k j : Nat} (h : k ≠ 201 + 2 * i) (h2 : k ≠ 202 + 2 * i) : lc_201_14_X X i k j = X k j := by
  unfold lc_201_14_X
  simp (disch := omega) only [sx_o, cx_o]
theorem cl_188_1_o {X : SX} {k j : Nat} : ∀ n : Nat, n ≤ 40 → (k < 201 ∨ 201 + 2 * n ≤ k) → cl_188_1 X n k j = X k j
  | 0, _, _ => rfl
  | n + 1, hn, h => by
    show lc_201_14_X (cl_188_1 X n) n k j = X k j
    rw [lc_201_14_X_o (by omega) (by omega)]
    exact cl_188_1_o n (by omega) (by omega)
def si_188_1_X (X : SX) (cnt : Nat) : SX := sx (sx (sx (sx (sx (sx (sx (cx (cl_188_1 X cnt) 13 200) 198 2 (nI cnt)) 198 3 (X 11 3)) 198 4 (X 11 4)) 198 5 (X 11 5)) 198 6 (X 11 6)) 198 7 (X 11 7)) 198 8 (X 11 8)
set_option maxRecDepth 100000 in
set_option maxHeartbeats 4000000 in
theorem lp_X3_copyFrom_188_1 (l : Launch) (G : GG) (o : Nat) (X : SX) (Y : SY) (cnt : Nat) (hc : X 11 2 = nI cnt) (h40 : cnt ≤ 40) {p9 : Program} {e9 : Env} {s9 : State} {m9 : MethodId} {args9 : Array Value} {below9 : List Frame} {meth9 : Method} {c9 : Code} (hE : gE p9 m9 c9 cX3_copyFrom 3 s9 args9 yX3_copyFrom.cls) (hr : meth9.sig.returnType = none) (hlocks : meth9.locks = false) (hK : KK G s9) :
    ∀ (n : Nat) (i : Nat), i + n = cnt → ∀ (H : Heap) (locs : List Loc), In G o (cl_188_1 X i) Y s9.heap H locs → ∀ ls : Array Slot, lv_has ls 3 [(0, .ref (o + 198)), (1, .ref (o + 11)), (2, .int (nI i))] → W p9 l e9 (Rm 2 81) s9 m9 args9 below9 meth9 c9 H locs 0 0 (MQ below9 (Qw G o none (si_188_1_X X cnt) Y) args9 s9 0 0 (rg o)) (F0 m9 2 ls []) := by
  have hx := hE.1
  have hb := hE.2.1
  intro n
  induction n with
  | zero =>
    intro i hi H locs hI ls hl
    have ei : i = cnt := by omega
    refine lv_iload_n hx hb dX3_copyFrom_2 rfl (lv_at hl 2 rfl) ?_
    refine lv_aload_n hx hb dX3_copyFrom_3 rfl (lv_at hl 1 rfl) ?_
    refine x_get (k := 11) hE hK hI (by decide) inG3 (e_11 G o _ _) rfl 2 (by decide) mw_106 rfl dX3_copyFrom_4 ?_
    refine lv_topi (fun z1 ez1 => ?_)
    obtain rfl : nI cnt = z1 := (ez1.trans (((cl_188_1_o i (by omega) (by omega)).trans hc))).symm
    refine lv_icmp_ge (tgt := 31) hx hb dX3_copyFrom_7 (by decide) (fun _ => ?_) (fun q => absurd (nI_le (by omega) (by omega)) q)
    refine lv_aload_n hx hb dX3_copyFrom_31 rfl (lv_at hl 1 rfl) ?_
    refine x_get (k := 11) hE hK hI (by decide) inG3 (e_11 G o _ _) rfl 1 (by decide) mw_104 rfl dX3_copyFrom_32 ?_
    refine lv_iconst (v := 0) hx hb dX3_copyFrom_35 (by decide) ?_
    refine lv_aload_n hx hb dX3_copyFrom_36 rfl (lv_at hl 0 rfl) ?_
    refine x_get (k := 198) hE hK hI (by decide) inG3 (e_198 G o _ _) rfl 1 (by decide) mw_104 rfl dX3_copyFrom_37 ?_
    refine lv_iconst (v := 0) hx hb dX3_copyFrom_40 (by decide) ?_
    refine lv_iconst (v := 4) hx hb dX3_copyFrom_41 (by decide) ?_
    refine x_copy (k0 := 13) (k := 200) hE hK hI (by decide) (by decide) (e_13 G o) (e_200 G o) (hE.2.2.1.trans hl.1.symm) mw_469 (Nat.le_of_ble_eq_true rfl) (by decide +kernel) dX3_copyFrom_42 (fun H locs hI => ?_)
    refine lv_aload_n hx hb dX3_copyFrom_45 rfl (lv_at hl 0 rfl) ?_
    refine lv_aload_n hx hb dX3_copyFrom_46 rfl (lv_at hl 1 rfl) ?_
    refine x_get (k := 11) hE hK hI (by decide) inG3 (e_11 G o _ _) rfl 2 (by decide) mw_106 rfl dX3_copyFrom_47 ?_
    refine lv_topi (fun z2 ez2 => ?_)
    obtain rfl : nI cnt = z2 := (ez2.trans ((cx_o (by omega)).trans (((cl_188_1_o i (by omega) (by omega)).trans hc)))).symm
    refine x_puti (k := 198) hE hK hI (by decide) inG3 tyX3 tyX3_ok nmX3 (e_198 G o) rfl 2 (by decide) mw_106 rfl (by decide +kernel) (by exact Nat.le_of_ble_eq_true rfl) rfl dX3_copyFrom_50 (fun H locs hI => ?_)
    refine lv_aload_n hx hb dX3_copyFrom_53 rfl (lv_at hl 0 rfl) ?_
    refine lv_aload_n hx hb dX3_copyFrom_54 rfl (lv_at hl 1 rfl) ?_
    refine x_get (k := 11) hE hK hI (by decide) inG3 (e_11 G o _ _) rfl 3 (by decide) mw_108 rfl dX3_copyFrom_55 ?_
    refine lv_topi (fun z3 ez3 => ?_)
    obtain rfl : X 11 3 = z3 := (ez3.trans ((sx_o (by decide)).trans ((cx_o (by omega)).trans (((cl_188_1_o i (by omega) (by omega)).trans rfl))))).symm
    refine x_puti (k := 198) hE hK hI (by decide) inG3 tyX3 tyX3_ok nmX3 (e_198 G o) rfl 3 (by decide) mw_108 rfl (by decide +kernel) (by exact Nat.le_of_ble_eq_true rfl) rfl dX3_copyFrom_58 (fun H locs hI => ?_)
    refine lv_aload_n hx hb dX3_copyFrom_61 rfl (lv_at hl 0 rfl) ?_
    refine lv_aload_n hx hb dX3_copyFrom_62 rfl (lv_at hl 1 rfl) ?_
    refine x_get (k := 11) hE hK hI (by decide) inG3 (e_11 G o _ _) rfl 4 (by decide) mw_110 rfl dX3_copyFrom_63 ?_
    refine lv_topi (fun z4 ez4 => ?_)
    obtain rfl : X 11 4 = z4 := (ez4.trans ((sx_o (by decide)).trans ((sx_o (by decide)).trans ((cx_o (by omega)).trans (((cl_188_1_o i (by omega) (by omega)).trans rfl)))))).symm
    refine x_puti (k := 198) hE hK hI (by decide) inG3 tyX3 tyX3_ok nmX3 (e_198 G o) rfl 4 (by decide) mw_110 rfl (by decide +kernel) (by exact Nat.le_of_ble_eq_true rfl) rfl dX3_copyFrom_66 (fun H locs hI => ?_)
    refine lv_aload_n hx hb dX3_copyFrom_69 rfl (lv_at hl 0 rfl) ?_
    refine lv_aload_n hx hb dX3_copyFrom_70 rfl (lv_at hl 1 rfl) ?_
    refine x_get (k := 11) hE hK hI (by decide) inG3 (e_11 G o _ _) rfl 5 (by decide) mw_111 rfl dX3_copyFrom_71 ?_
    refine lv_topi (fun z5 ez5 => ?_)
    obtain rfl : X 11 5 = z5 := (ez5.trans ((sx_o (by decide)).trans ((sx_o (by decide)).trans ((sx_o (by decide)).trans ((cx_o (by omega)).trans (((cl_188_1_o i (by omega) (by omega)).trans rfl))))))).symm
    refine x_puti (k := 198) hE hK hI (by decide) inG3 tyX3 tyX3_ok nmX3 (e_198 G o) rfl 5 (by decide) mw_111 rfl (by decide +kernel) (by exact Nat.le_of_ble_eq_true rfl) rfl dX3_copyFrom_74 (fun H locs hI => ?_)
    refine lv_aload_n hx hb dX3_copyFrom_77 rfl (lv_at hl 0 rfl) ?_
    refine lv_aload_n hx hb dX3_copyFrom_78 rfl (lv_at hl 1 rfl) ?_
    refine x_get (k := 11) hE hK hI (by decide) inG3 (e_11 G o _ _) rfl 6 (by decide) mw_113 rfl dX3_copyFrom_79 ?_
    refine lv_topi (fun z6 ez6 => ?_)
    obtain rfl : X 11 6 = z6 := (ez6.trans ((sx_o (by decide)).trans ((sx_o (by decide)).trans ((sx_o (by decide)).trans ((sx_o (by decide)).trans ((cx_o (by omega)).trans (((cl_188_1_o i (by omega) (by omega)).trans rfl)))))))).symm
    refine x_puti (k := 198) hE hK hI (by decide) inG3 tyX3 tyX3_ok nmX3 (e_198 G o) rfl 6 (by decide) mw_113 rfl (by decide +kernel) (by exact Nat.le_of_ble_eq_true rfl) rfl dX3_copyFrom_82 (fun H locs hI => ?_)
    refine lv_aload_n hx hb dX3_copyFrom_85 rfl (lv_at hl 0 rfl) ?_
    refine lv_aload_n hx hb dX3_copyFrom_86 rfl (lv_at hl 1 rfl) ?_
    refine x_get (k := 11) hE hK hI (by decide) inG3 (e_11 G o _ _) rfl 7 (by decide) mw_115 rfl dX3_copyFrom_87 ?_
    refine lv_topi (fun z7 ez7 => ?_)
    obtain rfl : X 11 7 = z7 := (ez7.trans ((sx_o (by decide)).trans ((sx_o (by decide)).trans ((sx_o (by decide)).trans ((sx_o (by decide)).trans ((sx_o (by decide)).trans ((cx_o (by omega)).trans (((cl_188_1_o i (by omega) (by omega)).trans rfl))))))))).symm
    refine x_puti (k := 198) hE hK hI (by decide) inG3 tyX3 tyX3_ok nmX3 (e_198 G o) rfl 7 (by decide) mw_115 rfl (by decide +kernel) (by exact Nat.le_of_ble_eq_true rfl) rfl dX3_copyFrom_90 (fun H locs hI => ?_)
    refine lv_aload_n hx hb dX3_copyFrom_93 rfl (lv_at hl 0 rfl) ?_
    refine lv_aload_n hx hb dX3_copyFrom_94 rfl (lv_at hl 1 rfl) ?_
    refine x_get (k := 11) hE hK hI (by decide) inG3 (e_11 G o _ _) rfl 8 (by decide) mw_117 rfl dX3_copyFrom_95 ?_
    refine lv_topi (fun z8 ez8 => ?_)
    obtain rfl : X 11 8 = z8 := (ez8.trans ((sx_o (by decide)).trans ((sx_o (by decide)).trans ((sx_o (by decide)).trans ((sx_o (by decide)).trans ((sx_o (by decide)).trans ((sx_o (by decide)).trans ((cx_o (by omega)).trans (((cl_188_1_o i (by omega) (by omega)).trans rfl)))))))))).symm
    refine x_puti (k := 198) hE hK hI (by decide) inG3 tyX3 tyX3_ok nmX3 (e_198 G o) rfl 8 (by decide) mw_117 rfl (by decide +kernel) (by exact Nat.le_of_ble_eq_true rfl) rfl dX3_copyFrom_98 (fun H locs hI => ?_)
    exact x_vret hE hr hlocks hI rfl (by rw [ei]; rfl) rfl dX3_copyFrom_101
  | succ n ih =>
    intro i hi H locs hI ls hl
    have h_i : i < 40 := by omega
    refine lv_iload_n hx hb dX3_copyFrom_2 rfl (lv_at hl 2 rfl) ?_
    refine lv_aload_n hx hb dX3_copyFrom_3 rfl (lv_at hl 1 rfl) ?_
    refine x_get (k := 11) hE hK hI (by decide) inG3 (e_11 G o _ _) rfl 2 (by decide) mw_106 rfl dX3_copyFrom_4 ?_
    refine lv_topi (fun z1 ez1 => ?_)
    obtain rfl : nI cnt = z1 := (ez1.trans (((cl_188_1_o i (by omega) (by omega)).trans hc))).symm
    refine lv_icmp_ge (tgt := 31) hx hb dX3_copyFrom_7 (by decide) (fun q => absurd q (nI_ge (by omega) (by omega))) (fun _ => ?_)
    refine lv_aload_n hx hb dX3_copyFrom_10 rfl (lv_at hl 0 rfl) ?_
    refine x_get (k := 198) hE hK hI (by decide) inG3 (e_198 G o _ _) rfl 0 (by decide) mw_102 rfl dX3_copyFrom_11 ?_
    refine lv_iload_n hx hb dX3_copyFrom_14 rfl (lv_at hl 2 rfl) ?_
    refine x_aald (k := 199) (j := i) (t0 := 3) (q := o + (201 + 2 * i)) hE hK hI (by decide) (e_199 G o) rfl rfl h_i (by decide) rfl (ql_201 h_i) dX3_copyFrom_15 ?_
    refine lv_aload_n hx hb dX3_copyFrom_16 rfl (lv_at hl 1 rfl) ?_
    refine x_get (k := 11) hE hK hI (by decide) inG3 (e_11 G o _ _) rfl 0 (by decide) mw_102 rfl dX3_copyFrom_17 ?_
    refine lv_iload_n hx hb dX3_copyFrom_20 rfl (lv_at hl 2 rfl) ?_
    refine x_aald (k := 12) (j := i) (t0 := 3) (q := o + (14 + 2 * i)) hE hK hI (by decide) (e_12 G o) rfl rfl h_i (by decide) rfl (ql_14 h_i) dX3_copyFrom_21 ?_
    refine x_callVv (k := (201 + 2 * i)) hE hK hI (c_X0_copyFrom_201_14 l G o _ _ i h_i) mf_X0_copyFrom mw_464 (by have := h_i; omega) ((el_201 G o h_i) _ _) rfl rfl hl.1 rfl (Nat.le_of_ble_eq_true rfl) ⟨(Nat.le_of_ble_eq_true rfl), (Nat.le_of_ble_eq_true rfl)⟩ ⟨Nat.zero_le _, Nat.zero_le _⟩ dX3_copyFrom_22 (fun H locs hI => ?_)
    refine lv_iinc (v := nI (i + 1)) (lv' := [(2, .int (nI (i + 1))), (0, .ref (o + 198)), (1, .ref (o + 11))]) hx hb dX3_copyFrom_25 hl (k := 2) rfl (nI_add i 1) (by decide) rfl (fun ls hl => ?_)
    refine lv_goto (tgt := 2) hx hb dX3_copyFrom_28 (by decide) ?_
    exact ih (i + 1) (by omega) H locs hI ls (lv_sub hl [1, 2, 0] rfl)
set_option maxRecDepth 100000 in
set_option maxHeartbeats 4000000 in
theorem c_X3_copyFrom_188_1 (l : Launch) (G : GG) (o : Nat) (X : SX) (Y : SY) (cnt : Nat) (hc : X 11 2 = nI cnt) (h40 : cnt ≤ 40) : Ct l yX3_copyFrom cX3_copyFrom 3 none 2 81 G o [.ref (o + 198), .ref (o + 11)] X Y none (si_188_1_X X cnt) Y := by
  refine Ct.mk (by decide +kernel) (Nat.le_of_ble_eq_true rfl) rfl ?_
  intro p9 e9 s9 m9 args9 below9 meth9 c9 hE hr hlocks hK hI ls hl
  have hx := hE.1
  have hb := hE.2.1
  have hl : lv_has ls 3 [(0, .ref (o + 198)), (1, .ref (o + 11))] := hl
  refine lv_iconst (v := 0) hx hb dX3_copyFrom_0 (by decide) ?_
  refine lv_istore_n (lv' := [(2, .int 0), (0, .ref (o + 198)), (1, .ref (o + 11))]) hx hb dX3_copyFrom_1 rfl hl (by decide) rfl (fun ls hl => ?_)
  exact lp_X3_copyFrom_188_1 l G o X Y cnt hc h40 hE hr hlocks hK cnt 0 (by omega) _ _ hI ls (lv_sub hl [1, 2, 0] rfl)
theorem se_188_1_X_o {X : SX} {k j : Nat} (h : k < 189 ∨ 197 < k) : se_188_1_X X k j = X k j := by
  unfold se_188_1_X
  simp (disch := omega) only [sx_o, cx_o]
def pc_188_1_X (X : SX) (cnt : Nat) : SX := si_188_1_X (se_188_1_X X) cnt
set_option maxRecDepth 100000 in
set_option maxHeartbeats 4000000 in
theorem c_X1_copyFrom_188_1 (l : Launch) (G : GG) (o : Nat) (X : SX) (Y : SY) (cnt : Nat) (hc : X 11 2 = nI cnt) (h40 : cnt ≤ 40) : Ct l yX1_copyFrom cX1_copyFrom 2 none 3 103 G o [.ref (o + 188), .ref (o + 1)] X Y none (pc_188_1_X X cnt) Y := by
  refine Ct.mk (by decide +kernel) (Nat.le_of_ble_eq_true rfl) rfl ?_
  intro p9 e9 s9 m9 args9 below9 meth9 c9 hE hr hlocks hK hI ls hl
  have hx := hE.1
  have hb := hE.2.1
  have hl : lv_has ls 2 [(0, .ref (o + 188)), (1, .ref (o + 1))] := hl
  refine lv_aload_n hx hb dX1_copyFrom_0 rfl (lv_at hl 0 rfl) ?_
  refine x_get (k := 188) hE hK hI (by decide) inG1 (e_188 G o _ _) rfl 0 (by decide) mw_138 rfl dX1_copyFrom_1 ?_
  refine lv_aload_n hx hb dX1_copyFrom_4 rfl (lv_at hl 1 rfl) ?_
  refine x_get (k := 1) hE hK hI (by decide) inG1 (e_1 G o _ _) rfl 0 (by decide) mw_138 rfl dX1_copyFrom_5 ?_
  refine x_callVv (k := 189) hE hK hI (c_X2_copyFrom_188_1 l G o _ _  ) mf_X2_copyFrom mw_453 (by decide) ((e_189 G o) _ _) rfl rfl hl.1 rfl (Nat.le_of_ble_eq_true rfl) ⟨(Nat.le_of_ble_eq_true rfl), (Nat.le_of_ble_eq_true rfl)⟩ ⟨Nat.zero_le _, Nat.zero_le _⟩ dX1_copyFrom_8 (fun H locs hI => ?_)
  refine lv_aload_n hx hb dX1_copyFrom_11 rfl (lv_at hl 0 rfl) ?_
  refine x_get (k := 188) hE hK hI (by decide) inG1 (e_188 G o _ _) rfl 1 (by decide) mw_140 rfl dX1_copyFrom_12 ?_
  refine lv_aload_n hx hb dX1_copyFrom_15 rfl (lv_at hl 1 rfl) ?_
  refine x_get (k := 1) hE hK hI (by decide) inG1 (e_1 G o _ _) rfl 1 (by decide) mw_140 rfl dX1_copyFrom_16 ?_
  refine x_callVv (k := 198) hE hK hI (c_X3_copyFrom_188_1 l G o _ _ cnt ((se_188_1_X_o (by omega)).trans hc) h40) mf_X3_copyFrom mw_460 (by decide) ((e_198 G o) _ _) rfl rfl hl.1 rfl (Nat.le_of_ble_eq_true rfl) ⟨(Nat.le_of_ble_eq_true rfl), (Nat.le_of_ble_eq_true rfl)⟩ ⟨Nat.zero_le _, Nat.zero_le _⟩ dX1_copyFrom_19 (fun H locs hI => ?_)
  exact x_vret hE hr hlocks hI rfl rfl rfl dX1_copyFrom_22
set_option maxRecDepth 100000 in
set_option maxHeartbeats 4000000 in
theorem c_X5_save_a (l : Launch) (G : GG) (o : Nat) (X : SX) (Y : SY) (v : Int32) (h : ¬ (Wi v 0 1)) : Ct l yX5_save cX5_save 2 (some .int) 2 42 G o [.ref (o + 0), .int v] X Y (some (.int (-3))) X Y := by
  refine Ct.mk (by decide +kernel) (Nat.le_of_ble_eq_true rfl) rfl ?_
  intro p9 e9 s9 m9 args9 below9 meth9 c9 hE hr hlocks hK hI ls hl
  have hx := hE.1
  have hb := hE.2.1
  have hl : lv_has ls 2 [(0, .ref (o + 0)), (1, .int v)] := hl
  refine lv_iload_n hx hb dX5_save_0 rfl (lv_at hl 1 rfl) ?_
  refine x_callSi hE hK hI (c_X5_isSlot l G o _ _ v ) mf_X5_isSlot mw_446 rfl hl.1 rfl (Nat.le_of_ble_eq_true rfl) ⟨(Nat.le_of_ble_eq_true rfl), (Nat.le_of_ble_eq_true rfl)⟩ ⟨Nat.zero_le _, Nat.zero_le _⟩ dX5_save_1 (fun H locs hI => ?_)
  refine lv_topi (fun z1 ez1 => ?_)
  obtain rfl : 0 = z1 := (ez1.trans (bI_f h)).symm
  refine lv_if_ne (tgt := 10) hx hb dX5_save_4 (by decide) (fun q => absurd (by decide) q) (fun _ => ?_)
  refine lv_bipush (v := (-3)) hx hb dX5_save_7 (by decide) ?_
  exact x_iret hE hr hlocks hI rfl rfl rfl dX5_save_9
set_option maxRecDepth 100000 in
set_option maxHeartbeats 4000000 in
theorem c_X5_restore_a (l : Launch) (G : GG) (o : Nat) (X : SX) (Y : SY) (v : Int32) (h : ¬ (Wi v 0 1)) : Ct l yX5_restore cX5_restore 2 (some .int) 2 42 G o [.ref (o + 0), .int v] X Y (some (.int (-3))) X Y := by
  refine Ct.mk (by decide +kernel) (Nat.le_of_ble_eq_true rfl) rfl ?_
  intro p9 e9 s9 m9 args9 below9 meth9 c9 hE hr hlocks hK hI ls hl
  have hx := hE.1
  have hb := hE.2.1
  have hl : lv_has ls 2 [(0, .ref (o + 0)), (1, .int v)] := hl
  refine lv_iload_n hx hb dX5_restore_0 rfl (lv_at hl 1 rfl) ?_
  refine x_callSi hE hK hI (c_X5_isSlot l G o _ _ v ) mf_X5_isSlot mw_446 rfl hl.1 rfl (Nat.le_of_ble_eq_true rfl) ⟨(Nat.le_of_ble_eq_true rfl), (Nat.le_of_ble_eq_true rfl)⟩ ⟨Nat.zero_le _, Nat.zero_le _⟩ dX5_restore_1 (fun H locs hI => ?_)
  refine lv_topi (fun z1 ez1 => ?_)
  obtain rfl : 0 = z1 := (ez1.trans (bI_f h)).symm
  refine lv_if_ne (tgt := 10) hx hb dX5_restore_4 (by decide) (fun q => absurd (by decide) q) (fun _ => ?_)
  refine lv_bipush (v := (-3)) hx hb dX5_restore_7 (by decide) ?_
  exact x_iret hE hr hlocks hI rfl rfl rfl dX5_restore_9
set_option maxRecDepth 100000 in
set_option maxHeartbeats 4000000 in
theorem c_X5_save_0 (l : Launch) (G : GG) (o : Nat) (X : SX) (Y : SY) (cnt : Nat) (hc : X 11 2 = nI cnt) (h40 : cnt ≤ 40) : Ct l yX5_save cX5_save 2 (some .int) 4 124 G o [.ref (o + 0), .int 0] X Y (some (.int ((pc_95_1_X X cnt) 11 3))) (sx (pc_95_1_X X cnt) 281 0 1) Y := by
  refine Ct.mk (by decide +kernel) (Nat.le_of_ble_eq_true rfl) rfl ?_
  intro p9 e9 s9 m9 args9 below9 meth9 c9 hE hr hlocks hK hI ls hl
  have hx := hE.1
  have hb := hE.2.1
  have hl : lv_has ls 2 [(0, .ref (o + 0)), (1, .int 0)] := hl
  refine lv_iload_n hx hb dX5_save_0 rfl (lv_at hl 1 rfl) ?_
  refine x_callSi hE hK hI (c_X5_isSlot l G o _ _ 0 ) mf_X5_isSlot mw_446 rfl hl.1 rfl (Nat.le_of_ble_eq_true rfl) ⟨(Nat.le_of_ble_eq_true rfl), (Nat.le_of_ble_eq_true rfl)⟩ ⟨Nat.zero_le _, Nat.zero_le _⟩ dX5_save_1 (fun H locs hI => ?_)
  refine lv_topi (fun z1 ez1 => ?_)
  obtain rfl : 1 = z1 := (ez1.trans (bI_t (by decide))).symm
  refine lv_if_ne (tgt := 10) hx hb dX5_save_4 (by decide) (fun _ => ?_) (fun q => absurd q (by decide))
  refine lv_aload_n hx hb dX5_save_10 rfl (lv_at hl 0 rfl) ?_
  refine x_get (k := 0) hE hK hI (by decide) inG5 (e_0 G o _ _) rfl 1 (by decide) mw_173 rfl dX5_save_11 ?_
  refine lv_iload_n hx hb dX5_save_14 rfl (lv_at hl 1 rfl) ?_
  refine x_aald (k := 94) (j := 0) (t0 := 4) (q := o + 95) hE hK hI (by decide) (e_94 G o) rfl rfl (by decide) (by decide) rfl rfl dX5_save_15 ?_
  refine lv_aload_n hx hb dX5_save_16 rfl (lv_at hl 0 rfl) ?_
  refine x_get (k := 0) hE hK hI (by decide) inG5 (e_0 G o _ _) rfl 0 (by decide) mw_172 rfl dX5_save_17 ?_
  refine x_callVv (k := 95) hE hK hI (c_X1_copyFrom_95_1 l G o _ _ cnt hc h40) mf_X1_copyFrom mw_449 (by decide) ((e_95 G o) _ _) rfl rfl hl.1 rfl (Nat.le_of_ble_eq_true rfl) ⟨(Nat.le_of_ble_eq_true rfl), (Nat.le_of_ble_eq_true rfl)⟩ ⟨Nat.zero_le _, Nat.zero_le _⟩ dX5_save_20 (fun H locs hI => ?_)
  refine lv_aload_n hx hb dX5_save_23 rfl (lv_at hl 0 rfl) ?_
  refine x_get (k := 0) hE hK hI (by decide) inG5 (e_0 G o _ _) rfl 2 (by decide) mw_174 rfl dX5_save_24 ?_
  refine lv_iload_n hx hb dX5_save_27 rfl (lv_at hl 1 rfl) ?_
  refine lv_iconst (v := 1) hx hb dX5_save_28 (by decide) ?_
  refine x_zast (k := 281) (j := 0) hE hK hI (by decide) (e_281 G o) (by decide) (by decide) rfl (by decide) dX5_save_29 (fun H locs hI => ?_)
  refine lv_aload_n hx hb dX5_save_30 rfl (lv_at hl 0 rfl) ?_
  refine x_get (k := 0) hE hK hI (by decide) inG5 (e_0 G o _ _) rfl 0 (by decide) mw_172 rfl dX5_save_31 ?_
  refine x_get (k := 1) hE hK hI (by decide) inG1 (e_1 G o _ _) rfl 1 (by decide) mw_141 rfl dX5_save_34 ?_
  refine x_get (k := 11) hE hK hI (by decide) inG3 (e_11 G o _ _) rfl 3 (by decide) mw_109 rfl dX5_save_37 ?_
  refine lv_topi (fun z2 ez2 => ?_)
  obtain rfl : (pc_95_1_X X cnt) 11 3 = z2 := (ez2.trans ((sx_o (by decide)))).symm
  exact x_iret hE hr hlocks hI rfl rfl rfl dX5_save_40
set_option maxRecDepth 100000 in
set_option maxHeartbeats 4000000 in
theorem c_X5_restore_n0 (l : Launch) (G : GG) (o : Nat) (X : SX) (Y : SY) (h : X 281 0 = 0) : Ct l yX5_restore cX5_restore 2 (some .int) 2 42 G o [.ref (o + 0), .int 0] X Y (some (.int (-6))) X Y := by
  refine Ct.mk (by decide +kernel) (Nat.le_of_ble_eq_true rfl) rfl ?_
  intro p9 e9 s9 m9 args9 below9 meth9 c9 hE hr hlocks hK hI ls hl
  have hx := hE.1
  have hb := hE.2.1
  have hl : lv_has ls 2 [(0, .ref (o + 0)), (1, .int 0)] := hl
  refine lv_iload_n hx hb dX5_restore_0 rfl (lv_at hl 1 rfl) ?_
  refine x_callSi hE hK hI (c_X5_isSlot l G o _ _ 0 ) mf_X5_isSlot mw_446 rfl hl.1 rfl (Nat.le_of_ble_eq_true rfl) ⟨(Nat.le_of_ble_eq_true rfl), (Nat.le_of_ble_eq_true rfl)⟩ ⟨Nat.zero_le _, Nat.zero_le _⟩ dX5_restore_1 (fun H locs hI => ?_)
  refine lv_topi (fun z1 ez1 => ?_)
  obtain rfl : 1 = z1 := (ez1.trans (bI_t (by decide))).symm
  refine lv_if_ne (tgt := 10) hx hb dX5_restore_4 (by decide) (fun _ => ?_) (fun q => absurd q (by decide))
  refine lv_aload_n hx hb dX5_restore_10 rfl (lv_at hl 0 rfl) ?_
  refine x_get (k := 0) hE hK hI (by decide) inG5 (e_0 G o _ _) rfl 2 (by decide) mw_174 rfl dX5_restore_11 ?_
  refine lv_iload_n hx hb dX5_restore_14 rfl (lv_at hl 1 rfl) ?_
  refine x_zald (k := 281) (j := 0) hE hK hI (by decide) (e_281 G o) (by decide) (by decide) rfl dX5_restore_15 ?_
  refine lv_if_ne (tgt := 22) hx hb dX5_restore_16 (by decide) (fun q => absurd h q) (fun _ => ?_)
  refine lv_bipush (v := (-6)) hx hb dX5_restore_19 (by decide) ?_
  exact x_iret hE hr hlocks hI rfl rfl rfl dX5_restore_21
set_option maxRecDepth 100000 in
set_option maxHeartbeats 4000000 in
theorem c_X5_restore_0 (l : Launch) (G : GG) (o : Nat) (X : SX) (Y : SY) (cnt : Nat) (h : ¬ (X 281 0 = 0)) (hc : X 105 2 = nI cnt) (h40 : cnt ≤ 40) : Ct l yX5_restore cX5_restore 2 (some .int) 4 124 G o [.ref (o + 0), .int 0] X Y (some (.int ((pc_1_95_X X cnt) 11 3))) (pc_1_95_X X cnt) Y := by
  refine Ct.mk (by decide +kernel) (Nat.le_of_ble_eq_true rfl) rfl ?_
  intro p9 e9 s9 m9 args9 below9 meth9 c9 hE hr hlocks hK hI ls hl
  have hx := hE.1
  have hb := hE.2.1
  have hl : lv_has ls 2 [(0, .ref (o + 0)), (1, .int 0)] := hl
  refine lv_iload_n hx hb dX5_restore_0 rfl (lv_at hl 1 rfl) ?_
  refine x_callSi hE hK hI (c_X5_isSlot l G o _ _ 0 ) mf_X5_isSlot mw_446 rfl hl.1 rfl (Nat.le_of_ble_eq_true rfl) ⟨(Nat.le_of_ble_eq_true rfl), (Nat.le_of_ble_eq_true rfl)⟩ ⟨Nat.zero_le _, Nat.zero_le _⟩ dX5_restore_1 (fun H locs hI => ?_)
  refine lv_topi (fun z1 ez1 => ?_)
  obtain rfl : 1 = z1 := (ez1.trans (bI_t (by decide))).symm
  refine lv_if_ne (tgt := 10) hx hb dX5_restore_4 (by decide) (fun _ => ?_) (fun q => absurd q (by decide))
  refine lv_aload_n hx hb dX5_restore_10 rfl (lv_at hl 0 rfl) ?_
  refine x_get (k := 0) hE hK hI (by decide) inG5 (e_0 G o _ _) rfl 2 (by decide) mw_174 rfl dX5_restore_11 ?_
  refine lv_iload_n hx hb dX5_restore_14 rfl (lv_at hl 1 rfl) ?_
  refine x_zald (k := 281) (j := 0) hE hK hI (by decide) (e_281 G o) (by decide) (by decide) rfl dX5_restore_15 ?_
  refine lv_if_ne (tgt := 22) hx hb dX5_restore_16 (by decide) (fun _ => ?_) (fun q => absurd q h)
  refine lv_aload_n hx hb dX5_restore_22 rfl (lv_at hl 0 rfl) ?_
  refine x_get (k := 0) hE hK hI (by decide) inG5 (e_0 G o _ _) rfl 0 (by decide) mw_172 rfl dX5_restore_23 ?_
  refine lv_aload_n hx hb dX5_restore_26 rfl (lv_at hl 0 rfl) ?_
  refine x_get (k := 0) hE hK hI (by decide) inG5 (e_0 G o _ _) rfl 1 (by decide) mw_173 rfl dX5_restore_27 ?_
  refine lv_iload_n hx hb dX5_restore_30 rfl (lv_at hl 1 rfl) ?_
  refine x_aald (k := 94) (j := 0) (t0 := 4) (q := o + 95) hE hK hI (by decide) (e_94 G o) rfl rfl (by decide) (by decide) rfl rfl dX5_restore_31 ?_
  refine x_callVv (k := 1) hE hK hI (c_X1_copyFrom_1_95 l G o _ _ cnt hc h40) mf_X1_copyFrom mw_449 (by decide) ((e_1 G o) _ _) rfl rfl hl.1 rfl (Nat.le_of_ble_eq_true rfl) ⟨(Nat.le_of_ble_eq_true rfl), (Nat.le_of_ble_eq_true rfl)⟩ ⟨Nat.zero_le _, Nat.zero_le _⟩ dX5_restore_32 (fun H locs hI => ?_)
  refine lv_aload_n hx hb dX5_restore_35 rfl (lv_at hl 0 rfl) ?_
  refine x_get (k := 0) hE hK hI (by decide) inG5 (e_0 G o _ _) rfl 0 (by decide) mw_172 rfl dX5_restore_36 ?_
  refine x_get (k := 1) hE hK hI (by decide) inG1 (e_1 G o _ _) rfl 1 (by decide) mw_141 rfl dX5_restore_39 ?_
  refine x_get (k := 11) hE hK hI (by decide) inG3 (e_11 G o _ _) rfl 3 (by decide) mw_109 rfl dX5_restore_42 ?_
  exact x_iret hE hr hlocks hI rfl rfl rfl dX5_restore_45
set_option maxRecDepth 100000 in
set_option maxHeartbeats 4000000 in
theorem c_X5_save_1 (l : Launch) (G : GG) (o : Nat) (X : SX) (Y : SY) (cnt : Nat) (hc : X 11 2 = nI cnt) (h40 : cnt ≤ 40) : Ct l yX5_save cX5_save 2 (some .int) 4 124 G o [.ref (o + 0), .int 1] X Y (some (.int ((pc_188_1_X X cnt) 11 3))) (sx (pc_188_1_X X cnt) 281 1 1) Y := by
  refine Ct.mk (by decide +kernel) (Nat.le_of_ble_eq_true rfl) rfl ?_
  intro p9 e9 s9 m9 args9 below9 meth9 c9 hE hr hlocks hK hI ls hl
  have hx := hE.1
  have hb := hE.2.1
  have hl : lv_has ls 2 [(0, .ref (o + 0)), (1, .int 1)] := hl
  refine lv_iload_n hx hb dX5_save_0 rfl (lv_at hl 1 rfl) ?_
  refine x_callSi hE hK hI (c_X5_isSlot l G o _ _ 1 ) mf_X5_isSlot mw_446 rfl hl.1 rfl (Nat.le_of_ble_eq_true rfl) ⟨(Nat.le_of_ble_eq_true rfl), (Nat.le_of_ble_eq_true rfl)⟩ ⟨Nat.zero_le _, Nat.zero_le _⟩ dX5_save_1 (fun H locs hI => ?_)
  refine lv_topi (fun z1 ez1 => ?_)
  obtain rfl : 1 = z1 := (ez1.trans (bI_t (by decide))).symm
  refine lv_if_ne (tgt := 10) hx hb dX5_save_4 (by decide) (fun _ => ?_) (fun q => absurd q (by decide))
  refine lv_aload_n hx hb dX5_save_10 rfl (lv_at hl 0 rfl) ?_
  refine x_get (k := 0) hE hK hI (by decide) inG5 (e_0 G o _ _) rfl 1 (by decide) mw_173 rfl dX5_save_11 ?_
  refine lv_iload_n hx hb dX5_save_14 rfl (lv_at hl 1 rfl) ?_
  refine x_aald (k := 94) (j := 1) (t0 := 4) (q := o + 188) hE hK hI (by decide) (e_94 G o) rfl rfl (by decide) (by decide) rfl rfl dX5_save_15 ?_
  refine lv_aload_n hx hb dX5_save_16 rfl (lv_at hl 0 rfl) ?_
  refine x_get (k := 0) hE hK hI (by decide) inG5 (e_0 G o _ _) rfl 0 (by decide) mw_172 rfl dX5_save_17 ?_
  refine x_callVv (k := 188) hE hK hI (c_X1_copyFrom_188_1 l G o _ _ cnt hc h40) mf_X1_copyFrom mw_449 (by decide) ((e_188 G o) _ _) rfl rfl hl.1 rfl (Nat.le_of_ble_eq_true rfl) ⟨(Nat.le_of_ble_eq_true rfl), (Nat.le_of_ble_eq_true rfl)⟩ ⟨Nat.zero_le _, Nat.zero_le _⟩ dX5_save_20 (fun H locs hI => ?_)
  refine lv_aload_n hx hb dX5_save_23 rfl (lv_at hl 0 rfl) ?_
  refine x_get (k := 0) hE hK hI (by decide) inG5 (e_0 G o _ _) rfl 2 (by decide) mw_174 rfl dX5_save_24 ?_
  refine lv_iload_n hx hb dX5_save_27 rfl (lv_at hl 1 rfl) ?_
  refine lv_iconst (v := 1) hx hb dX5_save_28 (by decide) ?_
  refine x_zast (k := 281) (j := 1) hE hK hI (by decide) (e_281 G o) (by decide) (by decide) rfl (by decide) dX5_save_29 (fun H locs hI => ?_)
  refine lv_aload_n hx hb dX5_save_30 rfl (lv_at hl 0 rfl) ?_
  refine x_get (k := 0) hE hK hI (by decide) inG5 (e_0 G o _ _) rfl 0 (by decide) mw_172 rfl dX5_save_31 ?_
  refine x_get (k := 1) hE hK hI (by decide) inG1 (e_1 G o _ _) rfl 1 (by decide) mw_141 rfl dX5_save_34 ?_
  refine x_get (k := 11) hE hK hI (by decide) inG3 (e_11 G o _ _) rfl 3 (by decide) mw_109 rfl dX5_save_37 ?_
  refine lv_topi (fun z2 ez2 => ?_)
  obtain rfl : (pc_188_1_X X cnt) 11 3 = z2 := (ez2.trans ((sx_o (by decide)))).symm
  exact x_iret hE hr hlocks hI rfl rfl rfl dX5_save_40
set_option maxRecDepth 100000 in
set_option maxHeartbeats 4000000 in
theorem c_X5_restore_n1 (l : Launch) (G : GG) (o : Nat) (X : SX) (Y : SY) (h : X 281 1 = 0) : Ct l yX5_restore cX5_restore 2 (some .int) 2 42 G o [.ref (o + 0), .int 1] X Y (some (.int (-6))) X Y := by
  refine Ct.mk (by decide +kernel) (Nat.le_of_ble_eq_true rfl) rfl ?_
  intro p9 e9 s9 m9 args9 below9 meth9 c9 hE hr hlocks hK hI ls hl
  have hx := hE.1
  have hb := hE.2.1
  have hl : lv_has ls 2 [(0, .ref (o + 0)), (1, .int 1)] := hl
  refine lv_iload_n hx hb dX5_restore_0 rfl (lv_at hl 1 rfl) ?_
  refine x_callSi hE hK hI (c_X5_isSlot l G o _ _ 1 ) mf_X5_isSlot mw_446 rfl hl.1 rfl (Nat.le_of_ble_eq_true rfl) ⟨(Nat.le_of_ble_eq_true rfl), (Nat.le_of_ble_eq_true rfl)⟩ ⟨Nat.zero_le _, Nat.zero_le _⟩ dX5_restore_1 (fun H locs hI => ?_)
  refine lv_topi (fun z1 ez1 => ?_)
  obtain rfl : 1 = z1 := (ez1.trans (bI_t (by decide))).symm
  refine lv_if_ne (tgt := 10) hx hb dX5_restore_4 (by decide) (fun _ => ?_) (fun q => absurd q (by decide))
  refine lv_aload_n hx hb dX5_restore_10 rfl (lv_at hl 0 rfl) ?_
  refine x_get (k := 0) hE hK hI (by decide) inG5 (e_0 G o _ _) rfl 2 (by decide) mw_174 rfl dX5_restore_11 ?_
  refine lv_iload_n hx hb dX5_restore_14 rfl (lv_at hl 1 rfl) ?_
  refine x_zald (k := 281) (j := 1) hE hK hI (by decide) (e_281 G o) (by decide) (by decide) rfl dX5_restore_15 ?_
  refine lv_if_ne (tgt := 22) hx hb dX5_restore_16 (by decide) (fun q => absurd h q) (fun _ => ?_)
  refine lv_bipush (v := (-6)) hx hb dX5_restore_19 (by decide) ?_
  exact x_iret hE hr hlocks hI rfl rfl rfl dX5_restore_21
set_option maxRecDepth 100000 in
set_option maxHeartbeats 4000000 in
theorem c_X5_restore_1 (l : Launch) (G : GG) (o : Nat) (X : SX) (Y : SY) (cnt : Nat) (h : ¬ (X 281 1 = 0)) (hc : X 198 2 = nI cnt) (h40 : cnt ≤ 40) : Ct l yX5_restore cX5_restore 2 (some .int) 4 124 G o [.ref (o + 0), .int 1] X Y (some (.int ((pc_1_188_X X cnt) 11 3))) (pc_1_188_X X cnt) Y := by
  refine Ct.mk (by decide +kernel) (Nat.le_of_ble_eq_true rfl) rfl ?_
  intro p9 e9 s9 m9 args9 below9 meth9 c9 hE hr hlocks hK hI ls hl
  have hx := hE.1
  have hb := hE.2.1
  have hl : lv_has ls 2 [(0, .ref (o + 0)), (1, .int 1)] := hl
  refine lv_iload_n hx hb dX5_restore_0 rfl (lv_at hl 1 rfl) ?_
  refine x_callSi hE hK hI (c_X5_isSlot l G o _ _ 1 ) mf_X5_isSlot mw_446 rfl hl.1 rfl (Nat.le_of_ble_eq_true rfl) ⟨(Nat.le_of_ble_eq_true rfl), (Nat.le_of_ble_eq_true rfl)⟩ ⟨Nat.zero_le _, Nat.zero_le _⟩ dX5_restore_1 (fun H locs hI => ?_)
  refine lv_topi (fun z1 ez1 => ?_)
  obtain rfl : 1 = z1 := (ez1.trans (bI_t (by decide))).symm
  refine lv_if_ne (tgt := 10) hx hb dX5_restore_4 (by decide) (fun _ => ?_) (fun q => absurd q (by decide))
  refine lv_aload_n hx hb dX5_restore_10 rfl (lv_at hl 0 rfl) ?_
  refine x_get (k := 0) hE hK hI (by decide) inG5 (e_0 G o _ _) rfl 2 (by decide) mw_174 rfl dX5_restore_11 ?_
  refine lv_iload_n hx hb dX5_restore_14 rfl (lv_at hl 1 rfl) ?_
  refine x_zald (k := 281) (j := 1) hE hK hI (by decide) (e_281 G o) (by decide) (by decide) rfl dX5_restore_15 ?_
  refine lv_if_ne (tgt := 22) hx hb dX5_restore_16 (by decide) (fun _ => ?_) (fun q => absurd q h)
  refine lv_aload_n hx hb dX5_restore_22 rfl (lv_at hl 0 rfl) ?_
  refine x_get (k := 0) hE hK hI (by decide) inG5 (e_0 G o _ _) rfl 0 (by decide) mw_172 rfl dX5_restore_23 ?_
  refine lv_aload_n hx hb dX5_restore_26 rfl (lv_at hl 0 rfl) ?_
  refine x_get (k := 0) hE hK hI (by decide) inG5 (e_0 G o _ _) rfl 1 (by decide) mw_173 rfl dX5_restore_27 ?_
  refine lv_iload_n hx hb dX5_restore_30 rfl (lv_at hl 1 rfl) ?_
  refine x_aald (k := 94) (j := 1) (t0 := 4) (q := o + 188) hE hK hI (by decide) (e_94 G o) rfl rfl (by decide) (by decide) rfl rfl dX5_restore_31 ?_
  refine x_callVv (k := 1) hE hK hI (c_X1_copyFrom_1_188 l G o _ _ cnt hc h40) mf_X1_copyFrom mw_449 (by decide) ((e_1 G o) _ _) rfl rfl hl.1 rfl (Nat.le_of_ble_eq_true rfl) ⟨(Nat.le_of_ble_eq_true rfl), (Nat.le_of_ble_eq_true rfl)⟩ ⟨Nat.zero_le _, Nat.zero_le _⟩ dX5_restore_32 (fun H locs hI => ?_)
  refine lv_aload_n hx hb dX5_restore_35 rfl (lv_at hl 0 rfl) ?_
  refine x_get (k := 0) hE hK hI (by decide) inG5 (e_0 G o _ _) rfl 0 (by decide) mw_172 rfl dX5_restore_36 ?_
  refine x_get (k := 1) hE hK hI (by decide) inG1 (e_1 G o _ _) rfl 1 (by decide) mw_141 rfl dX5_restore_39 ?_
  refine x_get (k := 11) hE hK hI (by decide) inG3 (e_11 G o _ _) rfl 3 (by decide) mw_109 rfl dX5_restore_42 ?_
  exact x_iret hE hr hlocks hI rfl rfl rfl dX5_restore_45
