/-! ===== 14: the reference: the simulation ===== -/
def wgt (A : Nat → Int32) (i : Nat) : Int32 := A (41 + 8 * i + 0) + A (41 + 8 * i + 1) + A (41 + 8 * i + 2) + A (41 + 8 * i + 3)
abbrev pBM (X : SX) (i : Nat) : Prop := X 286 (41 + 8 * i + 4) = 1
set_option maxRecDepth 100000 in
set_option maxHeartbeats 4000000 in
theorem c_X6_lot (l : Launch) (G : GG) (o : Nat) (X : SX) (Y : SY) (i : Nat) (w : Nat) : Ct l yX6_lot cX6_lot 2 (some .int) 0 0 G o [.int (nI i), .int (nI w)] X Y (some (.int (nI ((41 + (8 * i)) + w)))) X Y := by
  refine Ct.mk (by decide +kernel) (Nat.le_of_ble_eq_true rfl) rfl ?_
  intro p9 e9 s9 m9 args9 below9 meth9 c9 hE hr hlocks hK hI ls hl
  have hx := hE.1
  have hb := hE.2.1
  have hl : lv_has ls 2 [(0, .int (nI i)), (1, .int (nI w))] := hl
  refine lv_bipush (v := 41) hx hb dX6_lot_0 (by decide) ?_
  refine lv_bipush (v := 8) hx hb dX6_lot_2 (by decide) ?_
  refine lv_iload_n hx hb dX6_lot_4 rfl (lv_at hl 0 rfl) ?_
  refine lv_imul hx hb dX6_lot_5 ?_
  refine lv_topi (fun z1 ez1 => ?_)
  obtain rfl : nI (8 * i) = z1 := (ez1.trans (pk_mul 8 i)).symm
  refine lv_iadd hx hb dX6_lot_6 ?_
  refine lv_topi (fun z2 ez2 => ?_)
  obtain rfl : nI (41 + (8 * i)) = z2 := (ez2.trans (nI_add 41 (8 * i))).symm
  refine lv_iload_n hx hb dX6_lot_7 rfl (lv_at hl 1 rfl) ?_
  refine lv_iadd hx hb dX6_lot_8 ?_
  refine lv_topi (fun z3 ez3 => ?_)
  obtain rfl : nI ((41 + (8 * i)) + w) = z3 := (ez3.trans (nI_add (41 + (8 * i)) w)).symm
  exact x_iret hE hr hlocks hI rfl rfl rfl dX6_lot_9
set_option maxRecDepth 100000 in
set_option maxHeartbeats 4000000 in
theorem c_X6_of (l : Launch) (G : GG) (o : Nat) (X : SX) (Y : SY) (i : Nat) (w : Nat) (h_i : i < 40) (h_w : w < 8) : Ct l yX6_of cX6_of 3 (some .int) 1 21 G o [.ref (o + 285), .int (nI i), .int (nI w)] X Y (some (.int (X 286 ((41 + (8 * i)) + w)))) X Y := by
  refine Ct.mk (by decide +kernel) (Nat.le_of_ble_eq_true rfl) rfl ?_
  intro p9 e9 s9 m9 args9 below9 meth9 c9 hE hr hlocks hK hI ls hl
  have hx := hE.1
  have hb := hE.2.1
  have hl : lv_has ls 3 [(0, .ref (o + 285)), (1, .int (nI i)), (2, .int (nI w))] := hl
  refine lv_aload_n hx hb dX6_of_0 rfl (lv_at hl 0 rfl) ?_
  refine x_get (k := 285) hE hK hI (by decide) inG6 (e_285 G o _ _) rfl 0 (by decide) mw_480 rfl dX6_of_1 ?_
  refine lv_iload_n hx hb dX6_of_4 rfl (lv_at hl 1 rfl) ?_
  refine lv_iload_n hx hb dX6_of_5 rfl (lv_at hl 2 rfl) ?_
  refine x_callSi hE hK hI (c_X6_lot l G o _ _ i w ) mf_X6_lot mw_605 rfl hl.1 rfl (Nat.le_of_ble_eq_true rfl) ⟨(Nat.le_of_ble_eq_true rfl), (Nat.le_of_ble_eq_true rfl)⟩ ⟨Nat.zero_le _, Nat.zero_le _⟩ dX6_of_6 (fun H locs hI => ?_)
  refine x_iald (k := 286) (j := ((41 + (8 * i)) + w)) hE hK hI (by decide) (e_286 G o) (by omega) (by decide) rfl dX6_of_9 ?_
  exact x_iret hE hr hlocks hI rfl rfl rfl dX6_of_10
set_option maxRecDepth 100000 in
set_option maxHeartbeats 4000000 in
theorem c_X6_weight (l : Launch) (G : GG) (o : Nat) (X : SX) (Y : SY) (i : Nat) (h_i : i < 40) : Ct l yX6_weight cX6_weight 2 (some .int) 2 43 G o [.ref (o + 285), .int (nI i)] X Y (some (.int (wgt (X 286) i))) X Y := by
  refine Ct.mk (by decide +kernel) (Nat.le_of_ble_eq_true rfl) rfl ?_
  intro p9 e9 s9 m9 args9 below9 meth9 c9 hE hr hlocks hK hI ls hl
  have hx := hE.1
  have hb := hE.2.1
  have hl : lv_has ls 2 [(0, .ref (o + 285)), (1, .int (nI i))] := hl
  refine lv_aload_n hx hb dX6_weight_0 rfl (lv_at hl 0 rfl) ?_
  refine lv_iload_n hx hb dX6_weight_1 rfl (lv_at hl 1 rfl) ?_
  refine lv_iconst (v := 0) hx hb dX6_weight_2 (by decide) ?_
  refine x_callVi (k := 285) hE hK hI (c_X6_of l G o _ _ i 0 h_i (by decide)) mf_X6_of mw_620 (by decide) ((e_285 G o) _ _) rfl rfl hl.1 rfl (Nat.le_of_ble_eq_true rfl) ⟨(Nat.le_of_ble_eq_true rfl), (Nat.le_of_ble_eq_true rfl)⟩ ⟨Nat.zero_le _, Nat.zero_le _⟩ dX6_weight_3 (fun H locs hI => ?_)
  refine lv_aload_n hx hb dX6_weight_6 rfl (lv_at hl 0 rfl) ?_
  refine lv_iload_n hx hb dX6_weight_7 rfl (lv_at hl 1 rfl) ?_
  refine lv_iconst (v := 1) hx hb dX6_weight_8 (by decide) ?_
  refine x_callVi (k := 285) hE hK hI (c_X6_of l G o _ _ i 1 h_i (by decide)) mf_X6_of mw_620 (by decide) ((e_285 G o) _ _) rfl rfl hl.1 rfl (Nat.le_of_ble_eq_true rfl) ⟨(Nat.le_of_ble_eq_true rfl), (Nat.le_of_ble_eq_true rfl)⟩ ⟨Nat.zero_le _, Nat.zero_le _⟩ dX6_weight_9 (fun H locs hI => ?_)
  refine lv_iadd hx hb dX6_weight_12 ?_
  refine lv_aload_n hx hb dX6_weight_13 rfl (lv_at hl 0 rfl) ?_
  refine lv_iload_n hx hb dX6_weight_14 rfl (lv_at hl 1 rfl) ?_
  refine lv_iconst (v := 2) hx hb dX6_weight_15 (by decide) ?_
  refine x_callVi (k := 285) hE hK hI (c_X6_of l G o _ _ i 2 h_i (by decide)) mf_X6_of mw_620 (by decide) ((e_285 G o) _ _) rfl rfl hl.1 rfl (Nat.le_of_ble_eq_true rfl) ⟨(Nat.le_of_ble_eq_true rfl), (Nat.le_of_ble_eq_true rfl)⟩ ⟨Nat.zero_le _, Nat.zero_le _⟩ dX6_weight_16 (fun H locs hI => ?_)
  refine lv_iadd hx hb dX6_weight_19 ?_
  refine lv_aload_n hx hb dX6_weight_20 rfl (lv_at hl 0 rfl) ?_
  refine lv_iload_n hx hb dX6_weight_21 rfl (lv_at hl 1 rfl) ?_
  refine lv_iconst (v := 3) hx hb dX6_weight_22 (by decide) ?_
  refine x_callVi (k := 285) hE hK hI (c_X6_of l G o _ _ i 3 h_i (by decide)) mf_X6_of mw_620 (by decide) ((e_285 G o) _ _) rfl rfl hl.1 rfl (Nat.le_of_ble_eq_true rfl) ⟨(Nat.le_of_ble_eq_true rfl), (Nat.le_of_ble_eq_true rfl)⟩ ⟨Nat.zero_le _, Nat.zero_le _⟩ dX6_weight_23 (fun H locs hI => ?_)
  refine lv_iadd hx hb dX6_weight_26 ?_
  exact x_iret hE hr hlocks hI rfl rfl rfl dX6_weight_27
def ahdr (X : SX) (i : Nat) (j : Nat) : Int32 := if X 286 29 = 0 then 0 else (if X 286 29 = 1 then ((wgt (X 286) i) - (wgt (X 286) j)) else (if X 286 ((41 + (8 * i)) + 0) = X 286 ((41 + (8 * j)) + 0) then (if X 286 ((41 + (8 * i)) + 1) = X 286 ((41 + (8 * j)) + 1) then (if X 286 ((41 + (8 * i)) + 2) = X 286 ((41 + (8 * j)) + 2) then ((X 286 ((41 + (8 * i)) + 3)) - (X 286 ((41 + (8 * j)) + 3))) else ((X 286 ((41 + (8 * i)) + 2)) - (X 286 ((41 + (8 * j)) + 2)))) else ((X 286 ((41 + (8 * i)) + 1)) - (X 286 ((41 + (8 * j)) + 1)))) else ((X 286 ((41 + (8 * i)) + 0)) - (X 286 ((41 + (8 * j)) + 0)))))
set_option maxRecDepth 100000 in
set_option maxHeartbeats 4000000 in
theorem c_X6_ahead (l : Launch) (G : GG) (o : Nat) (X : SX) (Y : SY) (i : Nat) (j : Nat) (h_i : i < 40) (h_j : j < 40) : Ct l yX6_ahead cX6_ahead 4 (some .int) 3 64 G o [.ref (o + 285), .int (nI i), .int (nI j)] X Y (some (.int (ahdr X i j))) X Y := by
  refine Ct.mk (by decide +kernel) (Nat.le_of_ble_eq_true rfl) rfl ?_
  intro p9 e9 s9 m9 args9 below9 meth9 c9 hE hr hlocks hK hI ls hl
  have hx := hE.1
  have hb := hE.2.1
  have hl : lv_has ls 4 [(0, .ref (o + 285)), (1, .int (nI i)), (2, .int (nI j))] := hl
  refine lv_aload_n hx hb dX6_ahead_0 rfl (lv_at hl 0 rfl) ?_
  refine x_get (k := 285) hE hK hI (by decide) inG6 (e_285 G o _ _) rfl 0 (by decide) mw_480 rfl dX6_ahead_1 ?_
  refine lv_bipush (v := 29) hx hb dX6_ahead_4 (by decide) ?_
  refine x_iald (k := 286) (j := 29) hE hK hI (by decide) (e_286 G o) (by decide) (by decide) rfl dX6_ahead_6 ?_
  refine lv_if_ne (tgt := 12) hx hb dX6_ahead_7 (by decide) (fun c1 => ?_) (fun c1 => ?_)
  · refine lv_aload_n hx hb dX6_ahead_12 rfl (lv_at hl 0 rfl) ?_
    refine x_get (k := 285) hE hK hI (by decide) inG6 (e_285 G o _ _) rfl 0 (by decide) mw_480 rfl dX6_ahead_13 ?_
    refine lv_bipush (v := 29) hx hb dX6_ahead_16 (by decide) ?_
    refine x_iald (k := 286) (j := 29) hE hK hI (by decide) (e_286 G o) (by decide) (by decide) rfl dX6_ahead_18 ?_
    refine lv_iconst (v := 1) hx hb dX6_ahead_19 (by decide) ?_
    refine lv_icmp_ne (tgt := 35) hx hb dX6_ahead_20 (by decide) (fun c2 => ?_) (fun c2 => ?_)
    · refine lv_iconst (v := 0) hx hb dX6_ahead_35 (by decide) ?_
      refine lv_istore_n (lv' := [(3, .int 0), (0, .ref (o + 285)), (1, .int (nI i)), (2, .int (nI j))]) hx hb dX6_ahead_36 rfl hl (by decide) rfl (fun ls hl => ?_)
      refine lv_iload_n hx hb dX6_ahead_37 rfl (lv_at hl 0 rfl) ?_
      refine lv_iconst (v := 3) hx hb dX6_ahead_38 (by decide) ?_
      refine lv_icmp_ge (tgt := 63) hx hb dX6_ahead_39 (by decide) (fun q => absurd q (by decide)) (fun _ => ?_)
      refine lv_aload_n hx hb dX6_ahead_42 rfl (lv_at hl 1 rfl) ?_
      refine lv_iload_n hx hb dX6_ahead_43 rfl (lv_at hl 2 rfl) ?_
      refine lv_iload_n hx hb dX6_ahead_44 rfl (lv_at hl 0 rfl) ?_
      refine x_callVi (k := 285) hE hK hI (c_X6_of l G o _ _ i 0 h_i (by decide)) mf_X6_of mw_620 (by decide) ((e_285 G o) _ _) rfl rfl hl.1 rfl (Nat.le_of_ble_eq_true rfl) ⟨(Nat.le_of_ble_eq_true rfl), (Nat.le_of_ble_eq_true rfl)⟩ ⟨Nat.zero_le _, Nat.zero_le _⟩ dX6_ahead_45 (fun H locs hI => ?_)
      refine lv_aload_n hx hb dX6_ahead_48 rfl (lv_at hl 1 rfl) ?_
      refine lv_iload_n hx hb dX6_ahead_49 rfl (lv_at hl 3 rfl) ?_
      refine lv_iload_n hx hb dX6_ahead_50 rfl (lv_at hl 0 rfl) ?_
      refine x_callVi (k := 285) hE hK hI (c_X6_of l G o _ _ j 0 h_j (by decide)) mf_X6_of mw_620 (by decide) ((e_285 G o) _ _) rfl rfl hl.1 rfl (Nat.le_of_ble_eq_true rfl) ⟨(Nat.le_of_ble_eq_true rfl), (Nat.le_of_ble_eq_true rfl)⟩ ⟨Nat.zero_le _, Nat.zero_le _⟩ dX6_ahead_51 (fun H locs hI => ?_)
      refine lv_icmp_ne (tgt := 63) hx hb dX6_ahead_54 (by decide) (fun c3 => ?_) (fun c3 => ?_)
      · refine lv_aload_n hx hb dX6_ahead_63 rfl (lv_at hl 1 rfl) ?_
        refine lv_iload_n hx hb dX6_ahead_64 rfl (lv_at hl 2 rfl) ?_
        refine lv_iload_n hx hb dX6_ahead_65 rfl (lv_at hl 0 rfl) ?_
        refine x_callVi (k := 285) hE hK hI (c_X6_of l G o _ _ i 0 h_i (by decide)) mf_X6_of mw_620 (by decide) ((e_285 G o) _ _) rfl rfl hl.1 rfl (Nat.le_of_ble_eq_true rfl) ⟨(Nat.le_of_ble_eq_true rfl), (Nat.le_of_ble_eq_true rfl)⟩ ⟨Nat.zero_le _, Nat.zero_le _⟩ dX6_ahead_66 (fun H locs hI => ?_)
        refine lv_aload_n hx hb dX6_ahead_69 rfl (lv_at hl 1 rfl) ?_
        refine lv_iload_n hx hb dX6_ahead_70 rfl (lv_at hl 3 rfl) ?_
        refine lv_iload_n hx hb dX6_ahead_71 rfl (lv_at hl 0 rfl) ?_
        refine x_callVi (k := 285) hE hK hI (c_X6_of l G o _ _ j 0 h_j (by decide)) mf_X6_of mw_620 (by decide) ((e_285 G o) _ _) rfl rfl hl.1 rfl (Nat.le_of_ble_eq_true rfl) ⟨(Nat.le_of_ble_eq_true rfl), (Nat.le_of_ble_eq_true rfl)⟩ ⟨Nat.zero_le _, Nat.zero_le _⟩ dX6_ahead_72 (fun H locs hI => ?_)
        refine lv_isub hx hb dX6_ahead_75 ?_
        exact x_iret hE hr hlocks hI (congrArg (fun q => some (Value.int q)) ((if_neg c1).trans ((if_neg c2).trans (if_neg c3)))) rfl rfl dX6_ahead_76
      · refine lv_iinc (v := 1) (lv' := [(3, .int 1), (0, .ref (o + 285)), (1, .int (nI i)), (2, .int (nI j))]) hx hb dX6_ahead_57 hl (k := 0) rfl (by decide) (by decide) rfl (fun ls hl => ?_)
        refine lv_goto (tgt := 37) hx hb dX6_ahead_60 (by decide) ?_
        refine lv_iload_n hx hb dX6_ahead_37 rfl (lv_at hl 0 rfl) ?_
        refine lv_iconst (v := 3) hx hb dX6_ahead_38 (by decide) ?_
        refine lv_icmp_ge (tgt := 63) hx hb dX6_ahead_39 (by decide) (fun q => absurd q (by decide)) (fun _ => ?_)
        refine lv_aload_n hx hb dX6_ahead_42 rfl (lv_at hl 1 rfl) ?_
        refine lv_iload_n hx hb dX6_ahead_43 rfl (lv_at hl 2 rfl) ?_
        refine lv_iload_n hx hb dX6_ahead_44 rfl (lv_at hl 0 rfl) ?_
        refine x_callVi (k := 285) hE hK hI (c_X6_of l G o _ _ i 1 h_i (by decide)) mf_X6_of mw_620 (by decide) ((e_285 G o) _ _) rfl rfl hl.1 rfl (Nat.le_of_ble_eq_true rfl) ⟨(Nat.le_of_ble_eq_true rfl), (Nat.le_of_ble_eq_true rfl)⟩ ⟨Nat.zero_le _, Nat.zero_le _⟩ dX6_ahead_45 (fun H locs hI => ?_)
        refine lv_aload_n hx hb dX6_ahead_48 rfl (lv_at hl 1 rfl) ?_
        refine lv_iload_n hx hb dX6_ahead_49 rfl (lv_at hl 3 rfl) ?_
        refine lv_iload_n hx hb dX6_ahead_50 rfl (lv_at hl 0 rfl) ?_
        refine x_callVi (k := 285) hE hK hI (c_X6_of l G o _ _ j 1 h_j (by decide)) mf_X6_of mw_620 (by decide) ((e_285 G o) _ _) rfl rfl hl.1 rfl (Nat.le_of_ble_eq_true rfl) ⟨(Nat.le_of_ble_eq_true rfl), (Nat.le_of_ble_eq_true rfl)⟩ ⟨Nat.zero_le _, Nat.zero_le _⟩ dX6_ahead_51 (fun H locs hI => ?_)
        refine lv_icmp_ne (tgt := 63) hx hb dX6_ahead_54 (by decide) (fun c4 => ?_) (fun c4 => ?_)
        · refine lv_aload_n hx hb dX6_ahead_63 rfl (lv_at hl 1 rfl) ?_
          refine lv_iload_n hx hb dX6_ahead_64 rfl (lv_at hl 2 rfl) ?_
          refine lv_iload_n hx hb dX6_ahead_65 rfl (lv_at hl 0 rfl) ?_
          refine x_callVi (k := 285) hE hK hI (c_X6_of l G o _ _ i 1 h_i (by decide)) mf_X6_of mw_620 (by decide) ((e_285 G o) _ _) rfl rfl hl.1 rfl (Nat.le_of_ble_eq_true rfl) ⟨(Nat.le_of_ble_eq_true rfl), (Nat.le_of_ble_eq_true rfl)⟩ ⟨Nat.zero_le _, Nat.zero_le _⟩ dX6_ahead_66 (fun H locs hI => ?_)
          refine lv_aload_n hx hb dX6_ahead_69 rfl (lv_at hl 1 rfl) ?_
          refine lv_iload_n hx hb dX6_ahead_70 rfl (lv_at hl 3 rfl) ?_
          refine lv_iload_n hx hb dX6_ahead_71 rfl (lv_at hl 0 rfl) ?_
          refine x_callVi (k := 285) hE hK hI (c_X6_of l G o _ _ j 1 h_j (by decide)) mf_X6_of mw_620 (by decide) ((e_285 G o) _ _) rfl rfl hl.1 rfl (Nat.le_of_ble_eq_true rfl) ⟨(Nat.le_of_ble_eq_true rfl), (Nat.le_of_ble_eq_true rfl)⟩ ⟨Nat.zero_le _, Nat.zero_le _⟩ dX6_ahead_72 (fun H locs hI => ?_)
          refine lv_isub hx hb dX6_ahead_75 ?_
          exact x_iret hE hr hlocks hI (congrArg (fun q => some (Value.int q)) ((if_neg c1).trans ((if_neg c2).trans ((if_pos c3).trans (if_neg c4))))) rfl rfl dX6_ahead_76
        · refine lv_iinc (v := 2) (lv' := [(3, .int 2), (0, .ref (o + 285)), (1, .int (nI i)), (2, .int (nI j))]) hx hb dX6_ahead_57 hl (k := 0) rfl (by decide) (by decide) rfl (fun ls hl => ?_)
          refine lv_goto (tgt := 37) hx hb dX6_ahead_60 (by decide) ?_
          refine lv_iload_n hx hb dX6_ahead_37 rfl (lv_at hl 0 rfl) ?_
          refine lv_iconst (v := 3) hx hb dX6_ahead_38 (by decide) ?_
          refine lv_icmp_ge (tgt := 63) hx hb dX6_ahead_39 (by decide) (fun q => absurd q (by decide)) (fun _ => ?_)
          refine lv_aload_n hx hb dX6_ahead_42 rfl (lv_at hl 1 rfl) ?_
          refine lv_iload_n hx hb dX6_ahead_43 rfl (lv_at hl 2 rfl) ?_
          refine lv_iload_n hx hb dX6_ahead_44 rfl (lv_at hl 0 rfl) ?_
          refine x_callVi (k := 285) hE hK hI (c_X6_of l G o _ _ i 2 h_i (by decide)) mf_X6_of mw_620 (by decide) ((e_285 G o) _ _) rfl rfl hl.1 rfl (Nat.le_of_ble_eq_true rfl) ⟨(Nat.le_of_ble_eq_true rfl), (Nat.le_of_ble_eq_true rfl)⟩ ⟨Nat.zero_le _, Nat.zero_le _⟩ dX6_ahead_45 (fun H locs hI => ?_)
          refine lv_aload_n hx hb dX6_ahead_48 rfl (lv_at hl 1 rfl) ?_
          refine lv_iload_n hx hb dX6_ahead_49 rfl (lv_at hl 3 rfl) ?_
          refine lv_iload_n hx hb dX6_ahead_50 rfl (lv_at hl 0 rfl) ?_
          refine x_callVi (k := 285) hE hK hI (c_X6_of l G o _ _ j 2 h_j (by decide)) mf_X6_of mw_620 (by decide) ((e_285 G o) _ _) rfl rfl hl.1 rfl (Nat.le_of_ble_eq_true rfl) ⟨(Nat.le_of_ble_eq_true rfl), (Nat.le_of_ble_eq_true rfl)⟩ ⟨Nat.zero_le _, Nat.zero_le _⟩ dX6_ahead_51 (fun H locs hI => ?_)
          refine lv_icmp_ne (tgt := 63) hx hb dX6_ahead_54 (by decide) (fun c5 => ?_) (fun c5 => ?_)
          · refine lv_aload_n hx hb dX6_ahead_63 rfl (lv_at hl 1 rfl) ?_
            refine lv_iload_n hx hb dX6_ahead_64 rfl (lv_at hl 2 rfl) ?_
            refine lv_iload_n hx hb dX6_ahead_65 rfl (lv_at hl 0 rfl) ?_
            refine x_callVi (k := 285) hE hK hI (c_X6_of l G o _ _ i 2 h_i (by decide)) mf_X6_of mw_620 (by decide) ((e_285 G o) _ _) rfl rfl hl.1 rfl (Nat.le_of_ble_eq_true rfl) ⟨(Nat.le_of_ble_eq_true rfl), (Nat.le_of_ble_eq_true rfl)⟩ ⟨Nat.zero_le _, Nat.zero_le _⟩ dX6_ahead_66 (fun H locs hI => ?_)
            refine lv_aload_n hx hb dX6_ahead_69 rfl (lv_at hl 1 rfl) ?_
            refine lv_iload_n hx hb dX6_ahead_70 rfl (lv_at hl 3 rfl) ?_
            refine lv_iload_n hx hb dX6_ahead_71 rfl (lv_at hl 0 rfl) ?_
            refine x_callVi (k := 285) hE hK hI (c_X6_of l G o _ _ j 2 h_j (by decide)) mf_X6_of mw_620 (by decide) ((e_285 G o) _ _) rfl rfl hl.1 rfl (Nat.le_of_ble_eq_true rfl) ⟨(Nat.le_of_ble_eq_true rfl), (Nat.le_of_ble_eq_true rfl)⟩ ⟨Nat.zero_le _, Nat.zero_le _⟩ dX6_ahead_72 (fun H locs hI => ?_)
            refine lv_isub hx hb dX6_ahead_75 ?_
            exact x_iret hE hr hlocks hI (congrArg (fun q => some (Value.int q)) ((if_neg c1).trans ((if_neg c2).trans ((if_pos c3).trans ((if_pos c4).trans (if_neg c5)))))) rfl rfl dX6_ahead_76
          · refine lv_iinc (v := 3) (lv' := [(3, .int 3), (0, .ref (o + 285)), (1, .int (nI i)), (2, .int (nI j))]) hx hb dX6_ahead_57 hl (k := 0) rfl (by decide) (by decide) rfl (fun ls hl => ?_)
            refine lv_goto (tgt := 37) hx hb dX6_ahead_60 (by decide) ?_
            refine lv_iload_n hx hb dX6_ahead_37 rfl (lv_at hl 0 rfl) ?_
            refine lv_iconst (v := 3) hx hb dX6_ahead_38 (by decide) ?_
            refine lv_icmp_ge (tgt := 63) hx hb dX6_ahead_39 (by decide) (fun _ => ?_) (fun q => absurd (by decide) q)
            refine lv_aload_n hx hb dX6_ahead_63 rfl (lv_at hl 1 rfl) ?_
            refine lv_iload_n hx hb dX6_ahead_64 rfl (lv_at hl 2 rfl) ?_
            refine lv_iload_n hx hb dX6_ahead_65 rfl (lv_at hl 0 rfl) ?_
            refine x_callVi (k := 285) hE hK hI (c_X6_of l G o _ _ i 3 h_i (by decide)) mf_X6_of mw_620 (by decide) ((e_285 G o) _ _) rfl rfl hl.1 rfl (Nat.le_of_ble_eq_true rfl) ⟨(Nat.le_of_ble_eq_true rfl), (Nat.le_of_ble_eq_true rfl)⟩ ⟨Nat.zero_le _, Nat.zero_le _⟩ dX6_ahead_66 (fun H locs hI => ?_)
            refine lv_aload_n hx hb dX6_ahead_69 rfl (lv_at hl 1 rfl) ?_
            refine lv_iload_n hx hb dX6_ahead_70 rfl (lv_at hl 3 rfl) ?_
            refine lv_iload_n hx hb dX6_ahead_71 rfl (lv_at hl 0 rfl) ?_
            refine x_callVi (k := 285) hE hK hI (c_X6_of l G o _ _ j 3 h_j (by decide)) mf_X6_of mw_620 (by decide) ((e_285 G o) _ _) rfl rfl hl.1 rfl (Nat.le_of_ble_eq_true rfl) ⟨(Nat.le_of_ble_eq_true rfl), (Nat.le_of_ble_eq_true rfl)⟩ ⟨Nat.zero_le _, Nat.zero_le _⟩ dX6_ahead_72 (fun H locs hI => ?_)
            refine lv_isub hx hb dX6_ahead_75 ?_
            exact x_iret hE hr hlocks hI (congrArg (fun q => some (Value.int q)) ((if_neg c1).trans ((if_neg c2).trans ((if_pos c3).trans ((if_pos c4).trans (if_pos c5)))))) rfl rfl dX6_ahead_76
    · refine lv_aload_n hx hb dX6_ahead_23 rfl (lv_at hl 0 rfl) ?_
      refine lv_iload_n hx hb dX6_ahead_24 rfl (lv_at hl 1 rfl) ?_
      refine x_callVi (k := 285) hE hK hI (c_X6_weight l G o _ _ i h_i) mf_X6_weight mw_636 (by decide) ((e_285 G o) _ _) rfl rfl hl.1 rfl (Nat.le_of_ble_eq_true rfl) ⟨(Nat.le_of_ble_eq_true rfl), (Nat.le_of_ble_eq_true rfl)⟩ ⟨Nat.zero_le _, Nat.zero_le _⟩ dX6_ahead_25 (fun H locs hI => ?_)
      refine lv_aload_n hx hb dX6_ahead_28 rfl (lv_at hl 0 rfl) ?_
      refine lv_iload_n hx hb dX6_ahead_29 rfl (lv_at hl 2 rfl) ?_
      refine x_callVi (k := 285) hE hK hI (c_X6_weight l G o _ _ j h_j) mf_X6_weight mw_636 (by decide) ((e_285 G o) _ _) rfl rfl hl.1 rfl (Nat.le_of_ble_eq_true rfl) ⟨(Nat.le_of_ble_eq_true rfl), (Nat.le_of_ble_eq_true rfl)⟩ ⟨Nat.zero_le _, Nat.zero_le _⟩ dX6_ahead_30 (fun H locs hI => ?_)
      refine lv_isub hx hb dX6_ahead_33 ?_
      exact x_iret hE hr hlocks hI (congrArg (fun q => some (Value.int q)) ((if_neg c1).trans (if_pos c2))) rfl rfl dX6_ahead_34
  · refine lv_iconst (v := 0) hx hb dX6_ahead_10 (by decide) ?_
    exact x_iret hE hr hlocks hI (congrArg (fun q => some (Value.int q)) (if_pos c1)) rfl rfl dX6_ahead_11
abbrev ahM (X : SX) (i j : Nat) : Prop := 0 < ahdr X i j ∨ (ahdr X i j = 0 ∧ X 286 (41 + 8 * i + 5) < X 286 (41 + 8 * j + 5))
set_option maxRecDepth 100000 in
set_option maxHeartbeats 4000000 in
theorem c_X6_isAhead (l : Launch) (G : GG) (o : Nat) (X : SX) (Y : SY) (i : Nat) (j : Nat) (h_i : i < 40) (h_j : j < 40) : Ct l yX6_isAhead cX6_isAhead 4 (some .boolean) 4 87 G o [.ref (o + 285), .int (nI i), .int (nI j)] X Y (some (.int (bI (ahM X i j)))) X Y := by
  refine Ct.mk (by decide +kernel) (Nat.le_of_ble_eq_true rfl) rfl ?_
  intro p9 e9 s9 m9 args9 below9 meth9 c9 hE hr hlocks hK hI ls hl
  have hx := hE.1
  have hb := hE.2.1
  have hl : lv_has ls 4 [(0, .ref (o + 285)), (1, .int (nI i)), (2, .int (nI j))] := hl
  refine lv_aload_n hx hb dX6_isAhead_0 rfl (lv_at hl 0 rfl) ?_
  refine lv_iload_n hx hb dX6_isAhead_1 rfl (lv_at hl 1 rfl) ?_
  refine lv_iload_n hx hb dX6_isAhead_2 rfl (lv_at hl 2 rfl) ?_
  refine x_callVi (k := 285) hE hK hI (c_X6_ahead l G o _ _ i j h_i h_j) mf_X6_ahead mw_632 (by decide) ((e_285 G o) _ _) rfl rfl hl.1 rfl (Nat.le_of_ble_eq_true rfl) ⟨(Nat.le_of_ble_eq_true rfl), (Nat.le_of_ble_eq_true rfl)⟩ ⟨Nat.zero_le _, Nat.zero_le _⟩ dX6_isAhead_3 (fun H locs hI => ?_)
  refine lv_istore_n (lv' := [(3, .int (ahdr X i j)), (0, .ref (o + 285)), (1, .int (nI i)), (2, .int (nI j))]) hx hb dX6_isAhead_6 rfl hl (by decide) rfl (fun ls hl => ?_)
  refine lv_iload_n hx hb dX6_isAhead_7 rfl (lv_at hl 0 rfl) ?_
  refine lv_if_gt (tgt := 30) hx hb dX6_isAhead_8 (by decide) (fun c1 => ?_) (fun c1 => ?_)
  · refine lv_iconst (v := 1) hx hb dX6_isAhead_30 (by decide) ?_
    refine lv_goto (tgt := 35) hx hb dX6_isAhead_31 (by decide) ?_
    exact x_zret hE hr hlocks hI (by decide) (rI1 (Or.inl c1)) rfl rfl dX6_isAhead_35
  · refine lv_iload_n hx hb dX6_isAhead_11 rfl (lv_at hl 0 rfl) ?_
    refine lv_if_ne (tgt := 34) hx hb dX6_isAhead_12 (by decide) (fun c2 => ?_) (fun c2 => ?_)
    · refine lv_iconst (v := 0) hx hb dX6_isAhead_34 (by decide) ?_
      exact x_zret hE hr hlocks hI (by decide) (rI0 (fun q => q.elim c1 (fun z => c2 z.1))) rfl rfl dX6_isAhead_35
    · refine lv_aload_n hx hb dX6_isAhead_15 rfl (lv_at hl 1 rfl) ?_
      refine lv_iload_n hx hb dX6_isAhead_16 rfl (lv_at hl 2 rfl) ?_
      refine lv_iconst (v := 5) hx hb dX6_isAhead_17 (by decide) ?_
      refine x_callVi (k := 285) hE hK hI (c_X6_of l G o _ _ i 5 h_i (by decide)) mf_X6_of mw_620 (by decide) ((e_285 G o) _ _) rfl rfl hl.1 rfl (Nat.le_of_ble_eq_true rfl) ⟨(Nat.le_of_ble_eq_true rfl), (Nat.le_of_ble_eq_true rfl)⟩ ⟨Nat.zero_le _, Nat.zero_le _⟩ dX6_isAhead_18 (fun H locs hI => ?_)
      refine lv_aload_n hx hb dX6_isAhead_21 rfl (lv_at hl 1 rfl) ?_
      refine lv_iload_n hx hb dX6_isAhead_22 rfl (lv_at hl 3 rfl) ?_
      refine lv_iconst (v := 5) hx hb dX6_isAhead_23 (by decide) ?_
      refine x_callVi (k := 285) hE hK hI (c_X6_of l G o _ _ j 5 h_j (by decide)) mf_X6_of mw_620 (by decide) ((e_285 G o) _ _) rfl rfl hl.1 rfl (Nat.le_of_ble_eq_true rfl) ⟨(Nat.le_of_ble_eq_true rfl), (Nat.le_of_ble_eq_true rfl)⟩ ⟨Nat.zero_le _, Nat.zero_le _⟩ dX6_isAhead_24 (fun H locs hI => ?_)
      refine lv_icmp_ge (tgt := 34) hx hb dX6_isAhead_27 (by decide) (fun c3 => ?_) (fun c3 => ?_)
      · refine lv_iconst (v := 0) hx hb dX6_isAhead_34 (by decide) ?_
        exact x_zret hE hr hlocks hI (by decide) (rI0 (fun q => q.elim c1 (fun z => absurd z.2 (Int32.not_lt.mpr c3)))) rfl rfl dX6_isAhead_35
      · refine lv_iconst (v := 1) hx hb dX6_isAhead_30 (by decide) ?_
        refine lv_goto (tgt := 35) hx hb dX6_isAhead_31 (by decide) ?_
        exact x_zret hE hr hlocks hI (by decide) (rI1 (Or.inr ⟨c2, Int32.not_le.mp c3⟩)) rfl rfl dX6_isAhead_35
set_option maxRecDepth 100000 in
set_option maxHeartbeats 4000000 in
theorem lp_X6_place (l : Launch) (G : GG) (o : Nat) (X : SX) (Y : SY) (j : Nat) (cnt : Nat) (h_j : j < 40) (hc : X 286 31 = nI cnt) (h40 : cnt ≤ 40) {p9 : Program} {e9 : Env} {s9 : State} {m9 : MethodId} {args9 : Array Value} {below9 : List Frame} {meth9 : Method} {c9 : Code} (hE : gE p9 m9 c9 cX6_place 4 s9 args9 yX6_place.cls) (hr : meth9.sig.returnType = (some .int)) (hlocks : meth9.locks = false) (hK : KK G s9) :
    ∀ (n : Nat) (i : Nat), i + n = cnt → ∀ (H : Heap) (locs : List Loc), In G o X Y s9.heap H locs → ∀ ls : Array Slot, lv_has ls 4 [(0, .ref (o + 285)), (1, .int (nI j)), (2, .int (nI (cntP (fun q => ¬ nI q = nI j ∧ pBM X q ∧ ahM X q j) i))), (3, .int (nI i))] → W p9 l e9 (Rm 5 110) s9 m9 args9 below9 meth9 c9 H locs 0 0 (MQ below9 (Qw G o (some (.int (nI (cntP (fun q => ¬ nI q = nI j ∧ pBM X q ∧ ahM X q j) cnt)))) X Y) args9 s9 0 0 (rg o)) (F0 m9 4 ls []) := by
  have hx := hE.1
  have hb := hE.2.1
  intro n
  induction n with
  | zero =>
    intro i hi H locs hI ls hl
    have ei : i = cnt := by omega
    refine lv_iload_n hx hb dX6_place_4 rfl (lv_at hl 3 rfl) ?_
    refine lv_aload_n hx hb dX6_place_5 rfl (lv_at hl 0 rfl) ?_
    refine x_get (k := 285) hE hK hI (by decide) inG6 (e_285 G o _ _) rfl 0 (by decide) mw_480 rfl dX6_place_6 ?_
    refine lv_bipush (v := 31) hx hb dX6_place_9 (by decide) ?_
    refine x_iald (k := 286) (j := 31) hE hK hI (by decide) (e_286 G o) (by decide) (by decide) rfl dX6_place_11 ?_
    refine lv_topi (fun z1 ez1 => ?_)
    obtain rfl : nI cnt = z1 := (ez1.trans (hc)).symm
    refine lv_icmp_ge (tgt := 53) hx hb dX6_place_12 (by decide) (fun _ => ?_) (fun q => absurd (nI_le (by omega) (by omega)) q)
    refine lv_iload_n hx hb dX6_place_53 rfl (lv_at hl 2 rfl) ?_
    exact x_iret hE hr hlocks hI (by rw [ei]) rfl rfl dX6_place_54
  | succ n ih =>
    intro i hi H locs hI ls hl
    have h_i : i < 40 := by omega
    refine lv_iload_n hx hb dX6_place_4 rfl (lv_at hl 3 rfl) ?_
    refine lv_aload_n hx hb dX6_place_5 rfl (lv_at hl 0 rfl) ?_
    refine x_get (k := 285) hE hK hI (by decide) inG6 (e_285 G o _ _) rfl 0 (by decide) mw_480 rfl dX6_place_6 ?_
    refine lv_bipush (v := 31) hx hb dX6_place_9 (by decide) ?_
    refine x_iald (k := 286) (j := 31) hE hK hI (by decide) (e_286 G o) (by decide) (by decide) rfl dX6_place_11 ?_
    refine lv_topi (fun z1 ez1 => ?_)
    obtain rfl : nI cnt = z1 := (ez1.trans (hc)).symm
    refine lv_icmp_ge (tgt := 53) hx hb dX6_place_12 (by decide) (fun q => absurd q (nI_ge (by omega) (by omega))) (fun _ => ?_)
    refine lv_iload_n hx hb dX6_place_15 rfl (lv_at hl 2 rfl) ?_
    refine lv_iload_n hx hb dX6_place_16 rfl (lv_at hl 3 rfl) ?_
    refine lv_iload_n hx hb dX6_place_17 rfl (lv_at hl 1 rfl) ?_
    refine lv_icmp_eq (tgt := 44) hx hb dX6_place_18 (by decide) (fun c2 => ?_) (fun c2 => ?_)
    · refine lv_iconst (v := 0) hx hb dX6_place_44 (by decide) ?_
      refine lv_iadd hx hb dX6_place_45 ?_
      refine lv_topi (fun z3 ez3 => ?_)
      obtain rfl : nI ((cntP (fun q => ¬ nI q = nI j ∧ pBM X q ∧ ahM X q j) i) + 0) = z3 := (ez3.trans (nI_add (cntP (fun q => ¬ nI q = nI j ∧ pBM X q ∧ ahM X q j) i) 0)).symm
      refine lv_istore_n (lv' := [(2, .int (nI ((cntP (fun q => ¬ nI q = nI j ∧ pBM X q ∧ ahM X q j) i) + 0))), (0, .ref (o + 285)), (1, .int (nI j)), (3, .int (nI i))]) hx hb dX6_place_46 rfl hl (by decide) rfl (fun ls hl => ?_)
      refine lv_iinc (v := nI (i + 1)) (lv' := [(3, .int (nI (i + 1))), (2, .int (nI ((cntP (fun q => ¬ nI q = nI j ∧ pBM X q ∧ ahM X q j) i) + 0))), (0, .ref (o + 285)), (1, .int (nI j))]) hx hb dX6_place_47 hl (k := 3) rfl (nI_add i 1) (by decide) rfl (fun ls hl => ?_)
      refine lv_goto (tgt := 4) hx hb dX6_place_50 (by decide) ?_
      have ih' := ih (i + 1) (by omega) H locs hI ls
      rw [show cntP (fun q => ¬ nI q = nI j ∧ pBM X q ∧ ahM X q j) (i + 1) = (cntP (fun q => ¬ nI q = nI j ∧ pBM X q ∧ ahM X q j) i) + 0 from if_neg (fun q => q.1 c2)] at ih'
      exact ih' (lv_sub hl [2, 3, 1, 0] rfl)
    · refine lv_aload_n hx hb dX6_place_21 rfl (lv_at hl 0 rfl) ?_
      refine lv_iload_n hx hb dX6_place_22 rfl (lv_at hl 3 rfl) ?_
      refine lv_iconst (v := 4) hx hb dX6_place_23 (by decide) ?_
      refine x_callVi (k := 285) hE hK hI (c_X6_of l G o _ _ i 4 h_i (by decide)) mf_X6_of mw_620 (by decide) ((e_285 G o) _ _) rfl rfl hl.1 rfl (Nat.le_of_ble_eq_true rfl) ⟨(Nat.le_of_ble_eq_true rfl), (Nat.le_of_ble_eq_true rfl)⟩ ⟨Nat.zero_le _, Nat.zero_le _⟩ dX6_place_24 (fun H locs hI => ?_)
      refine lv_iconst (v := 1) hx hb dX6_place_27 (by decide) ?_
      refine lv_icmp_ne (tgt := 44) hx hb dX6_place_28 (by decide) (fun c4 => ?_) (fun c4 => ?_)
      · refine lv_iconst (v := 0) hx hb dX6_place_44 (by decide) ?_
        refine lv_iadd hx hb dX6_place_45 ?_
        refine lv_topi (fun z5 ez5 => ?_)
        obtain rfl : nI ((cntP (fun q => ¬ nI q = nI j ∧ pBM X q ∧ ahM X q j) i) + 0) = z5 := (ez5.trans (nI_add (cntP (fun q => ¬ nI q = nI j ∧ pBM X q ∧ ahM X q j) i) 0)).symm
        refine lv_istore_n (lv' := [(2, .int (nI ((cntP (fun q => ¬ nI q = nI j ∧ pBM X q ∧ ahM X q j) i) + 0))), (0, .ref (o + 285)), (1, .int (nI j)), (3, .int (nI i))]) hx hb dX6_place_46 rfl hl (by decide) rfl (fun ls hl => ?_)
        refine lv_iinc (v := nI (i + 1)) (lv' := [(3, .int (nI (i + 1))), (2, .int (nI ((cntP (fun q => ¬ nI q = nI j ∧ pBM X q ∧ ahM X q j) i) + 0))), (0, .ref (o + 285)), (1, .int (nI j))]) hx hb dX6_place_47 hl (k := 3) rfl (nI_add i 1) (by decide) rfl (fun ls hl => ?_)
        refine lv_goto (tgt := 4) hx hb dX6_place_50 (by decide) ?_
        have ih' := ih (i + 1) (by omega) H locs hI ls
        rw [show cntP (fun q => ¬ nI q = nI j ∧ pBM X q ∧ ahM X q j) (i + 1) = (cntP (fun q => ¬ nI q = nI j ∧ pBM X q ∧ ahM X q j) i) + 0 from if_neg (fun q => c4 q.2.1)] at ih'
        exact ih' (lv_sub hl [2, 3, 1, 0] rfl)
      · refine lv_aload_n hx hb dX6_place_31 rfl (lv_at hl 0 rfl) ?_
        refine lv_iload_n hx hb dX6_place_32 rfl (lv_at hl 3 rfl) ?_
        refine lv_iload_n hx hb dX6_place_33 rfl (lv_at hl 1 rfl) ?_
        refine x_callVi (k := 285) hE hK hI (c_X6_isAhead l G o _ _ i j h_i h_j) mf_X6_isAhead mw_628 (by decide) ((e_285 G o) _ _) rfl rfl hl.1 rfl (Nat.le_of_ble_eq_true rfl) ⟨(Nat.le_of_ble_eq_true rfl), (Nat.le_of_ble_eq_true rfl)⟩ ⟨Nat.zero_le _, Nat.zero_le _⟩ dX6_place_34 (fun H locs hI => ?_)
        refine lv_if_eq (tgt := 44) hx hb dX6_place_37 (by decide) (fun c6 => ?_) (fun c6 => ?_)
        · have c6 := bI_eq0.mp c6
          refine lv_iconst (v := 0) hx hb dX6_place_44 (by decide) ?_
          refine lv_iadd hx hb dX6_place_45 ?_
          refine lv_topi (fun z7 ez7 => ?_)
          obtain rfl : nI ((cntP (fun q => ¬ nI q = nI j ∧ pBM X q ∧ ahM X q j) i) + 0) = z7 := (ez7.trans (nI_add (cntP (fun q => ¬ nI q = nI j ∧ pBM X q ∧ ahM X q j) i) 0)).symm
          refine lv_istore_n (lv' := [(2, .int (nI ((cntP (fun q => ¬ nI q = nI j ∧ pBM X q ∧ ahM X q j) i) + 0))), (0, .ref (o + 285)), (1, .int (nI j)), (3, .int (nI i))]) hx hb dX6_place_46 rfl hl (by decide) rfl (fun ls hl => ?_)
          refine lv_iinc (v := nI (i + 1)) (lv' := [(3, .int (nI (i + 1))), (2, .int (nI ((cntP (fun q => ¬ nI q = nI j ∧ pBM X q ∧ ahM X q j) i) + 0))), (0, .ref (o + 285)), (1, .int (nI j))]) hx hb dX6_place_47 hl (k := 3) rfl (nI_add i 1) (by decide) rfl (fun ls hl => ?_)
          refine lv_goto (tgt := 4) hx hb dX6_place_50 (by decide) ?_
          have ih' := ih (i + 1) (by omega) H locs hI ls
          rw [show cntP (fun q => ¬ nI q = nI j ∧ pBM X q ∧ ahM X q j) (i + 1) = (cntP (fun q => ¬ nI q = nI j ∧ pBM X q ∧ ahM X q j) i) + 0 from if_neg (fun q => c6 q.2.2)] at ih'
          exact ih' (lv_sub hl [2, 3, 1, 0] rfl)
        · have c6 := bI_ne0.mp c6
          refine lv_iconst (v := 1) hx hb dX6_place_40 (by decide) ?_
          refine lv_goto (tgt := 45) hx hb dX6_place_41 (by decide) ?_
          refine lv_iadd hx hb dX6_place_45 ?_
          refine lv_topi (fun z8 ez8 => ?_)
          obtain rfl : nI ((cntP (fun q => ¬ nI q = nI j ∧ pBM X q ∧ ahM X q j) i) + 1) = z8 := (ez8.trans (nI_add (cntP (fun q => ¬ nI q = nI j ∧ pBM X q ∧ ahM X q j) i) 1)).symm
          refine lv_istore_n (lv' := [(2, .int (nI ((cntP (fun q => ¬ nI q = nI j ∧ pBM X q ∧ ahM X q j) i) + 1))), (0, .ref (o + 285)), (1, .int (nI j)), (3, .int (nI i))]) hx hb dX6_place_46 rfl hl (by decide) rfl (fun ls hl => ?_)
          refine lv_iinc (v := nI (i + 1)) (lv' := [(3, .int (nI (i + 1))), (2, .int (nI ((cntP (fun q => ¬ nI q = nI j ∧ pBM X q ∧ ahM X q j) i) + 1))), (0, .ref (o + 285)), (1, .int (nI j))]) hx hb dX6_place_47 hl (k := 3) rfl (nI_add i 1) (by decide) rfl (fun ls hl => ?_)
          refine lv_goto (tgt := 4) hx hb dX6_place_50 (by decide) ?_
          have ih' := ih (i + 1) (by omega) H locs hI ls
          rw [show cntP (fun q => ¬ nI q = nI j ∧ pBM X q ∧ ahM X q j) (i + 1) = (cntP (fun q => ¬ nI q = nI j ∧ pBM X q ∧ ahM X q j) i) + 1 from if_pos ⟨c2, c4, c6⟩] at ih'
          exact ih' (lv_sub hl [2, 3, 1, 0] rfl)
set_option maxRecDepth 100000 in
set_option maxHeartbeats 4000000 in
theorem c_X6_place (l : Launch) (G : GG) (o : Nat) (X : SX) (Y : SY) (j : Nat) (cnt : Nat) (h_j : j < 40) (hc : X 286 31 = nI cnt) (h40 : cnt ≤ 40) : Ct l yX6_place cX6_place 4 (some .int) 5 110 G o [.ref (o + 285), .int (nI j)] X Y (some (.int (nI (cntP (fun q => ¬ nI q = nI j ∧ pBM X q ∧ ahM X q j) cnt)))) X Y := by
  refine Ct.mk (by decide +kernel) (Nat.le_of_ble_eq_true rfl) rfl ?_
  intro p9 e9 s9 m9 args9 below9 meth9 c9 hE hr hlocks hK hI ls hl
  have hx := hE.1
  have hb := hE.2.1
  have hl : lv_has ls 4 [(0, .ref (o + 285)), (1, .int (nI j))] := hl
  refine lv_iconst (v := 0) hx hb dX6_place_0 (by decide) ?_
  refine lv_istore_n (lv' := [(2, .int 0), (0, .ref (o + 285)), (1, .int (nI j))]) hx hb dX6_place_1 rfl hl (by decide) rfl (fun ls hl => ?_)
  refine lv_iconst (v := 0) hx hb dX6_place_2 (by decide) ?_
  refine lv_istore_n (lv' := [(3, .int 0), (2, .int 0), (0, .ref (o + 285)), (1, .int (nI j))]) hx hb dX6_place_3 rfl hl (by decide) rfl (fun ls hl => ?_)
  exact lp_X6_place l G o X Y j cnt h_j hc h40 hE hr hlocks hK cnt 0 (by omega) _ _ hI ls (lv_sub hl [2, 3, 1, 0] rfl)
set_option maxRecDepth 100000 in
set_option maxHeartbeats 4000000 in
theorem lp_X6_inBin (l : Launch) (G : GG) (o : Nat) (X : SX) (Y : SY) (v : Int32) (cnt : Nat) (hc : X 286 31 = nI cnt) (h40 : cnt ≤ 40) {p9 : Program} {e9 : Env} {s9 : State} {m9 : MethodId} {args9 : Array Value} {below9 : List Frame} {meth9 : Method} {c9 : Code} (hE : gE p9 m9 c9 cX6_inBin 3 s9 args9 yX6_inBin.cls) (hr : meth9.sig.returnType = (some .int)) (hlocks : meth9.locks = false) (hK : KK G s9) :
    ∀ (n : Nat) (i : Nat), i + n = cnt → ∀ (H : Heap) (locs : List Loc), In G o X Y s9.heap H locs → ∀ ls : Array Slot, lv_has ls 3 [(0, .ref (o + 285)), (1, .int v), (2, .int (nI i))] → W p9 l e9 (Rm 6 133) s9 m9 args9 below9 meth9 c9 H locs 0 0 (MQ below9 (Qw G o (some (.int (oI (-7) (fndP (fun a => pBM X a ∧ nI (cntP (fun q => ¬ nI q = nI a ∧ pBM X q ∧ ahM X q a) cnt) = v) n i)))) X Y) args9 s9 0 0 (rg o)) (F0 m9 2 ls []) := by
  have hx := hE.1
  have hb := hE.2.1
  intro n
  induction n with
  | zero =>
    intro i hi H locs hI ls hl
    refine lv_iload_n hx hb dX6_inBin_2 rfl (lv_at hl 2 rfl) ?_
    refine lv_aload_n hx hb dX6_inBin_3 rfl (lv_at hl 0 rfl) ?_
    refine x_get (k := 285) hE hK hI (by decide) inG6 (e_285 G o _ _) rfl 0 (by decide) mw_480 rfl dX6_inBin_4 ?_
    refine lv_bipush (v := 31) hx hb dX6_inBin_7 (by decide) ?_
    refine x_iald (k := 286) (j := 31) hE hK hI (by decide) (e_286 G o) (by decide) (by decide) rfl dX6_inBin_9 ?_
    refine lv_topi (fun z1 ez1 => ?_)
    obtain rfl : nI cnt = z1 := (ez1.trans (hc)).symm
    refine lv_icmp_ge (tgt := 40) hx hb dX6_inBin_10 (by decide) (fun _ => ?_) (fun q => absurd (nI_le (by omega) (by omega)) q)
    refine lv_bipush (v := (-7)) hx hb dX6_inBin_40 (by decide) ?_
    exact x_iret hE hr hlocks hI rfl rfl rfl dX6_inBin_42
  | succ n ih =>
    intro i hi H locs hI ls hl
    have h_i : i < 40 := by omega
    refine lv_iload_n hx hb dX6_inBin_2 rfl (lv_at hl 2 rfl) ?_
    refine lv_aload_n hx hb dX6_inBin_3 rfl (lv_at hl 0 rfl) ?_
    refine x_get (k := 285) hE hK hI (by decide) inG6 (e_285 G o _ _) rfl 0 (by decide) mw_480 rfl dX6_inBin_4 ?_
    refine lv_bipush (v := 31) hx hb dX6_inBin_7 (by decide) ?_
    refine x_iald (k := 286) (j := 31) hE hK hI (by decide) (e_286 G o) (by decide) (by decide) rfl dX6_inBin_9 ?_
    refine lv_topi (fun z1 ez1 => ?_)
    obtain rfl : nI cnt = z1 := (ez1.trans (hc)).symm
    refine lv_icmp_ge (tgt := 40) hx hb dX6_inBin_10 (by decide) (fun q => absurd q (nI_ge (by omega) (by omega))) (fun _ => ?_)
    refine lv_aload_n hx hb dX6_inBin_13 rfl (lv_at hl 0 rfl) ?_
    refine lv_iload_n hx hb dX6_inBin_14 rfl (lv_at hl 2 rfl) ?_
    refine lv_iconst (v := 4) hx hb dX6_inBin_15 (by decide) ?_
    refine x_callVi (k := 285) hE hK hI (c_X6_of l G o _ _ i 4 h_i (by decide)) mf_X6_of mw_620 (by decide) ((e_285 G o) _ _) rfl rfl hl.1 rfl (Nat.le_of_ble_eq_true rfl) ⟨(Nat.le_of_ble_eq_true rfl), (Nat.le_of_ble_eq_true rfl)⟩ ⟨Nat.zero_le _, Nat.zero_le _⟩ dX6_inBin_16 (fun H locs hI => ?_)
    refine lv_iconst (v := 1) hx hb dX6_inBin_19 (by decide) ?_
    refine lv_icmp_ne (tgt := 34) hx hb dX6_inBin_20 (by decide) (fun c2 => ?_) (fun c2 => ?_)
    · refine lv_iinc (v := nI (i + 1)) (lv' := [(2, .int (nI (i + 1))), (0, .ref (o + 285)), (1, .int v)]) hx hb dX6_inBin_34 hl (k := 2) rfl (nI_add i 1) (by decide) rfl (fun ls hl => ?_)
      refine lv_goto (tgt := 2) hx hb dX6_inBin_37 (by decide) ?_
      have ih' := ih (i + 1) (by omega) H locs hI ls (lv_sub hl [1, 2, 0] rfl)
      rw [← show fndP (fun a => pBM X a ∧ nI (cntP (fun q => ¬ nI q = nI a ∧ pBM X q ∧ ahM X q a) cnt) = v) (n + 1) i = fndP (fun a => pBM X a ∧ nI (cntP (fun q => ¬ nI q = nI a ∧ pBM X q ∧ ahM X q a) cnt) = v) n (i + 1) from if_neg (fun q => c2 q.1)] at ih'
      exact ih'
    · refine lv_aload_n hx hb dX6_inBin_23 rfl (lv_at hl 0 rfl) ?_
      refine lv_iload_n hx hb dX6_inBin_24 rfl (lv_at hl 2 rfl) ?_
      refine x_callVi (k := 285) hE hK hI (c_X6_place l G o _ _ i cnt h_i hc h40) mf_X6_place mw_624 (by decide) ((e_285 G o) _ _) rfl rfl hl.1 rfl (Nat.le_of_ble_eq_true rfl) ⟨(Nat.le_of_ble_eq_true rfl), (Nat.le_of_ble_eq_true rfl)⟩ ⟨Nat.zero_le _, Nat.zero_le _⟩ dX6_inBin_25 (fun H locs hI => ?_)
      refine lv_iload_n hx hb dX6_inBin_28 rfl (lv_at hl 1 rfl) ?_
      refine lv_icmp_ne (tgt := 34) hx hb dX6_inBin_29 (by decide) (fun c3 => ?_) (fun c3 => ?_)
      · refine lv_iinc (v := nI (i + 1)) (lv' := [(2, .int (nI (i + 1))), (0, .ref (o + 285)), (1, .int v)]) hx hb dX6_inBin_34 hl (k := 2) rfl (nI_add i 1) (by decide) rfl (fun ls hl => ?_)
        refine lv_goto (tgt := 2) hx hb dX6_inBin_37 (by decide) ?_
        have ih' := ih (i + 1) (by omega) H locs hI ls (lv_sub hl [1, 2, 0] rfl)
        rw [← show fndP (fun a => pBM X a ∧ nI (cntP (fun q => ¬ nI q = nI a ∧ pBM X q ∧ ahM X q a) cnt) = v) (n + 1) i = fndP (fun a => pBM X a ∧ nI (cntP (fun q => ¬ nI q = nI a ∧ pBM X q ∧ ahM X q a) cnt) = v) n (i + 1) from if_neg (fun q => c3 q.2)] at ih'
        exact ih'
      · refine lv_iload_n hx hb dX6_inBin_32 rfl (lv_at hl 2 rfl) ?_
        exact x_iret hE hr hlocks hI (congrArg (fun q => some (Value.int (oI (-7) q))) (if_pos ⟨c2, c3⟩)) rfl rfl dX6_inBin_33
set_option maxRecDepth 100000 in
set_option maxHeartbeats 4000000 in
theorem c_X6_inBin (l : Launch) (G : GG) (o : Nat) (X : SX) (Y : SY) (v : Int32) (cnt : Nat) (hc : X 286 31 = nI cnt) (h40 : cnt ≤ 40) : Ct l yX6_inBin cX6_inBin 3 (some .int) 6 133 G o [.ref (o + 285), .int v] X Y (some (.int (oI (-7) (fndP (fun a => pBM X a ∧ nI (cntP (fun q => ¬ nI q = nI a ∧ pBM X q ∧ ahM X q a) cnt) = v) cnt 0)))) X Y := by
  refine Ct.mk (by decide +kernel) (Nat.le_of_ble_eq_true rfl) rfl ?_
  intro p9 e9 s9 m9 args9 below9 meth9 c9 hE hr hlocks hK hI ls hl
  have hx := hE.1
  have hb := hE.2.1
  have hl : lv_has ls 3 [(0, .ref (o + 285)), (1, .int v)] := hl
  refine lv_iconst (v := 0) hx hb dX6_inBin_0 (by decide) ?_
  refine lv_istore_n (lv' := [(2, .int 0), (0, .ref (o + 285)), (1, .int v)]) hx hb dX6_inBin_1 rfl hl (by decide) rfl (fun ls hl => ?_)
  exact lp_X6_inBin l G o X Y v cnt hc h40 hE hr hlocks hK cnt 0 (by omega) _ _ hI ls (lv_sub hl [1, 2, 0] rfl)
def cmX (X : SX) (i : Nat) : SX := sx (sx (sx X 286 ((41 + (8 * i)) + 4) 1) 286 ((41 + (8 * i)) + 5) (X 286 34)) 286 34 ((X 286 34) + 1)
set_option maxRecDepth 100000 in
set_option maxHeartbeats 4000000 in
theorem c_X6_comes (l : Launch) (G : GG) (o : Nat) (X : SX) (Y : SY) (i : Nat) (h_i : i < 40) : Ct l yX6_comes cX6_comes 2 none 1 21 G o [.ref (o + 285), .int (nI i)] X Y none (cmX X i) Y := by
  refine Ct.mk (by decide +kernel) (Nat.le_of_ble_eq_true rfl) rfl ?_
  intro p9 e9 s9 m9 args9 below9 meth9 c9 hE hr hlocks hK hI ls hl
  have hx := hE.1
  have hb := hE.2.1
  have hl : lv_has ls 2 [(0, .ref (o + 285)), (1, .int (nI i))] := hl
  refine lv_aload_n hx hb dX6_comes_0 rfl (lv_at hl 0 rfl) ?_
  refine x_get (k := 285) hE hK hI (by decide) inG6 (e_285 G o _ _) rfl 0 (by decide) mw_480 rfl dX6_comes_1 ?_
  refine lv_iload_n hx hb dX6_comes_4 rfl (lv_at hl 1 rfl) ?_
  refine lv_iconst (v := 4) hx hb dX6_comes_5 (by decide) ?_
  refine x_callSi hE hK hI (c_X6_lot l G o _ _ i 4 ) mf_X6_lot mw_605 rfl hl.1 rfl (Nat.le_of_ble_eq_true rfl) ⟨(Nat.le_of_ble_eq_true rfl), (Nat.le_of_ble_eq_true rfl)⟩ ⟨Nat.zero_le _, Nat.zero_le _⟩ dX6_comes_6 (fun H locs hI => ?_)
  refine lv_iconst (v := 1) hx hb dX6_comes_9 (by decide) ?_
  refine x_iast (k := 286) (j := ((41 + (8 * i)) + 4)) hE hK hI (by decide) (e_286 G o) (by omega) (by decide) rfl dX6_comes_10 (fun H locs hI => ?_)
  refine lv_aload_n hx hb dX6_comes_11 rfl (lv_at hl 0 rfl) ?_
  refine x_get (k := 285) hE hK hI (by decide) inG6 (e_285 G o _ _) rfl 0 (by decide) mw_480 rfl dX6_comes_12 ?_
  refine lv_iload_n hx hb dX6_comes_15 rfl (lv_at hl 1 rfl) ?_
  refine lv_iconst (v := 5) hx hb dX6_comes_16 (by decide) ?_
  refine x_callSi hE hK hI (c_X6_lot l G o _ _ i 5 ) mf_X6_lot mw_605 rfl hl.1 rfl (Nat.le_of_ble_eq_true rfl) ⟨(Nat.le_of_ble_eq_true rfl), (Nat.le_of_ble_eq_true rfl)⟩ ⟨Nat.zero_le _, Nat.zero_le _⟩ dX6_comes_17 (fun H locs hI => ?_)
  refine lv_aload_n hx hb dX6_comes_20 rfl (lv_at hl 0 rfl) ?_
  refine x_get (k := 285) hE hK hI (by decide) inG6 (e_285 G o _ _) rfl 0 (by decide) mw_480 rfl dX6_comes_21 ?_
  refine lv_bipush (v := 34) hx hb dX6_comes_24 (by decide) ?_
  refine x_iald (k := 286) (j := 34) hE hK hI (by decide) (e_286 G o) (by decide) (by decide) rfl dX6_comes_26 ?_
  refine lv_topi (fun z1 ez1 => ?_)
  obtain rfl : X 286 34 = z1 := (ez1.trans ((sx_o (by omega)))).symm
  refine x_iast (k := 286) (j := ((41 + (8 * i)) + 5)) hE hK hI (by decide) (e_286 G o) (by omega) (by decide) rfl dX6_comes_27 (fun H locs hI => ?_)
  refine lv_aload_n hx hb dX6_comes_28 rfl (lv_at hl 0 rfl) ?_
  refine x_get (k := 285) hE hK hI (by decide) inG6 (e_285 G o _ _) rfl 0 (by decide) mw_480 rfl dX6_comes_29 ?_
  refine lv_bipush (v := 34) hx hb dX6_comes_32 (by decide) ?_
  refine lv_dup2_11 hx hb dX6_comes_34 rfl rfl ?_
  refine x_iald (k := 286) (j := 34) hE hK hI (by decide) (e_286 G o) (by decide) (by decide) rfl dX6_comes_35 ?_
  refine lv_topi (fun z2 ez2 => ?_)
  obtain rfl : X 286 34 = z2 := (ez2.trans ((sx_o (by omega)).trans ((sx_o (by omega))))).symm
  refine lv_iconst (v := 1) hx hb dX6_comes_36 (by decide) ?_
  refine lv_iadd hx hb dX6_comes_37 ?_
  refine x_iast (k := 286) (j := 34) hE hK hI (by decide) (e_286 G o) (by decide) (by decide) rfl dX6_comes_38 (fun H locs hI => ?_)
  exact x_vret hE hr hlocks hI rfl rfl rfl dX6_comes_39
set_option maxRecDepth 100000 in
set_option maxHeartbeats 4000000 in
theorem c_X6_start_busy (l : Launch) (G : GG) (o : Nat) (X : SX) (Y : SY) (h : 0 ≤ X 286 35) : Ct l yX6_start cX6_start 2 none 7 155 G o [.ref (o + 285)] X Y none X Y := by
  refine Ct.mk (by decide +kernel) (Nat.le_of_ble_eq_true rfl) rfl ?_
  intro p9 e9 s9 m9 args9 below9 meth9 c9 hE hr hlocks hK hI ls hl
  have hx := hE.1
  have hb := hE.2.1
  have hl : lv_has ls 2 [(0, .ref (o + 285))] := hl
  refine lv_aload_n hx hb dX6_start_0 rfl (lv_at hl 0 rfl) ?_
  refine x_get (k := 285) hE hK hI (by decide) inG6 (e_285 G o _ _) rfl 0 (by decide) mw_480 rfl dX6_start_1 ?_
  refine lv_bipush (v := 35) hx hb dX6_start_4 (by decide) ?_
  refine x_iald (k := 286) (j := 35) hE hK hI (by decide) (e_286 G o) (by decide) (by decide) rfl dX6_start_6 ?_
  refine lv_if_ge (tgt := 18) hx hb dX6_start_7 (by decide) (fun _ => ?_) (fun q => absurd h q)
  refine lv_bipush (v := (-7)) hx hb dX6_start_18 (by decide) ?_
  refine lv_istore_n (lv' := [(1, .int (-7)), (0, .ref (o + 285))]) hx hb dX6_start_20 rfl hl (by decide) rfl (fun ls hl => ?_)
  refine lv_iload_n hx hb dX6_start_21 rfl (lv_at hl 0 rfl) ?_
  refine lv_if_lt (tgt := 82) hx hb dX6_start_22 (by decide) (fun _ => ?_) (fun q => absurd (by decide) q)
  exact x_vret hE hr hlocks hI rfl rfl rfl dX6_start_82
set_option maxRecDepth 100000 in
set_option maxHeartbeats 4000000 in
theorem c_X6_start_none (l : Launch) (G : GG) (o : Nat) (X : SX) (Y : SY) (cnt : Nat) (hc : X 286 31 = nI cnt) (h40 : cnt ≤ 40) (h : ¬ (0 ≤ X 286 35)) (hq : fndP (fun a => pBM X a ∧ nI (cntP (fun q => ¬ nI q = nI a ∧ pBM X q ∧ ahM X q a) cnt) = 0) cnt 0 = none) : Ct l yX6_start cX6_start 2 none 7 155 G o [.ref (o + 285)] X Y none X Y := by
  refine Ct.mk (by decide +kernel) (Nat.le_of_ble_eq_true rfl) rfl ?_
  intro p9 e9 s9 m9 args9 below9 meth9 c9 hE hr hlocks hK hI ls hl
  have hx := hE.1
  have hb := hE.2.1
  have hl : lv_has ls 2 [(0, .ref (o + 285))] := hl
  refine lv_aload_n hx hb dX6_start_0 rfl (lv_at hl 0 rfl) ?_
  refine x_get (k := 285) hE hK hI (by decide) inG6 (e_285 G o _ _) rfl 0 (by decide) mw_480 rfl dX6_start_1 ?_
  refine lv_bipush (v := 35) hx hb dX6_start_4 (by decide) ?_
  refine x_iald (k := 286) (j := 35) hE hK hI (by decide) (e_286 G o) (by decide) (by decide) rfl dX6_start_6 ?_
  refine lv_if_ge (tgt := 18) hx hb dX6_start_7 (by decide) (fun q => absurd q h) (fun _ => ?_)
  refine lv_aload_n hx hb dX6_start_10 rfl (lv_at hl 0 rfl) ?_
  refine lv_iconst (v := 0) hx hb dX6_start_11 (by decide) ?_
  refine x_callVi (k := 285) hE hK hI (c_X6_inBin l G o _ _ 0 cnt hc h40) mf_X6_inBin mw_616 (by decide) ((e_285 G o) _ _) rfl rfl hl.1 rfl (Nat.le_of_ble_eq_true rfl) ⟨(Nat.le_of_ble_eq_true rfl), (Nat.le_of_ble_eq_true rfl)⟩ ⟨Nat.zero_le _, Nat.zero_le _⟩ dX6_start_12 (fun H locs hI => ?_)
  refine lv_topi (fun z1 ez1 => ?_)
  obtain rfl : (-7) = z1 := (ez1.trans (congrArg (oI (-7)) hq)).symm
  refine lv_goto (tgt := 20) hx hb dX6_start_15 (by decide) ?_
  refine lv_istore_n (lv' := [(1, .int (-7)), (0, .ref (o + 285))]) hx hb dX6_start_20 rfl hl (by decide) rfl (fun ls hl => ?_)
  refine lv_iload_n hx hb dX6_start_21 rfl (lv_at hl 0 rfl) ?_
  refine lv_if_lt (tgt := 82) hx hb dX6_start_22 (by decide) (fun _ => ?_) (fun q => absurd (by decide) q)
  exact x_vret hE hr hlocks hI rfl rfl rfl dX6_start_82
def smmX (X : SX) (cnt : Nat) (j : Nat) : SX := sx (sx (sx X 286 ((41 + (8 * j)) + 4) 2) 286 35 (nI j)) 286 36 ((X 286 30) + ((((wgt ((sx (sx X 286 ((41 + (8 * j)) + 4) 2) 286 35 (nI j)) 286) j) + (X 286 28)) - 1) / (X 286 28)))
set_option maxRecDepth 100000 in
set_option maxHeartbeats 4000000 in
theorem c_X6_start_some (l : Launch) (G : GG) (o : Nat) (X : SX) (Y : SY) (cnt : Nat) (j : Nat) (hc : X 286 31 = nI cnt) (h40 : cnt ≤ 40) (h : ¬ (0 ≤ X 286 35)) (hq : fndP (fun a => pBM X a ∧ nI (cntP (fun q => ¬ nI q = nI a ∧ pBM X q ∧ ahM X q a) cnt) = 0) cnt 0 = some j) (h_j : j < 40) (hr0 : ¬ (X 286 28 = 0)) : Ct l yX6_start cX6_start 2 none 7 155 G o [.ref (o + 285)] X Y none (smmX X cnt j) Y := by
  refine Ct.mk (by decide +kernel) (Nat.le_of_ble_eq_true rfl) rfl ?_
  intro p9 e9 s9 m9 args9 below9 meth9 c9 hE hr hlocks hK hI ls hl
  have hx := hE.1
  have hb := hE.2.1
  have hl : lv_has ls 2 [(0, .ref (o + 285))] := hl
  refine lv_aload_n hx hb dX6_start_0 rfl (lv_at hl 0 rfl) ?_
  refine x_get (k := 285) hE hK hI (by decide) inG6 (e_285 G o _ _) rfl 0 (by decide) mw_480 rfl dX6_start_1 ?_
  refine lv_bipush (v := 35) hx hb dX6_start_4 (by decide) ?_
  refine x_iald (k := 286) (j := 35) hE hK hI (by decide) (e_286 G o) (by decide) (by decide) rfl dX6_start_6 ?_
  refine lv_if_ge (tgt := 18) hx hb dX6_start_7 (by decide) (fun q => absurd q h) (fun _ => ?_)
  refine lv_aload_n hx hb dX6_start_10 rfl (lv_at hl 0 rfl) ?_
  refine lv_iconst (v := 0) hx hb dX6_start_11 (by decide) ?_
  refine x_callVi (k := 285) hE hK hI (c_X6_inBin l G o _ _ 0 cnt hc h40) mf_X6_inBin mw_616 (by decide) ((e_285 G o) _ _) rfl rfl hl.1 rfl (Nat.le_of_ble_eq_true rfl) ⟨(Nat.le_of_ble_eq_true rfl), (Nat.le_of_ble_eq_true rfl)⟩ ⟨Nat.zero_le _, Nat.zero_le _⟩ dX6_start_12 (fun H locs hI => ?_)
  refine lv_topi (fun z1 ez1 => ?_)
  obtain rfl : nI j = z1 := (ez1.trans (congrArg (oI (-7)) hq)).symm
  refine lv_goto (tgt := 20) hx hb dX6_start_15 (by decide) ?_
  refine lv_istore_n (lv' := [(1, .int (nI j)), (0, .ref (o + 285))]) hx hb dX6_start_20 rfl hl (by decide) rfl (fun ls hl => ?_)
  refine lv_iload_n hx hb dX6_start_21 rfl (lv_at hl 0 rfl) ?_
  refine lv_if_lt (tgt := 82) hx hb dX6_start_22 (by decide) (fun q => absurd q (nI_pos (Nat.lt_trans h_j (by decide)))) (fun _ => ?_)
  refine lv_aload_n hx hb dX6_start_25 rfl (lv_at hl 1 rfl) ?_
  refine x_get (k := 285) hE hK hI (by decide) inG6 (e_285 G o _ _) rfl 0 (by decide) mw_480 rfl dX6_start_26 ?_
  refine lv_iload_n hx hb dX6_start_29 rfl (lv_at hl 0 rfl) ?_
  refine lv_iconst (v := 4) hx hb dX6_start_30 (by decide) ?_
  refine x_callSi hE hK hI (c_X6_lot l G o _ _ j 4 ) mf_X6_lot mw_605 rfl hl.1 rfl (Nat.le_of_ble_eq_true rfl) ⟨(Nat.le_of_ble_eq_true rfl), (Nat.le_of_ble_eq_true rfl)⟩ ⟨Nat.zero_le _, Nat.zero_le _⟩ dX6_start_31 (fun H locs hI => ?_)
  refine lv_iconst (v := 2) hx hb dX6_start_34 (by decide) ?_
  refine x_iast (k := 286) (j := ((41 + (8 * j)) + 4)) hE hK hI (by decide) (e_286 G o) (by omega) (by decide) rfl dX6_start_35 (fun H locs hI => ?_)
  refine lv_aload_n hx hb dX6_start_36 rfl (lv_at hl 1 rfl) ?_
  refine x_get (k := 285) hE hK hI (by decide) inG6 (e_285 G o _ _) rfl 0 (by decide) mw_480 rfl dX6_start_37 ?_
  refine lv_bipush (v := 35) hx hb dX6_start_40 (by decide) ?_
  refine lv_iload_n hx hb dX6_start_42 rfl (lv_at hl 0 rfl) ?_
  refine x_iast (k := 286) (j := 35) hE hK hI (by decide) (e_286 G o) (by decide) (by decide) rfl dX6_start_43 (fun H locs hI => ?_)
  refine lv_aload_n hx hb dX6_start_44 rfl (lv_at hl 1 rfl) ?_
  refine x_get (k := 285) hE hK hI (by decide) inG6 (e_285 G o _ _) rfl 0 (by decide) mw_480 rfl dX6_start_45 ?_
  refine lv_bipush (v := 36) hx hb dX6_start_48 (by decide) ?_
  refine lv_aload_n hx hb dX6_start_50 rfl (lv_at hl 1 rfl) ?_
  refine x_get (k := 285) hE hK hI (by decide) inG6 (e_285 G o _ _) rfl 0 (by decide) mw_480 rfl dX6_start_51 ?_
  refine lv_bipush (v := 30) hx hb dX6_start_54 (by decide) ?_
  refine x_iald (k := 286) (j := 30) hE hK hI (by decide) (e_286 G o) (by decide) (by decide) rfl dX6_start_56 ?_
  refine lv_topi (fun z2 ez2 => ?_)
  obtain rfl : X 286 30 = z2 := (ez2.trans ((sx_o (by decide)).trans ((sx_o (by omega))))).symm
  refine lv_aload_n hx hb dX6_start_57 rfl (lv_at hl 1 rfl) ?_
  refine lv_iload_n hx hb dX6_start_58 rfl (lv_at hl 0 rfl) ?_
  refine x_callVi (k := 285) hE hK hI (c_X6_weight l G o _ _ j h_j) mf_X6_weight mw_636 (by decide) ((e_285 G o) _ _) rfl rfl hl.1 rfl (Nat.le_of_ble_eq_true rfl) ⟨(Nat.le_of_ble_eq_true rfl), (Nat.le_of_ble_eq_true rfl)⟩ ⟨Nat.zero_le _, Nat.zero_le _⟩ dX6_start_59 (fun H locs hI => ?_)
  refine lv_aload_n hx hb dX6_start_62 rfl (lv_at hl 1 rfl) ?_
  refine x_get (k := 285) hE hK hI (by decide) inG6 (e_285 G o _ _) rfl 0 (by decide) mw_480 rfl dX6_start_63 ?_
  refine lv_bipush (v := 28) hx hb dX6_start_66 (by decide) ?_
  refine x_iald (k := 286) (j := 28) hE hK hI (by decide) (e_286 G o) (by decide) (by decide) rfl dX6_start_68 ?_
  refine lv_topi (fun z3 ez3 => ?_)
  obtain rfl : X 286 28 = z3 := (ez3.trans ((sx_o (by decide)).trans ((sx_o (by omega))))).symm
  refine lv_iadd hx hb dX6_start_69 ?_
  refine lv_iconst (v := 1) hx hb dX6_start_70 (by decide) ?_
  refine lv_isub hx hb dX6_start_71 ?_
  refine lv_aload_n hx hb dX6_start_72 rfl (lv_at hl 1 rfl) ?_
  refine x_get (k := 285) hE hK hI (by decide) inG6 (e_285 G o _ _) rfl 0 (by decide) mw_480 rfl dX6_start_73 ?_
  refine lv_bipush (v := 28) hx hb dX6_start_76 (by decide) ?_
  refine x_iald (k := 286) (j := 28) hE hK hI (by decide) (e_286 G o) (by decide) (by decide) rfl dX6_start_78 ?_
  refine lv_topi (fun z4 ez4 => ?_)
  obtain rfl : X 286 28 = z4 := (ez4.trans ((sx_o (by decide)).trans ((sx_o (by omega))))).symm
  refine lv_idiv hx hb dX6_start_79 hr0 ?_
  refine lv_iadd hx hb dX6_start_80 ?_
  refine x_iast (k := 286) (j := 36) hE hK hI (by decide) (e_286 G o) (by decide) (by decide) rfl dX6_start_81 (fun H locs hI => ?_)
  exact x_vret hE hr hlocks hI rfl rfl rfl dX6_start_82
def fnmX (X : SX) (i : Nat) : SX := if (((0 + (((0 + ((((X 286 ((41 + (8 * i)) + 0)) - (((X 286 ((41 + (8 * i)) + 0)) * (X 286 1)) / 10)) - (((X 286 ((41 + (8 * i)) + 0)) * (X 286 2)) / 10)) - (((X 286 ((41 + (8 * i)) + 0)) * (X 286 3)) / 10))) * (X 286 16)) / 10)) + ((((0 + (((X 286 ((41 + (8 * i)) + 0)) * (X 286 1)) / 10)) + (((X 286 ((41 + (8 * i)) + 1)) - (((X 286 ((41 + (8 * i)) + 1)) * (X 286 6)) / 10)) - (((X 286 ((41 + (8 * i)) + 1)) * (X 286 7)) / 10))) * (X 286 17)) / 10)) + (((((0 + (((X 286 ((41 + (8 * i)) + 0)) * (X 286 2)) / 10)) + (((X 286 ((41 + (8 * i)) + 1)) * (X 286 6)) / 10)) + ((X 286 ((41 + (8 * i)) + 2)) - (((X 286 ((41 + (8 * i)) + 2)) * (X 286 11)) / 10))) * (X 286 18)) / 10)) + ((((((0 + (((X 286 ((41 + (8 * i)) + 0)) * (X 286 3)) / 10)) + (((X 286 ((41 + (8 * i)) + 1)) * (X 286 7)) / 10)) + (((X 286 ((41 + (8 * i)) + 2)) * (X 286 11)) / 10)) + (X 286 ((41 + (8 * i)) + 3))) * (X 286 19)) / 10) = 0 then (sx (sx (sx (sx (sx (sx (sx (sx (sx (sx (sx (sx (sx (sx (sx (sx (sx (sx (sx (sx (sx (sx (sx (sx (sx (sx (sx (sx (sx (sx X 291 0 0) 291 1 0) 291 2 0) 291 3 0) 291 1 (0 + (((X 286 ((41 + (8 * i)) + 0)) * (X 286 1)) / 10))) 291 2 (0 + (((X 286 ((41 + (8 * i)) + 0)) * (X 286 2)) / 10))) 291 3 (0 + (((X 286 ((41 + (8 * i)) + 0)) * (X 286 3)) / 10))) 291 0 (0 + ((((X 286 ((41 + (8 * i)) + 0)) - (((X 286 ((41 + (8 * i)) + 0)) * (X 286 1)) / 10)) - (((X 286 ((41 + (8 * i)) + 0)) * (X 286 2)) / 10)) - (((X 286 ((41 + (8 * i)) + 0)) * (X 286 3)) / 10)))) 286 32 ((X 286 32) + ((X 286 20) * (X 286 ((41 + (8 * i)) + 0))))) 291 2 ((0 + (((X 286 ((41 + (8 * i)) + 0)) * (X 286 2)) / 10)) + (((X 286 ((41 + (8 * i)) + 1)) * (X 286 6)) / 10))) 291 3 ((0 + (((X 286 ((41 + (8 * i)) + 0)) * (X 286 3)) / 10)) + (((X 286 ((41 + (8 * i)) + 1)) * (X 286 7)) / 10))) 291 1 ((0 + (((X 286 ((41 + (8 * i)) + 0)) * (X 286 1)) / 10)) + (((X 286 ((41 + (8 * i)) + 1)) - (((X 286 ((41 + (8 * i)) + 1)) * (X 286 6)) / 10)) - (((X 286 ((41 + (8 * i)) + 1)) * (X 286 7)) / 10)))) 286 32 (((X 286 32) + ((X 286 20) * (X 286 ((41 + (8 * i)) + 0)))) + ((X 286 21) * (X 286 ((41 + (8 * i)) + 1))))) 291 3 (((0 + (((X 286 ((41 + (8 * i)) + 0)) * (X 286 3)) / 10)) + (((X 286 ((41 + (8 * i)) + 1)) * (X 286 7)) / 10)) + (((X 286 ((41 + (8 * i)) + 2)) * (X 286 11)) / 10))) 291 2 (((0 + (((X 286 ((41 + (8 * i)) + 0)) * (X 286 2)) / 10)) + (((X 286 ((41 + (8 * i)) + 1)) * (X 286 6)) / 10)) + ((X 286 ((41 + (8 * i)) + 2)) - (((X 286 ((41 + (8 * i)) + 2)) * (X 286 11)) / 10)))) 286 32 ((((X 286 32) + ((X 286 20) * (X 286 ((41 + (8 * i)) + 0)))) + ((X 286 21) * (X 286 ((41 + (8 * i)) + 1)))) + ((X 286 22) * (X 286 ((41 + (8 * i)) + 2))))) 291 3 ((((0 + (((X 286 ((41 + (8 * i)) + 0)) * (X 286 3)) / 10)) + (((X 286 ((41 + (8 * i)) + 1)) * (X 286 7)) / 10)) + (((X 286 ((41 + (8 * i)) + 2)) * (X 286 11)) / 10)) + (X 286 ((41 + (8 * i)) + 3)))) 286 32 (((((X 286 32) + ((X 286 20) * (X 286 ((41 + (8 * i)) + 0)))) + ((X 286 21) * (X 286 ((41 + (8 * i)) + 1)))) + ((X 286 22) * (X 286 ((41 + (8 * i)) + 2)))) + ((X 286 23) * (X 286 ((41 + (8 * i)) + 3))))) 286 37 ((X 286 37) + ((0 + ((((X 286 ((41 + (8 * i)) + 0)) - (((X 286 ((41 + (8 * i)) + 0)) * (X 286 1)) / 10)) - (((X 286 ((41 + (8 * i)) + 0)) * (X 286 2)) / 10)) - (((X 286 ((41 + (8 * i)) + 0)) * (X 286 3)) / 10))) - (((0 + ((((X 286 ((41 + (8 * i)) + 0)) - (((X 286 ((41 + (8 * i)) + 0)) * (X 286 1)) / 10)) - (((X 286 ((41 + (8 * i)) + 0)) * (X 286 2)) / 10)) - (((X 286 ((41 + (8 * i)) + 0)) * (X 286 3)) / 10))) * (X 286 16)) / 10)))) 286 ((41 + (8 * i)) + 0) (((0 + ((((X 286 ((41 + (8 * i)) + 0)) - (((X 286 ((41 + (8 * i)) + 0)) * (X 286 1)) / 10)) - (((X 286 ((41 + (8 * i)) + 0)) * (X 286 2)) / 10)) - (((X 286 ((41 + (8 * i)) + 0)) * (X 286 3)) / 10))) * (X 286 16)) / 10)) 286 38 ((X 286 38) + (((0 + (((X 286 ((41 + (8 * i)) + 0)) * (X 286 1)) / 10)) + (((X 286 ((41 + (8 * i)) + 1)) - (((X 286 ((41 + (8 * i)) + 1)) * (X 286 6)) / 10)) - (((X 286 ((41 + (8 * i)) + 1)) * (X 286 7)) / 10))) - ((((0 + (((X 286 ((41 + (8 * i)) + 0)) * (X 286 1)) / 10)) + (((X 286 ((41 + (8 * i)) + 1)) - (((X 286 ((41 + (8 * i)) + 1)) * (X 286 6)) / 10)) - (((X 286 ((41 + (8 * i)) + 1)) * (X 286 7)) / 10))) * (X 286 17)) / 10)))) 286 ((41 + (8 * i)) + 1) ((((0 + (((X 286 ((41 + (8 * i)) + 0)) * (X 286 1)) / 10)) + (((X 286 ((41 + (8 * i)) + 1)) - (((X 286 ((41 + (8 * i)) + 1)) * (X 286 6)) / 10)) - (((X 286 ((41 + (8 * i)) + 1)) * (X 286 7)) / 10))) * (X 286 17)) / 10)) 286 39 ((X 286 39) + ((((0 + (((X 286 ((41 + (8 * i)) + 0)) * (X 286 2)) / 10)) + (((X 286 ((41 + (8 * i)) + 1)) * (X 286 6)) / 10)) + ((X 286 ((41 + (8 * i)) + 2)) - (((X 286 ((41 + (8 * i)) + 2)) * (X 286 11)) / 10))) - (((((0 + (((X 286 ((41 + (8 * i)) + 0)) * (X 286 2)) / 10)) + (((X 286 ((41 + (8 * i)) + 1)) * (X 286 6)) / 10)) + ((X 286 ((41 + (8 * i)) + 2)) - (((X 286 ((41 + (8 * i)) + 2)) * (X 286 11)) / 10))) * (X 286 18)) / 10)))) 286 ((41 + (8 * i)) + 2) (((((0 + (((X 286 ((41 + (8 * i)) + 0)) * (X 286 2)) / 10)) + (((X 286 ((41 + (8 * i)) + 1)) * (X 286 6)) / 10)) + ((X 286 ((41 + (8 * i)) + 2)) - (((X 286 ((41 + (8 * i)) + 2)) * (X 286 11)) / 10))) * (X 286 18)) / 10)) 286 40 ((X 286 40) + (((((0 + (((X 286 ((41 + (8 * i)) + 0)) * (X 286 3)) / 10)) + (((X 286 ((41 + (8 * i)) + 1)) * (X 286 7)) / 10)) + (((X 286 ((41 + (8 * i)) + 2)) * (X 286 11)) / 10)) + (X 286 ((41 + (8 * i)) + 3))) - ((((((0 + (((X 286 ((41 + (8 * i)) + 0)) * (X 286 3)) / 10)) + (((X 286 ((41 + (8 * i)) + 1)) * (X 286 7)) / 10)) + (((X 286 ((41 + (8 * i)) + 2)) * (X 286 11)) / 10)) + (X 286 ((41 + (8 * i)) + 3))) * (X 286 19)) / 10)))) 286 ((41 + (8 * i)) + 3) ((((((0 + (((X 286 ((41 + (8 * i)) + 0)) * (X 286 3)) / 10)) + (((X 286 ((41 + (8 * i)) + 1)) * (X 286 7)) / 10)) + (((X 286 ((41 + (8 * i)) + 2)) * (X 286 11)) / 10)) + (X 286 ((41 + (8 * i)) + 3))) * (X 286 19)) / 10)) 286 33 ((X 286 33) + ((((0 + (((0 + ((((X 286 ((41 + (8 * i)) + 0)) - (((X 286 ((41 + (8 * i)) + 0)) * (X 286 1)) / 10)) - (((X 286 ((41 + (8 * i)) + 0)) * (X 286 2)) / 10)) - (((X 286 ((41 + (8 * i)) + 0)) * (X 286 3)) / 10))) * (X 286 16)) / 10)) + ((((0 + (((X 286 ((41 + (8 * i)) + 0)) * (X 286 1)) / 10)) + (((X 286 ((41 + (8 * i)) + 1)) - (((X 286 ((41 + (8 * i)) + 1)) * (X 286 6)) / 10)) - (((X 286 ((41 + (8 * i)) + 1)) * (X 286 7)) / 10))) * (X 286 17)) / 10)) + (((((0 + (((X 286 ((41 + (8 * i)) + 0)) * (X 286 2)) / 10)) + (((X 286 ((41 + (8 * i)) + 1)) * (X 286 6)) / 10)) + ((X 286 ((41 + (8 * i)) + 2)) - (((X 286 ((41 + (8 * i)) + 2)) * (X 286 11)) / 10))) * (X 286 18)) / 10)) + ((((((0 + (((X 286 ((41 + (8 * i)) + 0)) * (X 286 3)) / 10)) + (((X 286 ((41 + (8 * i)) + 1)) * (X 286 7)) / 10)) + (((X 286 ((41 + (8 * i)) + 2)) * (X 286 11)) / 10)) + (X 286 ((41 + (8 * i)) + 3))) * (X 286 19)) / 10)))) 286 ((41 + (8 * i)) + 7) ((X 286 ((41 + (8 * i)) + 7)) + 1)) 286 35 (-7)) 286 ((41 + (8 * i)) + 4) 3) else (cmX (sx (sx (sx (sx (sx (sx (sx (sx (sx (sx (sx (sx (sx (sx (sx (sx (sx (sx (sx (sx (sx (sx (sx (sx (sx (sx (sx (sx (sx X 291 0 0) 291 1 0) 291 2 0) 291 3 0) 291 1 (0 + (((X 286 ((41 + (8 * i)) + 0)) * (X 286 1)) / 10))) 291 2 (0 + (((X 286 ((41 + (8 * i)) + 0)) * (X 286 2)) / 10))) 291 3 (0 + (((X 286 ((41 + (8 * i)) + 0)) * (X 286 3)) / 10))) 291 0 (0 + ((((X 286 ((41 + (8 * i)) + 0)) - (((X 286 ((41 + (8 * i)) + 0)) * (X 286 1)) / 10)) - (((X 286 ((41 + (8 * i)) + 0)) * (X 286 2)) / 10)) - (((X 286 ((41 + (8 * i)) + 0)) * (X 286 3)) / 10)))) 286 32 ((X 286 32) + ((X 286 20) * (X 286 ((41 + (8 * i)) + 0))))) 291 2 ((0 + (((X 286 ((41 + (8 * i)) + 0)) * (X 286 2)) / 10)) + (((X 286 ((41 + (8 * i)) + 1)) * (X 286 6)) / 10))) 291 3 ((0 + (((X 286 ((41 + (8 * i)) + 0)) * (X 286 3)) / 10)) + (((X 286 ((41 + (8 * i)) + 1)) * (X 286 7)) / 10))) 291 1 ((0 + (((X 286 ((41 + (8 * i)) + 0)) * (X 286 1)) / 10)) + (((X 286 ((41 + (8 * i)) + 1)) - (((X 286 ((41 + (8 * i)) + 1)) * (X 286 6)) / 10)) - (((X 286 ((41 + (8 * i)) + 1)) * (X 286 7)) / 10)))) 286 32 (((X 286 32) + ((X 286 20) * (X 286 ((41 + (8 * i)) + 0)))) + ((X 286 21) * (X 286 ((41 + (8 * i)) + 1))))) 291 3 (((0 + (((X 286 ((41 + (8 * i)) + 0)) * (X 286 3)) / 10)) + (((X 286 ((41 + (8 * i)) + 1)) * (X 286 7)) / 10)) + (((X 286 ((41 + (8 * i)) + 2)) * (X 286 11)) / 10))) 291 2 (((0 + (((X 286 ((41 + (8 * i)) + 0)) * (X 286 2)) / 10)) + (((X 286 ((41 + (8 * i)) + 1)) * (X 286 6)) / 10)) + ((X 286 ((41 + (8 * i)) + 2)) - (((X 286 ((41 + (8 * i)) + 2)) * (X 286 11)) / 10)))) 286 32 ((((X 286 32) + ((X 286 20) * (X 286 ((41 + (8 * i)) + 0)))) + ((X 286 21) * (X 286 ((41 + (8 * i)) + 1)))) + ((X 286 22) * (X 286 ((41 + (8 * i)) + 2))))) 291 3 ((((0 + (((X 286 ((41 + (8 * i)) + 0)) * (X 286 3)) / 10)) + (((X 286 ((41 + (8 * i)) + 1)) * (X 286 7)) / 10)) + (((X 286 ((41 + (8 * i)) + 2)) * (X 286 11)) / 10)) + (X 286 ((41 + (8 * i)) + 3)))) 286 32 (((((X 286 32) + ((X 286 20) * (X 286 ((41 + (8 * i)) + 0)))) + ((X 286 21) * (X 286 ((41 + (8 * i)) + 1)))) + ((X 286 22) * (X 286 ((41 + (8 * i)) + 2)))) + ((X 286 23) * (X 286 ((41 + (8 * i)) + 3))))) 286 37 ((X 286 37) + ((0 + ((((X 286 ((41 + (8 * i)) + 0)) - (((X 286 ((41 + (8 * i)) + 0)) * (X 286 1)) / 10)) - (((X 286 ((41 + (8 * i)) + 0)) * (X 286 2)) / 10)) - (((X 286 ((41 + (8 * i)) + 0)) * (X 286 3)) / 10))) - (((0 + ((((X 286 ((41 + (8 * i)) + 0)) - (((X 286 ((41 + (8 * i)) + 0)) * (X 286 1)) / 10)) - (((X 286 ((41 + (8 * i)) + 0)) * (X 286 2)) / 10)) - (((X 286 ((41 + (8 * i)) + 0)) * (X 286 3)) / 10))) * (X 286 16)) / 10)))) 286 ((41 + (8 * i)) + 0) (((0 + ((((X 286 ((41 + (8 * i)) + 0)) - (((X 286 ((41 + (8 * i)) + 0)) * (X 286 1)) / 10)) - (((X 286 ((41 + (8 * i)) + 0)) * (X 286 2)) / 10)) - (((X 286 ((41 + (8 * i)) + 0)) * (X 286 3)) / 10))) * (X 286 16)) / 10)) 286 38 ((X 286 38) + (((0 + (((X 286 ((41 + (8 * i)) + 0)) * (X 286 1)) / 10)) + (((X 286 ((41 + (8 * i)) + 1)) - (((X 286 ((41 + (8 * i)) + 1)) * (X 286 6)) / 10)) - (((X 286 ((41 + (8 * i)) + 1)) * (X 286 7)) / 10))) - ((((0 + (((X 286 ((41 + (8 * i)) + 0)) * (X 286 1)) / 10)) + (((X 286 ((41 + (8 * i)) + 1)) - (((X 286 ((41 + (8 * i)) + 1)) * (X 286 6)) / 10)) - (((X 286 ((41 + (8 * i)) + 1)) * (X 286 7)) / 10))) * (X 286 17)) / 10)))) 286 ((41 + (8 * i)) + 1) ((((0 + (((X 286 ((41 + (8 * i)) + 0)) * (X 286 1)) / 10)) + (((X 286 ((41 + (8 * i)) + 1)) - (((X 286 ((41 + (8 * i)) + 1)) * (X 286 6)) / 10)) - (((X 286 ((41 + (8 * i)) + 1)) * (X 286 7)) / 10))) * (X 286 17)) / 10)) 286 39 ((X 286 39) + ((((0 + (((X 286 ((41 + (8 * i)) + 0)) * (X 286 2)) / 10)) + (((X 286 ((41 + (8 * i)) + 1)) * (X 286 6)) / 10)) + ((X 286 ((41 + (8 * i)) + 2)) - (((X 286 ((41 + (8 * i)) + 2)) * (X 286 11)) / 10))) - (((((0 + (((X 286 ((41 + (8 * i)) + 0)) * (X 286 2)) / 10)) + (((X 286 ((41 + (8 * i)) + 1)) * (X 286 6)) / 10)) + ((X 286 ((41 + (8 * i)) + 2)) - (((X 286 ((41 + (8 * i)) + 2)) * (X 286 11)) / 10))) * (X 286 18)) / 10)))) 286 ((41 + (8 * i)) + 2) (((((0 + (((X 286 ((41 + (8 * i)) + 0)) * (X 286 2)) / 10)) + (((X 286 ((41 + (8 * i)) + 1)) * (X 286 6)) / 10)) + ((X 286 ((41 + (8 * i)) + 2)) - (((X 286 ((41 + (8 * i)) + 2)) * (X 286 11)) / 10))) * (X 286 18)) / 10)) 286 40 ((X 286 40) + (((((0 + (((X 286 ((41 + (8 * i)) + 0)) * (X 286 3)) / 10)) + (((X 286 ((41 + (8 * i)) + 1)) * (X 286 7)) / 10)) + (((X 286 ((41 + (8 * i)) + 2)) * (X 286 11)) / 10)) + (X 286 ((41 + (8 * i)) + 3))) - ((((((0 + (((X 286 ((41 + (8 * i)) + 0)) * (X 286 3)) / 10)) + (((X 286 ((41 + (8 * i)) + 1)) * (X 286 7)) / 10)) + (((X 286 ((41 + (8 * i)) + 2)) * (X 286 11)) / 10)) + (X 286 ((41 + (8 * i)) + 3))) * (X 286 19)) / 10)))) 286 ((41 + (8 * i)) + 3) ((((((0 + (((X 286 ((41 + (8 * i)) + 0)) * (X 286 3)) / 10)) + (((X 286 ((41 + (8 * i)) + 1)) * (X 286 7)) / 10)) + (((X 286 ((41 + (8 * i)) + 2)) * (X 286 11)) / 10)) + (X 286 ((41 + (8 * i)) + 3))) * (X 286 19)) / 10)) 286 33 ((X 286 33) + ((((0 + (((0 + ((((X 286 ((41 + (8 * i)) + 0)) - (((X 286 ((41 + (8 * i)) + 0)) * (X 286 1)) / 10)) - (((X 286 ((41 + (8 * i)) + 0)) * (X 286 2)) / 10)) - (((X 286 ((41 + (8 * i)) + 0)) * (X 286 3)) / 10))) * (X 286 16)) / 10)) + ((((0 + (((X 286 ((41 + (8 * i)) + 0)) * (X 286 1)) / 10)) + (((X 286 ((41 + (8 * i)) + 1)) - (((X 286 ((41 + (8 * i)) + 1)) * (X 286 6)) / 10)) - (((X 286 ((41 + (8 * i)) + 1)) * (X 286 7)) / 10))) * (X 286 17)) / 10)) + (((((0 + (((X 286 ((41 + (8 * i)) + 0)) * (X 286 2)) / 10)) + (((X 286 ((41 + (8 * i)) + 1)) * (X 286 6)) / 10)) + ((X 286 ((41 + (8 * i)) + 2)) - (((X 286 ((41 + (8 * i)) + 2)) * (X 286 11)) / 10))) * (X 286 18)) / 10)) + ((((((0 + (((X 286 ((41 + (8 * i)) + 0)) * (X 286 3)) / 10)) + (((X 286 ((41 + (8 * i)) + 1)) * (X 286 7)) / 10)) + (((X 286 ((41 + (8 * i)) + 2)) * (X 286 11)) / 10)) + (X 286 ((41 + (8 * i)) + 3))) * (X 286 19)) / 10)))) 286 ((41 + (8 * i)) + 7) ((X 286 ((41 + (8 * i)) + 7)) + 1)) 286 35 (-7)) i)
set_option maxRecDepth 100000 in
set_option maxHeartbeats 4000000 in
theorem c_X6_finish (l : Launch) (G : GG) (o : Nat) (X : SX) (Y : SY) (i : Nat) (hg : X 286 35 = nI i) (h_i : i < 40) : Ct l yX6_finish cX6_finish 7 none 2 43 G o [.ref (o + 285)] X Y none (fnmX X i) Y := by
  refine Ct.mk (by decide +kernel) (Nat.le_of_ble_eq_true rfl) rfl ?_
  intro p9 e9 s9 m9 args9 below9 meth9 c9 hE hr hlocks hK hI ls hl
  have hx := hE.1
  have hb := hE.2.1
  have hl : lv_has ls 7 [(0, .ref (o + 285))] := hl
  refine lv_aload_n hx hb dX6_finish_0 rfl (lv_at hl 0 rfl) ?_
  refine x_get (k := 285) hE hK hI (by decide) inG6 (e_285 G o _ _) rfl 0 (by decide) mw_480 rfl dX6_finish_1 ?_
  refine lv_bipush (v := 35) hx hb dX6_finish_4 (by decide) ?_
  refine x_iald (k := 286) (j := 35) hE hK hI (by decide) (e_286 G o) (by decide) (by decide) rfl dX6_finish_6 ?_
  refine lv_topi (fun z1 ez1 => ?_)
  obtain rfl : nI i = z1 := (ez1.trans (hg)).symm
  refine lv_istore_n (lv' := [(1, .int (nI i)), (0, .ref (o + 285))]) hx hb dX6_finish_7 rfl hl (by decide) rfl (fun ls hl => ?_)
  refine lv_iconst (v := 0) hx hb dX6_finish_8 (by decide) ?_
  refine lv_istore_n (lv' := [(2, .int 0), (1, .int (nI i)), (0, .ref (o + 285))]) hx hb dX6_finish_9 rfl hl (by decide) rfl (fun ls hl => ?_)
  refine lv_iload_n hx hb dX6_finish_10 rfl (lv_at hl 0 rfl) ?_
  refine lv_iconst (v := 4) hx hb dX6_finish_11 (by decide) ?_
  refine lv_icmp_ge (tgt := 28) hx hb dX6_finish_12 (by decide) (fun q => absurd q (by decide)) (fun _ => ?_)
  refine lv_aload_n hx hb dX6_finish_15 rfl (lv_at hl 2 rfl) ?_
  refine x_get (k := 285) hE hK hI (by decide) inG6 (e_285 G o _ _) rfl 6 (by decide) mw_486 rfl dX6_finish_16 ?_
  refine lv_iload_n hx hb dX6_finish_19 rfl (lv_at hl 0 rfl) ?_
  refine lv_iconst (v := 0) hx hb dX6_finish_20 (by decide) ?_
  refine x_iast (k := 291) (j := 0) hE hK hI (by decide) (e_291 G o) (by decide) (by decide) rfl dX6_finish_21 (fun H locs hI => ?_)
  refine lv_iinc (v := 1) (lv' := [(2, .int 1), (1, .int (nI i)), (0, .ref (o + 285))]) hx hb dX6_finish_22 hl (k := 0) rfl (by decide) (by decide) rfl (fun ls hl => ?_)
  refine lv_goto (tgt := 10) hx hb dX6_finish_25 (by decide) ?_
  refine lv_iload_n hx hb dX6_finish_10 rfl (lv_at hl 0 rfl) ?_
  refine lv_iconst (v := 4) hx hb dX6_finish_11 (by decide) ?_
  refine lv_icmp_ge (tgt := 28) hx hb dX6_finish_12 (by decide) (fun q => absurd q (by decide)) (fun _ => ?_)
  refine lv_aload_n hx hb dX6_finish_15 rfl (lv_at hl 2 rfl) ?_
  refine x_get (k := 285) hE hK hI (by decide) inG6 (e_285 G o _ _) rfl 6 (by decide) mw_486 rfl dX6_finish_16 ?_
  refine lv_iload_n hx hb dX6_finish_19 rfl (lv_at hl 0 rfl) ?_
  refine lv_iconst (v := 0) hx hb dX6_finish_20 (by decide) ?_
  refine x_iast (k := 291) (j := 1) hE hK hI (by decide) (e_291 G o) (by decide) (by decide) rfl dX6_finish_21 (fun H locs hI => ?_)
  refine lv_iinc (v := 2) (lv' := [(2, .int 2), (1, .int (nI i)), (0, .ref (o + 285))]) hx hb dX6_finish_22 hl (k := 0) rfl (by decide) (by decide) rfl (fun ls hl => ?_)
  refine lv_goto (tgt := 10) hx hb dX6_finish_25 (by decide) ?_
  refine lv_iload_n hx hb dX6_finish_10 rfl (lv_at hl 0 rfl) ?_
  refine lv_iconst (v := 4) hx hb dX6_finish_11 (by decide) ?_
  refine lv_icmp_ge (tgt := 28) hx hb dX6_finish_12 (by decide) (fun q => absurd q (by decide)) (fun _ => ?_)
  refine lv_aload_n hx hb dX6_finish_15 rfl (lv_at hl 2 rfl) ?_
  refine x_get (k := 285) hE hK hI (by decide) inG6 (e_285 G o _ _) rfl 6 (by decide) mw_486 rfl dX6_finish_16 ?_
  refine lv_iload_n hx hb dX6_finish_19 rfl (lv_at hl 0 rfl) ?_
  refine lv_iconst (v := 0) hx hb dX6_finish_20 (by decide) ?_
  refine x_iast (k := 291) (j := 2) hE hK hI (by decide) (e_291 G o) (by decide) (by decide) rfl dX6_finish_21 (fun H locs hI => ?_)
  refine lv_iinc (v := 3) (lv' := [(2, .int 3), (1, .int (nI i)), (0, .ref (o + 285))]) hx hb dX6_finish_22 hl (k := 0) rfl (by decide) (by decide) rfl (fun ls hl => ?_)
  refine lv_goto (tgt := 10) hx hb dX6_finish_25 (by decide) ?_
  refine lv_iload_n hx hb dX6_finish_10 rfl (lv_at hl 0 rfl) ?_
  refine lv_iconst (v := 4) hx hb dX6_finish_11 (by decide) ?_
  refine lv_icmp_ge (tgt := 28) hx hb dX6_finish_12 (by decide) (fun q => absurd q (by decide)) (fun _ => ?_)
  refine lv_aload_n hx hb dX6_finish_15 rfl (lv_at hl 2 rfl) ?_
  refine x_get (k := 285) hE hK hI (by decide) inG6 (e_285 G o _ _) rfl 6 (by decide) mw_486 rfl dX6_finish_16 ?_
  refine lv_iload_n hx hb dX6_finish_19 rfl (lv_at hl 0 rfl) ?_
  refine lv_iconst (v := 0) hx hb dX6_finish_20 (by decide) ?_
  refine x_iast (k := 291) (j := 3) hE hK hI (by decide) (e_291 G o) (by decide) (by decide) rfl dX6_finish_21 (fun H locs hI => ?_)
  refine lv_iinc (v := 4) (lv' := [(2, .int 4), (1, .int (nI i)), (0, .ref (o + 285))]) hx hb dX6_finish_22 hl (k := 0) rfl (by decide) (by decide) rfl (fun ls hl => ?_)
  refine lv_goto (tgt := 10) hx hb dX6_finish_25 (by decide) ?_
  refine lv_iload_n hx hb dX6_finish_10 rfl (lv_at hl 0 rfl) ?_
  refine lv_iconst (v := 4) hx hb dX6_finish_11 (by decide) ?_
  refine lv_icmp_ge (tgt := 28) hx hb dX6_finish_12 (by decide) (fun _ => ?_) (fun q => absurd (by decide) q)
  refine lv_iconst (v := 0) hx hb dX6_finish_28 (by decide) ?_
  refine lv_istore_n (lv' := [(2, .int 0), (1, .int (nI i)), (0, .ref (o + 285))]) hx hb dX6_finish_29 rfl hl (by decide) rfl (fun ls hl => ?_)
  refine lv_iload_n hx hb dX6_finish_30 rfl (lv_at hl 0 rfl) ?_
  refine lv_iconst (v := 4) hx hb dX6_finish_31 (by decide) ?_
  refine lv_icmp_ge (tgt := 133) hx hb dX6_finish_32 (by decide) (fun q => absurd q (by decide)) (fun _ => ?_)
  refine lv_aload_n hx hb dX6_finish_35 rfl (lv_at hl 2 rfl) ?_
  refine lv_iload_n hx hb dX6_finish_36 rfl (lv_at hl 1 rfl) ?_
  refine lv_iload_n hx hb dX6_finish_37 rfl (lv_at hl 0 rfl) ?_
  refine x_callVi (k := 285) hE hK hI (c_X6_of l G o _ _ i 0 h_i (by decide)) mf_X6_of mw_620 (by decide) ((e_285 G o) _ _) rfl rfl hl.1 rfl (Nat.le_of_ble_eq_true rfl) ⟨(Nat.le_of_ble_eq_true rfl), (Nat.le_of_ble_eq_true rfl)⟩ ⟨Nat.zero_le _, Nat.zero_le _⟩ dX6_finish_38 (fun H locs hI => ?_)
  refine lv_topi (fun z2 ez2 => ?_)
  obtain rfl : X 286 ((41 + (8 * i)) + 0) = z2 := (ez2.trans ((sx_o (by omega)).trans ((sx_o (by omega)).trans ((sx_o (by omega)).trans ((sx_o (by omega))))))).symm
  refine lv_istore_n (lv' := [(3, .int (X 286 ((41 + (8 * i)) + 0))), (2, .int 0), (1, .int (nI i)), (0, .ref (o + 285))]) hx hb dX6_finish_41 rfl hl (by decide) rfl (fun ls hl => ?_)
  refine lv_iload_n hx hb dX6_finish_42 rfl (lv_at hl 0 rfl) ?_
  refine lv_istore (lv' := [(4, .int (X 286 ((41 + (8 * i)) + 0))), (3, .int (X 286 ((41 + (8 * i)) + 0))), (2, .int 0), (1, .int (nI i)), (0, .ref (o + 285))]) hx hb dX6_finish_43 hl (by decide) rfl (fun ls hl => ?_)
  refine lv_iload_n hx hb dX6_finish_45 rfl (lv_at hl 2 rfl) ?_
  refine lv_iconst (v := 1) hx hb dX6_finish_46 (by decide) ?_
  refine lv_iadd hx hb dX6_finish_47 ?_
  refine lv_topi (fun z3 ez3 => ?_)
  obtain rfl : 1 = z3 := (ez3.trans (by decide)).symm
  refine lv_istore (lv' := [(5, .int 1), (4, .int (X 286 ((41 + (8 * i)) + 0))), (3, .int (X 286 ((41 + (8 * i)) + 0))), (2, .int 0), (1, .int (nI i)), (0, .ref (o + 285))]) hx hb dX6_finish_48 hl (by decide) rfl (fun ls hl => ?_)
  refine lv_iload hx hb dX6_finish_50 (lv_at hl 0 rfl) ?_
  refine lv_iconst (v := 4) hx hb dX6_finish_52 (by decide) ?_
  refine lv_icmp_ge (tgt := 95) hx hb dX6_finish_53 (by decide) (fun q => absurd q (by decide)) (fun _ => ?_)
  refine lv_iload_n hx hb dX6_finish_56 rfl (lv_at hl 2 rfl) ?_
  refine lv_aload_n hx hb dX6_finish_57 rfl (lv_at hl 5 rfl) ?_
  refine lv_iload_n hx hb dX6_finish_58 rfl (lv_at hl 3 rfl) ?_
  refine lv_iload hx hb dX6_finish_59 (lv_at hl 0 rfl) ?_
  refine x_callVi (k := 285) hE hK hI (c_X6_shareOf_0_1 l G o _ _  ) mf_X6_shareOf mw_516 (by decide) ((e_285 G o) _ _) rfl rfl hl.1 rfl (Nat.le_of_ble_eq_true rfl) ⟨(Nat.le_of_ble_eq_true rfl), (Nat.le_of_ble_eq_true rfl)⟩ ⟨Nat.zero_le _, Nat.zero_le _⟩ dX6_finish_61 (fun H locs hI => ?_)
  refine lv_topi (fun z4 ez4 => ?_)
  obtain rfl : X 286 1 = z4 := (ez4.trans ((sx_o (by decide)).trans ((sx_o (by decide)).trans ((sx_o (by decide)).trans ((sx_o (by decide))))))).symm
  refine lv_imul hx hb dX6_finish_64 ?_
  refine lv_bipush (v := 10) hx hb dX6_finish_65 (by decide) ?_
  refine lv_idiv hx hb dX6_finish_67 (by decide) ?_
  refine lv_istore (lv' := [(6, .int (((X 286 ((41 + (8 * i)) + 0)) * (X 286 1)) / 10)), (5, .int 1), (4, .int (X 286 ((41 + (8 * i)) + 0))), (3, .int (X 286 ((41 + (8 * i)) + 0))), (2, .int 0), (1, .int (nI i)), (0, .ref (o + 285))]) hx hb dX6_finish_68 hl (by decide) rfl (fun ls hl => ?_)
  refine lv_aload_n hx hb dX6_finish_70 rfl (lv_at hl 6 rfl) ?_
  refine x_get (k := 285) hE hK hI (by decide) inG6 (e_285 G o _ _) rfl 6 (by decide) mw_486 rfl dX6_finish_71 ?_
  refine lv_iload hx hb dX6_finish_74 (lv_at hl 1 rfl) ?_
  refine lv_dup2_11 hx hb dX6_finish_76 rfl rfl ?_
  refine x_iald (k := 291) (j := 1) hE hK hI (by decide) (e_291 G o) (by decide) (by decide) rfl dX6_finish_77 ?_
  refine lv_topi (fun z5 ez5 => ?_)
  obtain rfl : 0 = z5 := (ez5.trans ((sx_o (by decide)).trans ((sx_o (by decide)).trans (sx_e)))).symm
  refine lv_iload hx hb dX6_finish_78 (lv_at hl 0 rfl) ?_
  refine lv_iadd hx hb dX6_finish_80 ?_
  refine x_iast (k := 291) (j := 1) hE hK hI (by decide) (e_291 G o) (by decide) (by decide) rfl dX6_finish_81 (fun H locs hI => ?_)
  refine lv_iload hx hb dX6_finish_82 (lv_at hl 2 rfl) ?_
  refine lv_iload hx hb dX6_finish_84 (lv_at hl 0 rfl) ?_
  refine lv_isub hx hb dX6_finish_86 ?_
  refine lv_istore (lv' := [(4, .int ((X 286 ((41 + (8 * i)) + 0)) - (((X 286 ((41 + (8 * i)) + 0)) * (X 286 1)) / 10))), (6, .int (((X 286 ((41 + (8 * i)) + 0)) * (X 286 1)) / 10)), (5, .int 1), (3, .int (X 286 ((41 + (8 * i)) + 0))), (2, .int 0), (1, .int (nI i)), (0, .ref (o + 285))]) hx hb dX6_finish_87 hl (by decide) rfl (fun ls hl => ?_)
  refine lv_iinc (v := 2) (lv' := [(5, .int 2), (4, .int ((X 286 ((41 + (8 * i)) + 0)) - (((X 286 ((41 + (8 * i)) + 0)) * (X 286 1)) / 10))), (6, .int (((X 286 ((41 + (8 * i)) + 0)) * (X 286 1)) / 10)), (3, .int (X 286 ((41 + (8 * i)) + 0))), (2, .int 0), (1, .int (nI i)), (0, .ref (o + 285))]) hx hb dX6_finish_89 hl (k := 2) rfl (by decide) (by decide) rfl (fun ls hl => ?_)
  refine lv_goto (tgt := 50) hx hb dX6_finish_92 (by decide) ?_
  refine lv_iload hx hb dX6_finish_50 (lv_at hl 0 rfl) ?_
  refine lv_iconst (v := 4) hx hb dX6_finish_52 (by decide) ?_
  refine lv_icmp_ge (tgt := 95) hx hb dX6_finish_53 (by decide) (fun q => absurd q (by decide)) (fun _ => ?_)
  refine lv_iload_n hx hb dX6_finish_56 rfl (lv_at hl 3 rfl) ?_
  refine lv_aload_n hx hb dX6_finish_57 rfl (lv_at hl 6 rfl) ?_
  refine lv_iload_n hx hb dX6_finish_58 rfl (lv_at hl 4 rfl) ?_
  refine lv_iload hx hb dX6_finish_59 (lv_at hl 0 rfl) ?_
  refine x_callVi (k := 285) hE hK hI (c_X6_shareOf_0_2 l G o _ _  ) mf_X6_shareOf mw_516 (by decide) ((e_285 G o) _ _) rfl rfl hl.1 rfl (Nat.le_of_ble_eq_true rfl) ⟨(Nat.le_of_ble_eq_true rfl), (Nat.le_of_ble_eq_true rfl)⟩ ⟨Nat.zero_le _, Nat.zero_le _⟩ dX6_finish_61 (fun H locs hI => ?_)
  refine lv_topi (fun z6 ez6 => ?_)
  obtain rfl : X 286 2 = z6 := (ez6.trans ((sx_o (by decide)).trans ((sx_o (by decide)).trans ((sx_o (by decide)).trans ((sx_o (by decide)).trans ((sx_o (by decide)))))))).symm
  refine lv_imul hx hb dX6_finish_64 ?_
  refine lv_bipush (v := 10) hx hb dX6_finish_65 (by decide) ?_
  refine lv_idiv hx hb dX6_finish_67 (by decide) ?_
  refine lv_istore (lv' := [(6, .int (((X 286 ((41 + (8 * i)) + 0)) * (X 286 2)) / 10)), (5, .int 2), (4, .int ((X 286 ((41 + (8 * i)) + 0)) - (((X 286 ((41 + (8 * i)) + 0)) * (X 286 1)) / 10))), (3, .int (X 286 ((41 + (8 * i)) + 0))), (2, .int 0), (1, .int (nI i)), (0, .ref (o + 285))]) hx hb dX6_finish_68 hl (by decide) rfl (fun ls hl => ?_)
  refine lv_aload_n hx hb dX6_finish_70 rfl (lv_at hl 6 rfl) ?_
  refine x_get (k := 285) hE hK hI (by decide) inG6 (e_285 G o _ _) rfl 6 (by decide) mw_486 rfl dX6_finish_71 ?_
  refine lv_iload hx hb dX6_finish_74 (lv_at hl 1 rfl) ?_
  refine lv_dup2_11 hx hb dX6_finish_76 rfl rfl ?_
  refine x_iald (k := 291) (j := 2) hE hK hI (by decide) (e_291 G o) (by decide) (by decide) rfl dX6_finish_77 ?_
  refine lv_topi (fun z7 ez7 => ?_)
  obtain rfl : 0 = z7 := (ez7.trans ((sx_o (by decide)).trans ((sx_o (by decide)).trans (sx_e)))).symm
  refine lv_iload hx hb dX6_finish_78 (lv_at hl 0 rfl) ?_
  refine lv_iadd hx hb dX6_finish_80 ?_
  refine x_iast (k := 291) (j := 2) hE hK hI (by decide) (e_291 G o) (by decide) (by decide) rfl dX6_finish_81 (fun H locs hI => ?_)
  refine lv_iload hx hb dX6_finish_82 (lv_at hl 2 rfl) ?_
  refine lv_iload hx hb dX6_finish_84 (lv_at hl 0 rfl) ?_
  refine lv_isub hx hb dX6_finish_86 ?_
  refine lv_istore (lv' := [(4, .int (((X 286 ((41 + (8 * i)) + 0)) - (((X 286 ((41 + (8 * i)) + 0)) * (X 286 1)) / 10)) - (((X 286 ((41 + (8 * i)) + 0)) * (X 286 2)) / 10))), (6, .int (((X 286 ((41 + (8 * i)) + 0)) * (X 286 2)) / 10)), (5, .int 2), (3, .int (X 286 ((41 + (8 * i)) + 0))), (2, .int 0), (1, .int (nI i)), (0, .ref (o + 285))]) hx hb dX6_finish_87 hl (by decide) rfl (fun ls hl => ?_)
  refine lv_iinc (v := 3) (lv' := [(5, .int 3), (4, .int (((X 286 ((41 + (8 * i)) + 0)) - (((X 286 ((41 + (8 * i)) + 0)) * (X 286 1)) / 10)) - (((X 286 ((41 + (8 * i)) + 0)) * (X 286 2)) / 10))), (6, .int (((X 286 ((41 + (8 * i)) + 0)) * (X 286 2)) / 10)), (3, .int (X 286 ((41 + (8 * i)) + 0))), (2, .int 0), (1, .int (nI i)), (0, .ref (o + 285))]) hx hb dX6_finish_89 hl (k := 2) rfl (by decide) (by decide) rfl (fun ls hl => ?_)
  refine lv_goto (tgt := 50) hx hb dX6_finish_92 (by decide) ?_
  refine lv_iload hx hb dX6_finish_50 (lv_at hl 0 rfl) ?_
  refine lv_iconst (v := 4) hx hb dX6_finish_52 (by decide) ?_
  refine lv_icmp_ge (tgt := 95) hx hb dX6_finish_53 (by decide) (fun q => absurd q (by decide)) (fun _ => ?_)
  refine lv_iload_n hx hb dX6_finish_56 rfl (lv_at hl 3 rfl) ?_
  refine lv_aload_n hx hb dX6_finish_57 rfl (lv_at hl 6 rfl) ?_
  refine lv_iload_n hx hb dX6_finish_58 rfl (lv_at hl 4 rfl) ?_
  refine lv_iload hx hb dX6_finish_59 (lv_at hl 0 rfl) ?_
  refine x_callVi (k := 285) hE hK hI (c_X6_shareOf_0_3 l G o _ _  ) mf_X6_shareOf mw_516 (by decide) ((e_285 G o) _ _) rfl rfl hl.1 rfl (Nat.le_of_ble_eq_true rfl) ⟨(Nat.le_of_ble_eq_true rfl), (Nat.le_of_ble_eq_true rfl)⟩ ⟨Nat.zero_le _, Nat.zero_le _⟩ dX6_finish_61 (fun H locs hI => ?_)
  refine lv_topi (fun z8 ez8 => ?_)
  obtain rfl : X 286 3 = z8 := (ez8.trans ((sx_o (by decide)).trans ((sx_o (by decide)).trans ((sx_o (by decide)).trans ((sx_o (by decide)).trans ((sx_o (by decide)).trans ((sx_o (by decide))))))))).symm
  refine lv_imul hx hb dX6_finish_64 ?_
  refine lv_bipush (v := 10) hx hb dX6_finish_65 (by decide) ?_
  refine lv_idiv hx hb dX6_finish_67 (by decide) ?_
  refine lv_istore (lv' := [(6, .int (((X 286 ((41 + (8 * i)) + 0)) * (X 286 3)) / 10)), (5, .int 3), (4, .int (((X 286 ((41 + (8 * i)) + 0)) - (((X 286 ((41 + (8 * i)) + 0)) * (X 286 1)) / 10)) - (((X 286 ((41 + (8 * i)) + 0)) * (X 286 2)) / 10))), (3, .int (X 286 ((41 + (8 * i)) + 0))), (2, .int 0), (1, .int (nI i)), (0, .ref (o + 285))]) hx hb dX6_finish_68 hl (by decide) rfl (fun ls hl => ?_)
  refine lv_aload_n hx hb dX6_finish_70 rfl (lv_at hl 6 rfl) ?_
  refine x_get (k := 285) hE hK hI (by decide) inG6 (e_285 G o _ _) rfl 6 (by decide) mw_486 rfl dX6_finish_71 ?_
  refine lv_iload hx hb dX6_finish_74 (lv_at hl 1 rfl) ?_
  refine lv_dup2_11 hx hb dX6_finish_76 rfl rfl ?_
  refine x_iald (k := 291) (j := 3) hE hK hI (by decide) (e_291 G o) (by decide) (by decide) rfl dX6_finish_77 ?_
  refine lv_topi (fun z9 ez9 => ?_)
  obtain rfl : 0 = z9 := (ez9.trans ((sx_o (by decide)).trans ((sx_o (by decide)).trans (sx_e)))).symm
  refine lv_iload hx hb dX6_finish_78 (lv_at hl 0 rfl) ?_
  refine lv_iadd hx hb dX6_finish_80 ?_
  refine x_iast (k := 291) (j := 3) hE hK hI (by decide) (e_291 G o) (by decide) (by decide) rfl dX6_finish_81 (fun H locs hI => ?_)
  refine lv_iload hx hb dX6_finish_82 (lv_at hl 2 rfl) ?_
  refine lv_iload hx hb dX6_finish_84 (lv_at hl 0 rfl) ?_
  refine lv_isub hx hb dX6_finish_86 ?_
  refine lv_istore (lv' := [(4, .int ((((X 286 ((41 + (8 * i)) + 0)) - (((X 286 ((41 + (8 * i)) + 0)) * (X 286 1)) / 10)) - (((X 286 ((41 + (8 * i)) + 0)) * (X 286 2)) / 10)) - (((X 286 ((41 + (8 * i)) + 0)) * (X 286 3)) / 10))), (6, .int (((X 286 ((41 + (8 * i)) + 0)) * (X 286 3)) / 10)), (5, .int 3), (3, .int (X 286 ((41 + (8 * i)) + 0))), (2, .int 0), (1, .int (nI i)), (0, .ref (o + 285))]) hx hb dX6_finish_87 hl (by decide) rfl (fun ls hl => ?_)
  refine lv_iinc (v := 4) (lv' := [(5, .int 4), (4, .int ((((X 286 ((41 + (8 * i)) + 0)) - (((X 286 ((41 + (8 * i)) + 0)) * (X 286 1)) / 10)) - (((X 286 ((41 + (8 * i)) + 0)) * (X 286 2)) / 10)) - (((X 286 ((41 + (8 * i)) + 0)) * (X 286 3)) / 10))), (6, .int (((X 286 ((41 + (8 * i)) + 0)) * (X 286 3)) / 10)), (3, .int (X 286 ((41 + (8 * i)) + 0))), (2, .int 0), (1, .int (nI i)), (0, .ref (o + 285))]) hx hb dX6_finish_89 hl (k := 2) rfl (by decide) (by decide) rfl (fun ls hl => ?_)
  refine lv_goto (tgt := 50) hx hb dX6_finish_92 (by decide) ?_
  refine lv_iload hx hb dX6_finish_50 (lv_at hl 0 rfl) ?_
  refine lv_iconst (v := 4) hx hb dX6_finish_52 (by decide) ?_
  refine lv_icmp_ge (tgt := 95) hx hb dX6_finish_53 (by decide) (fun _ => ?_) (fun q => absurd (by decide) q)
  refine lv_aload_n hx hb dX6_finish_95 rfl (lv_at hl 6 rfl) ?_
  refine x_get (k := 285) hE hK hI (by decide) inG6 (e_285 G o _ _) rfl 6 (by decide) mw_486 rfl dX6_finish_96 ?_
  refine lv_iload_n hx hb dX6_finish_99 rfl (lv_at hl 4 rfl) ?_
  refine lv_dup2_11 hx hb dX6_finish_100 rfl rfl ?_
  refine x_iald (k := 291) (j := 0) hE hK hI (by decide) (e_291 G o) (by decide) (by decide) rfl dX6_finish_101 ?_
  refine lv_topi (fun z10 ez10 => ?_)
  obtain rfl : 0 = z10 := (ez10.trans ((sx_o (by decide)).trans ((sx_o (by decide)).trans ((sx_o (by decide)).trans ((sx_o (by decide)).trans ((sx_o (by decide)).trans ((sx_o (by decide)).trans (sx_e)))))))).symm
  refine lv_iload hx hb dX6_finish_102 (lv_at hl 1 rfl) ?_
  refine lv_iadd hx hb dX6_finish_104 ?_
  refine x_iast (k := 291) (j := 0) hE hK hI (by decide) (e_291 G o) (by decide) (by decide) rfl dX6_finish_105 (fun H locs hI => ?_)
  refine lv_aload_n hx hb dX6_finish_106 rfl (lv_at hl 6 rfl) ?_
  refine x_get (k := 285) hE hK hI (by decide) inG6 (e_285 G o _ _) rfl 0 (by decide) mw_480 rfl dX6_finish_107 ?_
  refine lv_bipush (v := 32) hx hb dX6_finish_110 (by decide) ?_
  refine lv_dup2_11 hx hb dX6_finish_112 rfl rfl ?_
  refine x_iald (k := 286) (j := 32) hE hK hI (by decide) (e_286 G o) (by decide) (by decide) rfl dX6_finish_113 ?_
  refine lv_topi (fun z11 ez11 => ?_)
  obtain rfl : X 286 32 = z11 := (ez11.trans ((sx_o (by decide)).trans ((sx_o (by decide)).trans ((sx_o (by decide)).trans ((sx_o (by decide)).trans ((sx_o (by decide)).trans ((sx_o (by decide)).trans ((sx_o (by decide)).trans ((sx_o (by decide))))))))))).symm
  refine lv_aload_n hx hb dX6_finish_114 rfl (lv_at hl 6 rfl) ?_
  refine x_get (k := 285) hE hK hI (by decide) inG6 (e_285 G o _ _) rfl 0 (by decide) mw_480 rfl dX6_finish_115 ?_
  refine lv_bipush (v := 20) hx hb dX6_finish_118 (by decide) ?_
  refine lv_iload_n hx hb dX6_finish_120 rfl (lv_at hl 4 rfl) ?_
  refine lv_iadd hx hb dX6_finish_121 ?_
  refine lv_topi (fun z12 ez12 => ?_)
  obtain rfl : 20 = z12 := (ez12.trans (by decide)).symm
  refine x_iald (k := 286) (j := 20) hE hK hI (by decide) (e_286 G o) (by decide) (by decide) rfl dX6_finish_122 ?_
  refine lv_topi (fun z13 ez13 => ?_)
  obtain rfl : X 286 20 = z13 := (ez13.trans ((sx_o (by decide)).trans ((sx_o (by decide)).trans ((sx_o (by decide)).trans ((sx_o (by decide)).trans ((sx_o (by decide)).trans ((sx_o (by decide)).trans ((sx_o (by decide)).trans ((sx_o (by decide))))))))))).symm
  refine lv_iload_n hx hb dX6_finish_123 rfl (lv_at hl 3 rfl) ?_
  refine lv_imul hx hb dX6_finish_124 ?_
  refine lv_iadd hx hb dX6_finish_125 ?_
  refine x_iast (k := 286) (j := 32) hE hK hI (by decide) (e_286 G o) (by decide) (by decide) rfl dX6_finish_126 (fun H locs hI => ?_)
  refine lv_iinc (v := 1) (lv' := [(2, .int 1), (5, .int 4), (4, .int ((((X 286 ((41 + (8 * i)) + 0)) - (((X 286 ((41 + (8 * i)) + 0)) * (X 286 1)) / 10)) - (((X 286 ((41 + (8 * i)) + 0)) * (X 286 2)) / 10)) - (((X 286 ((41 + (8 * i)) + 0)) * (X 286 3)) / 10))), (6, .int (((X 286 ((41 + (8 * i)) + 0)) * (X 286 3)) / 10)), (3, .int (X 286 ((41 + (8 * i)) + 0))), (1, .int (nI i)), (0, .ref (o + 285))]) hx hb dX6_finish_127 hl (k := 4) rfl (by decide) (by decide) rfl (fun ls hl => ?_)
  refine lv_goto (tgt := 30) hx hb dX6_finish_130 (by decide) ?_
  refine lv_iload_n hx hb dX6_finish_30 rfl (lv_at hl 0 rfl) ?_
  refine lv_iconst (v := 4) hx hb dX6_finish_31 (by decide) ?_
  refine lv_icmp_ge (tgt := 133) hx hb dX6_finish_32 (by decide) (fun q => absurd q (by decide)) (fun _ => ?_)
  refine lv_aload_n hx hb dX6_finish_35 rfl (lv_at hl 6 rfl) ?_
  refine lv_iload_n hx hb dX6_finish_36 rfl (lv_at hl 5 rfl) ?_
  refine lv_iload_n hx hb dX6_finish_37 rfl (lv_at hl 0 rfl) ?_
  refine x_callVi (k := 285) hE hK hI (c_X6_of l G o _ _ i 1 h_i (by decide)) mf_X6_of mw_620 (by decide) ((e_285 G o) _ _) rfl rfl hl.1 rfl (Nat.le_of_ble_eq_true rfl) ⟨(Nat.le_of_ble_eq_true rfl), (Nat.le_of_ble_eq_true rfl)⟩ ⟨Nat.zero_le _, Nat.zero_le _⟩ dX6_finish_38 (fun H locs hI => ?_)
  refine lv_topi (fun z14 ez14 => ?_)
  obtain rfl : X 286 ((41 + (8 * i)) + 1) = z14 := (ez14.trans ((sx_o (by omega)).trans ((sx_o (by omega)).trans ((sx_o (by omega)).trans ((sx_o (by omega)).trans ((sx_o (by omega)).trans ((sx_o (by omega)).trans ((sx_o (by omega)).trans ((sx_o (by omega)).trans ((sx_o (by omega)))))))))))).symm
  refine lv_istore_n (lv' := [(3, .int (X 286 ((41 + (8 * i)) + 1))), (2, .int 1), (5, .int 4), (4, .int ((((X 286 ((41 + (8 * i)) + 0)) - (((X 286 ((41 + (8 * i)) + 0)) * (X 286 1)) / 10)) - (((X 286 ((41 + (8 * i)) + 0)) * (X 286 2)) / 10)) - (((X 286 ((41 + (8 * i)) + 0)) * (X 286 3)) / 10))), (6, .int (((X 286 ((41 + (8 * i)) + 0)) * (X 286 3)) / 10)), (1, .int (nI i)), (0, .ref (o + 285))]) hx hb dX6_finish_41 rfl hl (by decide) rfl (fun ls hl => ?_)
  refine lv_iload_n hx hb dX6_finish_42 rfl (lv_at hl 0 rfl) ?_
  refine lv_istore (lv' := [(4, .int (X 286 ((41 + (8 * i)) + 1))), (3, .int (X 286 ((41 + (8 * i)) + 1))), (2, .int 1), (5, .int 4), (6, .int (((X 286 ((41 + (8 * i)) + 0)) * (X 286 3)) / 10)), (1, .int (nI i)), (0, .ref (o + 285))]) hx hb dX6_finish_43 hl (by decide) rfl (fun ls hl => ?_)
  refine lv_iload_n hx hb dX6_finish_45 rfl (lv_at hl 2 rfl) ?_
  refine lv_iconst (v := 1) hx hb dX6_finish_46 (by decide) ?_
  refine lv_iadd hx hb dX6_finish_47 ?_
  refine lv_topi (fun z15 ez15 => ?_)
  obtain rfl : 2 = z15 := (ez15.trans (by decide)).symm
  refine lv_istore (lv' := [(5, .int 2), (4, .int (X 286 ((41 + (8 * i)) + 1))), (3, .int (X 286 ((41 + (8 * i)) + 1))), (2, .int 1), (6, .int (((X 286 ((41 + (8 * i)) + 0)) * (X 286 3)) / 10)), (1, .int (nI i)), (0, .ref (o + 285))]) hx hb dX6_finish_48 hl (by decide) rfl (fun ls hl => ?_)
  refine lv_iload hx hb dX6_finish_50 (lv_at hl 0 rfl) ?_
  refine lv_iconst (v := 4) hx hb dX6_finish_52 (by decide) ?_
  refine lv_icmp_ge (tgt := 95) hx hb dX6_finish_53 (by decide) (fun q => absurd q (by decide)) (fun _ => ?_)
  refine lv_iload_n hx hb dX6_finish_56 rfl (lv_at hl 2 rfl) ?_
  refine lv_aload_n hx hb dX6_finish_57 rfl (lv_at hl 6 rfl) ?_
  refine lv_iload_n hx hb dX6_finish_58 rfl (lv_at hl 3 rfl) ?_
  refine lv_iload hx hb dX6_finish_59 (lv_at hl 0 rfl) ?_
  refine x_callVi (k := 285) hE hK hI (c_X6_shareOf_1_2 l G o _ _  ) mf_X6_shareOf mw_516 (by decide) ((e_285 G o) _ _) rfl rfl hl.1 rfl (Nat.le_of_ble_eq_true rfl) ⟨(Nat.le_of_ble_eq_true rfl), (Nat.le_of_ble_eq_true rfl)⟩ ⟨Nat.zero_le _, Nat.zero_le _⟩ dX6_finish_61 (fun H locs hI => ?_)
  refine lv_topi (fun z16 ez16 => ?_)
  obtain rfl : X 286 6 = z16 := (ez16.trans ((sx_o (by decide)).trans ((sx_o (by decide)).trans ((sx_o (by decide)).trans ((sx_o (by decide)).trans ((sx_o (by decide)).trans ((sx_o (by decide)).trans ((sx_o (by decide)).trans ((sx_o (by decide)).trans ((sx_o (by decide)))))))))))).symm
  refine lv_imul hx hb dX6_finish_64 ?_
  refine lv_bipush (v := 10) hx hb dX6_finish_65 (by decide) ?_
  refine lv_idiv hx hb dX6_finish_67 (by decide) ?_
  refine lv_istore (lv' := [(6, .int (((X 286 ((41 + (8 * i)) + 1)) * (X 286 6)) / 10)), (5, .int 2), (4, .int (X 286 ((41 + (8 * i)) + 1))), (3, .int (X 286 ((41 + (8 * i)) + 1))), (2, .int 1), (1, .int (nI i)), (0, .ref (o + 285))]) hx hb dX6_finish_68 hl (by decide) rfl (fun ls hl => ?_)
  refine lv_aload_n hx hb dX6_finish_70 rfl (lv_at hl 6 rfl) ?_
  refine x_get (k := 285) hE hK hI (by decide) inG6 (e_285 G o _ _) rfl 6 (by decide) mw_486 rfl dX6_finish_71 ?_
  refine lv_iload hx hb dX6_finish_74 (lv_at hl 1 rfl) ?_
  refine lv_dup2_11 hx hb dX6_finish_76 rfl rfl ?_
  refine x_iald (k := 291) (j := 2) hE hK hI (by decide) (e_291 G o) (by decide) (by decide) rfl dX6_finish_77 ?_
  refine lv_topi (fun z17 ez17 => ?_)
  obtain rfl : 0 + (((X 286 ((41 + (8 * i)) + 0)) * (X 286 2)) / 10) = z17 := (ez17.trans ((sx_o (by decide)).trans ((sx_o (by decide)).trans ((sx_o (by decide)).trans (sx_e))))).symm
  refine lv_iload hx hb dX6_finish_78 (lv_at hl 0 rfl) ?_
  refine lv_iadd hx hb dX6_finish_80 ?_
  refine x_iast (k := 291) (j := 2) hE hK hI (by decide) (e_291 G o) (by decide) (by decide) rfl dX6_finish_81 (fun H locs hI => ?_)
  refine lv_iload hx hb dX6_finish_82 (lv_at hl 2 rfl) ?_
  refine lv_iload hx hb dX6_finish_84 (lv_at hl 0 rfl) ?_
  refine lv_isub hx hb dX6_finish_86 ?_
  refine lv_istore (lv' := [(4, .int ((X 286 ((41 + (8 * i)) + 1)) - (((X 286 ((41 + (8 * i)) + 1)) * (X 286 6)) / 10))), (6, .int (((X 286 ((41 + (8 * i)) + 1)) * (X 286 6)) / 10)), (5, .int 2), (3, .int (X 286 ((41 + (8 * i)) + 1))), (2, .int 1), (1, .int (nI i)), (0, .ref (o + 285))]) hx hb dX6_finish_87 hl (by decide) rfl (fun ls hl => ?_)
  refine lv_iinc (v := 3) (lv' := [(5, .int 3), (4, .int ((X 286 ((41 + (8 * i)) + 1)) - (((X 286 ((41 + (8 * i)) + 1)) * (X 286 6)) / 10))), (6, .int (((X 286 ((41 + (8 * i)) + 1)) * (X 286 6)) / 10)), (3, .int (X 286 ((41 + (8 * i)) + 1))), (2, .int 1), (1, .int (nI i)), (0, .ref (o + 285))]) hx hb dX6_finish_89 hl (k := 2) rfl (by decide) (by decide) rfl (fun ls hl => ?_)
  refine lv_goto (tgt := 50) hx hb dX6_finish_92 (by decide) ?_
  refine lv_iload hx hb dX6_finish_50 (lv_at hl 0 rfl) ?_
  refine lv_iconst (v := 4) hx hb dX6_finish_52 (by decide) ?_
  refine lv_icmp_ge (tgt := 95) hx hb dX6_finish_53 (by decide) (fun q => absurd q (by decide)) (fun _ => ?_)
  refine lv_iload_n hx hb dX6_finish_56 rfl (lv_at hl 3 rfl) ?_
  refine lv_aload_n hx hb dX6_finish_57 rfl (lv_at hl 6 rfl) ?_
  refine lv_iload_n hx hb dX6_finish_58 rfl (lv_at hl 4 rfl) ?_
  refine lv_iload hx hb dX6_finish_59 (lv_at hl 0 rfl) ?_
  refine x_callVi (k := 285) hE hK hI (c_X6_shareOf_1_3 l G o _ _  ) mf_X6_shareOf mw_516 (by decide) ((e_285 G o) _ _) rfl rfl hl.1 rfl (Nat.le_of_ble_eq_true rfl) ⟨(Nat.le_of_ble_eq_true rfl), (Nat.le_of_ble_eq_true rfl)⟩ ⟨Nat.zero_le _, Nat.zero_le _⟩ dX6_finish_61 (fun H locs hI => ?_)
  refine lv_topi (fun z18 ez18 => ?_)
  obtain rfl : X 286 7 = z18 := (ez18.trans ((sx_o (by decide)).trans ((sx_o (by decide)).trans ((sx_o (by decide)).trans ((sx_o (by decide)).trans ((sx_o (by decide)).trans ((sx_o (by decide)).trans ((sx_o (by decide)).trans ((sx_o (by decide)).trans ((sx_o (by decide)).trans ((sx_o (by decide))))))))))))).symm
  refine lv_imul hx hb dX6_finish_64 ?_
  refine lv_bipush (v := 10) hx hb dX6_finish_65 (by decide) ?_
  refine lv_idiv hx hb dX6_finish_67 (by decide) ?_
  refine lv_istore (lv' := [(6, .int (((X 286 ((41 + (8 * i)) + 1)) * (X 286 7)) / 10)), (5, .int 3), (4, .int ((X 286 ((41 + (8 * i)) + 1)) - (((X 286 ((41 + (8 * i)) + 1)) * (X 286 6)) / 10))), (3, .int (X 286 ((41 + (8 * i)) + 1))), (2, .int 1), (1, .int (nI i)), (0, .ref (o + 285))]) hx hb dX6_finish_68 hl (by decide) rfl (fun ls hl => ?_)
  refine lv_aload_n hx hb dX6_finish_70 rfl (lv_at hl 6 rfl) ?_
  refine x_get (k := 285) hE hK hI (by decide) inG6 (e_285 G o _ _) rfl 6 (by decide) mw_486 rfl dX6_finish_71 ?_
  refine lv_iload hx hb dX6_finish_74 (lv_at hl 1 rfl) ?_
  refine lv_dup2_11 hx hb dX6_finish_76 rfl rfl ?_
  refine x_iald (k := 291) (j := 3) hE hK hI (by decide) (e_291 G o) (by decide) (by decide) rfl dX6_finish_77 ?_
  refine lv_topi (fun z19 ez19 => ?_)
  obtain rfl : 0 + (((X 286 ((41 + (8 * i)) + 0)) * (X 286 3)) / 10) = z19 := (ez19.trans ((sx_o (by decide)).trans ((sx_o (by decide)).trans ((sx_o (by decide)).trans (sx_e))))).symm
  refine lv_iload hx hb dX6_finish_78 (lv_at hl 0 rfl) ?_
  refine lv_iadd hx hb dX6_finish_80 ?_
  refine x_iast (k := 291) (j := 3) hE hK hI (by decide) (e_291 G o) (by decide) (by decide) rfl dX6_finish_81 (fun H locs hI => ?_)
  refine lv_iload hx hb dX6_finish_82 (lv_at hl 2 rfl) ?_
  refine lv_iload hx hb dX6_finish_84 (lv_at hl 0 rfl) ?_
  refine lv_isub hx hb dX6_finish_86 ?_
  refine lv_istore (lv' := [(4, .int (((X 286 ((41 + (8 * i)) + 1)) - (((X 286 ((41 + (8 * i)) + 1)) * (X 286 6)) / 10)) - (((X 286 ((41 + (8 * i)) + 1)) * (X 286 7)) / 10))), (6, .int (((X 286 ((41 + (8 * i)) + 1)) * (X 286 7)) / 10)), (5, .int 3), (3, .int (X 286 ((41 + (8 * i)) + 1))), (2, .int 1), (1, .int (nI i)), (0, .ref (o + 285))]) hx hb dX6_finish_87 hl (by decide) rfl (fun ls hl => ?_)
  refine lv_iinc (v := 4) (lv' := [(5, .int 4), (4, .int (((X 286 ((41 + (8 * i)) + 1)) - (((X 286 ((41 + (8 * i)) + 1)) * (X 286 6)) / 10)) - (((X 286 ((41 + (8 * i)) + 1)) * (X 286 7)) / 10))), (6, .int (((X 286 ((41 + (8 * i)) + 1)) * (X 286 7)) / 10)), (3, .int (X 286 ((41 + (8 * i)) + 1))), (2, .int 1), (1, .int (nI i)), (0, .ref (o + 285))]) hx hb dX6_finish_89 hl (k := 2) rfl (by decide) (by decide) rfl (fun ls hl => ?_)
  refine lv_goto (tgt := 50) hx hb dX6_finish_92 (by decide) ?_
  refine lv_iload hx hb dX6_finish_50 (lv_at hl 0 rfl) ?_
  refine lv_iconst (v := 4) hx hb dX6_finish_52 (by decide) ?_
  refine lv_icmp_ge (tgt := 95) hx hb dX6_finish_53 (by decide) (fun _ => ?_) (fun q => absurd (by decide) q)
  refine lv_aload_n hx hb dX6_finish_95 rfl (lv_at hl 6 rfl) ?_
  refine x_get (k := 285) hE hK hI (by decide) inG6 (e_285 G o _ _) rfl 6 (by decide) mw_486 rfl dX6_finish_96 ?_
  refine lv_iload_n hx hb dX6_finish_99 rfl (lv_at hl 4 rfl) ?_
  refine lv_dup2_11 hx hb dX6_finish_100 rfl rfl ?_
  refine x_iald (k := 291) (j := 1) hE hK hI (by decide) (e_291 G o) (by decide) (by decide) rfl dX6_finish_101 ?_
  refine lv_topi (fun z20 ez20 => ?_)
  obtain rfl : 0 + (((X 286 ((41 + (8 * i)) + 0)) * (X 286 1)) / 10) = z20 := (ez20.trans ((sx_o (by decide)).trans ((sx_o (by decide)).trans ((sx_o (by decide)).trans ((sx_o (by decide)).trans ((sx_o (by decide)).trans ((sx_o (by decide)).trans (sx_e)))))))).symm
  refine lv_iload hx hb dX6_finish_102 (lv_at hl 1 rfl) ?_
  refine lv_iadd hx hb dX6_finish_104 ?_
  refine x_iast (k := 291) (j := 1) hE hK hI (by decide) (e_291 G o) (by decide) (by decide) rfl dX6_finish_105 (fun H locs hI => ?_)
  refine lv_aload_n hx hb dX6_finish_106 rfl (lv_at hl 6 rfl) ?_
  refine x_get (k := 285) hE hK hI (by decide) inG6 (e_285 G o _ _) rfl 0 (by decide) mw_480 rfl dX6_finish_107 ?_
  refine lv_bipush (v := 32) hx hb dX6_finish_110 (by decide) ?_
  refine lv_dup2_11 hx hb dX6_finish_112 rfl rfl ?_
  refine x_iald (k := 286) (j := 32) hE hK hI (by decide) (e_286 G o) (by decide) (by decide) rfl dX6_finish_113 ?_
  refine lv_topi (fun z21 ez21 => ?_)
  obtain rfl : (X 286 32) + ((X 286 20) * (X 286 ((41 + (8 * i)) + 0))) = z21 := (ez21.trans ((sx_o (by decide)).trans ((sx_o (by decide)).trans ((sx_o (by decide)).trans (sx_e))))).symm
  refine lv_aload_n hx hb dX6_finish_114 rfl (lv_at hl 6 rfl) ?_
  refine x_get (k := 285) hE hK hI (by decide) inG6 (e_285 G o _ _) rfl 0 (by decide) mw_480 rfl dX6_finish_115 ?_
  refine lv_bipush (v := 20) hx hb dX6_finish_118 (by decide) ?_
  refine lv_iload_n hx hb dX6_finish_120 rfl (lv_at hl 4 rfl) ?_
  refine lv_iadd hx hb dX6_finish_121 ?_
  refine lv_topi (fun z22 ez22 => ?_)
  obtain rfl : 21 = z22 := (ez22.trans (by decide)).symm
  refine x_iald (k := 286) (j := 21) hE hK hI (by decide) (e_286 G o) (by decide) (by decide) rfl dX6_finish_122 ?_
  refine lv_topi (fun z23 ez23 => ?_)
  obtain rfl : X 286 21 = z23 := (ez23.trans ((sx_o (by decide)).trans ((sx_o (by decide)).trans ((sx_o (by decide)).trans ((sx_o (by decide)).trans ((sx_o (by decide)).trans ((sx_o (by decide)).trans ((sx_o (by decide)).trans ((sx_o (by decide)).trans ((sx_o (by decide)).trans ((sx_o (by decide)).trans ((sx_o (by decide)).trans ((sx_o (by decide))))))))))))))).symm
  refine lv_iload_n hx hb dX6_finish_123 rfl (lv_at hl 3 rfl) ?_
  refine lv_imul hx hb dX6_finish_124 ?_
  refine lv_iadd hx hb dX6_finish_125 ?_
  refine x_iast (k := 286) (j := 32) hE hK hI (by decide) (e_286 G o) (by decide) (by decide) rfl dX6_finish_126 (fun H locs hI => ?_)
  refine lv_iinc (v := 2) (lv' := [(2, .int 2), (5, .int 4), (4, .int (((X 286 ((41 + (8 * i)) + 1)) - (((X 286 ((41 + (8 * i)) + 1)) * (X 286 6)) / 10)) - (((X 286 ((41 + (8 * i)) + 1)) * (X 286 7)) / 10))), (6, .int (((X 286 ((41 + (8 * i)) + 1)) * (X 286 7)) / 10)), (3, .int (X 286 ((41 + (8 * i)) + 1))), (1, .int (nI i)), (0, .ref (o + 285))]) hx hb dX6_finish_127 hl (k := 4) rfl (by decide) (by decide) rfl (fun ls hl => ?_)
  refine lv_goto (tgt := 30) hx hb dX6_finish_130 (by decide) ?_
  refine lv_iload_n hx hb dX6_finish_30 rfl (lv_at hl 0 rfl) ?_
  refine lv_iconst (v := 4) hx hb dX6_finish_31 (by decide) ?_
  refine lv_icmp_ge (tgt := 133) hx hb dX6_finish_32 (by decide) (fun q => absurd q (by decide)) (fun _ => ?_)
  refine lv_aload_n hx hb dX6_finish_35 rfl (lv_at hl 6 rfl) ?_
  refine lv_iload_n hx hb dX6_finish_36 rfl (lv_at hl 5 rfl) ?_
  refine lv_iload_n hx hb dX6_finish_37 rfl (lv_at hl 0 rfl) ?_
  refine x_callVi (k := 285) hE hK hI (c_X6_of l G o _ _ i 2 h_i (by decide)) mf_X6_of mw_620 (by decide) ((e_285 G o) _ _) rfl rfl hl.1 rfl (Nat.le_of_ble_eq_true rfl) ⟨(Nat.le_of_ble_eq_true rfl), (Nat.le_of_ble_eq_true rfl)⟩ ⟨Nat.zero_le _, Nat.zero_le _⟩ dX6_finish_38 (fun H locs hI => ?_)
  refine lv_topi (fun z24 ez24 => ?_)
  obtain rfl : X 286 ((41 + (8 * i)) + 2) = z24 := (ez24.trans ((sx_o (by omega)).trans ((sx_o (by omega)).trans ((sx_o (by omega)).trans ((sx_o (by omega)).trans ((sx_o (by omega)).trans ((sx_o (by omega)).trans ((sx_o (by omega)).trans ((sx_o (by omega)).trans ((sx_o (by omega)).trans ((sx_o (by omega)).trans ((sx_o (by omega)).trans ((sx_o (by omega)).trans ((sx_o (by omega)))))))))))))))).symm
  refine lv_istore_n (lv' := [(3, .int (X 286 ((41 + (8 * i)) + 2))), (2, .int 2), (5, .int 4), (4, .int (((X 286 ((41 + (8 * i)) + 1)) - (((X 286 ((41 + (8 * i)) + 1)) * (X 286 6)) / 10)) - (((X 286 ((41 + (8 * i)) + 1)) * (X 286 7)) / 10))), (6, .int (((X 286 ((41 + (8 * i)) + 1)) * (X 286 7)) / 10)), (1, .int (nI i)), (0, .ref (o + 285))]) hx hb dX6_finish_41 rfl hl (by decide) rfl (fun ls hl => ?_)
  refine lv_iload_n hx hb dX6_finish_42 rfl (lv_at hl 0 rfl) ?_
  refine lv_istore (lv' := [(4, .int (X 286 ((41 + (8 * i)) + 2))), (3, .int (X 286 ((41 + (8 * i)) + 2))), (2, .int 2), (5, .int 4), (6, .int (((X 286 ((41 + (8 * i)) + 1)) * (X 286 7)) / 10)), (1, .int (nI i)), (0, .ref (o + 285))]) hx hb dX6_finish_43 hl (by decide) rfl (fun ls hl => ?_)
  refine lv_iload_n hx hb dX6_finish_45 rfl (lv_at hl 2 rfl) ?_
  refine lv_iconst (v := 1) hx hb dX6_finish_46 (by decide) ?_
  refine lv_iadd hx hb dX6_finish_47 ?_
  refine lv_topi (fun z25 ez25 => ?_)
  obtain rfl : 3 = z25 := (ez25.trans (by decide)).symm
  refine lv_istore (lv' := [(5, .int 3), (4, .int (X 286 ((41 + (8 * i)) + 2))), (3, .int (X 286 ((41 + (8 * i)) + 2))), (2, .int 2), (6, .int (((X 286 ((41 + (8 * i)) + 1)) * (X 286 7)) / 10)), (1, .int (nI i)), (0, .ref (o + 285))]) hx hb dX6_finish_48 hl (by decide) rfl (fun ls hl => ?_)
  refine lv_iload hx hb dX6_finish_50 (lv_at hl 0 rfl) ?_
  refine lv_iconst (v := 4) hx hb dX6_finish_52 (by decide) ?_
  refine lv_icmp_ge (tgt := 95) hx hb dX6_finish_53 (by decide) (fun q => absurd q (by decide)) (fun _ => ?_)
  refine lv_iload_n hx hb dX6_finish_56 rfl (lv_at hl 2 rfl) ?_
  refine lv_aload_n hx hb dX6_finish_57 rfl (lv_at hl 6 rfl) ?_
  refine lv_iload_n hx hb dX6_finish_58 rfl (lv_at hl 3 rfl) ?_
  refine lv_iload hx hb dX6_finish_59 (lv_at hl 0 rfl) ?_
  refine x_callVi (k := 285) hE hK hI (c_X6_shareOf_2_3 l G o _ _  ) mf_X6_shareOf mw_516 (by decide) ((e_285 G o) _ _) rfl rfl hl.1 rfl (Nat.le_of_ble_eq_true rfl) ⟨(Nat.le_of_ble_eq_true rfl), (Nat.le_of_ble_eq_true rfl)⟩ ⟨Nat.zero_le _, Nat.zero_le _⟩ dX6_finish_61 (fun H locs hI => ?_)
  refine lv_topi (fun z26 ez26 => ?_)
  obtain rfl : X 286 11 = z26 := (ez26.trans ((sx_o (by decide)).trans ((sx_o (by decide)).trans ((sx_o (by decide)).trans ((sx_o (by decide)).trans ((sx_o (by decide)).trans ((sx_o (by decide)).trans ((sx_o (by decide)).trans ((sx_o (by decide)).trans ((sx_o (by decide)).trans ((sx_o (by decide)).trans ((sx_o (by decide)).trans ((sx_o (by decide)).trans ((sx_o (by decide)))))))))))))))).symm
  refine lv_imul hx hb dX6_finish_64 ?_
  refine lv_bipush (v := 10) hx hb dX6_finish_65 (by decide) ?_
  refine lv_idiv hx hb dX6_finish_67 (by decide) ?_
  refine lv_istore (lv' := [(6, .int (((X 286 ((41 + (8 * i)) + 2)) * (X 286 11)) / 10)), (5, .int 3), (4, .int (X 286 ((41 + (8 * i)) + 2))), (3, .int (X 286 ((41 + (8 * i)) + 2))), (2, .int 2), (1, .int (nI i)), (0, .ref (o + 285))]) hx hb dX6_finish_68 hl (by decide) rfl (fun ls hl => ?_)
  refine lv_aload_n hx hb dX6_finish_70 rfl (lv_at hl 6 rfl) ?_
  refine x_get (k := 285) hE hK hI (by decide) inG6 (e_285 G o _ _) rfl 6 (by decide) mw_486 rfl dX6_finish_71 ?_
  refine lv_iload hx hb dX6_finish_74 (lv_at hl 1 rfl) ?_
  refine lv_dup2_11 hx hb dX6_finish_76 rfl rfl ?_
  refine x_iald (k := 291) (j := 3) hE hK hI (by decide) (e_291 G o) (by decide) (by decide) rfl dX6_finish_77 ?_
  refine lv_topi (fun z27 ez27 => ?_)
  obtain rfl : (0 + (((X 286 ((41 + (8 * i)) + 0)) * (X 286 3)) / 10)) + (((X 286 ((41 + (8 * i)) + 1)) * (X 286 7)) / 10) = z27 := (ez27.trans ((sx_o (by decide)).trans ((sx_o (by decide)).trans (sx_e)))).symm
  refine lv_iload hx hb dX6_finish_78 (lv_at hl 0 rfl) ?_
  refine lv_iadd hx hb dX6_finish_80 ?_
  refine x_iast (k := 291) (j := 3) hE hK hI (by decide) (e_291 G o) (by decide) (by decide) rfl dX6_finish_81 (fun H locs hI => ?_)
  refine lv_iload hx hb dX6_finish_82 (lv_at hl 2 rfl) ?_
  refine lv_iload hx hb dX6_finish_84 (lv_at hl 0 rfl) ?_
  refine lv_isub hx hb dX6_finish_86 ?_
  refine lv_istore (lv' := [(4, .int ((X 286 ((41 + (8 * i)) + 2)) - (((X 286 ((41 + (8 * i)) + 2)) * (X 286 11)) / 10))), (6, .int (((X 286 ((41 + (8 * i)) + 2)) * (X 286 11)) / 10)), (5, .int 3), (3, .int (X 286 ((41 + (8 * i)) + 2))), (2, .int 2), (1, .int (nI i)), (0, .ref (o + 285))]) hx hb dX6_finish_87 hl (by decide) rfl (fun ls hl => ?_)
  refine lv_iinc (v := 4) (lv' := [(5, .int 4), (4, .int ((X 286 ((41 + (8 * i)) + 2)) - (((X 286 ((41 + (8 * i)) + 2)) * (X 286 11)) / 10))), (6, .int (((X 286 ((41 + (8 * i)) + 2)) * (X 286 11)) / 10)), (3, .int (X 286 ((41 + (8 * i)) + 2))), (2, .int 2), (1, .int (nI i)), (0, .ref (o + 285))]) hx hb dX6_finish_89 hl (k := 2) rfl (by decide) (by decide) rfl (fun ls hl => ?_)
  refine lv_goto (tgt := 50) hx hb dX6_finish_92 (by decide) ?_
  refine lv_iload hx hb dX6_finish_50 (lv_at hl 0 rfl) ?_
  refine lv_iconst (v := 4) hx hb dX6_finish_52 (by decide) ?_
  refine lv_icmp_ge (tgt := 95) hx hb dX6_finish_53 (by decide) (fun _ => ?_) (fun q => absurd (by decide) q)
  refine lv_aload_n hx hb dX6_finish_95 rfl (lv_at hl 6 rfl) ?_
  refine x_get (k := 285) hE hK hI (by decide) inG6 (e_285 G o _ _) rfl 6 (by decide) mw_486 rfl dX6_finish_96 ?_
  refine lv_iload_n hx hb dX6_finish_99 rfl (lv_at hl 4 rfl) ?_
  refine lv_dup2_11 hx hb dX6_finish_100 rfl rfl ?_
  refine x_iald (k := 291) (j := 2) hE hK hI (by decide) (e_291 G o) (by decide) (by decide) rfl dX6_finish_101 ?_
  refine lv_topi (fun z28 ez28 => ?_)
  obtain rfl : (0 + (((X 286 ((41 + (8 * i)) + 0)) * (X 286 2)) / 10)) + (((X 286 ((41 + (8 * i)) + 1)) * (X 286 6)) / 10) = z28 := (ez28.trans ((sx_o (by decide)).trans ((sx_o (by decide)).trans ((sx_o (by decide)).trans ((sx_o (by decide)).trans (sx_e)))))).symm
  refine lv_iload hx hb dX6_finish_102 (lv_at hl 1 rfl) ?_
  refine lv_iadd hx hb dX6_finish_104 ?_
  refine x_iast (k := 291) (j := 2) hE hK hI (by decide) (e_291 G o) (by decide) (by decide) rfl dX6_finish_105 (fun H locs hI => ?_)
  refine lv_aload_n hx hb dX6_finish_106 rfl (lv_at hl 6 rfl) ?_
  refine x_get (k := 285) hE hK hI (by decide) inG6 (e_285 G o _ _) rfl 0 (by decide) mw_480 rfl dX6_finish_107 ?_
  refine lv_bipush (v := 32) hx hb dX6_finish_110 (by decide) ?_
  refine lv_dup2_11 hx hb dX6_finish_112 rfl rfl ?_
  refine x_iald (k := 286) (j := 32) hE hK hI (by decide) (e_286 G o) (by decide) (by decide) rfl dX6_finish_113 ?_
  refine lv_topi (fun z29 ez29 => ?_)
  obtain rfl : ((X 286 32) + ((X 286 20) * (X 286 ((41 + (8 * i)) + 0)))) + ((X 286 21) * (X 286 ((41 + (8 * i)) + 1))) = z29 := (ez29.trans ((sx_o (by decide)).trans ((sx_o (by decide)).trans (sx_e)))).symm
  refine lv_aload_n hx hb dX6_finish_114 rfl (lv_at hl 6 rfl) ?_
  refine x_get (k := 285) hE hK hI (by decide) inG6 (e_285 G o _ _) rfl 0 (by decide) mw_480 rfl dX6_finish_115 ?_
  refine lv_bipush (v := 20) hx hb dX6_finish_118 (by decide) ?_
  refine lv_iload_n hx hb dX6_finish_120 rfl (lv_at hl 4 rfl) ?_
  refine lv_iadd hx hb dX6_finish_121 ?_
  refine lv_topi (fun z30 ez30 => ?_)
  obtain rfl : 22 = z30 := (ez30.trans (by decide)).symm
  refine x_iald (k := 286) (j := 22) hE hK hI (by decide) (e_286 G o) (by decide) (by decide) rfl dX6_finish_122 ?_
  refine lv_topi (fun z31 ez31 => ?_)
  obtain rfl : X 286 22 = z31 := (ez31.trans ((sx_o (by decide)).trans ((sx_o (by decide)).trans ((sx_o (by decide)).trans ((sx_o (by decide)).trans ((sx_o (by decide)).trans ((sx_o (by decide)).trans ((sx_o (by decide)).trans ((sx_o (by decide)).trans ((sx_o (by decide)).trans ((sx_o (by decide)).trans ((sx_o (by decide)).trans ((sx_o (by decide)).trans ((sx_o (by decide)).trans ((sx_o (by decide)).trans ((sx_o (by decide)))))))))))))))))).symm
  refine lv_iload_n hx hb dX6_finish_123 rfl (lv_at hl 3 rfl) ?_
  refine lv_imul hx hb dX6_finish_124 ?_
  refine lv_iadd hx hb dX6_finish_125 ?_
  refine x_iast (k := 286) (j := 32) hE hK hI (by decide) (e_286 G o) (by decide) (by decide) rfl dX6_finish_126 (fun H locs hI => ?_)
  refine lv_iinc (v := 3) (lv' := [(2, .int 3), (5, .int 4), (4, .int ((X 286 ((41 + (8 * i)) + 2)) - (((X 286 ((41 + (8 * i)) + 2)) * (X 286 11)) / 10))), (6, .int (((X 286 ((41 + (8 * i)) + 2)) * (X 286 11)) / 10)), (3, .int (X 286 ((41 + (8 * i)) + 2))), (1, .int (nI i)), (0, .ref (o + 285))]) hx hb dX6_finish_127 hl (k := 4) rfl (by decide) (by decide) rfl (fun ls hl => ?_)
  refine lv_goto (tgt := 30) hx hb dX6_finish_130 (by decide) ?_
  refine lv_iload_n hx hb dX6_finish_30 rfl (lv_at hl 0 rfl) ?_
  refine lv_iconst (v := 4) hx hb dX6_finish_31 (by decide) ?_
  refine lv_icmp_ge (tgt := 133) hx hb dX6_finish_32 (by decide) (fun q => absurd q (by decide)) (fun _ => ?_)
  refine lv_aload_n hx hb dX6_finish_35 rfl (lv_at hl 6 rfl) ?_
  refine lv_iload_n hx hb dX6_finish_36 rfl (lv_at hl 5 rfl) ?_
  refine lv_iload_n hx hb dX6_finish_37 rfl (lv_at hl 0 rfl) ?_
  refine x_callVi (k := 285) hE hK hI (c_X6_of l G o _ _ i 3 h_i (by decide)) mf_X6_of mw_620 (by decide) ((e_285 G o) _ _) rfl rfl hl.1 rfl (Nat.le_of_ble_eq_true rfl) ⟨(Nat.le_of_ble_eq_true rfl), (Nat.le_of_ble_eq_true rfl)⟩ ⟨Nat.zero_le _, Nat.zero_le _⟩ dX6_finish_38 (fun H locs hI => ?_)
  refine lv_topi (fun z32 ez32 => ?_)
  obtain rfl : X 286 ((41 + (8 * i)) + 3) = z32 := (ez32.trans ((sx_o (by omega)).trans ((sx_o (by omega)).trans ((sx_o (by omega)).trans ((sx_o (by omega)).trans ((sx_o (by omega)).trans ((sx_o (by omega)).trans ((sx_o (by omega)).trans ((sx_o (by omega)).trans ((sx_o (by omega)).trans ((sx_o (by omega)).trans ((sx_o (by omega)).trans ((sx_o (by omega)).trans ((sx_o (by omega)).trans ((sx_o (by omega)).trans ((sx_o (by omega)).trans ((sx_o (by omega))))))))))))))))))).symm
  refine lv_istore_n (lv' := [(3, .int (X 286 ((41 + (8 * i)) + 3))), (2, .int 3), (5, .int 4), (4, .int ((X 286 ((41 + (8 * i)) + 2)) - (((X 286 ((41 + (8 * i)) + 2)) * (X 286 11)) / 10))), (6, .int (((X 286 ((41 + (8 * i)) + 2)) * (X 286 11)) / 10)), (1, .int (nI i)), (0, .ref (o + 285))]) hx hb dX6_finish_41 rfl hl (by decide) rfl (fun ls hl => ?_)
  refine lv_iload_n hx hb dX6_finish_42 rfl (lv_at hl 0 rfl) ?_
  refine lv_istore (lv' := [(4, .int (X 286 ((41 + (8 * i)) + 3))), (3, .int (X 286 ((41 + (8 * i)) + 3))), (2, .int 3), (5, .int 4), (6, .int (((X 286 ((41 + (8 * i)) + 2)) * (X 286 11)) / 10)), (1, .int (nI i)), (0, .ref (o + 285))]) hx hb dX6_finish_43 hl (by decide) rfl (fun ls hl => ?_)
  refine lv_iload_n hx hb dX6_finish_45 rfl (lv_at hl 2 rfl) ?_
  refine lv_iconst (v := 1) hx hb dX6_finish_46 (by decide) ?_
  refine lv_iadd hx hb dX6_finish_47 ?_
  refine lv_topi (fun z33 ez33 => ?_)
  obtain rfl : 4 = z33 := (ez33.trans (by decide)).symm
  refine lv_istore (lv' := [(5, .int 4), (4, .int (X 286 ((41 + (8 * i)) + 3))), (3, .int (X 286 ((41 + (8 * i)) + 3))), (2, .int 3), (6, .int (((X 286 ((41 + (8 * i)) + 2)) * (X 286 11)) / 10)), (1, .int (nI i)), (0, .ref (o + 285))]) hx hb dX6_finish_48 hl (by decide) rfl (fun ls hl => ?_)
  refine lv_iload hx hb dX6_finish_50 (lv_at hl 0 rfl) ?_
  refine lv_iconst (v := 4) hx hb dX6_finish_52 (by decide) ?_
  refine lv_icmp_ge (tgt := 95) hx hb dX6_finish_53 (by decide) (fun _ => ?_) (fun q => absurd (by decide) q)
  refine lv_aload_n hx hb dX6_finish_95 rfl (lv_at hl 6 rfl) ?_
  refine x_get (k := 285) hE hK hI (by decide) inG6 (e_285 G o _ _) rfl 6 (by decide) mw_486 rfl dX6_finish_96 ?_
  refine lv_iload_n hx hb dX6_finish_99 rfl (lv_at hl 3 rfl) ?_
  refine lv_dup2_11 hx hb dX6_finish_100 rfl rfl ?_
  refine x_iald (k := 291) (j := 3) hE hK hI (by decide) (e_291 G o) (by decide) (by decide) rfl dX6_finish_101 ?_
  refine lv_topi (fun z34 ez34 => ?_)
  obtain rfl : ((0 + (((X 286 ((41 + (8 * i)) + 0)) * (X 286 3)) / 10)) + (((X 286 ((41 + (8 * i)) + 1)) * (X 286 7)) / 10)) + (((X 286 ((41 + (8 * i)) + 2)) * (X 286 11)) / 10) = z34 := (ez34.trans ((sx_o (by decide)).trans ((sx_o (by decide)).trans (sx_e)))).symm
  refine lv_iload hx hb dX6_finish_102 (lv_at hl 1 rfl) ?_
  refine lv_iadd hx hb dX6_finish_104 ?_
  refine x_iast (k := 291) (j := 3) hE hK hI (by decide) (e_291 G o) (by decide) (by decide) rfl dX6_finish_105 (fun H locs hI => ?_)
  refine lv_aload_n hx hb dX6_finish_106 rfl (lv_at hl 6 rfl) ?_
  refine x_get (k := 285) hE hK hI (by decide) inG6 (e_285 G o _ _) rfl 0 (by decide) mw_480 rfl dX6_finish_107 ?_
  refine lv_bipush (v := 32) hx hb dX6_finish_110 (by decide) ?_
  refine lv_dup2_11 hx hb dX6_finish_112 rfl rfl ?_
  refine x_iald (k := 286) (j := 32) hE hK hI (by decide) (e_286 G o) (by decide) (by decide) rfl dX6_finish_113 ?_
  refine lv_topi (fun z35 ez35 => ?_)
  obtain rfl : (((X 286 32) + ((X 286 20) * (X 286 ((41 + (8 * i)) + 0)))) + ((X 286 21) * (X 286 ((41 + (8 * i)) + 1)))) + ((X 286 22) * (X 286 ((41 + (8 * i)) + 2))) = z35 := (ez35.trans ((sx_o (by decide)).trans (sx_e))).symm
  refine lv_aload_n hx hb dX6_finish_114 rfl (lv_at hl 6 rfl) ?_
  refine x_get (k := 285) hE hK hI (by decide) inG6 (e_285 G o _ _) rfl 0 (by decide) mw_480 rfl dX6_finish_115 ?_
  refine lv_bipush (v := 20) hx hb dX6_finish_118 (by decide) ?_
  refine lv_iload_n hx hb dX6_finish_120 rfl (lv_at hl 3 rfl) ?_
  refine lv_iadd hx hb dX6_finish_121 ?_
  refine lv_topi (fun z36 ez36 => ?_)
  obtain rfl : 23 = z36 := (ez36.trans (by decide)).symm
  refine x_iald (k := 286) (j := 23) hE hK hI (by decide) (e_286 G o) (by decide) (by decide) rfl dX6_finish_122 ?_
  refine lv_topi (fun z37 ez37 => ?_)
  obtain rfl : X 286 23 = z37 := (ez37.trans ((sx_o (by decide)).trans ((sx_o (by decide)).trans ((sx_o (by decide)).trans ((sx_o (by decide)).trans ((sx_o (by decide)).trans ((sx_o (by decide)).trans ((sx_o (by decide)).trans ((sx_o (by decide)).trans ((sx_o (by decide)).trans ((sx_o (by decide)).trans ((sx_o (by decide)).trans ((sx_o (by decide)).trans ((sx_o (by decide)).trans ((sx_o (by decide)).trans ((sx_o (by decide)).trans ((sx_o (by decide)).trans ((sx_o (by decide)))))))))))))))))))).symm
  refine lv_iload_n hx hb dX6_finish_123 rfl (lv_at hl 2 rfl) ?_
  refine lv_imul hx hb dX6_finish_124 ?_
  refine lv_iadd hx hb dX6_finish_125 ?_
  refine x_iast (k := 286) (j := 32) hE hK hI (by decide) (e_286 G o) (by decide) (by decide) rfl dX6_finish_126 (fun H locs hI => ?_)
  refine lv_iinc (v := 4) (lv' := [(2, .int 4), (5, .int 4), (4, .int (X 286 ((41 + (8 * i)) + 3))), (3, .int (X 286 ((41 + (8 * i)) + 3))), (6, .int (((X 286 ((41 + (8 * i)) + 2)) * (X 286 11)) / 10)), (1, .int (nI i)), (0, .ref (o + 285))]) hx hb dX6_finish_127 hl (k := 3) rfl (by decide) (by decide) rfl (fun ls hl => ?_)
  refine lv_goto (tgt := 30) hx hb dX6_finish_130 (by decide) ?_
  refine lv_iload_n hx hb dX6_finish_30 rfl (lv_at hl 0 rfl) ?_
  refine lv_iconst (v := 4) hx hb dX6_finish_31 (by decide) ?_
  refine lv_icmp_ge (tgt := 133) hx hb dX6_finish_32 (by decide) (fun _ => ?_) (fun q => absurd (by decide) q)
  refine lv_iconst (v := 0) hx hb dX6_finish_133 (by decide) ?_
  refine lv_istore_n (lv' := [(2, .int 0), (5, .int 4), (4, .int (X 286 ((41 + (8 * i)) + 3))), (3, .int (X 286 ((41 + (8 * i)) + 3))), (6, .int (((X 286 ((41 + (8 * i)) + 2)) * (X 286 11)) / 10)), (1, .int (nI i)), (0, .ref (o + 285))]) hx hb dX6_finish_134 rfl hl (by decide) rfl (fun ls hl => ?_)
  refine lv_iconst (v := 0) hx hb dX6_finish_135 (by decide) ?_
  refine lv_istore_n (lv' := [(3, .int 0), (2, .int 0), (5, .int 4), (4, .int (X 286 ((41 + (8 * i)) + 3))), (6, .int (((X 286 ((41 + (8 * i)) + 2)) * (X 286 11)) / 10)), (1, .int (nI i)), (0, .ref (o + 285))]) hx hb dX6_finish_136 rfl hl (by decide) rfl (fun ls hl => ?_)
  refine lv_iload_n hx hb dX6_finish_137 rfl (lv_at hl 0 rfl) ?_
  refine lv_iconst (v := 4) hx hb dX6_finish_138 (by decide) ?_
  refine lv_icmp_ge (tgt := 207) hx hb dX6_finish_139 (by decide) (fun q => absurd q (by decide)) (fun _ => ?_)
  refine lv_aload_n hx hb dX6_finish_142 rfl (lv_at hl 6 rfl) ?_
  refine x_get (k := 285) hE hK hI (by decide) inG6 (e_285 G o _ _) rfl 6 (by decide) mw_486 rfl dX6_finish_143 ?_
  refine lv_iload_n hx hb dX6_finish_146 rfl (lv_at hl 0 rfl) ?_
  refine x_iald (k := 291) (j := 0) hE hK hI (by decide) (e_291 G o) (by decide) (by decide) rfl dX6_finish_147 ?_
  refine lv_topi (fun z38 ez38 => ?_)
  obtain rfl : 0 + ((((X 286 ((41 + (8 * i)) + 0)) - (((X 286 ((41 + (8 * i)) + 0)) * (X 286 1)) / 10)) - (((X 286 ((41 + (8 * i)) + 0)) * (X 286 2)) / 10)) - (((X 286 ((41 + (8 * i)) + 0)) * (X 286 3)) / 10)) = z38 := (ez38.trans ((sx_o (by decide)).trans ((sx_o (by decide)).trans ((sx_o (by decide)).trans ((sx_o (by decide)).trans ((sx_o (by decide)).trans ((sx_o (by decide)).trans ((sx_o (by decide)).trans ((sx_o (by decide)).trans ((sx_o (by decide)).trans ((sx_o (by decide)).trans (sx_e)))))))))))).symm
  refine lv_aload_n hx hb dX6_finish_148 rfl (lv_at hl 6 rfl) ?_
  refine x_get (k := 285) hE hK hI (by decide) inG6 (e_285 G o _ _) rfl 0 (by decide) mw_480 rfl dX6_finish_149 ?_
  refine lv_bipush (v := 16) hx hb dX6_finish_152 (by decide) ?_
  refine lv_iload_n hx hb dX6_finish_154 rfl (lv_at hl 0 rfl) ?_
  refine lv_iadd hx hb dX6_finish_155 ?_
  refine lv_topi (fun z39 ez39 => ?_)
  obtain rfl : 16 = z39 := (ez39.trans (by decide)).symm
  refine x_iald (k := 286) (j := 16) hE hK hI (by decide) (e_286 G o) (by decide) (by decide) rfl dX6_finish_156 ?_
  refine lv_topi (fun z40 ez40 => ?_)
  obtain rfl : X 286 16 = z40 := (ez40.trans ((sx_o (by decide)).trans ((sx_o (by decide)).trans ((sx_o (by decide)).trans ((sx_o (by decide)).trans ((sx_o (by decide)).trans ((sx_o (by decide)).trans ((sx_o (by decide)).trans ((sx_o (by decide)).trans ((sx_o (by decide)).trans ((sx_o (by decide)).trans ((sx_o (by decide)).trans ((sx_o (by decide)).trans ((sx_o (by decide)).trans ((sx_o (by decide)).trans ((sx_o (by decide)).trans ((sx_o (by decide)).trans ((sx_o (by decide)).trans ((sx_o (by decide))))))))))))))))))))).symm
  refine lv_imul hx hb dX6_finish_157 ?_
  refine lv_bipush (v := 10) hx hb dX6_finish_158 (by decide) ?_
  refine lv_idiv hx hb dX6_finish_160 (by decide) ?_
  refine lv_istore (lv' := [(4, .int (((0 + ((((X 286 ((41 + (8 * i)) + 0)) - (((X 286 ((41 + (8 * i)) + 0)) * (X 286 1)) / 10)) - (((X 286 ((41 + (8 * i)) + 0)) * (X 286 2)) / 10)) - (((X 286 ((41 + (8 * i)) + 0)) * (X 286 3)) / 10))) * (X 286 16)) / 10)), (3, .int 0), (2, .int 0), (5, .int 4), (6, .int (((X 286 ((41 + (8 * i)) + 2)) * (X 286 11)) / 10)), (1, .int (nI i)), (0, .ref (o + 285))]) hx hb dX6_finish_161 hl (by decide) rfl (fun ls hl => ?_)
  refine lv_aload_n hx hb dX6_finish_163 rfl (lv_at hl 6 rfl) ?_
  refine x_get (k := 285) hE hK hI (by decide) inG6 (e_285 G o _ _) rfl 0 (by decide) mw_480 rfl dX6_finish_164 ?_
  refine lv_bipush (v := 37) hx hb dX6_finish_167 (by decide) ?_
  refine lv_iload_n hx hb dX6_finish_169 rfl (lv_at hl 1 rfl) ?_
  refine lv_iadd hx hb dX6_finish_170 ?_
  refine lv_topi (fun z41 ez41 => ?_)
  obtain rfl : 37 = z41 := (ez41.trans (by decide)).symm
  refine lv_dup2_11 hx hb dX6_finish_171 rfl rfl ?_
  refine x_iald (k := 286) (j := 37) hE hK hI (by decide) (e_286 G o) (by decide) (by decide) rfl dX6_finish_172 ?_
  refine lv_topi (fun z42 ez42 => ?_)
  obtain rfl : X 286 37 = z42 := (ez42.trans ((sx_o (by decide)).trans ((sx_o (by decide)).trans ((sx_o (by decide)).trans ((sx_o (by decide)).trans ((sx_o (by decide)).trans ((sx_o (by decide)).trans ((sx_o (by decide)).trans ((sx_o (by decide)).trans ((sx_o (by decide)).trans ((sx_o (by decide)).trans ((sx_o (by decide)).trans ((sx_o (by decide)).trans ((sx_o (by decide)).trans ((sx_o (by decide)).trans ((sx_o (by decide)).trans ((sx_o (by decide)).trans ((sx_o (by decide)).trans ((sx_o (by decide))))))))))))))))))))).symm
  refine lv_aload_n hx hb dX6_finish_173 rfl (lv_at hl 6 rfl) ?_
  refine x_get (k := 285) hE hK hI (by decide) inG6 (e_285 G o _ _) rfl 6 (by decide) mw_486 rfl dX6_finish_174 ?_
  refine lv_iload_n hx hb dX6_finish_177 rfl (lv_at hl 1 rfl) ?_
  refine x_iald (k := 291) (j := 0) hE hK hI (by decide) (e_291 G o) (by decide) (by decide) rfl dX6_finish_178 ?_
  refine lv_topi (fun z43 ez43 => ?_)
  obtain rfl : 0 + ((((X 286 ((41 + (8 * i)) + 0)) - (((X 286 ((41 + (8 * i)) + 0)) * (X 286 1)) / 10)) - (((X 286 ((41 + (8 * i)) + 0)) * (X 286 2)) / 10)) - (((X 286 ((41 + (8 * i)) + 0)) * (X 286 3)) / 10)) = z43 := (ez43.trans ((sx_o (by decide)).trans ((sx_o (by decide)).trans ((sx_o (by decide)).trans ((sx_o (by decide)).trans ((sx_o (by decide)).trans ((sx_o (by decide)).trans ((sx_o (by decide)).trans ((sx_o (by decide)).trans ((sx_o (by decide)).trans ((sx_o (by decide)).trans (sx_e)))))))))))).symm
  refine lv_iload hx hb dX6_finish_179 (lv_at hl 0 rfl) ?_
  refine lv_isub hx hb dX6_finish_181 ?_
  refine lv_iadd hx hb dX6_finish_182 ?_
  refine x_iast (k := 286) (j := 37) hE hK hI (by decide) (e_286 G o) (by decide) (by decide) rfl dX6_finish_183 (fun H locs hI => ?_)
  refine lv_aload_n hx hb dX6_finish_184 rfl (lv_at hl 6 rfl) ?_
  refine x_get (k := 285) hE hK hI (by decide) inG6 (e_285 G o _ _) rfl 0 (by decide) mw_480 rfl dX6_finish_185 ?_
  refine lv_iload_n hx hb dX6_finish_188 rfl (lv_at hl 5 rfl) ?_
  refine lv_iload_n hx hb dX6_finish_189 rfl (lv_at hl 1 rfl) ?_
  refine x_callSi hE hK hI (c_X6_lot l G o _ _ i 0 ) mf_X6_lot mw_605 rfl hl.1 rfl (Nat.le_of_ble_eq_true rfl) ⟨(Nat.le_of_ble_eq_true rfl), (Nat.le_of_ble_eq_true rfl)⟩ ⟨Nat.zero_le _, Nat.zero_le _⟩ dX6_finish_190 (fun H locs hI => ?_)
  refine lv_iload hx hb dX6_finish_193 (lv_at hl 0 rfl) ?_
  refine x_iast (k := 286) (j := ((41 + (8 * i)) + 0)) hE hK hI (by decide) (e_286 G o) (by omega) (by decide) rfl dX6_finish_195 (fun H locs hI => ?_)
  refine lv_iload_n hx hb dX6_finish_196 rfl (lv_at hl 2 rfl) ?_
  refine lv_iload hx hb dX6_finish_197 (lv_at hl 0 rfl) ?_
  refine lv_iadd hx hb dX6_finish_199 ?_
  refine lv_istore_n (lv' := [(2, .int (0 + (((0 + ((((X 286 ((41 + (8 * i)) + 0)) - (((X 286 ((41 + (8 * i)) + 0)) * (X 286 1)) / 10)) - (((X 286 ((41 + (8 * i)) + 0)) * (X 286 2)) / 10)) - (((X 286 ((41 + (8 * i)) + 0)) * (X 286 3)) / 10))) * (X 286 16)) / 10))), (4, .int (((0 + ((((X 286 ((41 + (8 * i)) + 0)) - (((X 286 ((41 + (8 * i)) + 0)) * (X 286 1)) / 10)) - (((X 286 ((41 + (8 * i)) + 0)) * (X 286 2)) / 10)) - (((X 286 ((41 + (8 * i)) + 0)) * (X 286 3)) / 10))) * (X 286 16)) / 10)), (3, .int 0), (5, .int 4), (6, .int (((X 286 ((41 + (8 * i)) + 2)) * (X 286 11)) / 10)), (1, .int (nI i)), (0, .ref (o + 285))]) hx hb dX6_finish_200 rfl hl (by decide) rfl (fun ls hl => ?_)
  refine lv_iinc (v := 1) (lv' := [(3, .int 1), (2, .int (0 + (((0 + ((((X 286 ((41 + (8 * i)) + 0)) - (((X 286 ((41 + (8 * i)) + 0)) * (X 286 1)) / 10)) - (((X 286 ((41 + (8 * i)) + 0)) * (X 286 2)) / 10)) - (((X 286 ((41 + (8 * i)) + 0)) * (X 286 3)) / 10))) * (X 286 16)) / 10))), (4, .int (((0 + ((((X 286 ((41 + (8 * i)) + 0)) - (((X 286 ((41 + (8 * i)) + 0)) * (X 286 1)) / 10)) - (((X 286 ((41 + (8 * i)) + 0)) * (X 286 2)) / 10)) - (((X 286 ((41 + (8 * i)) + 0)) * (X 286 3)) / 10))) * (X 286 16)) / 10)), (5, .int 4), (6, .int (((X 286 ((41 + (8 * i)) + 2)) * (X 286 11)) / 10)), (1, .int (nI i)), (0, .ref (o + 285))]) hx hb dX6_finish_201 hl (k := 2) rfl (by decide) (by decide) rfl (fun ls hl => ?_)
  refine lv_goto (tgt := 137) hx hb dX6_finish_204 (by decide) ?_
  refine lv_iload_n hx hb dX6_finish_137 rfl (lv_at hl 0 rfl) ?_
  refine lv_iconst (v := 4) hx hb dX6_finish_138 (by decide) ?_
  refine lv_icmp_ge (tgt := 207) hx hb dX6_finish_139 (by decide) (fun q => absurd q (by decide)) (fun _ => ?_)
  refine lv_aload_n hx hb dX6_finish_142 rfl (lv_at hl 6 rfl) ?_
  refine x_get (k := 285) hE hK hI (by decide) inG6 (e_285 G o _ _) rfl 6 (by decide) mw_486 rfl dX6_finish_143 ?_
  refine lv_iload_n hx hb dX6_finish_146 rfl (lv_at hl 0 rfl) ?_
  refine x_iald (k := 291) (j := 1) hE hK hI (by decide) (e_291 G o) (by decide) (by decide) rfl dX6_finish_147 ?_
  refine lv_topi (fun z44 ez44 => ?_)
  obtain rfl : (0 + (((X 286 ((41 + (8 * i)) + 0)) * (X 286 1)) / 10)) + (((X 286 ((41 + (8 * i)) + 1)) - (((X 286 ((41 + (8 * i)) + 1)) * (X 286 6)) / 10)) - (((X 286 ((41 + (8 * i)) + 1)) * (X 286 7)) / 10)) = z44 := (ez44.trans ((sx_o (by omega)).trans ((sx_o (by decide)).trans ((sx_o (by decide)).trans ((sx_o (by decide)).trans ((sx_o (by decide)).trans ((sx_o (by decide)).trans ((sx_o (by decide)).trans ((sx_o (by decide)).trans (sx_e)))))))))).symm
  refine lv_aload_n hx hb dX6_finish_148 rfl (lv_at hl 6 rfl) ?_
  refine x_get (k := 285) hE hK hI (by decide) inG6 (e_285 G o _ _) rfl 0 (by decide) mw_480 rfl dX6_finish_149 ?_
  refine lv_bipush (v := 16) hx hb dX6_finish_152 (by decide) ?_
  refine lv_iload_n hx hb dX6_finish_154 rfl (lv_at hl 0 rfl) ?_
  refine lv_iadd hx hb dX6_finish_155 ?_
  refine lv_topi (fun z45 ez45 => ?_)
  obtain rfl : 17 = z45 := (ez45.trans (by decide)).symm
  refine x_iald (k := 286) (j := 17) hE hK hI (by decide) (e_286 G o) (by decide) (by decide) rfl dX6_finish_156 ?_
  refine lv_topi (fun z46 ez46 => ?_)
  obtain rfl : X 286 17 = z46 := (ez46.trans ((sx_o (by omega)).trans ((sx_o (by decide)).trans ((sx_o (by decide)).trans ((sx_o (by decide)).trans ((sx_o (by decide)).trans ((sx_o (by decide)).trans ((sx_o (by decide)).trans ((sx_o (by decide)).trans ((sx_o (by decide)).trans ((sx_o (by decide)).trans ((sx_o (by decide)).trans ((sx_o (by decide)).trans ((sx_o (by decide)).trans ((sx_o (by decide)).trans ((sx_o (by decide)).trans ((sx_o (by decide)).trans ((sx_o (by decide)).trans ((sx_o (by decide)).trans ((sx_o (by decide)).trans ((sx_o (by decide))))))))))))))))))))))).symm
  refine lv_imul hx hb dX6_finish_157 ?_
  refine lv_bipush (v := 10) hx hb dX6_finish_158 (by decide) ?_
  refine lv_idiv hx hb dX6_finish_160 (by decide) ?_
  refine lv_istore (lv' := [(4, .int ((((0 + (((X 286 ((41 + (8 * i)) + 0)) * (X 286 1)) / 10)) + (((X 286 ((41 + (8 * i)) + 1)) - (((X 286 ((41 + (8 * i)) + 1)) * (X 286 6)) / 10)) - (((X 286 ((41 + (8 * i)) + 1)) * (X 286 7)) / 10))) * (X 286 17)) / 10)), (3, .int 1), (2, .int (0 + (((0 + ((((X 286 ((41 + (8 * i)) + 0)) - (((X 286 ((41 + (8 * i)) + 0)) * (X 286 1)) / 10)) - (((X 286 ((41 + (8 * i)) + 0)) * (X 286 2)) / 10)) - (((X 286 ((41 + (8 * i)) + 0)) * (X 286 3)) / 10))) * (X 286 16)) / 10))), (5, .int 4), (6, .int (((X 286 ((41 + (8 * i)) + 2)) * (X 286 11)) / 10)), (1, .int (nI i)), (0, .ref (o + 285))]) hx hb dX6_finish_161 hl (by decide) rfl (fun ls hl => ?_)
  refine lv_aload_n hx hb dX6_finish_163 rfl (lv_at hl 6 rfl) ?_
  refine x_get (k := 285) hE hK hI (by decide) inG6 (e_285 G o _ _) rfl 0 (by decide) mw_480 rfl dX6_finish_164 ?_
  refine lv_bipush (v := 37) hx hb dX6_finish_167 (by decide) ?_
  refine lv_iload_n hx hb dX6_finish_169 rfl (lv_at hl 1 rfl) ?_
  refine lv_iadd hx hb dX6_finish_170 ?_
  refine lv_topi (fun z47 ez47 => ?_)
  obtain rfl : 38 = z47 := (ez47.trans (by decide)).symm
  refine lv_dup2_11 hx hb dX6_finish_171 rfl rfl ?_
  refine x_iald (k := 286) (j := 38) hE hK hI (by decide) (e_286 G o) (by decide) (by decide) rfl dX6_finish_172 ?_
  refine lv_topi (fun z48 ez48 => ?_)
  obtain rfl : X 286 38 = z48 := (ez48.trans ((sx_o (by omega)).trans ((sx_o (by decide)).trans ((sx_o (by decide)).trans ((sx_o (by decide)).trans ((sx_o (by decide)).trans ((sx_o (by decide)).trans ((sx_o (by decide)).trans ((sx_o (by decide)).trans ((sx_o (by decide)).trans ((sx_o (by decide)).trans ((sx_o (by decide)).trans ((sx_o (by decide)).trans ((sx_o (by decide)).trans ((sx_o (by decide)).trans ((sx_o (by decide)).trans ((sx_o (by decide)).trans ((sx_o (by decide)).trans ((sx_o (by decide)).trans ((sx_o (by decide)).trans ((sx_o (by decide))))))))))))))))))))))).symm
  refine lv_aload_n hx hb dX6_finish_173 rfl (lv_at hl 6 rfl) ?_
  refine x_get (k := 285) hE hK hI (by decide) inG6 (e_285 G o _ _) rfl 6 (by decide) mw_486 rfl dX6_finish_174 ?_
  refine lv_iload_n hx hb dX6_finish_177 rfl (lv_at hl 1 rfl) ?_
  refine x_iald (k := 291) (j := 1) hE hK hI (by decide) (e_291 G o) (by decide) (by decide) rfl dX6_finish_178 ?_
  refine lv_topi (fun z49 ez49 => ?_)
  obtain rfl : (0 + (((X 286 ((41 + (8 * i)) + 0)) * (X 286 1)) / 10)) + (((X 286 ((41 + (8 * i)) + 1)) - (((X 286 ((41 + (8 * i)) + 1)) * (X 286 6)) / 10)) - (((X 286 ((41 + (8 * i)) + 1)) * (X 286 7)) / 10)) = z49 := (ez49.trans ((sx_o (by omega)).trans ((sx_o (by decide)).trans ((sx_o (by decide)).trans ((sx_o (by decide)).trans ((sx_o (by decide)).trans ((sx_o (by decide)).trans ((sx_o (by decide)).trans ((sx_o (by decide)).trans (sx_e)))))))))).symm
  refine lv_iload hx hb dX6_finish_179 (lv_at hl 0 rfl) ?_
  refine lv_isub hx hb dX6_finish_181 ?_
  refine lv_iadd hx hb dX6_finish_182 ?_
  refine x_iast (k := 286) (j := 38) hE hK hI (by decide) (e_286 G o) (by decide) (by decide) rfl dX6_finish_183 (fun H locs hI => ?_)
  refine lv_aload_n hx hb dX6_finish_184 rfl (lv_at hl 6 rfl) ?_
  refine x_get (k := 285) hE hK hI (by decide) inG6 (e_285 G o _ _) rfl 0 (by decide) mw_480 rfl dX6_finish_185 ?_
  refine lv_iload_n hx hb dX6_finish_188 rfl (lv_at hl 5 rfl) ?_
  refine lv_iload_n hx hb dX6_finish_189 rfl (lv_at hl 1 rfl) ?_
  refine x_callSi hE hK hI (c_X6_lot l G o _ _ i 1 ) mf_X6_lot mw_605 rfl hl.1 rfl (Nat.le_of_ble_eq_true rfl) ⟨(Nat.le_of_ble_eq_true rfl), (Nat.le_of_ble_eq_true rfl)⟩ ⟨Nat.zero_le _, Nat.zero_le _⟩ dX6_finish_190 (fun H locs hI => ?_)
  refine lv_iload hx hb dX6_finish_193 (lv_at hl 0 rfl) ?_
  refine x_iast (k := 286) (j := ((41 + (8 * i)) + 1)) hE hK hI (by decide) (e_286 G o) (by omega) (by decide) rfl dX6_finish_195 (fun H locs hI => ?_)
  refine lv_iload_n hx hb dX6_finish_196 rfl (lv_at hl 2 rfl) ?_
  refine lv_iload hx hb dX6_finish_197 (lv_at hl 0 rfl) ?_
  refine lv_iadd hx hb dX6_finish_199 ?_
  refine lv_istore_n (lv' := [(2, .int ((0 + (((0 + ((((X 286 ((41 + (8 * i)) + 0)) - (((X 286 ((41 + (8 * i)) + 0)) * (X 286 1)) / 10)) - (((X 286 ((41 + (8 * i)) + 0)) * (X 286 2)) / 10)) - (((X 286 ((41 + (8 * i)) + 0)) * (X 286 3)) / 10))) * (X 286 16)) / 10)) + ((((0 + (((X 286 ((41 + (8 * i)) + 0)) * (X 286 1)) / 10)) + (((X 286 ((41 + (8 * i)) + 1)) - (((X 286 ((41 + (8 * i)) + 1)) * (X 286 6)) / 10)) - (((X 286 ((41 + (8 * i)) + 1)) * (X 286 7)) / 10))) * (X 286 17)) / 10))), (4, .int ((((0 + (((X 286 ((41 + (8 * i)) + 0)) * (X 286 1)) / 10)) + (((X 286 ((41 + (8 * i)) + 1)) - (((X 286 ((41 + (8 * i)) + 1)) * (X 286 6)) / 10)) - (((X 286 ((41 + (8 * i)) + 1)) * (X 286 7)) / 10))) * (X 286 17)) / 10)), (3, .int 1), (5, .int 4), (6, .int (((X 286 ((41 + (8 * i)) + 2)) * (X 286 11)) / 10)), (1, .int (nI i)), (0, .ref (o + 285))]) hx hb dX6_finish_200 rfl hl (by decide) rfl (fun ls hl => ?_)
  refine lv_iinc (v := 2) (lv' := [(3, .int 2), (2, .int ((0 + (((0 + ((((X 286 ((41 + (8 * i)) + 0)) - (((X 286 ((41 + (8 * i)) + 0)) * (X 286 1)) / 10)) - (((X 286 ((41 + (8 * i)) + 0)) * (X 286 2)) / 10)) - (((X 286 ((41 + (8 * i)) + 0)) * (X 286 3)) / 10))) * (X 286 16)) / 10)) + ((((0 + (((X 286 ((41 + (8 * i)) + 0)) * (X 286 1)) / 10)) + (((X 286 ((41 + (8 * i)) + 1)) - (((X 286 ((41 + (8 * i)) + 1)) * (X 286 6)) / 10)) - (((X 286 ((41 + (8 * i)) + 1)) * (X 286 7)) / 10))) * (X 286 17)) / 10))), (4, .int ((((0 + (((X 286 ((41 + (8 * i)) + 0)) * (X 286 1)) / 10)) + (((X 286 ((41 + (8 * i)) + 1)) - (((X 286 ((41 + (8 * i)) + 1)) * (X 286 6)) / 10)) - (((X 286 ((41 + (8 * i)) + 1)) * (X 286 7)) / 10))) * (X 286 17)) / 10)), (5, .int 4), (6, .int (((X 286 ((41 + (8 * i)) + 2)) * (X 286 11)) / 10)), (1, .int (nI i)), (0, .ref (o + 285))]) hx hb dX6_finish_201 hl (k := 2) rfl (by decide) (by decide) rfl (fun ls hl => ?_)
  refine lv_goto (tgt := 137) hx hb dX6_finish_204 (by decide) ?_
  refine lv_iload_n hx hb dX6_finish_137 rfl (lv_at hl 0 rfl) ?_
  refine lv_iconst (v := 4) hx hb dX6_finish_138 (by decide) ?_
  refine lv_icmp_ge (tgt := 207) hx hb dX6_finish_139 (by decide) (fun q => absurd q (by decide)) (fun _ => ?_)
  refine lv_aload_n hx hb dX6_finish_142 rfl (lv_at hl 6 rfl) ?_
  refine x_get (k := 285) hE hK hI (by decide) inG6 (e_285 G o _ _) rfl 6 (by decide) mw_486 rfl dX6_finish_143 ?_
  refine lv_iload_n hx hb dX6_finish_146 rfl (lv_at hl 0 rfl) ?_
  refine x_iald (k := 291) (j := 2) hE hK hI (by decide) (e_291 G o) (by decide) (by decide) rfl dX6_finish_147 ?_
  refine lv_topi (fun z50 ez50 => ?_)
  obtain rfl : ((0 + (((X 286 ((41 + (8 * i)) + 0)) * (X 286 2)) / 10)) + (((X 286 ((41 + (8 * i)) + 1)) * (X 286 6)) / 10)) + ((X 286 ((41 + (8 * i)) + 2)) - (((X 286 ((41 + (8 * i)) + 2)) * (X 286 11)) / 10)) = z50 := (ez50.trans ((sx_o (by omega)).trans ((sx_o (by decide)).trans ((sx_o (by omega)).trans ((sx_o (by decide)).trans ((sx_o (by decide)).trans ((sx_o (by decide)).trans ((sx_o (by decide)).trans (sx_e))))))))).symm
  refine lv_aload_n hx hb dX6_finish_148 rfl (lv_at hl 6 rfl) ?_
  refine x_get (k := 285) hE hK hI (by decide) inG6 (e_285 G o _ _) rfl 0 (by decide) mw_480 rfl dX6_finish_149 ?_
  refine lv_bipush (v := 16) hx hb dX6_finish_152 (by decide) ?_
  refine lv_iload_n hx hb dX6_finish_154 rfl (lv_at hl 0 rfl) ?_
  refine lv_iadd hx hb dX6_finish_155 ?_
  refine lv_topi (fun z51 ez51 => ?_)
  obtain rfl : 18 = z51 := (ez51.trans (by decide)).symm
  refine x_iald (k := 286) (j := 18) hE hK hI (by decide) (e_286 G o) (by decide) (by decide) rfl dX6_finish_156 ?_
  refine lv_topi (fun z52 ez52 => ?_)
  obtain rfl : X 286 18 = z52 := (ez52.trans ((sx_o (by omega)).trans ((sx_o (by decide)).trans ((sx_o (by omega)).trans ((sx_o (by decide)).trans ((sx_o (by decide)).trans ((sx_o (by decide)).trans ((sx_o (by decide)).trans ((sx_o (by decide)).trans ((sx_o (by decide)).trans ((sx_o (by decide)).trans ((sx_o (by decide)).trans ((sx_o (by decide)).trans ((sx_o (by decide)).trans ((sx_o (by decide)).trans ((sx_o (by decide)).trans ((sx_o (by decide)).trans ((sx_o (by decide)).trans ((sx_o (by decide)).trans ((sx_o (by decide)).trans ((sx_o (by decide)).trans ((sx_o (by decide)).trans ((sx_o (by decide))))))))))))))))))))))))).symm
  refine lv_imul hx hb dX6_finish_157 ?_
  refine lv_bipush (v := 10) hx hb dX6_finish_158 (by decide) ?_
  refine lv_idiv hx hb dX6_finish_160 (by decide) ?_
  refine lv_istore (lv' := [(4, .int (((((0 + (((X 286 ((41 + (8 * i)) + 0)) * (X 286 2)) / 10)) + (((X 286 ((41 + (8 * i)) + 1)) * (X 286 6)) / 10)) + ((X 286 ((41 + (8 * i)) + 2)) - (((X 286 ((41 + (8 * i)) + 2)) * (X 286 11)) / 10))) * (X 286 18)) / 10)), (3, .int 2), (2, .int ((0 + (((0 + ((((X 286 ((41 + (8 * i)) + 0)) - (((X 286 ((41 + (8 * i)) + 0)) * (X 286 1)) / 10)) - (((X 286 ((41 + (8 * i)) + 0)) * (X 286 2)) / 10)) - (((X 286 ((41 + (8 * i)) + 0)) * (X 286 3)) / 10))) * (X 286 16)) / 10)) + ((((0 + (((X 286 ((41 + (8 * i)) + 0)) * (X 286 1)) / 10)) + (((X 286 ((41 + (8 * i)) + 1)) - (((X 286 ((41 + (8 * i)) + 1)) * (X 286 6)) / 10)) - (((X 286 ((41 + (8 * i)) + 1)) * (X 286 7)) / 10))) * (X 286 17)) / 10))), (5, .int 4), (6, .int (((X 286 ((41 + (8 * i)) + 2)) * (X 286 11)) / 10)), (1, .int (nI i)), (0, .ref (o + 285))]) hx hb dX6_finish_161 hl (by decide) rfl (fun ls hl => ?_)
  refine lv_aload_n hx hb dX6_finish_163 rfl (lv_at hl 6 rfl) ?_
  refine x_get (k := 285) hE hK hI (by decide) inG6 (e_285 G o _ _) rfl 0 (by decide) mw_480 rfl dX6_finish_164 ?_
  refine lv_bipush (v := 37) hx hb dX6_finish_167 (by decide) ?_
  refine lv_iload_n hx hb dX6_finish_169 rfl (lv_at hl 1 rfl) ?_
  refine lv_iadd hx hb dX6_finish_170 ?_
  refine lv_topi (fun z53 ez53 => ?_)
  obtain rfl : 39 = z53 := (ez53.trans (by decide)).symm
  refine lv_dup2_11 hx hb dX6_finish_171 rfl rfl ?_
  refine x_iald (k := 286) (j := 39) hE hK hI (by decide) (e_286 G o) (by decide) (by decide) rfl dX6_finish_172 ?_
  refine lv_topi (fun z54 ez54 => ?_)
  obtain rfl : X 286 39 = z54 := (ez54.trans ((sx_o (by omega)).trans ((sx_o (by decide)).trans ((sx_o (by omega)).trans ((sx_o (by decide)).trans ((sx_o (by decide)).trans ((sx_o (by decide)).trans ((sx_o (by decide)).trans ((sx_o (by decide)).trans ((sx_o (by decide)).trans ((sx_o (by decide)).trans ((sx_o (by decide)).trans ((sx_o (by decide)).trans ((sx_o (by decide)).trans ((sx_o (by decide)).trans ((sx_o (by decide)).trans ((sx_o (by decide)).trans ((sx_o (by decide)).trans ((sx_o (by decide)).trans ((sx_o (by decide)).trans ((sx_o (by decide)).trans ((sx_o (by decide)).trans ((sx_o (by decide))))))))))))))))))))))))).symm
  refine lv_aload_n hx hb dX6_finish_173 rfl (lv_at hl 6 rfl) ?_
  refine x_get (k := 285) hE hK hI (by decide) inG6 (e_285 G o _ _) rfl 6 (by decide) mw_486 rfl dX6_finish_174 ?_
  refine lv_iload_n hx hb dX6_finish_177 rfl (lv_at hl 1 rfl) ?_
  refine x_iald (k := 291) (j := 2) hE hK hI (by decide) (e_291 G o) (by decide) (by decide) rfl dX6_finish_178 ?_
  refine lv_topi (fun z55 ez55 => ?_)
  obtain rfl : ((0 + (((X 286 ((41 + (8 * i)) + 0)) * (X 286 2)) / 10)) + (((X 286 ((41 + (8 * i)) + 1)) * (X 286 6)) / 10)) + ((X 286 ((41 + (8 * i)) + 2)) - (((X 286 ((41 + (8 * i)) + 2)) * (X 286 11)) / 10)) = z55 := (ez55.trans ((sx_o (by omega)).trans ((sx_o (by decide)).trans ((sx_o (by omega)).trans ((sx_o (by decide)).trans ((sx_o (by decide)).trans ((sx_o (by decide)).trans ((sx_o (by decide)).trans (sx_e))))))))).symm
  refine lv_iload hx hb dX6_finish_179 (lv_at hl 0 rfl) ?_
  refine lv_isub hx hb dX6_finish_181 ?_
  refine lv_iadd hx hb dX6_finish_182 ?_
  refine x_iast (k := 286) (j := 39) hE hK hI (by decide) (e_286 G o) (by decide) (by decide) rfl dX6_finish_183 (fun H locs hI => ?_)
  refine lv_aload_n hx hb dX6_finish_184 rfl (lv_at hl 6 rfl) ?_
  refine x_get (k := 285) hE hK hI (by decide) inG6 (e_285 G o _ _) rfl 0 (by decide) mw_480 rfl dX6_finish_185 ?_
  refine lv_iload_n hx hb dX6_finish_188 rfl (lv_at hl 5 rfl) ?_
  refine lv_iload_n hx hb dX6_finish_189 rfl (lv_at hl 1 rfl) ?_
  refine x_callSi hE hK hI (c_X6_lot l G o _ _ i 2 ) mf_X6_lot mw_605 rfl hl.1 rfl (Nat.le_of_ble_eq_true rfl) ⟨(Nat.le_of_ble_eq_true rfl), (Nat.le_of_ble_eq_true rfl)⟩ ⟨Nat.zero_le _, Nat.zero_le _⟩ dX6_finish_190 (fun H locs hI => ?_)
  refine lv_iload hx hb dX6_finish_193 (lv_at hl 0 rfl) ?_
  refine x_iast (k := 286) (j := ((41 + (8 * i)) + 2)) hE hK hI (by decide) (e_286 G o) (by omega) (by decide) rfl dX6_finish_195 (fun H locs hI => ?_)
  refine lv_iload_n hx hb dX6_finish_196 rfl (lv_at hl 2 rfl) ?_
  refine lv_iload hx hb dX6_finish_197 (lv_at hl 0 rfl) ?_
  refine lv_iadd hx hb dX6_finish_199 ?_
  refine lv_istore_n (lv' := [(2, .int (((0 + (((0 + ((((X 286 ((41 + (8 * i)) + 0)) - (((X 286 ((41 + (8 * i)) + 0)) * (X 286 1)) / 10)) - (((X 286 ((41 + (8 * i)) + 0)) * (X 286 2)) / 10)) - (((X 286 ((41 + (8 * i)) + 0)) * (X 286 3)) / 10))) * (X 286 16)) / 10)) + ((((0 + (((X 286 ((41 + (8 * i)) + 0)) * (X 286 1)) / 10)) + (((X 286 ((41 + (8 * i)) + 1)) - (((X 286 ((41 + (8 * i)) + 1)) * (X 286 6)) / 10)) - (((X 286 ((41 + (8 * i)) + 1)) * (X 286 7)) / 10))) * (X 286 17)) / 10)) + (((((0 + (((X 286 ((41 + (8 * i)) + 0)) * (X 286 2)) / 10)) + (((X 286 ((41 + (8 * i)) + 1)) * (X 286 6)) / 10)) + ((X 286 ((41 + (8 * i)) + 2)) - (((X 286 ((41 + (8 * i)) + 2)) * (X 286 11)) / 10))) * (X 286 18)) / 10))), (4, .int (((((0 + (((X 286 ((41 + (8 * i)) + 0)) * (X 286 2)) / 10)) + (((X 286 ((41 + (8 * i)) + 1)) * (X 286 6)) / 10)) + ((X 286 ((41 + (8 * i)) + 2)) - (((X 286 ((41 + (8 * i)) + 2)) * (X 286 11)) / 10))) * (X 286 18)) / 10)), (3, .int 2), (5, .int 4), (6, .int (((X 286 ((41 + (8 * i)) + 2)) * (X 286 11)) / 10)), (1, .int (nI i)), (0, .ref (o + 285))]) hx hb dX6_finish_200 rfl hl (by decide) rfl (fun ls hl => ?_)
  refine lv_iinc (v := 3) (lv' := [(3, .int 3), (2, .int (((0 + (((0 + ((((X 286 ((41 + (8 * i)) + 0)) - (((X 286 ((41 + (8 * i)) + 0)) * (X 286 1)) / 10)) - (((X 286 ((41 + (8 * i)) + 0)) * (X 286 2)) / 10)) - (((X 286 ((41 + (8 * i)) + 0)) * (X 286 3)) / 10))) * (X 286 16)) / 10)) + ((((0 + (((X 286 ((41 + (8 * i)) + 0)) * (X 286 1)) / 10)) + (((X 286 ((41 + (8 * i)) + 1)) - (((X 286 ((41 + (8 * i)) + 1)) * (X 286 6)) / 10)) - (((X 286 ((41 + (8 * i)) + 1)) * (X 286 7)) / 10))) * (X 286 17)) / 10)) + (((((0 + (((X 286 ((41 + (8 * i)) + 0)) * (X 286 2)) / 10)) + (((X 286 ((41 + (8 * i)) + 1)) * (X 286 6)) / 10)) + ((X 286 ((41 + (8 * i)) + 2)) - (((X 286 ((41 + (8 * i)) + 2)) * (X 286 11)) / 10))) * (X 286 18)) / 10))), (4, .int (((((0 + (((X 286 ((41 + (8 * i)) + 0)) * (X 286 2)) / 10)) + (((X 286 ((41 + (8 * i)) + 1)) * (X 286 6)) / 10)) + ((X 286 ((41 + (8 * i)) + 2)) - (((X 286 ((41 + (8 * i)) + 2)) * (X 286 11)) / 10))) * (X 286 18)) / 10)), (5, .int 4), (6, .int (((X 286 ((41 + (8 * i)) + 2)) * (X 286 11)) / 10)), (1, .int (nI i)), (0, .ref (o + 285))]) hx hb dX6_finish_201 hl (k := 2) rfl (by decide) (by decide) rfl (fun ls hl => ?_)
  refine lv_goto (tgt := 137) hx hb dX6_finish_204 (by decide) ?_
  refine lv_iload_n hx hb dX6_finish_137 rfl (lv_at hl 0 rfl) ?_
  refine lv_iconst (v := 4) hx hb dX6_finish_138 (by decide) ?_
  refine lv_icmp_ge (tgt := 207) hx hb dX6_finish_139 (by decide) (fun q => absurd q (by decide)) (fun _ => ?_)
  refine lv_aload_n hx hb dX6_finish_142 rfl (lv_at hl 6 rfl) ?_
  refine x_get (k := 285) hE hK hI (by decide) inG6 (e_285 G o _ _) rfl 6 (by decide) mw_486 rfl dX6_finish_143 ?_
  refine lv_iload_n hx hb dX6_finish_146 rfl (lv_at hl 0 rfl) ?_
  refine x_iald (k := 291) (j := 3) hE hK hI (by decide) (e_291 G o) (by decide) (by decide) rfl dX6_finish_147 ?_
  refine lv_topi (fun z56 ez56 => ?_)
  obtain rfl : (((0 + (((X 286 ((41 + (8 * i)) + 0)) * (X 286 3)) / 10)) + (((X 286 ((41 + (8 * i)) + 1)) * (X 286 7)) / 10)) + (((X 286 ((41 + (8 * i)) + 2)) * (X 286 11)) / 10)) + (X 286 ((41 + (8 * i)) + 3)) = z56 := (ez56.trans ((sx_o (by omega)).trans ((sx_o (by decide)).trans ((sx_o (by omega)).trans ((sx_o (by decide)).trans ((sx_o (by omega)).trans ((sx_o (by decide)).trans ((sx_o (by decide)).trans (sx_e))))))))).symm
  refine lv_aload_n hx hb dX6_finish_148 rfl (lv_at hl 6 rfl) ?_
  refine x_get (k := 285) hE hK hI (by decide) inG6 (e_285 G o _ _) rfl 0 (by decide) mw_480 rfl dX6_finish_149 ?_
  refine lv_bipush (v := 16) hx hb dX6_finish_152 (by decide) ?_
  refine lv_iload_n hx hb dX6_finish_154 rfl (lv_at hl 0 rfl) ?_
  refine lv_iadd hx hb dX6_finish_155 ?_
  refine lv_topi (fun z57 ez57 => ?_)
  obtain rfl : 19 = z57 := (ez57.trans (by decide)).symm
  refine x_iald (k := 286) (j := 19) hE hK hI (by decide) (e_286 G o) (by decide) (by decide) rfl dX6_finish_156 ?_
  refine lv_topi (fun z58 ez58 => ?_)
  obtain rfl : X 286 19 = z58 := (ez58.trans ((sx_o (by omega)).trans ((sx_o (by decide)).trans ((sx_o (by omega)).trans ((sx_o (by decide)).trans ((sx_o (by omega)).trans ((sx_o (by decide)).trans ((sx_o (by decide)).trans ((sx_o (by decide)).trans ((sx_o (by decide)).trans ((sx_o (by decide)).trans ((sx_o (by decide)).trans ((sx_o (by decide)).trans ((sx_o (by decide)).trans ((sx_o (by decide)).trans ((sx_o (by decide)).trans ((sx_o (by decide)).trans ((sx_o (by decide)).trans ((sx_o (by decide)).trans ((sx_o (by decide)).trans ((sx_o (by decide)).trans ((sx_o (by decide)).trans ((sx_o (by decide)).trans ((sx_o (by decide)).trans ((sx_o (by decide))))))))))))))))))))))))))).symm
  refine lv_imul hx hb dX6_finish_157 ?_
  refine lv_bipush (v := 10) hx hb dX6_finish_158 (by decide) ?_
  refine lv_idiv hx hb dX6_finish_160 (by decide) ?_
  refine lv_istore (lv' := [(4, .int ((((((0 + (((X 286 ((41 + (8 * i)) + 0)) * (X 286 3)) / 10)) + (((X 286 ((41 + (8 * i)) + 1)) * (X 286 7)) / 10)) + (((X 286 ((41 + (8 * i)) + 2)) * (X 286 11)) / 10)) + (X 286 ((41 + (8 * i)) + 3))) * (X 286 19)) / 10)), (3, .int 3), (2, .int (((0 + (((0 + ((((X 286 ((41 + (8 * i)) + 0)) - (((X 286 ((41 + (8 * i)) + 0)) * (X 286 1)) / 10)) - (((X 286 ((41 + (8 * i)) + 0)) * (X 286 2)) / 10)) - (((X 286 ((41 + (8 * i)) + 0)) * (X 286 3)) / 10))) * (X 286 16)) / 10)) + ((((0 + (((X 286 ((41 + (8 * i)) + 0)) * (X 286 1)) / 10)) + (((X 286 ((41 + (8 * i)) + 1)) - (((X 286 ((41 + (8 * i)) + 1)) * (X 286 6)) / 10)) - (((X 286 ((41 + (8 * i)) + 1)) * (X 286 7)) / 10))) * (X 286 17)) / 10)) + (((((0 + (((X 286 ((41 + (8 * i)) + 0)) * (X 286 2)) / 10)) + (((X 286 ((41 + (8 * i)) + 1)) * (X 286 6)) / 10)) + ((X 286 ((41 + (8 * i)) + 2)) - (((X 286 ((41 + (8 * i)) + 2)) * (X 286 11)) / 10))) * (X 286 18)) / 10))), (5, .int 4), (6, .int (((X 286 ((41 + (8 * i)) + 2)) * (X 286 11)) / 10)), (1, .int (nI i)), (0, .ref (o + 285))]) hx hb dX6_finish_161 hl (by decide) rfl (fun ls hl => ?_)
  refine lv_aload_n hx hb dX6_finish_163 rfl (lv_at hl 6 rfl) ?_
  refine x_get (k := 285) hE hK hI (by decide) inG6 (e_285 G o _ _) rfl 0 (by decide) mw_480 rfl dX6_finish_164 ?_
  refine lv_bipush (v := 37) hx hb dX6_finish_167 (by decide) ?_
  refine lv_iload_n hx hb dX6_finish_169 rfl (lv_at hl 1 rfl) ?_
  refine lv_iadd hx hb dX6_finish_170 ?_
  refine lv_topi (fun z59 ez59 => ?_)
  obtain rfl : 40 = z59 := (ez59.trans (by decide)).symm
  refine lv_dup2_11 hx hb dX6_finish_171 rfl rfl ?_
  refine x_iald (k := 286) (j := 40) hE hK hI (by decide) (e_286 G o) (by decide) (by decide) rfl dX6_finish_172 ?_
  refine lv_topi (fun z60 ez60 => ?_)
  obtain rfl : X 286 40 = z60 := (ez60.trans ((sx_o (by omega)).trans ((sx_o (by decide)).trans ((sx_o (by omega)).trans ((sx_o (by decide)).trans ((sx_o (by omega)).trans ((sx_o (by decide)).trans ((sx_o (by decide)).trans ((sx_o (by decide)).trans ((sx_o (by decide)).trans ((sx_o (by decide)).trans ((sx_o (by decide)).trans ((sx_o (by decide)).trans ((sx_o (by decide)).trans ((sx_o (by decide)).trans ((sx_o (by decide)).trans ((sx_o (by decide)).trans ((sx_o (by decide)).trans ((sx_o (by decide)).trans ((sx_o (by decide)).trans ((sx_o (by decide)).trans ((sx_o (by decide)).trans ((sx_o (by decide)).trans ((sx_o (by decide)).trans ((sx_o (by decide))))))))))))))))))))))))))).symm
  refine lv_aload_n hx hb dX6_finish_173 rfl (lv_at hl 6 rfl) ?_
  refine x_get (k := 285) hE hK hI (by decide) inG6 (e_285 G o _ _) rfl 6 (by decide) mw_486 rfl dX6_finish_174 ?_
  refine lv_iload_n hx hb dX6_finish_177 rfl (lv_at hl 1 rfl) ?_
  refine x_iald (k := 291) (j := 3) hE hK hI (by decide) (e_291 G o) (by decide) (by decide) rfl dX6_finish_178 ?_
  refine lv_topi (fun z61 ez61 => ?_)
  obtain rfl : (((0 + (((X 286 ((41 + (8 * i)) + 0)) * (X 286 3)) / 10)) + (((X 286 ((41 + (8 * i)) + 1)) * (X 286 7)) / 10)) + (((X 286 ((41 + (8 * i)) + 2)) * (X 286 11)) / 10)) + (X 286 ((41 + (8 * i)) + 3)) = z61 := (ez61.trans ((sx_o (by omega)).trans ((sx_o (by decide)).trans ((sx_o (by omega)).trans ((sx_o (by decide)).trans ((sx_o (by omega)).trans ((sx_o (by decide)).trans ((sx_o (by decide)).trans (sx_e))))))))).symm
  refine lv_iload hx hb dX6_finish_179 (lv_at hl 0 rfl) ?_
  refine lv_isub hx hb dX6_finish_181 ?_
  refine lv_iadd hx hb dX6_finish_182 ?_
  refine x_iast (k := 286) (j := 40) hE hK hI (by decide) (e_286 G o) (by decide) (by decide) rfl dX6_finish_183 (fun H locs hI => ?_)
  refine lv_aload_n hx hb dX6_finish_184 rfl (lv_at hl 6 rfl) ?_
  refine x_get (k := 285) hE hK hI (by decide) inG6 (e_285 G o _ _) rfl 0 (by decide) mw_480 rfl dX6_finish_185 ?_
  refine lv_iload_n hx hb dX6_finish_188 rfl (lv_at hl 5 rfl) ?_
  refine lv_iload_n hx hb dX6_finish_189 rfl (lv_at hl 1 rfl) ?_
  refine x_callSi hE hK hI (c_X6_lot l G o _ _ i 3 ) mf_X6_lot mw_605 rfl hl.1 rfl (Nat.le_of_ble_eq_true rfl) ⟨(Nat.le_of_ble_eq_true rfl), (Nat.le_of_ble_eq_true rfl)⟩ ⟨Nat.zero_le _, Nat.zero_le _⟩ dX6_finish_190 (fun H locs hI => ?_)
  refine lv_iload hx hb dX6_finish_193 (lv_at hl 0 rfl) ?_
  refine x_iast (k := 286) (j := ((41 + (8 * i)) + 3)) hE hK hI (by decide) (e_286 G o) (by omega) (by decide) rfl dX6_finish_195 (fun H locs hI => ?_)
  refine lv_iload_n hx hb dX6_finish_196 rfl (lv_at hl 2 rfl) ?_
  refine lv_iload hx hb dX6_finish_197 (lv_at hl 0 rfl) ?_
  refine lv_iadd hx hb dX6_finish_199 ?_
  refine lv_istore_n (lv' := [(2, .int ((((0 + (((0 + ((((X 286 ((41 + (8 * i)) + 0)) - (((X 286 ((41 + (8 * i)) + 0)) * (X 286 1)) / 10)) - (((X 286 ((41 + (8 * i)) + 0)) * (X 286 2)) / 10)) - (((X 286 ((41 + (8 * i)) + 0)) * (X 286 3)) / 10))) * (X 286 16)) / 10)) + ((((0 + (((X 286 ((41 + (8 * i)) + 0)) * (X 286 1)) / 10)) + (((X 286 ((41 + (8 * i)) + 1)) - (((X 286 ((41 + (8 * i)) + 1)) * (X 286 6)) / 10)) - (((X 286 ((41 + (8 * i)) + 1)) * (X 286 7)) / 10))) * (X 286 17)) / 10)) + (((((0 + (((X 286 ((41 + (8 * i)) + 0)) * (X 286 2)) / 10)) + (((X 286 ((41 + (8 * i)) + 1)) * (X 286 6)) / 10)) + ((X 286 ((41 + (8 * i)) + 2)) - (((X 286 ((41 + (8 * i)) + 2)) * (X 286 11)) / 10))) * (X 286 18)) / 10)) + ((((((0 + (((X 286 ((41 + (8 * i)) + 0)) * (X 286 3)) / 10)) + (((X 286 ((41 + (8 * i)) + 1)) * (X 286 7)) / 10)) + (((X 286 ((41 + (8 * i)) + 2)) * (X 286 11)) / 10)) + (X 286 ((41 + (8 * i)) + 3))) * (X 286 19)) / 10))), (4, .int ((((((0 + (((X 286 ((41 + (8 * i)) + 0)) * (X 286 3)) / 10)) + (((X 286 ((41 + (8 * i)) + 1)) * (X 286 7)) / 10)) + (((X 286 ((41 + (8 * i)) + 2)) * (X 286 11)) / 10)) + (X 286 ((41 + (8 * i)) + 3))) * (X 286 19)) / 10)), (3, .int 3), (5, .int 4), (6, .int (((X 286 ((41 + (8 * i)) + 2)) * (X 286 11)) / 10)), (1, .int (nI i)), (0, .ref (o + 285))]) hx hb dX6_finish_200 rfl hl (by decide) rfl (fun ls hl => ?_)
  refine lv_iinc (v := 4) (lv' := [(3, .int 4), (2, .int ((((0 + (((0 + ((((X 286 ((41 + (8 * i)) + 0)) - (((X 286 ((41 + (8 * i)) + 0)) * (X 286 1)) / 10)) - (((X 286 ((41 + (8 * i)) + 0)) * (X 286 2)) / 10)) - (((X 286 ((41 + (8 * i)) + 0)) * (X 286 3)) / 10))) * (X 286 16)) / 10)) + ((((0 + (((X 286 ((41 + (8 * i)) + 0)) * (X 286 1)) / 10)) + (((X 286 ((41 + (8 * i)) + 1)) - (((X 286 ((41 + (8 * i)) + 1)) * (X 286 6)) / 10)) - (((X 286 ((41 + (8 * i)) + 1)) * (X 286 7)) / 10))) * (X 286 17)) / 10)) + (((((0 + (((X 286 ((41 + (8 * i)) + 0)) * (X 286 2)) / 10)) + (((X 286 ((41 + (8 * i)) + 1)) * (X 286 6)) / 10)) + ((X 286 ((41 + (8 * i)) + 2)) - (((X 286 ((41 + (8 * i)) + 2)) * (X 286 11)) / 10))) * (X 286 18)) / 10)) + ((((((0 + (((X 286 ((41 + (8 * i)) + 0)) * (X 286 3)) / 10)) + (((X 286 ((41 + (8 * i)) + 1)) * (X 286 7)) / 10)) + (((X 286 ((41 + (8 * i)) + 2)) * (X 286 11)) / 10)) + (X 286 ((41 + (8 * i)) + 3))) * (X 286 19)) / 10))), (4, .int ((((((0 + (((X 286 ((41 + (8 * i)) + 0)) * (X 286 3)) / 10)) + (((X 286 ((41 + (8 * i)) + 1)) * (X 286 7)) / 10)) + (((X 286 ((41 + (8 * i)) + 2)) * (X 286 11)) / 10)) + (X 286 ((41 + (8 * i)) + 3))) * (X 286 19)) / 10)), (5, .int 4), (6, .int (((X 286 ((41 + (8 * i)) + 2)) * (X 286 11)) / 10)), (1, .int (nI i)), (0, .ref (o + 285))]) hx hb dX6_finish_201 hl (k := 2) rfl (by decide) (by decide) rfl (fun ls hl => ?_)
  refine lv_goto (tgt := 137) hx hb dX6_finish_204 (by decide) ?_
  refine lv_iload_n hx hb dX6_finish_137 rfl (lv_at hl 0 rfl) ?_
  refine lv_iconst (v := 4) hx hb dX6_finish_138 (by decide) ?_
  refine lv_icmp_ge (tgt := 207) hx hb dX6_finish_139 (by decide) (fun _ => ?_) (fun q => absurd (by decide) q)
  refine lv_aload_n hx hb dX6_finish_207 rfl (lv_at hl 6 rfl) ?_
  refine x_get (k := 285) hE hK hI (by decide) inG6 (e_285 G o _ _) rfl 0 (by decide) mw_480 rfl dX6_finish_208 ?_
  refine lv_bipush (v := 33) hx hb dX6_finish_211 (by decide) ?_
  refine lv_dup2_11 hx hb dX6_finish_213 rfl rfl ?_
  refine x_iald (k := 286) (j := 33) hE hK hI (by decide) (e_286 G o) (by decide) (by decide) rfl dX6_finish_214 ?_
  refine lv_topi (fun z62 ez62 => ?_)
  obtain rfl : X 286 33 = z62 := (ez62.trans ((sx_o (by omega)).trans ((sx_o (by decide)).trans ((sx_o (by omega)).trans ((sx_o (by decide)).trans ((sx_o (by omega)).trans ((sx_o (by decide)).trans ((sx_o (by omega)).trans ((sx_o (by decide)).trans ((sx_o (by decide)).trans ((sx_o (by decide)).trans ((sx_o (by decide)).trans ((sx_o (by decide)).trans ((sx_o (by decide)).trans ((sx_o (by decide)).trans ((sx_o (by decide)).trans ((sx_o (by decide)).trans ((sx_o (by decide)).trans ((sx_o (by decide)).trans ((sx_o (by decide)).trans ((sx_o (by decide)).trans ((sx_o (by decide)).trans ((sx_o (by decide)).trans ((sx_o (by decide)).trans ((sx_o (by decide)).trans ((sx_o (by decide)).trans ((sx_o (by decide))))))))))))))))))))))))))))).symm
  refine lv_iload_n hx hb dX6_finish_215 rfl (lv_at hl 1 rfl) ?_
  refine lv_iadd hx hb dX6_finish_216 ?_
  refine x_iast (k := 286) (j := 33) hE hK hI (by decide) (e_286 G o) (by decide) (by decide) rfl dX6_finish_217 (fun H locs hI => ?_)
  refine lv_aload_n hx hb dX6_finish_218 rfl (lv_at hl 6 rfl) ?_
  refine x_get (k := 285) hE hK hI (by decide) inG6 (e_285 G o _ _) rfl 0 (by decide) mw_480 rfl dX6_finish_219 ?_
  refine lv_iload_n hx hb dX6_finish_222 rfl (lv_at hl 5 rfl) ?_
  refine lv_bipush (v := 7) hx hb dX6_finish_223 (by decide) ?_
  refine x_callSi hE hK hI (c_X6_lot l G o _ _ i 7 ) mf_X6_lot mw_605 rfl hl.1 rfl (Nat.le_of_ble_eq_true rfl) ⟨(Nat.le_of_ble_eq_true rfl), (Nat.le_of_ble_eq_true rfl)⟩ ⟨Nat.zero_le _, Nat.zero_le _⟩ dX6_finish_225 (fun H locs hI => ?_)
  refine lv_dup2_11 hx hb dX6_finish_228 rfl rfl ?_
  refine x_iald (k := 286) (j := ((41 + (8 * i)) + 7)) hE hK hI (by decide) (e_286 G o) (by omega) (by decide) rfl dX6_finish_229 ?_
  refine lv_topi (fun z63 ez63 => ?_)
  obtain rfl : X 286 ((41 + (8 * i)) + 7) = z63 := (ez63.trans ((sx_o (by omega)).trans ((sx_o (by omega)).trans ((sx_o (by omega)).trans ((sx_o (by omega)).trans ((sx_o (by omega)).trans ((sx_o (by omega)).trans ((sx_o (by omega)).trans ((sx_o (by omega)).trans ((sx_o (by omega)).trans ((sx_o (by omega)).trans ((sx_o (by omega)).trans ((sx_o (by omega)).trans ((sx_o (by omega)).trans ((sx_o (by omega)).trans ((sx_o (by omega)).trans ((sx_o (by omega)).trans ((sx_o (by omega)).trans ((sx_o (by omega)).trans ((sx_o (by omega)).trans ((sx_o (by omega)).trans ((sx_o (by omega)).trans ((sx_o (by omega)).trans ((sx_o (by omega)).trans ((sx_o (by omega)).trans ((sx_o (by omega)).trans ((sx_o (by omega)).trans ((sx_o (by omega)))))))))))))))))))))))))))))).symm
  refine lv_iconst (v := 1) hx hb dX6_finish_230 (by decide) ?_
  refine lv_iadd hx hb dX6_finish_231 ?_
  refine x_iast (k := 286) (j := ((41 + (8 * i)) + 7)) hE hK hI (by decide) (e_286 G o) (by omega) (by decide) rfl dX6_finish_232 (fun H locs hI => ?_)
  refine lv_aload_n hx hb dX6_finish_233 rfl (lv_at hl 6 rfl) ?_
  refine x_get (k := 285) hE hK hI (by decide) inG6 (e_285 G o _ _) rfl 0 (by decide) mw_480 rfl dX6_finish_234 ?_
  refine lv_bipush (v := 35) hx hb dX6_finish_237 (by decide) ?_
  refine lv_bipush (v := (-7)) hx hb dX6_finish_239 (by decide) ?_
  refine x_iast (k := 286) (j := 35) hE hK hI (by decide) (e_286 G o) (by decide) (by decide) rfl dX6_finish_241 (fun H locs hI => ?_)
  refine lv_iload_n hx hb dX6_finish_242 rfl (lv_at hl 1 rfl) ?_
  refine lv_if_ne (tgt := 260) hx hb dX6_finish_243 (by decide) (fun c64 => ?_) (fun c64 => ?_)
  · refine lv_aload_n hx hb dX6_finish_260 rfl (lv_at hl 6 rfl) ?_
    refine lv_iload_n hx hb dX6_finish_261 rfl (lv_at hl 5 rfl) ?_
    refine x_callVv (k := 285) hE hK hI (c_X6_comes l G o _ _ i h_i) mf_X6_comes mw_608 (by decide) ((e_285 G o) _ _) rfl rfl hl.1 rfl (Nat.le_of_ble_eq_true rfl) ⟨(Nat.le_of_ble_eq_true rfl), (Nat.le_of_ble_eq_true rfl)⟩ ⟨Nat.zero_le _, Nat.zero_le _⟩ dX6_finish_262 (fun H locs hI => ?_)
    exact x_vret hE hr hlocks hI rfl ((if_neg c64).symm) rfl dX6_finish_265
  · refine lv_aload_n hx hb dX6_finish_246 rfl (lv_at hl 6 rfl) ?_
    refine x_get (k := 285) hE hK hI (by decide) inG6 (e_285 G o _ _) rfl 0 (by decide) mw_480 rfl dX6_finish_247 ?_
    refine lv_iload_n hx hb dX6_finish_250 rfl (lv_at hl 5 rfl) ?_
    refine lv_iconst (v := 4) hx hb dX6_finish_251 (by decide) ?_
    refine x_callSi hE hK hI (c_X6_lot l G o _ _ i 4 ) mf_X6_lot mw_605 rfl hl.1 rfl (Nat.le_of_ble_eq_true rfl) ⟨(Nat.le_of_ble_eq_true rfl), (Nat.le_of_ble_eq_true rfl)⟩ ⟨Nat.zero_le _, Nat.zero_le _⟩ dX6_finish_252 (fun H locs hI => ?_)
    refine lv_iconst (v := 3) hx hb dX6_finish_255 (by decide) ?_
    refine x_iast (k := 286) (j := ((41 + (8 * i)) + 4)) hE hK hI (by decide) (e_286 G o) (by omega) (by decide) rfl dX6_finish_256 (fun H locs hI => ?_)
    refine lv_goto (tgt := 265) hx hb dX6_finish_257 (by decide) ?_
    exact x_vret hE hr hlocks hI rfl ((if_pos c64).symm) rfl dX6_finish_265
