/-! ===== 10: the class's public methods ===== -/
set_option maxRecDepth 100000 in
set_option maxHeartbeats 4000000 in
theorem c_X2_putShare_0_0 (l : Launch) (G : GG) (o : Nat) (X : SX) (Y : SY) (v : Int32) : Ct l yX2_putShare cX2_putShare 4 none 2 42 G o [.ref (o + 2), .int 0, .int 0, .int v] X Y none (sx X 4 0 v) Y := by
  refine Ct.mk (by decide +kernel) (Nat.le_of_ble_eq_true rfl) rfl ?_
  intro p9 e9 s9 m9 args9 below9 meth9 c9 hE hr hlocks hK hI ls hl
  have hx := hE.1
  have hb := hE.2.1
  have hl : lv_has ls 4 [(0, .ref (o + 2)), (1, .int 0), (2, .int 0), (3, .int v)] := hl
  refine lv_iload_n hx hb dX2_putShare_0 rfl (lv_at hl 1 rfl) ?_
  refine x_callNi hE hK hI (c_X5_isSize l G o _ _ 0 ) mf_X5_isSize hK.2.1 rfl hl.1 rfl (Nat.le_of_ble_eq_true rfl) ⟨(Nat.le_of_ble_eq_true rfl), (Nat.le_of_ble_eq_true rfl)⟩ ⟨Nat.zero_le _, Nat.zero_le _⟩ dX2_putShare_1 (fun H locs hI => ?_)
  refine lv_topi (fun z1 ez1 => ?_)
  obtain rfl : 1 = z1 := (ez1.trans (bI_t (by decide))).symm
  refine lv_if_eq (tgt := 23) hx hb dX2_putShare_4 (by decide) (fun q => absurd q (by decide)) (fun _ => ?_)
  refine lv_iload_n hx hb dX2_putShare_7 rfl (lv_at hl 2 rfl) ?_
  refine x_callNi hE hK hI (c_X5_isSize l G o _ _ 0 ) mf_X5_isSize hK.2.1 rfl hl.1 rfl (Nat.le_of_ble_eq_true rfl) ⟨(Nat.le_of_ble_eq_true rfl), (Nat.le_of_ble_eq_true rfl)⟩ ⟨Nat.zero_le _, Nat.zero_le _⟩ dX2_putShare_8 (fun H locs hI => ?_)
  refine lv_topi (fun z2 ez2 => ?_)
  obtain rfl : 1 = z2 := (ez2.trans (bI_t (by decide))).symm
  refine lv_if_eq (tgt := 23) hx hb dX2_putShare_11 (by decide) (fun q => absurd q (by decide)) (fun _ => ?_)
  refine lv_aload_n hx hb dX2_putShare_14 rfl (lv_at hl 0 rfl) ?_
  refine x_get (k := 2) hE hK hI (by decide) inG2 (e_2 G o _ _) rfl 0 (by decide) mw_32 rfl dX2_putShare_15 ?_
  refine lv_iload_n hx hb dX2_putShare_18 rfl (lv_at hl 1 rfl) ?_
  refine x_aald (k := 3) (j := 0) (t0 := 5) (q := o + 4) hE hK hI (by decide) (e_3 G o) rfl rfl (by decide) (by decide) rfl rfl dX2_putShare_19 ?_
  refine lv_iload_n hx hb dX2_putShare_20 rfl (lv_at hl 2 rfl) ?_
  refine lv_iload_n hx hb dX2_putShare_21 rfl (lv_at hl 3 rfl) ?_
  refine x_iast (k := 4) (j := 0) hE hK hI (by decide) (e_4 G o) (by decide) (by decide) rfl dX2_putShare_22 (fun H locs hI => ?_)
  exact x_vret hE hr hlocks hI rfl rfl rfl dX2_putShare_23
set_option maxRecDepth 100000 in
set_option maxHeartbeats 4000000 in
theorem c_X2_putShare_0_1 (l : Launch) (G : GG) (o : Nat) (X : SX) (Y : SY) (v : Int32) : Ct l yX2_putShare cX2_putShare 4 none 2 42 G o [.ref (o + 2), .int 0, .int 1, .int v] X Y none (sx X 4 1 v) Y := by
  refine Ct.mk (by decide +kernel) (Nat.le_of_ble_eq_true rfl) rfl ?_
  intro p9 e9 s9 m9 args9 below9 meth9 c9 hE hr hlocks hK hI ls hl
  have hx := hE.1
  have hb := hE.2.1
  have hl : lv_has ls 4 [(0, .ref (o + 2)), (1, .int 0), (2, .int 1), (3, .int v)] := hl
  refine lv_iload_n hx hb dX2_putShare_0 rfl (lv_at hl 1 rfl) ?_
  refine x_callNi hE hK hI (c_X5_isSize l G o _ _ 0 ) mf_X5_isSize hK.2.1 rfl hl.1 rfl (Nat.le_of_ble_eq_true rfl) ⟨(Nat.le_of_ble_eq_true rfl), (Nat.le_of_ble_eq_true rfl)⟩ ⟨Nat.zero_le _, Nat.zero_le _⟩ dX2_putShare_1 (fun H locs hI => ?_)
  refine lv_topi (fun z1 ez1 => ?_)
  obtain rfl : 1 = z1 := (ez1.trans (bI_t (by decide))).symm
  refine lv_if_eq (tgt := 23) hx hb dX2_putShare_4 (by decide) (fun q => absurd q (by decide)) (fun _ => ?_)
  refine lv_iload_n hx hb dX2_putShare_7 rfl (lv_at hl 2 rfl) ?_
  refine x_callNi hE hK hI (c_X5_isSize l G o _ _ 1 ) mf_X5_isSize hK.2.1 rfl hl.1 rfl (Nat.le_of_ble_eq_true rfl) ⟨(Nat.le_of_ble_eq_true rfl), (Nat.le_of_ble_eq_true rfl)⟩ ⟨Nat.zero_le _, Nat.zero_le _⟩ dX2_putShare_8 (fun H locs hI => ?_)
  refine lv_topi (fun z2 ez2 => ?_)
  obtain rfl : 1 = z2 := (ez2.trans (bI_t (by decide))).symm
  refine lv_if_eq (tgt := 23) hx hb dX2_putShare_11 (by decide) (fun q => absurd q (by decide)) (fun _ => ?_)
  refine lv_aload_n hx hb dX2_putShare_14 rfl (lv_at hl 0 rfl) ?_
  refine x_get (k := 2) hE hK hI (by decide) inG2 (e_2 G o _ _) rfl 0 (by decide) mw_32 rfl dX2_putShare_15 ?_
  refine lv_iload_n hx hb dX2_putShare_18 rfl (lv_at hl 1 rfl) ?_
  refine x_aald (k := 3) (j := 0) (t0 := 5) (q := o + 4) hE hK hI (by decide) (e_3 G o) rfl rfl (by decide) (by decide) rfl rfl dX2_putShare_19 ?_
  refine lv_iload_n hx hb dX2_putShare_20 rfl (lv_at hl 2 rfl) ?_
  refine lv_iload_n hx hb dX2_putShare_21 rfl (lv_at hl 3 rfl) ?_
  refine x_iast (k := 4) (j := 1) hE hK hI (by decide) (e_4 G o) (by decide) (by decide) rfl dX2_putShare_22 (fun H locs hI => ?_)
  exact x_vret hE hr hlocks hI rfl rfl rfl dX2_putShare_23
set_option maxRecDepth 100000 in
set_option maxHeartbeats 4000000 in
theorem c_X2_putShare_0_2 (l : Launch) (G : GG) (o : Nat) (X : SX) (Y : SY) (v : Int32) : Ct l yX2_putShare cX2_putShare 4 none 2 42 G o [.ref (o + 2), .int 0, .int 2, .int v] X Y none (sx X 4 2 v) Y := by
  refine Ct.mk (by decide +kernel) (Nat.le_of_ble_eq_true rfl) rfl ?_
  intro p9 e9 s9 m9 args9 below9 meth9 c9 hE hr hlocks hK hI ls hl
  have hx := hE.1
  have hb := hE.2.1
  have hl : lv_has ls 4 [(0, .ref (o + 2)), (1, .int 0), (2, .int 2), (3, .int v)] := hl
  refine lv_iload_n hx hb dX2_putShare_0 rfl (lv_at hl 1 rfl) ?_
  refine x_callNi hE hK hI (c_X5_isSize l G o _ _ 0 ) mf_X5_isSize hK.2.1 rfl hl.1 rfl (Nat.le_of_ble_eq_true rfl) ⟨(Nat.le_of_ble_eq_true rfl), (Nat.le_of_ble_eq_true rfl)⟩ ⟨Nat.zero_le _, Nat.zero_le _⟩ dX2_putShare_1 (fun H locs hI => ?_)
  refine lv_topi (fun z1 ez1 => ?_)
  obtain rfl : 1 = z1 := (ez1.trans (bI_t (by decide))).symm
  refine lv_if_eq (tgt := 23) hx hb dX2_putShare_4 (by decide) (fun q => absurd q (by decide)) (fun _ => ?_)
  refine lv_iload_n hx hb dX2_putShare_7 rfl (lv_at hl 2 rfl) ?_
  refine x_callNi hE hK hI (c_X5_isSize l G o _ _ 2 ) mf_X5_isSize hK.2.1 rfl hl.1 rfl (Nat.le_of_ble_eq_true rfl) ⟨(Nat.le_of_ble_eq_true rfl), (Nat.le_of_ble_eq_true rfl)⟩ ⟨Nat.zero_le _, Nat.zero_le _⟩ dX2_putShare_8 (fun H locs hI => ?_)
  refine lv_topi (fun z2 ez2 => ?_)
  obtain rfl : 1 = z2 := (ez2.trans (bI_t (by decide))).symm
  refine lv_if_eq (tgt := 23) hx hb dX2_putShare_11 (by decide) (fun q => absurd q (by decide)) (fun _ => ?_)
  refine lv_aload_n hx hb dX2_putShare_14 rfl (lv_at hl 0 rfl) ?_
  refine x_get (k := 2) hE hK hI (by decide) inG2 (e_2 G o _ _) rfl 0 (by decide) mw_32 rfl dX2_putShare_15 ?_
  refine lv_iload_n hx hb dX2_putShare_18 rfl (lv_at hl 1 rfl) ?_
  refine x_aald (k := 3) (j := 0) (t0 := 5) (q := o + 4) hE hK hI (by decide) (e_3 G o) rfl rfl (by decide) (by decide) rfl rfl dX2_putShare_19 ?_
  refine lv_iload_n hx hb dX2_putShare_20 rfl (lv_at hl 2 rfl) ?_
  refine lv_iload_n hx hb dX2_putShare_21 rfl (lv_at hl 3 rfl) ?_
  refine x_iast (k := 4) (j := 2) hE hK hI (by decide) (e_4 G o) (by decide) (by decide) rfl dX2_putShare_22 (fun H locs hI => ?_)
  exact x_vret hE hr hlocks hI rfl rfl rfl dX2_putShare_23
set_option maxRecDepth 100000 in
set_option maxHeartbeats 4000000 in
theorem c_X2_putShare_0_3 (l : Launch) (G : GG) (o : Nat) (X : SX) (Y : SY) (v : Int32) : Ct l yX2_putShare cX2_putShare 4 none 2 42 G o [.ref (o + 2), .int 0, .int 3, .int v] X Y none (sx X 4 3 v) Y := by
  refine Ct.mk (by decide +kernel) (Nat.le_of_ble_eq_true rfl) rfl ?_
  intro p9 e9 s9 m9 args9 below9 meth9 c9 hE hr hlocks hK hI ls hl
  have hx := hE.1
  have hb := hE.2.1
  have hl : lv_has ls 4 [(0, .ref (o + 2)), (1, .int 0), (2, .int 3), (3, .int v)] := hl
  refine lv_iload_n hx hb dX2_putShare_0 rfl (lv_at hl 1 rfl) ?_
  refine x_callNi hE hK hI (c_X5_isSize l G o _ _ 0 ) mf_X5_isSize hK.2.1 rfl hl.1 rfl (Nat.le_of_ble_eq_true rfl) ⟨(Nat.le_of_ble_eq_true rfl), (Nat.le_of_ble_eq_true rfl)⟩ ⟨Nat.zero_le _, Nat.zero_le _⟩ dX2_putShare_1 (fun H locs hI => ?_)
  refine lv_topi (fun z1 ez1 => ?_)
  obtain rfl : 1 = z1 := (ez1.trans (bI_t (by decide))).symm
  refine lv_if_eq (tgt := 23) hx hb dX2_putShare_4 (by decide) (fun q => absurd q (by decide)) (fun _ => ?_)
  refine lv_iload_n hx hb dX2_putShare_7 rfl (lv_at hl 2 rfl) ?_
  refine x_callNi hE hK hI (c_X5_isSize l G o _ _ 3 ) mf_X5_isSize hK.2.1 rfl hl.1 rfl (Nat.le_of_ble_eq_true rfl) ⟨(Nat.le_of_ble_eq_true rfl), (Nat.le_of_ble_eq_true rfl)⟩ ⟨Nat.zero_le _, Nat.zero_le _⟩ dX2_putShare_8 (fun H locs hI => ?_)
  refine lv_topi (fun z2 ez2 => ?_)
  obtain rfl : 1 = z2 := (ez2.trans (bI_t (by decide))).symm
  refine lv_if_eq (tgt := 23) hx hb dX2_putShare_11 (by decide) (fun q => absurd q (by decide)) (fun _ => ?_)
  refine lv_aload_n hx hb dX2_putShare_14 rfl (lv_at hl 0 rfl) ?_
  refine x_get (k := 2) hE hK hI (by decide) inG2 (e_2 G o _ _) rfl 0 (by decide) mw_32 rfl dX2_putShare_15 ?_
  refine lv_iload_n hx hb dX2_putShare_18 rfl (lv_at hl 1 rfl) ?_
  refine x_aald (k := 3) (j := 0) (t0 := 5) (q := o + 4) hE hK hI (by decide) (e_3 G o) rfl rfl (by decide) (by decide) rfl rfl dX2_putShare_19 ?_
  refine lv_iload_n hx hb dX2_putShare_20 rfl (lv_at hl 2 rfl) ?_
  refine lv_iload_n hx hb dX2_putShare_21 rfl (lv_at hl 3 rfl) ?_
  refine x_iast (k := 4) (j := 3) hE hK hI (by decide) (e_4 G o) (by decide) (by decide) rfl dX2_putShare_22 (fun H locs hI => ?_)
  exact x_vret hE hr hlocks hI rfl rfl rfl dX2_putShare_23
set_option maxRecDepth 100000 in
set_option maxHeartbeats 4000000 in
theorem c_X2_putShare_1_1 (l : Launch) (G : GG) (o : Nat) (X : SX) (Y : SY) (v : Int32) : Ct l yX2_putShare cX2_putShare 4 none 2 42 G o [.ref (o + 2), .int 1, .int 1, .int v] X Y none (sx X 5 1 v) Y := by
  refine Ct.mk (by decide +kernel) (Nat.le_of_ble_eq_true rfl) rfl ?_
  intro p9 e9 s9 m9 args9 below9 meth9 c9 hE hr hlocks hK hI ls hl
  have hx := hE.1
  have hb := hE.2.1
  have hl : lv_has ls 4 [(0, .ref (o + 2)), (1, .int 1), (2, .int 1), (3, .int v)] := hl
  refine lv_iload_n hx hb dX2_putShare_0 rfl (lv_at hl 1 rfl) ?_
  refine x_callNi hE hK hI (c_X5_isSize l G o _ _ 1 ) mf_X5_isSize hK.2.1 rfl hl.1 rfl (Nat.le_of_ble_eq_true rfl) ⟨(Nat.le_of_ble_eq_true rfl), (Nat.le_of_ble_eq_true rfl)⟩ ⟨Nat.zero_le _, Nat.zero_le _⟩ dX2_putShare_1 (fun H locs hI => ?_)
  refine lv_topi (fun z1 ez1 => ?_)
  obtain rfl : 1 = z1 := (ez1.trans (bI_t (by decide))).symm
  refine lv_if_eq (tgt := 23) hx hb dX2_putShare_4 (by decide) (fun q => absurd q (by decide)) (fun _ => ?_)
  refine lv_iload_n hx hb dX2_putShare_7 rfl (lv_at hl 2 rfl) ?_
  refine x_callNi hE hK hI (c_X5_isSize l G o _ _ 1 ) mf_X5_isSize hK.2.1 rfl hl.1 rfl (Nat.le_of_ble_eq_true rfl) ⟨(Nat.le_of_ble_eq_true rfl), (Nat.le_of_ble_eq_true rfl)⟩ ⟨Nat.zero_le _, Nat.zero_le _⟩ dX2_putShare_8 (fun H locs hI => ?_)
  refine lv_topi (fun z2 ez2 => ?_)
  obtain rfl : 1 = z2 := (ez2.trans (bI_t (by decide))).symm
  refine lv_if_eq (tgt := 23) hx hb dX2_putShare_11 (by decide) (fun q => absurd q (by decide)) (fun _ => ?_)
  refine lv_aload_n hx hb dX2_putShare_14 rfl (lv_at hl 0 rfl) ?_
  refine x_get (k := 2) hE hK hI (by decide) inG2 (e_2 G o _ _) rfl 0 (by decide) mw_32 rfl dX2_putShare_15 ?_
  refine lv_iload_n hx hb dX2_putShare_18 rfl (lv_at hl 1 rfl) ?_
  refine x_aald (k := 3) (j := 1) (t0 := 5) (q := o + 5) hE hK hI (by decide) (e_3 G o) rfl rfl (by decide) (by decide) rfl rfl dX2_putShare_19 ?_
  refine lv_iload_n hx hb dX2_putShare_20 rfl (lv_at hl 2 rfl) ?_
  refine lv_iload_n hx hb dX2_putShare_21 rfl (lv_at hl 3 rfl) ?_
  refine x_iast (k := 5) (j := 1) hE hK hI (by decide) (e_5 G o) (by decide) (by decide) rfl dX2_putShare_22 (fun H locs hI => ?_)
  exact x_vret hE hr hlocks hI rfl rfl rfl dX2_putShare_23
set_option maxRecDepth 100000 in
set_option maxHeartbeats 4000000 in
theorem c_X2_putShare_1_2 (l : Launch) (G : GG) (o : Nat) (X : SX) (Y : SY) (v : Int32) : Ct l yX2_putShare cX2_putShare 4 none 2 42 G o [.ref (o + 2), .int 1, .int 2, .int v] X Y none (sx X 5 2 v) Y := by
  refine Ct.mk (by decide +kernel) (Nat.le_of_ble_eq_true rfl) rfl ?_
  intro p9 e9 s9 m9 args9 below9 meth9 c9 hE hr hlocks hK hI ls hl
  have hx := hE.1
  have hb := hE.2.1
  have hl : lv_has ls 4 [(0, .ref (o + 2)), (1, .int 1), (2, .int 2), (3, .int v)] := hl
  refine lv_iload_n hx hb dX2_putShare_0 rfl (lv_at hl 1 rfl) ?_
  refine x_callNi hE hK hI (c_X5_isSize l G o _ _ 1 ) mf_X5_isSize hK.2.1 rfl hl.1 rfl (Nat.le_of_ble_eq_true rfl) ⟨(Nat.le_of_ble_eq_true rfl), (Nat.le_of_ble_eq_true rfl)⟩ ⟨Nat.zero_le _, Nat.zero_le _⟩ dX2_putShare_1 (fun H locs hI => ?_)
  refine lv_topi (fun z1 ez1 => ?_)
  obtain rfl : 1 = z1 := (ez1.trans (bI_t (by decide))).symm
  refine lv_if_eq (tgt := 23) hx hb dX2_putShare_4 (by decide) (fun q => absurd q (by decide)) (fun _ => ?_)
  refine lv_iload_n hx hb dX2_putShare_7 rfl (lv_at hl 2 rfl) ?_
  refine x_callNi hE hK hI (c_X5_isSize l G o _ _ 2 ) mf_X5_isSize hK.2.1 rfl hl.1 rfl (Nat.le_of_ble_eq_true rfl) ⟨(Nat.le_of_ble_eq_true rfl), (Nat.le_of_ble_eq_true rfl)⟩ ⟨Nat.zero_le _, Nat.zero_le _⟩ dX2_putShare_8 (fun H locs hI => ?_)
  refine lv_topi (fun z2 ez2 => ?_)
  obtain rfl : 1 = z2 := (ez2.trans (bI_t (by decide))).symm
  refine lv_if_eq (tgt := 23) hx hb dX2_putShare_11 (by decide) (fun q => absurd q (by decide)) (fun _ => ?_)
  refine lv_aload_n hx hb dX2_putShare_14 rfl (lv_at hl 0 rfl) ?_
  refine x_get (k := 2) hE hK hI (by decide) inG2 (e_2 G o _ _) rfl 0 (by decide) mw_32 rfl dX2_putShare_15 ?_
  refine lv_iload_n hx hb dX2_putShare_18 rfl (lv_at hl 1 rfl) ?_
  refine x_aald (k := 3) (j := 1) (t0 := 5) (q := o + 5) hE hK hI (by decide) (e_3 G o) rfl rfl (by decide) (by decide) rfl rfl dX2_putShare_19 ?_
  refine lv_iload_n hx hb dX2_putShare_20 rfl (lv_at hl 2 rfl) ?_
  refine lv_iload_n hx hb dX2_putShare_21 rfl (lv_at hl 3 rfl) ?_
  refine x_iast (k := 5) (j := 2) hE hK hI (by decide) (e_5 G o) (by decide) (by decide) rfl dX2_putShare_22 (fun H locs hI => ?_)
  exact x_vret hE hr hlocks hI rfl rfl rfl dX2_putShare_23
set_option maxRecDepth 100000 in
set_option maxHeartbeats 4000000 in
theorem c_X2_putShare_1_3 (l : Launch) (G : GG) (o : Nat) (X : SX) (Y : SY) (v : Int32) : Ct l yX2_putShare cX2_putShare 4 none 2 42 G o [.ref (o + 2), .int 1, .int 3, .int v] X Y none (sx X 5 3 v) Y := by
  refine Ct.mk (by decide +kernel) (Nat.le_of_ble_eq_true rfl) rfl ?_
  intro p9 e9 s9 m9 args9 below9 meth9 c9 hE hr hlocks hK hI ls hl
  have hx := hE.1
  have hb := hE.2.1
  have hl : lv_has ls 4 [(0, .ref (o + 2)), (1, .int 1), (2, .int 3), (3, .int v)] := hl
  refine lv_iload_n hx hb dX2_putShare_0 rfl (lv_at hl 1 rfl) ?_
  refine x_callNi hE hK hI (c_X5_isSize l G o _ _ 1 ) mf_X5_isSize hK.2.1 rfl hl.1 rfl (Nat.le_of_ble_eq_true rfl) ⟨(Nat.le_of_ble_eq_true rfl), (Nat.le_of_ble_eq_true rfl)⟩ ⟨Nat.zero_le _, Nat.zero_le _⟩ dX2_putShare_1 (fun H locs hI => ?_)
  refine lv_topi (fun z1 ez1 => ?_)
  obtain rfl : 1 = z1 := (ez1.trans (bI_t (by decide))).symm
  refine lv_if_eq (tgt := 23) hx hb dX2_putShare_4 (by decide) (fun q => absurd q (by decide)) (fun _ => ?_)
  refine lv_iload_n hx hb dX2_putShare_7 rfl (lv_at hl 2 rfl) ?_
  refine x_callNi hE hK hI (c_X5_isSize l G o _ _ 3 ) mf_X5_isSize hK.2.1 rfl hl.1 rfl (Nat.le_of_ble_eq_true rfl) ⟨(Nat.le_of_ble_eq_true rfl), (Nat.le_of_ble_eq_true rfl)⟩ ⟨Nat.zero_le _, Nat.zero_le _⟩ dX2_putShare_8 (fun H locs hI => ?_)
  refine lv_topi (fun z2 ez2 => ?_)
  obtain rfl : 1 = z2 := (ez2.trans (bI_t (by decide))).symm
  refine lv_if_eq (tgt := 23) hx hb dX2_putShare_11 (by decide) (fun q => absurd q (by decide)) (fun _ => ?_)
  refine lv_aload_n hx hb dX2_putShare_14 rfl (lv_at hl 0 rfl) ?_
  refine x_get (k := 2) hE hK hI (by decide) inG2 (e_2 G o _ _) rfl 0 (by decide) mw_32 rfl dX2_putShare_15 ?_
  refine lv_iload_n hx hb dX2_putShare_18 rfl (lv_at hl 1 rfl) ?_
  refine x_aald (k := 3) (j := 1) (t0 := 5) (q := o + 5) hE hK hI (by decide) (e_3 G o) rfl rfl (by decide) (by decide) rfl rfl dX2_putShare_19 ?_
  refine lv_iload_n hx hb dX2_putShare_20 rfl (lv_at hl 2 rfl) ?_
  refine lv_iload_n hx hb dX2_putShare_21 rfl (lv_at hl 3 rfl) ?_
  refine x_iast (k := 5) (j := 3) hE hK hI (by decide) (e_5 G o) (by decide) (by decide) rfl dX2_putShare_22 (fun H locs hI => ?_)
  exact x_vret hE hr hlocks hI rfl rfl rfl dX2_putShare_23
set_option maxRecDepth 100000 in
set_option maxHeartbeats 4000000 in
theorem c_X2_putShare_1_4 (l : Launch) (G : GG) (o : Nat) (X : SX) (Y : SY) (v : Int32) : Ct l yX2_putShare cX2_putShare 4 none 2 42 G o [.ref (o + 2), .int 1, .int 4, .int v] X Y none X Y := by
  refine Ct.mk (by decide +kernel) (Nat.le_of_ble_eq_true rfl) rfl ?_
  intro p9 e9 s9 m9 args9 below9 meth9 c9 hE hr hlocks hK hI ls hl
  have hx := hE.1
  have hb := hE.2.1
  have hl : lv_has ls 4 [(0, .ref (o + 2)), (1, .int 1), (2, .int 4), (3, .int v)] := hl
  refine lv_iload_n hx hb dX2_putShare_0 rfl (lv_at hl 1 rfl) ?_
  refine x_callNi hE hK hI (c_X5_isSize l G o _ _ 1 ) mf_X5_isSize hK.2.1 rfl hl.1 rfl (Nat.le_of_ble_eq_true rfl) ⟨(Nat.le_of_ble_eq_true rfl), (Nat.le_of_ble_eq_true rfl)⟩ ⟨Nat.zero_le _, Nat.zero_le _⟩ dX2_putShare_1 (fun H locs hI => ?_)
  refine lv_topi (fun z1 ez1 => ?_)
  obtain rfl : 1 = z1 := (ez1.trans (bI_t (by decide))).symm
  refine lv_if_eq (tgt := 23) hx hb dX2_putShare_4 (by decide) (fun q => absurd q (by decide)) (fun _ => ?_)
  refine lv_iload_n hx hb dX2_putShare_7 rfl (lv_at hl 2 rfl) ?_
  refine x_callNi hE hK hI (c_X5_isSize l G o _ _ 4 ) mf_X5_isSize hK.2.1 rfl hl.1 rfl (Nat.le_of_ble_eq_true rfl) ⟨(Nat.le_of_ble_eq_true rfl), (Nat.le_of_ble_eq_true rfl)⟩ ⟨Nat.zero_le _, Nat.zero_le _⟩ dX2_putShare_8 (fun H locs hI => ?_)
  refine lv_topi (fun z2 ez2 => ?_)
  obtain rfl : 0 = z2 := (ez2.trans (bI_f (by decide))).symm
  refine lv_if_eq (tgt := 23) hx hb dX2_putShare_11 (by decide) (fun _ => ?_) (fun q => absurd (by decide) q)
  exact x_vret hE hr hlocks hI rfl rfl rfl dX2_putShare_23
set_option maxRecDepth 100000 in
set_option maxHeartbeats 4000000 in
theorem c_X2_putShare_2_2 (l : Launch) (G : GG) (o : Nat) (X : SX) (Y : SY) (v : Int32) : Ct l yX2_putShare cX2_putShare 4 none 2 42 G o [.ref (o + 2), .int 2, .int 2, .int v] X Y none (sx X 6 2 v) Y := by
  refine Ct.mk (by decide +kernel) (Nat.le_of_ble_eq_true rfl) rfl ?_
  intro p9 e9 s9 m9 args9 below9 meth9 c9 hE hr hlocks hK hI ls hl
  have hx := hE.1
  have hb := hE.2.1
  have hl : lv_has ls 4 [(0, .ref (o + 2)), (1, .int 2), (2, .int 2), (3, .int v)] := hl
  refine lv_iload_n hx hb dX2_putShare_0 rfl (lv_at hl 1 rfl) ?_
  refine x_callNi hE hK hI (c_X5_isSize l G o _ _ 2 ) mf_X5_isSize hK.2.1 rfl hl.1 rfl (Nat.le_of_ble_eq_true rfl) ⟨(Nat.le_of_ble_eq_true rfl), (Nat.le_of_ble_eq_true rfl)⟩ ⟨Nat.zero_le _, Nat.zero_le _⟩ dX2_putShare_1 (fun H locs hI => ?_)
  refine lv_topi (fun z1 ez1 => ?_)
  obtain rfl : 1 = z1 := (ez1.trans (bI_t (by decide))).symm
  refine lv_if_eq (tgt := 23) hx hb dX2_putShare_4 (by decide) (fun q => absurd q (by decide)) (fun _ => ?_)
  refine lv_iload_n hx hb dX2_putShare_7 rfl (lv_at hl 2 rfl) ?_
  refine x_callNi hE hK hI (c_X5_isSize l G o _ _ 2 ) mf_X5_isSize hK.2.1 rfl hl.1 rfl (Nat.le_of_ble_eq_true rfl) ⟨(Nat.le_of_ble_eq_true rfl), (Nat.le_of_ble_eq_true rfl)⟩ ⟨Nat.zero_le _, Nat.zero_le _⟩ dX2_putShare_8 (fun H locs hI => ?_)
  refine lv_topi (fun z2 ez2 => ?_)
  obtain rfl : 1 = z2 := (ez2.trans (bI_t (by decide))).symm
  refine lv_if_eq (tgt := 23) hx hb dX2_putShare_11 (by decide) (fun q => absurd q (by decide)) (fun _ => ?_)
  refine lv_aload_n hx hb dX2_putShare_14 rfl (lv_at hl 0 rfl) ?_
  refine x_get (k := 2) hE hK hI (by decide) inG2 (e_2 G o _ _) rfl 0 (by decide) mw_32 rfl dX2_putShare_15 ?_
  refine lv_iload_n hx hb dX2_putShare_18 rfl (lv_at hl 1 rfl) ?_
  refine x_aald (k := 3) (j := 2) (t0 := 5) (q := o + 6) hE hK hI (by decide) (e_3 G o) rfl rfl (by decide) (by decide) rfl rfl dX2_putShare_19 ?_
  refine lv_iload_n hx hb dX2_putShare_20 rfl (lv_at hl 2 rfl) ?_
  refine lv_iload_n hx hb dX2_putShare_21 rfl (lv_at hl 3 rfl) ?_
  refine x_iast (k := 6) (j := 2) hE hK hI (by decide) (e_6 G o) (by decide) (by decide) rfl dX2_putShare_22 (fun H locs hI => ?_)
  exact x_vret hE hr hlocks hI rfl rfl rfl dX2_putShare_23
set_option maxRecDepth 100000 in
set_option maxHeartbeats 4000000 in
theorem c_X2_putShare_2_3 (l : Launch) (G : GG) (o : Nat) (X : SX) (Y : SY) (v : Int32) : Ct l yX2_putShare cX2_putShare 4 none 2 42 G o [.ref (o + 2), .int 2, .int 3, .int v] X Y none (sx X 6 3 v) Y := by
  refine Ct.mk (by decide +kernel) (Nat.le_of_ble_eq_true rfl) rfl ?_
  intro p9 e9 s9 m9 args9 below9 meth9 c9 hE hr hlocks hK hI ls hl
  have hx := hE.1
  have hb := hE.2.1
  have hl : lv_has ls 4 [(0, .ref (o + 2)), (1, .int 2), (2, .int 3), (3, .int v)] := hl
  refine lv_iload_n hx hb dX2_putShare_0 rfl (lv_at hl 1 rfl) ?_
  refine x_callNi hE hK hI (c_X5_isSize l G o _ _ 2 ) mf_X5_isSize hK.2.1 rfl hl.1 rfl (Nat.le_of_ble_eq_true rfl) ⟨(Nat.le_of_ble_eq_true rfl), (Nat.le_of_ble_eq_true rfl)⟩ ⟨Nat.zero_le _, Nat.zero_le _⟩ dX2_putShare_1 (fun H locs hI => ?_)
  refine lv_topi (fun z1 ez1 => ?_)
  obtain rfl : 1 = z1 := (ez1.trans (bI_t (by decide))).symm
  refine lv_if_eq (tgt := 23) hx hb dX2_putShare_4 (by decide) (fun q => absurd q (by decide)) (fun _ => ?_)
  refine lv_iload_n hx hb dX2_putShare_7 rfl (lv_at hl 2 rfl) ?_
  refine x_callNi hE hK hI (c_X5_isSize l G o _ _ 3 ) mf_X5_isSize hK.2.1 rfl hl.1 rfl (Nat.le_of_ble_eq_true rfl) ⟨(Nat.le_of_ble_eq_true rfl), (Nat.le_of_ble_eq_true rfl)⟩ ⟨Nat.zero_le _, Nat.zero_le _⟩ dX2_putShare_8 (fun H locs hI => ?_)
  refine lv_topi (fun z2 ez2 => ?_)
  obtain rfl : 1 = z2 := (ez2.trans (bI_t (by decide))).symm
  refine lv_if_eq (tgt := 23) hx hb dX2_putShare_11 (by decide) (fun q => absurd q (by decide)) (fun _ => ?_)
  refine lv_aload_n hx hb dX2_putShare_14 rfl (lv_at hl 0 rfl) ?_
  refine x_get (k := 2) hE hK hI (by decide) inG2 (e_2 G o _ _) rfl 0 (by decide) mw_32 rfl dX2_putShare_15 ?_
  refine lv_iload_n hx hb dX2_putShare_18 rfl (lv_at hl 1 rfl) ?_
  refine x_aald (k := 3) (j := 2) (t0 := 5) (q := o + 6) hE hK hI (by decide) (e_3 G o) rfl rfl (by decide) (by decide) rfl rfl dX2_putShare_19 ?_
  refine lv_iload_n hx hb dX2_putShare_20 rfl (lv_at hl 2 rfl) ?_
  refine lv_iload_n hx hb dX2_putShare_21 rfl (lv_at hl 3 rfl) ?_
  refine x_iast (k := 6) (j := 3) hE hK hI (by decide) (e_6 G o) (by decide) (by decide) rfl dX2_putShare_22 (fun H locs hI => ?_)
  exact x_vret hE hr hlocks hI rfl rfl rfl dX2_putShare_23
set_option maxRecDepth 100000 in
set_option maxHeartbeats 4000000 in
theorem c_X2_putShare_2_4 (l : Launch) (G : GG) (o : Nat) (X : SX) (Y : SY) (v : Int32) : Ct l yX2_putShare cX2_putShare 4 none 2 42 G o [.ref (o + 2), .int 2, .int 4, .int v] X Y none X Y := by
  refine Ct.mk (by decide +kernel) (Nat.le_of_ble_eq_true rfl) rfl ?_
  intro p9 e9 s9 m9 args9 below9 meth9 c9 hE hr hlocks hK hI ls hl
  have hx := hE.1
  have hb := hE.2.1
  have hl : lv_has ls 4 [(0, .ref (o + 2)), (1, .int 2), (2, .int 4), (3, .int v)] := hl
  refine lv_iload_n hx hb dX2_putShare_0 rfl (lv_at hl 1 rfl) ?_
  refine x_callNi hE hK hI (c_X5_isSize l G o _ _ 2 ) mf_X5_isSize hK.2.1 rfl hl.1 rfl (Nat.le_of_ble_eq_true rfl) ⟨(Nat.le_of_ble_eq_true rfl), (Nat.le_of_ble_eq_true rfl)⟩ ⟨Nat.zero_le _, Nat.zero_le _⟩ dX2_putShare_1 (fun H locs hI => ?_)
  refine lv_topi (fun z1 ez1 => ?_)
  obtain rfl : 1 = z1 := (ez1.trans (bI_t (by decide))).symm
  refine lv_if_eq (tgt := 23) hx hb dX2_putShare_4 (by decide) (fun q => absurd q (by decide)) (fun _ => ?_)
  refine lv_iload_n hx hb dX2_putShare_7 rfl (lv_at hl 2 rfl) ?_
  refine x_callNi hE hK hI (c_X5_isSize l G o _ _ 4 ) mf_X5_isSize hK.2.1 rfl hl.1 rfl (Nat.le_of_ble_eq_true rfl) ⟨(Nat.le_of_ble_eq_true rfl), (Nat.le_of_ble_eq_true rfl)⟩ ⟨Nat.zero_le _, Nat.zero_le _⟩ dX2_putShare_8 (fun H locs hI => ?_)
  refine lv_topi (fun z2 ez2 => ?_)
  obtain rfl : 0 = z2 := (ez2.trans (bI_f (by decide))).symm
  refine lv_if_eq (tgt := 23) hx hb dX2_putShare_11 (by decide) (fun _ => ?_) (fun q => absurd (by decide) q)
  exact x_vret hE hr hlocks hI rfl rfl rfl dX2_putShare_23
set_option maxRecDepth 100000 in
set_option maxHeartbeats 4000000 in
theorem c_X2_putShare_2_5 (l : Launch) (G : GG) (o : Nat) (X : SX) (Y : SY) (v : Int32) : Ct l yX2_putShare cX2_putShare 4 none 2 42 G o [.ref (o + 2), .int 2, .int 5, .int v] X Y none X Y := by
  refine Ct.mk (by decide +kernel) (Nat.le_of_ble_eq_true rfl) rfl ?_
  intro p9 e9 s9 m9 args9 below9 meth9 c9 hE hr hlocks hK hI ls hl
  have hx := hE.1
  have hb := hE.2.1
  have hl : lv_has ls 4 [(0, .ref (o + 2)), (1, .int 2), (2, .int 5), (3, .int v)] := hl
  refine lv_iload_n hx hb dX2_putShare_0 rfl (lv_at hl 1 rfl) ?_
  refine x_callNi hE hK hI (c_X5_isSize l G o _ _ 2 ) mf_X5_isSize hK.2.1 rfl hl.1 rfl (Nat.le_of_ble_eq_true rfl) ⟨(Nat.le_of_ble_eq_true rfl), (Nat.le_of_ble_eq_true rfl)⟩ ⟨Nat.zero_le _, Nat.zero_le _⟩ dX2_putShare_1 (fun H locs hI => ?_)
  refine lv_topi (fun z1 ez1 => ?_)
  obtain rfl : 1 = z1 := (ez1.trans (bI_t (by decide))).symm
  refine lv_if_eq (tgt := 23) hx hb dX2_putShare_4 (by decide) (fun q => absurd q (by decide)) (fun _ => ?_)
  refine lv_iload_n hx hb dX2_putShare_7 rfl (lv_at hl 2 rfl) ?_
  refine x_callNi hE hK hI (c_X5_isSize l G o _ _ 5 ) mf_X5_isSize hK.2.1 rfl hl.1 rfl (Nat.le_of_ble_eq_true rfl) ⟨(Nat.le_of_ble_eq_true rfl), (Nat.le_of_ble_eq_true rfl)⟩ ⟨Nat.zero_le _, Nat.zero_le _⟩ dX2_putShare_8 (fun H locs hI => ?_)
  refine lv_topi (fun z2 ez2 => ?_)
  obtain rfl : 0 = z2 := (ez2.trans (bI_f (by decide))).symm
  refine lv_if_eq (tgt := 23) hx hb dX2_putShare_11 (by decide) (fun _ => ?_) (fun q => absurd (by decide) q)
  exact x_vret hE hr hlocks hI rfl rfl rfl dX2_putShare_23
set_option maxRecDepth 100000 in
set_option maxHeartbeats 4000000 in
theorem c_X2_putShare_3_3 (l : Launch) (G : GG) (o : Nat) (X : SX) (Y : SY) (v : Int32) : Ct l yX2_putShare cX2_putShare 4 none 2 42 G o [.ref (o + 2), .int 3, .int 3, .int v] X Y none (sx X 7 3 v) Y := by
  refine Ct.mk (by decide +kernel) (Nat.le_of_ble_eq_true rfl) rfl ?_
  intro p9 e9 s9 m9 args9 below9 meth9 c9 hE hr hlocks hK hI ls hl
  have hx := hE.1
  have hb := hE.2.1
  have hl : lv_has ls 4 [(0, .ref (o + 2)), (1, .int 3), (2, .int 3), (3, .int v)] := hl
  refine lv_iload_n hx hb dX2_putShare_0 rfl (lv_at hl 1 rfl) ?_
  refine x_callNi hE hK hI (c_X5_isSize l G o _ _ 3 ) mf_X5_isSize hK.2.1 rfl hl.1 rfl (Nat.le_of_ble_eq_true rfl) ⟨(Nat.le_of_ble_eq_true rfl), (Nat.le_of_ble_eq_true rfl)⟩ ⟨Nat.zero_le _, Nat.zero_le _⟩ dX2_putShare_1 (fun H locs hI => ?_)
  refine lv_topi (fun z1 ez1 => ?_)
  obtain rfl : 1 = z1 := (ez1.trans (bI_t (by decide))).symm
  refine lv_if_eq (tgt := 23) hx hb dX2_putShare_4 (by decide) (fun q => absurd q (by decide)) (fun _ => ?_)
  refine lv_iload_n hx hb dX2_putShare_7 rfl (lv_at hl 2 rfl) ?_
  refine x_callNi hE hK hI (c_X5_isSize l G o _ _ 3 ) mf_X5_isSize hK.2.1 rfl hl.1 rfl (Nat.le_of_ble_eq_true rfl) ⟨(Nat.le_of_ble_eq_true rfl), (Nat.le_of_ble_eq_true rfl)⟩ ⟨Nat.zero_le _, Nat.zero_le _⟩ dX2_putShare_8 (fun H locs hI => ?_)
  refine lv_topi (fun z2 ez2 => ?_)
  obtain rfl : 1 = z2 := (ez2.trans (bI_t (by decide))).symm
  refine lv_if_eq (tgt := 23) hx hb dX2_putShare_11 (by decide) (fun q => absurd q (by decide)) (fun _ => ?_)
  refine lv_aload_n hx hb dX2_putShare_14 rfl (lv_at hl 0 rfl) ?_
  refine x_get (k := 2) hE hK hI (by decide) inG2 (e_2 G o _ _) rfl 0 (by decide) mw_32 rfl dX2_putShare_15 ?_
  refine lv_iload_n hx hb dX2_putShare_18 rfl (lv_at hl 1 rfl) ?_
  refine x_aald (k := 3) (j := 3) (t0 := 5) (q := o + 7) hE hK hI (by decide) (e_3 G o) rfl rfl (by decide) (by decide) rfl rfl dX2_putShare_19 ?_
  refine lv_iload_n hx hb dX2_putShare_20 rfl (lv_at hl 2 rfl) ?_
  refine lv_iload_n hx hb dX2_putShare_21 rfl (lv_at hl 3 rfl) ?_
  refine x_iast (k := 7) (j := 3) hE hK hI (by decide) (e_7 G o) (by decide) (by decide) rfl dX2_putShare_22 (fun H locs hI => ?_)
  exact x_vret hE hr hlocks hI rfl rfl rfl dX2_putShare_23
set_option maxRecDepth 100000 in
set_option maxHeartbeats 4000000 in
theorem c_X2_putShare_3_4 (l : Launch) (G : GG) (o : Nat) (X : SX) (Y : SY) (v : Int32) : Ct l yX2_putShare cX2_putShare 4 none 2 42 G o [.ref (o + 2), .int 3, .int 4, .int v] X Y none X Y := by
  refine Ct.mk (by decide +kernel) (Nat.le_of_ble_eq_true rfl) rfl ?_
  intro p9 e9 s9 m9 args9 below9 meth9 c9 hE hr hlocks hK hI ls hl
  have hx := hE.1
  have hb := hE.2.1
  have hl : lv_has ls 4 [(0, .ref (o + 2)), (1, .int 3), (2, .int 4), (3, .int v)] := hl
  refine lv_iload_n hx hb dX2_putShare_0 rfl (lv_at hl 1 rfl) ?_
  refine x_callNi hE hK hI (c_X5_isSize l G o _ _ 3 ) mf_X5_isSize hK.2.1 rfl hl.1 rfl (Nat.le_of_ble_eq_true rfl) ⟨(Nat.le_of_ble_eq_true rfl), (Nat.le_of_ble_eq_true rfl)⟩ ⟨Nat.zero_le _, Nat.zero_le _⟩ dX2_putShare_1 (fun H locs hI => ?_)
  refine lv_topi (fun z1 ez1 => ?_)
  obtain rfl : 1 = z1 := (ez1.trans (bI_t (by decide))).symm
  refine lv_if_eq (tgt := 23) hx hb dX2_putShare_4 (by decide) (fun q => absurd q (by decide)) (fun _ => ?_)
  refine lv_iload_n hx hb dX2_putShare_7 rfl (lv_at hl 2 rfl) ?_
  refine x_callNi hE hK hI (c_X5_isSize l G o _ _ 4 ) mf_X5_isSize hK.2.1 rfl hl.1 rfl (Nat.le_of_ble_eq_true rfl) ⟨(Nat.le_of_ble_eq_true rfl), (Nat.le_of_ble_eq_true rfl)⟩ ⟨Nat.zero_le _, Nat.zero_le _⟩ dX2_putShare_8 (fun H locs hI => ?_)
  refine lv_topi (fun z2 ez2 => ?_)
  obtain rfl : 0 = z2 := (ez2.trans (bI_f (by decide))).symm
  refine lv_if_eq (tgt := 23) hx hb dX2_putShare_11 (by decide) (fun _ => ?_) (fun q => absurd (by decide) q)
  exact x_vret hE hr hlocks hI rfl rfl rfl dX2_putShare_23
set_option maxRecDepth 100000 in
set_option maxHeartbeats 4000000 in
theorem c_X2_putShare_3_5 (l : Launch) (G : GG) (o : Nat) (X : SX) (Y : SY) (v : Int32) : Ct l yX2_putShare cX2_putShare 4 none 2 42 G o [.ref (o + 2), .int 3, .int 5, .int v] X Y none X Y := by
  refine Ct.mk (by decide +kernel) (Nat.le_of_ble_eq_true rfl) rfl ?_
  intro p9 e9 s9 m9 args9 below9 meth9 c9 hE hr hlocks hK hI ls hl
  have hx := hE.1
  have hb := hE.2.1
  have hl : lv_has ls 4 [(0, .ref (o + 2)), (1, .int 3), (2, .int 5), (3, .int v)] := hl
  refine lv_iload_n hx hb dX2_putShare_0 rfl (lv_at hl 1 rfl) ?_
  refine x_callNi hE hK hI (c_X5_isSize l G o _ _ 3 ) mf_X5_isSize hK.2.1 rfl hl.1 rfl (Nat.le_of_ble_eq_true rfl) ⟨(Nat.le_of_ble_eq_true rfl), (Nat.le_of_ble_eq_true rfl)⟩ ⟨Nat.zero_le _, Nat.zero_le _⟩ dX2_putShare_1 (fun H locs hI => ?_)
  refine lv_topi (fun z1 ez1 => ?_)
  obtain rfl : 1 = z1 := (ez1.trans (bI_t (by decide))).symm
  refine lv_if_eq (tgt := 23) hx hb dX2_putShare_4 (by decide) (fun q => absurd q (by decide)) (fun _ => ?_)
  refine lv_iload_n hx hb dX2_putShare_7 rfl (lv_at hl 2 rfl) ?_
  refine x_callNi hE hK hI (c_X5_isSize l G o _ _ 5 ) mf_X5_isSize hK.2.1 rfl hl.1 rfl (Nat.le_of_ble_eq_true rfl) ⟨(Nat.le_of_ble_eq_true rfl), (Nat.le_of_ble_eq_true rfl)⟩ ⟨Nat.zero_le _, Nat.zero_le _⟩ dX2_putShare_8 (fun H locs hI => ?_)
  refine lv_topi (fun z2 ez2 => ?_)
  obtain rfl : 0 = z2 := (ez2.trans (bI_f (by decide))).symm
  refine lv_if_eq (tgt := 23) hx hb dX2_putShare_11 (by decide) (fun _ => ?_) (fun q => absurd (by decide) q)
  exact x_vret hE hr hlocks hI rfl rfl rfl dX2_putShare_23
set_option maxRecDepth 100000 in
set_option maxHeartbeats 4000000 in
theorem c_X2_putShare_3_6 (l : Launch) (G : GG) (o : Nat) (X : SX) (Y : SY) (v : Int32) : Ct l yX2_putShare cX2_putShare 4 none 2 42 G o [.ref (o + 2), .int 3, .int 6, .int v] X Y none X Y := by
  refine Ct.mk (by decide +kernel) (Nat.le_of_ble_eq_true rfl) rfl ?_
  intro p9 e9 s9 m9 args9 below9 meth9 c9 hE hr hlocks hK hI ls hl
  have hx := hE.1
  have hb := hE.2.1
  have hl : lv_has ls 4 [(0, .ref (o + 2)), (1, .int 3), (2, .int 6), (3, .int v)] := hl
  refine lv_iload_n hx hb dX2_putShare_0 rfl (lv_at hl 1 rfl) ?_
  refine x_callNi hE hK hI (c_X5_isSize l G o _ _ 3 ) mf_X5_isSize hK.2.1 rfl hl.1 rfl (Nat.le_of_ble_eq_true rfl) ⟨(Nat.le_of_ble_eq_true rfl), (Nat.le_of_ble_eq_true rfl)⟩ ⟨Nat.zero_le _, Nat.zero_le _⟩ dX2_putShare_1 (fun H locs hI => ?_)
  refine lv_topi (fun z1 ez1 => ?_)
  obtain rfl : 1 = z1 := (ez1.trans (bI_t (by decide))).symm
  refine lv_if_eq (tgt := 23) hx hb dX2_putShare_4 (by decide) (fun q => absurd q (by decide)) (fun _ => ?_)
  refine lv_iload_n hx hb dX2_putShare_7 rfl (lv_at hl 2 rfl) ?_
  refine x_callNi hE hK hI (c_X5_isSize l G o _ _ 6 ) mf_X5_isSize hK.2.1 rfl hl.1 rfl (Nat.le_of_ble_eq_true rfl) ⟨(Nat.le_of_ble_eq_true rfl), (Nat.le_of_ble_eq_true rfl)⟩ ⟨Nat.zero_le _, Nat.zero_le _⟩ dX2_putShare_8 (fun H locs hI => ?_)
  refine lv_topi (fun z2 ez2 => ?_)
  obtain rfl : 0 = z2 := (ez2.trans (bI_f (by decide))).symm
  refine lv_if_eq (tgt := 23) hx hb dX2_putShare_11 (by decide) (fun _ => ?_) (fun q => absurd (by decide) q)
  exact x_vret hE hr hlocks hI rfl rfl rfl dX2_putShare_23
set_option maxRecDepth 100000 in
set_option maxHeartbeats 4000000 in
theorem c_X5_setBreakage_s (l : Launch) (G : GG) (o : Nat) (X : SX) (Y : SY) (u : Int32) (a : Int32) (b : Int32) (c : Int32) (h : ¬ (Wi u 0 3)) : Ct l yX5_setBreakage cX5_setBreakage 7 (some .int) 2 42 G o [.ref (o + 0), .int u, .int a, .int b, .int c] X Y (some (.int (-1))) X Y := by
  refine Ct.mk (by decide +kernel) (Nat.le_of_ble_eq_true rfl) rfl ?_
  intro p9 e9 s9 m9 args9 below9 meth9 c9 hE hr hlocks hK hI ls hl
  have hx := hE.1
  have hb := hE.2.1
  have hl : lv_has ls 7 [(0, .ref (o + 0)), (1, .int u), (2, .int a), (3, .int b), (4, .int c)] := hl
  refine lv_iload_n hx hb dX5_setBreakage_0 rfl (lv_at hl 1 rfl) ?_
  refine x_callSi hE hK hI (c_X5_isSize l G o _ _ u ) mf_X5_isSize mw_189 rfl hl.1 rfl (Nat.le_of_ble_eq_true rfl) ⟨(Nat.le_of_ble_eq_true rfl), (Nat.le_of_ble_eq_true rfl)⟩ ⟨Nat.zero_le _, Nat.zero_le _⟩ dX5_setBreakage_1 (fun H locs hI => ?_)
  refine lv_topi (fun z1 ez1 => ?_)
  obtain rfl : 0 = z1 := (ez1.trans (bI_f h)).symm
  refine lv_if_ne (tgt := 9) hx hb dX5_setBreakage_4 (by decide) (fun q => absurd (by decide) q) (fun _ => ?_)
  refine lv_iconst (v := (-1)) hx hb dX5_setBreakage_7 (by decide) ?_
  exact x_iret hE hr hlocks hI rfl rfl rfl dX5_setBreakage_8
def sb0X (X : SX) (a : Int32) (b : Int32) (c : Int32) : SX := sx (sx (sx (sx X 4 1 a) 4 2 b) 4 3 c) 4 0 (((10 - a) - b) - c)
set_option maxRecDepth 100000 in
set_option maxHeartbeats 4000000 in
theorem c_X5_setBreakage_ok_0 (l : Launch) (G : GG) (o : Nat) (X : SX) (Y : SY) (a : Int32) (b : Int32) (c : Int32) (h0 : Wi a 0 10) (h1 : Wi b 0 10) (h2 : Wi c 0 10) (h3 : (a + b) + c ≤ 10) : Ct l yX5_setBreakage cX5_setBreakage 7 (some .int) 3 65 G o [.ref (o + 0), .int 0, .int a, .int b, .int c] X Y (some (.int (((10 - a) - b) - c))) (sb0X X a b c) Y := by
  refine Ct.mk (by decide +kernel) (Nat.le_of_ble_eq_true rfl) rfl ?_
  intro p9 e9 s9 m9 args9 below9 meth9 c9 hE hr hlocks hK hI ls hl
  have hx := hE.1
  have hb := hE.2.1
  have hl : lv_has ls 7 [(0, .ref (o + 0)), (1, .int 0), (2, .int a), (3, .int b), (4, .int c)] := hl
  refine lv_iload_n hx hb dX5_setBreakage_0 rfl (lv_at hl 1 rfl) ?_
  refine x_callSi hE hK hI (c_X5_isSize l G o _ _ 0 ) mf_X5_isSize mw_189 rfl hl.1 rfl (Nat.le_of_ble_eq_true rfl) ⟨(Nat.le_of_ble_eq_true rfl), (Nat.le_of_ble_eq_true rfl)⟩ ⟨Nat.zero_le _, Nat.zero_le _⟩ dX5_setBreakage_1 (fun H locs hI => ?_)
  refine lv_topi (fun z1 ez1 => ?_)
  obtain rfl : 1 = z1 := (ez1.trans (bI_t (by decide))).symm
  refine lv_if_ne (tgt := 9) hx hb dX5_setBreakage_4 (by decide) (fun _ => ?_) (fun q => absurd q (by decide))
  refine lv_iload_n hx hb dX5_setBreakage_9 rfl (lv_at hl 1 rfl) ?_
  refine lv_iconst (v := 1) hx hb dX5_setBreakage_10 (by decide) ?_
  refine lv_iadd hx hb dX5_setBreakage_11 ?_
  refine lv_topi (fun z2 ez2 => ?_)
  obtain rfl : 1 = z2 := (ez2.trans (by decide)).symm
  refine lv_iload_n hx hb dX5_setBreakage_12 rfl (lv_at hl 2 rfl) ?_
  refine x_callSi hE hK hI (c_X5_isShareTo_y l G o _ _ 1 a (by decide)) mf_X5_isShareTo mw_195 rfl hl.1 rfl (Nat.le_of_ble_eq_true rfl) ⟨(Nat.le_of_ble_eq_true rfl), (Nat.le_of_ble_eq_true rfl)⟩ ⟨Nat.zero_le _, Nat.zero_le _⟩ dX5_setBreakage_13 (fun H locs hI => ?_)
  refine lv_topi (fun z3 ez3 => ?_)
  obtain rfl : 1 = z3 := (ez3.trans (bI_t h0)).symm
  refine lv_if_eq (tgt := 40) hx hb dX5_setBreakage_16 (by decide) (fun q => absurd q (by decide)) (fun _ => ?_)
  refine lv_iload_n hx hb dX5_setBreakage_19 rfl (lv_at hl 1 rfl) ?_
  refine lv_iconst (v := 2) hx hb dX5_setBreakage_20 (by decide) ?_
  refine lv_iadd hx hb dX5_setBreakage_21 ?_
  refine lv_topi (fun z4 ez4 => ?_)
  obtain rfl : 2 = z4 := (ez4.trans (by decide)).symm
  refine lv_iload_n hx hb dX5_setBreakage_22 rfl (lv_at hl 3 rfl) ?_
  refine x_callSi hE hK hI (c_X5_isShareTo_y l G o _ _ 2 b (by decide)) mf_X5_isShareTo mw_195 rfl hl.1 rfl (Nat.le_of_ble_eq_true rfl) ⟨(Nat.le_of_ble_eq_true rfl), (Nat.le_of_ble_eq_true rfl)⟩ ⟨Nat.zero_le _, Nat.zero_le _⟩ dX5_setBreakage_23 (fun H locs hI => ?_)
  refine lv_topi (fun z5 ez5 => ?_)
  obtain rfl : 1 = z5 := (ez5.trans (bI_t h1)).symm
  refine lv_if_eq (tgt := 40) hx hb dX5_setBreakage_26 (by decide) (fun q => absurd q (by decide)) (fun _ => ?_)
  refine lv_iload_n hx hb dX5_setBreakage_29 rfl (lv_at hl 1 rfl) ?_
  refine lv_iconst (v := 3) hx hb dX5_setBreakage_30 (by decide) ?_
  refine lv_iadd hx hb dX5_setBreakage_31 ?_
  refine lv_topi (fun z6 ez6 => ?_)
  obtain rfl : 3 = z6 := (ez6.trans (by decide)).symm
  refine lv_iload hx hb dX5_setBreakage_32 (lv_at hl 4 rfl) ?_
  refine x_callSi hE hK hI (c_X5_isShareTo_y l G o _ _ 3 c (by decide)) mf_X5_isShareTo mw_195 rfl hl.1 rfl (Nat.le_of_ble_eq_true rfl) ⟨(Nat.le_of_ble_eq_true rfl), (Nat.le_of_ble_eq_true rfl)⟩ ⟨Nat.zero_le _, Nat.zero_le _⟩ dX5_setBreakage_34 (fun H locs hI => ?_)
  refine lv_topi (fun z7 ez7 => ?_)
  obtain rfl : 1 = z7 := (ez7.trans (bI_t h2)).symm
  refine lv_if_ne (tgt := 43) hx hb dX5_setBreakage_37 (by decide) (fun _ => ?_) (fun q => absurd q (by decide))
  refine lv_iload_n hx hb dX5_setBreakage_43 rfl (lv_at hl 2 rfl) ?_
  refine lv_iload_n hx hb dX5_setBreakage_44 rfl (lv_at hl 3 rfl) ?_
  refine lv_iadd hx hb dX5_setBreakage_45 ?_
  refine lv_iload hx hb dX5_setBreakage_46 (lv_at hl 4 rfl) ?_
  refine lv_iadd hx hb dX5_setBreakage_48 ?_
  refine lv_bipush (v := 10) hx hb dX5_setBreakage_49 (by decide) ?_
  refine lv_icmp_le (tgt := 57) hx hb dX5_setBreakage_51 (by decide) (fun _ => ?_) (fun q => absurd h3 q)
  refine lv_aload_n hx hb dX5_setBreakage_57 rfl (lv_at hl 0 rfl) ?_
  refine x_get (k := 0) hE hK hI (by decide) inG5 (e_0 G o _ _) rfl 0 (by decide) mw_172 rfl dX5_setBreakage_58 ?_
  refine x_get (k := 1) hE hK hI (by decide) inG1 (e_1 G o _ _) rfl 0 (by decide) mw_139 rfl dX5_setBreakage_61 ?_
  refine lv_astore (lv' := [(5, .ref (o + 2)), (0, .ref (o + 0)), (1, .int 0), (2, .int a), (3, .int b), (4, .int c)]) hx hb dX5_setBreakage_64 hl (by decide) rfl (fun ls hl => ?_)
  refine lv_aload hx hb dX5_setBreakage_66 (lv_at hl 0 rfl) ?_
  refine lv_iload_n hx hb dX5_setBreakage_68 rfl (lv_at hl 2 rfl) ?_
  refine lv_iload_n hx hb dX5_setBreakage_69 rfl (lv_at hl 2 rfl) ?_
  refine lv_iconst (v := 1) hx hb dX5_setBreakage_70 (by decide) ?_
  refine lv_iadd hx hb dX5_setBreakage_71 ?_
  refine lv_topi (fun z8 ez8 => ?_)
  obtain rfl : 1 = z8 := (ez8.trans (by decide)).symm
  refine lv_iload_n hx hb dX5_setBreakage_72 rfl (lv_at hl 3 rfl) ?_
  refine x_callVv (k := 2) hE hK hI (c_X2_putShare_0_1 l G o _ _ a ) mf_X2_putShare mw_198 (by decide) ((e_2 G o) _ _) rfl rfl hl.1 rfl (Nat.le_of_ble_eq_true rfl) ⟨(Nat.le_of_ble_eq_true rfl), (Nat.le_of_ble_eq_true rfl)⟩ ⟨Nat.zero_le _, Nat.zero_le _⟩ dX5_setBreakage_73 (fun H locs hI => ?_)
  refine lv_aload hx hb dX5_setBreakage_76 (lv_at hl 0 rfl) ?_
  refine lv_iload_n hx hb dX5_setBreakage_78 rfl (lv_at hl 2 rfl) ?_
  refine lv_iload_n hx hb dX5_setBreakage_79 rfl (lv_at hl 2 rfl) ?_
  refine lv_iconst (v := 2) hx hb dX5_setBreakage_80 (by decide) ?_
  refine lv_iadd hx hb dX5_setBreakage_81 ?_
  refine lv_topi (fun z9 ez9 => ?_)
  obtain rfl : 2 = z9 := (ez9.trans (by decide)).symm
  refine lv_iload_n hx hb dX5_setBreakage_82 rfl (lv_at hl 4 rfl) ?_
  refine x_callVv (k := 2) hE hK hI (c_X2_putShare_0_2 l G o _ _ b ) mf_X2_putShare mw_198 (by decide) ((e_2 G o) _ _) rfl rfl hl.1 rfl (Nat.le_of_ble_eq_true rfl) ⟨(Nat.le_of_ble_eq_true rfl), (Nat.le_of_ble_eq_true rfl)⟩ ⟨Nat.zero_le _, Nat.zero_le _⟩ dX5_setBreakage_83 (fun H locs hI => ?_)
  refine lv_aload hx hb dX5_setBreakage_86 (lv_at hl 0 rfl) ?_
  refine lv_iload_n hx hb dX5_setBreakage_88 rfl (lv_at hl 2 rfl) ?_
  refine lv_iload_n hx hb dX5_setBreakage_89 rfl (lv_at hl 2 rfl) ?_
  refine lv_iconst (v := 3) hx hb dX5_setBreakage_90 (by decide) ?_
  refine lv_iadd hx hb dX5_setBreakage_91 ?_
  refine lv_topi (fun z10 ez10 => ?_)
  obtain rfl : 3 = z10 := (ez10.trans (by decide)).symm
  refine lv_iload hx hb dX5_setBreakage_92 (lv_at hl 5 rfl) ?_
  refine x_callVv (k := 2) hE hK hI (c_X2_putShare_0_3 l G o _ _ c ) mf_X2_putShare mw_198 (by decide) ((e_2 G o) _ _) rfl rfl hl.1 rfl (Nat.le_of_ble_eq_true rfl) ⟨(Nat.le_of_ble_eq_true rfl), (Nat.le_of_ble_eq_true rfl)⟩ ⟨Nat.zero_le _, Nat.zero_le _⟩ dX5_setBreakage_94 (fun H locs hI => ?_)
  refine lv_bipush (v := 10) hx hb dX5_setBreakage_97 (by decide) ?_
  refine lv_iload_n hx hb dX5_setBreakage_99 rfl (lv_at hl 3 rfl) ?_
  refine lv_isub hx hb dX5_setBreakage_100 ?_
  refine lv_iload_n hx hb dX5_setBreakage_101 rfl (lv_at hl 4 rfl) ?_
  refine lv_isub hx hb dX5_setBreakage_102 ?_
  refine lv_iload hx hb dX5_setBreakage_103 (lv_at hl 5 rfl) ?_
  refine lv_isub hx hb dX5_setBreakage_105 ?_
  refine lv_istore (lv' := [(6, .int (((10 - a) - b) - c)), (5, .ref (o + 2)), (0, .ref (o + 0)), (1, .int 0), (2, .int a), (3, .int b), (4, .int c)]) hx hb dX5_setBreakage_106 hl (by decide) rfl (fun ls hl => ?_)
  refine lv_aload hx hb dX5_setBreakage_108 (lv_at hl 1 rfl) ?_
  refine lv_iload_n hx hb dX5_setBreakage_110 rfl (lv_at hl 3 rfl) ?_
  refine lv_iload_n hx hb dX5_setBreakage_111 rfl (lv_at hl 3 rfl) ?_
  refine lv_iload hx hb dX5_setBreakage_112 (lv_at hl 0 rfl) ?_
  refine x_callVv (k := 2) hE hK hI (c_X2_putShare_0_0 l G o _ _ (((10 - a) - b) - c) ) mf_X2_putShare mw_198 (by decide) ((e_2 G o) _ _) rfl rfl hl.1 rfl (Nat.le_of_ble_eq_true rfl) ⟨(Nat.le_of_ble_eq_true rfl), (Nat.le_of_ble_eq_true rfl)⟩ ⟨Nat.zero_le _, Nat.zero_le _⟩ dX5_setBreakage_114 (fun H locs hI => ?_)
  refine lv_iload hx hb dX5_setBreakage_117 (lv_at hl 0 rfl) ?_
  exact x_iret hE hr hlocks hI rfl rfl rfl dX5_setBreakage_119
set_option maxRecDepth 100000 in
set_option maxHeartbeats 4000000 in
theorem c_X5_setBreakage_bad_0 (l : Launch) (G : GG) (o : Nat) (X : SX) (Y : SY) (a : Int32) (b : Int32) (c : Int32) (h : ¬ (Wi a 0 10 ∧ Wi b 0 10 ∧ Wi c 0 10 ∧ (a + b) + c ≤ 10)) : Ct l yX5_setBreakage cX5_setBreakage 7 (some .int) 3 63 G o [.ref (o + 0), .int 0, .int a, .int b, .int c] X Y (some (.int (-3))) X Y := by
  refine Ct.mk (by decide +kernel) (Nat.le_of_ble_eq_true rfl) rfl ?_
  intro p9 e9 s9 m9 args9 below9 meth9 c9 hE hr hlocks hK hI ls hl
  have hx := hE.1
  have hb := hE.2.1
  have hl : lv_has ls 7 [(0, .ref (o + 0)), (1, .int 0), (2, .int a), (3, .int b), (4, .int c)] := hl
  refine lv_iload_n hx hb dX5_setBreakage_0 rfl (lv_at hl 1 rfl) ?_
  refine x_callSi hE hK hI (c_X5_isSize l G o _ _ 0 ) mf_X5_isSize mw_189 rfl hl.1 rfl (Nat.le_of_ble_eq_true rfl) ⟨(Nat.le_of_ble_eq_true rfl), (Nat.le_of_ble_eq_true rfl)⟩ ⟨Nat.zero_le _, Nat.zero_le _⟩ dX5_setBreakage_1 (fun H locs hI => ?_)
  refine lv_topi (fun z1 ez1 => ?_)
  obtain rfl : 1 = z1 := (ez1.trans (bI_t (by decide))).symm
  refine lv_if_ne (tgt := 9) hx hb dX5_setBreakage_4 (by decide) (fun _ => ?_) (fun q => absurd q (by decide))
  refine lv_iload_n hx hb dX5_setBreakage_9 rfl (lv_at hl 1 rfl) ?_
  refine lv_iconst (v := 1) hx hb dX5_setBreakage_10 (by decide) ?_
  refine lv_iadd hx hb dX5_setBreakage_11 ?_
  refine lv_topi (fun z2 ez2 => ?_)
  obtain rfl : 1 = z2 := (ez2.trans (by decide)).symm
  refine lv_iload_n hx hb dX5_setBreakage_12 rfl (lv_at hl 2 rfl) ?_
  refine x_callSi hE hK hI (c_X5_isShareTo_y l G o _ _ 1 a (by decide)) mf_X5_isShareTo mw_195 rfl hl.1 rfl (Nat.le_of_ble_eq_true rfl) ⟨(Nat.le_of_ble_eq_true rfl), (Nat.le_of_ble_eq_true rfl)⟩ ⟨Nat.zero_le _, Nat.zero_le _⟩ dX5_setBreakage_13 (fun H locs hI => ?_)
  refine lv_if_eq (tgt := 40) hx hb dX5_setBreakage_16 (by decide) (fun c3 => ?_) (fun c3 => ?_)
  · have c3 := bI_eq0.mp c3
    refine lv_bipush (v := (-3)) hx hb dX5_setBreakage_40 (by decide) ?_
    exact x_iret hE hr hlocks hI rfl rfl rfl dX5_setBreakage_42
  · have c3 := bI_ne0.mp c3
    refine lv_iload_n hx hb dX5_setBreakage_19 rfl (lv_at hl 1 rfl) ?_
    refine lv_iconst (v := 2) hx hb dX5_setBreakage_20 (by decide) ?_
    refine lv_iadd hx hb dX5_setBreakage_21 ?_
    refine lv_topi (fun z4 ez4 => ?_)
    obtain rfl : 2 = z4 := (ez4.trans (by decide)).symm
    refine lv_iload_n hx hb dX5_setBreakage_22 rfl (lv_at hl 3 rfl) ?_
    refine x_callSi hE hK hI (c_X5_isShareTo_y l G o _ _ 2 b (by decide)) mf_X5_isShareTo mw_195 rfl hl.1 rfl (Nat.le_of_ble_eq_true rfl) ⟨(Nat.le_of_ble_eq_true rfl), (Nat.le_of_ble_eq_true rfl)⟩ ⟨Nat.zero_le _, Nat.zero_le _⟩ dX5_setBreakage_23 (fun H locs hI => ?_)
    refine lv_if_eq (tgt := 40) hx hb dX5_setBreakage_26 (by decide) (fun c5 => ?_) (fun c5 => ?_)
    · have c5 := bI_eq0.mp c5
      refine lv_bipush (v := (-3)) hx hb dX5_setBreakage_40 (by decide) ?_
      exact x_iret hE hr hlocks hI rfl rfl rfl dX5_setBreakage_42
    · have c5 := bI_ne0.mp c5
      refine lv_iload_n hx hb dX5_setBreakage_29 rfl (lv_at hl 1 rfl) ?_
      refine lv_iconst (v := 3) hx hb dX5_setBreakage_30 (by decide) ?_
      refine lv_iadd hx hb dX5_setBreakage_31 ?_
      refine lv_topi (fun z6 ez6 => ?_)
      obtain rfl : 3 = z6 := (ez6.trans (by decide)).symm
      refine lv_iload hx hb dX5_setBreakage_32 (lv_at hl 4 rfl) ?_
      refine x_callSi hE hK hI (c_X5_isShareTo_y l G o _ _ 3 c (by decide)) mf_X5_isShareTo mw_195 rfl hl.1 rfl (Nat.le_of_ble_eq_true rfl) ⟨(Nat.le_of_ble_eq_true rfl), (Nat.le_of_ble_eq_true rfl)⟩ ⟨Nat.zero_le _, Nat.zero_le _⟩ dX5_setBreakage_34 (fun H locs hI => ?_)
      refine lv_if_ne (tgt := 43) hx hb dX5_setBreakage_37 (by decide) (fun c7 => ?_) (fun c7 => ?_)
      · have c7 := bI_ne0.mp c7
        refine lv_iload_n hx hb dX5_setBreakage_43 rfl (lv_at hl 2 rfl) ?_
        refine lv_iload_n hx hb dX5_setBreakage_44 rfl (lv_at hl 3 rfl) ?_
        refine lv_iadd hx hb dX5_setBreakage_45 ?_
        refine lv_iload hx hb dX5_setBreakage_46 (lv_at hl 4 rfl) ?_
        refine lv_iadd hx hb dX5_setBreakage_48 ?_
        refine lv_bipush (v := 10) hx hb dX5_setBreakage_49 (by decide) ?_
        refine lv_icmp_le (tgt := 57) hx hb dX5_setBreakage_51 (by decide) (fun c8 => ?_) (fun c8 => ?_)
        · exact absurd ⟨c3, c5, c7, c8⟩ h
        · refine lv_bipush (v := (-3)) hx hb dX5_setBreakage_54 (by decide) ?_
          exact x_iret hE hr hlocks hI rfl rfl rfl dX5_setBreakage_56
      · have c7 := bI_eq0.mp c7
        refine lv_bipush (v := (-3)) hx hb dX5_setBreakage_40 (by decide) ?_
        exact x_iret hE hr hlocks hI rfl rfl rfl dX5_setBreakage_42
def sb1X (X : SX) (a : Int32) (b : Int32) (c : Int32) : SX := sx (sx (sx X 5 2 a) 5 3 b) 5 1 (((10 - a) - b) - c)
set_option maxRecDepth 100000 in
set_option maxHeartbeats 4000000 in
theorem c_X5_setBreakage_ok_1 (l : Launch) (G : GG) (o : Nat) (X : SX) (Y : SY) (a : Int32) (b : Int32) (c : Int32) (h0 : Wi a 0 10) (h1 : Wi b 0 10) (h2 : Wi c 0 0) (h3 : (a + b) + c ≤ 10) : Ct l yX5_setBreakage cX5_setBreakage 7 (some .int) 3 65 G o [.ref (o + 0), .int 1, .int a, .int b, .int c] X Y (some (.int (((10 - a) - b) - c))) (sb1X X a b c) Y := by
  refine Ct.mk (by decide +kernel) (Nat.le_of_ble_eq_true rfl) rfl ?_
  intro p9 e9 s9 m9 args9 below9 meth9 c9 hE hr hlocks hK hI ls hl
  have hx := hE.1
  have hb := hE.2.1
  have hl : lv_has ls 7 [(0, .ref (o + 0)), (1, .int 1), (2, .int a), (3, .int b), (4, .int c)] := hl
  refine lv_iload_n hx hb dX5_setBreakage_0 rfl (lv_at hl 1 rfl) ?_
  refine x_callSi hE hK hI (c_X5_isSize l G o _ _ 1 ) mf_X5_isSize mw_189 rfl hl.1 rfl (Nat.le_of_ble_eq_true rfl) ⟨(Nat.le_of_ble_eq_true rfl), (Nat.le_of_ble_eq_true rfl)⟩ ⟨Nat.zero_le _, Nat.zero_le _⟩ dX5_setBreakage_1 (fun H locs hI => ?_)
  refine lv_topi (fun z1 ez1 => ?_)
  obtain rfl : 1 = z1 := (ez1.trans (bI_t (by decide))).symm
  refine lv_if_ne (tgt := 9) hx hb dX5_setBreakage_4 (by decide) (fun _ => ?_) (fun q => absurd q (by decide))
  refine lv_iload_n hx hb dX5_setBreakage_9 rfl (lv_at hl 1 rfl) ?_
  refine lv_iconst (v := 1) hx hb dX5_setBreakage_10 (by decide) ?_
  refine lv_iadd hx hb dX5_setBreakage_11 ?_
  refine lv_topi (fun z2 ez2 => ?_)
  obtain rfl : 2 = z2 := (ez2.trans (by decide)).symm
  refine lv_iload_n hx hb dX5_setBreakage_12 rfl (lv_at hl 2 rfl) ?_
  refine x_callSi hE hK hI (c_X5_isShareTo_y l G o _ _ 2 a (by decide)) mf_X5_isShareTo mw_195 rfl hl.1 rfl (Nat.le_of_ble_eq_true rfl) ⟨(Nat.le_of_ble_eq_true rfl), (Nat.le_of_ble_eq_true rfl)⟩ ⟨Nat.zero_le _, Nat.zero_le _⟩ dX5_setBreakage_13 (fun H locs hI => ?_)
  refine lv_topi (fun z3 ez3 => ?_)
  obtain rfl : 1 = z3 := (ez3.trans (bI_t h0)).symm
  refine lv_if_eq (tgt := 40) hx hb dX5_setBreakage_16 (by decide) (fun q => absurd q (by decide)) (fun _ => ?_)
  refine lv_iload_n hx hb dX5_setBreakage_19 rfl (lv_at hl 1 rfl) ?_
  refine lv_iconst (v := 2) hx hb dX5_setBreakage_20 (by decide) ?_
  refine lv_iadd hx hb dX5_setBreakage_21 ?_
  refine lv_topi (fun z4 ez4 => ?_)
  obtain rfl : 3 = z4 := (ez4.trans (by decide)).symm
  refine lv_iload_n hx hb dX5_setBreakage_22 rfl (lv_at hl 3 rfl) ?_
  refine x_callSi hE hK hI (c_X5_isShareTo_y l G o _ _ 3 b (by decide)) mf_X5_isShareTo mw_195 rfl hl.1 rfl (Nat.le_of_ble_eq_true rfl) ⟨(Nat.le_of_ble_eq_true rfl), (Nat.le_of_ble_eq_true rfl)⟩ ⟨Nat.zero_le _, Nat.zero_le _⟩ dX5_setBreakage_23 (fun H locs hI => ?_)
  refine lv_topi (fun z5 ez5 => ?_)
  obtain rfl : 1 = z5 := (ez5.trans (bI_t h1)).symm
  refine lv_if_eq (tgt := 40) hx hb dX5_setBreakage_26 (by decide) (fun q => absurd q (by decide)) (fun _ => ?_)
  refine lv_iload_n hx hb dX5_setBreakage_29 rfl (lv_at hl 1 rfl) ?_
  refine lv_iconst (v := 3) hx hb dX5_setBreakage_30 (by decide) ?_
  refine lv_iadd hx hb dX5_setBreakage_31 ?_
  refine lv_topi (fun z6 ez6 => ?_)
  obtain rfl : 4 = z6 := (ez6.trans (by decide)).symm
  refine lv_iload hx hb dX5_setBreakage_32 (lv_at hl 4 rfl) ?_
  refine x_callSi hE hK hI (c_X5_isShareTo_n l G o _ _ 4 c (by decide)) mf_X5_isShareTo mw_195 rfl hl.1 rfl (Nat.le_of_ble_eq_true rfl) ⟨(Nat.le_of_ble_eq_true rfl), (Nat.le_of_ble_eq_true rfl)⟩ ⟨Nat.zero_le _, Nat.zero_le _⟩ dX5_setBreakage_34 (fun H locs hI => ?_)
  refine lv_topi (fun z7 ez7 => ?_)
  obtain rfl : 1 = z7 := (ez7.trans (bI_t h2)).symm
  refine lv_if_ne (tgt := 43) hx hb dX5_setBreakage_37 (by decide) (fun _ => ?_) (fun q => absurd q (by decide))
  refine lv_iload_n hx hb dX5_setBreakage_43 rfl (lv_at hl 2 rfl) ?_
  refine lv_iload_n hx hb dX5_setBreakage_44 rfl (lv_at hl 3 rfl) ?_
  refine lv_iadd hx hb dX5_setBreakage_45 ?_
  refine lv_iload hx hb dX5_setBreakage_46 (lv_at hl 4 rfl) ?_
  refine lv_iadd hx hb dX5_setBreakage_48 ?_
  refine lv_bipush (v := 10) hx hb dX5_setBreakage_49 (by decide) ?_
  refine lv_icmp_le (tgt := 57) hx hb dX5_setBreakage_51 (by decide) (fun _ => ?_) (fun q => absurd h3 q)
  refine lv_aload_n hx hb dX5_setBreakage_57 rfl (lv_at hl 0 rfl) ?_
  refine x_get (k := 0) hE hK hI (by decide) inG5 (e_0 G o _ _) rfl 0 (by decide) mw_172 rfl dX5_setBreakage_58 ?_
  refine x_get (k := 1) hE hK hI (by decide) inG1 (e_1 G o _ _) rfl 0 (by decide) mw_139 rfl dX5_setBreakage_61 ?_
  refine lv_astore (lv' := [(5, .ref (o + 2)), (0, .ref (o + 0)), (1, .int 1), (2, .int a), (3, .int b), (4, .int c)]) hx hb dX5_setBreakage_64 hl (by decide) rfl (fun ls hl => ?_)
  refine lv_aload hx hb dX5_setBreakage_66 (lv_at hl 0 rfl) ?_
  refine lv_iload_n hx hb dX5_setBreakage_68 rfl (lv_at hl 2 rfl) ?_
  refine lv_iload_n hx hb dX5_setBreakage_69 rfl (lv_at hl 2 rfl) ?_
  refine lv_iconst (v := 1) hx hb dX5_setBreakage_70 (by decide) ?_
  refine lv_iadd hx hb dX5_setBreakage_71 ?_
  refine lv_topi (fun z8 ez8 => ?_)
  obtain rfl : 2 = z8 := (ez8.trans (by decide)).symm
  refine lv_iload_n hx hb dX5_setBreakage_72 rfl (lv_at hl 3 rfl) ?_
  refine x_callVv (k := 2) hE hK hI (c_X2_putShare_1_2 l G o _ _ a ) mf_X2_putShare mw_198 (by decide) ((e_2 G o) _ _) rfl rfl hl.1 rfl (Nat.le_of_ble_eq_true rfl) ⟨(Nat.le_of_ble_eq_true rfl), (Nat.le_of_ble_eq_true rfl)⟩ ⟨Nat.zero_le _, Nat.zero_le _⟩ dX5_setBreakage_73 (fun H locs hI => ?_)
  refine lv_aload hx hb dX5_setBreakage_76 (lv_at hl 0 rfl) ?_
  refine lv_iload_n hx hb dX5_setBreakage_78 rfl (lv_at hl 2 rfl) ?_
  refine lv_iload_n hx hb dX5_setBreakage_79 rfl (lv_at hl 2 rfl) ?_
  refine lv_iconst (v := 2) hx hb dX5_setBreakage_80 (by decide) ?_
  refine lv_iadd hx hb dX5_setBreakage_81 ?_
  refine lv_topi (fun z9 ez9 => ?_)
  obtain rfl : 3 = z9 := (ez9.trans (by decide)).symm
  refine lv_iload_n hx hb dX5_setBreakage_82 rfl (lv_at hl 4 rfl) ?_
  refine x_callVv (k := 2) hE hK hI (c_X2_putShare_1_3 l G o _ _ b ) mf_X2_putShare mw_198 (by decide) ((e_2 G o) _ _) rfl rfl hl.1 rfl (Nat.le_of_ble_eq_true rfl) ⟨(Nat.le_of_ble_eq_true rfl), (Nat.le_of_ble_eq_true rfl)⟩ ⟨Nat.zero_le _, Nat.zero_le _⟩ dX5_setBreakage_83 (fun H locs hI => ?_)
  refine lv_aload hx hb dX5_setBreakage_86 (lv_at hl 0 rfl) ?_
  refine lv_iload_n hx hb dX5_setBreakage_88 rfl (lv_at hl 2 rfl) ?_
  refine lv_iload_n hx hb dX5_setBreakage_89 rfl (lv_at hl 2 rfl) ?_
  refine lv_iconst (v := 3) hx hb dX5_setBreakage_90 (by decide) ?_
  refine lv_iadd hx hb dX5_setBreakage_91 ?_
  refine lv_topi (fun z10 ez10 => ?_)
  obtain rfl : 4 = z10 := (ez10.trans (by decide)).symm
  refine lv_iload hx hb dX5_setBreakage_92 (lv_at hl 5 rfl) ?_
  refine x_callVv (k := 2) hE hK hI (c_X2_putShare_1_4 l G o _ _ c ) mf_X2_putShare mw_198 (by decide) ((e_2 G o) _ _) rfl rfl hl.1 rfl (Nat.le_of_ble_eq_true rfl) ⟨(Nat.le_of_ble_eq_true rfl), (Nat.le_of_ble_eq_true rfl)⟩ ⟨Nat.zero_le _, Nat.zero_le _⟩ dX5_setBreakage_94 (fun H locs hI => ?_)
  refine lv_bipush (v := 10) hx hb dX5_setBreakage_97 (by decide) ?_
  refine lv_iload_n hx hb dX5_setBreakage_99 rfl (lv_at hl 3 rfl) ?_
  refine lv_isub hx hb dX5_setBreakage_100 ?_
  refine lv_iload_n hx hb dX5_setBreakage_101 rfl (lv_at hl 4 rfl) ?_
  refine lv_isub hx hb dX5_setBreakage_102 ?_
  refine lv_iload hx hb dX5_setBreakage_103 (lv_at hl 5 rfl) ?_
  refine lv_isub hx hb dX5_setBreakage_105 ?_
  refine lv_istore (lv' := [(6, .int (((10 - a) - b) - c)), (5, .ref (o + 2)), (0, .ref (o + 0)), (1, .int 1), (2, .int a), (3, .int b), (4, .int c)]) hx hb dX5_setBreakage_106 hl (by decide) rfl (fun ls hl => ?_)
  refine lv_aload hx hb dX5_setBreakage_108 (lv_at hl 1 rfl) ?_
  refine lv_iload_n hx hb dX5_setBreakage_110 rfl (lv_at hl 3 rfl) ?_
  refine lv_iload_n hx hb dX5_setBreakage_111 rfl (lv_at hl 3 rfl) ?_
  refine lv_iload hx hb dX5_setBreakage_112 (lv_at hl 0 rfl) ?_
  refine x_callVv (k := 2) hE hK hI (c_X2_putShare_1_1 l G o _ _ (((10 - a) - b) - c) ) mf_X2_putShare mw_198 (by decide) ((e_2 G o) _ _) rfl rfl hl.1 rfl (Nat.le_of_ble_eq_true rfl) ⟨(Nat.le_of_ble_eq_true rfl), (Nat.le_of_ble_eq_true rfl)⟩ ⟨Nat.zero_le _, Nat.zero_le _⟩ dX5_setBreakage_114 (fun H locs hI => ?_)
  refine lv_iload hx hb dX5_setBreakage_117 (lv_at hl 0 rfl) ?_
  exact x_iret hE hr hlocks hI rfl rfl rfl dX5_setBreakage_119
set_option maxRecDepth 100000 in
set_option maxHeartbeats 4000000 in
theorem c_X5_setBreakage_bad_1 (l : Launch) (G : GG) (o : Nat) (X : SX) (Y : SY) (a : Int32) (b : Int32) (c : Int32) (h : ¬ (Wi a 0 10 ∧ Wi b 0 10 ∧ Wi c 0 0 ∧ (a + b) + c ≤ 10)) : Ct l yX5_setBreakage cX5_setBreakage 7 (some .int) 3 63 G o [.ref (o + 0), .int 1, .int a, .int b, .int c] X Y (some (.int (-3))) X Y := by
  refine Ct.mk (by decide +kernel) (Nat.le_of_ble_eq_true rfl) rfl ?_
  intro p9 e9 s9 m9 args9 below9 meth9 c9 hE hr hlocks hK hI ls hl
  have hx := hE.1
  have hb := hE.2.1
  have hl : lv_has ls 7 [(0, .ref (o + 0)), (1, .int 1), (2, .int a), (3, .int b), (4, .int c)] := hl
  refine lv_iload_n hx hb dX5_setBreakage_0 rfl (lv_at hl 1 rfl) ?_
  refine x_callSi hE hK hI (c_X5_isSize l G o _ _ 1 ) mf_X5_isSize mw_189 rfl hl.1 rfl (Nat.le_of_ble_eq_true rfl) ⟨(Nat.le_of_ble_eq_true rfl), (Nat.le_of_ble_eq_true rfl)⟩ ⟨Nat.zero_le _, Nat.zero_le _⟩ dX5_setBreakage_1 (fun H locs hI => ?_)
  refine lv_topi (fun z1 ez1 => ?_)
  obtain rfl : 1 = z1 := (ez1.trans (bI_t (by decide))).symm
  refine lv_if_ne (tgt := 9) hx hb dX5_setBreakage_4 (by decide) (fun _ => ?_) (fun q => absurd q (by decide))
  refine lv_iload_n hx hb dX5_setBreakage_9 rfl (lv_at hl 1 rfl) ?_
  refine lv_iconst (v := 1) hx hb dX5_setBreakage_10 (by decide) ?_
  refine lv_iadd hx hb dX5_setBreakage_11 ?_
  refine lv_topi (fun z2 ez2 => ?_)
  obtain rfl : 2 = z2 := (ez2.trans (by decide)).symm
  refine lv_iload_n hx hb dX5_setBreakage_12 rfl (lv_at hl 2 rfl) ?_
  refine x_callSi hE hK hI (c_X5_isShareTo_y l G o _ _ 2 a (by decide)) mf_X5_isShareTo mw_195 rfl hl.1 rfl (Nat.le_of_ble_eq_true rfl) ⟨(Nat.le_of_ble_eq_true rfl), (Nat.le_of_ble_eq_true rfl)⟩ ⟨Nat.zero_le _, Nat.zero_le _⟩ dX5_setBreakage_13 (fun H locs hI => ?_)
  refine lv_if_eq (tgt := 40) hx hb dX5_setBreakage_16 (by decide) (fun c3 => ?_) (fun c3 => ?_)
  · have c3 := bI_eq0.mp c3
    refine lv_bipush (v := (-3)) hx hb dX5_setBreakage_40 (by decide) ?_
    exact x_iret hE hr hlocks hI rfl rfl rfl dX5_setBreakage_42
  · have c3 := bI_ne0.mp c3
    refine lv_iload_n hx hb dX5_setBreakage_19 rfl (lv_at hl 1 rfl) ?_
    refine lv_iconst (v := 2) hx hb dX5_setBreakage_20 (by decide) ?_
    refine lv_iadd hx hb dX5_setBreakage_21 ?_
    refine lv_topi (fun z4 ez4 => ?_)
    obtain rfl : 3 = z4 := (ez4.trans (by decide)).symm
    refine lv_iload_n hx hb dX5_setBreakage_22 rfl (lv_at hl 3 rfl) ?_
    refine x_callSi hE hK hI (c_X5_isShareTo_y l G o _ _ 3 b (by decide)) mf_X5_isShareTo mw_195 rfl hl.1 rfl (Nat.le_of_ble_eq_true rfl) ⟨(Nat.le_of_ble_eq_true rfl), (Nat.le_of_ble_eq_true rfl)⟩ ⟨Nat.zero_le _, Nat.zero_le _⟩ dX5_setBreakage_23 (fun H locs hI => ?_)
    refine lv_if_eq (tgt := 40) hx hb dX5_setBreakage_26 (by decide) (fun c5 => ?_) (fun c5 => ?_)
    · have c5 := bI_eq0.mp c5
      refine lv_bipush (v := (-3)) hx hb dX5_setBreakage_40 (by decide) ?_
      exact x_iret hE hr hlocks hI rfl rfl rfl dX5_setBreakage_42
    · have c5 := bI_ne0.mp c5
      refine lv_iload_n hx hb dX5_setBreakage_29 rfl (lv_at hl 1 rfl) ?_
      refine lv_iconst (v := 3) hx hb dX5_setBreakage_30 (by decide) ?_
      refine lv_iadd hx hb dX5_setBreakage_31 ?_
      refine lv_topi (fun z6 ez6 => ?_)
      obtain rfl : 4 = z6 := (ez6.trans (by decide)).symm
      refine lv_iload hx hb dX5_setBreakage_32 (lv_at hl 4 rfl) ?_
      refine x_callSi hE hK hI (c_X5_isShareTo_n l G o _ _ 4 c (by decide)) mf_X5_isShareTo mw_195 rfl hl.1 rfl (Nat.le_of_ble_eq_true rfl) ⟨(Nat.le_of_ble_eq_true rfl), (Nat.le_of_ble_eq_true rfl)⟩ ⟨Nat.zero_le _, Nat.zero_le _⟩ dX5_setBreakage_34 (fun H locs hI => ?_)
      refine lv_if_ne (tgt := 43) hx hb dX5_setBreakage_37 (by decide) (fun c7 => ?_) (fun c7 => ?_)
      · have c7 := bI_ne0.mp c7
        refine lv_iload_n hx hb dX5_setBreakage_43 rfl (lv_at hl 2 rfl) ?_
        refine lv_iload_n hx hb dX5_setBreakage_44 rfl (lv_at hl 3 rfl) ?_
        refine lv_iadd hx hb dX5_setBreakage_45 ?_
        refine lv_iload hx hb dX5_setBreakage_46 (lv_at hl 4 rfl) ?_
        refine lv_iadd hx hb dX5_setBreakage_48 ?_
        refine lv_bipush (v := 10) hx hb dX5_setBreakage_49 (by decide) ?_
        refine lv_icmp_le (tgt := 57) hx hb dX5_setBreakage_51 (by decide) (fun c8 => ?_) (fun c8 => ?_)
        · exact absurd ⟨c3, c5, c7, c8⟩ h
        · refine lv_bipush (v := (-3)) hx hb dX5_setBreakage_54 (by decide) ?_
          exact x_iret hE hr hlocks hI rfl rfl rfl dX5_setBreakage_56
      · have c7 := bI_eq0.mp c7
        refine lv_bipush (v := (-3)) hx hb dX5_setBreakage_40 (by decide) ?_
        exact x_iret hE hr hlocks hI rfl rfl rfl dX5_setBreakage_42
def sb2X (X : SX) (a : Int32) (b : Int32) (c : Int32) : SX := sx (sx X 6 3 a) 6 2 (((10 - a) - b) - c)
set_option maxRecDepth 100000 in
set_option maxHeartbeats 4000000 in
theorem c_X5_setBreakage_ok_2 (l : Launch) (G : GG) (o : Nat) (X : SX) (Y : SY) (a : Int32) (b : Int32) (c : Int32) (h0 : Wi a 0 10) (h1 : Wi b 0 0) (h2 : Wi c 0 0) (h3 : (a + b) + c ≤ 10) : Ct l yX5_setBreakage cX5_setBreakage 7 (some .int) 3 65 G o [.ref (o + 0), .int 2, .int a, .int b, .int c] X Y (some (.int (((10 - a) - b) - c))) (sb2X X a b c) Y := by
  refine Ct.mk (by decide +kernel) (Nat.le_of_ble_eq_true rfl) rfl ?_
  intro p9 e9 s9 m9 args9 below9 meth9 c9 hE hr hlocks hK hI ls hl
  have hx := hE.1
  have hb := hE.2.1
  have hl : lv_has ls 7 [(0, .ref (o + 0)), (1, .int 2), (2, .int a), (3, .int b), (4, .int c)] := hl
  refine lv_iload_n hx hb dX5_setBreakage_0 rfl (lv_at hl 1 rfl) ?_
  refine x_callSi hE hK hI (c_X5_isSize l G o _ _ 2 ) mf_X5_isSize mw_189 rfl hl.1 rfl (Nat.le_of_ble_eq_true rfl) ⟨(Nat.le_of_ble_eq_true rfl), (Nat.le_of_ble_eq_true rfl)⟩ ⟨Nat.zero_le _, Nat.zero_le _⟩ dX5_setBreakage_1 (fun H locs hI => ?_)
  refine lv_topi (fun z1 ez1 => ?_)
  obtain rfl : 1 = z1 := (ez1.trans (bI_t (by decide))).symm
  refine lv_if_ne (tgt := 9) hx hb dX5_setBreakage_4 (by decide) (fun _ => ?_) (fun q => absurd q (by decide))
  refine lv_iload_n hx hb dX5_setBreakage_9 rfl (lv_at hl 1 rfl) ?_
  refine lv_iconst (v := 1) hx hb dX5_setBreakage_10 (by decide) ?_
  refine lv_iadd hx hb dX5_setBreakage_11 ?_
  refine lv_topi (fun z2 ez2 => ?_)
  obtain rfl : 3 = z2 := (ez2.trans (by decide)).symm
  refine lv_iload_n hx hb dX5_setBreakage_12 rfl (lv_at hl 2 rfl) ?_
  refine x_callSi hE hK hI (c_X5_isShareTo_y l G o _ _ 3 a (by decide)) mf_X5_isShareTo mw_195 rfl hl.1 rfl (Nat.le_of_ble_eq_true rfl) ⟨(Nat.le_of_ble_eq_true rfl), (Nat.le_of_ble_eq_true rfl)⟩ ⟨Nat.zero_le _, Nat.zero_le _⟩ dX5_setBreakage_13 (fun H locs hI => ?_)
  refine lv_topi (fun z3 ez3 => ?_)
  obtain rfl : 1 = z3 := (ez3.trans (bI_t h0)).symm
  refine lv_if_eq (tgt := 40) hx hb dX5_setBreakage_16 (by decide) (fun q => absurd q (by decide)) (fun _ => ?_)
  refine lv_iload_n hx hb dX5_setBreakage_19 rfl (lv_at hl 1 rfl) ?_
  refine lv_iconst (v := 2) hx hb dX5_setBreakage_20 (by decide) ?_
  refine lv_iadd hx hb dX5_setBreakage_21 ?_
  refine lv_topi (fun z4 ez4 => ?_)
  obtain rfl : 4 = z4 := (ez4.trans (by decide)).symm
  refine lv_iload_n hx hb dX5_setBreakage_22 rfl (lv_at hl 3 rfl) ?_
  refine x_callSi hE hK hI (c_X5_isShareTo_n l G o _ _ 4 b (by decide)) mf_X5_isShareTo mw_195 rfl hl.1 rfl (Nat.le_of_ble_eq_true rfl) ⟨(Nat.le_of_ble_eq_true rfl), (Nat.le_of_ble_eq_true rfl)⟩ ⟨Nat.zero_le _, Nat.zero_le _⟩ dX5_setBreakage_23 (fun H locs hI => ?_)
  refine lv_topi (fun z5 ez5 => ?_)
  obtain rfl : 1 = z5 := (ez5.trans (bI_t h1)).symm
  refine lv_if_eq (tgt := 40) hx hb dX5_setBreakage_26 (by decide) (fun q => absurd q (by decide)) (fun _ => ?_)
  refine lv_iload_n hx hb dX5_setBreakage_29 rfl (lv_at hl 1 rfl) ?_
  refine lv_iconst (v := 3) hx hb dX5_setBreakage_30 (by decide) ?_
  refine lv_iadd hx hb dX5_setBreakage_31 ?_
  refine lv_topi (fun z6 ez6 => ?_)
  obtain rfl : 5 = z6 := (ez6.trans (by decide)).symm
  refine lv_iload hx hb dX5_setBreakage_32 (lv_at hl 4 rfl) ?_
  refine x_callSi hE hK hI (c_X5_isShareTo_n l G o _ _ 5 c (by decide)) mf_X5_isShareTo mw_195 rfl hl.1 rfl (Nat.le_of_ble_eq_true rfl) ⟨(Nat.le_of_ble_eq_true rfl), (Nat.le_of_ble_eq_true rfl)⟩ ⟨Nat.zero_le _, Nat.zero_le _⟩ dX5_setBreakage_34 (fun H locs hI => ?_)
  refine lv_topi (fun z7 ez7 => ?_)
  obtain rfl : 1 = z7 := (ez7.trans (bI_t h2)).symm
  refine lv_if_ne (tgt := 43) hx hb dX5_setBreakage_37 (by decide) (fun _ => ?_) (fun q => absurd q (by decide))
  refine lv_iload_n hx hb dX5_setBreakage_43 rfl (lv_at hl 2 rfl) ?_
  refine lv_iload_n hx hb dX5_setBreakage_44 rfl (lv_at hl 3 rfl) ?_
  refine lv_iadd hx hb dX5_setBreakage_45 ?_
  refine lv_iload hx hb dX5_setBreakage_46 (lv_at hl 4 rfl) ?_
  refine lv_iadd hx hb dX5_setBreakage_48 ?_
  refine lv_bipush (v := 10) hx hb dX5_setBreakage_49 (by decide) ?_
  refine lv_icmp_le (tgt := 57) hx hb dX5_setBreakage_51 (by decide) (fun _ => ?_) (fun q => absurd h3 q)
  refine lv_aload_n hx hb dX5_setBreakage_57 rfl (lv_at hl 0 rfl) ?_
  refine x_get (k := 0) hE hK hI (by decide) inG5 (e_0 G o _ _) rfl 0 (by decide) mw_172 rfl dX5_setBreakage_58 ?_
  refine x_get (k := 1) hE hK hI (by decide) inG1 (e_1 G o _ _) rfl 0 (by decide) mw_139 rfl dX5_setBreakage_61 ?_
  refine lv_astore (lv' := [(5, .ref (o + 2)), (0, .ref (o + 0)), (1, .int 2), (2, .int a), (3, .int b), (4, .int c)]) hx hb dX5_setBreakage_64 hl (by decide) rfl (fun ls hl => ?_)
  refine lv_aload hx hb dX5_setBreakage_66 (lv_at hl 0 rfl) ?_
  refine lv_iload_n hx hb dX5_setBreakage_68 rfl (lv_at hl 2 rfl) ?_
  refine lv_iload_n hx hb dX5_setBreakage_69 rfl (lv_at hl 2 rfl) ?_
  refine lv_iconst (v := 1) hx hb dX5_setBreakage_70 (by decide) ?_
  refine lv_iadd hx hb dX5_setBreakage_71 ?_
  refine lv_topi (fun z8 ez8 => ?_)
  obtain rfl : 3 = z8 := (ez8.trans (by decide)).symm
  refine lv_iload_n hx hb dX5_setBreakage_72 rfl (lv_at hl 3 rfl) ?_
  refine x_callVv (k := 2) hE hK hI (c_X2_putShare_2_3 l G o _ _ a ) mf_X2_putShare mw_198 (by decide) ((e_2 G o) _ _) rfl rfl hl.1 rfl (Nat.le_of_ble_eq_true rfl) ⟨(Nat.le_of_ble_eq_true rfl), (Nat.le_of_ble_eq_true rfl)⟩ ⟨Nat.zero_le _, Nat.zero_le _⟩ dX5_setBreakage_73 (fun H locs hI => ?_)
  refine lv_aload hx hb dX5_setBreakage_76 (lv_at hl 0 rfl) ?_
  refine lv_iload_n hx hb dX5_setBreakage_78 rfl (lv_at hl 2 rfl) ?_
  refine lv_iload_n hx hb dX5_setBreakage_79 rfl (lv_at hl 2 rfl) ?_
  refine lv_iconst (v := 2) hx hb dX5_setBreakage_80 (by decide) ?_
  refine lv_iadd hx hb dX5_setBreakage_81 ?_
  refine lv_topi (fun z9 ez9 => ?_)
  obtain rfl : 4 = z9 := (ez9.trans (by decide)).symm
  refine lv_iload_n hx hb dX5_setBreakage_82 rfl (lv_at hl 4 rfl) ?_
  refine x_callVv (k := 2) hE hK hI (c_X2_putShare_2_4 l G o _ _ b ) mf_X2_putShare mw_198 (by decide) ((e_2 G o) _ _) rfl rfl hl.1 rfl (Nat.le_of_ble_eq_true rfl) ⟨(Nat.le_of_ble_eq_true rfl), (Nat.le_of_ble_eq_true rfl)⟩ ⟨Nat.zero_le _, Nat.zero_le _⟩ dX5_setBreakage_83 (fun H locs hI => ?_)
  refine lv_aload hx hb dX5_setBreakage_86 (lv_at hl 0 rfl) ?_
  refine lv_iload_n hx hb dX5_setBreakage_88 rfl (lv_at hl 2 rfl) ?_
  refine lv_iload_n hx hb dX5_setBreakage_89 rfl (lv_at hl 2 rfl) ?_
  refine lv_iconst (v := 3) hx hb dX5_setBreakage_90 (by decide) ?_
  refine lv_iadd hx hb dX5_setBreakage_91 ?_
  refine lv_topi (fun z10 ez10 => ?_)
  obtain rfl : 5 = z10 := (ez10.trans (by decide)).symm
  refine lv_iload hx hb dX5_setBreakage_92 (lv_at hl 5 rfl) ?_
  refine x_callVv (k := 2) hE hK hI (c_X2_putShare_2_5 l G o _ _ c ) mf_X2_putShare mw_198 (by decide) ((e_2 G o) _ _) rfl rfl hl.1 rfl (Nat.le_of_ble_eq_true rfl) ⟨(Nat.le_of_ble_eq_true rfl), (Nat.le_of_ble_eq_true rfl)⟩ ⟨Nat.zero_le _, Nat.zero_le _⟩ dX5_setBreakage_94 (fun H locs hI => ?_)
  refine lv_bipush (v := 10) hx hb dX5_setBreakage_97 (by decide) ?_
  refine lv_iload_n hx hb dX5_setBreakage_99 rfl (lv_at hl 3 rfl) ?_
  refine lv_isub hx hb dX5_setBreakage_100 ?_
  refine lv_iload_n hx hb dX5_setBreakage_101 rfl (lv_at hl 4 rfl) ?_
  refine lv_isub hx hb dX5_setBreakage_102 ?_
  refine lv_iload hx hb dX5_setBreakage_103 (lv_at hl 5 rfl) ?_
  refine lv_isub hx hb dX5_setBreakage_105 ?_
  refine lv_istore (lv' := [(6, .int (((10 - a) - b) - c)), (5, .ref (o + 2)), (0, .ref (o + 0)), (1, .int 2), (2, .int a), (3, .int b), (4, .int c)]) hx hb dX5_setBreakage_106 hl (by decide) rfl (fun ls hl => ?_)
  refine lv_aload hx hb dX5_setBreakage_108 (lv_at hl 1 rfl) ?_
  refine lv_iload_n hx hb dX5_setBreakage_110 rfl (lv_at hl 3 rfl) ?_
  refine lv_iload_n hx hb dX5_setBreakage_111 rfl (lv_at hl 3 rfl) ?_
  refine lv_iload hx hb dX5_setBreakage_112 (lv_at hl 0 rfl) ?_
  refine x_callVv (k := 2) hE hK hI (c_X2_putShare_2_2 l G o _ _ (((10 - a) - b) - c) ) mf_X2_putShare mw_198 (by decide) ((e_2 G o) _ _) rfl rfl hl.1 rfl (Nat.le_of_ble_eq_true rfl) ⟨(Nat.le_of_ble_eq_true rfl), (Nat.le_of_ble_eq_true rfl)⟩ ⟨Nat.zero_le _, Nat.zero_le _⟩ dX5_setBreakage_114 (fun H locs hI => ?_)
  refine lv_iload hx hb dX5_setBreakage_117 (lv_at hl 0 rfl) ?_
  exact x_iret hE hr hlocks hI rfl rfl rfl dX5_setBreakage_119
set_option maxRecDepth 100000 in
set_option maxHeartbeats 4000000 in
theorem c_X5_setBreakage_bad_2 (l : Launch) (G : GG) (o : Nat) (X : SX) (Y : SY) (a : Int32) (b : Int32) (c : Int32) (h : ¬ (Wi a 0 10 ∧ Wi b 0 0 ∧ Wi c 0 0 ∧ (a + b) + c ≤ 10)) : Ct l yX5_setBreakage cX5_setBreakage 7 (some .int) 3 63 G o [.ref (o + 0), .int 2, .int a, .int b, .int c] X Y (some (.int (-3))) X Y := by
  refine Ct.mk (by decide +kernel) (Nat.le_of_ble_eq_true rfl) rfl ?_
  intro p9 e9 s9 m9 args9 below9 meth9 c9 hE hr hlocks hK hI ls hl
  have hx := hE.1
  have hb := hE.2.1
  have hl : lv_has ls 7 [(0, .ref (o + 0)), (1, .int 2), (2, .int a), (3, .int b), (4, .int c)] := hl
  refine lv_iload_n hx hb dX5_setBreakage_0 rfl (lv_at hl 1 rfl) ?_
  refine x_callSi hE hK hI (c_X5_isSize l G o _ _ 2 ) mf_X5_isSize mw_189 rfl hl.1 rfl (Nat.le_of_ble_eq_true rfl) ⟨(Nat.le_of_ble_eq_true rfl), (Nat.le_of_ble_eq_true rfl)⟩ ⟨Nat.zero_le _, Nat.zero_le _⟩ dX5_setBreakage_1 (fun H locs hI => ?_)
  refine lv_topi (fun z1 ez1 => ?_)
  obtain rfl : 1 = z1 := (ez1.trans (bI_t (by decide))).symm
  refine lv_if_ne (tgt := 9) hx hb dX5_setBreakage_4 (by decide) (fun _ => ?_) (fun q => absurd q (by decide))
  refine lv_iload_n hx hb dX5_setBreakage_9 rfl (lv_at hl 1 rfl) ?_
  refine lv_iconst (v := 1) hx hb dX5_setBreakage_10 (by decide) ?_
  refine lv_iadd hx hb dX5_setBreakage_11 ?_
  refine lv_topi (fun z2 ez2 => ?_)
  obtain rfl : 3 = z2 := (ez2.trans (by decide)).symm
  refine lv_iload_n hx hb dX5_setBreakage_12 rfl (lv_at hl 2 rfl) ?_
  refine x_callSi hE hK hI (c_X5_isShareTo_y l G o _ _ 3 a (by decide)) mf_X5_isShareTo mw_195 rfl hl.1 rfl (Nat.le_of_ble_eq_true rfl) ⟨(Nat.le_of_ble_eq_true rfl), (Nat.le_of_ble_eq_true rfl)⟩ ⟨Nat.zero_le _, Nat.zero_le _⟩ dX5_setBreakage_13 (fun H locs hI => ?_)
  refine lv_if_eq (tgt := 40) hx hb dX5_setBreakage_16 (by decide) (fun c3 => ?_) (fun c3 => ?_)
  · have c3 := bI_eq0.mp c3
    refine lv_bipush (v := (-3)) hx hb dX5_setBreakage_40 (by decide) ?_
    exact x_iret hE hr hlocks hI rfl rfl rfl dX5_setBreakage_42
  · have c3 := bI_ne0.mp c3
    refine lv_iload_n hx hb dX5_setBreakage_19 rfl (lv_at hl 1 rfl) ?_
    refine lv_iconst (v := 2) hx hb dX5_setBreakage_20 (by decide) ?_
    refine lv_iadd hx hb dX5_setBreakage_21 ?_
    refine lv_topi (fun z4 ez4 => ?_)
    obtain rfl : 4 = z4 := (ez4.trans (by decide)).symm
    refine lv_iload_n hx hb dX5_setBreakage_22 rfl (lv_at hl 3 rfl) ?_
    refine x_callSi hE hK hI (c_X5_isShareTo_n l G o _ _ 4 b (by decide)) mf_X5_isShareTo mw_195 rfl hl.1 rfl (Nat.le_of_ble_eq_true rfl) ⟨(Nat.le_of_ble_eq_true rfl), (Nat.le_of_ble_eq_true rfl)⟩ ⟨Nat.zero_le _, Nat.zero_le _⟩ dX5_setBreakage_23 (fun H locs hI => ?_)
    refine lv_if_eq (tgt := 40) hx hb dX5_setBreakage_26 (by decide) (fun c5 => ?_) (fun c5 => ?_)
    · have c5 := bI_eq0.mp c5
      refine lv_bipush (v := (-3)) hx hb dX5_setBreakage_40 (by decide) ?_
      exact x_iret hE hr hlocks hI rfl rfl rfl dX5_setBreakage_42
    · have c5 := bI_ne0.mp c5
      refine lv_iload_n hx hb dX5_setBreakage_29 rfl (lv_at hl 1 rfl) ?_
      refine lv_iconst (v := 3) hx hb dX5_setBreakage_30 (by decide) ?_
      refine lv_iadd hx hb dX5_setBreakage_31 ?_
      refine lv_topi (fun z6 ez6 => ?_)
      obtain rfl : 5 = z6 := (ez6.trans (by decide)).symm
      refine lv_iload hx hb dX5_setBreakage_32 (lv_at hl 4 rfl) ?_
      refine x_callSi hE hK hI (c_X5_isShareTo_n l G o _ _ 5 c (by decide)) mf_X5_isShareTo mw_195 rfl hl.1 rfl (Nat.le_of_ble_eq_true rfl) ⟨(Nat.le_of_ble_eq_true rfl), (Nat.le_of_ble_eq_true rfl)⟩ ⟨Nat.zero_le _, Nat.zero_le _⟩ dX5_setBreakage_34 (fun H locs hI => ?_)
      refine lv_if_ne (tgt := 43) hx hb dX5_setBreakage_37 (by decide) (fun c7 => ?_) (fun c7 => ?_)
      · have c7 := bI_ne0.mp c7
        refine lv_iload_n hx hb dX5_setBreakage_43 rfl (lv_at hl 2 rfl) ?_
        refine lv_iload_n hx hb dX5_setBreakage_44 rfl (lv_at hl 3 rfl) ?_
        refine lv_iadd hx hb dX5_setBreakage_45 ?_
        refine lv_iload hx hb dX5_setBreakage_46 (lv_at hl 4 rfl) ?_
        refine lv_iadd hx hb dX5_setBreakage_48 ?_
        refine lv_bipush (v := 10) hx hb dX5_setBreakage_49 (by decide) ?_
        refine lv_icmp_le (tgt := 57) hx hb dX5_setBreakage_51 (by decide) (fun c8 => ?_) (fun c8 => ?_)
        · exact absurd ⟨c3, c5, c7, c8⟩ h
        · refine lv_bipush (v := (-3)) hx hb dX5_setBreakage_54 (by decide) ?_
          exact x_iret hE hr hlocks hI rfl rfl rfl dX5_setBreakage_56
      · have c7 := bI_eq0.mp c7
        refine lv_bipush (v := (-3)) hx hb dX5_setBreakage_40 (by decide) ?_
        exact x_iret hE hr hlocks hI rfl rfl rfl dX5_setBreakage_42
def sb3X (X : SX) (a : Int32) (b : Int32) (c : Int32) : SX := sx X 7 3 (((10 - a) - b) - c)
set_option maxRecDepth 100000 in
set_option maxHeartbeats 4000000 in
theorem c_X5_setBreakage_ok_3 (l : Launch) (G : GG) (o : Nat) (X : SX) (Y : SY) (a : Int32) (b : Int32) (c : Int32) (h0 : Wi a 0 0) (h1 : Wi b 0 0) (h2 : Wi c 0 0) (h3 : (a + b) + c ≤ 10) : Ct l yX5_setBreakage cX5_setBreakage 7 (some .int) 3 65 G o [.ref (o + 0), .int 3, .int a, .int b, .int c] X Y (some (.int (((10 - a) - b) - c))) (sb3X X a b c) Y := by
  refine Ct.mk (by decide +kernel) (Nat.le_of_ble_eq_true rfl) rfl ?_
  intro p9 e9 s9 m9 args9 below9 meth9 c9 hE hr hlocks hK hI ls hl
  have hx := hE.1
  have hb := hE.2.1
  have hl : lv_has ls 7 [(0, .ref (o + 0)), (1, .int 3), (2, .int a), (3, .int b), (4, .int c)] := hl
  refine lv_iload_n hx hb dX5_setBreakage_0 rfl (lv_at hl 1 rfl) ?_
  refine x_callSi hE hK hI (c_X5_isSize l G o _ _ 3 ) mf_X5_isSize mw_189 rfl hl.1 rfl (Nat.le_of_ble_eq_true rfl) ⟨(Nat.le_of_ble_eq_true rfl), (Nat.le_of_ble_eq_true rfl)⟩ ⟨Nat.zero_le _, Nat.zero_le _⟩ dX5_setBreakage_1 (fun H locs hI => ?_)
  refine lv_topi (fun z1 ez1 => ?_)
  obtain rfl : 1 = z1 := (ez1.trans (bI_t (by decide))).symm
  refine lv_if_ne (tgt := 9) hx hb dX5_setBreakage_4 (by decide) (fun _ => ?_) (fun q => absurd q (by decide))
  refine lv_iload_n hx hb dX5_setBreakage_9 rfl (lv_at hl 1 rfl) ?_
  refine lv_iconst (v := 1) hx hb dX5_setBreakage_10 (by decide) ?_
  refine lv_iadd hx hb dX5_setBreakage_11 ?_
  refine lv_topi (fun z2 ez2 => ?_)
  obtain rfl : 4 = z2 := (ez2.trans (by decide)).symm
  refine lv_iload_n hx hb dX5_setBreakage_12 rfl (lv_at hl 2 rfl) ?_
  refine x_callSi hE hK hI (c_X5_isShareTo_n l G o _ _ 4 a (by decide)) mf_X5_isShareTo mw_195 rfl hl.1 rfl (Nat.le_of_ble_eq_true rfl) ⟨(Nat.le_of_ble_eq_true rfl), (Nat.le_of_ble_eq_true rfl)⟩ ⟨Nat.zero_le _, Nat.zero_le _⟩ dX5_setBreakage_13 (fun H locs hI => ?_)
  refine lv_topi (fun z3 ez3 => ?_)
  obtain rfl : 1 = z3 := (ez3.trans (bI_t h0)).symm
  refine lv_if_eq (tgt := 40) hx hb dX5_setBreakage_16 (by decide) (fun q => absurd q (by decide)) (fun _ => ?_)
  refine lv_iload_n hx hb dX5_setBreakage_19 rfl (lv_at hl 1 rfl) ?_
  refine lv_iconst (v := 2) hx hb dX5_setBreakage_20 (by decide) ?_
  refine lv_iadd hx hb dX5_setBreakage_21 ?_
  refine lv_topi (fun z4 ez4 => ?_)
  obtain rfl : 5 = z4 := (ez4.trans (by decide)).symm
  refine lv_iload_n hx hb dX5_setBreakage_22 rfl (lv_at hl 3 rfl) ?_
  refine x_callSi hE hK hI (c_X5_isShareTo_n l G o _ _ 5 b (by decide)) mf_X5_isShareTo mw_195 rfl hl.1 rfl (Nat.le_of_ble_eq_true rfl) ⟨(Nat.le_of_ble_eq_true rfl), (Nat.le_of_ble_eq_true rfl)⟩ ⟨Nat.zero_le _, Nat.zero_le _⟩ dX5_setBreakage_23 (fun H locs hI => ?_)
  refine lv_topi (fun z5 ez5 => ?_)
  obtain rfl : 1 = z5 := (ez5.trans (bI_t h1)).symm
  refine lv_if_eq (tgt := 40) hx hb dX5_setBreakage_26 (by decide) (fun q => absurd q (by decide)) (fun _ => ?_)
  refine lv_iload_n hx hb dX5_setBreakage_29 rfl (lv_at hl 1 rfl) ?_
  refine lv_iconst (v := 3) hx hb dX5_setBreakage_30 (by decide) ?_
  refine lv_iadd hx hb dX5_setBreakage_31 ?_
  refine lv_topi (fun z6 ez6 => ?_)
  obtain rfl : 6 = z6 := (ez6.trans (by decide)).symm
  refine lv_iload hx hb dX5_setBreakage_32 (lv_at hl 4 rfl) ?_
  refine x_callSi hE hK hI (c_X5_isShareTo_n l G o _ _ 6 c (by decide)) mf_X5_isShareTo mw_195 rfl hl.1 rfl (Nat.le_of_ble_eq_true rfl) ⟨(Nat.le_of_ble_eq_true rfl), (Nat.le_of_ble_eq_true rfl)⟩ ⟨Nat.zero_le _, Nat.zero_le _⟩ dX5_setBreakage_34 (fun H locs hI => ?_)
  refine lv_topi (fun z7 ez7 => ?_)
  obtain rfl : 1 = z7 := (ez7.trans (bI_t h2)).symm
  refine lv_if_ne (tgt := 43) hx hb dX5_setBreakage_37 (by decide) (fun _ => ?_) (fun q => absurd q (by decide))
  refine lv_iload_n hx hb dX5_setBreakage_43 rfl (lv_at hl 2 rfl) ?_
  refine lv_iload_n hx hb dX5_setBreakage_44 rfl (lv_at hl 3 rfl) ?_
  refine lv_iadd hx hb dX5_setBreakage_45 ?_
  refine lv_iload hx hb dX5_setBreakage_46 (lv_at hl 4 rfl) ?_
  refine lv_iadd hx hb dX5_setBreakage_48 ?_
  refine lv_bipush (v := 10) hx hb dX5_setBreakage_49 (by decide) ?_
  refine lv_icmp_le (tgt := 57) hx hb dX5_setBreakage_51 (by decide) (fun _ => ?_) (fun q => absurd h3 q)
  refine lv_aload_n hx hb dX5_setBreakage_57 rfl (lv_at hl 0 rfl) ?_
  refine x_get (k := 0) hE hK hI (by decide) inG5 (e_0 G o _ _) rfl 0 (by decide) mw_172 rfl dX5_setBreakage_58 ?_
  refine x_get (k := 1) hE hK hI (by decide) inG1 (e_1 G o _ _) rfl 0 (by decide) mw_139 rfl dX5_setBreakage_61 ?_
  refine lv_astore (lv' := [(5, .ref (o + 2)), (0, .ref (o + 0)), (1, .int 3), (2, .int a), (3, .int b), (4, .int c)]) hx hb dX5_setBreakage_64 hl (by decide) rfl (fun ls hl => ?_)
  refine lv_aload hx hb dX5_setBreakage_66 (lv_at hl 0 rfl) ?_
  refine lv_iload_n hx hb dX5_setBreakage_68 rfl (lv_at hl 2 rfl) ?_
  refine lv_iload_n hx hb dX5_setBreakage_69 rfl (lv_at hl 2 rfl) ?_
  refine lv_iconst (v := 1) hx hb dX5_setBreakage_70 (by decide) ?_
  refine lv_iadd hx hb dX5_setBreakage_71 ?_
  refine lv_topi (fun z8 ez8 => ?_)
  obtain rfl : 4 = z8 := (ez8.trans (by decide)).symm
  refine lv_iload_n hx hb dX5_setBreakage_72 rfl (lv_at hl 3 rfl) ?_
  refine x_callVv (k := 2) hE hK hI (c_X2_putShare_3_4 l G o _ _ a ) mf_X2_putShare mw_198 (by decide) ((e_2 G o) _ _) rfl rfl hl.1 rfl (Nat.le_of_ble_eq_true rfl) ⟨(Nat.le_of_ble_eq_true rfl), (Nat.le_of_ble_eq_true rfl)⟩ ⟨Nat.zero_le _, Nat.zero_le _⟩ dX5_setBreakage_73 (fun H locs hI => ?_)
  refine lv_aload hx hb dX5_setBreakage_76 (lv_at hl 0 rfl) ?_
  refine lv_iload_n hx hb dX5_setBreakage_78 rfl (lv_at hl 2 rfl) ?_
  refine lv_iload_n hx hb dX5_setBreakage_79 rfl (lv_at hl 2 rfl) ?_
  refine lv_iconst (v := 2) hx hb dX5_setBreakage_80 (by decide) ?_
  refine lv_iadd hx hb dX5_setBreakage_81 ?_
  refine lv_topi (fun z9 ez9 => ?_)
  obtain rfl : 5 = z9 := (ez9.trans (by decide)).symm
  refine lv_iload_n hx hb dX5_setBreakage_82 rfl (lv_at hl 4 rfl) ?_
  refine x_callVv (k := 2) hE hK hI (c_X2_putShare_3_5 l G o _ _ b ) mf_X2_putShare mw_198 (by decide) ((e_2 G o) _ _) rfl rfl hl.1 rfl (Nat.le_of_ble_eq_true rfl) ⟨(Nat.le_of_ble_eq_true rfl), (Nat.le_of_ble_eq_true rfl)⟩ ⟨Nat.zero_le _, Nat.zero_le _⟩ dX5_setBreakage_83 (fun H locs hI => ?_)
  refine lv_aload hx hb dX5_setBreakage_86 (lv_at hl 0 rfl) ?_
  refine lv_iload_n hx hb dX5_setBreakage_88 rfl (lv_at hl 2 rfl) ?_
  refine lv_iload_n hx hb dX5_setBreakage_89 rfl (lv_at hl 2 rfl) ?_
  refine lv_iconst (v := 3) hx hb dX5_setBreakage_90 (by decide) ?_
  refine lv_iadd hx hb dX5_setBreakage_91 ?_
  refine lv_topi (fun z10 ez10 => ?_)
  obtain rfl : 6 = z10 := (ez10.trans (by decide)).symm
  refine lv_iload hx hb dX5_setBreakage_92 (lv_at hl 5 rfl) ?_
  refine x_callVv (k := 2) hE hK hI (c_X2_putShare_3_6 l G o _ _ c ) mf_X2_putShare mw_198 (by decide) ((e_2 G o) _ _) rfl rfl hl.1 rfl (Nat.le_of_ble_eq_true rfl) ⟨(Nat.le_of_ble_eq_true rfl), (Nat.le_of_ble_eq_true rfl)⟩ ⟨Nat.zero_le _, Nat.zero_le _⟩ dX5_setBreakage_94 (fun H locs hI => ?_)
  refine lv_bipush (v := 10) hx hb dX5_setBreakage_97 (by decide) ?_
  refine lv_iload_n hx hb dX5_setBreakage_99 rfl (lv_at hl 3 rfl) ?_
  refine lv_isub hx hb dX5_setBreakage_100 ?_
  refine lv_iload_n hx hb dX5_setBreakage_101 rfl (lv_at hl 4 rfl) ?_
  refine lv_isub hx hb dX5_setBreakage_102 ?_
  refine lv_iload hx hb dX5_setBreakage_103 (lv_at hl 5 rfl) ?_
  refine lv_isub hx hb dX5_setBreakage_105 ?_
  refine lv_istore (lv' := [(6, .int (((10 - a) - b) - c)), (5, .ref (o + 2)), (0, .ref (o + 0)), (1, .int 3), (2, .int a), (3, .int b), (4, .int c)]) hx hb dX5_setBreakage_106 hl (by decide) rfl (fun ls hl => ?_)
  refine lv_aload hx hb dX5_setBreakage_108 (lv_at hl 1 rfl) ?_
  refine lv_iload_n hx hb dX5_setBreakage_110 rfl (lv_at hl 3 rfl) ?_
  refine lv_iload_n hx hb dX5_setBreakage_111 rfl (lv_at hl 3 rfl) ?_
  refine lv_iload hx hb dX5_setBreakage_112 (lv_at hl 0 rfl) ?_
  refine x_callVv (k := 2) hE hK hI (c_X2_putShare_3_3 l G o _ _ (((10 - a) - b) - c) ) mf_X2_putShare mw_198 (by decide) ((e_2 G o) _ _) rfl rfl hl.1 rfl (Nat.le_of_ble_eq_true rfl) ⟨(Nat.le_of_ble_eq_true rfl), (Nat.le_of_ble_eq_true rfl)⟩ ⟨Nat.zero_le _, Nat.zero_le _⟩ dX5_setBreakage_114 (fun H locs hI => ?_)
  refine lv_iload hx hb dX5_setBreakage_117 (lv_at hl 0 rfl) ?_
  exact x_iret hE hr hlocks hI rfl rfl rfl dX5_setBreakage_119
set_option maxRecDepth 100000 in
set_option maxHeartbeats 4000000 in
theorem c_X5_setBreakage_bad_3 (l : Launch) (G : GG) (o : Nat) (X : SX) (Y : SY) (a : Int32) (b : Int32) (c : Int32) (h : ¬ (Wi a 0 0 ∧ Wi b 0 0 ∧ Wi c 0 0 ∧ (a + b) + c ≤ 10)) : Ct l yX5_setBreakage cX5_setBreakage 7 (some .int) 3 63 G o [.ref (o + 0), .int 3, .int a, .int b, .int c] X Y (some (.int (-3))) X Y := by
  refine Ct.mk (by decide +kernel) (Nat.le_of_ble_eq_true rfl) rfl ?_
  intro p9 e9 s9 m9 args9 below9 meth9 c9 hE hr hlocks hK hI ls hl
  have hx := hE.1
  have hb := hE.2.1
  have hl : lv_has ls 7 [(0, .ref (o + 0)), (1, .int 3), (2, .int a), (3, .int b), (4, .int c)] := hl
  refine lv_iload_n hx hb dX5_setBreakage_0 rfl (lv_at hl 1 rfl) ?_
  refine x_callSi hE hK hI (c_X5_isSize l G o _ _ 3 ) mf_X5_isSize mw_189 rfl hl.1 rfl (Nat.le_of_ble_eq_true rfl) ⟨(Nat.le_of_ble_eq_true rfl), (Nat.le_of_ble_eq_true rfl)⟩ ⟨Nat.zero_le _, Nat.zero_le _⟩ dX5_setBreakage_1 (fun H locs hI => ?_)
  refine lv_topi (fun z1 ez1 => ?_)
  obtain rfl : 1 = z1 := (ez1.trans (bI_t (by decide))).symm
  refine lv_if_ne (tgt := 9) hx hb dX5_setBreakage_4 (by decide) (fun _ => ?_) (fun q => absurd q (by decide))
  refine lv_iload_n hx hb dX5_setBreakage_9 rfl (lv_at hl 1 rfl) ?_
  refine lv_iconst (v := 1) hx hb dX5_setBreakage_10 (by decide) ?_
  refine lv_iadd hx hb dX5_setBreakage_11 ?_
  refine lv_topi (fun z2 ez2 => ?_)
  obtain rfl : 4 = z2 := (ez2.trans (by decide)).symm
  refine lv_iload_n hx hb dX5_setBreakage_12 rfl (lv_at hl 2 rfl) ?_
  refine x_callSi hE hK hI (c_X5_isShareTo_n l G o _ _ 4 a (by decide)) mf_X5_isShareTo mw_195 rfl hl.1 rfl (Nat.le_of_ble_eq_true rfl) ⟨(Nat.le_of_ble_eq_true rfl), (Nat.le_of_ble_eq_true rfl)⟩ ⟨Nat.zero_le _, Nat.zero_le _⟩ dX5_setBreakage_13 (fun H locs hI => ?_)
  refine lv_if_eq (tgt := 40) hx hb dX5_setBreakage_16 (by decide) (fun c3 => ?_) (fun c3 => ?_)
  · have c3 := bI_eq0.mp c3
    refine lv_bipush (v := (-3)) hx hb dX5_setBreakage_40 (by decide) ?_
    exact x_iret hE hr hlocks hI rfl rfl rfl dX5_setBreakage_42
  · have c3 := bI_ne0.mp c3
    refine lv_iload_n hx hb dX5_setBreakage_19 rfl (lv_at hl 1 rfl) ?_
    refine lv_iconst (v := 2) hx hb dX5_setBreakage_20 (by decide) ?_
    refine lv_iadd hx hb dX5_setBreakage_21 ?_
    refine lv_topi (fun z4 ez4 => ?_)
    obtain rfl : 5 = z4 := (ez4.trans (by decide)).symm
    refine lv_iload_n hx hb dX5_setBreakage_22 rfl (lv_at hl 3 rfl) ?_
    refine x_callSi hE hK hI (c_X5_isShareTo_n l G o _ _ 5 b (by decide)) mf_X5_isShareTo mw_195 rfl hl.1 rfl (Nat.le_of_ble_eq_true rfl) ⟨(Nat.le_of_ble_eq_true rfl), (Nat.le_of_ble_eq_true rfl)⟩ ⟨Nat.zero_le _, Nat.zero_le _⟩ dX5_setBreakage_23 (fun H locs hI => ?_)
    refine lv_if_eq (tgt := 40) hx hb dX5_setBreakage_26 (by decide) (fun c5 => ?_) (fun c5 => ?_)
    · have c5 := bI_eq0.mp c5
      refine lv_bipush (v := (-3)) hx hb dX5_setBreakage_40 (by decide) ?_
      exact x_iret hE hr hlocks hI rfl rfl rfl dX5_setBreakage_42
    · have c5 := bI_ne0.mp c5
      refine lv_iload_n hx hb dX5_setBreakage_29 rfl (lv_at hl 1 rfl) ?_
      refine lv_iconst (v := 3) hx hb dX5_setBreakage_30 (by decide) ?_
      refine lv_iadd hx hb dX5_setBreakage_31 ?_
      refine lv_topi (fun z6 ez6 => ?_)
      obtain rfl : 6 = z6 := (ez6.trans (by decide)).symm
      refine lv_iload hx hb dX5_setBreakage_32 (lv_at hl 4 rfl) ?_
      refine x_callSi hE hK hI (c_X5_isShareTo_n l G o _ _ 6 c (by decide)) mf_X5_isShareTo mw_195 rfl hl.1 rfl (Nat.le_of_ble_eq_true rfl) ⟨(Nat.le_of_ble_eq_true rfl), (Nat.le_of_ble_eq_true rfl)⟩ ⟨Nat.zero_le _, Nat.zero_le _⟩ dX5_setBreakage_34 (fun H locs hI => ?_)
      refine lv_if_ne (tgt := 43) hx hb dX5_setBreakage_37 (by decide) (fun c7 => ?_) (fun c7 => ?_)
      · have c7 := bI_ne0.mp c7
        refine lv_iload_n hx hb dX5_setBreakage_43 rfl (lv_at hl 2 rfl) ?_
        refine lv_iload_n hx hb dX5_setBreakage_44 rfl (lv_at hl 3 rfl) ?_
        refine lv_iadd hx hb dX5_setBreakage_45 ?_
        refine lv_iload hx hb dX5_setBreakage_46 (lv_at hl 4 rfl) ?_
        refine lv_iadd hx hb dX5_setBreakage_48 ?_
        refine lv_bipush (v := 10) hx hb dX5_setBreakage_49 (by decide) ?_
        refine lv_icmp_le (tgt := 57) hx hb dX5_setBreakage_51 (by decide) (fun c8 => ?_) (fun c8 => ?_)
        · exact absurd ⟨c3, c5, c7, c8⟩ h
        · refine lv_bipush (v := (-3)) hx hb dX5_setBreakage_54 (by decide) ?_
          exact x_iret hE hr hlocks hI rfl rfl rfl dX5_setBreakage_56
      · have c7 := bI_eq0.mp c7
        refine lv_bipush (v := (-3)) hx hb dX5_setBreakage_40 (by decide) ?_
        exact x_iret hE hr hlocks hI rfl rfl rfl dX5_setBreakage_42
set_option maxRecDepth 100000 in
set_option maxHeartbeats 4000000 in
theorem c_X5_share_a (l : Launch) (G : GG) (o : Nat) (X : SX) (Y : SY) (u : Int32) (v : Int32) (h : ¬ (Wi u 0 3)) : Ct l yX5_share cX5_share 3 (some .int) 2 42 G o [.ref (o + 0), .int u, .int v] X Y (some (.int (-1))) X Y := by
  refine Ct.mk (by decide +kernel) (Nat.le_of_ble_eq_true rfl) rfl ?_
  intro p9 e9 s9 m9 args9 below9 meth9 c9 hE hr hlocks hK hI ls hl
  have hx := hE.1
  have hb := hE.2.1
  have hl : lv_has ls 3 [(0, .ref (o + 0)), (1, .int u), (2, .int v)] := hl
  refine lv_iload_n hx hb dX5_share_0 rfl (lv_at hl 1 rfl) ?_
  refine x_callSi hE hK hI (c_X5_isSize l G o _ _ u ) mf_X5_isSize mw_189 rfl hl.1 rfl (Nat.le_of_ble_eq_true rfl) ⟨(Nat.le_of_ble_eq_true rfl), (Nat.le_of_ble_eq_true rfl)⟩ ⟨Nat.zero_le _, Nat.zero_le _⟩ dX5_share_1 (fun H locs hI => ?_)
  refine lv_topi (fun z1 ez1 => ?_)
  obtain rfl : 0 = z1 := (ez1.trans (bI_f h)).symm
  refine lv_if_eq (tgt := 14) hx hb dX5_share_4 (by decide) (fun _ => ?_) (fun q => absurd (by decide) q)
  refine lv_iconst (v := (-1)) hx hb dX5_share_14 (by decide) ?_
  exact x_iret hE hr hlocks hI rfl rfl rfl dX5_share_15
set_option maxRecDepth 100000 in
set_option maxHeartbeats 4000000 in
theorem c_X5_share_b (l : Launch) (G : GG) (o : Nat) (X : SX) (Y : SY) (u : Int32) (v : Int32) (h1 : Wi u 0 3) (h : ¬ (Wi v 0 3)) : Ct l yX5_share cX5_share 3 (some .int) 2 42 G o [.ref (o + 0), .int u, .int v] X Y (some (.int (-1))) X Y := by
  refine Ct.mk (by decide +kernel) (Nat.le_of_ble_eq_true rfl) rfl ?_
  intro p9 e9 s9 m9 args9 below9 meth9 c9 hE hr hlocks hK hI ls hl
  have hx := hE.1
  have hb := hE.2.1
  have hl : lv_has ls 3 [(0, .ref (o + 0)), (1, .int u), (2, .int v)] := hl
  refine lv_iload_n hx hb dX5_share_0 rfl (lv_at hl 1 rfl) ?_
  refine x_callSi hE hK hI (c_X5_isSize l G o _ _ u ) mf_X5_isSize mw_189 rfl hl.1 rfl (Nat.le_of_ble_eq_true rfl) ⟨(Nat.le_of_ble_eq_true rfl), (Nat.le_of_ble_eq_true rfl)⟩ ⟨Nat.zero_le _, Nat.zero_le _⟩ dX5_share_1 (fun H locs hI => ?_)
  refine lv_topi (fun z1 ez1 => ?_)
  obtain rfl : 1 = z1 := (ez1.trans (bI_t h1)).symm
  refine lv_if_eq (tgt := 14) hx hb dX5_share_4 (by decide) (fun q => absurd q (by decide)) (fun _ => ?_)
  refine lv_iload_n hx hb dX5_share_7 rfl (lv_at hl 2 rfl) ?_
  refine x_callSi hE hK hI (c_X5_isSize l G o _ _ v ) mf_X5_isSize mw_189 rfl hl.1 rfl (Nat.le_of_ble_eq_true rfl) ⟨(Nat.le_of_ble_eq_true rfl), (Nat.le_of_ble_eq_true rfl)⟩ ⟨Nat.zero_le _, Nat.zero_le _⟩ dX5_share_8 (fun H locs hI => ?_)
  refine lv_topi (fun z2 ez2 => ?_)
  obtain rfl : 0 = z2 := (ez2.trans (bI_f h)).symm
  refine lv_if_ne (tgt := 16) hx hb dX5_share_11 (by decide) (fun q => absurd (by decide) q) (fun _ => ?_)
  refine lv_iconst (v := (-1)) hx hb dX5_share_14 (by decide) ?_
  exact x_iret hE hr hlocks hI rfl rfl rfl dX5_share_15
set_option maxRecDepth 100000 in
set_option maxHeartbeats 4000000 in
theorem c_X5_share_0 (l : Launch) (G : GG) (o : Nat) (X : SX) (Y : SY) (t : Nat) (h : t < 4) (h1 : Wi (nI t) 0 3) : Ct l yX5_share cX5_share 3 (some .int) 2 42 G o [.ref (o + 0), .int 0, .int (nI t)] X Y (some (.int (X 4 t))) X Y := by
  refine Ct.mk (by decide +kernel) (Nat.le_of_ble_eq_true rfl) rfl ?_
  intro p9 e9 s9 m9 args9 below9 meth9 c9 hE hr hlocks hK hI ls hl
  have hx := hE.1
  have hb := hE.2.1
  have hl : lv_has ls 3 [(0, .ref (o + 0)), (1, .int 0), (2, .int (nI t))] := hl
  refine lv_iload_n hx hb dX5_share_0 rfl (lv_at hl 1 rfl) ?_
  refine x_callSi hE hK hI (c_X5_isSize l G o _ _ 0 ) mf_X5_isSize mw_189 rfl hl.1 rfl (Nat.le_of_ble_eq_true rfl) ⟨(Nat.le_of_ble_eq_true rfl), (Nat.le_of_ble_eq_true rfl)⟩ ⟨Nat.zero_le _, Nat.zero_le _⟩ dX5_share_1 (fun H locs hI => ?_)
  refine lv_topi (fun z1 ez1 => ?_)
  obtain rfl : 1 = z1 := (ez1.trans (bI_t (by decide))).symm
  refine lv_if_eq (tgt := 14) hx hb dX5_share_4 (by decide) (fun q => absurd q (by decide)) (fun _ => ?_)
  refine lv_iload_n hx hb dX5_share_7 rfl (lv_at hl 2 rfl) ?_
  refine x_callSi hE hK hI (c_X5_isSize l G o _ _ (nI t) ) mf_X5_isSize mw_189 rfl hl.1 rfl (Nat.le_of_ble_eq_true rfl) ⟨(Nat.le_of_ble_eq_true rfl), (Nat.le_of_ble_eq_true rfl)⟩ ⟨Nat.zero_le _, Nat.zero_le _⟩ dX5_share_8 (fun H locs hI => ?_)
  refine lv_topi (fun z2 ez2 => ?_)
  obtain rfl : 1 = z2 := (ez2.trans (bI_t h1)).symm
  refine lv_if_ne (tgt := 16) hx hb dX5_share_11 (by decide) (fun _ => ?_) (fun q => absurd q (by decide))
  refine lv_aload_n hx hb dX5_share_16 rfl (lv_at hl 0 rfl) ?_
  refine x_get (k := 0) hE hK hI (by decide) inG5 (e_0 G o _ _) rfl 0 (by decide) mw_172 rfl dX5_share_17 ?_
  refine x_get (k := 1) hE hK hI (by decide) inG1 (e_1 G o _ _) rfl 0 (by decide) mw_139 rfl dX5_share_20 ?_
  refine x_get (k := 2) hE hK hI (by decide) inG2 (e_2 G o _ _) rfl 0 (by decide) mw_33 rfl dX5_share_23 ?_
  refine lv_iload_n hx hb dX5_share_26 rfl (lv_at hl 1 rfl) ?_
  refine x_aald (k := 3) (j := 0) (t0 := 5) (q := o + 4) hE hK hI (by decide) (e_3 G o) rfl rfl (by decide) (by decide) rfl rfl dX5_share_27 ?_
  refine lv_iload_n hx hb dX5_share_28 rfl (lv_at hl 2 rfl) ?_
  refine x_iald (k := 4) (j := t) hE hK hI (by decide) (e_4 G o) h (by decide) rfl dX5_share_29 ?_
  exact x_iret hE hr hlocks hI rfl rfl rfl dX5_share_30
set_option maxRecDepth 100000 in
set_option maxHeartbeats 4000000 in
theorem c_X5_share_1 (l : Launch) (G : GG) (o : Nat) (X : SX) (Y : SY) (t : Nat) (h : t < 4) (h1 : Wi (nI t) 0 3) : Ct l yX5_share cX5_share 3 (some .int) 2 42 G o [.ref (o + 0), .int 1, .int (nI t)] X Y (some (.int (X 5 t))) X Y := by
  refine Ct.mk (by decide +kernel) (Nat.le_of_ble_eq_true rfl) rfl ?_
  intro p9 e9 s9 m9 args9 below9 meth9 c9 hE hr hlocks hK hI ls hl
  have hx := hE.1
  have hb := hE.2.1
  have hl : lv_has ls 3 [(0, .ref (o + 0)), (1, .int 1), (2, .int (nI t))] := hl
  refine lv_iload_n hx hb dX5_share_0 rfl (lv_at hl 1 rfl) ?_
  refine x_callSi hE hK hI (c_X5_isSize l G o _ _ 1 ) mf_X5_isSize mw_189 rfl hl.1 rfl (Nat.le_of_ble_eq_true rfl) ⟨(Nat.le_of_ble_eq_true rfl), (Nat.le_of_ble_eq_true rfl)⟩ ⟨Nat.zero_le _, Nat.zero_le _⟩ dX5_share_1 (fun H locs hI => ?_)
  refine lv_topi (fun z1 ez1 => ?_)
  obtain rfl : 1 = z1 := (ez1.trans (bI_t (by decide))).symm
  refine lv_if_eq (tgt := 14) hx hb dX5_share_4 (by decide) (fun q => absurd q (by decide)) (fun _ => ?_)
  refine lv_iload_n hx hb dX5_share_7 rfl (lv_at hl 2 rfl) ?_
  refine x_callSi hE hK hI (c_X5_isSize l G o _ _ (nI t) ) mf_X5_isSize mw_189 rfl hl.1 rfl (Nat.le_of_ble_eq_true rfl) ⟨(Nat.le_of_ble_eq_true rfl), (Nat.le_of_ble_eq_true rfl)⟩ ⟨Nat.zero_le _, Nat.zero_le _⟩ dX5_share_8 (fun H locs hI => ?_)
  refine lv_topi (fun z2 ez2 => ?_)
  obtain rfl : 1 = z2 := (ez2.trans (bI_t h1)).symm
  refine lv_if_ne (tgt := 16) hx hb dX5_share_11 (by decide) (fun _ => ?_) (fun q => absurd q (by decide))
  refine lv_aload_n hx hb dX5_share_16 rfl (lv_at hl 0 rfl) ?_
  refine x_get (k := 0) hE hK hI (by decide) inG5 (e_0 G o _ _) rfl 0 (by decide) mw_172 rfl dX5_share_17 ?_
  refine x_get (k := 1) hE hK hI (by decide) inG1 (e_1 G o _ _) rfl 0 (by decide) mw_139 rfl dX5_share_20 ?_
  refine x_get (k := 2) hE hK hI (by decide) inG2 (e_2 G o _ _) rfl 0 (by decide) mw_33 rfl dX5_share_23 ?_
  refine lv_iload_n hx hb dX5_share_26 rfl (lv_at hl 1 rfl) ?_
  refine x_aald (k := 3) (j := 1) (t0 := 5) (q := o + 5) hE hK hI (by decide) (e_3 G o) rfl rfl (by decide) (by decide) rfl rfl dX5_share_27 ?_
  refine lv_iload_n hx hb dX5_share_28 rfl (lv_at hl 2 rfl) ?_
  refine x_iald (k := 5) (j := t) hE hK hI (by decide) (e_5 G o) h (by decide) rfl dX5_share_29 ?_
  exact x_iret hE hr hlocks hI rfl rfl rfl dX5_share_30
set_option maxRecDepth 100000 in
set_option maxHeartbeats 4000000 in
theorem c_X5_share_2 (l : Launch) (G : GG) (o : Nat) (X : SX) (Y : SY) (t : Nat) (h : t < 4) (h1 : Wi (nI t) 0 3) : Ct l yX5_share cX5_share 3 (some .int) 2 42 G o [.ref (o + 0), .int 2, .int (nI t)] X Y (some (.int (X 6 t))) X Y := by
  refine Ct.mk (by decide +kernel) (Nat.le_of_ble_eq_true rfl) rfl ?_
  intro p9 e9 s9 m9 args9 below9 meth9 c9 hE hr hlocks hK hI ls hl
  have hx := hE.1
  have hb := hE.2.1
  have hl : lv_has ls 3 [(0, .ref (o + 0)), (1, .int 2), (2, .int (nI t))] := hl
  refine lv_iload_n hx hb dX5_share_0 rfl (lv_at hl 1 rfl) ?_
  refine x_callSi hE hK hI (c_X5_isSize l G o _ _ 2 ) mf_X5_isSize mw_189 rfl hl.1 rfl (Nat.le_of_ble_eq_true rfl) ⟨(Nat.le_of_ble_eq_true rfl), (Nat.le_of_ble_eq_true rfl)⟩ ⟨Nat.zero_le _, Nat.zero_le _⟩ dX5_share_1 (fun H locs hI => ?_)
  refine lv_topi (fun z1 ez1 => ?_)
  obtain rfl : 1 = z1 := (ez1.trans (bI_t (by decide))).symm
  refine lv_if_eq (tgt := 14) hx hb dX5_share_4 (by decide) (fun q => absurd q (by decide)) (fun _ => ?_)
  refine lv_iload_n hx hb dX5_share_7 rfl (lv_at hl 2 rfl) ?_
  refine x_callSi hE hK hI (c_X5_isSize l G o _ _ (nI t) ) mf_X5_isSize mw_189 rfl hl.1 rfl (Nat.le_of_ble_eq_true rfl) ⟨(Nat.le_of_ble_eq_true rfl), (Nat.le_of_ble_eq_true rfl)⟩ ⟨Nat.zero_le _, Nat.zero_le _⟩ dX5_share_8 (fun H locs hI => ?_)
  refine lv_topi (fun z2 ez2 => ?_)
  obtain rfl : 1 = z2 := (ez2.trans (bI_t h1)).symm
  refine lv_if_ne (tgt := 16) hx hb dX5_share_11 (by decide) (fun _ => ?_) (fun q => absurd q (by decide))
  refine lv_aload_n hx hb dX5_share_16 rfl (lv_at hl 0 rfl) ?_
  refine x_get (k := 0) hE hK hI (by decide) inG5 (e_0 G o _ _) rfl 0 (by decide) mw_172 rfl dX5_share_17 ?_
  refine x_get (k := 1) hE hK hI (by decide) inG1 (e_1 G o _ _) rfl 0 (by decide) mw_139 rfl dX5_share_20 ?_
  refine x_get (k := 2) hE hK hI (by decide) inG2 (e_2 G o _ _) rfl 0 (by decide) mw_33 rfl dX5_share_23 ?_
  refine lv_iload_n hx hb dX5_share_26 rfl (lv_at hl 1 rfl) ?_
  refine x_aald (k := 3) (j := 2) (t0 := 5) (q := o + 6) hE hK hI (by decide) (e_3 G o) rfl rfl (by decide) (by decide) rfl rfl dX5_share_27 ?_
  refine lv_iload_n hx hb dX5_share_28 rfl (lv_at hl 2 rfl) ?_
  refine x_iald (k := 6) (j := t) hE hK hI (by decide) (e_6 G o) h (by decide) rfl dX5_share_29 ?_
  exact x_iret hE hr hlocks hI rfl rfl rfl dX5_share_30
set_option maxRecDepth 100000 in
set_option maxHeartbeats 4000000 in
theorem c_X5_share_3 (l : Launch) (G : GG) (o : Nat) (X : SX) (Y : SY) (t : Nat) (h : t < 4) (h1 : Wi (nI t) 0 3) : Ct l yX5_share cX5_share 3 (some .int) 2 42 G o [.ref (o + 0), .int 3, .int (nI t)] X Y (some (.int (X 7 t))) X Y := by
  refine Ct.mk (by decide +kernel) (Nat.le_of_ble_eq_true rfl) rfl ?_
  intro p9 e9 s9 m9 args9 below9 meth9 c9 hE hr hlocks hK hI ls hl
  have hx := hE.1
  have hb := hE.2.1
  have hl : lv_has ls 3 [(0, .ref (o + 0)), (1, .int 3), (2, .int (nI t))] := hl
  refine lv_iload_n hx hb dX5_share_0 rfl (lv_at hl 1 rfl) ?_
  refine x_callSi hE hK hI (c_X5_isSize l G o _ _ 3 ) mf_X5_isSize mw_189 rfl hl.1 rfl (Nat.le_of_ble_eq_true rfl) ⟨(Nat.le_of_ble_eq_true rfl), (Nat.le_of_ble_eq_true rfl)⟩ ⟨Nat.zero_le _, Nat.zero_le _⟩ dX5_share_1 (fun H locs hI => ?_)
  refine lv_topi (fun z1 ez1 => ?_)
  obtain rfl : 1 = z1 := (ez1.trans (bI_t (by decide))).symm
  refine lv_if_eq (tgt := 14) hx hb dX5_share_4 (by decide) (fun q => absurd q (by decide)) (fun _ => ?_)
  refine lv_iload_n hx hb dX5_share_7 rfl (lv_at hl 2 rfl) ?_
  refine x_callSi hE hK hI (c_X5_isSize l G o _ _ (nI t) ) mf_X5_isSize mw_189 rfl hl.1 rfl (Nat.le_of_ble_eq_true rfl) ⟨(Nat.le_of_ble_eq_true rfl), (Nat.le_of_ble_eq_true rfl)⟩ ⟨Nat.zero_le _, Nat.zero_le _⟩ dX5_share_8 (fun H locs hI => ?_)
  refine lv_topi (fun z2 ez2 => ?_)
  obtain rfl : 1 = z2 := (ez2.trans (bI_t h1)).symm
  refine lv_if_ne (tgt := 16) hx hb dX5_share_11 (by decide) (fun _ => ?_) (fun q => absurd q (by decide))
  refine lv_aload_n hx hb dX5_share_16 rfl (lv_at hl 0 rfl) ?_
  refine x_get (k := 0) hE hK hI (by decide) inG5 (e_0 G o _ _) rfl 0 (by decide) mw_172 rfl dX5_share_17 ?_
  refine x_get (k := 1) hE hK hI (by decide) inG1 (e_1 G o _ _) rfl 0 (by decide) mw_139 rfl dX5_share_20 ?_
  refine x_get (k := 2) hE hK hI (by decide) inG2 (e_2 G o _ _) rfl 0 (by decide) mw_33 rfl dX5_share_23 ?_
  refine lv_iload_n hx hb dX5_share_26 rfl (lv_at hl 1 rfl) ?_
  refine x_aald (k := 3) (j := 3) (t0 := 5) (q := o + 7) hE hK hI (by decide) (e_3 G o) rfl rfl (by decide) (by decide) rfl rfl dX5_share_27 ?_
  refine lv_iload_n hx hb dX5_share_28 rfl (lv_at hl 2 rfl) ?_
  refine x_iald (k := 7) (j := t) hE hK hI (by decide) (e_7 G o) h (by decide) rfl dX5_share_29 ?_
  exact x_iret hE hr hlocks hI rfl rfl rfl dX5_share_30
set_option maxRecDepth 100000 in
set_option maxHeartbeats 4000000 in
theorem c_X5_exchange_a (l : Launch) (G : GG) (o : Nat) (X : SX) (Y : SY) (k : Nat) (u : Int32) (v : Int32) (g : Int32) (hs : ∀ (f : Nat → Int32) (g : Nat → Int64), shp G o k f g = .inl (G.2 0, 4, .inl f)) (hk : k < 292) (h : ¬ (Wi u 0 3)) : Ct l yX5_exchange cX5_exchange 5 (some .int) 2 42 G o [.ref (o + k), .int u, .int v, .int g] X Y (some (.int (-1))) X Y := by
  refine Ct.mk (by decide +kernel) (Nat.le_of_ble_eq_true rfl) rfl ?_
  intro p9 e9 s9 m9 args9 below9 meth9 c9 hE hr hlocks hK hI ls hl
  have hx := hE.1
  have hb := hE.2.1
  have hl : lv_has ls 5 [(0, .ref (o + k)), (1, .int u), (2, .int v), (3, .int g)] := hl
  refine lv_iload_n hx hb dX5_exchange_0 rfl (lv_at hl 1 rfl) ?_
  refine x_callSi hE hK hI (c_X5_isSize l G o _ _ u ) mf_X5_isSize mw_189 rfl hl.1 rfl (Nat.le_of_ble_eq_true rfl) ⟨(Nat.le_of_ble_eq_true rfl), (Nat.le_of_ble_eq_true rfl)⟩ ⟨Nat.zero_le _, Nat.zero_le _⟩ dX5_exchange_1 (fun H locs hI => ?_)
  refine lv_topi (fun z1 ez1 => ?_)
  obtain rfl : 0 = z1 := (ez1.trans (bI_f h)).symm
  refine lv_if_ne (tgt := 9) hx hb dX5_exchange_4 (by decide) (fun q => absurd (by decide) q) (fun _ => ?_)
  refine lv_iconst (v := (-1)) hx hb dX5_exchange_7 (by decide) ?_
  exact x_iret hE hr hlocks hI rfl rfl rfl dX5_exchange_8
set_option maxRecDepth 100000 in
set_option maxHeartbeats 4000000 in
theorem c_X5_exchange_b (l : Launch) (G : GG) (o : Nat) (X : SX) (Y : SY) (k : Nat) (u : Int32) (v : Int32) (g : Int32) (hs : ∀ (f : Nat → Int32) (g : Nat → Int64), shp G o k f g = .inl (G.2 0, 4, .inl f)) (hk : k < 292) (h1 : Wi u 0 3) (h : ¬ (Wi v 0 g)) : Ct l yX5_exchange cX5_exchange 5 (some .int) 2 42 G o [.ref (o + k), .int u, .int v, .int g] X Y (some (.int (-3))) X Y := by
  refine Ct.mk (by decide +kernel) (Nat.le_of_ble_eq_true rfl) rfl ?_
  intro p9 e9 s9 m9 args9 below9 meth9 c9 hE hr hlocks hK hI ls hl
  have hx := hE.1
  have hb := hE.2.1
  have hl : lv_has ls 5 [(0, .ref (o + k)), (1, .int u), (2, .int v), (3, .int g)] := hl
  refine lv_iload_n hx hb dX5_exchange_0 rfl (lv_at hl 1 rfl) ?_
  refine x_callSi hE hK hI (c_X5_isSize l G o _ _ u ) mf_X5_isSize mw_189 rfl hl.1 rfl (Nat.le_of_ble_eq_true rfl) ⟨(Nat.le_of_ble_eq_true rfl), (Nat.le_of_ble_eq_true rfl)⟩ ⟨Nat.zero_le _, Nat.zero_le _⟩ dX5_exchange_1 (fun H locs hI => ?_)
  refine lv_topi (fun z1 ez1 => ?_)
  obtain rfl : 1 = z1 := (ez1.trans (bI_t h1)).symm
  refine lv_if_ne (tgt := 9) hx hb dX5_exchange_4 (by decide) (fun _ => ?_) (fun q => absurd q (by decide))
  refine lv_iload_n hx hb dX5_exchange_9 rfl (lv_at hl 2 rfl) ?_
  refine lv_iconst (v := 0) hx hb dX5_exchange_10 (by decide) ?_
  refine lv_iload_n hx hb dX5_exchange_11 rfl (lv_at hl 3 rfl) ?_
  refine x_callSi hE hK hI (c_X5_isWithin l G o _ _ v 0 g ) mf_X5_isWithin mw_192 rfl hl.1 rfl (Nat.le_of_ble_eq_true rfl) ⟨(Nat.le_of_ble_eq_true rfl), (Nat.le_of_ble_eq_true rfl)⟩ ⟨Nat.zero_le _, Nat.zero_le _⟩ dX5_exchange_12 (fun H locs hI => ?_)
  refine lv_topi (fun z2 ez2 => ?_)
  obtain rfl : 0 = z2 := (ez2.trans (bI_f h)).symm
  refine lv_if_ne (tgt := 21) hx hb dX5_exchange_15 (by decide) (fun q => absurd (by decide) q) (fun _ => ?_)
  refine lv_bipush (v := (-3)) hx hb dX5_exchange_18 (by decide) ?_
  exact x_iret hE hr hlocks hI rfl rfl rfl dX5_exchange_20
set_option maxRecDepth 100000 in
set_option maxHeartbeats 4000000 in
theorem c_X5_exchange_c (l : Launch) (G : GG) (o : Nat) (X : SX) (Y : SY) (k : Nat) (t : Nat) (v : Int32) (g : Int32) (hs : ∀ (f : Nat → Int32) (g : Nat → Int64), shp G o k f g = .inl (G.2 0, 4, .inl f)) (hk : k < 292) (h0 : t < 4) (h1 : Wi (nI t) 0 3) (h : Wi v 0 g) : Ct l yX5_exchange cX5_exchange 5 (some .int) 2 42 G o [.ref (o + k), .int (nI t), .int v, .int g] X Y (some (.int (X k t))) (sx X k t v) Y := by
  refine Ct.mk (by decide +kernel) (Nat.le_of_ble_eq_true rfl) rfl ?_
  intro p9 e9 s9 m9 args9 below9 meth9 c9 hE hr hlocks hK hI ls hl
  have hx := hE.1
  have hb := hE.2.1
  have hl : lv_has ls 5 [(0, .ref (o + k)), (1, .int (nI t)), (2, .int v), (3, .int g)] := hl
  refine lv_iload_n hx hb dX5_exchange_0 rfl (lv_at hl 1 rfl) ?_
  refine x_callSi hE hK hI (c_X5_isSize l G o _ _ (nI t) ) mf_X5_isSize mw_189 rfl hl.1 rfl (Nat.le_of_ble_eq_true rfl) ⟨(Nat.le_of_ble_eq_true rfl), (Nat.le_of_ble_eq_true rfl)⟩ ⟨Nat.zero_le _, Nat.zero_le _⟩ dX5_exchange_1 (fun H locs hI => ?_)
  refine lv_topi (fun z1 ez1 => ?_)
  obtain rfl : 1 = z1 := (ez1.trans (bI_t h1)).symm
  refine lv_if_ne (tgt := 9) hx hb dX5_exchange_4 (by decide) (fun _ => ?_) (fun q => absurd q (by decide))
  refine lv_iload_n hx hb dX5_exchange_9 rfl (lv_at hl 2 rfl) ?_
  refine lv_iconst (v := 0) hx hb dX5_exchange_10 (by decide) ?_
  refine lv_iload_n hx hb dX5_exchange_11 rfl (lv_at hl 3 rfl) ?_
  refine x_callSi hE hK hI (c_X5_isWithin l G o _ _ v 0 g ) mf_X5_isWithin mw_192 rfl hl.1 rfl (Nat.le_of_ble_eq_true rfl) ⟨(Nat.le_of_ble_eq_true rfl), (Nat.le_of_ble_eq_true rfl)⟩ ⟨Nat.zero_le _, Nat.zero_le _⟩ dX5_exchange_12 (fun H locs hI => ?_)
  refine lv_topi (fun z2 ez2 => ?_)
  obtain rfl : 1 = z2 := (ez2.trans (bI_t h)).symm
  refine lv_if_ne (tgt := 21) hx hb dX5_exchange_15 (by decide) (fun _ => ?_) (fun q => absurd q (by decide))
  refine lv_aload_n hx hb dX5_exchange_21 rfl (lv_at hl 0 rfl) ?_
  refine lv_iload_n hx hb dX5_exchange_22 rfl (lv_at hl 1 rfl) ?_
  refine x_iald (k := k) (j := t) hE hK hI hk hs h0 (by decide) rfl dX5_exchange_23 ?_
  refine lv_istore (lv' := [(4, .int (X k t)), (0, .ref (o + k)), (1, .int (nI t)), (2, .int v), (3, .int g)]) hx hb dX5_exchange_24 hl (by decide) rfl (fun ls hl => ?_)
  refine lv_aload_n hx hb dX5_exchange_26 rfl (lv_at hl 1 rfl) ?_
  refine lv_iload_n hx hb dX5_exchange_27 rfl (lv_at hl 2 rfl) ?_
  refine lv_iload_n hx hb dX5_exchange_28 rfl (lv_at hl 3 rfl) ?_
  refine x_iast (k := k) (j := t) hE hK hI hk hs h0 (by decide) rfl dX5_exchange_29 (fun H locs hI => ?_)
  refine lv_iload hx hb dX5_exchange_30 (lv_at hl 0 rfl) ?_
  exact x_iret hE hr hlocks hI rfl rfl rfl dX5_exchange_32
set_option maxRecDepth 100000 in
set_option maxHeartbeats 4000000 in
theorem c_X5_setReturn_a (l : Launch) (G : GG) (o : Nat) (X : SX) (Y : SY) (u : Int32) (v : Int32) (h : ¬ (Wi u 0 3)) : Ct l yX5_setReturn cX5_setReturn 3 (some .int) 3 66 G o [.ref (o + 0), .int u, .int v] X Y (some (.int (-1))) X Y := by
  refine Ct.mk (by decide +kernel) (Nat.le_of_ble_eq_true rfl) rfl ?_
  intro p9 e9 s9 m9 args9 below9 meth9 c9 hE hr hlocks hK hI ls hl
  have hx := hE.1
  have hb := hE.2.1
  have hl : lv_has ls 3 [(0, .ref (o + 0)), (1, .int u), (2, .int v)] := hl
  refine lv_aload_n hx hb dX5_setReturn_0 rfl (lv_at hl 0 rfl) ?_
  refine x_get (k := 0) hE hK hI (by decide) inG5 (e_0 G o _ _) rfl 0 (by decide) mw_172 rfl dX5_setReturn_1 ?_
  refine x_get (k := 1) hE hK hI (by decide) inG1 (e_1 G o _ _) rfl 0 (by decide) mw_139 rfl dX5_setReturn_4 ?_
  refine x_get (k := 2) hE hK hI (by decide) inG2 (e_2 G o _ _) rfl 1 (by decide) mw_37 rfl dX5_setReturn_7 ?_
  refine lv_iload_n hx hb dX5_setReturn_10 rfl (lv_at hl 1 rfl) ?_
  refine lv_iload_n hx hb dX5_setReturn_11 rfl (lv_at hl 2 rfl) ?_
  refine lv_bipush (v := 10) hx hb dX5_setReturn_12 (by decide) ?_
  refine x_callSi hE hK hI (c_X5_exchange_a l G o _ _ 8 u v 10 (e_8 G o) (by decide) h) mf_X5_exchange mw_211 rfl hl.1 rfl (Nat.le_of_ble_eq_true rfl) ⟨(Nat.le_of_ble_eq_true rfl), (Nat.le_of_ble_eq_true rfl)⟩ ⟨Nat.zero_le _, Nat.zero_le _⟩ dX5_setReturn_14 (fun H locs hI => ?_)
  exact x_iret hE hr hlocks hI rfl rfl rfl dX5_setReturn_17
set_option maxRecDepth 100000 in
set_option maxHeartbeats 4000000 in
theorem c_X5_setReturn_b (l : Launch) (G : GG) (o : Nat) (X : SX) (Y : SY) (u : Int32) (v : Int32) (h1 : Wi u 0 3) (h : ¬ (Wi v 0 10)) : Ct l yX5_setReturn cX5_setReturn 3 (some .int) 3 66 G o [.ref (o + 0), .int u, .int v] X Y (some (.int (-3))) X Y := by
  refine Ct.mk (by decide +kernel) (Nat.le_of_ble_eq_true rfl) rfl ?_
  intro p9 e9 s9 m9 args9 below9 meth9 c9 hE hr hlocks hK hI ls hl
  have hx := hE.1
  have hb := hE.2.1
  have hl : lv_has ls 3 [(0, .ref (o + 0)), (1, .int u), (2, .int v)] := hl
  refine lv_aload_n hx hb dX5_setReturn_0 rfl (lv_at hl 0 rfl) ?_
  refine x_get (k := 0) hE hK hI (by decide) inG5 (e_0 G o _ _) rfl 0 (by decide) mw_172 rfl dX5_setReturn_1 ?_
  refine x_get (k := 1) hE hK hI (by decide) inG1 (e_1 G o _ _) rfl 0 (by decide) mw_139 rfl dX5_setReturn_4 ?_
  refine x_get (k := 2) hE hK hI (by decide) inG2 (e_2 G o _ _) rfl 1 (by decide) mw_37 rfl dX5_setReturn_7 ?_
  refine lv_iload_n hx hb dX5_setReturn_10 rfl (lv_at hl 1 rfl) ?_
  refine lv_iload_n hx hb dX5_setReturn_11 rfl (lv_at hl 2 rfl) ?_
  refine lv_bipush (v := 10) hx hb dX5_setReturn_12 (by decide) ?_
  refine x_callSi hE hK hI (c_X5_exchange_b l G o _ _ 8 u v 10 (e_8 G o) (by decide) h1 h) mf_X5_exchange mw_211 rfl hl.1 rfl (Nat.le_of_ble_eq_true rfl) ⟨(Nat.le_of_ble_eq_true rfl), (Nat.le_of_ble_eq_true rfl)⟩ ⟨Nat.zero_le _, Nat.zero_le _⟩ dX5_setReturn_14 (fun H locs hI => ?_)
  exact x_iret hE hr hlocks hI rfl rfl rfl dX5_setReturn_17
set_option maxRecDepth 100000 in
set_option maxHeartbeats 4000000 in
theorem c_X5_setReturn_c (l : Launch) (G : GG) (o : Nat) (X : SX) (Y : SY) (t : Nat) (v : Int32) (h0 : t < 4) (h1 : Wi (nI t) 0 3) (h : Wi v 0 10) : Ct l yX5_setReturn cX5_setReturn 3 (some .int) 3 66 G o [.ref (o + 0), .int (nI t), .int v] X Y (some (.int (X 8 t))) (sx X 8 t v) Y := by
  refine Ct.mk (by decide +kernel) (Nat.le_of_ble_eq_true rfl) rfl ?_
  intro p9 e9 s9 m9 args9 below9 meth9 c9 hE hr hlocks hK hI ls hl
  have hx := hE.1
  have hb := hE.2.1
  have hl : lv_has ls 3 [(0, .ref (o + 0)), (1, .int (nI t)), (2, .int v)] := hl
  refine lv_aload_n hx hb dX5_setReturn_0 rfl (lv_at hl 0 rfl) ?_
  refine x_get (k := 0) hE hK hI (by decide) inG5 (e_0 G o _ _) rfl 0 (by decide) mw_172 rfl dX5_setReturn_1 ?_
  refine x_get (k := 1) hE hK hI (by decide) inG1 (e_1 G o _ _) rfl 0 (by decide) mw_139 rfl dX5_setReturn_4 ?_
  refine x_get (k := 2) hE hK hI (by decide) inG2 (e_2 G o _ _) rfl 1 (by decide) mw_37 rfl dX5_setReturn_7 ?_
  refine lv_iload_n hx hb dX5_setReturn_10 rfl (lv_at hl 1 rfl) ?_
  refine lv_iload_n hx hb dX5_setReturn_11 rfl (lv_at hl 2 rfl) ?_
  refine lv_bipush (v := 10) hx hb dX5_setReturn_12 (by decide) ?_
  refine x_callSi hE hK hI (c_X5_exchange_c l G o _ _ 8 t v 10 (e_8 G o) (by decide) h0 h1 h) mf_X5_exchange mw_211 rfl hl.1 rfl (Nat.le_of_ble_eq_true rfl) ⟨(Nat.le_of_ble_eq_true rfl), (Nat.le_of_ble_eq_true rfl)⟩ ⟨Nat.zero_le _, Nat.zero_le _⟩ dX5_setReturn_14 (fun H locs hI => ?_)
  exact x_iret hE hr hlocks hI rfl rfl rfl dX5_setReturn_17
set_option maxRecDepth 100000 in
set_option maxHeartbeats 4000000 in
theorem c_X5_setWork_a (l : Launch) (G : GG) (o : Nat) (X : SX) (Y : SY) (u : Int32) (v : Int32) (h : ¬ (Wi u 0 3)) : Ct l yX5_setWork cX5_setWork 3 (some .int) 3 66 G o [.ref (o + 0), .int u, .int v] X Y (some (.int (-1))) X Y := by
  refine Ct.mk (by decide +kernel) (Nat.le_of_ble_eq_true rfl) rfl ?_
  intro p9 e9 s9 m9 args9 below9 meth9 c9 hE hr hlocks hK hI ls hl
  have hx := hE.1
  have hb := hE.2.1
  have hl : lv_has ls 3 [(0, .ref (o + 0)), (1, .int u), (2, .int v)] := hl
  refine lv_aload_n hx hb dX5_setWork_0 rfl (lv_at hl 0 rfl) ?_
  refine x_get (k := 0) hE hK hI (by decide) inG5 (e_0 G o _ _) rfl 0 (by decide) mw_172 rfl dX5_setWork_1 ?_
  refine x_get (k := 1) hE hK hI (by decide) inG1 (e_1 G o _ _) rfl 0 (by decide) mw_139 rfl dX5_setWork_4 ?_
  refine x_get (k := 2) hE hK hI (by decide) inG2 (e_2 G o _ _) rfl 2 (by decide) mw_40 rfl dX5_setWork_7 ?_
  refine lv_iload_n hx hb dX5_setWork_10 rfl (lv_at hl 1 rfl) ?_
  refine lv_iload_n hx hb dX5_setWork_11 rfl (lv_at hl 2 rfl) ?_
  refine lv_bipush (v := 100) hx hb dX5_setWork_12 (by decide) ?_
  refine x_callSi hE hK hI (c_X5_exchange_a l G o _ _ 9 u v 100 (e_9 G o) (by decide) h) mf_X5_exchange mw_211 rfl hl.1 rfl (Nat.le_of_ble_eq_true rfl) ⟨(Nat.le_of_ble_eq_true rfl), (Nat.le_of_ble_eq_true rfl)⟩ ⟨Nat.zero_le _, Nat.zero_le _⟩ dX5_setWork_14 (fun H locs hI => ?_)
  exact x_iret hE hr hlocks hI rfl rfl rfl dX5_setWork_17
set_option maxRecDepth 100000 in
set_option maxHeartbeats 4000000 in
theorem c_X5_setWork_b (l : Launch) (G : GG) (o : Nat) (X : SX) (Y : SY) (u : Int32) (v : Int32) (h1 : Wi u 0 3) (h : ¬ (Wi v 0 100)) : Ct l yX5_setWork cX5_setWork 3 (some .int) 3 66 G o [.ref (o + 0), .int u, .int v] X Y (some (.int (-3))) X Y := by
  refine Ct.mk (by decide +kernel) (Nat.le_of_ble_eq_true rfl) rfl ?_
  intro p9 e9 s9 m9 args9 below9 meth9 c9 hE hr hlocks hK hI ls hl
  have hx := hE.1
  have hb := hE.2.1
  have hl : lv_has ls 3 [(0, .ref (o + 0)), (1, .int u), (2, .int v)] := hl
  refine lv_aload_n hx hb dX5_setWork_0 rfl (lv_at hl 0 rfl) ?_
  refine x_get (k := 0) hE hK hI (by decide) inG5 (e_0 G o _ _) rfl 0 (by decide) mw_172 rfl dX5_setWork_1 ?_
  refine x_get (k := 1) hE hK hI (by decide) inG1 (e_1 G o _ _) rfl 0 (by decide) mw_139 rfl dX5_setWork_4 ?_
  refine x_get (k := 2) hE hK hI (by decide) inG2 (e_2 G o _ _) rfl 2 (by decide) mw_40 rfl dX5_setWork_7 ?_
  refine lv_iload_n hx hb dX5_setWork_10 rfl (lv_at hl 1 rfl) ?_
  refine lv_iload_n hx hb dX5_setWork_11 rfl (lv_at hl 2 rfl) ?_
  refine lv_bipush (v := 100) hx hb dX5_setWork_12 (by decide) ?_
  refine x_callSi hE hK hI (c_X5_exchange_b l G o _ _ 9 u v 100 (e_9 G o) (by decide) h1 h) mf_X5_exchange mw_211 rfl hl.1 rfl (Nat.le_of_ble_eq_true rfl) ⟨(Nat.le_of_ble_eq_true rfl), (Nat.le_of_ble_eq_true rfl)⟩ ⟨Nat.zero_le _, Nat.zero_le _⟩ dX5_setWork_14 (fun H locs hI => ?_)
  exact x_iret hE hr hlocks hI rfl rfl rfl dX5_setWork_17
set_option maxRecDepth 100000 in
set_option maxHeartbeats 4000000 in
theorem c_X5_setWork_c (l : Launch) (G : GG) (o : Nat) (X : SX) (Y : SY) (t : Nat) (v : Int32) (h0 : t < 4) (h1 : Wi (nI t) 0 3) (h : Wi v 0 100) : Ct l yX5_setWork cX5_setWork 3 (some .int) 3 66 G o [.ref (o + 0), .int (nI t), .int v] X Y (some (.int (X 9 t))) (sx X 9 t v) Y := by
  refine Ct.mk (by decide +kernel) (Nat.le_of_ble_eq_true rfl) rfl ?_
  intro p9 e9 s9 m9 args9 below9 meth9 c9 hE hr hlocks hK hI ls hl
  have hx := hE.1
  have hb := hE.2.1
  have hl : lv_has ls 3 [(0, .ref (o + 0)), (1, .int (nI t)), (2, .int v)] := hl
  refine lv_aload_n hx hb dX5_setWork_0 rfl (lv_at hl 0 rfl) ?_
  refine x_get (k := 0) hE hK hI (by decide) inG5 (e_0 G o _ _) rfl 0 (by decide) mw_172 rfl dX5_setWork_1 ?_
  refine x_get (k := 1) hE hK hI (by decide) inG1 (e_1 G o _ _) rfl 0 (by decide) mw_139 rfl dX5_setWork_4 ?_
  refine x_get (k := 2) hE hK hI (by decide) inG2 (e_2 G o _ _) rfl 2 (by decide) mw_40 rfl dX5_setWork_7 ?_
  refine lv_iload_n hx hb dX5_setWork_10 rfl (lv_at hl 1 rfl) ?_
  refine lv_iload_n hx hb dX5_setWork_11 rfl (lv_at hl 2 rfl) ?_
  refine lv_bipush (v := 100) hx hb dX5_setWork_12 (by decide) ?_
  refine x_callSi hE hK hI (c_X5_exchange_c l G o _ _ 9 t v 100 (e_9 G o) (by decide) h0 h1 h) mf_X5_exchange mw_211 rfl hl.1 rfl (Nat.le_of_ble_eq_true rfl) ⟨(Nat.le_of_ble_eq_true rfl), (Nat.le_of_ble_eq_true rfl)⟩ ⟨Nat.zero_le _, Nat.zero_le _⟩ dX5_setWork_14 (fun H locs hI => ?_)
  exact x_iret hE hr hlocks hI rfl rfl rfl dX5_setWork_17
set_option maxRecDepth 100000 in
set_option maxHeartbeats 4000000 in
theorem c_X5_setFeed_a (l : Launch) (G : GG) (o : Nat) (X : SX) (Y : SY) (u : Int32) (v : Int32) (h : ¬ (Wi u 0 3)) : Ct l yX5_setFeed cX5_setFeed 3 (some .int) 3 66 G o [.ref (o + 0), .int u, .int v] X Y (some (.int (-1))) X Y := by
  refine Ct.mk (by decide +kernel) (Nat.le_of_ble_eq_true rfl) rfl ?_
  intro p9 e9 s9 m9 args9 below9 meth9 c9 hE hr hlocks hK hI ls hl
  have hx := hE.1
  have hb := hE.2.1
  have hl : lv_has ls 3 [(0, .ref (o + 0)), (1, .int u), (2, .int v)] := hl
  refine lv_aload_n hx hb dX5_setFeed_0 rfl (lv_at hl 0 rfl) ?_
  refine x_get (k := 0) hE hK hI (by decide) inG5 (e_0 G o _ _) rfl 0 (by decide) mw_172 rfl dX5_setFeed_1 ?_
  refine x_get (k := 1) hE hK hI (by decide) inG1 (e_1 G o _ _) rfl 0 (by decide) mw_139 rfl dX5_setFeed_4 ?_
  refine x_get (k := 2) hE hK hI (by decide) inG2 (e_2 G o _ _) rfl 3 (by decide) mw_44 rfl dX5_setFeed_7 ?_
  refine lv_iload_n hx hb dX5_setFeed_10 rfl (lv_at hl 1 rfl) ?_
  refine lv_iload_n hx hb dX5_setFeed_11 rfl (lv_at hl 2 rfl) ?_
  refine lv_sipush (v := 1000) hx hb dX5_setFeed_12 (by decide) ?_
  refine x_callSi hE hK hI (c_X5_exchange_a l G o _ _ 10 u v 1000 (e_10 G o) (by decide) h) mf_X5_exchange mw_211 rfl hl.1 rfl (Nat.le_of_ble_eq_true rfl) ⟨(Nat.le_of_ble_eq_true rfl), (Nat.le_of_ble_eq_true rfl)⟩ ⟨Nat.zero_le _, Nat.zero_le _⟩ dX5_setFeed_15 (fun H locs hI => ?_)
  exact x_iret hE hr hlocks hI rfl rfl rfl dX5_setFeed_18
set_option maxRecDepth 100000 in
set_option maxHeartbeats 4000000 in
theorem c_X5_setFeed_b (l : Launch) (G : GG) (o : Nat) (X : SX) (Y : SY) (u : Int32) (v : Int32) (h1 : Wi u 0 3) (h : ¬ (Wi v 0 1000)) : Ct l yX5_setFeed cX5_setFeed 3 (some .int) 3 66 G o [.ref (o + 0), .int u, .int v] X Y (some (.int (-3))) X Y := by
  refine Ct.mk (by decide +kernel) (Nat.le_of_ble_eq_true rfl) rfl ?_
  intro p9 e9 s9 m9 args9 below9 meth9 c9 hE hr hlocks hK hI ls hl
  have hx := hE.1
  have hb := hE.2.1
  have hl : lv_has ls 3 [(0, .ref (o + 0)), (1, .int u), (2, .int v)] := hl
  refine lv_aload_n hx hb dX5_setFeed_0 rfl (lv_at hl 0 rfl) ?_
  refine x_get (k := 0) hE hK hI (by decide) inG5 (e_0 G o _ _) rfl 0 (by decide) mw_172 rfl dX5_setFeed_1 ?_
  refine x_get (k := 1) hE hK hI (by decide) inG1 (e_1 G o _ _) rfl 0 (by decide) mw_139 rfl dX5_setFeed_4 ?_
  refine x_get (k := 2) hE hK hI (by decide) inG2 (e_2 G o _ _) rfl 3 (by decide) mw_44 rfl dX5_setFeed_7 ?_
  refine lv_iload_n hx hb dX5_setFeed_10 rfl (lv_at hl 1 rfl) ?_
  refine lv_iload_n hx hb dX5_setFeed_11 rfl (lv_at hl 2 rfl) ?_
  refine lv_sipush (v := 1000) hx hb dX5_setFeed_12 (by decide) ?_
  refine x_callSi hE hK hI (c_X5_exchange_b l G o _ _ 10 u v 1000 (e_10 G o) (by decide) h1 h) mf_X5_exchange mw_211 rfl hl.1 rfl (Nat.le_of_ble_eq_true rfl) ⟨(Nat.le_of_ble_eq_true rfl), (Nat.le_of_ble_eq_true rfl)⟩ ⟨Nat.zero_le _, Nat.zero_le _⟩ dX5_setFeed_15 (fun H locs hI => ?_)
  exact x_iret hE hr hlocks hI rfl rfl rfl dX5_setFeed_18
set_option maxRecDepth 100000 in
set_option maxHeartbeats 4000000 in
theorem c_X5_setFeed_c (l : Launch) (G : GG) (o : Nat) (X : SX) (Y : SY) (t : Nat) (v : Int32) (h0 : t < 4) (h1 : Wi (nI t) 0 3) (h : Wi v 0 1000) : Ct l yX5_setFeed cX5_setFeed 3 (some .int) 3 66 G o [.ref (o + 0), .int (nI t), .int v] X Y (some (.int (X 10 t))) (sx X 10 t v) Y := by
  refine Ct.mk (by decide +kernel) (Nat.le_of_ble_eq_true rfl) rfl ?_
  intro p9 e9 s9 m9 args9 below9 meth9 c9 hE hr hlocks hK hI ls hl
  have hx := hE.1
  have hb := hE.2.1
  have hl : lv_has ls 3 [(0, .ref (o + 0)), (1, .int (nI t)), (2, .int v)] := hl
  refine lv_aload_n hx hb dX5_setFeed_0 rfl (lv_at hl 0 rfl) ?_
  refine x_get (k := 0) hE hK hI (by decide) inG5 (e_0 G o _ _) rfl 0 (by decide) mw_172 rfl dX5_setFeed_1 ?_
  refine x_get (k := 1) hE hK hI (by decide) inG1 (e_1 G o _ _) rfl 0 (by decide) mw_139 rfl dX5_setFeed_4 ?_
  refine x_get (k := 2) hE hK hI (by decide) inG2 (e_2 G o _ _) rfl 3 (by decide) mw_44 rfl dX5_setFeed_7 ?_
  refine lv_iload_n hx hb dX5_setFeed_10 rfl (lv_at hl 1 rfl) ?_
  refine lv_iload_n hx hb dX5_setFeed_11 rfl (lv_at hl 2 rfl) ?_
  refine lv_sipush (v := 1000) hx hb dX5_setFeed_12 (by decide) ?_
  refine x_callSi hE hK hI (c_X5_exchange_c l G o _ _ 10 t v 1000 (e_10 G o) (by decide) h0 h1 h) mf_X5_exchange mw_211 rfl hl.1 rfl (Nat.le_of_ble_eq_true rfl) ⟨(Nat.le_of_ble_eq_true rfl), (Nat.le_of_ble_eq_true rfl)⟩ ⟨Nat.zero_le _, Nat.zero_le _⟩ dX5_setFeed_15 (fun H locs hI => ?_)
  exact x_iret hE hr hlocks hI rfl rfl rfl dX5_setFeed_18
set_option maxRecDepth 100000 in
set_option maxHeartbeats 4000000 in
theorem c_X5_load_a (l : Launch) (G : GG) (o : Nat) (X : SX) (Y : SY) (u : Int32) (v : Int32) (h : ¬ (Wi u 0 3)) : Ct l yX5_load cX5_load 3 (some .long) 2 42 G o [.ref (o + 0), .int u, .int v] X Y (some (.long (-1))) X Y := by
  refine Ct.mk (by decide +kernel) (Nat.le_of_ble_eq_true rfl) rfl ?_
  intro p9 e9 s9 m9 args9 below9 meth9 c9 hE hr hlocks hK hI ls hl
  have hx := hE.1
  have hb := hE.2.1
  have hl : lv_has ls 3 [(0, .ref (o + 0)), (1, .int u), (2, .int v)] := hl
  refine lv_iload_n hx hb dX5_load_0 rfl (lv_at hl 1 rfl) ?_
  refine x_callSi hE hK hI (c_X5_isSize l G o _ _ u ) mf_X5_isSize mw_189 rfl hl.1 rfl (Nat.le_of_ble_eq_true rfl) ⟨(Nat.le_of_ble_eq_true rfl), (Nat.le_of_ble_eq_true rfl)⟩ ⟨Nat.zero_le _, Nat.zero_le _⟩ dX5_load_1 (fun H locs hI => ?_)
  refine lv_topi (fun z1 ez1 => ?_)
  obtain rfl : 0 = z1 := (ez1.trans (bI_f h)).symm
  refine lv_if_ne (tgt := 11) hx hb dX5_load_4 (by decide) (fun q => absurd (by decide) q) (fun _ => ?_)
  refine lv_ldc2 hx hb hE.2.2.2.1 (hE.2.2.2.2 _ mw_226) dX5_load_7 ?_
  exact x_lret hE hr hlocks hI rfl rfl rfl dX5_load_10
set_option maxRecDepth 100000 in
set_option maxHeartbeats 4000000 in
theorem c_X5_load_b (l : Launch) (G : GG) (o : Nat) (X : SX) (Y : SY) (u : Int32) (v : Int32) (h1 : Wi u 0 3) (h : ¬ (v = 0 ∨ v = 1)) : Ct l yX5_load cX5_load 3 (some .long) 2 42 G o [.ref (o + 0), .int u, .int v] X Y (some (.long (-3))) X Y := by
  refine Ct.mk (by decide +kernel) (Nat.le_of_ble_eq_true rfl) rfl ?_
  intro p9 e9 s9 m9 args9 below9 meth9 c9 hE hr hlocks hK hI ls hl
  have hx := hE.1
  have hb := hE.2.1
  have hl : lv_has ls 3 [(0, .ref (o + 0)), (1, .int u), (2, .int v)] := hl
  refine lv_iload_n hx hb dX5_load_0 rfl (lv_at hl 1 rfl) ?_
  refine x_callSi hE hK hI (c_X5_isSize l G o _ _ u ) mf_X5_isSize mw_189 rfl hl.1 rfl (Nat.le_of_ble_eq_true rfl) ⟨(Nat.le_of_ble_eq_true rfl), (Nat.le_of_ble_eq_true rfl)⟩ ⟨Nat.zero_le _, Nat.zero_le _⟩ dX5_load_1 (fun H locs hI => ?_)
  refine lv_topi (fun z1 ez1 => ?_)
  obtain rfl : 1 = z1 := (ez1.trans (bI_t h1)).symm
  refine lv_if_ne (tgt := 11) hx hb dX5_load_4 (by decide) (fun _ => ?_) (fun q => absurd q (by decide))
  refine lv_iload_n hx hb dX5_load_11 rfl (lv_at hl 2 rfl) ?_
  refine x_callSi hE hK hI (c_X5_isZeroOrOne l G o _ _ v ) mf_X5_isZeroOrOne mw_227 rfl hl.1 rfl (Nat.le_of_ble_eq_true rfl) ⟨(Nat.le_of_ble_eq_true rfl), (Nat.le_of_ble_eq_true rfl)⟩ ⟨Nat.zero_le _, Nat.zero_le _⟩ dX5_load_12 (fun H locs hI => ?_)
  refine lv_topi (fun z2 ez2 => ?_)
  obtain rfl : 0 = z2 := (ez2.trans (bI_f h)).symm
  refine lv_if_ne (tgt := 22) hx hb dX5_load_15 (by decide) (fun q => absurd (by decide) q) (fun _ => ?_)
  refine lv_ldc2 hx hb hE.2.2.2.1 (hE.2.2.2.2 _ mw_230) dX5_load_18 ?_
  exact x_lret hE hr hlocks hI rfl rfl rfl dX5_load_21
set_option maxRecDepth 100000 in
set_option maxHeartbeats 4000000 in
theorem c_X5_load_n0 (l : Launch) (G : GG) (o : Nat) (X : SX) (Y : SY) (u : Int32) (h1 : Wi u 0 3) (h : (solX X Y (X 8 0) (X 8 1) (X 8 2) (X 8 3)) 282 3 = 0) : Ct l yX5_load cX5_load 3 (some .long) 3 76 G o [.ref (o + 0), .int u, .int 0] X Y (some (.long (-5))) (solX X Y (X 8 0) (X 8 1) (X 8 2) (X 8 3)) (solY X Y (X 8 0) (X 8 1) (X 8 2) (X 8 3)) := by
  refine Ct.mk (by decide +kernel) (Nat.le_of_ble_eq_true rfl) rfl ?_
  intro p9 e9 s9 m9 args9 below9 meth9 c9 hE hr hlocks hK hI ls hl
  have hx := hE.1
  have hb := hE.2.1
  have hl : lv_has ls 3 [(0, .ref (o + 0)), (1, .int u), (2, .int 0)] := hl
  refine lv_iload_n hx hb dX5_load_0 rfl (lv_at hl 1 rfl) ?_
  refine x_callSi hE hK hI (c_X5_isSize l G o _ _ u ) mf_X5_isSize mw_189 rfl hl.1 rfl (Nat.le_of_ble_eq_true rfl) ⟨(Nat.le_of_ble_eq_true rfl), (Nat.le_of_ble_eq_true rfl)⟩ ⟨Nat.zero_le _, Nat.zero_le _⟩ dX5_load_1 (fun H locs hI => ?_)
  refine lv_topi (fun z1 ez1 => ?_)
  obtain rfl : 1 = z1 := (ez1.trans (bI_t h1)).symm
  refine lv_if_ne (tgt := 11) hx hb dX5_load_4 (by decide) (fun _ => ?_) (fun q => absurd q (by decide))
  refine lv_iload_n hx hb dX5_load_11 rfl (lv_at hl 2 rfl) ?_
  refine x_callSi hE hK hI (c_X5_isZeroOrOne l G o _ _ 0 ) mf_X5_isZeroOrOne mw_227 rfl hl.1 rfl (Nat.le_of_ble_eq_true rfl) ⟨(Nat.le_of_ble_eq_true rfl), (Nat.le_of_ble_eq_true rfl)⟩ ⟨Nat.zero_le _, Nat.zero_le _⟩ dX5_load_12 (fun H locs hI => ?_)
  refine lv_topi (fun z2 ez2 => ?_)
  obtain rfl : 1 = z2 := (ez2.trans (bI_t (by decide))).symm
  refine lv_if_ne (tgt := 22) hx hb dX5_load_15 (by decide) (fun _ => ?_) (fun q => absurd q (by decide))
  refine lv_aload_n hx hb dX5_load_22 rfl (lv_at hl 0 rfl) ?_
  refine x_get (k := 0) hE hK hI (by decide) inG5 (e_0 G o _ _) rfl 3 (by decide) mw_175 rfl dX5_load_23 ?_
  refine lv_aload_n hx hb dX5_load_26 rfl (lv_at hl 0 rfl) ?_
  refine x_get (k := 0) hE hK hI (by decide) inG5 (e_0 G o _ _) rfl 0 (by decide) mw_172 rfl dX5_load_27 ?_
  refine x_get (k := 1) hE hK hI (by decide) inG1 (e_1 G o _ _) rfl 0 (by decide) mw_139 rfl dX5_load_30 ?_
  refine lv_aload_n hx hb dX5_load_33 rfl (lv_at hl 0 rfl) ?_
  refine x_get (k := 0) hE hK hI (by decide) inG5 (e_0 G o _ _) rfl 0 (by decide) mw_172 rfl dX5_load_34 ?_
  refine x_get (k := 1) hE hK hI (by decide) inG1 (e_1 G o _ _) rfl 0 (by decide) mw_139 rfl dX5_load_37 ?_
  refine x_get (k := 2) hE hK hI (by decide) inG2 (e_2 G o _ _) rfl 1 (by decide) mw_37 rfl dX5_load_40 ?_
  refine x_callVv (k := 282) hE hK hI (c_X4_solve_8 l G o _ _ (X 8 0) (X 8 1) (X 8 2) (X 8 3) rfl rfl rfl rfl) mf_X4_solve mw_231 (by decide) ((e_282 G o) _ _) rfl rfl hl.1 rfl (Nat.le_of_ble_eq_true rfl) ⟨(Nat.le_of_ble_eq_true rfl), (Nat.le_of_ble_eq_true rfl)⟩ ⟨Nat.zero_le _, Nat.zero_le _⟩ dX5_load_43 (fun H locs hI => ?_)
  refine lv_aload_n hx hb dX5_load_46 rfl (lv_at hl 0 rfl) ?_
  refine x_get (k := 0) hE hK hI (by decide) inG5 (e_0 G o _ _) rfl 3 (by decide) mw_175 rfl dX5_load_47 ?_
  refine x_get (k := 282) hE hK hI (by decide) inG4 (e_282 G o _ _) rfl 3 (by decide) mw_160 rfl dX5_load_50 ?_
  refine lv_if_ne (tgt := 60) hx hb dX5_load_53 (by decide) (fun q => absurd h q) (fun _ => ?_)
  refine lv_ldc2 hx hb hE.2.2.2.1 (hE.2.2.2.2 _ mw_243) dX5_load_56 ?_
  exact x_lret hE hr hlocks hI rfl rfl rfl dX5_load_59
set_option maxRecDepth 100000 in
set_option maxHeartbeats 4000000 in
theorem c_X5_load_n1 (l : Launch) (G : GG) (o : Nat) (X : SX) (Y : SY) (u : Int32) (h1 : Wi u 0 3) (h : (solX X Y (X 8 0) (X 8 1) (X 8 2) (X 8 3)) 282 3 = 0) : Ct l yX5_load cX5_load 3 (some .long) 3 76 G o [.ref (o + 0), .int u, .int 1] X Y (some (.long (-5))) (solX X Y (X 8 0) (X 8 1) (X 8 2) (X 8 3)) (solY X Y (X 8 0) (X 8 1) (X 8 2) (X 8 3)) := by
  refine Ct.mk (by decide +kernel) (Nat.le_of_ble_eq_true rfl) rfl ?_
  intro p9 e9 s9 m9 args9 below9 meth9 c9 hE hr hlocks hK hI ls hl
  have hx := hE.1
  have hb := hE.2.1
  have hl : lv_has ls 3 [(0, .ref (o + 0)), (1, .int u), (2, .int 1)] := hl
  refine lv_iload_n hx hb dX5_load_0 rfl (lv_at hl 1 rfl) ?_
  refine x_callSi hE hK hI (c_X5_isSize l G o _ _ u ) mf_X5_isSize mw_189 rfl hl.1 rfl (Nat.le_of_ble_eq_true rfl) ⟨(Nat.le_of_ble_eq_true rfl), (Nat.le_of_ble_eq_true rfl)⟩ ⟨Nat.zero_le _, Nat.zero_le _⟩ dX5_load_1 (fun H locs hI => ?_)
  refine lv_topi (fun z1 ez1 => ?_)
  obtain rfl : 1 = z1 := (ez1.trans (bI_t h1)).symm
  refine lv_if_ne (tgt := 11) hx hb dX5_load_4 (by decide) (fun _ => ?_) (fun q => absurd q (by decide))
  refine lv_iload_n hx hb dX5_load_11 rfl (lv_at hl 2 rfl) ?_
  refine x_callSi hE hK hI (c_X5_isZeroOrOne l G o _ _ 1 ) mf_X5_isZeroOrOne mw_227 rfl hl.1 rfl (Nat.le_of_ble_eq_true rfl) ⟨(Nat.le_of_ble_eq_true rfl), (Nat.le_of_ble_eq_true rfl)⟩ ⟨Nat.zero_le _, Nat.zero_le _⟩ dX5_load_12 (fun H locs hI => ?_)
  refine lv_topi (fun z2 ez2 => ?_)
  obtain rfl : 1 = z2 := (ez2.trans (bI_t (by decide))).symm
  refine lv_if_ne (tgt := 22) hx hb dX5_load_15 (by decide) (fun _ => ?_) (fun q => absurd q (by decide))
  refine lv_aload_n hx hb dX5_load_22 rfl (lv_at hl 0 rfl) ?_
  refine x_get (k := 0) hE hK hI (by decide) inG5 (e_0 G o _ _) rfl 3 (by decide) mw_175 rfl dX5_load_23 ?_
  refine lv_aload_n hx hb dX5_load_26 rfl (lv_at hl 0 rfl) ?_
  refine x_get (k := 0) hE hK hI (by decide) inG5 (e_0 G o _ _) rfl 0 (by decide) mw_172 rfl dX5_load_27 ?_
  refine x_get (k := 1) hE hK hI (by decide) inG1 (e_1 G o _ _) rfl 0 (by decide) mw_139 rfl dX5_load_30 ?_
  refine lv_aload_n hx hb dX5_load_33 rfl (lv_at hl 0 rfl) ?_
  refine x_get (k := 0) hE hK hI (by decide) inG5 (e_0 G o _ _) rfl 0 (by decide) mw_172 rfl dX5_load_34 ?_
  refine x_get (k := 1) hE hK hI (by decide) inG1 (e_1 G o _ _) rfl 0 (by decide) mw_139 rfl dX5_load_37 ?_
  refine x_get (k := 2) hE hK hI (by decide) inG2 (e_2 G o _ _) rfl 1 (by decide) mw_37 rfl dX5_load_40 ?_
  refine x_callVv (k := 282) hE hK hI (c_X4_solve_8 l G o _ _ (X 8 0) (X 8 1) (X 8 2) (X 8 3) rfl rfl rfl rfl) mf_X4_solve mw_231 (by decide) ((e_282 G o) _ _) rfl rfl hl.1 rfl (Nat.le_of_ble_eq_true rfl) ⟨(Nat.le_of_ble_eq_true rfl), (Nat.le_of_ble_eq_true rfl)⟩ ⟨Nat.zero_le _, Nat.zero_le _⟩ dX5_load_43 (fun H locs hI => ?_)
  refine lv_aload_n hx hb dX5_load_46 rfl (lv_at hl 0 rfl) ?_
  refine x_get (k := 0) hE hK hI (by decide) inG5 (e_0 G o _ _) rfl 3 (by decide) mw_175 rfl dX5_load_47 ?_
  refine x_get (k := 282) hE hK hI (by decide) inG4 (e_282 G o _ _) rfl 3 (by decide) mw_160 rfl dX5_load_50 ?_
  refine lv_if_ne (tgt := 60) hx hb dX5_load_53 (by decide) (fun q => absurd h q) (fun _ => ?_)
  refine lv_ldc2 hx hb hE.2.2.2.1 (hE.2.2.2.2 _ mw_243) dX5_load_56 ?_
  exact x_lret hE hr hlocks hI rfl rfl rfl dX5_load_59
set_option maxRecDepth 100000 in
set_option maxHeartbeats 4000000 in
theorem c_X5_product_a (l : Launch) (G : GG) (o : Nat) (X : SX) (Y : SY) (u : Int32) (v : Int32) (h : ¬ (Wi u 0 3)) : Ct l yX5_product cX5_product 8 (some .long) 2 42 G o [.ref (o + 0), .int u, .int v] X Y (some (.long (-1))) X Y := by
  refine Ct.mk (by decide +kernel) (Nat.le_of_ble_eq_true rfl) rfl ?_
  intro p9 e9 s9 m9 args9 below9 meth9 c9 hE hr hlocks hK hI ls hl
  have hx := hE.1
  have hb := hE.2.1
  have hl : lv_has ls 8 [(0, .ref (o + 0)), (1, .int u), (2, .int v)] := hl
  refine lv_iload_n hx hb dX5_product_0 rfl (lv_at hl 1 rfl) ?_
  refine x_callSi hE hK hI (c_X5_isSize l G o _ _ u ) mf_X5_isSize mw_189 rfl hl.1 rfl (Nat.le_of_ble_eq_true rfl) ⟨(Nat.le_of_ble_eq_true rfl), (Nat.le_of_ble_eq_true rfl)⟩ ⟨Nat.zero_le _, Nat.zero_le _⟩ dX5_product_1 (fun H locs hI => ?_)
  refine lv_topi (fun z1 ez1 => ?_)
  obtain rfl : 0 = z1 := (ez1.trans (bI_f h)).symm
  refine lv_if_ne (tgt := 11) hx hb dX5_product_4 (by decide) (fun q => absurd (by decide) q) (fun _ => ?_)
  refine lv_ldc2 hx hb hE.2.2.2.1 (hE.2.2.2.2 _ mw_226) dX5_product_7 ?_
  exact x_lret hE hr hlocks hI rfl rfl rfl dX5_product_10
set_option maxRecDepth 100000 in
set_option maxHeartbeats 4000000 in
theorem c_X5_product_b (l : Launch) (G : GG) (o : Nat) (X : SX) (Y : SY) (u : Int32) (v : Int32) (h1 : Wi u 0 3) (h : ¬ (v = 0 ∨ v = 1)) : Ct l yX5_product cX5_product 8 (some .long) 2 42 G o [.ref (o + 0), .int u, .int v] X Y (some (.long (-3))) X Y := by
  refine Ct.mk (by decide +kernel) (Nat.le_of_ble_eq_true rfl) rfl ?_
  intro p9 e9 s9 m9 args9 below9 meth9 c9 hE hr hlocks hK hI ls hl
  have hx := hE.1
  have hb := hE.2.1
  have hl : lv_has ls 8 [(0, .ref (o + 0)), (1, .int u), (2, .int v)] := hl
  refine lv_iload_n hx hb dX5_product_0 rfl (lv_at hl 1 rfl) ?_
  refine x_callSi hE hK hI (c_X5_isSize l G o _ _ u ) mf_X5_isSize mw_189 rfl hl.1 rfl (Nat.le_of_ble_eq_true rfl) ⟨(Nat.le_of_ble_eq_true rfl), (Nat.le_of_ble_eq_true rfl)⟩ ⟨Nat.zero_le _, Nat.zero_le _⟩ dX5_product_1 (fun H locs hI => ?_)
  refine lv_topi (fun z1 ez1 => ?_)
  obtain rfl : 1 = z1 := (ez1.trans (bI_t h1)).symm
  refine lv_if_ne (tgt := 11) hx hb dX5_product_4 (by decide) (fun _ => ?_) (fun q => absurd q (by decide))
  refine lv_iload_n hx hb dX5_product_11 rfl (lv_at hl 2 rfl) ?_
  refine x_callSi hE hK hI (c_X5_isZeroOrOne l G o _ _ v ) mf_X5_isZeroOrOne mw_227 rfl hl.1 rfl (Nat.le_of_ble_eq_true rfl) ⟨(Nat.le_of_ble_eq_true rfl), (Nat.le_of_ble_eq_true rfl)⟩ ⟨Nat.zero_le _, Nat.zero_le _⟩ dX5_product_12 (fun H locs hI => ?_)
  refine lv_topi (fun z2 ez2 => ?_)
  obtain rfl : 0 = z2 := (ez2.trans (bI_f h)).symm
  refine lv_if_ne (tgt := 22) hx hb dX5_product_15 (by decide) (fun q => absurd (by decide) q) (fun _ => ?_)
  refine lv_ldc2 hx hb hE.2.2.2.1 (hE.2.2.2.2 _ mw_230) dX5_product_18 ?_
  exact x_lret hE hr hlocks hI rfl rfl rfl dX5_product_21
set_option maxRecDepth 100000 in
set_option maxHeartbeats 4000000 in
theorem c_X5_product_n0 (l : Launch) (G : GG) (o : Nat) (X : SX) (Y : SY) (u : Int32) (h1 : Wi u 0 3) (h : (solX X Y (X 8 0) (X 8 1) (X 8 2) (X 8 3)) 282 3 = 0) : Ct l yX5_product cX5_product 8 (some .long) 3 76 G o [.ref (o + 0), .int u, .int 0] X Y (some (.long (-5))) (solX X Y (X 8 0) (X 8 1) (X 8 2) (X 8 3)) (solY X Y (X 8 0) (X 8 1) (X 8 2) (X 8 3)) := by
  refine Ct.mk (by decide +kernel) (Nat.le_of_ble_eq_true rfl) rfl ?_
  intro p9 e9 s9 m9 args9 below9 meth9 c9 hE hr hlocks hK hI ls hl
  have hx := hE.1
  have hb := hE.2.1
  have hl : lv_has ls 8 [(0, .ref (o + 0)), (1, .int u), (2, .int 0)] := hl
  refine lv_iload_n hx hb dX5_product_0 rfl (lv_at hl 1 rfl) ?_
  refine x_callSi hE hK hI (c_X5_isSize l G o _ _ u ) mf_X5_isSize mw_189 rfl hl.1 rfl (Nat.le_of_ble_eq_true rfl) ⟨(Nat.le_of_ble_eq_true rfl), (Nat.le_of_ble_eq_true rfl)⟩ ⟨Nat.zero_le _, Nat.zero_le _⟩ dX5_product_1 (fun H locs hI => ?_)
  refine lv_topi (fun z1 ez1 => ?_)
  obtain rfl : 1 = z1 := (ez1.trans (bI_t h1)).symm
  refine lv_if_ne (tgt := 11) hx hb dX5_product_4 (by decide) (fun _ => ?_) (fun q => absurd q (by decide))
  refine lv_iload_n hx hb dX5_product_11 rfl (lv_at hl 2 rfl) ?_
  refine x_callSi hE hK hI (c_X5_isZeroOrOne l G o _ _ 0 ) mf_X5_isZeroOrOne mw_227 rfl hl.1 rfl (Nat.le_of_ble_eq_true rfl) ⟨(Nat.le_of_ble_eq_true rfl), (Nat.le_of_ble_eq_true rfl)⟩ ⟨Nat.zero_le _, Nat.zero_le _⟩ dX5_product_12 (fun H locs hI => ?_)
  refine lv_topi (fun z2 ez2 => ?_)
  obtain rfl : 1 = z2 := (ez2.trans (bI_t (by decide))).symm
  refine lv_if_ne (tgt := 22) hx hb dX5_product_15 (by decide) (fun _ => ?_) (fun q => absurd q (by decide))
  refine lv_aload_n hx hb dX5_product_22 rfl (lv_at hl 0 rfl) ?_
  refine x_get (k := 0) hE hK hI (by decide) inG5 (e_0 G o _ _) rfl 0 (by decide) mw_172 rfl dX5_product_23 ?_
  refine x_get (k := 1) hE hK hI (by decide) inG1 (e_1 G o _ _) rfl 0 (by decide) mw_139 rfl dX5_product_26 ?_
  refine lv_astore_n (lv' := [(3, .ref (o + 2)), (0, .ref (o + 0)), (1, .int u), (2, .int 0)]) hx hb dX5_product_29 rfl hl (by decide) rfl (fun ls hl => ?_)
  refine lv_aload_n hx hb dX5_product_30 rfl (lv_at hl 1 rfl) ?_
  refine x_get (k := 0) hE hK hI (by decide) inG5 (e_0 G o _ _) rfl 3 (by decide) mw_175 rfl dX5_product_31 ?_
  refine lv_aload_n hx hb dX5_product_34 rfl (lv_at hl 0 rfl) ?_
  refine lv_aload_n hx hb dX5_product_35 rfl (lv_at hl 0 rfl) ?_
  refine x_get (k := 2) hE hK hI (by decide) inG2 (e_2 G o _ _) rfl 1 (by decide) mw_37 rfl dX5_product_36 ?_
  refine x_callVv (k := 282) hE hK hI (c_X4_solve_8 l G o _ _ (X 8 0) (X 8 1) (X 8 2) (X 8 3) rfl rfl rfl rfl) mf_X4_solve mw_231 (by decide) ((e_282 G o) _ _) rfl rfl hl.1 rfl (Nat.le_of_ble_eq_true rfl) ⟨(Nat.le_of_ble_eq_true rfl), (Nat.le_of_ble_eq_true rfl)⟩ ⟨Nat.zero_le _, Nat.zero_le _⟩ dX5_product_39 (fun H locs hI => ?_)
  refine lv_aload_n hx hb dX5_product_42 rfl (lv_at hl 1 rfl) ?_
  refine x_get (k := 0) hE hK hI (by decide) inG5 (e_0 G o _ _) rfl 3 (by decide) mw_175 rfl dX5_product_43 ?_
  refine x_get (k := 282) hE hK hI (by decide) inG4 (e_282 G o _ _) rfl 3 (by decide) mw_160 rfl dX5_product_46 ?_
  refine lv_if_ne (tgt := 56) hx hb dX5_product_49 (by decide) (fun q => absurd h q) (fun _ => ?_)
  refine lv_ldc2 hx hb hE.2.2.2.1 (hE.2.2.2.2 _ mw_243) dX5_product_52 ?_
  exact x_lret hE hr hlocks hI rfl rfl rfl dX5_product_55
set_option maxRecDepth 100000 in
set_option maxHeartbeats 4000000 in
theorem c_X5_product_n1 (l : Launch) (G : GG) (o : Nat) (X : SX) (Y : SY) (u : Int32) (h1 : Wi u 0 3) (h : (solX X Y (X 8 0) (X 8 1) (X 8 2) (X 8 3)) 282 3 = 0) : Ct l yX5_product cX5_product 8 (some .long) 3 76 G o [.ref (o + 0), .int u, .int 1] X Y (some (.long (-5))) (solX X Y (X 8 0) (X 8 1) (X 8 2) (X 8 3)) (solY X Y (X 8 0) (X 8 1) (X 8 2) (X 8 3)) := by
  refine Ct.mk (by decide +kernel) (Nat.le_of_ble_eq_true rfl) rfl ?_
  intro p9 e9 s9 m9 args9 below9 meth9 c9 hE hr hlocks hK hI ls hl
  have hx := hE.1
  have hb := hE.2.1
  have hl : lv_has ls 8 [(0, .ref (o + 0)), (1, .int u), (2, .int 1)] := hl
  refine lv_iload_n hx hb dX5_product_0 rfl (lv_at hl 1 rfl) ?_
  refine x_callSi hE hK hI (c_X5_isSize l G o _ _ u ) mf_X5_isSize mw_189 rfl hl.1 rfl (Nat.le_of_ble_eq_true rfl) ⟨(Nat.le_of_ble_eq_true rfl), (Nat.le_of_ble_eq_true rfl)⟩ ⟨Nat.zero_le _, Nat.zero_le _⟩ dX5_product_1 (fun H locs hI => ?_)
  refine lv_topi (fun z1 ez1 => ?_)
  obtain rfl : 1 = z1 := (ez1.trans (bI_t h1)).symm
  refine lv_if_ne (tgt := 11) hx hb dX5_product_4 (by decide) (fun _ => ?_) (fun q => absurd q (by decide))
  refine lv_iload_n hx hb dX5_product_11 rfl (lv_at hl 2 rfl) ?_
  refine x_callSi hE hK hI (c_X5_isZeroOrOne l G o _ _ 1 ) mf_X5_isZeroOrOne mw_227 rfl hl.1 rfl (Nat.le_of_ble_eq_true rfl) ⟨(Nat.le_of_ble_eq_true rfl), (Nat.le_of_ble_eq_true rfl)⟩ ⟨Nat.zero_le _, Nat.zero_le _⟩ dX5_product_12 (fun H locs hI => ?_)
  refine lv_topi (fun z2 ez2 => ?_)
  obtain rfl : 1 = z2 := (ez2.trans (bI_t (by decide))).symm
  refine lv_if_ne (tgt := 22) hx hb dX5_product_15 (by decide) (fun _ => ?_) (fun q => absurd q (by decide))
  refine lv_aload_n hx hb dX5_product_22 rfl (lv_at hl 0 rfl) ?_
  refine x_get (k := 0) hE hK hI (by decide) inG5 (e_0 G o _ _) rfl 0 (by decide) mw_172 rfl dX5_product_23 ?_
  refine x_get (k := 1) hE hK hI (by decide) inG1 (e_1 G o _ _) rfl 0 (by decide) mw_139 rfl dX5_product_26 ?_
  refine lv_astore_n (lv' := [(3, .ref (o + 2)), (0, .ref (o + 0)), (1, .int u), (2, .int 1)]) hx hb dX5_product_29 rfl hl (by decide) rfl (fun ls hl => ?_)
  refine lv_aload_n hx hb dX5_product_30 rfl (lv_at hl 1 rfl) ?_
  refine x_get (k := 0) hE hK hI (by decide) inG5 (e_0 G o _ _) rfl 3 (by decide) mw_175 rfl dX5_product_31 ?_
  refine lv_aload_n hx hb dX5_product_34 rfl (lv_at hl 0 rfl) ?_
  refine lv_aload_n hx hb dX5_product_35 rfl (lv_at hl 0 rfl) ?_
  refine x_get (k := 2) hE hK hI (by decide) inG2 (e_2 G o _ _) rfl 1 (by decide) mw_37 rfl dX5_product_36 ?_
  refine x_callVv (k := 282) hE hK hI (c_X4_solve_8 l G o _ _ (X 8 0) (X 8 1) (X 8 2) (X 8 3) rfl rfl rfl rfl) mf_X4_solve mw_231 (by decide) ((e_282 G o) _ _) rfl rfl hl.1 rfl (Nat.le_of_ble_eq_true rfl) ⟨(Nat.le_of_ble_eq_true rfl), (Nat.le_of_ble_eq_true rfl)⟩ ⟨Nat.zero_le _, Nat.zero_le _⟩ dX5_product_39 (fun H locs hI => ?_)
  refine lv_aload_n hx hb dX5_product_42 rfl (lv_at hl 1 rfl) ?_
  refine x_get (k := 0) hE hK hI (by decide) inG5 (e_0 G o _ _) rfl 3 (by decide) mw_175 rfl dX5_product_43 ?_
  refine x_get (k := 282) hE hK hI (by decide) inG4 (e_282 G o _ _) rfl 3 (by decide) mw_160 rfl dX5_product_46 ?_
  refine lv_if_ne (tgt := 56) hx hb dX5_product_49 (by decide) (fun q => absurd h q) (fun _ => ?_)
  refine lv_ldc2 hx hb hE.2.2.2.1 (hE.2.2.2.2 _ mw_243) dX5_product_52 ?_
  exact x_lret hE hr hlocks hI rfl rfl rfl dX5_product_55
set_option maxRecDepth 100000 in
set_option maxHeartbeats 4000000 in
theorem c_X5_load_y0 (l : Launch) (G : GG) (o : Nat) (X : SX) (Y : SY) (j : Nat) (h0 : j < 4) (h1 : Wi (nI j) 0 3) (h : ¬ ((solX X Y (X 8 0) (X 8 1) (X 8 2) (X 8 3)) 282 3 = 0)) (hg : 1 ≤ gcdL 100 ((solY X Y (X 8 0) (X 8 1) (X 8 2) (X 8 3)) 283 j) ((solY X Y (X 8 0) (X 8 1) (X 8 2) (X 8 3)) 282 2)) : Ct l yX5_load cX5_load 3 (some .long) 3 76 G o [.ref (o + 0), .int (nI j), .int 0] X Y (some (.long (((solY X Y (X 8 0) (X 8 1) (X 8 2) (X 8 3)) 283 j) / (gcdL 100 ((solY X Y (X 8 0) (X 8 1) (X 8 2) (X 8 3)) 283 j) ((solY X Y (X 8 0) (X 8 1) (X 8 2) (X 8 3)) 282 2))))) (solX X Y (X 8 0) (X 8 1) (X 8 2) (X 8 3)) (solY X Y (X 8 0) (X 8 1) (X 8 2) (X 8 3)) := by
  refine Ct.mk (by decide +kernel) (Nat.le_of_ble_eq_true rfl) rfl ?_
  intro p9 e9 s9 m9 args9 below9 meth9 c9 hE hr hlocks hK hI ls hl
  have hx := hE.1
  have hb := hE.2.1
  have hl : lv_has ls 3 [(0, .ref (o + 0)), (1, .int (nI j)), (2, .int 0)] := hl
  refine lv_iload_n hx hb dX5_load_0 rfl (lv_at hl 1 rfl) ?_
  refine x_callSi hE hK hI (c_X5_isSize l G o _ _ (nI j) ) mf_X5_isSize mw_189 rfl hl.1 rfl (Nat.le_of_ble_eq_true rfl) ⟨(Nat.le_of_ble_eq_true rfl), (Nat.le_of_ble_eq_true rfl)⟩ ⟨Nat.zero_le _, Nat.zero_le _⟩ dX5_load_1 (fun H locs hI => ?_)
  refine lv_topi (fun z1 ez1 => ?_)
  obtain rfl : 1 = z1 := (ez1.trans (bI_t h1)).symm
  refine lv_if_ne (tgt := 11) hx hb dX5_load_4 (by decide) (fun _ => ?_) (fun q => absurd q (by decide))
  refine lv_iload_n hx hb dX5_load_11 rfl (lv_at hl 2 rfl) ?_
  refine x_callSi hE hK hI (c_X5_isZeroOrOne l G o _ _ 0 ) mf_X5_isZeroOrOne mw_227 rfl hl.1 rfl (Nat.le_of_ble_eq_true rfl) ⟨(Nat.le_of_ble_eq_true rfl), (Nat.le_of_ble_eq_true rfl)⟩ ⟨Nat.zero_le _, Nat.zero_le _⟩ dX5_load_12 (fun H locs hI => ?_)
  refine lv_topi (fun z2 ez2 => ?_)
  obtain rfl : 1 = z2 := (ez2.trans (bI_t (by decide))).symm
  refine lv_if_ne (tgt := 22) hx hb dX5_load_15 (by decide) (fun _ => ?_) (fun q => absurd q (by decide))
  refine lv_aload_n hx hb dX5_load_22 rfl (lv_at hl 0 rfl) ?_
  refine x_get (k := 0) hE hK hI (by decide) inG5 (e_0 G o _ _) rfl 3 (by decide) mw_175 rfl dX5_load_23 ?_
  refine lv_aload_n hx hb dX5_load_26 rfl (lv_at hl 0 rfl) ?_
  refine x_get (k := 0) hE hK hI (by decide) inG5 (e_0 G o _ _) rfl 0 (by decide) mw_172 rfl dX5_load_27 ?_
  refine x_get (k := 1) hE hK hI (by decide) inG1 (e_1 G o _ _) rfl 0 (by decide) mw_139 rfl dX5_load_30 ?_
  refine lv_aload_n hx hb dX5_load_33 rfl (lv_at hl 0 rfl) ?_
  refine x_get (k := 0) hE hK hI (by decide) inG5 (e_0 G o _ _) rfl 0 (by decide) mw_172 rfl dX5_load_34 ?_
  refine x_get (k := 1) hE hK hI (by decide) inG1 (e_1 G o _ _) rfl 0 (by decide) mw_139 rfl dX5_load_37 ?_
  refine x_get (k := 2) hE hK hI (by decide) inG2 (e_2 G o _ _) rfl 1 (by decide) mw_37 rfl dX5_load_40 ?_
  refine x_callVv (k := 282) hE hK hI (c_X4_solve_8 l G o _ _ (X 8 0) (X 8 1) (X 8 2) (X 8 3) rfl rfl rfl rfl) mf_X4_solve mw_231 (by decide) ((e_282 G o) _ _) rfl rfl hl.1 rfl (Nat.le_of_ble_eq_true rfl) ⟨(Nat.le_of_ble_eq_true rfl), (Nat.le_of_ble_eq_true rfl)⟩ ⟨Nat.zero_le _, Nat.zero_le _⟩ dX5_load_43 (fun H locs hI => ?_)
  refine lv_aload_n hx hb dX5_load_46 rfl (lv_at hl 0 rfl) ?_
  refine x_get (k := 0) hE hK hI (by decide) inG5 (e_0 G o _ _) rfl 3 (by decide) mw_175 rfl dX5_load_47 ?_
  refine x_get (k := 282) hE hK hI (by decide) inG4 (e_282 G o _ _) rfl 3 (by decide) mw_160 rfl dX5_load_50 ?_
  refine lv_if_ne (tgt := 60) hx hb dX5_load_53 (by decide) (fun _ => ?_) (fun q => absurd q h)
  refine lv_aload_n hx hb dX5_load_60 rfl (lv_at hl 0 rfl) ?_
  refine x_get (k := 0) hE hK hI (by decide) inG5 (e_0 G o _ _) rfl 3 (by decide) mw_175 rfl dX5_load_61 ?_
  refine x_get (k := 282) hE hK hI (by decide) inG4 (e_282 G o _ _) rfl 0 (by decide) mw_155 rfl dX5_load_64 ?_
  refine lv_iload_n hx hb dX5_load_67 rfl (lv_at hl 1 rfl) ?_
  refine x_lald (k := 283) (j := j) hE hK hI (by decide) (e_283 G o) h0 (by decide) rfl dX5_load_68 ?_
  refine lv_aload_n hx hb dX5_load_69 rfl (lv_at hl 0 rfl) ?_
  refine x_get (k := 0) hE hK hI (by decide) inG5 (e_0 G o _ _) rfl 3 (by decide) mw_175 rfl dX5_load_70 ?_
  refine x_get (k := 282) hE hK hI (by decide) inG4 (e_282 G o _ _) rfl 2 (by decide) mw_158 rfl dX5_load_73 ?_
  refine lv_iload_n hx hb dX5_load_76 rfl (lv_at hl 2 rfl) ?_
  refine x_callSl hE hK hI (c_X5_partOf_0 l G o _ _ ((solY X Y (X 8 0) (X 8 1) (X 8 2) (X 8 3)) 283 j) ((solY X Y (X 8 0) (X 8 1) (X 8 2) (X 8 3)) 282 2) hg) mf_X5_partOf mw_244 rfl hl.1 rfl (Nat.le_of_ble_eq_true rfl) ⟨(Nat.le_of_ble_eq_true rfl), (Nat.le_of_ble_eq_true rfl)⟩ ⟨Nat.zero_le _, Nat.zero_le _⟩ dX5_load_77 (fun H locs hI => ?_)
  exact x_lret hE hr hlocks hI rfl rfl rfl dX5_load_80
set_option maxRecDepth 100000 in
set_option maxHeartbeats 4000000 in
theorem c_X5_product_y0_0 (l : Launch) (G : GG) (o : Nat) (X : SX) (Y : SY) (h : ¬ ((solX X Y (X 8 0) (X 8 1) (X 8 2) (X 8 3)) 282 3 = 0)) (hg : 1 ≤ gcdL 100 (((ent (solX X Y (X 8 0) (X 8 1) (X 8 2) (X 8 3)) (solY X Y (X 8 0) (X 8 1) (X 8 2) (X 8 3)) 0) + (((solY X Y (X 8 0) (X 8 1) (X 8 2) (X 8 3)) 283 0) * ((solX X Y (X 8 0) (X 8 1) (X 8 2) (X 8 3)) 4 0).toInt64)) * (10 - ((solX X Y (X 8 0) (X 8 1) (X 8 2) (X 8 3)) 8 0)).toInt64) ((((solY X Y (X 8 0) (X 8 1) (X 8 2) (X 8 3)) 282 2) * 10) * 10)) : Ct l yX5_product cX5_product 8 (some .long) 3 76 G o [.ref (o + 0), .int 0, .int 0] X Y (some (.long ((((ent (solX X Y (X 8 0) (X 8 1) (X 8 2) (X 8 3)) (solY X Y (X 8 0) (X 8 1) (X 8 2) (X 8 3)) 0) + (((solY X Y (X 8 0) (X 8 1) (X 8 2) (X 8 3)) 283 0) * (((solX X Y (X 8 0) (X 8 1) (X 8 2) (X 8 3)) 4 0).toInt64))) * ((10 - ((solX X Y (X 8 0) (X 8 1) (X 8 2) (X 8 3)) 8 0)).toInt64)) / (gcdL 100 (((ent (solX X Y (X 8 0) (X 8 1) (X 8 2) (X 8 3)) (solY X Y (X 8 0) (X 8 1) (X 8 2) (X 8 3)) 0) + (((solY X Y (X 8 0) (X 8 1) (X 8 2) (X 8 3)) 283 0) * (((solX X Y (X 8 0) (X 8 1) (X 8 2) (X 8 3)) 4 0).toInt64))) * ((10 - ((solX X Y (X 8 0) (X 8 1) (X 8 2) (X 8 3)) 8 0)).toInt64)) ((((solY X Y (X 8 0) (X 8 1) (X 8 2) (X 8 3)) 282 2) * 10) * 10))))) (solX X Y (X 8 0) (X 8 1) (X 8 2) (X 8 3)) (solY X Y (X 8 0) (X 8 1) (X 8 2) (X 8 3)) := by
  refine Ct.mk (by decide +kernel) (Nat.le_of_ble_eq_true rfl) rfl ?_
  intro p9 e9 s9 m9 args9 below9 meth9 c9 hE hr hlocks hK hI ls hl
  have hx := hE.1
  have hb := hE.2.1
  have hl : lv_has ls 8 [(0, .ref (o + 0)), (1, .int 0), (2, .int 0)] := hl
  refine lv_iload_n hx hb dX5_product_0 rfl (lv_at hl 1 rfl) ?_
  refine x_callSi hE hK hI (c_X5_isSize l G o _ _ 0 ) mf_X5_isSize mw_189 rfl hl.1 rfl (Nat.le_of_ble_eq_true rfl) ⟨(Nat.le_of_ble_eq_true rfl), (Nat.le_of_ble_eq_true rfl)⟩ ⟨Nat.zero_le _, Nat.zero_le _⟩ dX5_product_1 (fun H locs hI => ?_)
  refine lv_topi (fun z1 ez1 => ?_)
  obtain rfl : 1 = z1 := (ez1.trans (bI_t (by decide))).symm
  refine lv_if_ne (tgt := 11) hx hb dX5_product_4 (by decide) (fun _ => ?_) (fun q => absurd q (by decide))
  refine lv_iload_n hx hb dX5_product_11 rfl (lv_at hl 2 rfl) ?_
  refine x_callSi hE hK hI (c_X5_isZeroOrOne l G o _ _ 0 ) mf_X5_isZeroOrOne mw_227 rfl hl.1 rfl (Nat.le_of_ble_eq_true rfl) ⟨(Nat.le_of_ble_eq_true rfl), (Nat.le_of_ble_eq_true rfl)⟩ ⟨Nat.zero_le _, Nat.zero_le _⟩ dX5_product_12 (fun H locs hI => ?_)
  refine lv_topi (fun z2 ez2 => ?_)
  obtain rfl : 1 = z2 := (ez2.trans (bI_t (by decide))).symm
  refine lv_if_ne (tgt := 22) hx hb dX5_product_15 (by decide) (fun _ => ?_) (fun q => absurd q (by decide))
  refine lv_aload_n hx hb dX5_product_22 rfl (lv_at hl 0 rfl) ?_
  refine x_get (k := 0) hE hK hI (by decide) inG5 (e_0 G o _ _) rfl 0 (by decide) mw_172 rfl dX5_product_23 ?_
  refine x_get (k := 1) hE hK hI (by decide) inG1 (e_1 G o _ _) rfl 0 (by decide) mw_139 rfl dX5_product_26 ?_
  refine lv_astore_n (lv' := [(3, .ref (o + 2)), (0, .ref (o + 0)), (1, .int 0), (2, .int 0)]) hx hb dX5_product_29 rfl hl (by decide) rfl (fun ls hl => ?_)
  refine lv_aload_n hx hb dX5_product_30 rfl (lv_at hl 1 rfl) ?_
  refine x_get (k := 0) hE hK hI (by decide) inG5 (e_0 G o _ _) rfl 3 (by decide) mw_175 rfl dX5_product_31 ?_
  refine lv_aload_n hx hb dX5_product_34 rfl (lv_at hl 0 rfl) ?_
  refine lv_aload_n hx hb dX5_product_35 rfl (lv_at hl 0 rfl) ?_
  refine x_get (k := 2) hE hK hI (by decide) inG2 (e_2 G o _ _) rfl 1 (by decide) mw_37 rfl dX5_product_36 ?_
  refine x_callVv (k := 282) hE hK hI (c_X4_solve_8 l G o _ _ (X 8 0) (X 8 1) (X 8 2) (X 8 3) rfl rfl rfl rfl) mf_X4_solve mw_231 (by decide) ((e_282 G o) _ _) rfl rfl hl.1 rfl (Nat.le_of_ble_eq_true rfl) ⟨(Nat.le_of_ble_eq_true rfl), (Nat.le_of_ble_eq_true rfl)⟩ ⟨Nat.zero_le _, Nat.zero_le _⟩ dX5_product_39 (fun H locs hI => ?_)
  refine lv_aload_n hx hb dX5_product_42 rfl (lv_at hl 1 rfl) ?_
  refine x_get (k := 0) hE hK hI (by decide) inG5 (e_0 G o _ _) rfl 3 (by decide) mw_175 rfl dX5_product_43 ?_
  refine x_get (k := 282) hE hK hI (by decide) inG4 (e_282 G o _ _) rfl 3 (by decide) mw_160 rfl dX5_product_46 ?_
  refine lv_if_ne (tgt := 56) hx hb dX5_product_49 (by decide) (fun _ => ?_) (fun q => absurd q h)
  refine lv_aload_n hx hb dX5_product_56 rfl (lv_at hl 1 rfl) ?_
  refine x_get (k := 0) hE hK hI (by decide) inG5 (e_0 G o _ _) rfl 3 (by decide) mw_175 rfl dX5_product_57 ?_
  refine lv_aload_n hx hb dX5_product_60 rfl (lv_at hl 0 rfl) ?_
  refine lv_iload_n hx hb dX5_product_61 rfl (lv_at hl 2 rfl) ?_
  refine x_callVl (k := 282) hE hK hI (c_X4_brokenInto_0 l G o _ _  ) mf_X4_brokenInto mw_257 (by decide) ((e_282 G o) _ _) rfl rfl hl.1 rfl (Nat.le_of_ble_eq_true rfl) ⟨(Nat.le_of_ble_eq_true rfl), (Nat.le_of_ble_eq_true rfl)⟩ ⟨Nat.zero_le _, Nat.zero_le _⟩ dX5_product_62 (fun H locs hI => ?_)
  refine lv_aload_n hx hb dX5_product_65 rfl (lv_at hl 1 rfl) ?_
  refine x_get (k := 0) hE hK hI (by decide) inG5 (e_0 G o _ _) rfl 3 (by decide) mw_175 rfl dX5_product_66 ?_
  refine x_get (k := 282) hE hK hI (by decide) inG4 (e_282 G o _ _) rfl 0 (by decide) mw_155 rfl dX5_product_69 ?_
  refine lv_iload_n hx hb dX5_product_72 rfl (lv_at hl 2 rfl) ?_
  refine x_lald (k := 283) (j := 0) hE hK hI (by decide) (e_283 G o) (by decide) (by decide) rfl dX5_product_73 ?_
  refine lv_aload_n hx hb dX5_product_74 rfl (lv_at hl 0 rfl) ?_
  refine x_get (k := 2) hE hK hI (by decide) inG2 (e_2 G o _ _) rfl 0 (by decide) mw_33 rfl dX5_product_75 ?_
  refine lv_iload_n hx hb dX5_product_78 rfl (lv_at hl 2 rfl) ?_
  refine x_aald (k := 3) (j := 0) (t0 := 5) (q := o + 4) hE hK hI (by decide) (e_3 G o) rfl rfl (by decide) (by decide) rfl rfl dX5_product_79 ?_
  refine lv_iload_n hx hb dX5_product_80 rfl (lv_at hl 2 rfl) ?_
  refine x_iald (k := 4) (j := 0) hE hK hI (by decide) (e_4 G o) (by decide) (by decide) rfl dX5_product_81 ?_
  refine lv_i2l hx hb dX5_product_82 rfl ?_
  refine lv_lmul hx hb dX5_product_83 ?_
  refine lv_ladd hx hb dX5_product_84 ?_
  refine lv_lstore (lv' := [(4, .long ((ent (solX X Y (X 8 0) (X 8 1) (X 8 2) (X 8 3)) (solY X Y (X 8 0) (X 8 1) (X 8 2) (X 8 3)) 0) + (((solY X Y (X 8 0) (X 8 1) (X 8 2) (X 8 3)) 283 0) * (((solX X Y (X 8 0) (X 8 1) (X 8 2) (X 8 3)) 4 0).toInt64)))), (3, .ref (o + 2)), (0, .ref (o + 0)), (1, .int 0), (2, .int 0)]) hx hb dX5_product_85 hl (by decide) rfl (fun ls hl => ?_)
  refine lv_bipush (v := 10) hx hb dX5_product_87 (by decide) ?_
  refine lv_aload_n hx hb dX5_product_89 rfl (lv_at hl 1 rfl) ?_
  refine x_get (k := 2) hE hK hI (by decide) inG2 (e_2 G o _ _) rfl 1 (by decide) mw_37 rfl dX5_product_90 ?_
  refine lv_iload_n hx hb dX5_product_93 rfl (lv_at hl 3 rfl) ?_
  refine x_iald (k := 8) (j := 0) hE hK hI (by decide) (e_8 G o) (by decide) (by decide) rfl dX5_product_94 ?_
  refine lv_isub hx hb dX5_product_95 ?_
  refine lv_i2l hx hb dX5_product_96 rfl ?_
  refine lv_lstore (lv' := [(6, .long ((10 - ((solX X Y (X 8 0) (X 8 1) (X 8 2) (X 8 3)) 8 0)).toInt64)), (4, .long ((ent (solX X Y (X 8 0) (X 8 1) (X 8 2) (X 8 3)) (solY X Y (X 8 0) (X 8 1) (X 8 2) (X 8 3)) 0) + (((solY X Y (X 8 0) (X 8 1) (X 8 2) (X 8 3)) 283 0) * (((solX X Y (X 8 0) (X 8 1) (X 8 2) (X 8 3)) 4 0).toInt64)))), (3, .ref (o + 2)), (0, .ref (o + 0)), (1, .int 0), (2, .int 0)]) hx hb dX5_product_97 hl (by decide) rfl (fun ls hl => ?_)
  refine lv_lload hx hb dX5_product_99 (lv_at hl 1 rfl) ?_
  refine lv_lload hx hb dX5_product_101 (lv_at hl 0 rfl) ?_
  refine lv_lmul hx hb dX5_product_103 ?_
  refine lv_aload_n hx hb dX5_product_104 rfl (lv_at hl 3 rfl) ?_
  refine x_get (k := 0) hE hK hI (by decide) inG5 (e_0 G o _ _) rfl 3 (by decide) mw_175 rfl dX5_product_105 ?_
  refine x_get (k := 282) hE hK hI (by decide) inG4 (e_282 G o _ _) rfl 2 (by decide) mw_158 rfl dX5_product_108 ?_
  refine lv_ldc2 hx hb hE.2.2.2.1 (hE.2.2.2.2 _ mw_258) dX5_product_111 ?_
  refine lv_lmul hx hb dX5_product_114 ?_
  refine lv_ldc2 hx hb hE.2.2.2.1 (hE.2.2.2.2 _ mw_258) dX5_product_115 ?_
  refine lv_lmul hx hb dX5_product_118 ?_
  refine lv_iload_n hx hb dX5_product_119 rfl (lv_at hl 5 rfl) ?_
  refine x_callSl hE hK hI (c_X5_partOf_0 l G o _ _ (((ent (solX X Y (X 8 0) (X 8 1) (X 8 2) (X 8 3)) (solY X Y (X 8 0) (X 8 1) (X 8 2) (X 8 3)) 0) + (((solY X Y (X 8 0) (X 8 1) (X 8 2) (X 8 3)) 283 0) * (((solX X Y (X 8 0) (X 8 1) (X 8 2) (X 8 3)) 4 0).toInt64))) * ((10 - ((solX X Y (X 8 0) (X 8 1) (X 8 2) (X 8 3)) 8 0)).toInt64)) ((((solY X Y (X 8 0) (X 8 1) (X 8 2) (X 8 3)) 282 2) * 10) * 10) hg) mf_X5_partOf mw_244 rfl hl.1 rfl (Nat.le_of_ble_eq_true rfl) ⟨(Nat.le_of_ble_eq_true rfl), (Nat.le_of_ble_eq_true rfl)⟩ ⟨Nat.zero_le _, Nat.zero_le _⟩ dX5_product_120 (fun H locs hI => ?_)
  exact x_lret hE hr hlocks hI rfl rfl rfl dX5_product_123
set_option maxRecDepth 100000 in
set_option maxHeartbeats 4000000 in
theorem c_X5_product_y0_1 (l : Launch) (G : GG) (o : Nat) (X : SX) (Y : SY) (h : ¬ ((solX X Y (X 8 0) (X 8 1) (X 8 2) (X 8 3)) 282 3 = 0)) (hg : 1 ≤ gcdL 100 (((ent (solX X Y (X 8 0) (X 8 1) (X 8 2) (X 8 3)) (solY X Y (X 8 0) (X 8 1) (X 8 2) (X 8 3)) 1) + (((solY X Y (X 8 0) (X 8 1) (X 8 2) (X 8 3)) 283 1) * ((solX X Y (X 8 0) (X 8 1) (X 8 2) (X 8 3)) 5 1).toInt64)) * (10 - ((solX X Y (X 8 0) (X 8 1) (X 8 2) (X 8 3)) 8 1)).toInt64) ((((solY X Y (X 8 0) (X 8 1) (X 8 2) (X 8 3)) 282 2) * 10) * 10)) : Ct l yX5_product cX5_product 8 (some .long) 3 76 G o [.ref (o + 0), .int 1, .int 0] X Y (some (.long ((((ent (solX X Y (X 8 0) (X 8 1) (X 8 2) (X 8 3)) (solY X Y (X 8 0) (X 8 1) (X 8 2) (X 8 3)) 1) + (((solY X Y (X 8 0) (X 8 1) (X 8 2) (X 8 3)) 283 1) * (((solX X Y (X 8 0) (X 8 1) (X 8 2) (X 8 3)) 5 1).toInt64))) * ((10 - ((solX X Y (X 8 0) (X 8 1) (X 8 2) (X 8 3)) 8 1)).toInt64)) / (gcdL 100 (((ent (solX X Y (X 8 0) (X 8 1) (X 8 2) (X 8 3)) (solY X Y (X 8 0) (X 8 1) (X 8 2) (X 8 3)) 1) + (((solY X Y (X 8 0) (X 8 1) (X 8 2) (X 8 3)) 283 1) * (((solX X Y (X 8 0) (X 8 1) (X 8 2) (X 8 3)) 5 1).toInt64))) * ((10 - ((solX X Y (X 8 0) (X 8 1) (X 8 2) (X 8 3)) 8 1)).toInt64)) ((((solY X Y (X 8 0) (X 8 1) (X 8 2) (X 8 3)) 282 2) * 10) * 10))))) (solX X Y (X 8 0) (X 8 1) (X 8 2) (X 8 3)) (solY X Y (X 8 0) (X 8 1) (X 8 2) (X 8 3)) := by
  refine Ct.mk (by decide +kernel) (Nat.le_of_ble_eq_true rfl) rfl ?_
  intro p9 e9 s9 m9 args9 below9 meth9 c9 hE hr hlocks hK hI ls hl
  have hx := hE.1
  have hb := hE.2.1
  have hl : lv_has ls 8 [(0, .ref (o + 0)), (1, .int 1), (2, .int 0)] := hl
  refine lv_iload_n hx hb dX5_product_0 rfl (lv_at hl 1 rfl) ?_
  refine x_callSi hE hK hI (c_X5_isSize l G o _ _ 1 ) mf_X5_isSize mw_189 rfl hl.1 rfl (Nat.le_of_ble_eq_true rfl) ⟨(Nat.le_of_ble_eq_true rfl), (Nat.le_of_ble_eq_true rfl)⟩ ⟨Nat.zero_le _, Nat.zero_le _⟩ dX5_product_1 (fun H locs hI => ?_)
  refine lv_topi (fun z1 ez1 => ?_)
  obtain rfl : 1 = z1 := (ez1.trans (bI_t (by decide))).symm
  refine lv_if_ne (tgt := 11) hx hb dX5_product_4 (by decide) (fun _ => ?_) (fun q => absurd q (by decide))
  refine lv_iload_n hx hb dX5_product_11 rfl (lv_at hl 2 rfl) ?_
  refine x_callSi hE hK hI (c_X5_isZeroOrOne l G o _ _ 0 ) mf_X5_isZeroOrOne mw_227 rfl hl.1 rfl (Nat.le_of_ble_eq_true rfl) ⟨(Nat.le_of_ble_eq_true rfl), (Nat.le_of_ble_eq_true rfl)⟩ ⟨Nat.zero_le _, Nat.zero_le _⟩ dX5_product_12 (fun H locs hI => ?_)
  refine lv_topi (fun z2 ez2 => ?_)
  obtain rfl : 1 = z2 := (ez2.trans (bI_t (by decide))).symm
  refine lv_if_ne (tgt := 22) hx hb dX5_product_15 (by decide) (fun _ => ?_) (fun q => absurd q (by decide))
  refine lv_aload_n hx hb dX5_product_22 rfl (lv_at hl 0 rfl) ?_
  refine x_get (k := 0) hE hK hI (by decide) inG5 (e_0 G o _ _) rfl 0 (by decide) mw_172 rfl dX5_product_23 ?_
  refine x_get (k := 1) hE hK hI (by decide) inG1 (e_1 G o _ _) rfl 0 (by decide) mw_139 rfl dX5_product_26 ?_
  refine lv_astore_n (lv' := [(3, .ref (o + 2)), (0, .ref (o + 0)), (1, .int 1), (2, .int 0)]) hx hb dX5_product_29 rfl hl (by decide) rfl (fun ls hl => ?_)
  refine lv_aload_n hx hb dX5_product_30 rfl (lv_at hl 1 rfl) ?_
  refine x_get (k := 0) hE hK hI (by decide) inG5 (e_0 G o _ _) rfl 3 (by decide) mw_175 rfl dX5_product_31 ?_
  refine lv_aload_n hx hb dX5_product_34 rfl (lv_at hl 0 rfl) ?_
  refine lv_aload_n hx hb dX5_product_35 rfl (lv_at hl 0 rfl) ?_
  refine x_get (k := 2) hE hK hI (by decide) inG2 (e_2 G o _ _) rfl 1 (by decide) mw_37 rfl dX5_product_36 ?_
  refine x_callVv (k := 282) hE hK hI (c_X4_solve_8 l G o _ _ (X 8 0) (X 8 1) (X 8 2) (X 8 3) rfl rfl rfl rfl) mf_X4_solve mw_231 (by decide) ((e_282 G o) _ _) rfl rfl hl.1 rfl (Nat.le_of_ble_eq_true rfl) ⟨(Nat.le_of_ble_eq_true rfl), (Nat.le_of_ble_eq_true rfl)⟩ ⟨Nat.zero_le _, Nat.zero_le _⟩ dX5_product_39 (fun H locs hI => ?_)
  refine lv_aload_n hx hb dX5_product_42 rfl (lv_at hl 1 rfl) ?_
  refine x_get (k := 0) hE hK hI (by decide) inG5 (e_0 G o _ _) rfl 3 (by decide) mw_175 rfl dX5_product_43 ?_
  refine x_get (k := 282) hE hK hI (by decide) inG4 (e_282 G o _ _) rfl 3 (by decide) mw_160 rfl dX5_product_46 ?_
  refine lv_if_ne (tgt := 56) hx hb dX5_product_49 (by decide) (fun _ => ?_) (fun q => absurd q h)
  refine lv_aload_n hx hb dX5_product_56 rfl (lv_at hl 1 rfl) ?_
  refine x_get (k := 0) hE hK hI (by decide) inG5 (e_0 G o _ _) rfl 3 (by decide) mw_175 rfl dX5_product_57 ?_
  refine lv_aload_n hx hb dX5_product_60 rfl (lv_at hl 0 rfl) ?_
  refine lv_iload_n hx hb dX5_product_61 rfl (lv_at hl 2 rfl) ?_
  refine x_callVl (k := 282) hE hK hI (c_X4_brokenInto_1 l G o _ _  ) mf_X4_brokenInto mw_257 (by decide) ((e_282 G o) _ _) rfl rfl hl.1 rfl (Nat.le_of_ble_eq_true rfl) ⟨(Nat.le_of_ble_eq_true rfl), (Nat.le_of_ble_eq_true rfl)⟩ ⟨Nat.zero_le _, Nat.zero_le _⟩ dX5_product_62 (fun H locs hI => ?_)
  refine lv_aload_n hx hb dX5_product_65 rfl (lv_at hl 1 rfl) ?_
  refine x_get (k := 0) hE hK hI (by decide) inG5 (e_0 G o _ _) rfl 3 (by decide) mw_175 rfl dX5_product_66 ?_
  refine x_get (k := 282) hE hK hI (by decide) inG4 (e_282 G o _ _) rfl 0 (by decide) mw_155 rfl dX5_product_69 ?_
  refine lv_iload_n hx hb dX5_product_72 rfl (lv_at hl 2 rfl) ?_
  refine x_lald (k := 283) (j := 1) hE hK hI (by decide) (e_283 G o) (by decide) (by decide) rfl dX5_product_73 ?_
  refine lv_aload_n hx hb dX5_product_74 rfl (lv_at hl 0 rfl) ?_
  refine x_get (k := 2) hE hK hI (by decide) inG2 (e_2 G o _ _) rfl 0 (by decide) mw_33 rfl dX5_product_75 ?_
  refine lv_iload_n hx hb dX5_product_78 rfl (lv_at hl 2 rfl) ?_
  refine x_aald (k := 3) (j := 1) (t0 := 5) (q := o + 5) hE hK hI (by decide) (e_3 G o) rfl rfl (by decide) (by decide) rfl rfl dX5_product_79 ?_
  refine lv_iload_n hx hb dX5_product_80 rfl (lv_at hl 2 rfl) ?_
  refine x_iald (k := 5) (j := 1) hE hK hI (by decide) (e_5 G o) (by decide) (by decide) rfl dX5_product_81 ?_
  refine lv_i2l hx hb dX5_product_82 rfl ?_
  refine lv_lmul hx hb dX5_product_83 ?_
  refine lv_ladd hx hb dX5_product_84 ?_
  refine lv_lstore (lv' := [(4, .long ((ent (solX X Y (X 8 0) (X 8 1) (X 8 2) (X 8 3)) (solY X Y (X 8 0) (X 8 1) (X 8 2) (X 8 3)) 1) + (((solY X Y (X 8 0) (X 8 1) (X 8 2) (X 8 3)) 283 1) * (((solX X Y (X 8 0) (X 8 1) (X 8 2) (X 8 3)) 5 1).toInt64)))), (3, .ref (o + 2)), (0, .ref (o + 0)), (1, .int 1), (2, .int 0)]) hx hb dX5_product_85 hl (by decide) rfl (fun ls hl => ?_)
  refine lv_bipush (v := 10) hx hb dX5_product_87 (by decide) ?_
  refine lv_aload_n hx hb dX5_product_89 rfl (lv_at hl 1 rfl) ?_
  refine x_get (k := 2) hE hK hI (by decide) inG2 (e_2 G o _ _) rfl 1 (by decide) mw_37 rfl dX5_product_90 ?_
  refine lv_iload_n hx hb dX5_product_93 rfl (lv_at hl 3 rfl) ?_
  refine x_iald (k := 8) (j := 1) hE hK hI (by decide) (e_8 G o) (by decide) (by decide) rfl dX5_product_94 ?_
  refine lv_isub hx hb dX5_product_95 ?_
  refine lv_i2l hx hb dX5_product_96 rfl ?_
  refine lv_lstore (lv' := [(6, .long ((10 - ((solX X Y (X 8 0) (X 8 1) (X 8 2) (X 8 3)) 8 1)).toInt64)), (4, .long ((ent (solX X Y (X 8 0) (X 8 1) (X 8 2) (X 8 3)) (solY X Y (X 8 0) (X 8 1) (X 8 2) (X 8 3)) 1) + (((solY X Y (X 8 0) (X 8 1) (X 8 2) (X 8 3)) 283 1) * (((solX X Y (X 8 0) (X 8 1) (X 8 2) (X 8 3)) 5 1).toInt64)))), (3, .ref (o + 2)), (0, .ref (o + 0)), (1, .int 1), (2, .int 0)]) hx hb dX5_product_97 hl (by decide) rfl (fun ls hl => ?_)
  refine lv_lload hx hb dX5_product_99 (lv_at hl 1 rfl) ?_
  refine lv_lload hx hb dX5_product_101 (lv_at hl 0 rfl) ?_
  refine lv_lmul hx hb dX5_product_103 ?_
  refine lv_aload_n hx hb dX5_product_104 rfl (lv_at hl 3 rfl) ?_
  refine x_get (k := 0) hE hK hI (by decide) inG5 (e_0 G o _ _) rfl 3 (by decide) mw_175 rfl dX5_product_105 ?_
  refine x_get (k := 282) hE hK hI (by decide) inG4 (e_282 G o _ _) rfl 2 (by decide) mw_158 rfl dX5_product_108 ?_
  refine lv_ldc2 hx hb hE.2.2.2.1 (hE.2.2.2.2 _ mw_258) dX5_product_111 ?_
  refine lv_lmul hx hb dX5_product_114 ?_
  refine lv_ldc2 hx hb hE.2.2.2.1 (hE.2.2.2.2 _ mw_258) dX5_product_115 ?_
  refine lv_lmul hx hb dX5_product_118 ?_
  refine lv_iload_n hx hb dX5_product_119 rfl (lv_at hl 5 rfl) ?_
  refine x_callSl hE hK hI (c_X5_partOf_0 l G o _ _ (((ent (solX X Y (X 8 0) (X 8 1) (X 8 2) (X 8 3)) (solY X Y (X 8 0) (X 8 1) (X 8 2) (X 8 3)) 1) + (((solY X Y (X 8 0) (X 8 1) (X 8 2) (X 8 3)) 283 1) * (((solX X Y (X 8 0) (X 8 1) (X 8 2) (X 8 3)) 5 1).toInt64))) * ((10 - ((solX X Y (X 8 0) (X 8 1) (X 8 2) (X 8 3)) 8 1)).toInt64)) ((((solY X Y (X 8 0) (X 8 1) (X 8 2) (X 8 3)) 282 2) * 10) * 10) hg) mf_X5_partOf mw_244 rfl hl.1 rfl (Nat.le_of_ble_eq_true rfl) ⟨(Nat.le_of_ble_eq_true rfl), (Nat.le_of_ble_eq_true rfl)⟩ ⟨Nat.zero_le _, Nat.zero_le _⟩ dX5_product_120 (fun H locs hI => ?_)
  exact x_lret hE hr hlocks hI rfl rfl rfl dX5_product_123
set_option maxRecDepth 100000 in
set_option maxHeartbeats 4000000 in
theorem c_X5_product_y0_2 (l : Launch) (G : GG) (o : Nat) (X : SX) (Y : SY) (h : ¬ ((solX X Y (X 8 0) (X 8 1) (X 8 2) (X 8 3)) 282 3 = 0)) (hg : 1 ≤ gcdL 100 (((ent (solX X Y (X 8 0) (X 8 1) (X 8 2) (X 8 3)) (solY X Y (X 8 0) (X 8 1) (X 8 2) (X 8 3)) 2) + (((solY X Y (X 8 0) (X 8 1) (X 8 2) (X 8 3)) 283 2) * ((solX X Y (X 8 0) (X 8 1) (X 8 2) (X 8 3)) 6 2).toInt64)) * (10 - ((solX X Y (X 8 0) (X 8 1) (X 8 2) (X 8 3)) 8 2)).toInt64) ((((solY X Y (X 8 0) (X 8 1) (X 8 2) (X 8 3)) 282 2) * 10) * 10)) : Ct l yX5_product cX5_product 8 (some .long) 3 76 G o [.ref (o + 0), .int 2, .int 0] X Y (some (.long ((((ent (solX X Y (X 8 0) (X 8 1) (X 8 2) (X 8 3)) (solY X Y (X 8 0) (X 8 1) (X 8 2) (X 8 3)) 2) + (((solY X Y (X 8 0) (X 8 1) (X 8 2) (X 8 3)) 283 2) * (((solX X Y (X 8 0) (X 8 1) (X 8 2) (X 8 3)) 6 2).toInt64))) * ((10 - ((solX X Y (X 8 0) (X 8 1) (X 8 2) (X 8 3)) 8 2)).toInt64)) / (gcdL 100 (((ent (solX X Y (X 8 0) (X 8 1) (X 8 2) (X 8 3)) (solY X Y (X 8 0) (X 8 1) (X 8 2) (X 8 3)) 2) + (((solY X Y (X 8 0) (X 8 1) (X 8 2) (X 8 3)) 283 2) * (((solX X Y (X 8 0) (X 8 1) (X 8 2) (X 8 3)) 6 2).toInt64))) * ((10 - ((solX X Y (X 8 0) (X 8 1) (X 8 2) (X 8 3)) 8 2)).toInt64)) ((((solY X Y (X 8 0) (X 8 1) (X 8 2) (X 8 3)) 282 2) * 10) * 10))))) (solX X Y (X 8 0) (X 8 1) (X 8 2) (X 8 3)) (solY X Y (X 8 0) (X 8 1) (X 8 2) (X 8 3)) := by
  refine Ct.mk (by decide +kernel) (Nat.le_of_ble_eq_true rfl) rfl ?_
  intro p9 e9 s9 m9 args9 below9 meth9 c9 hE hr hlocks hK hI ls hl
  have hx := hE.1
  have hb := hE.2.1
  have hl : lv_has ls 8 [(0, .ref (o + 0)), (1, .int 2), (2, .int 0)] := hl
  refine lv_iload_n hx hb dX5_product_0 rfl (lv_at hl 1 rfl) ?_
  refine x_callSi hE hK hI (c_X5_isSize l G o _ _ 2 ) mf_X5_isSize mw_189 rfl hl.1 rfl (Nat.le_of_ble_eq_true rfl) ⟨(Nat.le_of_ble_eq_true rfl), (Nat.le_of_ble_eq_true rfl)⟩ ⟨Nat.zero_le _, Nat.zero_le _⟩ dX5_product_1 (fun H locs hI => ?_)
  refine lv_topi (fun z1 ez1 => ?_)
  obtain rfl : 1 = z1 := (ez1.trans (bI_t (by decide))).symm
  refine lv_if_ne (tgt := 11) hx hb dX5_product_4 (by decide) (fun _ => ?_) (fun q => absurd q (by decide))
  refine lv_iload_n hx hb dX5_product_11 rfl (lv_at hl 2 rfl) ?_
  refine x_callSi hE hK hI (c_X5_isZeroOrOne l G o _ _ 0 ) mf_X5_isZeroOrOne mw_227 rfl hl.1 rfl (Nat.le_of_ble_eq_true rfl) ⟨(Nat.le_of_ble_eq_true rfl), (Nat.le_of_ble_eq_true rfl)⟩ ⟨Nat.zero_le _, Nat.zero_le _⟩ dX5_product_12 (fun H locs hI => ?_)
  refine lv_topi (fun z2 ez2 => ?_)
  obtain rfl : 1 = z2 := (ez2.trans (bI_t (by decide))).symm
  refine lv_if_ne (tgt := 22) hx hb dX5_product_15 (by decide) (fun _ => ?_) (fun q => absurd q (by decide))
  refine lv_aload_n hx hb dX5_product_22 rfl (lv_at hl 0 rfl) ?_
  refine x_get (k := 0) hE hK hI (by decide) inG5 (e_0 G o _ _) rfl 0 (by decide) mw_172 rfl dX5_product_23 ?_
  refine x_get (k := 1) hE hK hI (by decide) inG1 (e_1 G o _ _) rfl 0 (by decide) mw_139 rfl dX5_product_26 ?_
  refine lv_astore_n (lv' := [(3, .ref (o + 2)), (0, .ref (o + 0)), (1, .int 2), (2, .int 0)]) hx hb dX5_product_29 rfl hl (by decide) rfl (fun ls hl => ?_)
  refine lv_aload_n hx hb dX5_product_30 rfl (lv_at hl 1 rfl) ?_
  refine x_get (k := 0) hE hK hI (by decide) inG5 (e_0 G o _ _) rfl 3 (by decide) mw_175 rfl dX5_product_31 ?_
  refine lv_aload_n hx hb dX5_product_34 rfl (lv_at hl 0 rfl) ?_
  refine lv_aload_n hx hb dX5_product_35 rfl (lv_at hl 0 rfl) ?_
  refine x_get (k := 2) hE hK hI (by decide) inG2 (e_2 G o _ _) rfl 1 (by decide) mw_37 rfl dX5_product_36 ?_
  refine x_callVv (k := 282) hE hK hI (c_X4_solve_8 l G o _ _ (X 8 0) (X 8 1) (X 8 2) (X 8 3) rfl rfl rfl rfl) mf_X4_solve mw_231 (by decide) ((e_282 G o) _ _) rfl rfl hl.1 rfl (Nat.le_of_ble_eq_true rfl) ⟨(Nat.le_of_ble_eq_true rfl), (Nat.le_of_ble_eq_true rfl)⟩ ⟨Nat.zero_le _, Nat.zero_le _⟩ dX5_product_39 (fun H locs hI => ?_)
  refine lv_aload_n hx hb dX5_product_42 rfl (lv_at hl 1 rfl) ?_
  refine x_get (k := 0) hE hK hI (by decide) inG5 (e_0 G o _ _) rfl 3 (by decide) mw_175 rfl dX5_product_43 ?_
  refine x_get (k := 282) hE hK hI (by decide) inG4 (e_282 G o _ _) rfl 3 (by decide) mw_160 rfl dX5_product_46 ?_
  refine lv_if_ne (tgt := 56) hx hb dX5_product_49 (by decide) (fun _ => ?_) (fun q => absurd q h)
  refine lv_aload_n hx hb dX5_product_56 rfl (lv_at hl 1 rfl) ?_
  refine x_get (k := 0) hE hK hI (by decide) inG5 (e_0 G o _ _) rfl 3 (by decide) mw_175 rfl dX5_product_57 ?_
  refine lv_aload_n hx hb dX5_product_60 rfl (lv_at hl 0 rfl) ?_
  refine lv_iload_n hx hb dX5_product_61 rfl (lv_at hl 2 rfl) ?_
  refine x_callVl (k := 282) hE hK hI (c_X4_brokenInto_2 l G o _ _  ) mf_X4_brokenInto mw_257 (by decide) ((e_282 G o) _ _) rfl rfl hl.1 rfl (Nat.le_of_ble_eq_true rfl) ⟨(Nat.le_of_ble_eq_true rfl), (Nat.le_of_ble_eq_true rfl)⟩ ⟨Nat.zero_le _, Nat.zero_le _⟩ dX5_product_62 (fun H locs hI => ?_)
  refine lv_aload_n hx hb dX5_product_65 rfl (lv_at hl 1 rfl) ?_
  refine x_get (k := 0) hE hK hI (by decide) inG5 (e_0 G o _ _) rfl 3 (by decide) mw_175 rfl dX5_product_66 ?_
  refine x_get (k := 282) hE hK hI (by decide) inG4 (e_282 G o _ _) rfl 0 (by decide) mw_155 rfl dX5_product_69 ?_
  refine lv_iload_n hx hb dX5_product_72 rfl (lv_at hl 2 rfl) ?_
  refine x_lald (k := 283) (j := 2) hE hK hI (by decide) (e_283 G o) (by decide) (by decide) rfl dX5_product_73 ?_
  refine lv_aload_n hx hb dX5_product_74 rfl (lv_at hl 0 rfl) ?_
  refine x_get (k := 2) hE hK hI (by decide) inG2 (e_2 G o _ _) rfl 0 (by decide) mw_33 rfl dX5_product_75 ?_
  refine lv_iload_n hx hb dX5_product_78 rfl (lv_at hl 2 rfl) ?_
  refine x_aald (k := 3) (j := 2) (t0 := 5) (q := o + 6) hE hK hI (by decide) (e_3 G o) rfl rfl (by decide) (by decide) rfl rfl dX5_product_79 ?_
  refine lv_iload_n hx hb dX5_product_80 rfl (lv_at hl 2 rfl) ?_
  refine x_iald (k := 6) (j := 2) hE hK hI (by decide) (e_6 G o) (by decide) (by decide) rfl dX5_product_81 ?_
  refine lv_i2l hx hb dX5_product_82 rfl ?_
  refine lv_lmul hx hb dX5_product_83 ?_
  refine lv_ladd hx hb dX5_product_84 ?_
  refine lv_lstore (lv' := [(4, .long ((ent (solX X Y (X 8 0) (X 8 1) (X 8 2) (X 8 3)) (solY X Y (X 8 0) (X 8 1) (X 8 2) (X 8 3)) 2) + (((solY X Y (X 8 0) (X 8 1) (X 8 2) (X 8 3)) 283 2) * (((solX X Y (X 8 0) (X 8 1) (X 8 2) (X 8 3)) 6 2).toInt64)))), (3, .ref (o + 2)), (0, .ref (o + 0)), (1, .int 2), (2, .int 0)]) hx hb dX5_product_85 hl (by decide) rfl (fun ls hl => ?_)
  refine lv_bipush (v := 10) hx hb dX5_product_87 (by decide) ?_
  refine lv_aload_n hx hb dX5_product_89 rfl (lv_at hl 1 rfl) ?_
  refine x_get (k := 2) hE hK hI (by decide) inG2 (e_2 G o _ _) rfl 1 (by decide) mw_37 rfl dX5_product_90 ?_
  refine lv_iload_n hx hb dX5_product_93 rfl (lv_at hl 3 rfl) ?_
  refine x_iald (k := 8) (j := 2) hE hK hI (by decide) (e_8 G o) (by decide) (by decide) rfl dX5_product_94 ?_
  refine lv_isub hx hb dX5_product_95 ?_
  refine lv_i2l hx hb dX5_product_96 rfl ?_
  refine lv_lstore (lv' := [(6, .long ((10 - ((solX X Y (X 8 0) (X 8 1) (X 8 2) (X 8 3)) 8 2)).toInt64)), (4, .long ((ent (solX X Y (X 8 0) (X 8 1) (X 8 2) (X 8 3)) (solY X Y (X 8 0) (X 8 1) (X 8 2) (X 8 3)) 2) + (((solY X Y (X 8 0) (X 8 1) (X 8 2) (X 8 3)) 283 2) * (((solX X Y (X 8 0) (X 8 1) (X 8 2) (X 8 3)) 6 2).toInt64)))), (3, .ref (o + 2)), (0, .ref (o + 0)), (1, .int 2), (2, .int 0)]) hx hb dX5_product_97 hl (by decide) rfl (fun ls hl => ?_)
  refine lv_lload hx hb dX5_product_99 (lv_at hl 1 rfl) ?_
  refine lv_lload hx hb dX5_product_101 (lv_at hl 0 rfl) ?_
  refine lv_lmul hx hb dX5_product_103 ?_
  refine lv_aload_n hx hb dX5_product_104 rfl (lv_at hl 3 rfl) ?_
  refine x_get (k := 0) hE hK hI (by decide) inG5 (e_0 G o _ _) rfl 3 (by decide) mw_175 rfl dX5_product_105 ?_
  refine x_get (k := 282) hE hK hI (by decide) inG4 (e_282 G o _ _) rfl 2 (by decide) mw_158 rfl dX5_product_108 ?_
  refine lv_ldc2 hx hb hE.2.2.2.1 (hE.2.2.2.2 _ mw_258) dX5_product_111 ?_
  refine lv_lmul hx hb dX5_product_114 ?_
  refine lv_ldc2 hx hb hE.2.2.2.1 (hE.2.2.2.2 _ mw_258) dX5_product_115 ?_
  refine lv_lmul hx hb dX5_product_118 ?_
  refine lv_iload_n hx hb dX5_product_119 rfl (lv_at hl 5 rfl) ?_
  refine x_callSl hE hK hI (c_X5_partOf_0 l G o _ _ (((ent (solX X Y (X 8 0) (X 8 1) (X 8 2) (X 8 3)) (solY X Y (X 8 0) (X 8 1) (X 8 2) (X 8 3)) 2) + (((solY X Y (X 8 0) (X 8 1) (X 8 2) (X 8 3)) 283 2) * (((solX X Y (X 8 0) (X 8 1) (X 8 2) (X 8 3)) 6 2).toInt64))) * ((10 - ((solX X Y (X 8 0) (X 8 1) (X 8 2) (X 8 3)) 8 2)).toInt64)) ((((solY X Y (X 8 0) (X 8 1) (X 8 2) (X 8 3)) 282 2) * 10) * 10) hg) mf_X5_partOf mw_244 rfl hl.1 rfl (Nat.le_of_ble_eq_true rfl) ⟨(Nat.le_of_ble_eq_true rfl), (Nat.le_of_ble_eq_true rfl)⟩ ⟨Nat.zero_le _, Nat.zero_le _⟩ dX5_product_120 (fun H locs hI => ?_)
  exact x_lret hE hr hlocks hI rfl rfl rfl dX5_product_123
set_option maxRecDepth 100000 in
set_option maxHeartbeats 4000000 in
theorem c_X5_product_y0_3 (l : Launch) (G : GG) (o : Nat) (X : SX) (Y : SY) (h : ¬ ((solX X Y (X 8 0) (X 8 1) (X 8 2) (X 8 3)) 282 3 = 0)) (hg : 1 ≤ gcdL 100 (((ent (solX X Y (X 8 0) (X 8 1) (X 8 2) (X 8 3)) (solY X Y (X 8 0) (X 8 1) (X 8 2) (X 8 3)) 3) + (((solY X Y (X 8 0) (X 8 1) (X 8 2) (X 8 3)) 283 3) * ((solX X Y (X 8 0) (X 8 1) (X 8 2) (X 8 3)) 7 3).toInt64)) * (10 - ((solX X Y (X 8 0) (X 8 1) (X 8 2) (X 8 3)) 8 3)).toInt64) ((((solY X Y (X 8 0) (X 8 1) (X 8 2) (X 8 3)) 282 2) * 10) * 10)) : Ct l yX5_product cX5_product 8 (some .long) 3 76 G o [.ref (o + 0), .int 3, .int 0] X Y (some (.long ((((ent (solX X Y (X 8 0) (X 8 1) (X 8 2) (X 8 3)) (solY X Y (X 8 0) (X 8 1) (X 8 2) (X 8 3)) 3) + (((solY X Y (X 8 0) (X 8 1) (X 8 2) (X 8 3)) 283 3) * (((solX X Y (X 8 0) (X 8 1) (X 8 2) (X 8 3)) 7 3).toInt64))) * ((10 - ((solX X Y (X 8 0) (X 8 1) (X 8 2) (X 8 3)) 8 3)).toInt64)) / (gcdL 100 (((ent (solX X Y (X 8 0) (X 8 1) (X 8 2) (X 8 3)) (solY X Y (X 8 0) (X 8 1) (X 8 2) (X 8 3)) 3) + (((solY X Y (X 8 0) (X 8 1) (X 8 2) (X 8 3)) 283 3) * (((solX X Y (X 8 0) (X 8 1) (X 8 2) (X 8 3)) 7 3).toInt64))) * ((10 - ((solX X Y (X 8 0) (X 8 1) (X 8 2) (X 8 3)) 8 3)).toInt64)) ((((solY X Y (X 8 0) (X 8 1) (X 8 2) (X 8 3)) 282 2) * 10) * 10))))) (solX X Y (X 8 0) (X 8 1) (X 8 2) (X 8 3)) (solY X Y (X 8 0) (X 8 1) (X 8 2) (X 8 3)) := by
  refine Ct.mk (by decide +kernel) (Nat.le_of_ble_eq_true rfl) rfl ?_
  intro p9 e9 s9 m9 args9 below9 meth9 c9 hE hr hlocks hK hI ls hl
  have hx := hE.1
  have hb := hE.2.1
  have hl : lv_has ls 8 [(0, .ref (o + 0)), (1, .int 3), (2, .int 0)] := hl
  refine lv_iload_n hx hb dX5_product_0 rfl (lv_at hl 1 rfl) ?_
  refine x_callSi hE hK hI (c_X5_isSize l G o _ _ 3 ) mf_X5_isSize mw_189 rfl hl.1 rfl (Nat.le_of_ble_eq_true rfl) ⟨(Nat.le_of_ble_eq_true rfl), (Nat.le_of_ble_eq_true rfl)⟩ ⟨Nat.zero_le _, Nat.zero_le _⟩ dX5_product_1 (fun H locs hI => ?_)
  refine lv_topi (fun z1 ez1 => ?_)
  obtain rfl : 1 = z1 := (ez1.trans (bI_t (by decide))).symm
  refine lv_if_ne (tgt := 11) hx hb dX5_product_4 (by decide) (fun _ => ?_) (fun q => absurd q (by decide))
  refine lv_iload_n hx hb dX5_product_11 rfl (lv_at hl 2 rfl) ?_
  refine x_callSi hE hK hI (c_X5_isZeroOrOne l G o _ _ 0 ) mf_X5_isZeroOrOne mw_227 rfl hl.1 rfl (Nat.le_of_ble_eq_true rfl) ⟨(Nat.le_of_ble_eq_true rfl), (Nat.le_of_ble_eq_true rfl)⟩ ⟨Nat.zero_le _, Nat.zero_le _⟩ dX5_product_12 (fun H locs hI => ?_)
  refine lv_topi (fun z2 ez2 => ?_)
  obtain rfl : 1 = z2 := (ez2.trans (bI_t (by decide))).symm
  refine lv_if_ne (tgt := 22) hx hb dX5_product_15 (by decide) (fun _ => ?_) (fun q => absurd q (by decide))
  refine lv_aload_n hx hb dX5_product_22 rfl (lv_at hl 0 rfl) ?_
  refine x_get (k := 0) hE hK hI (by decide) inG5 (e_0 G o _ _) rfl 0 (by decide) mw_172 rfl dX5_product_23 ?_
  refine x_get (k := 1) hE hK hI (by decide) inG1 (e_1 G o _ _) rfl 0 (by decide) mw_139 rfl dX5_product_26 ?_
  refine lv_astore_n (lv' := [(3, .ref (o + 2)), (0, .ref (o + 0)), (1, .int 3), (2, .int 0)]) hx hb dX5_product_29 rfl hl (by decide) rfl (fun ls hl => ?_)
  refine lv_aload_n hx hb dX5_product_30 rfl (lv_at hl 1 rfl) ?_
  refine x_get (k := 0) hE hK hI (by decide) inG5 (e_0 G o _ _) rfl 3 (by decide) mw_175 rfl dX5_product_31 ?_
  refine lv_aload_n hx hb dX5_product_34 rfl (lv_at hl 0 rfl) ?_
  refine lv_aload_n hx hb dX5_product_35 rfl (lv_at hl 0 rfl) ?_
  refine x_get (k := 2) hE hK hI (by decide) inG2 (e_2 G o _ _) rfl 1 (by decide) mw_37 rfl dX5_product_36 ?_
  refine x_callVv (k := 282) hE hK hI (c_X4_solve_8 l G o _ _ (X 8 0) (X 8 1) (X 8 2) (X 8 3) rfl rfl rfl rfl) mf_X4_solve mw_231 (by decide) ((e_282 G o) _ _) rfl rfl hl.1 rfl (Nat.le_of_ble_eq_true rfl) ⟨(Nat.le_of_ble_eq_true rfl), (Nat.le_of_ble_eq_true rfl)⟩ ⟨Nat.zero_le _, Nat.zero_le _⟩ dX5_product_39 (fun H locs hI => ?_)
  refine lv_aload_n hx hb dX5_product_42 rfl (lv_at hl 1 rfl) ?_
  refine x_get (k := 0) hE hK hI (by decide) inG5 (e_0 G o _ _) rfl 3 (by decide) mw_175 rfl dX5_product_43 ?_
  refine x_get (k := 282) hE hK hI (by decide) inG4 (e_282 G o _ _) rfl 3 (by decide) mw_160 rfl dX5_product_46 ?_
  refine lv_if_ne (tgt := 56) hx hb dX5_product_49 (by decide) (fun _ => ?_) (fun q => absurd q h)
  refine lv_aload_n hx hb dX5_product_56 rfl (lv_at hl 1 rfl) ?_
  refine x_get (k := 0) hE hK hI (by decide) inG5 (e_0 G o _ _) rfl 3 (by decide) mw_175 rfl dX5_product_57 ?_
  refine lv_aload_n hx hb dX5_product_60 rfl (lv_at hl 0 rfl) ?_
  refine lv_iload_n hx hb dX5_product_61 rfl (lv_at hl 2 rfl) ?_
  refine x_callVl (k := 282) hE hK hI (c_X4_brokenInto_3 l G o _ _  ) mf_X4_brokenInto mw_257 (by decide) ((e_282 G o) _ _) rfl rfl hl.1 rfl (Nat.le_of_ble_eq_true rfl) ⟨(Nat.le_of_ble_eq_true rfl), (Nat.le_of_ble_eq_true rfl)⟩ ⟨Nat.zero_le _, Nat.zero_le _⟩ dX5_product_62 (fun H locs hI => ?_)
  refine lv_aload_n hx hb dX5_product_65 rfl (lv_at hl 1 rfl) ?_
  refine x_get (k := 0) hE hK hI (by decide) inG5 (e_0 G o _ _) rfl 3 (by decide) mw_175 rfl dX5_product_66 ?_
  refine x_get (k := 282) hE hK hI (by decide) inG4 (e_282 G o _ _) rfl 0 (by decide) mw_155 rfl dX5_product_69 ?_
  refine lv_iload_n hx hb dX5_product_72 rfl (lv_at hl 2 rfl) ?_
  refine x_lald (k := 283) (j := 3) hE hK hI (by decide) (e_283 G o) (by decide) (by decide) rfl dX5_product_73 ?_
  refine lv_aload_n hx hb dX5_product_74 rfl (lv_at hl 0 rfl) ?_
  refine x_get (k := 2) hE hK hI (by decide) inG2 (e_2 G o _ _) rfl 0 (by decide) mw_33 rfl dX5_product_75 ?_
  refine lv_iload_n hx hb dX5_product_78 rfl (lv_at hl 2 rfl) ?_
  refine x_aald (k := 3) (j := 3) (t0 := 5) (q := o + 7) hE hK hI (by decide) (e_3 G o) rfl rfl (by decide) (by decide) rfl rfl dX5_product_79 ?_
  refine lv_iload_n hx hb dX5_product_80 rfl (lv_at hl 2 rfl) ?_
  refine x_iald (k := 7) (j := 3) hE hK hI (by decide) (e_7 G o) (by decide) (by decide) rfl dX5_product_81 ?_
  refine lv_i2l hx hb dX5_product_82 rfl ?_
  refine lv_lmul hx hb dX5_product_83 ?_
  refine lv_ladd hx hb dX5_product_84 ?_
  refine lv_lstore (lv' := [(4, .long ((ent (solX X Y (X 8 0) (X 8 1) (X 8 2) (X 8 3)) (solY X Y (X 8 0) (X 8 1) (X 8 2) (X 8 3)) 3) + (((solY X Y (X 8 0) (X 8 1) (X 8 2) (X 8 3)) 283 3) * (((solX X Y (X 8 0) (X 8 1) (X 8 2) (X 8 3)) 7 3).toInt64)))), (3, .ref (o + 2)), (0, .ref (o + 0)), (1, .int 3), (2, .int 0)]) hx hb dX5_product_85 hl (by decide) rfl (fun ls hl => ?_)
  refine lv_bipush (v := 10) hx hb dX5_product_87 (by decide) ?_
  refine lv_aload_n hx hb dX5_product_89 rfl (lv_at hl 1 rfl) ?_
  refine x_get (k := 2) hE hK hI (by decide) inG2 (e_2 G o _ _) rfl 1 (by decide) mw_37 rfl dX5_product_90 ?_
  refine lv_iload_n hx hb dX5_product_93 rfl (lv_at hl 3 rfl) ?_
  refine x_iald (k := 8) (j := 3) hE hK hI (by decide) (e_8 G o) (by decide) (by decide) rfl dX5_product_94 ?_
  refine lv_isub hx hb dX5_product_95 ?_
  refine lv_i2l hx hb dX5_product_96 rfl ?_
  refine lv_lstore (lv' := [(6, .long ((10 - ((solX X Y (X 8 0) (X 8 1) (X 8 2) (X 8 3)) 8 3)).toInt64)), (4, .long ((ent (solX X Y (X 8 0) (X 8 1) (X 8 2) (X 8 3)) (solY X Y (X 8 0) (X 8 1) (X 8 2) (X 8 3)) 3) + (((solY X Y (X 8 0) (X 8 1) (X 8 2) (X 8 3)) 283 3) * (((solX X Y (X 8 0) (X 8 1) (X 8 2) (X 8 3)) 7 3).toInt64)))), (3, .ref (o + 2)), (0, .ref (o + 0)), (1, .int 3), (2, .int 0)]) hx hb dX5_product_97 hl (by decide) rfl (fun ls hl => ?_)
  refine lv_lload hx hb dX5_product_99 (lv_at hl 1 rfl) ?_
  refine lv_lload hx hb dX5_product_101 (lv_at hl 0 rfl) ?_
  refine lv_lmul hx hb dX5_product_103 ?_
  refine lv_aload_n hx hb dX5_product_104 rfl (lv_at hl 3 rfl) ?_
  refine x_get (k := 0) hE hK hI (by decide) inG5 (e_0 G o _ _) rfl 3 (by decide) mw_175 rfl dX5_product_105 ?_
  refine x_get (k := 282) hE hK hI (by decide) inG4 (e_282 G o _ _) rfl 2 (by decide) mw_158 rfl dX5_product_108 ?_
  refine lv_ldc2 hx hb hE.2.2.2.1 (hE.2.2.2.2 _ mw_258) dX5_product_111 ?_
  refine lv_lmul hx hb dX5_product_114 ?_
  refine lv_ldc2 hx hb hE.2.2.2.1 (hE.2.2.2.2 _ mw_258) dX5_product_115 ?_
  refine lv_lmul hx hb dX5_product_118 ?_
  refine lv_iload_n hx hb dX5_product_119 rfl (lv_at hl 5 rfl) ?_
  refine x_callSl hE hK hI (c_X5_partOf_0 l G o _ _ (((ent (solX X Y (X 8 0) (X 8 1) (X 8 2) (X 8 3)) (solY X Y (X 8 0) (X 8 1) (X 8 2) (X 8 3)) 3) + (((solY X Y (X 8 0) (X 8 1) (X 8 2) (X 8 3)) 283 3) * (((solX X Y (X 8 0) (X 8 1) (X 8 2) (X 8 3)) 7 3).toInt64))) * ((10 - ((solX X Y (X 8 0) (X 8 1) (X 8 2) (X 8 3)) 8 3)).toInt64)) ((((solY X Y (X 8 0) (X 8 1) (X 8 2) (X 8 3)) 282 2) * 10) * 10) hg) mf_X5_partOf mw_244 rfl hl.1 rfl (Nat.le_of_ble_eq_true rfl) ⟨(Nat.le_of_ble_eq_true rfl), (Nat.le_of_ble_eq_true rfl)⟩ ⟨Nat.zero_le _, Nat.zero_le _⟩ dX5_product_120 (fun H locs hI => ?_)
  exact x_lret hE hr hlocks hI rfl rfl rfl dX5_product_123
set_option maxRecDepth 100000 in
set_option maxHeartbeats 4000000 in
theorem c_X5_load_y1 (l : Launch) (G : GG) (o : Nat) (X : SX) (Y : SY) (j : Nat) (h0 : j < 4) (h1 : Wi (nI j) 0 3) (h : ¬ ((solX X Y (X 8 0) (X 8 1) (X 8 2) (X 8 3)) 282 3 = 0)) (hg : 1 ≤ gcdL 100 ((solY X Y (X 8 0) (X 8 1) (X 8 2) (X 8 3)) 283 j) ((solY X Y (X 8 0) (X 8 1) (X 8 2) (X 8 3)) 282 2)) : Ct l yX5_load cX5_load 3 (some .long) 3 76 G o [.ref (o + 0), .int (nI j), .int 1] X Y (some (.long (((solY X Y (X 8 0) (X 8 1) (X 8 2) (X 8 3)) 282 2) / (gcdL 100 ((solY X Y (X 8 0) (X 8 1) (X 8 2) (X 8 3)) 283 j) ((solY X Y (X 8 0) (X 8 1) (X 8 2) (X 8 3)) 282 2))))) (solX X Y (X 8 0) (X 8 1) (X 8 2) (X 8 3)) (solY X Y (X 8 0) (X 8 1) (X 8 2) (X 8 3)) := by
  refine Ct.mk (by decide +kernel) (Nat.le_of_ble_eq_true rfl) rfl ?_
  intro p9 e9 s9 m9 args9 below9 meth9 c9 hE hr hlocks hK hI ls hl
  have hx := hE.1
  have hb := hE.2.1
  have hl : lv_has ls 3 [(0, .ref (o + 0)), (1, .int (nI j)), (2, .int 1)] := hl
  refine lv_iload_n hx hb dX5_load_0 rfl (lv_at hl 1 rfl) ?_
  refine x_callSi hE hK hI (c_X5_isSize l G o _ _ (nI j) ) mf_X5_isSize mw_189 rfl hl.1 rfl (Nat.le_of_ble_eq_true rfl) ⟨(Nat.le_of_ble_eq_true rfl), (Nat.le_of_ble_eq_true rfl)⟩ ⟨Nat.zero_le _, Nat.zero_le _⟩ dX5_load_1 (fun H locs hI => ?_)
  refine lv_topi (fun z1 ez1 => ?_)
  obtain rfl : 1 = z1 := (ez1.trans (bI_t h1)).symm
  refine lv_if_ne (tgt := 11) hx hb dX5_load_4 (by decide) (fun _ => ?_) (fun q => absurd q (by decide))
  refine lv_iload_n hx hb dX5_load_11 rfl (lv_at hl 2 rfl) ?_
  refine x_callSi hE hK hI (c_X5_isZeroOrOne l G o _ _ 1 ) mf_X5_isZeroOrOne mw_227 rfl hl.1 rfl (Nat.le_of_ble_eq_true rfl) ⟨(Nat.le_of_ble_eq_true rfl), (Nat.le_of_ble_eq_true rfl)⟩ ⟨Nat.zero_le _, Nat.zero_le _⟩ dX5_load_12 (fun H locs hI => ?_)
  refine lv_topi (fun z2 ez2 => ?_)
  obtain rfl : 1 = z2 := (ez2.trans (bI_t (by decide))).symm
  refine lv_if_ne (tgt := 22) hx hb dX5_load_15 (by decide) (fun _ => ?_) (fun q => absurd q (by decide))
  refine lv_aload_n hx hb dX5_load_22 rfl (lv_at hl 0 rfl) ?_
  refine x_get (k := 0) hE hK hI (by decide) inG5 (e_0 G o _ _) rfl 3 (by decide) mw_175 rfl dX5_load_23 ?_
  refine lv_aload_n hx hb dX5_load_26 rfl (lv_at hl 0 rfl) ?_
  refine x_get (k := 0) hE hK hI (by decide) inG5 (e_0 G o _ _) rfl 0 (by decide) mw_172 rfl dX5_load_27 ?_
  refine x_get (k := 1) hE hK hI (by decide) inG1 (e_1 G o _ _) rfl 0 (by decide) mw_139 rfl dX5_load_30 ?_
  refine lv_aload_n hx hb dX5_load_33 rfl (lv_at hl 0 rfl) ?_
  refine x_get (k := 0) hE hK hI (by decide) inG5 (e_0 G o _ _) rfl 0 (by decide) mw_172 rfl dX5_load_34 ?_
  refine x_get (k := 1) hE hK hI (by decide) inG1 (e_1 G o _ _) rfl 0 (by decide) mw_139 rfl dX5_load_37 ?_
  refine x_get (k := 2) hE hK hI (by decide) inG2 (e_2 G o _ _) rfl 1 (by decide) mw_37 rfl dX5_load_40 ?_
  refine x_callVv (k := 282) hE hK hI (c_X4_solve_8 l G o _ _ (X 8 0) (X 8 1) (X 8 2) (X 8 3) rfl rfl rfl rfl) mf_X4_solve mw_231 (by decide) ((e_282 G o) _ _) rfl rfl hl.1 rfl (Nat.le_of_ble_eq_true rfl) ⟨(Nat.le_of_ble_eq_true rfl), (Nat.le_of_ble_eq_true rfl)⟩ ⟨Nat.zero_le _, Nat.zero_le _⟩ dX5_load_43 (fun H locs hI => ?_)
  refine lv_aload_n hx hb dX5_load_46 rfl (lv_at hl 0 rfl) ?_
  refine x_get (k := 0) hE hK hI (by decide) inG5 (e_0 G o _ _) rfl 3 (by decide) mw_175 rfl dX5_load_47 ?_
  refine x_get (k := 282) hE hK hI (by decide) inG4 (e_282 G o _ _) rfl 3 (by decide) mw_160 rfl dX5_load_50 ?_
  refine lv_if_ne (tgt := 60) hx hb dX5_load_53 (by decide) (fun _ => ?_) (fun q => absurd q h)
  refine lv_aload_n hx hb dX5_load_60 rfl (lv_at hl 0 rfl) ?_
  refine x_get (k := 0) hE hK hI (by decide) inG5 (e_0 G o _ _) rfl 3 (by decide) mw_175 rfl dX5_load_61 ?_
  refine x_get (k := 282) hE hK hI (by decide) inG4 (e_282 G o _ _) rfl 0 (by decide) mw_155 rfl dX5_load_64 ?_
  refine lv_iload_n hx hb dX5_load_67 rfl (lv_at hl 1 rfl) ?_
  refine x_lald (k := 283) (j := j) hE hK hI (by decide) (e_283 G o) h0 (by decide) rfl dX5_load_68 ?_
  refine lv_aload_n hx hb dX5_load_69 rfl (lv_at hl 0 rfl) ?_
  refine x_get (k := 0) hE hK hI (by decide) inG5 (e_0 G o _ _) rfl 3 (by decide) mw_175 rfl dX5_load_70 ?_
  refine x_get (k := 282) hE hK hI (by decide) inG4 (e_282 G o _ _) rfl 2 (by decide) mw_158 rfl dX5_load_73 ?_
  refine lv_iload_n hx hb dX5_load_76 rfl (lv_at hl 2 rfl) ?_
  refine x_callSl hE hK hI (c_X5_partOf_1 l G o _ _ ((solY X Y (X 8 0) (X 8 1) (X 8 2) (X 8 3)) 283 j) ((solY X Y (X 8 0) (X 8 1) (X 8 2) (X 8 3)) 282 2) hg) mf_X5_partOf mw_244 rfl hl.1 rfl (Nat.le_of_ble_eq_true rfl) ⟨(Nat.le_of_ble_eq_true rfl), (Nat.le_of_ble_eq_true rfl)⟩ ⟨Nat.zero_le _, Nat.zero_le _⟩ dX5_load_77 (fun H locs hI => ?_)
  exact x_lret hE hr hlocks hI rfl rfl rfl dX5_load_80
set_option maxRecDepth 100000 in
set_option maxHeartbeats 4000000 in
theorem c_X5_product_y1_0 (l : Launch) (G : GG) (o : Nat) (X : SX) (Y : SY) (h : ¬ ((solX X Y (X 8 0) (X 8 1) (X 8 2) (X 8 3)) 282 3 = 0)) (hg : 1 ≤ gcdL 100 (((ent (solX X Y (X 8 0) (X 8 1) (X 8 2) (X 8 3)) (solY X Y (X 8 0) (X 8 1) (X 8 2) (X 8 3)) 0) + (((solY X Y (X 8 0) (X 8 1) (X 8 2) (X 8 3)) 283 0) * ((solX X Y (X 8 0) (X 8 1) (X 8 2) (X 8 3)) 4 0).toInt64)) * (10 - ((solX X Y (X 8 0) (X 8 1) (X 8 2) (X 8 3)) 8 0)).toInt64) ((((solY X Y (X 8 0) (X 8 1) (X 8 2) (X 8 3)) 282 2) * 10) * 10)) : Ct l yX5_product cX5_product 8 (some .long) 3 76 G o [.ref (o + 0), .int 0, .int 1] X Y (some (.long (((((solY X Y (X 8 0) (X 8 1) (X 8 2) (X 8 3)) 282 2) * 10) * 10) / (gcdL 100 (((ent (solX X Y (X 8 0) (X 8 1) (X 8 2) (X 8 3)) (solY X Y (X 8 0) (X 8 1) (X 8 2) (X 8 3)) 0) + (((solY X Y (X 8 0) (X 8 1) (X 8 2) (X 8 3)) 283 0) * (((solX X Y (X 8 0) (X 8 1) (X 8 2) (X 8 3)) 4 0).toInt64))) * ((10 - ((solX X Y (X 8 0) (X 8 1) (X 8 2) (X 8 3)) 8 0)).toInt64)) ((((solY X Y (X 8 0) (X 8 1) (X 8 2) (X 8 3)) 282 2) * 10) * 10))))) (solX X Y (X 8 0) (X 8 1) (X 8 2) (X 8 3)) (solY X Y (X 8 0) (X 8 1) (X 8 2) (X 8 3)) := by
  refine Ct.mk (by decide +kernel) (Nat.le_of_ble_eq_true rfl) rfl ?_
  intro p9 e9 s9 m9 args9 below9 meth9 c9 hE hr hlocks hK hI ls hl
  have hx := hE.1
  have hb := hE.2.1
  have hl : lv_has ls 8 [(0, .ref (o + 0)), (1, .int 0), (2, .int 1)] := hl
  refine lv_iload_n hx hb dX5_product_0 rfl (lv_at hl 1 rfl) ?_
  refine x_callSi hE hK hI (c_X5_isSize l G o _ _ 0 ) mf_X5_isSize mw_189 rfl hl.1 rfl (Nat.le_of_ble_eq_true rfl) ⟨(Nat.le_of_ble_eq_true rfl), (Nat.le_of_ble_eq_true rfl)⟩ ⟨Nat.zero_le _, Nat.zero_le _⟩ dX5_product_1 (fun H locs hI => ?_)
  refine lv_topi (fun z1 ez1 => ?_)
  obtain rfl : 1 = z1 := (ez1.trans (bI_t (by decide))).symm
  refine lv_if_ne (tgt := 11) hx hb dX5_product_4 (by decide) (fun _ => ?_) (fun q => absurd q (by decide))
  refine lv_iload_n hx hb dX5_product_11 rfl (lv_at hl 2 rfl) ?_
  refine x_callSi hE hK hI (c_X5_isZeroOrOne l G o _ _ 1 ) mf_X5_isZeroOrOne mw_227 rfl hl.1 rfl (Nat.le_of_ble_eq_true rfl) ⟨(Nat.le_of_ble_eq_true rfl), (Nat.le_of_ble_eq_true rfl)⟩ ⟨Nat.zero_le _, Nat.zero_le _⟩ dX5_product_12 (fun H locs hI => ?_)
  refine lv_topi (fun z2 ez2 => ?_)
  obtain rfl : 1 = z2 := (ez2.trans (bI_t (by decide))).symm
  refine lv_if_ne (tgt := 22) hx hb dX5_product_15 (by decide) (fun _ => ?_) (fun q => absurd q (by decide))
  refine lv_aload_n hx hb dX5_product_22 rfl (lv_at hl 0 rfl) ?_
  refine x_get (k := 0) hE hK hI (by decide) inG5 (e_0 G o _ _) rfl 0 (by decide) mw_172 rfl dX5_product_23 ?_
  refine x_get (k := 1) hE hK hI (by decide) inG1 (e_1 G o _ _) rfl 0 (by decide) mw_139 rfl dX5_product_26 ?_
  refine lv_astore_n (lv' := [(3, .ref (o + 2)), (0, .ref (o + 0)), (1, .int 0), (2, .int 1)]) hx hb dX5_product_29 rfl hl (by decide) rfl (fun ls hl => ?_)
  refine lv_aload_n hx hb dX5_product_30 rfl (lv_at hl 1 rfl) ?_
  refine x_get (k := 0) hE hK hI (by decide) inG5 (e_0 G o _ _) rfl 3 (by decide) mw_175 rfl dX5_product_31 ?_
  refine lv_aload_n hx hb dX5_product_34 rfl (lv_at hl 0 rfl) ?_
  refine lv_aload_n hx hb dX5_product_35 rfl (lv_at hl 0 rfl) ?_
  refine x_get (k := 2) hE hK hI (by decide) inG2 (e_2 G o _ _) rfl 1 (by decide) mw_37 rfl dX5_product_36 ?_
  refine x_callVv (k := 282) hE hK hI (c_X4_solve_8 l G o _ _ (X 8 0) (X 8 1) (X 8 2) (X 8 3) rfl rfl rfl rfl) mf_X4_solve mw_231 (by decide) ((e_282 G o) _ _) rfl rfl hl.1 rfl (Nat.le_of_ble_eq_true rfl) ⟨(Nat.le_of_ble_eq_true rfl), (Nat.le_of_ble_eq_true rfl)⟩ ⟨Nat.zero_le _, Nat.zero_le _⟩ dX5_product_39 (fun H locs hI => ?_)
  refine lv_aload_n hx hb dX5_product_42 rfl (lv_at hl 1 rfl) ?_
  refine x_get (k := 0) hE hK hI (by decide) inG5 (e_0 G o _ _) rfl 3 (by decide) mw_175 rfl dX5_product_43 ?_
  refine x_get (k := 282) hE hK hI (by decide) inG4 (e_282 G o _ _) rfl 3 (by decide) mw_160 rfl dX5_product_46 ?_
  refine lv_if_ne (tgt := 56) hx hb dX5_product_49 (by decide) (fun _ => ?_) (fun q => absurd q h)
  refine lv_aload_n hx hb dX5_product_56 rfl (lv_at hl 1 rfl) ?_
  refine x_get (k := 0) hE hK hI (by decide) inG5 (e_0 G o _ _) rfl 3 (by decide) mw_175 rfl dX5_product_57 ?_
  refine lv_aload_n hx hb dX5_product_60 rfl (lv_at hl 0 rfl) ?_
  refine lv_iload_n hx hb dX5_product_61 rfl (lv_at hl 2 rfl) ?_
  refine x_callVl (k := 282) hE hK hI (c_X4_brokenInto_0 l G o _ _  ) mf_X4_brokenInto mw_257 (by decide) ((e_282 G o) _ _) rfl rfl hl.1 rfl (Nat.le_of_ble_eq_true rfl) ⟨(Nat.le_of_ble_eq_true rfl), (Nat.le_of_ble_eq_true rfl)⟩ ⟨Nat.zero_le _, Nat.zero_le _⟩ dX5_product_62 (fun H locs hI => ?_)
  refine lv_aload_n hx hb dX5_product_65 rfl (lv_at hl 1 rfl) ?_
  refine x_get (k := 0) hE hK hI (by decide) inG5 (e_0 G o _ _) rfl 3 (by decide) mw_175 rfl dX5_product_66 ?_
  refine x_get (k := 282) hE hK hI (by decide) inG4 (e_282 G o _ _) rfl 0 (by decide) mw_155 rfl dX5_product_69 ?_
  refine lv_iload_n hx hb dX5_product_72 rfl (lv_at hl 2 rfl) ?_
  refine x_lald (k := 283) (j := 0) hE hK hI (by decide) (e_283 G o) (by decide) (by decide) rfl dX5_product_73 ?_
  refine lv_aload_n hx hb dX5_product_74 rfl (lv_at hl 0 rfl) ?_
  refine x_get (k := 2) hE hK hI (by decide) inG2 (e_2 G o _ _) rfl 0 (by decide) mw_33 rfl dX5_product_75 ?_
  refine lv_iload_n hx hb dX5_product_78 rfl (lv_at hl 2 rfl) ?_
  refine x_aald (k := 3) (j := 0) (t0 := 5) (q := o + 4) hE hK hI (by decide) (e_3 G o) rfl rfl (by decide) (by decide) rfl rfl dX5_product_79 ?_
  refine lv_iload_n hx hb dX5_product_80 rfl (lv_at hl 2 rfl) ?_
  refine x_iald (k := 4) (j := 0) hE hK hI (by decide) (e_4 G o) (by decide) (by decide) rfl dX5_product_81 ?_
  refine lv_i2l hx hb dX5_product_82 rfl ?_
  refine lv_lmul hx hb dX5_product_83 ?_
  refine lv_ladd hx hb dX5_product_84 ?_
  refine lv_lstore (lv' := [(4, .long ((ent (solX X Y (X 8 0) (X 8 1) (X 8 2) (X 8 3)) (solY X Y (X 8 0) (X 8 1) (X 8 2) (X 8 3)) 0) + (((solY X Y (X 8 0) (X 8 1) (X 8 2) (X 8 3)) 283 0) * (((solX X Y (X 8 0) (X 8 1) (X 8 2) (X 8 3)) 4 0).toInt64)))), (3, .ref (o + 2)), (0, .ref (o + 0)), (1, .int 0), (2, .int 1)]) hx hb dX5_product_85 hl (by decide) rfl (fun ls hl => ?_)
  refine lv_bipush (v := 10) hx hb dX5_product_87 (by decide) ?_
  refine lv_aload_n hx hb dX5_product_89 rfl (lv_at hl 1 rfl) ?_
  refine x_get (k := 2) hE hK hI (by decide) inG2 (e_2 G o _ _) rfl 1 (by decide) mw_37 rfl dX5_product_90 ?_
  refine lv_iload_n hx hb dX5_product_93 rfl (lv_at hl 3 rfl) ?_
  refine x_iald (k := 8) (j := 0) hE hK hI (by decide) (e_8 G o) (by decide) (by decide) rfl dX5_product_94 ?_
  refine lv_isub hx hb dX5_product_95 ?_
  refine lv_i2l hx hb dX5_product_96 rfl ?_
  refine lv_lstore (lv' := [(6, .long ((10 - ((solX X Y (X 8 0) (X 8 1) (X 8 2) (X 8 3)) 8 0)).toInt64)), (4, .long ((ent (solX X Y (X 8 0) (X 8 1) (X 8 2) (X 8 3)) (solY X Y (X 8 0) (X 8 1) (X 8 2) (X 8 3)) 0) + (((solY X Y (X 8 0) (X 8 1) (X 8 2) (X 8 3)) 283 0) * (((solX X Y (X 8 0) (X 8 1) (X 8 2) (X 8 3)) 4 0).toInt64)))), (3, .ref (o + 2)), (0, .ref (o + 0)), (1, .int 0), (2, .int 1)]) hx hb dX5_product_97 hl (by decide) rfl (fun ls hl => ?_)
  refine lv_lload hx hb dX5_product_99 (lv_at hl 1 rfl) ?_
  refine lv_lload hx hb dX5_product_101 (lv_at hl 0 rfl) ?_
  refine lv_lmul hx hb dX5_product_103 ?_
  refine lv_aload_n hx hb dX5_product_104 rfl (lv_at hl 3 rfl) ?_
  refine x_get (k := 0) hE hK hI (by decide) inG5 (e_0 G o _ _) rfl 3 (by decide) mw_175 rfl dX5_product_105 ?_
  refine x_get (k := 282) hE hK hI (by decide) inG4 (e_282 G o _ _) rfl 2 (by decide) mw_158 rfl dX5_product_108 ?_
  refine lv_ldc2 hx hb hE.2.2.2.1 (hE.2.2.2.2 _ mw_258) dX5_product_111 ?_
  refine lv_lmul hx hb dX5_product_114 ?_
  refine lv_ldc2 hx hb hE.2.2.2.1 (hE.2.2.2.2 _ mw_258) dX5_product_115 ?_
  refine lv_lmul hx hb dX5_product_118 ?_
  refine lv_iload_n hx hb dX5_product_119 rfl (lv_at hl 5 rfl) ?_
  refine x_callSl hE hK hI (c_X5_partOf_1 l G o _ _ (((ent (solX X Y (X 8 0) (X 8 1) (X 8 2) (X 8 3)) (solY X Y (X 8 0) (X 8 1) (X 8 2) (X 8 3)) 0) + (((solY X Y (X 8 0) (X 8 1) (X 8 2) (X 8 3)) 283 0) * (((solX X Y (X 8 0) (X 8 1) (X 8 2) (X 8 3)) 4 0).toInt64))) * ((10 - ((solX X Y (X 8 0) (X 8 1) (X 8 2) (X 8 3)) 8 0)).toInt64)) ((((solY X Y (X 8 0) (X 8 1) (X 8 2) (X 8 3)) 282 2) * 10) * 10) hg) mf_X5_partOf mw_244 rfl hl.1 rfl (Nat.le_of_ble_eq_true rfl) ⟨(Nat.le_of_ble_eq_true rfl), (Nat.le_of_ble_eq_true rfl)⟩ ⟨Nat.zero_le _, Nat.zero_le _⟩ dX5_product_120 (fun H locs hI => ?_)
  exact x_lret hE hr hlocks hI rfl rfl rfl dX5_product_123
set_option maxRecDepth 100000 in
set_option maxHeartbeats 4000000 in
theorem c_X5_product_y1_1 (l : Launch) (G : GG) (o : Nat) (X : SX) (Y : SY) (h : ¬ ((solX X Y (X 8 0) (X 8 1) (X 8 2) (X 8 3)) 282 3 = 0)) (hg : 1 ≤ gcdL 100 (((ent (solX X Y (X 8 0) (X 8 1) (X 8 2) (X 8 3)) (solY X Y (X 8 0) (X 8 1) (X 8 2) (X 8 3)) 1) + (((solY X Y (X 8 0) (X 8 1) (X 8 2) (X 8 3)) 283 1) * ((solX X Y (X 8 0) (X 8 1) (X 8 2) (X 8 3)) 5 1).toInt64)) * (10 - ((solX X Y (X 8 0) (X 8 1) (X 8 2) (X 8 3)) 8 1)).toInt64) ((((solY X Y (X 8 0) (X 8 1) (X 8 2) (X 8 3)) 282 2) * 10) * 10)) : Ct l yX5_product cX5_product 8 (some .long) 3 76 G o [.ref (o + 0), .int 1, .int 1] X Y (some (.long (((((solY X Y (X 8 0) (X 8 1) (X 8 2) (X 8 3)) 282 2) * 10) * 10) / (gcdL 100 (((ent (solX X Y (X 8 0) (X 8 1) (X 8 2) (X 8 3)) (solY X Y (X 8 0) (X 8 1) (X 8 2) (X 8 3)) 1) + (((solY X Y (X 8 0) (X 8 1) (X 8 2) (X 8 3)) 283 1) * (((solX X Y (X 8 0) (X 8 1) (X 8 2) (X 8 3)) 5 1).toInt64))) * ((10 - ((solX X Y (X 8 0) (X 8 1) (X 8 2) (X 8 3)) 8 1)).toInt64)) ((((solY X Y (X 8 0) (X 8 1) (X 8 2) (X 8 3)) 282 2) * 10) * 10))))) (solX X Y (X 8 0) (X 8 1) (X 8 2) (X 8 3)) (solY X Y (X 8 0) (X 8 1) (X 8 2) (X 8 3)) := by
  refine Ct.mk (by decide +kernel) (Nat.le_of_ble_eq_true rfl) rfl ?_
  intro p9 e9 s9 m9 args9 below9 meth9 c9 hE hr hlocks hK hI ls hl
  have hx := hE.1
  have hb := hE.2.1
  have hl : lv_has ls 8 [(0, .ref (o + 0)), (1, .int 1), (2, .int 1)] := hl
  refine lv_iload_n hx hb dX5_product_0 rfl (lv_at hl 1 rfl) ?_
  refine x_callSi hE hK hI (c_X5_isSize l G o _ _ 1 ) mf_X5_isSize mw_189 rfl hl.1 rfl (Nat.le_of_ble_eq_true rfl) ⟨(Nat.le_of_ble_eq_true rfl), (Nat.le_of_ble_eq_true rfl)⟩ ⟨Nat.zero_le _, Nat.zero_le _⟩ dX5_product_1 (fun H locs hI => ?_)
  refine lv_topi (fun z1 ez1 => ?_)
  obtain rfl : 1 = z1 := (ez1.trans (bI_t (by decide))).symm
  refine lv_if_ne (tgt := 11) hx hb dX5_product_4 (by decide) (fun _ => ?_) (fun q => absurd q (by decide))
  refine lv_iload_n hx hb dX5_product_11 rfl (lv_at hl 2 rfl) ?_
  refine x_callSi hE hK hI (c_X5_isZeroOrOne l G o _ _ 1 ) mf_X5_isZeroOrOne mw_227 rfl hl.1 rfl (Nat.le_of_ble_eq_true rfl) ⟨(Nat.le_of_ble_eq_true rfl), (Nat.le_of_ble_eq_true rfl)⟩ ⟨Nat.zero_le _, Nat.zero_le _⟩ dX5_product_12 (fun H locs hI => ?_)
  refine lv_topi (fun z2 ez2 => ?_)
  obtain rfl : 1 = z2 := (ez2.trans (bI_t (by decide))).symm
  refine lv_if_ne (tgt := 22) hx hb dX5_product_15 (by decide) (fun _ => ?_) (fun q => absurd q (by decide))
  refine lv_aload_n hx hb dX5_product_22 rfl (lv_at hl 0 rfl) ?_
  refine x_get (k := 0) hE hK hI (by decide) inG5 (e_0 G o _ _) rfl 0 (by decide) mw_172 rfl dX5_product_23 ?_
  refine x_get (k := 1) hE hK hI (by decide) inG1 (e_1 G o _ _) rfl 0 (by decide) mw_139 rfl dX5_product_26 ?_
  refine lv_astore_n (lv' := [(3, .ref (o + 2)), (0, .ref (o + 0)), (1, .int 1), (2, .int 1)]) hx hb dX5_product_29 rfl hl (by decide) rfl (fun ls hl => ?_)
  refine lv_aload_n hx hb dX5_product_30 rfl (lv_at hl 1 rfl) ?_
  refine x_get (k := 0) hE hK hI (by decide) inG5 (e_0 G o _ _) rfl 3 (by decide) mw_175 rfl dX5_product_31 ?_
  refine lv_aload_n hx hb dX5_product_34 rfl (lv_at hl 0 rfl) ?_
  refine lv_aload_n hx hb dX5_product_35 rfl (lv_at hl 0 rfl) ?_
  refine x_get (k := 2) hE hK hI (by decide) inG2 (e_2 G o _ _) rfl 1 (by decide) mw_37 rfl dX5_product_36 ?_
  refine x_callVv (k := 282) hE hK hI (c_X4_solve_8 l G o _ _ (X 8 0) (X 8 1) (X 8 2) (X 8 3) rfl rfl rfl rfl) mf_X4_solve mw_231 (by decide) ((e_282 G o) _ _) rfl rfl hl.1 rfl (Nat.le_of_ble_eq_true rfl) ⟨(Nat.le_of_ble_eq_true rfl), (Nat.le_of_ble_eq_true rfl)⟩ ⟨Nat.zero_le _, Nat.zero_le _⟩ dX5_product_39 (fun H locs hI => ?_)
  refine lv_aload_n hx hb dX5_product_42 rfl (lv_at hl 1 rfl) ?_
  refine x_get (k := 0) hE hK hI (by decide) inG5 (e_0 G o _ _) rfl 3 (by decide) mw_175 rfl dX5_product_43 ?_
  refine x_get (k := 282) hE hK hI (by decide) inG4 (e_282 G o _ _) rfl 3 (by decide) mw_160 rfl dX5_product_46 ?_
  refine lv_if_ne (tgt := 56) hx hb dX5_product_49 (by decide) (fun _ => ?_) (fun q => absurd q h)
  refine lv_aload_n hx hb dX5_product_56 rfl (lv_at hl 1 rfl) ?_
  refine x_get (k := 0) hE hK hI (by decide) inG5 (e_0 G o _ _) rfl 3 (by decide) mw_175 rfl dX5_product_57 ?_
  refine lv_aload_n hx hb dX5_product_60 rfl (lv_at hl 0 rfl) ?_
  refine lv_iload_n hx hb dX5_product_61 rfl (lv_at hl 2 rfl) ?_
  refine x_callVl (k := 282) hE hK hI (c_X4_brokenInto_1 l G o _ _  ) mf_X4_brokenInto mw_257 (by decide) ((e_282 G o) _ _) rfl rfl hl.1 rfl (Nat.le_of_ble_eq_true rfl) ⟨(Nat.le_of_ble_eq_true rfl), (Nat.le_of_ble_eq_true rfl)⟩ ⟨Nat.zero_le _, Nat.zero_le _⟩ dX5_product_62 (fun H locs hI => ?_)
  refine lv_aload_n hx hb dX5_product_65 rfl (lv_at hl 1 rfl) ?_
  refine x_get (k := 0) hE hK hI (by decide) inG5 (e_0 G o _ _) rfl 3 (by decide) mw_175 rfl dX5_product_66 ?_
  refine x_get (k := 282) hE hK hI (by decide) inG4 (e_282 G o _ _) rfl 0 (by decide) mw_155 rfl dX5_product_69 ?_
  refine lv_iload_n hx hb dX5_product_72 rfl (lv_at hl 2 rfl) ?_
  refine x_lald (k := 283) (j := 1) hE hK hI (by decide) (e_283 G o) (by decide) (by decide) rfl dX5_product_73 ?_
  refine lv_aload_n hx hb dX5_product_74 rfl (lv_at hl 0 rfl) ?_
  refine x_get (k := 2) hE hK hI (by decide) inG2 (e_2 G o _ _) rfl 0 (by decide) mw_33 rfl dX5_product_75 ?_
  refine lv_iload_n hx hb dX5_product_78 rfl (lv_at hl 2 rfl) ?_
  refine x_aald (k := 3) (j := 1) (t0 := 5) (q := o + 5) hE hK hI (by decide) (e_3 G o) rfl rfl (by decide) (by decide) rfl rfl dX5_product_79 ?_
  refine lv_iload_n hx hb dX5_product_80 rfl (lv_at hl 2 rfl) ?_
  refine x_iald (k := 5) (j := 1) hE hK hI (by decide) (e_5 G o) (by decide) (by decide) rfl dX5_product_81 ?_
  refine lv_i2l hx hb dX5_product_82 rfl ?_
  refine lv_lmul hx hb dX5_product_83 ?_
  refine lv_ladd hx hb dX5_product_84 ?_
  refine lv_lstore (lv' := [(4, .long ((ent (solX X Y (X 8 0) (X 8 1) (X 8 2) (X 8 3)) (solY X Y (X 8 0) (X 8 1) (X 8 2) (X 8 3)) 1) + (((solY X Y (X 8 0) (X 8 1) (X 8 2) (X 8 3)) 283 1) * (((solX X Y (X 8 0) (X 8 1) (X 8 2) (X 8 3)) 5 1).toInt64)))), (3, .ref (o + 2)), (0, .ref (o + 0)), (1, .int 1), (2, .int 1)]) hx hb dX5_product_85 hl (by decide) rfl (fun ls hl => ?_)
  refine lv_bipush (v := 10) hx hb dX5_product_87 (by decide) ?_
  refine lv_aload_n hx hb dX5_product_89 rfl (lv_at hl 1 rfl) ?_
  refine x_get (k := 2) hE hK hI (by decide) inG2 (e_2 G o _ _) rfl 1 (by decide) mw_37 rfl dX5_product_90 ?_
  refine lv_iload_n hx hb dX5_product_93 rfl (lv_at hl 3 rfl) ?_
  refine x_iald (k := 8) (j := 1) hE hK hI (by decide) (e_8 G o) (by decide) (by decide) rfl dX5_product_94 ?_
  refine lv_isub hx hb dX5_product_95 ?_
  refine lv_i2l hx hb dX5_product_96 rfl ?_
  refine lv_lstore (lv' := [(6, .long ((10 - ((solX X Y (X 8 0) (X 8 1) (X 8 2) (X 8 3)) 8 1)).toInt64)), (4, .long ((ent (solX X Y (X 8 0) (X 8 1) (X 8 2) (X 8 3)) (solY X Y (X 8 0) (X 8 1) (X 8 2) (X 8 3)) 1) + (((solY X Y (X 8 0) (X 8 1) (X 8 2) (X 8 3)) 283 1) * (((solX X Y (X 8 0) (X 8 1) (X 8 2) (X 8 3)) 5 1).toInt64)))), (3, .ref (o + 2)), (0, .ref (o + 0)), (1, .int 1), (2, .int 1)]) hx hb dX5_product_97 hl (by decide) rfl (fun ls hl => ?_)
  refine lv_lload hx hb dX5_product_99 (lv_at hl 1 rfl) ?_
  refine lv_lload hx hb dX5_product_101 (lv_at hl 0 rfl) ?_
  refine lv_lmul hx hb dX5_product_103 ?_
  refine lv_aload_n hx hb dX5_product_104 rfl (lv_at hl 3 rfl) ?_
  refine x_get (k := 0) hE hK hI (by decide) inG5 (e_0 G o _ _) rfl 3 (by decide) mw_175 rfl dX5_product_105 ?_
  refine x_get (k := 282) hE hK hI (by decide) inG4 (e_282 G o _ _) rfl 2 (by decide) mw_158 rfl dX5_product_108 ?_
  refine lv_ldc2 hx hb hE.2.2.2.1 (hE.2.2.2.2 _ mw_258) dX5_product_111 ?_
  refine lv_lmul hx hb dX5_product_114 ?_
  refine lv_ldc2 hx hb hE.2.2.2.1 (hE.2.2.2.2 _ mw_258) dX5_product_115 ?_
  refine lv_lmul hx hb dX5_product_118 ?_
  refine lv_iload_n hx hb dX5_product_119 rfl (lv_at hl 5 rfl) ?_
  refine x_callSl hE hK hI (c_X5_partOf_1 l G o _ _ (((ent (solX X Y (X 8 0) (X 8 1) (X 8 2) (X 8 3)) (solY X Y (X 8 0) (X 8 1) (X 8 2) (X 8 3)) 1) + (((solY X Y (X 8 0) (X 8 1) (X 8 2) (X 8 3)) 283 1) * (((solX X Y (X 8 0) (X 8 1) (X 8 2) (X 8 3)) 5 1).toInt64))) * ((10 - ((solX X Y (X 8 0) (X 8 1) (X 8 2) (X 8 3)) 8 1)).toInt64)) ((((solY X Y (X 8 0) (X 8 1) (X 8 2) (X 8 3)) 282 2) * 10) * 10) hg) mf_X5_partOf mw_244 rfl hl.1 rfl (Nat.le_of_ble_eq_true rfl) ⟨(Nat.le_of_ble_eq_true rfl), (Nat.le_of_ble_eq_true rfl)⟩ ⟨Nat.zero_le _, Nat.zero_le _⟩ dX5_product_120 (fun H locs hI => ?_)
  exact x_lret hE hr hlocks hI rfl rfl rfl dX5_product_123
set_option maxRecDepth 100000 in
set_option maxHeartbeats 4000000 in
theorem c_X5_product_y1_2 (l : Launch) (G : GG) (o : Nat) (X : SX) (Y : SY) (h : ¬ ((solX X Y (X 8 0) (X 8 1) (X 8 2) (X 8 3)) 282 3 = 0)) (hg : 1 ≤ gcdL 100 (((ent (solX X Y (X 8 0) (X 8 1) (X 8 2) (X 8 3)) (solY X Y (X 8 0) (X 8 1) (X 8 2) (X 8 3)) 2) + (((solY X Y (X 8 0) (X 8 1) (X 8 2) (X 8 3)) 283 2) * ((solX X Y (X 8 0) (X 8 1) (X 8 2) (X 8 3)) 6 2).toInt64)) * (10 - ((solX X Y (X 8 0) (X 8 1) (X 8 2) (X 8 3)) 8 2)).toInt64) ((((solY X Y (X 8 0) (X 8 1) (X 8 2) (X 8 3)) 282 2) * 10) * 10)) : Ct l yX5_product cX5_product 8 (some .long) 3 76 G o [.ref (o + 0), .int 2, .int 1] X Y (some (.long (((((solY X Y (X 8 0) (X 8 1) (X 8 2) (X 8 3)) 282 2) * 10) * 10) / (gcdL 100 (((ent (solX X Y (X 8 0) (X 8 1) (X 8 2) (X 8 3)) (solY X Y (X 8 0) (X 8 1) (X 8 2) (X 8 3)) 2) + (((solY X Y (X 8 0) (X 8 1) (X 8 2) (X 8 3)) 283 2) * (((solX X Y (X 8 0) (X 8 1) (X 8 2) (X 8 3)) 6 2).toInt64))) * ((10 - ((solX X Y (X 8 0) (X 8 1) (X 8 2) (X 8 3)) 8 2)).toInt64)) ((((solY X Y (X 8 0) (X 8 1) (X 8 2) (X 8 3)) 282 2) * 10) * 10))))) (solX X Y (X 8 0) (X 8 1) (X 8 2) (X 8 3)) (solY X Y (X 8 0) (X 8 1) (X 8 2) (X 8 3)) := by
  refine Ct.mk (by decide +kernel) (Nat.le_of_ble_eq_true rfl) rfl ?_
  intro p9 e9 s9 m9 args9 below9 meth9 c9 hE hr hlocks hK hI ls hl
  have hx := hE.1
  have hb := hE.2.1
  have hl : lv_has ls 8 [(0, .ref (o + 0)), (1, .int 2), (2, .int 1)] := hl
  refine lv_iload_n hx hb dX5_product_0 rfl (lv_at hl 1 rfl) ?_
  refine x_callSi hE hK hI (c_X5_isSize l G o _ _ 2 ) mf_X5_isSize mw_189 rfl hl.1 rfl (Nat.le_of_ble_eq_true rfl) ⟨(Nat.le_of_ble_eq_true rfl), (Nat.le_of_ble_eq_true rfl)⟩ ⟨Nat.zero_le _, Nat.zero_le _⟩ dX5_product_1 (fun H locs hI => ?_)
  refine lv_topi (fun z1 ez1 => ?_)
  obtain rfl : 1 = z1 := (ez1.trans (bI_t (by decide))).symm
  refine lv_if_ne (tgt := 11) hx hb dX5_product_4 (by decide) (fun _ => ?_) (fun q => absurd q (by decide))
  refine lv_iload_n hx hb dX5_product_11 rfl (lv_at hl 2 rfl) ?_
  refine x_callSi hE hK hI (c_X5_isZeroOrOne l G o _ _ 1 ) mf_X5_isZeroOrOne mw_227 rfl hl.1 rfl (Nat.le_of_ble_eq_true rfl) ⟨(Nat.le_of_ble_eq_true rfl), (Nat.le_of_ble_eq_true rfl)⟩ ⟨Nat.zero_le _, Nat.zero_le _⟩ dX5_product_12 (fun H locs hI => ?_)
  refine lv_topi (fun z2 ez2 => ?_)
  obtain rfl : 1 = z2 := (ez2.trans (bI_t (by decide))).symm
  refine lv_if_ne (tgt := 22) hx hb dX5_product_15 (by decide) (fun _ => ?_) (fun q => absurd q (by decide))
  refine lv_aload_n hx hb dX5_product_22 rfl (lv_at hl 0 rfl) ?_
  refine x_get (k := 0) hE hK hI (by decide) inG5 (e_0 G o _ _) rfl 0 (by decide) mw_172 rfl dX5_product_23 ?_
  refine x_get (k := 1) hE hK hI (by decide) inG1 (e_1 G o _ _) rfl 0 (by decide) mw_139 rfl dX5_product_26 ?_
  refine lv_astore_n (lv' := [(3, .ref (o + 2)), (0, .ref (o + 0)), (1, .int 2), (2, .int 1)]) hx hb dX5_product_29 rfl hl (by decide) rfl (fun ls hl => ?_)
  refine lv_aload_n hx hb dX5_product_30 rfl (lv_at hl 1 rfl) ?_
  refine x_get (k := 0) hE hK hI (by decide) inG5 (e_0 G o _ _) rfl 3 (by decide) mw_175 rfl dX5_product_31 ?_
  refine lv_aload_n hx hb dX5_product_34 rfl (lv_at hl 0 rfl) ?_
  refine lv_aload_n hx hb dX5_product_35 rfl (lv_at hl 0 rfl) ?_
  refine x_get (k := 2) hE hK hI (by decide) inG2 (e_2 G o _ _) rfl 1 (by decide) mw_37 rfl dX5_product_36 ?_
  refine x_callVv (k := 282) hE hK hI (c_X4_solve_8 l G o _ _ (X 8 0) (X 8 1) (X 8 2) (X 8 3) rfl rfl rfl rfl) mf_X4_solve mw_231 (by decide) ((e_282 G o) _ _) rfl rfl hl.1 rfl (Nat.le_of_ble_eq_true rfl) ⟨(Nat.le_of_ble_eq_true rfl), (Nat.le_of_ble_eq_true rfl)⟩ ⟨Nat.zero_le _, Nat.zero_le _⟩ dX5_product_39 (fun H locs hI => ?_)
  refine lv_aload_n hx hb dX5_product_42 rfl (lv_at hl 1 rfl) ?_
  refine x_get (k := 0) hE hK hI (by decide) inG5 (e_0 G o _ _) rfl 3 (by decide) mw_175 rfl dX5_product_43 ?_
  refine x_get (k := 282) hE hK hI (by decide) inG4 (e_282 G o _ _) rfl 3 (by decide) mw_160 rfl dX5_product_46 ?_
  refine lv_if_ne (tgt := 56) hx hb dX5_product_49 (by decide) (fun _ => ?_) (fun q => absurd q h)
  refine lv_aload_n hx hb dX5_product_56 rfl (lv_at hl 1 rfl) ?_
  refine x_get (k := 0) hE hK hI (by decide) inG5 (e_0 G o _ _) rfl 3 (by decide) mw_175 rfl dX5_product_57 ?_
  refine lv_aload_n hx hb dX5_product_60 rfl (lv_at hl 0 rfl) ?_
  refine lv_iload_n hx hb dX5_product_61 rfl (lv_at hl 2 rfl) ?_
  refine x_callVl (k := 282) hE hK hI (c_X4_brokenInto_2 l G o _ _  ) mf_X4_brokenInto mw_257 (by decide) ((e_282 G o) _ _) rfl rfl hl.1 rfl (Nat.le_of_ble_eq_true rfl) ⟨(Nat.le_of_ble_eq_true rfl), (Nat.le_of_ble_eq_true rfl)⟩ ⟨Nat.zero_le _, Nat.zero_le _⟩ dX5_product_62 (fun H locs hI => ?_)
  refine lv_aload_n hx hb dX5_product_65 rfl (lv_at hl 1 rfl) ?_
  refine x_get (k := 0) hE hK hI (by decide) inG5 (e_0 G o _ _) rfl 3 (by decide) mw_175 rfl dX5_product_66 ?_
  refine x_get (k := 282) hE hK hI (by decide) inG4 (e_282 G o _ _) rfl 0 (by decide) mw_155 rfl dX5_product_69 ?_
  refine lv_iload_n hx hb dX5_product_72 rfl (lv_at hl 2 rfl) ?_
  refine x_lald (k := 283) (j := 2) hE hK hI (by decide) (e_283 G o) (by decide) (by decide) rfl dX5_product_73 ?_
  refine lv_aload_n hx hb dX5_product_74 rfl (lv_at hl 0 rfl) ?_
  refine x_get (k := 2) hE hK hI (by decide) inG2 (e_2 G o _ _) rfl 0 (by decide) mw_33 rfl dX5_product_75 ?_
  refine lv_iload_n hx hb dX5_product_78 rfl (lv_at hl 2 rfl) ?_
  refine x_aald (k := 3) (j := 2) (t0 := 5) (q := o + 6) hE hK hI (by decide) (e_3 G o) rfl rfl (by decide) (by decide) rfl rfl dX5_product_79 ?_
  refine lv_iload_n hx hb dX5_product_80 rfl (lv_at hl 2 rfl) ?_
  refine x_iald (k := 6) (j := 2) hE hK hI (by decide) (e_6 G o) (by decide) (by decide) rfl dX5_product_81 ?_
  refine lv_i2l hx hb dX5_product_82 rfl ?_
  refine lv_lmul hx hb dX5_product_83 ?_
  refine lv_ladd hx hb dX5_product_84 ?_
  refine lv_lstore (lv' := [(4, .long ((ent (solX X Y (X 8 0) (X 8 1) (X 8 2) (X 8 3)) (solY X Y (X 8 0) (X 8 1) (X 8 2) (X 8 3)) 2) + (((solY X Y (X 8 0) (X 8 1) (X 8 2) (X 8 3)) 283 2) * (((solX X Y (X 8 0) (X 8 1) (X 8 2) (X 8 3)) 6 2).toInt64)))), (3, .ref (o + 2)), (0, .ref (o + 0)), (1, .int 2), (2, .int 1)]) hx hb dX5_product_85 hl (by decide) rfl (fun ls hl => ?_)
  refine lv_bipush (v := 10) hx hb dX5_product_87 (by decide) ?_
  refine lv_aload_n hx hb dX5_product_89 rfl (lv_at hl 1 rfl) ?_
  refine x_get (k := 2) hE hK hI (by decide) inG2 (e_2 G o _ _) rfl 1 (by decide) mw_37 rfl dX5_product_90 ?_
  refine lv_iload_n hx hb dX5_product_93 rfl (lv_at hl 3 rfl) ?_
  refine x_iald (k := 8) (j := 2) hE hK hI (by decide) (e_8 G o) (by decide) (by decide) rfl dX5_product_94 ?_
  refine lv_isub hx hb dX5_product_95 ?_
  refine lv_i2l hx hb dX5_product_96 rfl ?_
  refine lv_lstore (lv' := [(6, .long ((10 - ((solX X Y (X 8 0) (X 8 1) (X 8 2) (X 8 3)) 8 2)).toInt64)), (4, .long ((ent (solX X Y (X 8 0) (X 8 1) (X 8 2) (X 8 3)) (solY X Y (X 8 0) (X 8 1) (X 8 2) (X 8 3)) 2) + (((solY X Y (X 8 0) (X 8 1) (X 8 2) (X 8 3)) 283 2) * (((solX X Y (X 8 0) (X 8 1) (X 8 2) (X 8 3)) 6 2).toInt64)))), (3, .ref (o + 2)), (0, .ref (o + 0)), (1, .int 2), (2, .int 1)]) hx hb dX5_product_97 hl (by decide) rfl (fun ls hl => ?_)
  refine lv_lload hx hb dX5_product_99 (lv_at hl 1 rfl) ?_
  refine lv_lload hx hb dX5_product_101 (lv_at hl 0 rfl) ?_
  refine lv_lmul hx hb dX5_product_103 ?_
  refine lv_aload_n hx hb dX5_product_104 rfl (lv_at hl 3 rfl) ?_
  refine x_get (k := 0) hE hK hI (by decide) inG5 (e_0 G o _ _) rfl 3 (by decide) mw_175 rfl dX5_product_105 ?_
  refine x_get (k := 282) hE hK hI (by decide) inG4 (e_282 G o _ _) rfl 2 (by decide) mw_158 rfl dX5_product_108 ?_
  refine lv_ldc2 hx hb hE.2.2.2.1 (hE.2.2.2.2 _ mw_258) dX5_product_111 ?_
  refine lv_lmul hx hb dX5_product_114 ?_
  refine lv_ldc2 hx hb hE.2.2.2.1 (hE.2.2.2.2 _ mw_258) dX5_product_115 ?_
  refine lv_lmul hx hb dX5_product_118 ?_
  refine lv_iload_n hx hb dX5_product_119 rfl (lv_at hl 5 rfl) ?_
  refine x_callSl hE hK hI (c_X5_partOf_1 l G o _ _ (((ent (solX X Y (X 8 0) (X 8 1) (X 8 2) (X 8 3)) (solY X Y (X 8 0) (X 8 1) (X 8 2) (X 8 3)) 2) + (((solY X Y (X 8 0) (X 8 1) (X 8 2) (X 8 3)) 283 2) * (((solX X Y (X 8 0) (X 8 1) (X 8 2) (X 8 3)) 6 2).toInt64))) * ((10 - ((solX X Y (X 8 0) (X 8 1) (X 8 2) (X 8 3)) 8 2)).toInt64)) ((((solY X Y (X 8 0) (X 8 1) (X 8 2) (X 8 3)) 282 2) * 10) * 10) hg) mf_X5_partOf mw_244 rfl hl.1 rfl (Nat.le_of_ble_eq_true rfl) ⟨(Nat.le_of_ble_eq_true rfl), (Nat.le_of_ble_eq_true rfl)⟩ ⟨Nat.zero_le _, Nat.zero_le _⟩ dX5_product_120 (fun H locs hI => ?_)
  exact x_lret hE hr hlocks hI rfl rfl rfl dX5_product_123
set_option maxRecDepth 100000 in
set_option maxHeartbeats 4000000 in
theorem c_X5_product_y1_3 (l : Launch) (G : GG) (o : Nat) (X : SX) (Y : SY) (h : ¬ ((solX X Y (X 8 0) (X 8 1) (X 8 2) (X 8 3)) 282 3 = 0)) (hg : 1 ≤ gcdL 100 (((ent (solX X Y (X 8 0) (X 8 1) (X 8 2) (X 8 3)) (solY X Y (X 8 0) (X 8 1) (X 8 2) (X 8 3)) 3) + (((solY X Y (X 8 0) (X 8 1) (X 8 2) (X 8 3)) 283 3) * ((solX X Y (X 8 0) (X 8 1) (X 8 2) (X 8 3)) 7 3).toInt64)) * (10 - ((solX X Y (X 8 0) (X 8 1) (X 8 2) (X 8 3)) 8 3)).toInt64) ((((solY X Y (X 8 0) (X 8 1) (X 8 2) (X 8 3)) 282 2) * 10) * 10)) : Ct l yX5_product cX5_product 8 (some .long) 3 76 G o [.ref (o + 0), .int 3, .int 1] X Y (some (.long (((((solY X Y (X 8 0) (X 8 1) (X 8 2) (X 8 3)) 282 2) * 10) * 10) / (gcdL 100 (((ent (solX X Y (X 8 0) (X 8 1) (X 8 2) (X 8 3)) (solY X Y (X 8 0) (X 8 1) (X 8 2) (X 8 3)) 3) + (((solY X Y (X 8 0) (X 8 1) (X 8 2) (X 8 3)) 283 3) * (((solX X Y (X 8 0) (X 8 1) (X 8 2) (X 8 3)) 7 3).toInt64))) * ((10 - ((solX X Y (X 8 0) (X 8 1) (X 8 2) (X 8 3)) 8 3)).toInt64)) ((((solY X Y (X 8 0) (X 8 1) (X 8 2) (X 8 3)) 282 2) * 10) * 10))))) (solX X Y (X 8 0) (X 8 1) (X 8 2) (X 8 3)) (solY X Y (X 8 0) (X 8 1) (X 8 2) (X 8 3)) := by
  refine Ct.mk (by decide +kernel) (Nat.le_of_ble_eq_true rfl) rfl ?_
  intro p9 e9 s9 m9 args9 below9 meth9 c9 hE hr hlocks hK hI ls hl
  have hx := hE.1
  have hb := hE.2.1
  have hl : lv_has ls 8 [(0, .ref (o + 0)), (1, .int 3), (2, .int 1)] := hl
  refine lv_iload_n hx hb dX5_product_0 rfl (lv_at hl 1 rfl) ?_
  refine x_callSi hE hK hI (c_X5_isSize l G o _ _ 3 ) mf_X5_isSize mw_189 rfl hl.1 rfl (Nat.le_of_ble_eq_true rfl) ⟨(Nat.le_of_ble_eq_true rfl), (Nat.le_of_ble_eq_true rfl)⟩ ⟨Nat.zero_le _, Nat.zero_le _⟩ dX5_product_1 (fun H locs hI => ?_)
  refine lv_topi (fun z1 ez1 => ?_)
  obtain rfl : 1 = z1 := (ez1.trans (bI_t (by decide))).symm
  refine lv_if_ne (tgt := 11) hx hb dX5_product_4 (by decide) (fun _ => ?_) (fun q => absurd q (by decide))
  refine lv_iload_n hx hb dX5_product_11 rfl (lv_at hl 2 rfl) ?_
  refine x_callSi hE hK hI (c_X5_isZeroOrOne l G o _ _ 1 ) mf_X5_isZeroOrOne mw_227 rfl hl.1 rfl (Nat.le_of_ble_eq_true rfl) ⟨(Nat.le_of_ble_eq_true rfl), (Nat.le_of_ble_eq_true rfl)⟩ ⟨Nat.zero_le _, Nat.zero_le _⟩ dX5_product_12 (fun H locs hI => ?_)
  refine lv_topi (fun z2 ez2 => ?_)
  obtain rfl : 1 = z2 := (ez2.trans (bI_t (by decide))).symm
  refine lv_if_ne (tgt := 22) hx hb dX5_product_15 (by decide) (fun _ => ?_) (fun q => absurd q (by decide))
  refine lv_aload_n hx hb dX5_product_22 rfl (lv_at hl 0 rfl) ?_
  refine x_get (k := 0) hE hK hI (by decide) inG5 (e_0 G o _ _) rfl 0 (by decide) mw_172 rfl dX5_product_23 ?_
  refine x_get (k := 1) hE hK hI (by decide) inG1 (e_1 G o _ _) rfl 0 (by decide) mw_139 rfl dX5_product_26 ?_
  refine lv_astore_n (lv' := [(3, .ref (o + 2)), (0, .ref (o + 0)), (1, .int 3), (2, .int 1)]) hx hb dX5_product_29 rfl hl (by decide) rfl (fun ls hl => ?_)
  refine lv_aload_n hx hb dX5_product_30 rfl (lv_at hl 1 rfl) ?_
  refine x_get (k := 0) hE hK hI (by decide) inG5 (e_0 G o _ _) rfl 3 (by decide) mw_175 rfl dX5_product_31 ?_
  refine lv_aload_n hx hb dX5_product_34 rfl (lv_at hl 0 rfl) ?_
  refine lv_aload_n hx hb dX5_product_35 rfl (lv_at hl 0 rfl) ?_
  refine x_get (k := 2) hE hK hI (by decide) inG2 (e_2 G o _ _) rfl 1 (by decide) mw_37 rfl dX5_product_36 ?_
  refine x_callVv (k := 282) hE hK hI (c_X4_solve_8 l G o _ _ (X 8 0) (X 8 1) (X 8 2) (X 8 3) rfl rfl rfl rfl) mf_X4_solve mw_231 (by decide) ((e_282 G o) _ _) rfl rfl hl.1 rfl (Nat.le_of_ble_eq_true rfl) ⟨(Nat.le_of_ble_eq_true rfl), (Nat.le_of_ble_eq_true rfl)⟩ ⟨Nat.zero_le _, Nat.zero_le _⟩ dX5_product_39 (fun H locs hI => ?_)
  refine lv_aload_n hx hb dX5_product_42 rfl (lv_at hl 1 rfl) ?_
  refine x_get (k := 0) hE hK hI (by decide) inG5 (e_0 G o _ _) rfl 3 (by decide) mw_175 rfl dX5_product_43 ?_
  refine x_get (k := 282) hE hK hI (by decide) inG4 (e_282 G o _ _) rfl 3 (by decide) mw_160 rfl dX5_product_46 ?_
  refine lv_if_ne (tgt := 56) hx hb dX5_product_49 (by decide) (fun _ => ?_) (fun q => absurd q h)
  refine lv_aload_n hx hb dX5_product_56 rfl (lv_at hl 1 rfl) ?_
  refine x_get (k := 0) hE hK hI (by decide) inG5 (e_0 G o _ _) rfl 3 (by decide) mw_175 rfl dX5_product_57 ?_
  refine lv_aload_n hx hb dX5_product_60 rfl (lv_at hl 0 rfl) ?_
  refine lv_iload_n hx hb dX5_product_61 rfl (lv_at hl 2 rfl) ?_
  refine x_callVl (k := 282) hE hK hI (c_X4_brokenInto_3 l G o _ _  ) mf_X4_brokenInto mw_257 (by decide) ((e_282 G o) _ _) rfl rfl hl.1 rfl (Nat.le_of_ble_eq_true rfl) ⟨(Nat.le_of_ble_eq_true rfl), (Nat.le_of_ble_eq_true rfl)⟩ ⟨Nat.zero_le _, Nat.zero_le _⟩ dX5_product_62 (fun H locs hI => ?_)
  refine lv_aload_n hx hb dX5_product_65 rfl (lv_at hl 1 rfl) ?_
  refine x_get (k := 0) hE hK hI (by decide) inG5 (e_0 G o _ _) rfl 3 (by decide) mw_175 rfl dX5_product_66 ?_
  refine x_get (k := 282) hE hK hI (by decide) inG4 (e_282 G o _ _) rfl 0 (by decide) mw_155 rfl dX5_product_69 ?_
  refine lv_iload_n hx hb dX5_product_72 rfl (lv_at hl 2 rfl) ?_
  refine x_lald (k := 283) (j := 3) hE hK hI (by decide) (e_283 G o) (by decide) (by decide) rfl dX5_product_73 ?_
  refine lv_aload_n hx hb dX5_product_74 rfl (lv_at hl 0 rfl) ?_
  refine x_get (k := 2) hE hK hI (by decide) inG2 (e_2 G o _ _) rfl 0 (by decide) mw_33 rfl dX5_product_75 ?_
  refine lv_iload_n hx hb dX5_product_78 rfl (lv_at hl 2 rfl) ?_
  refine x_aald (k := 3) (j := 3) (t0 := 5) (q := o + 7) hE hK hI (by decide) (e_3 G o) rfl rfl (by decide) (by decide) rfl rfl dX5_product_79 ?_
  refine lv_iload_n hx hb dX5_product_80 rfl (lv_at hl 2 rfl) ?_
  refine x_iald (k := 7) (j := 3) hE hK hI (by decide) (e_7 G o) (by decide) (by decide) rfl dX5_product_81 ?_
  refine lv_i2l hx hb dX5_product_82 rfl ?_
  refine lv_lmul hx hb dX5_product_83 ?_
  refine lv_ladd hx hb dX5_product_84 ?_
  refine lv_lstore (lv' := [(4, .long ((ent (solX X Y (X 8 0) (X 8 1) (X 8 2) (X 8 3)) (solY X Y (X 8 0) (X 8 1) (X 8 2) (X 8 3)) 3) + (((solY X Y (X 8 0) (X 8 1) (X 8 2) (X 8 3)) 283 3) * (((solX X Y (X 8 0) (X 8 1) (X 8 2) (X 8 3)) 7 3).toInt64)))), (3, .ref (o + 2)), (0, .ref (o + 0)), (1, .int 3), (2, .int 1)]) hx hb dX5_product_85 hl (by decide) rfl (fun ls hl => ?_)
  refine lv_bipush (v := 10) hx hb dX5_product_87 (by decide) ?_
  refine lv_aload_n hx hb dX5_product_89 rfl (lv_at hl 1 rfl) ?_
  refine x_get (k := 2) hE hK hI (by decide) inG2 (e_2 G o _ _) rfl 1 (by decide) mw_37 rfl dX5_product_90 ?_
  refine lv_iload_n hx hb dX5_product_93 rfl (lv_at hl 3 rfl) ?_
  refine x_iald (k := 8) (j := 3) hE hK hI (by decide) (e_8 G o) (by decide) (by decide) rfl dX5_product_94 ?_
  refine lv_isub hx hb dX5_product_95 ?_
  refine lv_i2l hx hb dX5_product_96 rfl ?_
  refine lv_lstore (lv' := [(6, .long ((10 - ((solX X Y (X 8 0) (X 8 1) (X 8 2) (X 8 3)) 8 3)).toInt64)), (4, .long ((ent (solX X Y (X 8 0) (X 8 1) (X 8 2) (X 8 3)) (solY X Y (X 8 0) (X 8 1) (X 8 2) (X 8 3)) 3) + (((solY X Y (X 8 0) (X 8 1) (X 8 2) (X 8 3)) 283 3) * (((solX X Y (X 8 0) (X 8 1) (X 8 2) (X 8 3)) 7 3).toInt64)))), (3, .ref (o + 2)), (0, .ref (o + 0)), (1, .int 3), (2, .int 1)]) hx hb dX5_product_97 hl (by decide) rfl (fun ls hl => ?_)
  refine lv_lload hx hb dX5_product_99 (lv_at hl 1 rfl) ?_
  refine lv_lload hx hb dX5_product_101 (lv_at hl 0 rfl) ?_
  refine lv_lmul hx hb dX5_product_103 ?_
  refine lv_aload_n hx hb dX5_product_104 rfl (lv_at hl 3 rfl) ?_
  refine x_get (k := 0) hE hK hI (by decide) inG5 (e_0 G o _ _) rfl 3 (by decide) mw_175 rfl dX5_product_105 ?_
  refine x_get (k := 282) hE hK hI (by decide) inG4 (e_282 G o _ _) rfl 2 (by decide) mw_158 rfl dX5_product_108 ?_
  refine lv_ldc2 hx hb hE.2.2.2.1 (hE.2.2.2.2 _ mw_258) dX5_product_111 ?_
  refine lv_lmul hx hb dX5_product_114 ?_
  refine lv_ldc2 hx hb hE.2.2.2.1 (hE.2.2.2.2 _ mw_258) dX5_product_115 ?_
  refine lv_lmul hx hb dX5_product_118 ?_
  refine lv_iload_n hx hb dX5_product_119 rfl (lv_at hl 5 rfl) ?_
  refine x_callSl hE hK hI (c_X5_partOf_1 l G o _ _ (((ent (solX X Y (X 8 0) (X 8 1) (X 8 2) (X 8 3)) (solY X Y (X 8 0) (X 8 1) (X 8 2) (X 8 3)) 3) + (((solY X Y (X 8 0) (X 8 1) (X 8 2) (X 8 3)) 283 3) * (((solX X Y (X 8 0) (X 8 1) (X 8 2) (X 8 3)) 7 3).toInt64))) * ((10 - ((solX X Y (X 8 0) (X 8 1) (X 8 2) (X 8 3)) 8 3)).toInt64)) ((((solY X Y (X 8 0) (X 8 1) (X 8 2) (X 8 3)) 282 2) * 10) * 10) hg) mf_X5_partOf mw_244 rfl hl.1 rfl (Nat.le_of_ble_eq_true rfl) ⟨(Nat.le_of_ble_eq_true rfl), (Nat.le_of_ble_eq_true rfl)⟩ ⟨Nat.zero_le _, Nat.zero_le _⟩ dX5_product_120 (fun H locs hI => ?_)
  exact x_lret hE hr hlocks hI rfl rfl rfl dX5_product_123
set_option maxRecDepth 100000 in
set_option maxHeartbeats 4000000 in
theorem c_X5_circulatingLoad_b (l : Launch) (G : GG) (o : Nat) (X : SX) (Y : SY) (v : Int32) (h : ¬ (v = 0 ∨ v = 1)) : Ct l yX5_circulatingLoad cX5_circulatingLoad 4 (some .long) 1 20 G o [.ref (o + 0), .int v] X Y (some (.long (-3))) X Y := by
  refine Ct.mk (by decide +kernel) (Nat.le_of_ble_eq_true rfl) rfl ?_
  intro p9 e9 s9 m9 args9 below9 meth9 c9 hE hr hlocks hK hI ls hl
  have hx := hE.1
  have hb := hE.2.1
  have hl : lv_has ls 4 [(0, .ref (o + 0)), (1, .int v)] := hl
  refine lv_iload_n hx hb dX5_circulatingLoad_0 rfl (lv_at hl 1 rfl) ?_
  refine x_callSi hE hK hI (c_X5_isZeroOrOne l G o _ _ v ) mf_X5_isZeroOrOne mw_227 rfl hl.1 rfl (Nat.le_of_ble_eq_true rfl) ⟨(Nat.le_of_ble_eq_true rfl), (Nat.le_of_ble_eq_true rfl)⟩ ⟨Nat.zero_le _, Nat.zero_le _⟩ dX5_circulatingLoad_1 (fun H locs hI => ?_)
  refine lv_topi (fun z1 ez1 => ?_)
  obtain rfl : 0 = z1 := (ez1.trans (bI_f h)).symm
  refine lv_if_ne (tgt := 11) hx hb dX5_circulatingLoad_4 (by decide) (fun q => absurd (by decide) q) (fun _ => ?_)
  refine lv_ldc2 hx hb hE.2.2.2.1 (hE.2.2.2.2 _ mw_230) dX5_circulatingLoad_7 ?_
  exact x_lret hE hr hlocks hI rfl rfl rfl dX5_circulatingLoad_10
set_option maxRecDepth 100000 in
set_option maxHeartbeats 4000000 in
theorem c_X5_circulatingLoad_n0 (l : Launch) (G : GG) (o : Nat) (X : SX) (Y : SY) (h : (solX X Y (X 8 0) (X 8 1) (X 8 2) (X 8 3)) 282 3 = 0) : Ct l yX5_circulatingLoad cX5_circulatingLoad 4 (some .long) 3 76 G o [.ref (o + 0), .int 0] X Y (some (.long (-5))) (solX X Y (X 8 0) (X 8 1) (X 8 2) (X 8 3)) (solY X Y (X 8 0) (X 8 1) (X 8 2) (X 8 3)) := by
  refine Ct.mk (by decide +kernel) (Nat.le_of_ble_eq_true rfl) rfl ?_
  intro p9 e9 s9 m9 args9 below9 meth9 c9 hE hr hlocks hK hI ls hl
  have hx := hE.1
  have hb := hE.2.1
  have hl : lv_has ls 4 [(0, .ref (o + 0)), (1, .int 0)] := hl
  refine lv_iload_n hx hb dX5_circulatingLoad_0 rfl (lv_at hl 1 rfl) ?_
  refine x_callSi hE hK hI (c_X5_isZeroOrOne l G o _ _ 0 ) mf_X5_isZeroOrOne mw_227 rfl hl.1 rfl (Nat.le_of_ble_eq_true rfl) ⟨(Nat.le_of_ble_eq_true rfl), (Nat.le_of_ble_eq_true rfl)⟩ ⟨Nat.zero_le _, Nat.zero_le _⟩ dX5_circulatingLoad_1 (fun H locs hI => ?_)
  refine lv_topi (fun z1 ez1 => ?_)
  obtain rfl : 1 = z1 := (ez1.trans (bI_t (by decide))).symm
  refine lv_if_ne (tgt := 11) hx hb dX5_circulatingLoad_4 (by decide) (fun _ => ?_) (fun q => absurd q (by decide))
  refine lv_aload_n hx hb dX5_circulatingLoad_11 rfl (lv_at hl 0 rfl) ?_
  refine x_get (k := 0) hE hK hI (by decide) inG5 (e_0 G o _ _) rfl 3 (by decide) mw_175 rfl dX5_circulatingLoad_12 ?_
  refine lv_aload_n hx hb dX5_circulatingLoad_15 rfl (lv_at hl 0 rfl) ?_
  refine x_get (k := 0) hE hK hI (by decide) inG5 (e_0 G o _ _) rfl 0 (by decide) mw_172 rfl dX5_circulatingLoad_16 ?_
  refine x_get (k := 1) hE hK hI (by decide) inG1 (e_1 G o _ _) rfl 0 (by decide) mw_139 rfl dX5_circulatingLoad_19 ?_
  refine lv_aload_n hx hb dX5_circulatingLoad_22 rfl (lv_at hl 0 rfl) ?_
  refine x_get (k := 0) hE hK hI (by decide) inG5 (e_0 G o _ _) rfl 0 (by decide) mw_172 rfl dX5_circulatingLoad_23 ?_
  refine x_get (k := 1) hE hK hI (by decide) inG1 (e_1 G o _ _) rfl 0 (by decide) mw_139 rfl dX5_circulatingLoad_26 ?_
  refine x_get (k := 2) hE hK hI (by decide) inG2 (e_2 G o _ _) rfl 1 (by decide) mw_37 rfl dX5_circulatingLoad_29 ?_
  refine x_callVv (k := 282) hE hK hI (c_X4_solve_8 l G o _ _ (X 8 0) (X 8 1) (X 8 2) (X 8 3) rfl rfl rfl rfl) mf_X4_solve mw_231 (by decide) ((e_282 G o) _ _) rfl rfl hl.1 rfl (Nat.le_of_ble_eq_true rfl) ⟨(Nat.le_of_ble_eq_true rfl), (Nat.le_of_ble_eq_true rfl)⟩ ⟨Nat.zero_le _, Nat.zero_le _⟩ dX5_circulatingLoad_32 (fun H locs hI => ?_)
  refine lv_aload_n hx hb dX5_circulatingLoad_35 rfl (lv_at hl 0 rfl) ?_
  refine x_get (k := 0) hE hK hI (by decide) inG5 (e_0 G o _ _) rfl 3 (by decide) mw_175 rfl dX5_circulatingLoad_36 ?_
  refine x_get (k := 282) hE hK hI (by decide) inG4 (e_282 G o _ _) rfl 3 (by decide) mw_160 rfl dX5_circulatingLoad_39 ?_
  refine lv_if_ne (tgt := 49) hx hb dX5_circulatingLoad_42 (by decide) (fun q => absurd h q) (fun _ => ?_)
  refine lv_ldc2 hx hb hE.2.2.2.1 (hE.2.2.2.2 _ mw_243) dX5_circulatingLoad_45 ?_
  exact x_lret hE hr hlocks hI rfl rfl rfl dX5_circulatingLoad_48
set_option maxRecDepth 100000 in
set_option maxHeartbeats 4000000 in
theorem c_X5_circulatingLoad_n1 (l : Launch) (G : GG) (o : Nat) (X : SX) (Y : SY) (h : (solX X Y (X 8 0) (X 8 1) (X 8 2) (X 8 3)) 282 3 = 0) : Ct l yX5_circulatingLoad cX5_circulatingLoad 4 (some .long) 3 76 G o [.ref (o + 0), .int 1] X Y (some (.long (-5))) (solX X Y (X 8 0) (X 8 1) (X 8 2) (X 8 3)) (solY X Y (X 8 0) (X 8 1) (X 8 2) (X 8 3)) := by
  refine Ct.mk (by decide +kernel) (Nat.le_of_ble_eq_true rfl) rfl ?_
  intro p9 e9 s9 m9 args9 below9 meth9 c9 hE hr hlocks hK hI ls hl
  have hx := hE.1
  have hb := hE.2.1
  have hl : lv_has ls 4 [(0, .ref (o + 0)), (1, .int 1)] := hl
  refine lv_iload_n hx hb dX5_circulatingLoad_0 rfl (lv_at hl 1 rfl) ?_
  refine x_callSi hE hK hI (c_X5_isZeroOrOne l G o _ _ 1 ) mf_X5_isZeroOrOne mw_227 rfl hl.1 rfl (Nat.le_of_ble_eq_true rfl) ⟨(Nat.le_of_ble_eq_true rfl), (Nat.le_of_ble_eq_true rfl)⟩ ⟨Nat.zero_le _, Nat.zero_le _⟩ dX5_circulatingLoad_1 (fun H locs hI => ?_)
  refine lv_topi (fun z1 ez1 => ?_)
  obtain rfl : 1 = z1 := (ez1.trans (bI_t (by decide))).symm
  refine lv_if_ne (tgt := 11) hx hb dX5_circulatingLoad_4 (by decide) (fun _ => ?_) (fun q => absurd q (by decide))
  refine lv_aload_n hx hb dX5_circulatingLoad_11 rfl (lv_at hl 0 rfl) ?_
  refine x_get (k := 0) hE hK hI (by decide) inG5 (e_0 G o _ _) rfl 3 (by decide) mw_175 rfl dX5_circulatingLoad_12 ?_
  refine lv_aload_n hx hb dX5_circulatingLoad_15 rfl (lv_at hl 0 rfl) ?_
  refine x_get (k := 0) hE hK hI (by decide) inG5 (e_0 G o _ _) rfl 0 (by decide) mw_172 rfl dX5_circulatingLoad_16 ?_
  refine x_get (k := 1) hE hK hI (by decide) inG1 (e_1 G o _ _) rfl 0 (by decide) mw_139 rfl dX5_circulatingLoad_19 ?_
  refine lv_aload_n hx hb dX5_circulatingLoad_22 rfl (lv_at hl 0 rfl) ?_
  refine x_get (k := 0) hE hK hI (by decide) inG5 (e_0 G o _ _) rfl 0 (by decide) mw_172 rfl dX5_circulatingLoad_23 ?_
  refine x_get (k := 1) hE hK hI (by decide) inG1 (e_1 G o _ _) rfl 0 (by decide) mw_139 rfl dX5_circulatingLoad_26 ?_
  refine x_get (k := 2) hE hK hI (by decide) inG2 (e_2 G o _ _) rfl 1 (by decide) mw_37 rfl dX5_circulatingLoad_29 ?_
  refine x_callVv (k := 282) hE hK hI (c_X4_solve_8 l G o _ _ (X 8 0) (X 8 1) (X 8 2) (X 8 3) rfl rfl rfl rfl) mf_X4_solve mw_231 (by decide) ((e_282 G o) _ _) rfl rfl hl.1 rfl (Nat.le_of_ble_eq_true rfl) ⟨(Nat.le_of_ble_eq_true rfl), (Nat.le_of_ble_eq_true rfl)⟩ ⟨Nat.zero_le _, Nat.zero_le _⟩ dX5_circulatingLoad_32 (fun H locs hI => ?_)
  refine lv_aload_n hx hb dX5_circulatingLoad_35 rfl (lv_at hl 0 rfl) ?_
  refine x_get (k := 0) hE hK hI (by decide) inG5 (e_0 G o _ _) rfl 3 (by decide) mw_175 rfl dX5_circulatingLoad_36 ?_
  refine x_get (k := 282) hE hK hI (by decide) inG4 (e_282 G o _ _) rfl 3 (by decide) mw_160 rfl dX5_circulatingLoad_39 ?_
  refine lv_if_ne (tgt := 49) hx hb dX5_circulatingLoad_42 (by decide) (fun q => absurd h q) (fun _ => ?_)
  refine lv_ldc2 hx hb hE.2.2.2.1 (hE.2.2.2.2 _ mw_243) dX5_circulatingLoad_45 ?_
  exact x_lret hE hr hlocks hI rfl rfl rfl dX5_circulatingLoad_48
set_option maxRecDepth 100000 in
set_option maxHeartbeats 4000000 in
theorem c_X5_power_b (l : Launch) (G : GG) (o : Nat) (X : SX) (Y : SY) (v : Int32) (h : ¬ (v = 0 ∨ v = 1)) : Ct l yX5_power cX5_power 2 (some .long) 1 20 G o [.ref (o + 0), .int v] X Y (some (.long (-3))) X Y := by
  refine Ct.mk (by decide +kernel) (Nat.le_of_ble_eq_true rfl) rfl ?_
  intro p9 e9 s9 m9 args9 below9 meth9 c9 hE hr hlocks hK hI ls hl
  have hx := hE.1
  have hb := hE.2.1
  have hl : lv_has ls 2 [(0, .ref (o + 0)), (1, .int v)] := hl
  refine lv_iload_n hx hb dX5_power_0 rfl (lv_at hl 1 rfl) ?_
  refine x_callSi hE hK hI (c_X5_isZeroOrOne l G o _ _ v ) mf_X5_isZeroOrOne mw_227 rfl hl.1 rfl (Nat.le_of_ble_eq_true rfl) ⟨(Nat.le_of_ble_eq_true rfl), (Nat.le_of_ble_eq_true rfl)⟩ ⟨Nat.zero_le _, Nat.zero_le _⟩ dX5_power_1 (fun H locs hI => ?_)
  refine lv_topi (fun z1 ez1 => ?_)
  obtain rfl : 0 = z1 := (ez1.trans (bI_f h)).symm
  refine lv_if_ne (tgt := 11) hx hb dX5_power_4 (by decide) (fun q => absurd (by decide) q) (fun _ => ?_)
  refine lv_ldc2 hx hb hE.2.2.2.1 (hE.2.2.2.2 _ mw_230) dX5_power_7 ?_
  exact x_lret hE hr hlocks hI rfl rfl rfl dX5_power_10
set_option maxRecDepth 100000 in
set_option maxHeartbeats 4000000 in
theorem c_X5_power_n0 (l : Launch) (G : GG) (o : Nat) (X : SX) (Y : SY) (h : (solX X Y (X 8 0) (X 8 1) (X 8 2) (X 8 3)) 282 3 = 0) : Ct l yX5_power cX5_power 2 (some .long) 3 76 G o [.ref (o + 0), .int 0] X Y (some (.long (-5))) (solX X Y (X 8 0) (X 8 1) (X 8 2) (X 8 3)) (solY X Y (X 8 0) (X 8 1) (X 8 2) (X 8 3)) := by
  refine Ct.mk (by decide +kernel) (Nat.le_of_ble_eq_true rfl) rfl ?_
  intro p9 e9 s9 m9 args9 below9 meth9 c9 hE hr hlocks hK hI ls hl
  have hx := hE.1
  have hb := hE.2.1
  have hl : lv_has ls 2 [(0, .ref (o + 0)), (1, .int 0)] := hl
  refine lv_iload_n hx hb dX5_power_0 rfl (lv_at hl 1 rfl) ?_
  refine x_callSi hE hK hI (c_X5_isZeroOrOne l G o _ _ 0 ) mf_X5_isZeroOrOne mw_227 rfl hl.1 rfl (Nat.le_of_ble_eq_true rfl) ⟨(Nat.le_of_ble_eq_true rfl), (Nat.le_of_ble_eq_true rfl)⟩ ⟨Nat.zero_le _, Nat.zero_le _⟩ dX5_power_1 (fun H locs hI => ?_)
  refine lv_topi (fun z1 ez1 => ?_)
  obtain rfl : 1 = z1 := (ez1.trans (bI_t (by decide))).symm
  refine lv_if_ne (tgt := 11) hx hb dX5_power_4 (by decide) (fun _ => ?_) (fun q => absurd q (by decide))
  refine lv_aload_n hx hb dX5_power_11 rfl (lv_at hl 0 rfl) ?_
  refine x_get (k := 0) hE hK hI (by decide) inG5 (e_0 G o _ _) rfl 3 (by decide) mw_175 rfl dX5_power_12 ?_
  refine lv_aload_n hx hb dX5_power_15 rfl (lv_at hl 0 rfl) ?_
  refine x_get (k := 0) hE hK hI (by decide) inG5 (e_0 G o _ _) rfl 0 (by decide) mw_172 rfl dX5_power_16 ?_
  refine x_get (k := 1) hE hK hI (by decide) inG1 (e_1 G o _ _) rfl 0 (by decide) mw_139 rfl dX5_power_19 ?_
  refine lv_aload_n hx hb dX5_power_22 rfl (lv_at hl 0 rfl) ?_
  refine x_get (k := 0) hE hK hI (by decide) inG5 (e_0 G o _ _) rfl 0 (by decide) mw_172 rfl dX5_power_23 ?_
  refine x_get (k := 1) hE hK hI (by decide) inG1 (e_1 G o _ _) rfl 0 (by decide) mw_139 rfl dX5_power_26 ?_
  refine x_get (k := 2) hE hK hI (by decide) inG2 (e_2 G o _ _) rfl 1 (by decide) mw_37 rfl dX5_power_29 ?_
  refine x_callVv (k := 282) hE hK hI (c_X4_solve_8 l G o _ _ (X 8 0) (X 8 1) (X 8 2) (X 8 3) rfl rfl rfl rfl) mf_X4_solve mw_231 (by decide) ((e_282 G o) _ _) rfl rfl hl.1 rfl (Nat.le_of_ble_eq_true rfl) ⟨(Nat.le_of_ble_eq_true rfl), (Nat.le_of_ble_eq_true rfl)⟩ ⟨Nat.zero_le _, Nat.zero_le _⟩ dX5_power_32 (fun H locs hI => ?_)
  refine lv_aload_n hx hb dX5_power_35 rfl (lv_at hl 0 rfl) ?_
  refine x_get (k := 0) hE hK hI (by decide) inG5 (e_0 G o _ _) rfl 3 (by decide) mw_175 rfl dX5_power_36 ?_
  refine x_get (k := 282) hE hK hI (by decide) inG4 (e_282 G o _ _) rfl 3 (by decide) mw_160 rfl dX5_power_39 ?_
  refine lv_if_ne (tgt := 49) hx hb dX5_power_42 (by decide) (fun q => absurd h q) (fun _ => ?_)
  refine lv_ldc2 hx hb hE.2.2.2.1 (hE.2.2.2.2 _ mw_243) dX5_power_45 ?_
  exact x_lret hE hr hlocks hI rfl rfl rfl dX5_power_48
set_option maxRecDepth 100000 in
set_option maxHeartbeats 4000000 in
theorem c_X5_power_n1 (l : Launch) (G : GG) (o : Nat) (X : SX) (Y : SY) (h : (solX X Y (X 8 0) (X 8 1) (X 8 2) (X 8 3)) 282 3 = 0) : Ct l yX5_power cX5_power 2 (some .long) 3 76 G o [.ref (o + 0), .int 1] X Y (some (.long (-5))) (solX X Y (X 8 0) (X 8 1) (X 8 2) (X 8 3)) (solY X Y (X 8 0) (X 8 1) (X 8 2) (X 8 3)) := by
  refine Ct.mk (by decide +kernel) (Nat.le_of_ble_eq_true rfl) rfl ?_
  intro p9 e9 s9 m9 args9 below9 meth9 c9 hE hr hlocks hK hI ls hl
  have hx := hE.1
  have hb := hE.2.1
  have hl : lv_has ls 2 [(0, .ref (o + 0)), (1, .int 1)] := hl
  refine lv_iload_n hx hb dX5_power_0 rfl (lv_at hl 1 rfl) ?_
  refine x_callSi hE hK hI (c_X5_isZeroOrOne l G o _ _ 1 ) mf_X5_isZeroOrOne mw_227 rfl hl.1 rfl (Nat.le_of_ble_eq_true rfl) ⟨(Nat.le_of_ble_eq_true rfl), (Nat.le_of_ble_eq_true rfl)⟩ ⟨Nat.zero_le _, Nat.zero_le _⟩ dX5_power_1 (fun H locs hI => ?_)
  refine lv_topi (fun z1 ez1 => ?_)
  obtain rfl : 1 = z1 := (ez1.trans (bI_t (by decide))).symm
  refine lv_if_ne (tgt := 11) hx hb dX5_power_4 (by decide) (fun _ => ?_) (fun q => absurd q (by decide))
  refine lv_aload_n hx hb dX5_power_11 rfl (lv_at hl 0 rfl) ?_
  refine x_get (k := 0) hE hK hI (by decide) inG5 (e_0 G o _ _) rfl 3 (by decide) mw_175 rfl dX5_power_12 ?_
  refine lv_aload_n hx hb dX5_power_15 rfl (lv_at hl 0 rfl) ?_
  refine x_get (k := 0) hE hK hI (by decide) inG5 (e_0 G o _ _) rfl 0 (by decide) mw_172 rfl dX5_power_16 ?_
  refine x_get (k := 1) hE hK hI (by decide) inG1 (e_1 G o _ _) rfl 0 (by decide) mw_139 rfl dX5_power_19 ?_
  refine lv_aload_n hx hb dX5_power_22 rfl (lv_at hl 0 rfl) ?_
  refine x_get (k := 0) hE hK hI (by decide) inG5 (e_0 G o _ _) rfl 0 (by decide) mw_172 rfl dX5_power_23 ?_
  refine x_get (k := 1) hE hK hI (by decide) inG1 (e_1 G o _ _) rfl 0 (by decide) mw_139 rfl dX5_power_26 ?_
  refine x_get (k := 2) hE hK hI (by decide) inG2 (e_2 G o _ _) rfl 1 (by decide) mw_37 rfl dX5_power_29 ?_
  refine x_callVv (k := 282) hE hK hI (c_X4_solve_8 l G o _ _ (X 8 0) (X 8 1) (X 8 2) (X 8 3) rfl rfl rfl rfl) mf_X4_solve mw_231 (by decide) ((e_282 G o) _ _) rfl rfl hl.1 rfl (Nat.le_of_ble_eq_true rfl) ⟨(Nat.le_of_ble_eq_true rfl), (Nat.le_of_ble_eq_true rfl)⟩ ⟨Nat.zero_le _, Nat.zero_le _⟩ dX5_power_32 (fun H locs hI => ?_)
  refine lv_aload_n hx hb dX5_power_35 rfl (lv_at hl 0 rfl) ?_
  refine x_get (k := 0) hE hK hI (by decide) inG5 (e_0 G o _ _) rfl 3 (by decide) mw_175 rfl dX5_power_36 ?_
  refine x_get (k := 282) hE hK hI (by decide) inG4 (e_282 G o _ _) rfl 3 (by decide) mw_160 rfl dX5_power_39 ?_
  refine lv_if_ne (tgt := 49) hx hb dX5_power_42 (by decide) (fun q => absurd h q) (fun _ => ?_)
  refine lv_ldc2 hx hb hE.2.2.2.1 (hE.2.2.2.2 _ mw_243) dX5_power_45 ?_
  exact x_lret hE hr hlocks hI rfl rfl rfl dX5_power_48
set_option maxRecDepth 100000 in
set_option maxHeartbeats 4000000 in
theorem c_X5_circulatingLoad_z0 (l : Launch) (G : GG) (o : Nat) (X : SX) (Y : SY) (h : ¬ ((solX X Y (X 8 0) (X 8 1) (X 8 2) (X 8 3)) 282 3 = 0)) (hz : (sum4 ((solX X Y (X 8 0) (X 8 1) (X 8 2) (X 8 3)) 10)).toInt64 * ((solY X Y (X 8 0) (X 8 1) (X 8 2) (X 8 3)) 282 2) = 0) : Ct l yX5_circulatingLoad cX5_circulatingLoad 4 (some .long) 3 76 G o [.ref (o + 0), .int 0] X Y (some (.long (-7))) (solX X Y (X 8 0) (X 8 1) (X 8 2) (X 8 3)) (solY X Y (X 8 0) (X 8 1) (X 8 2) (X 8 3)) := by
  refine Ct.mk (by decide +kernel) (Nat.le_of_ble_eq_true rfl) rfl ?_
  intro p9 e9 s9 m9 args9 below9 meth9 c9 hE hr hlocks hK hI ls hl
  have hx := hE.1
  have hb := hE.2.1
  have hl : lv_has ls 4 [(0, .ref (o + 0)), (1, .int 0)] := hl
  refine lv_iload_n hx hb dX5_circulatingLoad_0 rfl (lv_at hl 1 rfl) ?_
  refine x_callSi hE hK hI (c_X5_isZeroOrOne l G o _ _ 0 ) mf_X5_isZeroOrOne mw_227 rfl hl.1 rfl (Nat.le_of_ble_eq_true rfl) ⟨(Nat.le_of_ble_eq_true rfl), (Nat.le_of_ble_eq_true rfl)⟩ ⟨Nat.zero_le _, Nat.zero_le _⟩ dX5_circulatingLoad_1 (fun H locs hI => ?_)
  refine lv_topi (fun z1 ez1 => ?_)
  obtain rfl : 1 = z1 := (ez1.trans (bI_t (by decide))).symm
  refine lv_if_ne (tgt := 11) hx hb dX5_circulatingLoad_4 (by decide) (fun _ => ?_) (fun q => absurd q (by decide))
  refine lv_aload_n hx hb dX5_circulatingLoad_11 rfl (lv_at hl 0 rfl) ?_
  refine x_get (k := 0) hE hK hI (by decide) inG5 (e_0 G o _ _) rfl 3 (by decide) mw_175 rfl dX5_circulatingLoad_12 ?_
  refine lv_aload_n hx hb dX5_circulatingLoad_15 rfl (lv_at hl 0 rfl) ?_
  refine x_get (k := 0) hE hK hI (by decide) inG5 (e_0 G o _ _) rfl 0 (by decide) mw_172 rfl dX5_circulatingLoad_16 ?_
  refine x_get (k := 1) hE hK hI (by decide) inG1 (e_1 G o _ _) rfl 0 (by decide) mw_139 rfl dX5_circulatingLoad_19 ?_
  refine lv_aload_n hx hb dX5_circulatingLoad_22 rfl (lv_at hl 0 rfl) ?_
  refine x_get (k := 0) hE hK hI (by decide) inG5 (e_0 G o _ _) rfl 0 (by decide) mw_172 rfl dX5_circulatingLoad_23 ?_
  refine x_get (k := 1) hE hK hI (by decide) inG1 (e_1 G o _ _) rfl 0 (by decide) mw_139 rfl dX5_circulatingLoad_26 ?_
  refine x_get (k := 2) hE hK hI (by decide) inG2 (e_2 G o _ _) rfl 1 (by decide) mw_37 rfl dX5_circulatingLoad_29 ?_
  refine x_callVv (k := 282) hE hK hI (c_X4_solve_8 l G o _ _ (X 8 0) (X 8 1) (X 8 2) (X 8 3) rfl rfl rfl rfl) mf_X4_solve mw_231 (by decide) ((e_282 G o) _ _) rfl rfl hl.1 rfl (Nat.le_of_ble_eq_true rfl) ⟨(Nat.le_of_ble_eq_true rfl), (Nat.le_of_ble_eq_true rfl)⟩ ⟨Nat.zero_le _, Nat.zero_le _⟩ dX5_circulatingLoad_32 (fun H locs hI => ?_)
  refine lv_aload_n hx hb dX5_circulatingLoad_35 rfl (lv_at hl 0 rfl) ?_
  refine x_get (k := 0) hE hK hI (by decide) inG5 (e_0 G o _ _) rfl 3 (by decide) mw_175 rfl dX5_circulatingLoad_36 ?_
  refine x_get (k := 282) hE hK hI (by decide) inG4 (e_282 G o _ _) rfl 3 (by decide) mw_160 rfl dX5_circulatingLoad_39 ?_
  refine lv_if_ne (tgt := 49) hx hb dX5_circulatingLoad_42 (by decide) (fun _ => ?_) (fun q => absurd q h)
  refine lv_aload_n hx hb dX5_circulatingLoad_49 rfl (lv_at hl 0 rfl) ?_
  refine x_get (k := 0) hE hK hI (by decide) inG5 (e_0 G o _ _) rfl 0 (by decide) mw_172 rfl dX5_circulatingLoad_50 ?_
  refine x_get (k := 1) hE hK hI (by decide) inG1 (e_1 G o _ _) rfl 0 (by decide) mw_139 rfl dX5_circulatingLoad_53 ?_
  refine x_get (k := 2) hE hK hI (by decide) inG2 (e_2 G o _ _) rfl 3 (by decide) mw_44 rfl dX5_circulatingLoad_56 ?_
  refine x_callSi hE hK hI (c_X5_sum l G o _ _ 10 (e_10 G o) (by decide)) mf_X5_sum mw_263 rfl hl.1 rfl (Nat.le_of_ble_eq_true rfl) ⟨(Nat.le_of_ble_eq_true rfl), (Nat.le_of_ble_eq_true rfl)⟩ ⟨Nat.zero_le _, Nat.zero_le _⟩ dX5_circulatingLoad_59 (fun H locs hI => ?_)
  refine lv_i2l hx hb dX5_circulatingLoad_62 rfl ?_
  refine lv_aload_n hx hb dX5_circulatingLoad_63 rfl (lv_at hl 0 rfl) ?_
  refine x_get (k := 0) hE hK hI (by decide) inG5 (e_0 G o _ _) rfl 3 (by decide) mw_175 rfl dX5_circulatingLoad_64 ?_
  refine x_get (k := 282) hE hK hI (by decide) inG4 (e_282 G o _ _) rfl 2 (by decide) mw_158 rfl dX5_circulatingLoad_67 ?_
  refine lv_lmul hx hb dX5_circulatingLoad_70 ?_
  refine lv_lstore_n (lv' := [(2, .long (((sum4 ((solX X Y (X 8 0) (X 8 1) (X 8 2) (X 8 3)) 10)).toInt64) * ((solY X Y (X 8 0) (X 8 1) (X 8 2) (X 8 3)) 282 2))), (0, .ref (o + 0)), (1, .int 0)]) hx hb dX5_circulatingLoad_71 rfl hl (by decide) rfl (fun ls hl => ?_)
  refine lv_lload_n hx hb dX5_circulatingLoad_72 rfl (lv_at hl 0 rfl) ?_
  refine lv_lconst (v := 0) hx hb dX5_circulatingLoad_73 (by decide) ?_
  refine W.lcmp hx hb dX5_circulatingLoad_74 ?_
  refine lv_if_ne (tgt := 82) hx hb dX5_circulatingLoad_75 (by decide) (fun q => absurd ((lg_cmp_eq _ _).mpr hz) q) (fun _ => ?_)
  refine lv_ldc2 hx hb hE.2.2.2.1 (hE.2.2.2.2 _ mw_266) dX5_circulatingLoad_78 ?_
  exact x_lret hE hr hlocks hI rfl rfl rfl dX5_circulatingLoad_81
set_option maxRecDepth 100000 in
set_option maxHeartbeats 4000000 in
theorem c_X5_circulatingLoad_y0 (l : Launch) (G : GG) (o : Nat) (X : SX) (Y : SY) (h : ¬ ((solX X Y (X 8 0) (X 8 1) (X 8 2) (X 8 3)) 282 3 = 0)) (hz : ¬ ((sum4 ((solX X Y (X 8 0) (X 8 1) (X 8 2) (X 8 3)) 10)).toInt64 * ((solY X Y (X 8 0) (X 8 1) (X 8 2) (X 8 3)) 282 2) = 0)) (hg : 1 ≤ gcdL 100 ((sml (solY X Y (X 8 0) (X 8 1) (X 8 2) (X 8 3))) - ((sum4 ((solX X Y (X 8 0) (X 8 1) (X 8 2) (X 8 3)) 10)).toInt64 * ((solY X Y (X 8 0) (X 8 1) (X 8 2) (X 8 3)) 282 2))) ((sum4 ((solX X Y (X 8 0) (X 8 1) (X 8 2) (X 8 3)) 10)).toInt64 * ((solY X Y (X 8 0) (X 8 1) (X 8 2) (X 8 3)) 282 2))) : Ct l yX5_circulatingLoad cX5_circulatingLoad 4 (some .long) 3 76 G o [.ref (o + 0), .int 0] X Y (some (.long (((sml (solY X Y (X 8 0) (X 8 1) (X 8 2) (X 8 3))) - (((sum4 ((solX X Y (X 8 0) (X 8 1) (X 8 2) (X 8 3)) 10)).toInt64) * ((solY X Y (X 8 0) (X 8 1) (X 8 2) (X 8 3)) 282 2))) / (gcdL 100 ((sml (solY X Y (X 8 0) (X 8 1) (X 8 2) (X 8 3))) - (((sum4 ((solX X Y (X 8 0) (X 8 1) (X 8 2) (X 8 3)) 10)).toInt64) * ((solY X Y (X 8 0) (X 8 1) (X 8 2) (X 8 3)) 282 2))) (((sum4 ((solX X Y (X 8 0) (X 8 1) (X 8 2) (X 8 3)) 10)).toInt64) * ((solY X Y (X 8 0) (X 8 1) (X 8 2) (X 8 3)) 282 2)))))) (solX X Y (X 8 0) (X 8 1) (X 8 2) (X 8 3)) (solY X Y (X 8 0) (X 8 1) (X 8 2) (X 8 3)) := by
  refine Ct.mk (by decide +kernel) (Nat.le_of_ble_eq_true rfl) rfl ?_
  intro p9 e9 s9 m9 args9 below9 meth9 c9 hE hr hlocks hK hI ls hl
  have hx := hE.1
  have hb := hE.2.1
  have hl : lv_has ls 4 [(0, .ref (o + 0)), (1, .int 0)] := hl
  refine lv_iload_n hx hb dX5_circulatingLoad_0 rfl (lv_at hl 1 rfl) ?_
  refine x_callSi hE hK hI (c_X5_isZeroOrOne l G o _ _ 0 ) mf_X5_isZeroOrOne mw_227 rfl hl.1 rfl (Nat.le_of_ble_eq_true rfl) ⟨(Nat.le_of_ble_eq_true rfl), (Nat.le_of_ble_eq_true rfl)⟩ ⟨Nat.zero_le _, Nat.zero_le _⟩ dX5_circulatingLoad_1 (fun H locs hI => ?_)
  refine lv_topi (fun z1 ez1 => ?_)
  obtain rfl : 1 = z1 := (ez1.trans (bI_t (by decide))).symm
  refine lv_if_ne (tgt := 11) hx hb dX5_circulatingLoad_4 (by decide) (fun _ => ?_) (fun q => absurd q (by decide))
  refine lv_aload_n hx hb dX5_circulatingLoad_11 rfl (lv_at hl 0 rfl) ?_
  refine x_get (k := 0) hE hK hI (by decide) inG5 (e_0 G o _ _) rfl 3 (by decide) mw_175 rfl dX5_circulatingLoad_12 ?_
  refine lv_aload_n hx hb dX5_circulatingLoad_15 rfl (lv_at hl 0 rfl) ?_
  refine x_get (k := 0) hE hK hI (by decide) inG5 (e_0 G o _ _) rfl 0 (by decide) mw_172 rfl dX5_circulatingLoad_16 ?_
  refine x_get (k := 1) hE hK hI (by decide) inG1 (e_1 G o _ _) rfl 0 (by decide) mw_139 rfl dX5_circulatingLoad_19 ?_
  refine lv_aload_n hx hb dX5_circulatingLoad_22 rfl (lv_at hl 0 rfl) ?_
  refine x_get (k := 0) hE hK hI (by decide) inG5 (e_0 G o _ _) rfl 0 (by decide) mw_172 rfl dX5_circulatingLoad_23 ?_
  refine x_get (k := 1) hE hK hI (by decide) inG1 (e_1 G o _ _) rfl 0 (by decide) mw_139 rfl dX5_circulatingLoad_26 ?_
  refine x_get (k := 2) hE hK hI (by decide) inG2 (e_2 G o _ _) rfl 1 (by decide) mw_37 rfl dX5_circulatingLoad_29 ?_
  refine x_callVv (k := 282) hE hK hI (c_X4_solve_8 l G o _ _ (X 8 0) (X 8 1) (X 8 2) (X 8 3) rfl rfl rfl rfl) mf_X4_solve mw_231 (by decide) ((e_282 G o) _ _) rfl rfl hl.1 rfl (Nat.le_of_ble_eq_true rfl) ⟨(Nat.le_of_ble_eq_true rfl), (Nat.le_of_ble_eq_true rfl)⟩ ⟨Nat.zero_le _, Nat.zero_le _⟩ dX5_circulatingLoad_32 (fun H locs hI => ?_)
  refine lv_aload_n hx hb dX5_circulatingLoad_35 rfl (lv_at hl 0 rfl) ?_
  refine x_get (k := 0) hE hK hI (by decide) inG5 (e_0 G o _ _) rfl 3 (by decide) mw_175 rfl dX5_circulatingLoad_36 ?_
  refine x_get (k := 282) hE hK hI (by decide) inG4 (e_282 G o _ _) rfl 3 (by decide) mw_160 rfl dX5_circulatingLoad_39 ?_
  refine lv_if_ne (tgt := 49) hx hb dX5_circulatingLoad_42 (by decide) (fun _ => ?_) (fun q => absurd q h)
  refine lv_aload_n hx hb dX5_circulatingLoad_49 rfl (lv_at hl 0 rfl) ?_
  refine x_get (k := 0) hE hK hI (by decide) inG5 (e_0 G o _ _) rfl 0 (by decide) mw_172 rfl dX5_circulatingLoad_50 ?_
  refine x_get (k := 1) hE hK hI (by decide) inG1 (e_1 G o _ _) rfl 0 (by decide) mw_139 rfl dX5_circulatingLoad_53 ?_
  refine x_get (k := 2) hE hK hI (by decide) inG2 (e_2 G o _ _) rfl 3 (by decide) mw_44 rfl dX5_circulatingLoad_56 ?_
  refine x_callSi hE hK hI (c_X5_sum l G o _ _ 10 (e_10 G o) (by decide)) mf_X5_sum mw_263 rfl hl.1 rfl (Nat.le_of_ble_eq_true rfl) ⟨(Nat.le_of_ble_eq_true rfl), (Nat.le_of_ble_eq_true rfl)⟩ ⟨Nat.zero_le _, Nat.zero_le _⟩ dX5_circulatingLoad_59 (fun H locs hI => ?_)
  refine lv_i2l hx hb dX5_circulatingLoad_62 rfl ?_
  refine lv_aload_n hx hb dX5_circulatingLoad_63 rfl (lv_at hl 0 rfl) ?_
  refine x_get (k := 0) hE hK hI (by decide) inG5 (e_0 G o _ _) rfl 3 (by decide) mw_175 rfl dX5_circulatingLoad_64 ?_
  refine x_get (k := 282) hE hK hI (by decide) inG4 (e_282 G o _ _) rfl 2 (by decide) mw_158 rfl dX5_circulatingLoad_67 ?_
  refine lv_lmul hx hb dX5_circulatingLoad_70 ?_
  refine lv_lstore_n (lv' := [(2, .long (((sum4 ((solX X Y (X 8 0) (X 8 1) (X 8 2) (X 8 3)) 10)).toInt64) * ((solY X Y (X 8 0) (X 8 1) (X 8 2) (X 8 3)) 282 2))), (0, .ref (o + 0)), (1, .int 0)]) hx hb dX5_circulatingLoad_71 rfl hl (by decide) rfl (fun ls hl => ?_)
  refine lv_lload_n hx hb dX5_circulatingLoad_72 rfl (lv_at hl 0 rfl) ?_
  refine lv_lconst (v := 0) hx hb dX5_circulatingLoad_73 (by decide) ?_
  refine W.lcmp hx hb dX5_circulatingLoad_74 ?_
  refine lv_if_ne (tgt := 82) hx hb dX5_circulatingLoad_75 (by decide) (fun _ => ?_) (fun q => absurd q (mt (lg_cmp_eq _ _).mp hz))
  refine lv_aload_n hx hb dX5_circulatingLoad_82 rfl (lv_at hl 1 rfl) ?_
  refine x_get (k := 0) hE hK hI (by decide) inG5 (e_0 G o _ _) rfl 3 (by decide) mw_175 rfl dX5_circulatingLoad_83 ?_
  refine x_callVl (k := 282) hE hK hI (c_X4_sumOfLoads l G o _ _  ) mf_X4_sumOfLoads mw_267 (by decide) ((e_282 G o) _ _) rfl rfl hl.1 rfl (Nat.le_of_ble_eq_true rfl) ⟨(Nat.le_of_ble_eq_true rfl), (Nat.le_of_ble_eq_true rfl)⟩ ⟨Nat.zero_le _, Nat.zero_le _⟩ dX5_circulatingLoad_86 (fun H locs hI => ?_)
  refine lv_lload_n hx hb dX5_circulatingLoad_89 rfl (lv_at hl 0 rfl) ?_
  refine lv_lsub hx hb dX5_circulatingLoad_90 ?_
  refine lv_lload_n hx hb dX5_circulatingLoad_91 rfl (lv_at hl 0 rfl) ?_
  refine lv_iload_n hx hb dX5_circulatingLoad_92 rfl (lv_at hl 2 rfl) ?_
  refine x_callSl hE hK hI (c_X5_partOf_0 l G o _ _ ((sml (solY X Y (X 8 0) (X 8 1) (X 8 2) (X 8 3))) - (((sum4 ((solX X Y (X 8 0) (X 8 1) (X 8 2) (X 8 3)) 10)).toInt64) * ((solY X Y (X 8 0) (X 8 1) (X 8 2) (X 8 3)) 282 2))) (((sum4 ((solX X Y (X 8 0) (X 8 1) (X 8 2) (X 8 3)) 10)).toInt64) * ((solY X Y (X 8 0) (X 8 1) (X 8 2) (X 8 3)) 282 2)) hg) mf_X5_partOf mw_244 rfl hl.1 rfl (Nat.le_of_ble_eq_true rfl) ⟨(Nat.le_of_ble_eq_true rfl), (Nat.le_of_ble_eq_true rfl)⟩ ⟨Nat.zero_le _, Nat.zero_le _⟩ dX5_circulatingLoad_93 (fun H locs hI => ?_)
  exact x_lret hE hr hlocks hI rfl rfl rfl dX5_circulatingLoad_96
set_option maxRecDepth 100000 in
set_option maxHeartbeats 4000000 in
theorem c_X5_power_y0 (l : Launch) (G : GG) (o : Nat) (X : SX) (Y : SY) (h : ¬ ((solX X Y (X 8 0) (X 8 1) (X 8 2) (X 8 3)) 282 3 = 0)) (hg : 1 ≤ gcdL 100 (pwr (solX X Y (X 8 0) (X 8 1) (X 8 2) (X 8 3)) (solY X Y (X 8 0) (X 8 1) (X 8 2) (X 8 3))) ((solY X Y (X 8 0) (X 8 1) (X 8 2) (X 8 3)) 282 2)) : Ct l yX5_power cX5_power 2 (some .long) 3 76 G o [.ref (o + 0), .int 0] X Y (some (.long ((pwr (solX X Y (X 8 0) (X 8 1) (X 8 2) (X 8 3)) (solY X Y (X 8 0) (X 8 1) (X 8 2) (X 8 3))) / (gcdL 100 (pwr (solX X Y (X 8 0) (X 8 1) (X 8 2) (X 8 3)) (solY X Y (X 8 0) (X 8 1) (X 8 2) (X 8 3))) ((solY X Y (X 8 0) (X 8 1) (X 8 2) (X 8 3)) 282 2))))) (solX X Y (X 8 0) (X 8 1) (X 8 2) (X 8 3)) (solY X Y (X 8 0) (X 8 1) (X 8 2) (X 8 3)) := by
  refine Ct.mk (by decide +kernel) (Nat.le_of_ble_eq_true rfl) rfl ?_
  intro p9 e9 s9 m9 args9 below9 meth9 c9 hE hr hlocks hK hI ls hl
  have hx := hE.1
  have hb := hE.2.1
  have hl : lv_has ls 2 [(0, .ref (o + 0)), (1, .int 0)] := hl
  refine lv_iload_n hx hb dX5_power_0 rfl (lv_at hl 1 rfl) ?_
  refine x_callSi hE hK hI (c_X5_isZeroOrOne l G o _ _ 0 ) mf_X5_isZeroOrOne mw_227 rfl hl.1 rfl (Nat.le_of_ble_eq_true rfl) ⟨(Nat.le_of_ble_eq_true rfl), (Nat.le_of_ble_eq_true rfl)⟩ ⟨Nat.zero_le _, Nat.zero_le _⟩ dX5_power_1 (fun H locs hI => ?_)
  refine lv_topi (fun z1 ez1 => ?_)
  obtain rfl : 1 = z1 := (ez1.trans (bI_t (by decide))).symm
  refine lv_if_ne (tgt := 11) hx hb dX5_power_4 (by decide) (fun _ => ?_) (fun q => absurd q (by decide))
  refine lv_aload_n hx hb dX5_power_11 rfl (lv_at hl 0 rfl) ?_
  refine x_get (k := 0) hE hK hI (by decide) inG5 (e_0 G o _ _) rfl 3 (by decide) mw_175 rfl dX5_power_12 ?_
  refine lv_aload_n hx hb dX5_power_15 rfl (lv_at hl 0 rfl) ?_
  refine x_get (k := 0) hE hK hI (by decide) inG5 (e_0 G o _ _) rfl 0 (by decide) mw_172 rfl dX5_power_16 ?_
  refine x_get (k := 1) hE hK hI (by decide) inG1 (e_1 G o _ _) rfl 0 (by decide) mw_139 rfl dX5_power_19 ?_
  refine lv_aload_n hx hb dX5_power_22 rfl (lv_at hl 0 rfl) ?_
  refine x_get (k := 0) hE hK hI (by decide) inG5 (e_0 G o _ _) rfl 0 (by decide) mw_172 rfl dX5_power_23 ?_
  refine x_get (k := 1) hE hK hI (by decide) inG1 (e_1 G o _ _) rfl 0 (by decide) mw_139 rfl dX5_power_26 ?_
  refine x_get (k := 2) hE hK hI (by decide) inG2 (e_2 G o _ _) rfl 1 (by decide) mw_37 rfl dX5_power_29 ?_
  refine x_callVv (k := 282) hE hK hI (c_X4_solve_8 l G o _ _ (X 8 0) (X 8 1) (X 8 2) (X 8 3) rfl rfl rfl rfl) mf_X4_solve mw_231 (by decide) ((e_282 G o) _ _) rfl rfl hl.1 rfl (Nat.le_of_ble_eq_true rfl) ⟨(Nat.le_of_ble_eq_true rfl), (Nat.le_of_ble_eq_true rfl)⟩ ⟨Nat.zero_le _, Nat.zero_le _⟩ dX5_power_32 (fun H locs hI => ?_)
  refine lv_aload_n hx hb dX5_power_35 rfl (lv_at hl 0 rfl) ?_
  refine x_get (k := 0) hE hK hI (by decide) inG5 (e_0 G o _ _) rfl 3 (by decide) mw_175 rfl dX5_power_36 ?_
  refine x_get (k := 282) hE hK hI (by decide) inG4 (e_282 G o _ _) rfl 3 (by decide) mw_160 rfl dX5_power_39 ?_
  refine lv_if_ne (tgt := 49) hx hb dX5_power_42 (by decide) (fun _ => ?_) (fun q => absurd q h)
  refine lv_aload_n hx hb dX5_power_49 rfl (lv_at hl 0 rfl) ?_
  refine x_get (k := 0) hE hK hI (by decide) inG5 (e_0 G o _ _) rfl 3 (by decide) mw_175 rfl dX5_power_50 ?_
  refine lv_aload_n hx hb dX5_power_53 rfl (lv_at hl 0 rfl) ?_
  refine x_get (k := 0) hE hK hI (by decide) inG5 (e_0 G o _ _) rfl 0 (by decide) mw_172 rfl dX5_power_54 ?_
  refine x_get (k := 1) hE hK hI (by decide) inG1 (e_1 G o _ _) rfl 0 (by decide) mw_139 rfl dX5_power_57 ?_
  refine x_get (k := 2) hE hK hI (by decide) inG2 (e_2 G o _ _) rfl 2 (by decide) mw_40 rfl dX5_power_60 ?_
  refine x_callVl (k := 282) hE hK hI (c_X4_scaledPower l G o _ _  ) mf_X4_scaledPower mw_275 (by decide) ((e_282 G o) _ _) rfl rfl hl.1 rfl (Nat.le_of_ble_eq_true rfl) ⟨(Nat.le_of_ble_eq_true rfl), (Nat.le_of_ble_eq_true rfl)⟩ ⟨Nat.zero_le _, Nat.zero_le _⟩ dX5_power_63 (fun H locs hI => ?_)
  refine lv_aload_n hx hb dX5_power_66 rfl (lv_at hl 0 rfl) ?_
  refine x_get (k := 0) hE hK hI (by decide) inG5 (e_0 G o _ _) rfl 3 (by decide) mw_175 rfl dX5_power_67 ?_
  refine x_get (k := 282) hE hK hI (by decide) inG4 (e_282 G o _ _) rfl 2 (by decide) mw_158 rfl dX5_power_70 ?_
  refine lv_iload_n hx hb dX5_power_73 rfl (lv_at hl 1 rfl) ?_
  refine x_callSl hE hK hI (c_X5_partOf_0 l G o _ _ (pwr (solX X Y (X 8 0) (X 8 1) (X 8 2) (X 8 3)) (solY X Y (X 8 0) (X 8 1) (X 8 2) (X 8 3))) ((solY X Y (X 8 0) (X 8 1) (X 8 2) (X 8 3)) 282 2) hg) mf_X5_partOf mw_244 rfl hl.1 rfl (Nat.le_of_ble_eq_true rfl) ⟨(Nat.le_of_ble_eq_true rfl), (Nat.le_of_ble_eq_true rfl)⟩ ⟨Nat.zero_le _, Nat.zero_le _⟩ dX5_power_74 (fun H locs hI => ?_)
  exact x_lret hE hr hlocks hI rfl rfl rfl dX5_power_77
set_option maxRecDepth 100000 in
set_option maxHeartbeats 4000000 in
theorem c_X5_circulatingLoad_z1 (l : Launch) (G : GG) (o : Nat) (X : SX) (Y : SY) (h : ¬ ((solX X Y (X 8 0) (X 8 1) (X 8 2) (X 8 3)) 282 3 = 0)) (hz : (sum4 ((solX X Y (X 8 0) (X 8 1) (X 8 2) (X 8 3)) 10)).toInt64 * ((solY X Y (X 8 0) (X 8 1) (X 8 2) (X 8 3)) 282 2) = 0) : Ct l yX5_circulatingLoad cX5_circulatingLoad 4 (some .long) 3 76 G o [.ref (o + 0), .int 1] X Y (some (.long (-7))) (solX X Y (X 8 0) (X 8 1) (X 8 2) (X 8 3)) (solY X Y (X 8 0) (X 8 1) (X 8 2) (X 8 3)) := by
  refine Ct.mk (by decide +kernel) (Nat.le_of_ble_eq_true rfl) rfl ?_
  intro p9 e9 s9 m9 args9 below9 meth9 c9 hE hr hlocks hK hI ls hl
  have hx := hE.1
  have hb := hE.2.1
  have hl : lv_has ls 4 [(0, .ref (o + 0)), (1, .int 1)] := hl
  refine lv_iload_n hx hb dX5_circulatingLoad_0 rfl (lv_at hl 1 rfl) ?_
  refine x_callSi hE hK hI (c_X5_isZeroOrOne l G o _ _ 1 ) mf_X5_isZeroOrOne mw_227 rfl hl.1 rfl (Nat.le_of_ble_eq_true rfl) ⟨(Nat.le_of_ble_eq_true rfl), (Nat.le_of_ble_eq_true rfl)⟩ ⟨Nat.zero_le _, Nat.zero_le _⟩ dX5_circulatingLoad_1 (fun H locs hI => ?_)
  refine lv_topi (fun z1 ez1 => ?_)
  obtain rfl : 1 = z1 := (ez1.trans (bI_t (by decide))).symm
  refine lv_if_ne (tgt := 11) hx hb dX5_circulatingLoad_4 (by decide) (fun _ => ?_) (fun q => absurd q (by decide))
  refine lv_aload_n hx hb dX5_circulatingLoad_11 rfl (lv_at hl 0 rfl) ?_
  refine x_get (k := 0) hE hK hI (by decide) inG5 (e_0 G o _ _) rfl 3 (by decide) mw_175 rfl dX5_circulatingLoad_12 ?_
  refine lv_aload_n hx hb dX5_circulatingLoad_15 rfl (lv_at hl 0 rfl) ?_
  refine x_get (k := 0) hE hK hI (by decide) inG5 (e_0 G o _ _) rfl 0 (by decide) mw_172 rfl dX5_circulatingLoad_16 ?_
  refine x_get (k := 1) hE hK hI (by decide) inG1 (e_1 G o _ _) rfl 0 (by decide) mw_139 rfl dX5_circulatingLoad_19 ?_
  refine lv_aload_n hx hb dX5_circulatingLoad_22 rfl (lv_at hl 0 rfl) ?_
  refine x_get (k := 0) hE hK hI (by decide) inG5 (e_0 G o _ _) rfl 0 (by decide) mw_172 rfl dX5_circulatingLoad_23 ?_
  refine x_get (k := 1) hE hK hI (by decide) inG1 (e_1 G o _ _) rfl 0 (by decide) mw_139 rfl dX5_circulatingLoad_26 ?_
  refine x_get (k := 2) hE hK hI (by decide) inG2 (e_2 G o _ _) rfl 1 (by decide) mw_37 rfl dX5_circulatingLoad_29 ?_
  refine x_callVv (k := 282) hE hK hI (c_X4_solve_8 l G o _ _ (X 8 0) (X 8 1) (X 8 2) (X 8 3) rfl rfl rfl rfl) mf_X4_solve mw_231 (by decide) ((e_282 G o) _ _) rfl rfl hl.1 rfl (Nat.le_of_ble_eq_true rfl) ⟨(Nat.le_of_ble_eq_true rfl), (Nat.le_of_ble_eq_true rfl)⟩ ⟨Nat.zero_le _, Nat.zero_le _⟩ dX5_circulatingLoad_32 (fun H locs hI => ?_)
  refine lv_aload_n hx hb dX5_circulatingLoad_35 rfl (lv_at hl 0 rfl) ?_
  refine x_get (k := 0) hE hK hI (by decide) inG5 (e_0 G o _ _) rfl 3 (by decide) mw_175 rfl dX5_circulatingLoad_36 ?_
  refine x_get (k := 282) hE hK hI (by decide) inG4 (e_282 G o _ _) rfl 3 (by decide) mw_160 rfl dX5_circulatingLoad_39 ?_
  refine lv_if_ne (tgt := 49) hx hb dX5_circulatingLoad_42 (by decide) (fun _ => ?_) (fun q => absurd q h)
  refine lv_aload_n hx hb dX5_circulatingLoad_49 rfl (lv_at hl 0 rfl) ?_
  refine x_get (k := 0) hE hK hI (by decide) inG5 (e_0 G o _ _) rfl 0 (by decide) mw_172 rfl dX5_circulatingLoad_50 ?_
  refine x_get (k := 1) hE hK hI (by decide) inG1 (e_1 G o _ _) rfl 0 (by decide) mw_139 rfl dX5_circulatingLoad_53 ?_
  refine x_get (k := 2) hE hK hI (by decide) inG2 (e_2 G o _ _) rfl 3 (by decide) mw_44 rfl dX5_circulatingLoad_56 ?_
  refine x_callSi hE hK hI (c_X5_sum l G o _ _ 10 (e_10 G o) (by decide)) mf_X5_sum mw_263 rfl hl.1 rfl (Nat.le_of_ble_eq_true rfl) ⟨(Nat.le_of_ble_eq_true rfl), (Nat.le_of_ble_eq_true rfl)⟩ ⟨Nat.zero_le _, Nat.zero_le _⟩ dX5_circulatingLoad_59 (fun H locs hI => ?_)
  refine lv_i2l hx hb dX5_circulatingLoad_62 rfl ?_
  refine lv_aload_n hx hb dX5_circulatingLoad_63 rfl (lv_at hl 0 rfl) ?_
  refine x_get (k := 0) hE hK hI (by decide) inG5 (e_0 G o _ _) rfl 3 (by decide) mw_175 rfl dX5_circulatingLoad_64 ?_
  refine x_get (k := 282) hE hK hI (by decide) inG4 (e_282 G o _ _) rfl 2 (by decide) mw_158 rfl dX5_circulatingLoad_67 ?_
  refine lv_lmul hx hb dX5_circulatingLoad_70 ?_
  refine lv_lstore_n (lv' := [(2, .long (((sum4 ((solX X Y (X 8 0) (X 8 1) (X 8 2) (X 8 3)) 10)).toInt64) * ((solY X Y (X 8 0) (X 8 1) (X 8 2) (X 8 3)) 282 2))), (0, .ref (o + 0)), (1, .int 1)]) hx hb dX5_circulatingLoad_71 rfl hl (by decide) rfl (fun ls hl => ?_)
  refine lv_lload_n hx hb dX5_circulatingLoad_72 rfl (lv_at hl 0 rfl) ?_
  refine lv_lconst (v := 0) hx hb dX5_circulatingLoad_73 (by decide) ?_
  refine W.lcmp hx hb dX5_circulatingLoad_74 ?_
  refine lv_if_ne (tgt := 82) hx hb dX5_circulatingLoad_75 (by decide) (fun q => absurd ((lg_cmp_eq _ _).mpr hz) q) (fun _ => ?_)
  refine lv_ldc2 hx hb hE.2.2.2.1 (hE.2.2.2.2 _ mw_266) dX5_circulatingLoad_78 ?_
  exact x_lret hE hr hlocks hI rfl rfl rfl dX5_circulatingLoad_81
set_option maxRecDepth 100000 in
set_option maxHeartbeats 4000000 in
theorem c_X5_circulatingLoad_y1 (l : Launch) (G : GG) (o : Nat) (X : SX) (Y : SY) (h : ¬ ((solX X Y (X 8 0) (X 8 1) (X 8 2) (X 8 3)) 282 3 = 0)) (hz : ¬ ((sum4 ((solX X Y (X 8 0) (X 8 1) (X 8 2) (X 8 3)) 10)).toInt64 * ((solY X Y (X 8 0) (X 8 1) (X 8 2) (X 8 3)) 282 2) = 0)) (hg : 1 ≤ gcdL 100 ((sml (solY X Y (X 8 0) (X 8 1) (X 8 2) (X 8 3))) - ((sum4 ((solX X Y (X 8 0) (X 8 1) (X 8 2) (X 8 3)) 10)).toInt64 * ((solY X Y (X 8 0) (X 8 1) (X 8 2) (X 8 3)) 282 2))) ((sum4 ((solX X Y (X 8 0) (X 8 1) (X 8 2) (X 8 3)) 10)).toInt64 * ((solY X Y (X 8 0) (X 8 1) (X 8 2) (X 8 3)) 282 2))) : Ct l yX5_circulatingLoad cX5_circulatingLoad 4 (some .long) 3 76 G o [.ref (o + 0), .int 1] X Y (some (.long ((((sum4 ((solX X Y (X 8 0) (X 8 1) (X 8 2) (X 8 3)) 10)).toInt64) * ((solY X Y (X 8 0) (X 8 1) (X 8 2) (X 8 3)) 282 2)) / (gcdL 100 ((sml (solY X Y (X 8 0) (X 8 1) (X 8 2) (X 8 3))) - (((sum4 ((solX X Y (X 8 0) (X 8 1) (X 8 2) (X 8 3)) 10)).toInt64) * ((solY X Y (X 8 0) (X 8 1) (X 8 2) (X 8 3)) 282 2))) (((sum4 ((solX X Y (X 8 0) (X 8 1) (X 8 2) (X 8 3)) 10)).toInt64) * ((solY X Y (X 8 0) (X 8 1) (X 8 2) (X 8 3)) 282 2)))))) (solX X Y (X 8 0) (X 8 1) (X 8 2) (X 8 3)) (solY X Y (X 8 0) (X 8 1) (X 8 2) (X 8 3)) := by
  refine Ct.mk (by decide +kernel) (Nat.le_of_ble_eq_true rfl) rfl ?_
  intro p9 e9 s9 m9 args9 below9 meth9 c9 hE hr hlocks hK hI ls hl
  have hx := hE.1
  have hb := hE.2.1
  have hl : lv_has ls 4 [(0, .ref (o + 0)), (1, .int 1)] := hl
  refine lv_iload_n hx hb dX5_circulatingLoad_0 rfl (lv_at hl 1 rfl) ?_
  refine x_callSi hE hK hI (c_X5_isZeroOrOne l G o _ _ 1 ) mf_X5_isZeroOrOne mw_227 rfl hl.1 rfl (Nat.le_of_ble_eq_true rfl) ⟨(Nat.le_of_ble_eq_true rfl), (Nat.le_of_ble_eq_true rfl)⟩ ⟨Nat.zero_le _, Nat.zero_le _⟩ dX5_circulatingLoad_1 (fun H locs hI => ?_)
  refine lv_topi (fun z1 ez1 => ?_)
  obtain rfl : 1 = z1 := (ez1.trans (bI_t (by decide))).symm
  refine lv_if_ne (tgt := 11) hx hb dX5_circulatingLoad_4 (by decide) (fun _ => ?_) (fun q => absurd q (by decide))
  refine lv_aload_n hx hb dX5_circulatingLoad_11 rfl (lv_at hl 0 rfl) ?_
  refine x_get (k := 0) hE hK hI (by decide) inG5 (e_0 G o _ _) rfl 3 (by decide) mw_175 rfl dX5_circulatingLoad_12 ?_
  refine lv_aload_n hx hb dX5_circulatingLoad_15 rfl (lv_at hl 0 rfl) ?_
  refine x_get (k := 0) hE hK hI (by decide) inG5 (e_0 G o _ _) rfl 0 (by decide) mw_172 rfl dX5_circulatingLoad_16 ?_
  refine x_get (k := 1) hE hK hI (by decide) inG1 (e_1 G o _ _) rfl 0 (by decide) mw_139 rfl dX5_circulatingLoad_19 ?_
  refine lv_aload_n hx hb dX5_circulatingLoad_22 rfl (lv_at hl 0 rfl) ?_
  refine x_get (k := 0) hE hK hI (by decide) inG5 (e_0 G o _ _) rfl 0 (by decide) mw_172 rfl dX5_circulatingLoad_23 ?_
  refine x_get (k := 1) hE hK hI (by decide) inG1 (e_1 G o _ _) rfl 0 (by decide) mw_139 rfl dX5_circulatingLoad_26 ?_
  refine x_get (k := 2) hE hK hI (by decide) inG2 (e_2 G o _ _) rfl 1 (by decide) mw_37 rfl dX5_circulatingLoad_29 ?_
  refine x_callVv (k := 282) hE hK hI (c_X4_solve_8 l G o _ _ (X 8 0) (X 8 1) (X 8 2) (X 8 3) rfl rfl rfl rfl) mf_X4_solve mw_231 (by decide) ((e_282 G o) _ _) rfl rfl hl.1 rfl (Nat.le_of_ble_eq_true rfl) ⟨(Nat.le_of_ble_eq_true rfl), (Nat.le_of_ble_eq_true rfl)⟩ ⟨Nat.zero_le _, Nat.zero_le _⟩ dX5_circulatingLoad_32 (fun H locs hI => ?_)
  refine lv_aload_n hx hb dX5_circulatingLoad_35 rfl (lv_at hl 0 rfl) ?_
  refine x_get (k := 0) hE hK hI (by decide) inG5 (e_0 G o _ _) rfl 3 (by decide) mw_175 rfl dX5_circulatingLoad_36 ?_
  refine x_get (k := 282) hE hK hI (by decide) inG4 (e_282 G o _ _) rfl 3 (by decide) mw_160 rfl dX5_circulatingLoad_39 ?_
  refine lv_if_ne (tgt := 49) hx hb dX5_circulatingLoad_42 (by decide) (fun _ => ?_) (fun q => absurd q h)
  refine lv_aload_n hx hb dX5_circulatingLoad_49 rfl (lv_at hl 0 rfl) ?_
  refine x_get (k := 0) hE hK hI (by decide) inG5 (e_0 G o _ _) rfl 0 (by decide) mw_172 rfl dX5_circulatingLoad_50 ?_
  refine x_get (k := 1) hE hK hI (by decide) inG1 (e_1 G o _ _) rfl 0 (by decide) mw_139 rfl dX5_circulatingLoad_53 ?_
  refine x_get (k := 2) hE hK hI (by decide) inG2 (e_2 G o _ _) rfl 3 (by decide) mw_44 rfl dX5_circulatingLoad_56 ?_
  refine x_callSi hE hK hI (c_X5_sum l G o _ _ 10 (e_10 G o) (by decide)) mf_X5_sum mw_263 rfl hl.1 rfl (Nat.le_of_ble_eq_true rfl) ⟨(Nat.le_of_ble_eq_true rfl), (Nat.le_of_ble_eq_true rfl)⟩ ⟨Nat.zero_le _, Nat.zero_le _⟩ dX5_circulatingLoad_59 (fun H locs hI => ?_)
  refine lv_i2l hx hb dX5_circulatingLoad_62 rfl ?_
  refine lv_aload_n hx hb dX5_circulatingLoad_63 rfl (lv_at hl 0 rfl) ?_
  refine x_get (k := 0) hE hK hI (by decide) inG5 (e_0 G o _ _) rfl 3 (by decide) mw_175 rfl dX5_circulatingLoad_64 ?_
  refine x_get (k := 282) hE hK hI (by decide) inG4 (e_282 G o _ _) rfl 2 (by decide) mw_158 rfl dX5_circulatingLoad_67 ?_
  refine lv_lmul hx hb dX5_circulatingLoad_70 ?_
  refine lv_lstore_n (lv' := [(2, .long (((sum4 ((solX X Y (X 8 0) (X 8 1) (X 8 2) (X 8 3)) 10)).toInt64) * ((solY X Y (X 8 0) (X 8 1) (X 8 2) (X 8 3)) 282 2))), (0, .ref (o + 0)), (1, .int 1)]) hx hb dX5_circulatingLoad_71 rfl hl (by decide) rfl (fun ls hl => ?_)
  refine lv_lload_n hx hb dX5_circulatingLoad_72 rfl (lv_at hl 0 rfl) ?_
  refine lv_lconst (v := 0) hx hb dX5_circulatingLoad_73 (by decide) ?_
  refine W.lcmp hx hb dX5_circulatingLoad_74 ?_
  refine lv_if_ne (tgt := 82) hx hb dX5_circulatingLoad_75 (by decide) (fun _ => ?_) (fun q => absurd q (mt (lg_cmp_eq _ _).mp hz))
  refine lv_aload_n hx hb dX5_circulatingLoad_82 rfl (lv_at hl 1 rfl) ?_
  refine x_get (k := 0) hE hK hI (by decide) inG5 (e_0 G o _ _) rfl 3 (by decide) mw_175 rfl dX5_circulatingLoad_83 ?_
  refine x_callVl (k := 282) hE hK hI (c_X4_sumOfLoads l G o _ _  ) mf_X4_sumOfLoads mw_267 (by decide) ((e_282 G o) _ _) rfl rfl hl.1 rfl (Nat.le_of_ble_eq_true rfl) ⟨(Nat.le_of_ble_eq_true rfl), (Nat.le_of_ble_eq_true rfl)⟩ ⟨Nat.zero_le _, Nat.zero_le _⟩ dX5_circulatingLoad_86 (fun H locs hI => ?_)
  refine lv_lload_n hx hb dX5_circulatingLoad_89 rfl (lv_at hl 0 rfl) ?_
  refine lv_lsub hx hb dX5_circulatingLoad_90 ?_
  refine lv_lload_n hx hb dX5_circulatingLoad_91 rfl (lv_at hl 0 rfl) ?_
  refine lv_iload_n hx hb dX5_circulatingLoad_92 rfl (lv_at hl 2 rfl) ?_
  refine x_callSl hE hK hI (c_X5_partOf_1 l G o _ _ ((sml (solY X Y (X 8 0) (X 8 1) (X 8 2) (X 8 3))) - (((sum4 ((solX X Y (X 8 0) (X 8 1) (X 8 2) (X 8 3)) 10)).toInt64) * ((solY X Y (X 8 0) (X 8 1) (X 8 2) (X 8 3)) 282 2))) (((sum4 ((solX X Y (X 8 0) (X 8 1) (X 8 2) (X 8 3)) 10)).toInt64) * ((solY X Y (X 8 0) (X 8 1) (X 8 2) (X 8 3)) 282 2)) hg) mf_X5_partOf mw_244 rfl hl.1 rfl (Nat.le_of_ble_eq_true rfl) ⟨(Nat.le_of_ble_eq_true rfl), (Nat.le_of_ble_eq_true rfl)⟩ ⟨Nat.zero_le _, Nat.zero_le _⟩ dX5_circulatingLoad_93 (fun H locs hI => ?_)
  exact x_lret hE hr hlocks hI rfl rfl rfl dX5_circulatingLoad_96
set_option maxRecDepth 100000 in
set_option maxHeartbeats 4000000 in
theorem c_X5_power_y1 (l : Launch) (G : GG) (o : Nat) (X : SX) (Y : SY) (h : ¬ ((solX X Y (X 8 0) (X 8 1) (X 8 2) (X 8 3)) 282 3 = 0)) (hg : 1 ≤ gcdL 100 (pwr (solX X Y (X 8 0) (X 8 1) (X 8 2) (X 8 3)) (solY X Y (X 8 0) (X 8 1) (X 8 2) (X 8 3))) ((solY X Y (X 8 0) (X 8 1) (X 8 2) (X 8 3)) 282 2)) : Ct l yX5_power cX5_power 2 (some .long) 3 76 G o [.ref (o + 0), .int 1] X Y (some (.long (((solY X Y (X 8 0) (X 8 1) (X 8 2) (X 8 3)) 282 2) / (gcdL 100 (pwr (solX X Y (X 8 0) (X 8 1) (X 8 2) (X 8 3)) (solY X Y (X 8 0) (X 8 1) (X 8 2) (X 8 3))) ((solY X Y (X 8 0) (X 8 1) (X 8 2) (X 8 3)) 282 2))))) (solX X Y (X 8 0) (X 8 1) (X 8 2) (X 8 3)) (solY X Y (X 8 0) (X 8 1) (X 8 2) (X 8 3)) := by
  refine Ct.mk (by decide +kernel) (Nat.le_of_ble_eq_true rfl) rfl ?_
  intro p9 e9 s9 m9 args9 below9 meth9 c9 hE hr hlocks hK hI ls hl
  have hx := hE.1
  have hb := hE.2.1
  have hl : lv_has ls 2 [(0, .ref (o + 0)), (1, .int 1)] := hl
  refine lv_iload_n hx hb dX5_power_0 rfl (lv_at hl 1 rfl) ?_
  refine x_callSi hE hK hI (c_X5_isZeroOrOne l G o _ _ 1 ) mf_X5_isZeroOrOne mw_227 rfl hl.1 rfl (Nat.le_of_ble_eq_true rfl) ⟨(Nat.le_of_ble_eq_true rfl), (Nat.le_of_ble_eq_true rfl)⟩ ⟨Nat.zero_le _, Nat.zero_le _⟩ dX5_power_1 (fun H locs hI => ?_)
  refine lv_topi (fun z1 ez1 => ?_)
  obtain rfl : 1 = z1 := (ez1.trans (bI_t (by decide))).symm
  refine lv_if_ne (tgt := 11) hx hb dX5_power_4 (by decide) (fun _ => ?_) (fun q => absurd q (by decide))
  refine lv_aload_n hx hb dX5_power_11 rfl (lv_at hl 0 rfl) ?_
  refine x_get (k := 0) hE hK hI (by decide) inG5 (e_0 G o _ _) rfl 3 (by decide) mw_175 rfl dX5_power_12 ?_
  refine lv_aload_n hx hb dX5_power_15 rfl (lv_at hl 0 rfl) ?_
  refine x_get (k := 0) hE hK hI (by decide) inG5 (e_0 G o _ _) rfl 0 (by decide) mw_172 rfl dX5_power_16 ?_
  refine x_get (k := 1) hE hK hI (by decide) inG1 (e_1 G o _ _) rfl 0 (by decide) mw_139 rfl dX5_power_19 ?_
  refine lv_aload_n hx hb dX5_power_22 rfl (lv_at hl 0 rfl) ?_
  refine x_get (k := 0) hE hK hI (by decide) inG5 (e_0 G o _ _) rfl 0 (by decide) mw_172 rfl dX5_power_23 ?_
  refine x_get (k := 1) hE hK hI (by decide) inG1 (e_1 G o _ _) rfl 0 (by decide) mw_139 rfl dX5_power_26 ?_
  refine x_get (k := 2) hE hK hI (by decide) inG2 (e_2 G o _ _) rfl 1 (by decide) mw_37 rfl dX5_power_29 ?_
  refine x_callVv (k := 282) hE hK hI (c_X4_solve_8 l G o _ _ (X 8 0) (X 8 1) (X 8 2) (X 8 3) rfl rfl rfl rfl) mf_X4_solve mw_231 (by decide) ((e_282 G o) _ _) rfl rfl hl.1 rfl (Nat.le_of_ble_eq_true rfl) ⟨(Nat.le_of_ble_eq_true rfl), (Nat.le_of_ble_eq_true rfl)⟩ ⟨Nat.zero_le _, Nat.zero_le _⟩ dX5_power_32 (fun H locs hI => ?_)
  refine lv_aload_n hx hb dX5_power_35 rfl (lv_at hl 0 rfl) ?_
  refine x_get (k := 0) hE hK hI (by decide) inG5 (e_0 G o _ _) rfl 3 (by decide) mw_175 rfl dX5_power_36 ?_
  refine x_get (k := 282) hE hK hI (by decide) inG4 (e_282 G o _ _) rfl 3 (by decide) mw_160 rfl dX5_power_39 ?_
  refine lv_if_ne (tgt := 49) hx hb dX5_power_42 (by decide) (fun _ => ?_) (fun q => absurd q h)
  refine lv_aload_n hx hb dX5_power_49 rfl (lv_at hl 0 rfl) ?_
  refine x_get (k := 0) hE hK hI (by decide) inG5 (e_0 G o _ _) rfl 3 (by decide) mw_175 rfl dX5_power_50 ?_
  refine lv_aload_n hx hb dX5_power_53 rfl (lv_at hl 0 rfl) ?_
  refine x_get (k := 0) hE hK hI (by decide) inG5 (e_0 G o _ _) rfl 0 (by decide) mw_172 rfl dX5_power_54 ?_
  refine x_get (k := 1) hE hK hI (by decide) inG1 (e_1 G o _ _) rfl 0 (by decide) mw_139 rfl dX5_power_57 ?_
  refine x_get (k := 2) hE hK hI (by decide) inG2 (e_2 G o _ _) rfl 2 (by decide) mw_40 rfl dX5_power_60 ?_
  refine x_callVl (k := 282) hE hK hI (c_X4_scaledPower l G o _ _  ) mf_X4_scaledPower mw_275 (by decide) ((e_282 G o) _ _) rfl rfl hl.1 rfl (Nat.le_of_ble_eq_true rfl) ⟨(Nat.le_of_ble_eq_true rfl), (Nat.le_of_ble_eq_true rfl)⟩ ⟨Nat.zero_le _, Nat.zero_le _⟩ dX5_power_63 (fun H locs hI => ?_)
  refine lv_aload_n hx hb dX5_power_66 rfl (lv_at hl 0 rfl) ?_
  refine x_get (k := 0) hE hK hI (by decide) inG5 (e_0 G o _ _) rfl 3 (by decide) mw_175 rfl dX5_power_67 ?_
  refine x_get (k := 282) hE hK hI (by decide) inG4 (e_282 G o _ _) rfl 2 (by decide) mw_158 rfl dX5_power_70 ?_
  refine lv_iload_n hx hb dX5_power_73 rfl (lv_at hl 1 rfl) ?_
  refine x_callSl hE hK hI (c_X5_partOf_1 l G o _ _ (pwr (solX X Y (X 8 0) (X 8 1) (X 8 2) (X 8 3)) (solY X Y (X 8 0) (X 8 1) (X 8 2) (X 8 3))) ((solY X Y (X 8 0) (X 8 1) (X 8 2) (X 8 3)) 282 2) hg) mf_X5_partOf mw_244 rfl hl.1 rfl (Nat.le_of_ble_eq_true rfl) ⟨(Nat.le_of_ble_eq_true rfl), (Nat.le_of_ble_eq_true rfl)⟩ ⟨Nat.zero_le _, Nat.zero_le _⟩ dX5_power_74 (fun H locs hI => ?_)
  exact x_lret hE hr hlocks hI rfl rfl rfl dX5_power_77
set_option maxRecDepth 100000 in
set_option maxHeartbeats 4000000 in
theorem c_X5_cutPower_a (l : Launch) (G : GG) (o : Nat) (X : SX) (Y : SY) (u : Int32) (v : Int32) (h : ¬ (Wi u 0 4)) : Ct l yX5_cutPower cX5_cutPower 3 (some .long) 1 22 G o [.ref (o + 0), .int u, .int v] X Y (some (.long (-3))) X Y := by
  refine Ct.mk (by decide +kernel) (Nat.le_of_ble_eq_true rfl) rfl ?_
  intro p9 e9 s9 m9 args9 below9 meth9 c9 hE hr hlocks hK hI ls hl
  have hx := hE.1
  have hb := hE.2.1
  have hl : lv_has ls 3 [(0, .ref (o + 0)), (1, .int u), (2, .int v)] := hl
  refine lv_iload_n hx hb dX5_cutPower_0 rfl (lv_at hl 1 rfl) ?_
  refine lv_iconst (v := 0) hx hb dX5_cutPower_1 (by decide) ?_
  refine lv_iconst (v := 4) hx hb dX5_cutPower_2 (by decide) ?_
  refine x_callSi hE hK hI (c_X5_isWithin l G o _ _ u 0 4 ) mf_X5_isWithin mw_192 rfl hl.1 rfl (Nat.le_of_ble_eq_true rfl) ⟨(Nat.le_of_ble_eq_true rfl), (Nat.le_of_ble_eq_true rfl)⟩ ⟨Nat.zero_le _, Nat.zero_le _⟩ dX5_cutPower_3 (fun H locs hI => ?_)
  refine lv_topi (fun z1 ez1 => ?_)
  obtain rfl : 0 = z1 := (ez1.trans (bI_f h)).symm
  refine lv_if_eq (tgt := 16) hx hb dX5_cutPower_6 (by decide) (fun _ => ?_) (fun q => absurd (by decide) q)
  refine lv_ldc2 hx hb hE.2.2.2.1 (hE.2.2.2.2 _ mw_230) dX5_cutPower_16 ?_
  exact x_lret hE hr hlocks hI rfl rfl rfl dX5_cutPower_19
set_option maxRecDepth 100000 in
set_option maxHeartbeats 4000000 in
theorem c_X5_cutPower_b (l : Launch) (G : GG) (o : Nat) (X : SX) (Y : SY) (u : Int32) (v : Int32) (h1 : Wi u 0 4) (h : ¬ (v = 0 ∨ v = 1)) : Ct l yX5_cutPower cX5_cutPower 3 (some .long) 1 22 G o [.ref (o + 0), .int u, .int v] X Y (some (.long (-3))) X Y := by
  refine Ct.mk (by decide +kernel) (Nat.le_of_ble_eq_true rfl) rfl ?_
  intro p9 e9 s9 m9 args9 below9 meth9 c9 hE hr hlocks hK hI ls hl
  have hx := hE.1
  have hb := hE.2.1
  have hl : lv_has ls 3 [(0, .ref (o + 0)), (1, .int u), (2, .int v)] := hl
  refine lv_iload_n hx hb dX5_cutPower_0 rfl (lv_at hl 1 rfl) ?_
  refine lv_iconst (v := 0) hx hb dX5_cutPower_1 (by decide) ?_
  refine lv_iconst (v := 4) hx hb dX5_cutPower_2 (by decide) ?_
  refine x_callSi hE hK hI (c_X5_isWithin l G o _ _ u 0 4 ) mf_X5_isWithin mw_192 rfl hl.1 rfl (Nat.le_of_ble_eq_true rfl) ⟨(Nat.le_of_ble_eq_true rfl), (Nat.le_of_ble_eq_true rfl)⟩ ⟨Nat.zero_le _, Nat.zero_le _⟩ dX5_cutPower_3 (fun H locs hI => ?_)
  refine lv_topi (fun z1 ez1 => ?_)
  obtain rfl : 1 = z1 := (ez1.trans (bI_t h1)).symm
  refine lv_if_eq (tgt := 16) hx hb dX5_cutPower_6 (by decide) (fun q => absurd q (by decide)) (fun _ => ?_)
  refine lv_iload_n hx hb dX5_cutPower_9 rfl (lv_at hl 2 rfl) ?_
  refine x_callSi hE hK hI (c_X5_isZeroOrOne l G o _ _ v ) mf_X5_isZeroOrOne mw_227 rfl hl.1 rfl (Nat.le_of_ble_eq_true rfl) ⟨(Nat.le_of_ble_eq_true rfl), (Nat.le_of_ble_eq_true rfl)⟩ ⟨Nat.zero_le _, Nat.zero_le _⟩ dX5_cutPower_10 (fun H locs hI => ?_)
  refine lv_topi (fun z2 ez2 => ?_)
  obtain rfl : 0 = z2 := (ez2.trans (bI_f h)).symm
  refine lv_if_ne (tgt := 20) hx hb dX5_cutPower_13 (by decide) (fun q => absurd (by decide) q) (fun _ => ?_)
  refine lv_ldc2 hx hb hE.2.2.2.1 (hE.2.2.2.2 _ mw_230) dX5_cutPower_16 ?_
  exact x_lret hE hr hlocks hI rfl rfl rfl dX5_cutPower_19
set_option maxRecDepth 100000 in
set_option maxHeartbeats 4000000 in
theorem c_X5_cutPower_n0_0 (l : Launch) (G : GG) (o : Nat) (X : SX) (Y : SY) (h : (cu0X X Y) 282 3 = 0) : Ct l yX5_cutPower cX5_cutPower 3 (some .long) 4 99 G o [.ref (o + 0), .int 0, .int 0] X Y (some (.long (-5))) (cu0X X Y) (cu0Y X Y) := by
  refine Ct.mk (by decide +kernel) (Nat.le_of_ble_eq_true rfl) rfl ?_
  intro p9 e9 s9 m9 args9 below9 meth9 c9 hE hr hlocks hK hI ls hl
  have hx := hE.1
  have hb := hE.2.1
  have hl : lv_has ls 3 [(0, .ref (o + 0)), (1, .int 0), (2, .int 0)] := hl
  refine lv_iload_n hx hb dX5_cutPower_0 rfl (lv_at hl 1 rfl) ?_
  refine lv_iconst (v := 0) hx hb dX5_cutPower_1 (by decide) ?_
  refine lv_iconst (v := 4) hx hb dX5_cutPower_2 (by decide) ?_
  refine x_callSi hE hK hI (c_X5_isWithin l G o _ _ 0 0 4 ) mf_X5_isWithin mw_192 rfl hl.1 rfl (Nat.le_of_ble_eq_true rfl) ⟨(Nat.le_of_ble_eq_true rfl), (Nat.le_of_ble_eq_true rfl)⟩ ⟨Nat.zero_le _, Nat.zero_le _⟩ dX5_cutPower_3 (fun H locs hI => ?_)
  refine lv_topi (fun z1 ez1 => ?_)
  obtain rfl : 1 = z1 := (ez1.trans (bI_t (by decide))).symm
  refine lv_if_eq (tgt := 16) hx hb dX5_cutPower_6 (by decide) (fun q => absurd q (by decide)) (fun _ => ?_)
  refine lv_iload_n hx hb dX5_cutPower_9 rfl (lv_at hl 2 rfl) ?_
  refine x_callSi hE hK hI (c_X5_isZeroOrOne l G o _ _ 0 ) mf_X5_isZeroOrOne mw_227 rfl hl.1 rfl (Nat.le_of_ble_eq_true rfl) ⟨(Nat.le_of_ble_eq_true rfl), (Nat.le_of_ble_eq_true rfl)⟩ ⟨Nat.zero_le _, Nat.zero_le _⟩ dX5_cutPower_10 (fun H locs hI => ?_)
  refine lv_topi (fun z2 ez2 => ?_)
  obtain rfl : 1 = z2 := (ez2.trans (bI_t (by decide))).symm
  refine lv_if_ne (tgt := 20) hx hb dX5_cutPower_13 (by decide) (fun _ => ?_) (fun q => absurd q (by decide))
  refine lv_aload_n hx hb dX5_cutPower_20 rfl (lv_at hl 0 rfl) ?_
  refine x_get (k := 0) hE hK hI (by decide) inG5 (e_0 G o _ _) rfl 3 (by decide) mw_175 rfl dX5_cutPower_21 ?_
  refine lv_aload_n hx hb dX5_cutPower_24 rfl (lv_at hl 0 rfl) ?_
  refine x_get (k := 0) hE hK hI (by decide) inG5 (e_0 G o _ _) rfl 0 (by decide) mw_172 rfl dX5_cutPower_25 ?_
  refine x_get (k := 1) hE hK hI (by decide) inG1 (e_1 G o _ _) rfl 0 (by decide) mw_139 rfl dX5_cutPower_28 ?_
  refine lv_iload_n hx hb dX5_cutPower_31 rfl (lv_at hl 1 rfl) ?_
  refine x_callVv (k := 282) hE hK hI (c_X4_solveCut_0 l G o _ _  ) mf_X4_solveCut mw_283 (by decide) ((e_282 G o) _ _) rfl rfl hl.1 rfl (Nat.le_of_ble_eq_true rfl) ⟨(Nat.le_of_ble_eq_true rfl), (Nat.le_of_ble_eq_true rfl)⟩ ⟨Nat.zero_le _, Nat.zero_le _⟩ dX5_cutPower_32 (fun H locs hI => ?_)
  refine lv_aload_n hx hb dX5_cutPower_35 rfl (lv_at hl 0 rfl) ?_
  refine x_get (k := 0) hE hK hI (by decide) inG5 (e_0 G o _ _) rfl 3 (by decide) mw_175 rfl dX5_cutPower_36 ?_
  refine x_get (k := 282) hE hK hI (by decide) inG4 (e_282 G o _ _) rfl 3 (by decide) mw_160 rfl dX5_cutPower_39 ?_
  refine lv_if_ne (tgt := 49) hx hb dX5_cutPower_42 (by decide) (fun q => absurd h q) (fun _ => ?_)
  refine lv_ldc2 hx hb hE.2.2.2.1 (hE.2.2.2.2 _ mw_243) dX5_cutPower_45 ?_
  exact x_lret hE hr hlocks hI rfl rfl rfl dX5_cutPower_48
set_option maxRecDepth 100000 in
set_option maxHeartbeats 4000000 in
theorem c_X5_cutPower_y0_0 (l : Launch) (G : GG) (o : Nat) (X : SX) (Y : SY) (h : ¬ ((cu0X X Y) 282 3 = 0)) (hg : 1 ≤ gcdL 100 (pwr (cu0X X Y) (cu0Y X Y)) ((cu0Y X Y) 282 2)) : Ct l yX5_cutPower cX5_cutPower 3 (some .long) 4 99 G o [.ref (o + 0), .int 0, .int 0] X Y (some (.long ((pwr (cu0X X Y) (cu0Y X Y)) / (gcdL 100 (pwr (cu0X X Y) (cu0Y X Y)) ((cu0Y X Y) 282 2))))) (cu0X X Y) (cu0Y X Y) := by
  refine Ct.mk (by decide +kernel) (Nat.le_of_ble_eq_true rfl) rfl ?_
  intro p9 e9 s9 m9 args9 below9 meth9 c9 hE hr hlocks hK hI ls hl
  have hx := hE.1
  have hb := hE.2.1
  have hl : lv_has ls 3 [(0, .ref (o + 0)), (1, .int 0), (2, .int 0)] := hl
  refine lv_iload_n hx hb dX5_cutPower_0 rfl (lv_at hl 1 rfl) ?_
  refine lv_iconst (v := 0) hx hb dX5_cutPower_1 (by decide) ?_
  refine lv_iconst (v := 4) hx hb dX5_cutPower_2 (by decide) ?_
  refine x_callSi hE hK hI (c_X5_isWithin l G o _ _ 0 0 4 ) mf_X5_isWithin mw_192 rfl hl.1 rfl (Nat.le_of_ble_eq_true rfl) ⟨(Nat.le_of_ble_eq_true rfl), (Nat.le_of_ble_eq_true rfl)⟩ ⟨Nat.zero_le _, Nat.zero_le _⟩ dX5_cutPower_3 (fun H locs hI => ?_)
  refine lv_topi (fun z1 ez1 => ?_)
  obtain rfl : 1 = z1 := (ez1.trans (bI_t (by decide))).symm
  refine lv_if_eq (tgt := 16) hx hb dX5_cutPower_6 (by decide) (fun q => absurd q (by decide)) (fun _ => ?_)
  refine lv_iload_n hx hb dX5_cutPower_9 rfl (lv_at hl 2 rfl) ?_
  refine x_callSi hE hK hI (c_X5_isZeroOrOne l G o _ _ 0 ) mf_X5_isZeroOrOne mw_227 rfl hl.1 rfl (Nat.le_of_ble_eq_true rfl) ⟨(Nat.le_of_ble_eq_true rfl), (Nat.le_of_ble_eq_true rfl)⟩ ⟨Nat.zero_le _, Nat.zero_le _⟩ dX5_cutPower_10 (fun H locs hI => ?_)
  refine lv_topi (fun z2 ez2 => ?_)
  obtain rfl : 1 = z2 := (ez2.trans (bI_t (by decide))).symm
  refine lv_if_ne (tgt := 20) hx hb dX5_cutPower_13 (by decide) (fun _ => ?_) (fun q => absurd q (by decide))
  refine lv_aload_n hx hb dX5_cutPower_20 rfl (lv_at hl 0 rfl) ?_
  refine x_get (k := 0) hE hK hI (by decide) inG5 (e_0 G o _ _) rfl 3 (by decide) mw_175 rfl dX5_cutPower_21 ?_
  refine lv_aload_n hx hb dX5_cutPower_24 rfl (lv_at hl 0 rfl) ?_
  refine x_get (k := 0) hE hK hI (by decide) inG5 (e_0 G o _ _) rfl 0 (by decide) mw_172 rfl dX5_cutPower_25 ?_
  refine x_get (k := 1) hE hK hI (by decide) inG1 (e_1 G o _ _) rfl 0 (by decide) mw_139 rfl dX5_cutPower_28 ?_
  refine lv_iload_n hx hb dX5_cutPower_31 rfl (lv_at hl 1 rfl) ?_
  refine x_callVv (k := 282) hE hK hI (c_X4_solveCut_0 l G o _ _  ) mf_X4_solveCut mw_283 (by decide) ((e_282 G o) _ _) rfl rfl hl.1 rfl (Nat.le_of_ble_eq_true rfl) ⟨(Nat.le_of_ble_eq_true rfl), (Nat.le_of_ble_eq_true rfl)⟩ ⟨Nat.zero_le _, Nat.zero_le _⟩ dX5_cutPower_32 (fun H locs hI => ?_)
  refine lv_aload_n hx hb dX5_cutPower_35 rfl (lv_at hl 0 rfl) ?_
  refine x_get (k := 0) hE hK hI (by decide) inG5 (e_0 G o _ _) rfl 3 (by decide) mw_175 rfl dX5_cutPower_36 ?_
  refine x_get (k := 282) hE hK hI (by decide) inG4 (e_282 G o _ _) rfl 3 (by decide) mw_160 rfl dX5_cutPower_39 ?_
  refine lv_if_ne (tgt := 49) hx hb dX5_cutPower_42 (by decide) (fun _ => ?_) (fun q => absurd q h)
  refine lv_aload_n hx hb dX5_cutPower_49 rfl (lv_at hl 0 rfl) ?_
  refine x_get (k := 0) hE hK hI (by decide) inG5 (e_0 G o _ _) rfl 3 (by decide) mw_175 rfl dX5_cutPower_50 ?_
  refine lv_aload_n hx hb dX5_cutPower_53 rfl (lv_at hl 0 rfl) ?_
  refine x_get (k := 0) hE hK hI (by decide) inG5 (e_0 G o _ _) rfl 0 (by decide) mw_172 rfl dX5_cutPower_54 ?_
  refine x_get (k := 1) hE hK hI (by decide) inG1 (e_1 G o _ _) rfl 0 (by decide) mw_139 rfl dX5_cutPower_57 ?_
  refine x_get (k := 2) hE hK hI (by decide) inG2 (e_2 G o _ _) rfl 2 (by decide) mw_40 rfl dX5_cutPower_60 ?_
  refine x_callVl (k := 282) hE hK hI (c_X4_scaledPower l G o _ _  ) mf_X4_scaledPower mw_275 (by decide) ((e_282 G o) _ _) rfl rfl hl.1 rfl (Nat.le_of_ble_eq_true rfl) ⟨(Nat.le_of_ble_eq_true rfl), (Nat.le_of_ble_eq_true rfl)⟩ ⟨Nat.zero_le _, Nat.zero_le _⟩ dX5_cutPower_63 (fun H locs hI => ?_)
  refine lv_aload_n hx hb dX5_cutPower_66 rfl (lv_at hl 0 rfl) ?_
  refine x_get (k := 0) hE hK hI (by decide) inG5 (e_0 G o _ _) rfl 3 (by decide) mw_175 rfl dX5_cutPower_67 ?_
  refine x_get (k := 282) hE hK hI (by decide) inG4 (e_282 G o _ _) rfl 2 (by decide) mw_158 rfl dX5_cutPower_70 ?_
  refine lv_iload_n hx hb dX5_cutPower_73 rfl (lv_at hl 2 rfl) ?_
  refine x_callSl hE hK hI (c_X5_partOf_0 l G o _ _ (pwr (cu0X X Y) (cu0Y X Y)) ((cu0Y X Y) 282 2) hg) mf_X5_partOf mw_244 rfl hl.1 rfl (Nat.le_of_ble_eq_true rfl) ⟨(Nat.le_of_ble_eq_true rfl), (Nat.le_of_ble_eq_true rfl)⟩ ⟨Nat.zero_le _, Nat.zero_le _⟩ dX5_cutPower_74 (fun H locs hI => ?_)
  exact x_lret hE hr hlocks hI rfl rfl rfl dX5_cutPower_77
set_option maxRecDepth 100000 in
set_option maxHeartbeats 4000000 in
theorem c_X5_cutPower_n1_0 (l : Launch) (G : GG) (o : Nat) (X : SX) (Y : SY) (h : (cu0X X Y) 282 3 = 0) : Ct l yX5_cutPower cX5_cutPower 3 (some .long) 4 99 G o [.ref (o + 0), .int 0, .int 1] X Y (some (.long (-5))) (cu0X X Y) (cu0Y X Y) := by
  refine Ct.mk (by decide +kernel) (Nat.le_of_ble_eq_true rfl) rfl ?_
  intro p9 e9 s9 m9 args9 below9 meth9 c9 hE hr hlocks hK hI ls hl
  have hx := hE.1
  have hb := hE.2.1
  have hl : lv_has ls 3 [(0, .ref (o + 0)), (1, .int 0), (2, .int 1)] := hl
  refine lv_iload_n hx hb dX5_cutPower_0 rfl (lv_at hl 1 rfl) ?_
  refine lv_iconst (v := 0) hx hb dX5_cutPower_1 (by decide) ?_
  refine lv_iconst (v := 4) hx hb dX5_cutPower_2 (by decide) ?_
  refine x_callSi hE hK hI (c_X5_isWithin l G o _ _ 0 0 4 ) mf_X5_isWithin mw_192 rfl hl.1 rfl (Nat.le_of_ble_eq_true rfl) ⟨(Nat.le_of_ble_eq_true rfl), (Nat.le_of_ble_eq_true rfl)⟩ ⟨Nat.zero_le _, Nat.zero_le _⟩ dX5_cutPower_3 (fun H locs hI => ?_)
  refine lv_topi (fun z1 ez1 => ?_)
  obtain rfl : 1 = z1 := (ez1.trans (bI_t (by decide))).symm
  refine lv_if_eq (tgt := 16) hx hb dX5_cutPower_6 (by decide) (fun q => absurd q (by decide)) (fun _ => ?_)
  refine lv_iload_n hx hb dX5_cutPower_9 rfl (lv_at hl 2 rfl) ?_
  refine x_callSi hE hK hI (c_X5_isZeroOrOne l G o _ _ 1 ) mf_X5_isZeroOrOne mw_227 rfl hl.1 rfl (Nat.le_of_ble_eq_true rfl) ⟨(Nat.le_of_ble_eq_true rfl), (Nat.le_of_ble_eq_true rfl)⟩ ⟨Nat.zero_le _, Nat.zero_le _⟩ dX5_cutPower_10 (fun H locs hI => ?_)
  refine lv_topi (fun z2 ez2 => ?_)
  obtain rfl : 1 = z2 := (ez2.trans (bI_t (by decide))).symm
  refine lv_if_ne (tgt := 20) hx hb dX5_cutPower_13 (by decide) (fun _ => ?_) (fun q => absurd q (by decide))
  refine lv_aload_n hx hb dX5_cutPower_20 rfl (lv_at hl 0 rfl) ?_
  refine x_get (k := 0) hE hK hI (by decide) inG5 (e_0 G o _ _) rfl 3 (by decide) mw_175 rfl dX5_cutPower_21 ?_
  refine lv_aload_n hx hb dX5_cutPower_24 rfl (lv_at hl 0 rfl) ?_
  refine x_get (k := 0) hE hK hI (by decide) inG5 (e_0 G o _ _) rfl 0 (by decide) mw_172 rfl dX5_cutPower_25 ?_
  refine x_get (k := 1) hE hK hI (by decide) inG1 (e_1 G o _ _) rfl 0 (by decide) mw_139 rfl dX5_cutPower_28 ?_
  refine lv_iload_n hx hb dX5_cutPower_31 rfl (lv_at hl 1 rfl) ?_
  refine x_callVv (k := 282) hE hK hI (c_X4_solveCut_0 l G o _ _  ) mf_X4_solveCut mw_283 (by decide) ((e_282 G o) _ _) rfl rfl hl.1 rfl (Nat.le_of_ble_eq_true rfl) ⟨(Nat.le_of_ble_eq_true rfl), (Nat.le_of_ble_eq_true rfl)⟩ ⟨Nat.zero_le _, Nat.zero_le _⟩ dX5_cutPower_32 (fun H locs hI => ?_)
  refine lv_aload_n hx hb dX5_cutPower_35 rfl (lv_at hl 0 rfl) ?_
  refine x_get (k := 0) hE hK hI (by decide) inG5 (e_0 G o _ _) rfl 3 (by decide) mw_175 rfl dX5_cutPower_36 ?_
  refine x_get (k := 282) hE hK hI (by decide) inG4 (e_282 G o _ _) rfl 3 (by decide) mw_160 rfl dX5_cutPower_39 ?_
  refine lv_if_ne (tgt := 49) hx hb dX5_cutPower_42 (by decide) (fun q => absurd h q) (fun _ => ?_)
  refine lv_ldc2 hx hb hE.2.2.2.1 (hE.2.2.2.2 _ mw_243) dX5_cutPower_45 ?_
  exact x_lret hE hr hlocks hI rfl rfl rfl dX5_cutPower_48
set_option maxRecDepth 100000 in
set_option maxHeartbeats 4000000 in
theorem c_X5_cutPower_y1_0 (l : Launch) (G : GG) (o : Nat) (X : SX) (Y : SY) (h : ¬ ((cu0X X Y) 282 3 = 0)) (hg : 1 ≤ gcdL 100 (pwr (cu0X X Y) (cu0Y X Y)) ((cu0Y X Y) 282 2)) : Ct l yX5_cutPower cX5_cutPower 3 (some .long) 4 99 G o [.ref (o + 0), .int 0, .int 1] X Y (some (.long (((cu0Y X Y) 282 2) / (gcdL 100 (pwr (cu0X X Y) (cu0Y X Y)) ((cu0Y X Y) 282 2))))) (cu0X X Y) (cu0Y X Y) := by
  refine Ct.mk (by decide +kernel) (Nat.le_of_ble_eq_true rfl) rfl ?_
  intro p9 e9 s9 m9 args9 below9 meth9 c9 hE hr hlocks hK hI ls hl
  have hx := hE.1
  have hb := hE.2.1
  have hl : lv_has ls 3 [(0, .ref (o + 0)), (1, .int 0), (2, .int 1)] := hl
  refine lv_iload_n hx hb dX5_cutPower_0 rfl (lv_at hl 1 rfl) ?_
  refine lv_iconst (v := 0) hx hb dX5_cutPower_1 (by decide) ?_
  refine lv_iconst (v := 4) hx hb dX5_cutPower_2 (by decide) ?_
  refine x_callSi hE hK hI (c_X5_isWithin l G o _ _ 0 0 4 ) mf_X5_isWithin mw_192 rfl hl.1 rfl (Nat.le_of_ble_eq_true rfl) ⟨(Nat.le_of_ble_eq_true rfl), (Nat.le_of_ble_eq_true rfl)⟩ ⟨Nat.zero_le _, Nat.zero_le _⟩ dX5_cutPower_3 (fun H locs hI => ?_)
  refine lv_topi (fun z1 ez1 => ?_)
  obtain rfl : 1 = z1 := (ez1.trans (bI_t (by decide))).symm
  refine lv_if_eq (tgt := 16) hx hb dX5_cutPower_6 (by decide) (fun q => absurd q (by decide)) (fun _ => ?_)
  refine lv_iload_n hx hb dX5_cutPower_9 rfl (lv_at hl 2 rfl) ?_
  refine x_callSi hE hK hI (c_X5_isZeroOrOne l G o _ _ 1 ) mf_X5_isZeroOrOne mw_227 rfl hl.1 rfl (Nat.le_of_ble_eq_true rfl) ⟨(Nat.le_of_ble_eq_true rfl), (Nat.le_of_ble_eq_true rfl)⟩ ⟨Nat.zero_le _, Nat.zero_le _⟩ dX5_cutPower_10 (fun H locs hI => ?_)
  refine lv_topi (fun z2 ez2 => ?_)
  obtain rfl : 1 = z2 := (ez2.trans (bI_t (by decide))).symm
  refine lv_if_ne (tgt := 20) hx hb dX5_cutPower_13 (by decide) (fun _ => ?_) (fun q => absurd q (by decide))
  refine lv_aload_n hx hb dX5_cutPower_20 rfl (lv_at hl 0 rfl) ?_
  refine x_get (k := 0) hE hK hI (by decide) inG5 (e_0 G o _ _) rfl 3 (by decide) mw_175 rfl dX5_cutPower_21 ?_
  refine lv_aload_n hx hb dX5_cutPower_24 rfl (lv_at hl 0 rfl) ?_
  refine x_get (k := 0) hE hK hI (by decide) inG5 (e_0 G o _ _) rfl 0 (by decide) mw_172 rfl dX5_cutPower_25 ?_
  refine x_get (k := 1) hE hK hI (by decide) inG1 (e_1 G o _ _) rfl 0 (by decide) mw_139 rfl dX5_cutPower_28 ?_
  refine lv_iload_n hx hb dX5_cutPower_31 rfl (lv_at hl 1 rfl) ?_
  refine x_callVv (k := 282) hE hK hI (c_X4_solveCut_0 l G o _ _  ) mf_X4_solveCut mw_283 (by decide) ((e_282 G o) _ _) rfl rfl hl.1 rfl (Nat.le_of_ble_eq_true rfl) ⟨(Nat.le_of_ble_eq_true rfl), (Nat.le_of_ble_eq_true rfl)⟩ ⟨Nat.zero_le _, Nat.zero_le _⟩ dX5_cutPower_32 (fun H locs hI => ?_)
  refine lv_aload_n hx hb dX5_cutPower_35 rfl (lv_at hl 0 rfl) ?_
  refine x_get (k := 0) hE hK hI (by decide) inG5 (e_0 G o _ _) rfl 3 (by decide) mw_175 rfl dX5_cutPower_36 ?_
  refine x_get (k := 282) hE hK hI (by decide) inG4 (e_282 G o _ _) rfl 3 (by decide) mw_160 rfl dX5_cutPower_39 ?_
  refine lv_if_ne (tgt := 49) hx hb dX5_cutPower_42 (by decide) (fun _ => ?_) (fun q => absurd q h)
  refine lv_aload_n hx hb dX5_cutPower_49 rfl (lv_at hl 0 rfl) ?_
  refine x_get (k := 0) hE hK hI (by decide) inG5 (e_0 G o _ _) rfl 3 (by decide) mw_175 rfl dX5_cutPower_50 ?_
  refine lv_aload_n hx hb dX5_cutPower_53 rfl (lv_at hl 0 rfl) ?_
  refine x_get (k := 0) hE hK hI (by decide) inG5 (e_0 G o _ _) rfl 0 (by decide) mw_172 rfl dX5_cutPower_54 ?_
  refine x_get (k := 1) hE hK hI (by decide) inG1 (e_1 G o _ _) rfl 0 (by decide) mw_139 rfl dX5_cutPower_57 ?_
  refine x_get (k := 2) hE hK hI (by decide) inG2 (e_2 G o _ _) rfl 2 (by decide) mw_40 rfl dX5_cutPower_60 ?_
  refine x_callVl (k := 282) hE hK hI (c_X4_scaledPower l G o _ _  ) mf_X4_scaledPower mw_275 (by decide) ((e_282 G o) _ _) rfl rfl hl.1 rfl (Nat.le_of_ble_eq_true rfl) ⟨(Nat.le_of_ble_eq_true rfl), (Nat.le_of_ble_eq_true rfl)⟩ ⟨Nat.zero_le _, Nat.zero_le _⟩ dX5_cutPower_63 (fun H locs hI => ?_)
  refine lv_aload_n hx hb dX5_cutPower_66 rfl (lv_at hl 0 rfl) ?_
  refine x_get (k := 0) hE hK hI (by decide) inG5 (e_0 G o _ _) rfl 3 (by decide) mw_175 rfl dX5_cutPower_67 ?_
  refine x_get (k := 282) hE hK hI (by decide) inG4 (e_282 G o _ _) rfl 2 (by decide) mw_158 rfl dX5_cutPower_70 ?_
  refine lv_iload_n hx hb dX5_cutPower_73 rfl (lv_at hl 2 rfl) ?_
  refine x_callSl hE hK hI (c_X5_partOf_1 l G o _ _ (pwr (cu0X X Y) (cu0Y X Y)) ((cu0Y X Y) 282 2) hg) mf_X5_partOf mw_244 rfl hl.1 rfl (Nat.le_of_ble_eq_true rfl) ⟨(Nat.le_of_ble_eq_true rfl), (Nat.le_of_ble_eq_true rfl)⟩ ⟨Nat.zero_le _, Nat.zero_le _⟩ dX5_cutPower_74 (fun H locs hI => ?_)
  exact x_lret hE hr hlocks hI rfl rfl rfl dX5_cutPower_77
set_option maxRecDepth 100000 in
set_option maxHeartbeats 4000000 in
theorem c_X5_cutPower_n0_1 (l : Launch) (G : GG) (o : Nat) (X : SX) (Y : SY) (h : (cu1X X Y) 282 3 = 0) : Ct l yX5_cutPower cX5_cutPower 3 (some .long) 4 99 G o [.ref (o + 0), .int 1, .int 0] X Y (some (.long (-5))) (cu1X X Y) (cu1Y X Y) := by
  refine Ct.mk (by decide +kernel) (Nat.le_of_ble_eq_true rfl) rfl ?_
  intro p9 e9 s9 m9 args9 below9 meth9 c9 hE hr hlocks hK hI ls hl
  have hx := hE.1
  have hb := hE.2.1
  have hl : lv_has ls 3 [(0, .ref (o + 0)), (1, .int 1), (2, .int 0)] := hl
  refine lv_iload_n hx hb dX5_cutPower_0 rfl (lv_at hl 1 rfl) ?_
  refine lv_iconst (v := 0) hx hb dX5_cutPower_1 (by decide) ?_
  refine lv_iconst (v := 4) hx hb dX5_cutPower_2 (by decide) ?_
  refine x_callSi hE hK hI (c_X5_isWithin l G o _ _ 1 0 4 ) mf_X5_isWithin mw_192 rfl hl.1 rfl (Nat.le_of_ble_eq_true rfl) ⟨(Nat.le_of_ble_eq_true rfl), (Nat.le_of_ble_eq_true rfl)⟩ ⟨Nat.zero_le _, Nat.zero_le _⟩ dX5_cutPower_3 (fun H locs hI => ?_)
  refine lv_topi (fun z1 ez1 => ?_)
  obtain rfl : 1 = z1 := (ez1.trans (bI_t (by decide))).symm
  refine lv_if_eq (tgt := 16) hx hb dX5_cutPower_6 (by decide) (fun q => absurd q (by decide)) (fun _ => ?_)
  refine lv_iload_n hx hb dX5_cutPower_9 rfl (lv_at hl 2 rfl) ?_
  refine x_callSi hE hK hI (c_X5_isZeroOrOne l G o _ _ 0 ) mf_X5_isZeroOrOne mw_227 rfl hl.1 rfl (Nat.le_of_ble_eq_true rfl) ⟨(Nat.le_of_ble_eq_true rfl), (Nat.le_of_ble_eq_true rfl)⟩ ⟨Nat.zero_le _, Nat.zero_le _⟩ dX5_cutPower_10 (fun H locs hI => ?_)
  refine lv_topi (fun z2 ez2 => ?_)
  obtain rfl : 1 = z2 := (ez2.trans (bI_t (by decide))).symm
  refine lv_if_ne (tgt := 20) hx hb dX5_cutPower_13 (by decide) (fun _ => ?_) (fun q => absurd q (by decide))
  refine lv_aload_n hx hb dX5_cutPower_20 rfl (lv_at hl 0 rfl) ?_
  refine x_get (k := 0) hE hK hI (by decide) inG5 (e_0 G o _ _) rfl 3 (by decide) mw_175 rfl dX5_cutPower_21 ?_
  refine lv_aload_n hx hb dX5_cutPower_24 rfl (lv_at hl 0 rfl) ?_
  refine x_get (k := 0) hE hK hI (by decide) inG5 (e_0 G o _ _) rfl 0 (by decide) mw_172 rfl dX5_cutPower_25 ?_
  refine x_get (k := 1) hE hK hI (by decide) inG1 (e_1 G o _ _) rfl 0 (by decide) mw_139 rfl dX5_cutPower_28 ?_
  refine lv_iload_n hx hb dX5_cutPower_31 rfl (lv_at hl 1 rfl) ?_
  refine x_callVv (k := 282) hE hK hI (c_X4_solveCut_1 l G o _ _  ) mf_X4_solveCut mw_283 (by decide) ((e_282 G o) _ _) rfl rfl hl.1 rfl (Nat.le_of_ble_eq_true rfl) ⟨(Nat.le_of_ble_eq_true rfl), (Nat.le_of_ble_eq_true rfl)⟩ ⟨Nat.zero_le _, Nat.zero_le _⟩ dX5_cutPower_32 (fun H locs hI => ?_)
  refine lv_aload_n hx hb dX5_cutPower_35 rfl (lv_at hl 0 rfl) ?_
  refine x_get (k := 0) hE hK hI (by decide) inG5 (e_0 G o _ _) rfl 3 (by decide) mw_175 rfl dX5_cutPower_36 ?_
  refine x_get (k := 282) hE hK hI (by decide) inG4 (e_282 G o _ _) rfl 3 (by decide) mw_160 rfl dX5_cutPower_39 ?_
  refine lv_if_ne (tgt := 49) hx hb dX5_cutPower_42 (by decide) (fun q => absurd h q) (fun _ => ?_)
  refine lv_ldc2 hx hb hE.2.2.2.1 (hE.2.2.2.2 _ mw_243) dX5_cutPower_45 ?_
  exact x_lret hE hr hlocks hI rfl rfl rfl dX5_cutPower_48
set_option maxRecDepth 100000 in
set_option maxHeartbeats 4000000 in
theorem c_X5_cutPower_y0_1 (l : Launch) (G : GG) (o : Nat) (X : SX) (Y : SY) (h : ¬ ((cu1X X Y) 282 3 = 0)) (hg : 1 ≤ gcdL 100 (pwr (cu1X X Y) (cu1Y X Y)) ((cu1Y X Y) 282 2)) : Ct l yX5_cutPower cX5_cutPower 3 (some .long) 4 99 G o [.ref (o + 0), .int 1, .int 0] X Y (some (.long ((pwr (cu1X X Y) (cu1Y X Y)) / (gcdL 100 (pwr (cu1X X Y) (cu1Y X Y)) ((cu1Y X Y) 282 2))))) (cu1X X Y) (cu1Y X Y) := by
  refine Ct.mk (by decide +kernel) (Nat.le_of_ble_eq_true rfl) rfl ?_
  intro p9 e9 s9 m9 args9 below9 meth9 c9 hE hr hlocks hK hI ls hl
  have hx := hE.1
  have hb := hE.2.1
  have hl : lv_has ls 3 [(0, .ref (o + 0)), (1, .int 1), (2, .int 0)] := hl
  refine lv_iload_n hx hb dX5_cutPower_0 rfl (lv_at hl 1 rfl) ?_
  refine lv_iconst (v := 0) hx hb dX5_cutPower_1 (by decide) ?_
  refine lv_iconst (v := 4) hx hb dX5_cutPower_2 (by decide) ?_
  refine x_callSi hE hK hI (c_X5_isWithin l G o _ _ 1 0 4 ) mf_X5_isWithin mw_192 rfl hl.1 rfl (Nat.le_of_ble_eq_true rfl) ⟨(Nat.le_of_ble_eq_true rfl), (Nat.le_of_ble_eq_true rfl)⟩ ⟨Nat.zero_le _, Nat.zero_le _⟩ dX5_cutPower_3 (fun H locs hI => ?_)
  refine lv_topi (fun z1 ez1 => ?_)
  obtain rfl : 1 = z1 := (ez1.trans (bI_t (by decide))).symm
  refine lv_if_eq (tgt := 16) hx hb dX5_cutPower_6 (by decide) (fun q => absurd q (by decide)) (fun _ => ?_)
  refine lv_iload_n hx hb dX5_cutPower_9 rfl (lv_at hl 2 rfl) ?_
  refine x_callSi hE hK hI (c_X5_isZeroOrOne l G o _ _ 0 ) mf_X5_isZeroOrOne mw_227 rfl hl.1 rfl (Nat.le_of_ble_eq_true rfl) ⟨(Nat.le_of_ble_eq_true rfl), (Nat.le_of_ble_eq_true rfl)⟩ ⟨Nat.zero_le _, Nat.zero_le _⟩ dX5_cutPower_10 (fun H locs hI => ?_)
  refine lv_topi (fun z2 ez2 => ?_)
  obtain rfl : 1 = z2 := (ez2.trans (bI_t (by decide))).symm
  refine lv_if_ne (tgt := 20) hx hb dX5_cutPower_13 (by decide) (fun _ => ?_) (fun q => absurd q (by decide))
  refine lv_aload_n hx hb dX5_cutPower_20 rfl (lv_at hl 0 rfl) ?_
  refine x_get (k := 0) hE hK hI (by decide) inG5 (e_0 G o _ _) rfl 3 (by decide) mw_175 rfl dX5_cutPower_21 ?_
  refine lv_aload_n hx hb dX5_cutPower_24 rfl (lv_at hl 0 rfl) ?_
  refine x_get (k := 0) hE hK hI (by decide) inG5 (e_0 G o _ _) rfl 0 (by decide) mw_172 rfl dX5_cutPower_25 ?_
  refine x_get (k := 1) hE hK hI (by decide) inG1 (e_1 G o _ _) rfl 0 (by decide) mw_139 rfl dX5_cutPower_28 ?_
  refine lv_iload_n hx hb dX5_cutPower_31 rfl (lv_at hl 1 rfl) ?_
  refine x_callVv (k := 282) hE hK hI (c_X4_solveCut_1 l G o _ _  ) mf_X4_solveCut mw_283 (by decide) ((e_282 G o) _ _) rfl rfl hl.1 rfl (Nat.le_of_ble_eq_true rfl) ⟨(Nat.le_of_ble_eq_true rfl), (Nat.le_of_ble_eq_true rfl)⟩ ⟨Nat.zero_le _, Nat.zero_le _⟩ dX5_cutPower_32 (fun H locs hI => ?_)
  refine lv_aload_n hx hb dX5_cutPower_35 rfl (lv_at hl 0 rfl) ?_
  refine x_get (k := 0) hE hK hI (by decide) inG5 (e_0 G o _ _) rfl 3 (by decide) mw_175 rfl dX5_cutPower_36 ?_
  refine x_get (k := 282) hE hK hI (by decide) inG4 (e_282 G o _ _) rfl 3 (by decide) mw_160 rfl dX5_cutPower_39 ?_
  refine lv_if_ne (tgt := 49) hx hb dX5_cutPower_42 (by decide) (fun _ => ?_) (fun q => absurd q h)
  refine lv_aload_n hx hb dX5_cutPower_49 rfl (lv_at hl 0 rfl) ?_
  refine x_get (k := 0) hE hK hI (by decide) inG5 (e_0 G o _ _) rfl 3 (by decide) mw_175 rfl dX5_cutPower_50 ?_
  refine lv_aload_n hx hb dX5_cutPower_53 rfl (lv_at hl 0 rfl) ?_
  refine x_get (k := 0) hE hK hI (by decide) inG5 (e_0 G o _ _) rfl 0 (by decide) mw_172 rfl dX5_cutPower_54 ?_
  refine x_get (k := 1) hE hK hI (by decide) inG1 (e_1 G o _ _) rfl 0 (by decide) mw_139 rfl dX5_cutPower_57 ?_
  refine x_get (k := 2) hE hK hI (by decide) inG2 (e_2 G o _ _) rfl 2 (by decide) mw_40 rfl dX5_cutPower_60 ?_
  refine x_callVl (k := 282) hE hK hI (c_X4_scaledPower l G o _ _  ) mf_X4_scaledPower mw_275 (by decide) ((e_282 G o) _ _) rfl rfl hl.1 rfl (Nat.le_of_ble_eq_true rfl) ⟨(Nat.le_of_ble_eq_true rfl), (Nat.le_of_ble_eq_true rfl)⟩ ⟨Nat.zero_le _, Nat.zero_le _⟩ dX5_cutPower_63 (fun H locs hI => ?_)
  refine lv_aload_n hx hb dX5_cutPower_66 rfl (lv_at hl 0 rfl) ?_
  refine x_get (k := 0) hE hK hI (by decide) inG5 (e_0 G o _ _) rfl 3 (by decide) mw_175 rfl dX5_cutPower_67 ?_
  refine x_get (k := 282) hE hK hI (by decide) inG4 (e_282 G o _ _) rfl 2 (by decide) mw_158 rfl dX5_cutPower_70 ?_
  refine lv_iload_n hx hb dX5_cutPower_73 rfl (lv_at hl 2 rfl) ?_
  refine x_callSl hE hK hI (c_X5_partOf_0 l G o _ _ (pwr (cu1X X Y) (cu1Y X Y)) ((cu1Y X Y) 282 2) hg) mf_X5_partOf mw_244 rfl hl.1 rfl (Nat.le_of_ble_eq_true rfl) ⟨(Nat.le_of_ble_eq_true rfl), (Nat.le_of_ble_eq_true rfl)⟩ ⟨Nat.zero_le _, Nat.zero_le _⟩ dX5_cutPower_74 (fun H locs hI => ?_)
  exact x_lret hE hr hlocks hI rfl rfl rfl dX5_cutPower_77
set_option maxRecDepth 100000 in
set_option maxHeartbeats 4000000 in
theorem c_X5_cutPower_n1_1 (l : Launch) (G : GG) (o : Nat) (X : SX) (Y : SY) (h : (cu1X X Y) 282 3 = 0) : Ct l yX5_cutPower cX5_cutPower 3 (some .long) 4 99 G o [.ref (o + 0), .int 1, .int 1] X Y (some (.long (-5))) (cu1X X Y) (cu1Y X Y) := by
  refine Ct.mk (by decide +kernel) (Nat.le_of_ble_eq_true rfl) rfl ?_
  intro p9 e9 s9 m9 args9 below9 meth9 c9 hE hr hlocks hK hI ls hl
  have hx := hE.1
  have hb := hE.2.1
  have hl : lv_has ls 3 [(0, .ref (o + 0)), (1, .int 1), (2, .int 1)] := hl
  refine lv_iload_n hx hb dX5_cutPower_0 rfl (lv_at hl 1 rfl) ?_
  refine lv_iconst (v := 0) hx hb dX5_cutPower_1 (by decide) ?_
  refine lv_iconst (v := 4) hx hb dX5_cutPower_2 (by decide) ?_
  refine x_callSi hE hK hI (c_X5_isWithin l G o _ _ 1 0 4 ) mf_X5_isWithin mw_192 rfl hl.1 rfl (Nat.le_of_ble_eq_true rfl) ⟨(Nat.le_of_ble_eq_true rfl), (Nat.le_of_ble_eq_true rfl)⟩ ⟨Nat.zero_le _, Nat.zero_le _⟩ dX5_cutPower_3 (fun H locs hI => ?_)
  refine lv_topi (fun z1 ez1 => ?_)
  obtain rfl : 1 = z1 := (ez1.trans (bI_t (by decide))).symm
  refine lv_if_eq (tgt := 16) hx hb dX5_cutPower_6 (by decide) (fun q => absurd q (by decide)) (fun _ => ?_)
  refine lv_iload_n hx hb dX5_cutPower_9 rfl (lv_at hl 2 rfl) ?_
  refine x_callSi hE hK hI (c_X5_isZeroOrOne l G o _ _ 1 ) mf_X5_isZeroOrOne mw_227 rfl hl.1 rfl (Nat.le_of_ble_eq_true rfl) ⟨(Nat.le_of_ble_eq_true rfl), (Nat.le_of_ble_eq_true rfl)⟩ ⟨Nat.zero_le _, Nat.zero_le _⟩ dX5_cutPower_10 (fun H locs hI => ?_)
  refine lv_topi (fun z2 ez2 => ?_)
  obtain rfl : 1 = z2 := (ez2.trans (bI_t (by decide))).symm
  refine lv_if_ne (tgt := 20) hx hb dX5_cutPower_13 (by decide) (fun _ => ?_) (fun q => absurd q (by decide))
  refine lv_aload_n hx hb dX5_cutPower_20 rfl (lv_at hl 0 rfl) ?_
  refine x_get (k := 0) hE hK hI (by decide) inG5 (e_0 G o _ _) rfl 3 (by decide) mw_175 rfl dX5_cutPower_21 ?_
  refine lv_aload_n hx hb dX5_cutPower_24 rfl (lv_at hl 0 rfl) ?_
  refine x_get (k := 0) hE hK hI (by decide) inG5 (e_0 G o _ _) rfl 0 (by decide) mw_172 rfl dX5_cutPower_25 ?_
  refine x_get (k := 1) hE hK hI (by decide) inG1 (e_1 G o _ _) rfl 0 (by decide) mw_139 rfl dX5_cutPower_28 ?_
  refine lv_iload_n hx hb dX5_cutPower_31 rfl (lv_at hl 1 rfl) ?_
  refine x_callVv (k := 282) hE hK hI (c_X4_solveCut_1 l G o _ _  ) mf_X4_solveCut mw_283 (by decide) ((e_282 G o) _ _) rfl rfl hl.1 rfl (Nat.le_of_ble_eq_true rfl) ⟨(Nat.le_of_ble_eq_true rfl), (Nat.le_of_ble_eq_true rfl)⟩ ⟨Nat.zero_le _, Nat.zero_le _⟩ dX5_cutPower_32 (fun H locs hI => ?_)
  refine lv_aload_n hx hb dX5_cutPower_35 rfl (lv_at hl 0 rfl) ?_
  refine x_get (k := 0) hE hK hI (by decide) inG5 (e_0 G o _ _) rfl 3 (by decide) mw_175 rfl dX5_cutPower_36 ?_
  refine x_get (k := 282) hE hK hI (by decide) inG4 (e_282 G o _ _) rfl 3 (by decide) mw_160 rfl dX5_cutPower_39 ?_
  refine lv_if_ne (tgt := 49) hx hb dX5_cutPower_42 (by decide) (fun q => absurd h q) (fun _ => ?_)
  refine lv_ldc2 hx hb hE.2.2.2.1 (hE.2.2.2.2 _ mw_243) dX5_cutPower_45 ?_
  exact x_lret hE hr hlocks hI rfl rfl rfl dX5_cutPower_48
set_option maxRecDepth 100000 in
set_option maxHeartbeats 4000000 in
theorem c_X5_cutPower_y1_1 (l : Launch) (G : GG) (o : Nat) (X : SX) (Y : SY) (h : ¬ ((cu1X X Y) 282 3 = 0)) (hg : 1 ≤ gcdL 100 (pwr (cu1X X Y) (cu1Y X Y)) ((cu1Y X Y) 282 2)) : Ct l yX5_cutPower cX5_cutPower 3 (some .long) 4 99 G o [.ref (o + 0), .int 1, .int 1] X Y (some (.long (((cu1Y X Y) 282 2) / (gcdL 100 (pwr (cu1X X Y) (cu1Y X Y)) ((cu1Y X Y) 282 2))))) (cu1X X Y) (cu1Y X Y) := by
  refine Ct.mk (by decide +kernel) (Nat.le_of_ble_eq_true rfl) rfl ?_
  intro p9 e9 s9 m9 args9 below9 meth9 c9 hE hr hlocks hK hI ls hl
  have hx := hE.1
  have hb := hE.2.1
  have hl : lv_has ls 3 [(0, .ref (o + 0)), (1, .int 1), (2, .int 1)] := hl
  refine lv_iload_n hx hb dX5_cutPower_0 rfl (lv_at hl 1 rfl) ?_
  refine lv_iconst (v := 0) hx hb dX5_cutPower_1 (by decide) ?_
  refine lv_iconst (v := 4) hx hb dX5_cutPower_2 (by decide) ?_
  refine x_callSi hE hK hI (c_X5_isWithin l G o _ _ 1 0 4 ) mf_X5_isWithin mw_192 rfl hl.1 rfl (Nat.le_of_ble_eq_true rfl) ⟨(Nat.le_of_ble_eq_true rfl), (Nat.le_of_ble_eq_true rfl)⟩ ⟨Nat.zero_le _, Nat.zero_le _⟩ dX5_cutPower_3 (fun H locs hI => ?_)
  refine lv_topi (fun z1 ez1 => ?_)
  obtain rfl : 1 = z1 := (ez1.trans (bI_t (by decide))).symm
  refine lv_if_eq (tgt := 16) hx hb dX5_cutPower_6 (by decide) (fun q => absurd q (by decide)) (fun _ => ?_)
  refine lv_iload_n hx hb dX5_cutPower_9 rfl (lv_at hl 2 rfl) ?_
  refine x_callSi hE hK hI (c_X5_isZeroOrOne l G o _ _ 1 ) mf_X5_isZeroOrOne mw_227 rfl hl.1 rfl (Nat.le_of_ble_eq_true rfl) ⟨(Nat.le_of_ble_eq_true rfl), (Nat.le_of_ble_eq_true rfl)⟩ ⟨Nat.zero_le _, Nat.zero_le _⟩ dX5_cutPower_10 (fun H locs hI => ?_)
  refine lv_topi (fun z2 ez2 => ?_)
  obtain rfl : 1 = z2 := (ez2.trans (bI_t (by decide))).symm
  refine lv_if_ne (tgt := 20) hx hb dX5_cutPower_13 (by decide) (fun _ => ?_) (fun q => absurd q (by decide))
  refine lv_aload_n hx hb dX5_cutPower_20 rfl (lv_at hl 0 rfl) ?_
  refine x_get (k := 0) hE hK hI (by decide) inG5 (e_0 G o _ _) rfl 3 (by decide) mw_175 rfl dX5_cutPower_21 ?_
  refine lv_aload_n hx hb dX5_cutPower_24 rfl (lv_at hl 0 rfl) ?_
  refine x_get (k := 0) hE hK hI (by decide) inG5 (e_0 G o _ _) rfl 0 (by decide) mw_172 rfl dX5_cutPower_25 ?_
  refine x_get (k := 1) hE hK hI (by decide) inG1 (e_1 G o _ _) rfl 0 (by decide) mw_139 rfl dX5_cutPower_28 ?_
  refine lv_iload_n hx hb dX5_cutPower_31 rfl (lv_at hl 1 rfl) ?_
  refine x_callVv (k := 282) hE hK hI (c_X4_solveCut_1 l G o _ _  ) mf_X4_solveCut mw_283 (by decide) ((e_282 G o) _ _) rfl rfl hl.1 rfl (Nat.le_of_ble_eq_true rfl) ⟨(Nat.le_of_ble_eq_true rfl), (Nat.le_of_ble_eq_true rfl)⟩ ⟨Nat.zero_le _, Nat.zero_le _⟩ dX5_cutPower_32 (fun H locs hI => ?_)
  refine lv_aload_n hx hb dX5_cutPower_35 rfl (lv_at hl 0 rfl) ?_
  refine x_get (k := 0) hE hK hI (by decide) inG5 (e_0 G o _ _) rfl 3 (by decide) mw_175 rfl dX5_cutPower_36 ?_
  refine x_get (k := 282) hE hK hI (by decide) inG4 (e_282 G o _ _) rfl 3 (by decide) mw_160 rfl dX5_cutPower_39 ?_
  refine lv_if_ne (tgt := 49) hx hb dX5_cutPower_42 (by decide) (fun _ => ?_) (fun q => absurd q h)
  refine lv_aload_n hx hb dX5_cutPower_49 rfl (lv_at hl 0 rfl) ?_
  refine x_get (k := 0) hE hK hI (by decide) inG5 (e_0 G o _ _) rfl 3 (by decide) mw_175 rfl dX5_cutPower_50 ?_
  refine lv_aload_n hx hb dX5_cutPower_53 rfl (lv_at hl 0 rfl) ?_
  refine x_get (k := 0) hE hK hI (by decide) inG5 (e_0 G o _ _) rfl 0 (by decide) mw_172 rfl dX5_cutPower_54 ?_
  refine x_get (k := 1) hE hK hI (by decide) inG1 (e_1 G o _ _) rfl 0 (by decide) mw_139 rfl dX5_cutPower_57 ?_
  refine x_get (k := 2) hE hK hI (by decide) inG2 (e_2 G o _ _) rfl 2 (by decide) mw_40 rfl dX5_cutPower_60 ?_
  refine x_callVl (k := 282) hE hK hI (c_X4_scaledPower l G o _ _  ) mf_X4_scaledPower mw_275 (by decide) ((e_282 G o) _ _) rfl rfl hl.1 rfl (Nat.le_of_ble_eq_true rfl) ⟨(Nat.le_of_ble_eq_true rfl), (Nat.le_of_ble_eq_true rfl)⟩ ⟨Nat.zero_le _, Nat.zero_le _⟩ dX5_cutPower_63 (fun H locs hI => ?_)
  refine lv_aload_n hx hb dX5_cutPower_66 rfl (lv_at hl 0 rfl) ?_
  refine x_get (k := 0) hE hK hI (by decide) inG5 (e_0 G o _ _) rfl 3 (by decide) mw_175 rfl dX5_cutPower_67 ?_
  refine x_get (k := 282) hE hK hI (by decide) inG4 (e_282 G o _ _) rfl 2 (by decide) mw_158 rfl dX5_cutPower_70 ?_
  refine lv_iload_n hx hb dX5_cutPower_73 rfl (lv_at hl 2 rfl) ?_
  refine x_callSl hE hK hI (c_X5_partOf_1 l G o _ _ (pwr (cu1X X Y) (cu1Y X Y)) ((cu1Y X Y) 282 2) hg) mf_X5_partOf mw_244 rfl hl.1 rfl (Nat.le_of_ble_eq_true rfl) ⟨(Nat.le_of_ble_eq_true rfl), (Nat.le_of_ble_eq_true rfl)⟩ ⟨Nat.zero_le _, Nat.zero_le _⟩ dX5_cutPower_74 (fun H locs hI => ?_)
  exact x_lret hE hr hlocks hI rfl rfl rfl dX5_cutPower_77
set_option maxRecDepth 100000 in
set_option maxHeartbeats 4000000 in
theorem c_X5_cutPower_n0_2 (l : Launch) (G : GG) (o : Nat) (X : SX) (Y : SY) (h : (cu2X X Y) 282 3 = 0) : Ct l yX5_cutPower cX5_cutPower 3 (some .long) 4 99 G o [.ref (o + 0), .int 2, .int 0] X Y (some (.long (-5))) (cu2X X Y) (cu2Y X Y) := by
  refine Ct.mk (by decide +kernel) (Nat.le_of_ble_eq_true rfl) rfl ?_
  intro p9 e9 s9 m9 args9 below9 meth9 c9 hE hr hlocks hK hI ls hl
  have hx := hE.1
  have hb := hE.2.1
  have hl : lv_has ls 3 [(0, .ref (o + 0)), (1, .int 2), (2, .int 0)] := hl
  refine lv_iload_n hx hb dX5_cutPower_0 rfl (lv_at hl 1 rfl) ?_
  refine lv_iconst (v := 0) hx hb dX5_cutPower_1 (by decide) ?_
  refine lv_iconst (v := 4) hx hb dX5_cutPower_2 (by decide) ?_
  refine x_callSi hE hK hI (c_X5_isWithin l G o _ _ 2 0 4 ) mf_X5_isWithin mw_192 rfl hl.1 rfl (Nat.le_of_ble_eq_true rfl) ⟨(Nat.le_of_ble_eq_true rfl), (Nat.le_of_ble_eq_true rfl)⟩ ⟨Nat.zero_le _, Nat.zero_le _⟩ dX5_cutPower_3 (fun H locs hI => ?_)
  refine lv_topi (fun z1 ez1 => ?_)
  obtain rfl : 1 = z1 := (ez1.trans (bI_t (by decide))).symm
  refine lv_if_eq (tgt := 16) hx hb dX5_cutPower_6 (by decide) (fun q => absurd q (by decide)) (fun _ => ?_)
  refine lv_iload_n hx hb dX5_cutPower_9 rfl (lv_at hl 2 rfl) ?_
  refine x_callSi hE hK hI (c_X5_isZeroOrOne l G o _ _ 0 ) mf_X5_isZeroOrOne mw_227 rfl hl.1 rfl (Nat.le_of_ble_eq_true rfl) ⟨(Nat.le_of_ble_eq_true rfl), (Nat.le_of_ble_eq_true rfl)⟩ ⟨Nat.zero_le _, Nat.zero_le _⟩ dX5_cutPower_10 (fun H locs hI => ?_)
  refine lv_topi (fun z2 ez2 => ?_)
  obtain rfl : 1 = z2 := (ez2.trans (bI_t (by decide))).symm
  refine lv_if_ne (tgt := 20) hx hb dX5_cutPower_13 (by decide) (fun _ => ?_) (fun q => absurd q (by decide))
  refine lv_aload_n hx hb dX5_cutPower_20 rfl (lv_at hl 0 rfl) ?_
  refine x_get (k := 0) hE hK hI (by decide) inG5 (e_0 G o _ _) rfl 3 (by decide) mw_175 rfl dX5_cutPower_21 ?_
  refine lv_aload_n hx hb dX5_cutPower_24 rfl (lv_at hl 0 rfl) ?_
  refine x_get (k := 0) hE hK hI (by decide) inG5 (e_0 G o _ _) rfl 0 (by decide) mw_172 rfl dX5_cutPower_25 ?_
  refine x_get (k := 1) hE hK hI (by decide) inG1 (e_1 G o _ _) rfl 0 (by decide) mw_139 rfl dX5_cutPower_28 ?_
  refine lv_iload_n hx hb dX5_cutPower_31 rfl (lv_at hl 1 rfl) ?_
  refine x_callVv (k := 282) hE hK hI (c_X4_solveCut_2 l G o _ _  ) mf_X4_solveCut mw_283 (by decide) ((e_282 G o) _ _) rfl rfl hl.1 rfl (Nat.le_of_ble_eq_true rfl) ⟨(Nat.le_of_ble_eq_true rfl), (Nat.le_of_ble_eq_true rfl)⟩ ⟨Nat.zero_le _, Nat.zero_le _⟩ dX5_cutPower_32 (fun H locs hI => ?_)
  refine lv_aload_n hx hb dX5_cutPower_35 rfl (lv_at hl 0 rfl) ?_
  refine x_get (k := 0) hE hK hI (by decide) inG5 (e_0 G o _ _) rfl 3 (by decide) mw_175 rfl dX5_cutPower_36 ?_
  refine x_get (k := 282) hE hK hI (by decide) inG4 (e_282 G o _ _) rfl 3 (by decide) mw_160 rfl dX5_cutPower_39 ?_
  refine lv_if_ne (tgt := 49) hx hb dX5_cutPower_42 (by decide) (fun q => absurd h q) (fun _ => ?_)
  refine lv_ldc2 hx hb hE.2.2.2.1 (hE.2.2.2.2 _ mw_243) dX5_cutPower_45 ?_
  exact x_lret hE hr hlocks hI rfl rfl rfl dX5_cutPower_48
set_option maxRecDepth 100000 in
set_option maxHeartbeats 4000000 in
theorem c_X5_cutPower_y0_2 (l : Launch) (G : GG) (o : Nat) (X : SX) (Y : SY) (h : ¬ ((cu2X X Y) 282 3 = 0)) (hg : 1 ≤ gcdL 100 (pwr (cu2X X Y) (cu2Y X Y)) ((cu2Y X Y) 282 2)) : Ct l yX5_cutPower cX5_cutPower 3 (some .long) 4 99 G o [.ref (o + 0), .int 2, .int 0] X Y (some (.long ((pwr (cu2X X Y) (cu2Y X Y)) / (gcdL 100 (pwr (cu2X X Y) (cu2Y X Y)) ((cu2Y X Y) 282 2))))) (cu2X X Y) (cu2Y X Y) := by
  refine Ct.mk (by decide +kernel) (Nat.le_of_ble_eq_true rfl) rfl ?_
  intro p9 e9 s9 m9 args9 below9 meth9 c9 hE hr hlocks hK hI ls hl
  have hx := hE.1
  have hb := hE.2.1
  have hl : lv_has ls 3 [(0, .ref (o + 0)), (1, .int 2), (2, .int 0)] := hl
  refine lv_iload_n hx hb dX5_cutPower_0 rfl (lv_at hl 1 rfl) ?_
  refine lv_iconst (v := 0) hx hb dX5_cutPower_1 (by decide) ?_
  refine lv_iconst (v := 4) hx hb dX5_cutPower_2 (by decide) ?_
  refine x_callSi hE hK hI (c_X5_isWithin l G o _ _ 2 0 4 ) mf_X5_isWithin mw_192 rfl hl.1 rfl (Nat.le_of_ble_eq_true rfl) ⟨(Nat.le_of_ble_eq_true rfl), (Nat.le_of_ble_eq_true rfl)⟩ ⟨Nat.zero_le _, Nat.zero_le _⟩ dX5_cutPower_3 (fun H locs hI => ?_)
  refine lv_topi (fun z1 ez1 => ?_)
  obtain rfl : 1 = z1 := (ez1.trans (bI_t (by decide))).symm
  refine lv_if_eq (tgt := 16) hx hb dX5_cutPower_6 (by decide) (fun q => absurd q (by decide)) (fun _ => ?_)
  refine lv_iload_n hx hb dX5_cutPower_9 rfl (lv_at hl 2 rfl) ?_
  refine x_callSi hE hK hI (c_X5_isZeroOrOne l G o _ _ 0 ) mf_X5_isZeroOrOne mw_227 rfl hl.1 rfl (Nat.le_of_ble_eq_true rfl) ⟨(Nat.le_of_ble_eq_true rfl), (Nat.le_of_ble_eq_true rfl)⟩ ⟨Nat.zero_le _, Nat.zero_le _⟩ dX5_cutPower_10 (fun H locs hI => ?_)
  refine lv_topi (fun z2 ez2 => ?_)
  obtain rfl : 1 = z2 := (ez2.trans (bI_t (by decide))).symm
  refine lv_if_ne (tgt := 20) hx hb dX5_cutPower_13 (by decide) (fun _ => ?_) (fun q => absurd q (by decide))
  refine lv_aload_n hx hb dX5_cutPower_20 rfl (lv_at hl 0 rfl) ?_
  refine x_get (k := 0) hE hK hI (by decide) inG5 (e_0 G o _ _) rfl 3 (by decide) mw_175 rfl dX5_cutPower_21 ?_
  refine lv_aload_n hx hb dX5_cutPower_24 rfl (lv_at hl 0 rfl) ?_
  refine x_get (k := 0) hE hK hI (by decide) inG5 (e_0 G o _ _) rfl 0 (by decide) mw_172 rfl dX5_cutPower_25 ?_
  refine x_get (k := 1) hE hK hI (by decide) inG1 (e_1 G o _ _) rfl 0 (by decide) mw_139 rfl dX5_cutPower_28 ?_
  refine lv_iload_n hx hb dX5_cutPower_31 rfl (lv_at hl 1 rfl) ?_
  refine x_callVv (k := 282) hE hK hI (c_X4_solveCut_2 l G o _ _  ) mf_X4_solveCut mw_283 (by decide) ((e_282 G o) _ _) rfl rfl hl.1 rfl (Nat.le_of_ble_eq_true rfl) ⟨(Nat.le_of_ble_eq_true rfl), (Nat.le_of_ble_eq_true rfl)⟩ ⟨Nat.zero_le _, Nat.zero_le _⟩ dX5_cutPower_32 (fun H locs hI => ?_)
  refine lv_aload_n hx hb dX5_cutPower_35 rfl (lv_at hl 0 rfl) ?_
  refine x_get (k := 0) hE hK hI (by decide) inG5 (e_0 G o _ _) rfl 3 (by decide) mw_175 rfl dX5_cutPower_36 ?_
  refine x_get (k := 282) hE hK hI (by decide) inG4 (e_282 G o _ _) rfl 3 (by decide) mw_160 rfl dX5_cutPower_39 ?_
  refine lv_if_ne (tgt := 49) hx hb dX5_cutPower_42 (by decide) (fun _ => ?_) (fun q => absurd q h)
  refine lv_aload_n hx hb dX5_cutPower_49 rfl (lv_at hl 0 rfl) ?_
  refine x_get (k := 0) hE hK hI (by decide) inG5 (e_0 G o _ _) rfl 3 (by decide) mw_175 rfl dX5_cutPower_50 ?_
  refine lv_aload_n hx hb dX5_cutPower_53 rfl (lv_at hl 0 rfl) ?_
  refine x_get (k := 0) hE hK hI (by decide) inG5 (e_0 G o _ _) rfl 0 (by decide) mw_172 rfl dX5_cutPower_54 ?_
  refine x_get (k := 1) hE hK hI (by decide) inG1 (e_1 G o _ _) rfl 0 (by decide) mw_139 rfl dX5_cutPower_57 ?_
  refine x_get (k := 2) hE hK hI (by decide) inG2 (e_2 G o _ _) rfl 2 (by decide) mw_40 rfl dX5_cutPower_60 ?_
  refine x_callVl (k := 282) hE hK hI (c_X4_scaledPower l G o _ _  ) mf_X4_scaledPower mw_275 (by decide) ((e_282 G o) _ _) rfl rfl hl.1 rfl (Nat.le_of_ble_eq_true rfl) ⟨(Nat.le_of_ble_eq_true rfl), (Nat.le_of_ble_eq_true rfl)⟩ ⟨Nat.zero_le _, Nat.zero_le _⟩ dX5_cutPower_63 (fun H locs hI => ?_)
  refine lv_aload_n hx hb dX5_cutPower_66 rfl (lv_at hl 0 rfl) ?_
  refine x_get (k := 0) hE hK hI (by decide) inG5 (e_0 G o _ _) rfl 3 (by decide) mw_175 rfl dX5_cutPower_67 ?_
  refine x_get (k := 282) hE hK hI (by decide) inG4 (e_282 G o _ _) rfl 2 (by decide) mw_158 rfl dX5_cutPower_70 ?_
  refine lv_iload_n hx hb dX5_cutPower_73 rfl (lv_at hl 2 rfl) ?_
  refine x_callSl hE hK hI (c_X5_partOf_0 l G o _ _ (pwr (cu2X X Y) (cu2Y X Y)) ((cu2Y X Y) 282 2) hg) mf_X5_partOf mw_244 rfl hl.1 rfl (Nat.le_of_ble_eq_true rfl) ⟨(Nat.le_of_ble_eq_true rfl), (Nat.le_of_ble_eq_true rfl)⟩ ⟨Nat.zero_le _, Nat.zero_le _⟩ dX5_cutPower_74 (fun H locs hI => ?_)
  exact x_lret hE hr hlocks hI rfl rfl rfl dX5_cutPower_77
set_option maxRecDepth 100000 in
set_option maxHeartbeats 4000000 in
theorem c_X5_cutPower_n1_2 (l : Launch) (G : GG) (o : Nat) (X : SX) (Y : SY) (h : (cu2X X Y) 282 3 = 0) : Ct l yX5_cutPower cX5_cutPower 3 (some .long) 4 99 G o [.ref (o + 0), .int 2, .int 1] X Y (some (.long (-5))) (cu2X X Y) (cu2Y X Y) := by
  refine Ct.mk (by decide +kernel) (Nat.le_of_ble_eq_true rfl) rfl ?_
  intro p9 e9 s9 m9 args9 below9 meth9 c9 hE hr hlocks hK hI ls hl
  have hx := hE.1
  have hb := hE.2.1
  have hl : lv_has ls 3 [(0, .ref (o + 0)), (1, .int 2), (2, .int 1)] := hl
  refine lv_iload_n hx hb dX5_cutPower_0 rfl (lv_at hl 1 rfl) ?_
  refine lv_iconst (v := 0) hx hb dX5_cutPower_1 (by decide) ?_
  refine lv_iconst (v := 4) hx hb dX5_cutPower_2 (by decide) ?_
  refine x_callSi hE hK hI (c_X5_isWithin l G o _ _ 2 0 4 ) mf_X5_isWithin mw_192 rfl hl.1 rfl (Nat.le_of_ble_eq_true rfl) ⟨(Nat.le_of_ble_eq_true rfl), (Nat.le_of_ble_eq_true rfl)⟩ ⟨Nat.zero_le _, Nat.zero_le _⟩ dX5_cutPower_3 (fun H locs hI => ?_)
  refine lv_topi (fun z1 ez1 => ?_)
  obtain rfl : 1 = z1 := (ez1.trans (bI_t (by decide))).symm
  refine lv_if_eq (tgt := 16) hx hb dX5_cutPower_6 (by decide) (fun q => absurd q (by decide)) (fun _ => ?_)
  refine lv_iload_n hx hb dX5_cutPower_9 rfl (lv_at hl 2 rfl) ?_
  refine x_callSi hE hK hI (c_X5_isZeroOrOne l G o _ _ 1 ) mf_X5_isZeroOrOne mw_227 rfl hl.1 rfl (Nat.le_of_ble_eq_true rfl) ⟨(Nat.le_of_ble_eq_true rfl), (Nat.le_of_ble_eq_true rfl)⟩ ⟨Nat.zero_le _, Nat.zero_le _⟩ dX5_cutPower_10 (fun H locs hI => ?_)
  refine lv_topi (fun z2 ez2 => ?_)
  obtain rfl : 1 = z2 := (ez2.trans (bI_t (by decide))).symm
  refine lv_if_ne (tgt := 20) hx hb dX5_cutPower_13 (by decide) (fun _ => ?_) (fun q => absurd q (by decide))
  refine lv_aload_n hx hb dX5_cutPower_20 rfl (lv_at hl 0 rfl) ?_
  refine x_get (k := 0) hE hK hI (by decide) inG5 (e_0 G o _ _) rfl 3 (by decide) mw_175 rfl dX5_cutPower_21 ?_
  refine lv_aload_n hx hb dX5_cutPower_24 rfl (lv_at hl 0 rfl) ?_
  refine x_get (k := 0) hE hK hI (by decide) inG5 (e_0 G o _ _) rfl 0 (by decide) mw_172 rfl dX5_cutPower_25 ?_
  refine x_get (k := 1) hE hK hI (by decide) inG1 (e_1 G o _ _) rfl 0 (by decide) mw_139 rfl dX5_cutPower_28 ?_
  refine lv_iload_n hx hb dX5_cutPower_31 rfl (lv_at hl 1 rfl) ?_
  refine x_callVv (k := 282) hE hK hI (c_X4_solveCut_2 l G o _ _  ) mf_X4_solveCut mw_283 (by decide) ((e_282 G o) _ _) rfl rfl hl.1 rfl (Nat.le_of_ble_eq_true rfl) ⟨(Nat.le_of_ble_eq_true rfl), (Nat.le_of_ble_eq_true rfl)⟩ ⟨Nat.zero_le _, Nat.zero_le _⟩ dX5_cutPower_32 (fun H locs hI => ?_)
  refine lv_aload_n hx hb dX5_cutPower_35 rfl (lv_at hl 0 rfl) ?_
  refine x_get (k := 0) hE hK hI (by decide) inG5 (e_0 G o _ _) rfl 3 (by decide) mw_175 rfl dX5_cutPower_36 ?_
  refine x_get (k := 282) hE hK hI (by decide) inG4 (e_282 G o _ _) rfl 3 (by decide) mw_160 rfl dX5_cutPower_39 ?_
  refine lv_if_ne (tgt := 49) hx hb dX5_cutPower_42 (by decide) (fun q => absurd h q) (fun _ => ?_)
  refine lv_ldc2 hx hb hE.2.2.2.1 (hE.2.2.2.2 _ mw_243) dX5_cutPower_45 ?_
  exact x_lret hE hr hlocks hI rfl rfl rfl dX5_cutPower_48
set_option maxRecDepth 100000 in
set_option maxHeartbeats 4000000 in
theorem c_X5_cutPower_y1_2 (l : Launch) (G : GG) (o : Nat) (X : SX) (Y : SY) (h : ¬ ((cu2X X Y) 282 3 = 0)) (hg : 1 ≤ gcdL 100 (pwr (cu2X X Y) (cu2Y X Y)) ((cu2Y X Y) 282 2)) : Ct l yX5_cutPower cX5_cutPower 3 (some .long) 4 99 G o [.ref (o + 0), .int 2, .int 1] X Y (some (.long (((cu2Y X Y) 282 2) / (gcdL 100 (pwr (cu2X X Y) (cu2Y X Y)) ((cu2Y X Y) 282 2))))) (cu2X X Y) (cu2Y X Y) := by
  refine Ct.mk (by decide +kernel) (Nat.le_of_ble_eq_true rfl) rfl ?_
  intro p9 e9 s9 m9 args9 below9 meth9 c9 hE hr hlocks hK hI ls hl
  have hx := hE.1
  have hb := hE.2.1
  have hl : lv_has ls 3 [(0, .ref (o + 0)), (1, .int 2), (2, .int 1)] := hl
  refine lv_iload_n hx hb dX5_cutPower_0 rfl (lv_at hl 1 rfl) ?_
  refine lv_iconst (v := 0) hx hb dX5_cutPower_1 (by decide) ?_
  refine lv_iconst (v := 4) hx hb dX5_cutPower_2 (by decide) ?_
  refine x_callSi hE hK hI (c_X5_isWithin l G o _ _ 2 0 4 ) mf_X5_isWithin mw_192 rfl hl.1 rfl (Nat.le_of_ble_eq_true rfl) ⟨(Nat.le_of_ble_eq_true rfl), (Nat.le_of_ble_eq_true rfl)⟩ ⟨Nat.zero_le _, Nat.zero_le _⟩ dX5_cutPower_3 (fun H locs hI => ?_)
  refine lv_topi (fun z1 ez1 => ?_)
  obtain rfl : 1 = z1 := (ez1.trans (bI_t (by decide))).symm
  refine lv_if_eq (tgt := 16) hx hb dX5_cutPower_6 (by decide) (fun q => absurd q (by decide)) (fun _ => ?_)
  refine lv_iload_n hx hb dX5_cutPower_9 rfl (lv_at hl 2 rfl) ?_
  refine x_callSi hE hK hI (c_X5_isZeroOrOne l G o _ _ 1 ) mf_X5_isZeroOrOne mw_227 rfl hl.1 rfl (Nat.le_of_ble_eq_true rfl) ⟨(Nat.le_of_ble_eq_true rfl), (Nat.le_of_ble_eq_true rfl)⟩ ⟨Nat.zero_le _, Nat.zero_le _⟩ dX5_cutPower_10 (fun H locs hI => ?_)
  refine lv_topi (fun z2 ez2 => ?_)
  obtain rfl : 1 = z2 := (ez2.trans (bI_t (by decide))).symm
  refine lv_if_ne (tgt := 20) hx hb dX5_cutPower_13 (by decide) (fun _ => ?_) (fun q => absurd q (by decide))
  refine lv_aload_n hx hb dX5_cutPower_20 rfl (lv_at hl 0 rfl) ?_
  refine x_get (k := 0) hE hK hI (by decide) inG5 (e_0 G o _ _) rfl 3 (by decide) mw_175 rfl dX5_cutPower_21 ?_
  refine lv_aload_n hx hb dX5_cutPower_24 rfl (lv_at hl 0 rfl) ?_
  refine x_get (k := 0) hE hK hI (by decide) inG5 (e_0 G o _ _) rfl 0 (by decide) mw_172 rfl dX5_cutPower_25 ?_
  refine x_get (k := 1) hE hK hI (by decide) inG1 (e_1 G o _ _) rfl 0 (by decide) mw_139 rfl dX5_cutPower_28 ?_
  refine lv_iload_n hx hb dX5_cutPower_31 rfl (lv_at hl 1 rfl) ?_
  refine x_callVv (k := 282) hE hK hI (c_X4_solveCut_2 l G o _ _  ) mf_X4_solveCut mw_283 (by decide) ((e_282 G o) _ _) rfl rfl hl.1 rfl (Nat.le_of_ble_eq_true rfl) ⟨(Nat.le_of_ble_eq_true rfl), (Nat.le_of_ble_eq_true rfl)⟩ ⟨Nat.zero_le _, Nat.zero_le _⟩ dX5_cutPower_32 (fun H locs hI => ?_)
  refine lv_aload_n hx hb dX5_cutPower_35 rfl (lv_at hl 0 rfl) ?_
  refine x_get (k := 0) hE hK hI (by decide) inG5 (e_0 G o _ _) rfl 3 (by decide) mw_175 rfl dX5_cutPower_36 ?_
  refine x_get (k := 282) hE hK hI (by decide) inG4 (e_282 G o _ _) rfl 3 (by decide) mw_160 rfl dX5_cutPower_39 ?_
  refine lv_if_ne (tgt := 49) hx hb dX5_cutPower_42 (by decide) (fun _ => ?_) (fun q => absurd q h)
  refine lv_aload_n hx hb dX5_cutPower_49 rfl (lv_at hl 0 rfl) ?_
  refine x_get (k := 0) hE hK hI (by decide) inG5 (e_0 G o _ _) rfl 3 (by decide) mw_175 rfl dX5_cutPower_50 ?_
  refine lv_aload_n hx hb dX5_cutPower_53 rfl (lv_at hl 0 rfl) ?_
  refine x_get (k := 0) hE hK hI (by decide) inG5 (e_0 G o _ _) rfl 0 (by decide) mw_172 rfl dX5_cutPower_54 ?_
  refine x_get (k := 1) hE hK hI (by decide) inG1 (e_1 G o _ _) rfl 0 (by decide) mw_139 rfl dX5_cutPower_57 ?_
  refine x_get (k := 2) hE hK hI (by decide) inG2 (e_2 G o _ _) rfl 2 (by decide) mw_40 rfl dX5_cutPower_60 ?_
  refine x_callVl (k := 282) hE hK hI (c_X4_scaledPower l G o _ _  ) mf_X4_scaledPower mw_275 (by decide) ((e_282 G o) _ _) rfl rfl hl.1 rfl (Nat.le_of_ble_eq_true rfl) ⟨(Nat.le_of_ble_eq_true rfl), (Nat.le_of_ble_eq_true rfl)⟩ ⟨Nat.zero_le _, Nat.zero_le _⟩ dX5_cutPower_63 (fun H locs hI => ?_)
  refine lv_aload_n hx hb dX5_cutPower_66 rfl (lv_at hl 0 rfl) ?_
  refine x_get (k := 0) hE hK hI (by decide) inG5 (e_0 G o _ _) rfl 3 (by decide) mw_175 rfl dX5_cutPower_67 ?_
  refine x_get (k := 282) hE hK hI (by decide) inG4 (e_282 G o _ _) rfl 2 (by decide) mw_158 rfl dX5_cutPower_70 ?_
  refine lv_iload_n hx hb dX5_cutPower_73 rfl (lv_at hl 2 rfl) ?_
  refine x_callSl hE hK hI (c_X5_partOf_1 l G o _ _ (pwr (cu2X X Y) (cu2Y X Y)) ((cu2Y X Y) 282 2) hg) mf_X5_partOf mw_244 rfl hl.1 rfl (Nat.le_of_ble_eq_true rfl) ⟨(Nat.le_of_ble_eq_true rfl), (Nat.le_of_ble_eq_true rfl)⟩ ⟨Nat.zero_le _, Nat.zero_le _⟩ dX5_cutPower_74 (fun H locs hI => ?_)
  exact x_lret hE hr hlocks hI rfl rfl rfl dX5_cutPower_77
set_option maxRecDepth 100000 in
set_option maxHeartbeats 4000000 in
theorem c_X5_cutPower_n0_3 (l : Launch) (G : GG) (o : Nat) (X : SX) (Y : SY) (h : (cu3X X Y) 282 3 = 0) : Ct l yX5_cutPower cX5_cutPower 3 (some .long) 4 99 G o [.ref (o + 0), .int 3, .int 0] X Y (some (.long (-5))) (cu3X X Y) (cu3Y X Y) := by
  refine Ct.mk (by decide +kernel) (Nat.le_of_ble_eq_true rfl) rfl ?_
  intro p9 e9 s9 m9 args9 below9 meth9 c9 hE hr hlocks hK hI ls hl
  have hx := hE.1
  have hb := hE.2.1
  have hl : lv_has ls 3 [(0, .ref (o + 0)), (1, .int 3), (2, .int 0)] := hl
  refine lv_iload_n hx hb dX5_cutPower_0 rfl (lv_at hl 1 rfl) ?_
  refine lv_iconst (v := 0) hx hb dX5_cutPower_1 (by decide) ?_
  refine lv_iconst (v := 4) hx hb dX5_cutPower_2 (by decide) ?_
  refine x_callSi hE hK hI (c_X5_isWithin l G o _ _ 3 0 4 ) mf_X5_isWithin mw_192 rfl hl.1 rfl (Nat.le_of_ble_eq_true rfl) ⟨(Nat.le_of_ble_eq_true rfl), (Nat.le_of_ble_eq_true rfl)⟩ ⟨Nat.zero_le _, Nat.zero_le _⟩ dX5_cutPower_3 (fun H locs hI => ?_)
  refine lv_topi (fun z1 ez1 => ?_)
  obtain rfl : 1 = z1 := (ez1.trans (bI_t (by decide))).symm
  refine lv_if_eq (tgt := 16) hx hb dX5_cutPower_6 (by decide) (fun q => absurd q (by decide)) (fun _ => ?_)
  refine lv_iload_n hx hb dX5_cutPower_9 rfl (lv_at hl 2 rfl) ?_
  refine x_callSi hE hK hI (c_X5_isZeroOrOne l G o _ _ 0 ) mf_X5_isZeroOrOne mw_227 rfl hl.1 rfl (Nat.le_of_ble_eq_true rfl) ⟨(Nat.le_of_ble_eq_true rfl), (Nat.le_of_ble_eq_true rfl)⟩ ⟨Nat.zero_le _, Nat.zero_le _⟩ dX5_cutPower_10 (fun H locs hI => ?_)
  refine lv_topi (fun z2 ez2 => ?_)
  obtain rfl : 1 = z2 := (ez2.trans (bI_t (by decide))).symm
  refine lv_if_ne (tgt := 20) hx hb dX5_cutPower_13 (by decide) (fun _ => ?_) (fun q => absurd q (by decide))
  refine lv_aload_n hx hb dX5_cutPower_20 rfl (lv_at hl 0 rfl) ?_
  refine x_get (k := 0) hE hK hI (by decide) inG5 (e_0 G o _ _) rfl 3 (by decide) mw_175 rfl dX5_cutPower_21 ?_
  refine lv_aload_n hx hb dX5_cutPower_24 rfl (lv_at hl 0 rfl) ?_
  refine x_get (k := 0) hE hK hI (by decide) inG5 (e_0 G o _ _) rfl 0 (by decide) mw_172 rfl dX5_cutPower_25 ?_
  refine x_get (k := 1) hE hK hI (by decide) inG1 (e_1 G o _ _) rfl 0 (by decide) mw_139 rfl dX5_cutPower_28 ?_
  refine lv_iload_n hx hb dX5_cutPower_31 rfl (lv_at hl 1 rfl) ?_
  refine x_callVv (k := 282) hE hK hI (c_X4_solveCut_3 l G o _ _  ) mf_X4_solveCut mw_283 (by decide) ((e_282 G o) _ _) rfl rfl hl.1 rfl (Nat.le_of_ble_eq_true rfl) ⟨(Nat.le_of_ble_eq_true rfl), (Nat.le_of_ble_eq_true rfl)⟩ ⟨Nat.zero_le _, Nat.zero_le _⟩ dX5_cutPower_32 (fun H locs hI => ?_)
  refine lv_aload_n hx hb dX5_cutPower_35 rfl (lv_at hl 0 rfl) ?_
  refine x_get (k := 0) hE hK hI (by decide) inG5 (e_0 G o _ _) rfl 3 (by decide) mw_175 rfl dX5_cutPower_36 ?_
  refine x_get (k := 282) hE hK hI (by decide) inG4 (e_282 G o _ _) rfl 3 (by decide) mw_160 rfl dX5_cutPower_39 ?_
  refine lv_if_ne (tgt := 49) hx hb dX5_cutPower_42 (by decide) (fun q => absurd h q) (fun _ => ?_)
  refine lv_ldc2 hx hb hE.2.2.2.1 (hE.2.2.2.2 _ mw_243) dX5_cutPower_45 ?_
  exact x_lret hE hr hlocks hI rfl rfl rfl dX5_cutPower_48
set_option maxRecDepth 100000 in
set_option maxHeartbeats 4000000 in
theorem c_X5_cutPower_y0_3 (l : Launch) (G : GG) (o : Nat) (X : SX) (Y : SY) (h : ¬ ((cu3X X Y) 282 3 = 0)) (hg : 1 ≤ gcdL 100 (pwr (cu3X X Y) (cu3Y X Y)) ((cu3Y X Y) 282 2)) : Ct l yX5_cutPower cX5_cutPower 3 (some .long) 4 99 G o [.ref (o + 0), .int 3, .int 0] X Y (some (.long ((pwr (cu3X X Y) (cu3Y X Y)) / (gcdL 100 (pwr (cu3X X Y) (cu3Y X Y)) ((cu3Y X Y) 282 2))))) (cu3X X Y) (cu3Y X Y) := by
  refine Ct.mk (by decide +kernel) (Nat.le_of_ble_eq_true rfl) rfl ?_
  intro p9 e9 s9 m9 args9 below9 meth9 c9 hE hr hlocks hK hI ls hl
  have hx := hE.1
  have hb := hE.2.1
  have hl : lv_has ls 3 [(0, .ref (o + 0)), (1, .int 3), (2, .int 0)] := hl
  refine lv_iload_n hx hb dX5_cutPower_0 rfl (lv_at hl 1 rfl) ?_
  refine lv_iconst (v := 0) hx hb dX5_cutPower_1 (by decide) ?_
  refine lv_iconst (v := 4) hx hb dX5_cutPower_2 (by decide) ?_
  refine x_callSi hE hK hI (c_X5_isWithin l G o _ _ 3 0 4 ) mf_X5_isWithin mw_192 rfl hl.1 rfl (Nat.le_of_ble_eq_true rfl) ⟨(Nat.le_of_ble_eq_true rfl), (Nat.le_of_ble_eq_true rfl)⟩ ⟨Nat.zero_le _, Nat.zero_le _⟩ dX5_cutPower_3 (fun H locs hI => ?_)
  refine lv_topi (fun z1 ez1 => ?_)
  obtain rfl : 1 = z1 := (ez1.trans (bI_t (by decide))).symm
  refine lv_if_eq (tgt := 16) hx hb dX5_cutPower_6 (by decide) (fun q => absurd q (by decide)) (fun _ => ?_)
  refine lv_iload_n hx hb dX5_cutPower_9 rfl (lv_at hl 2 rfl) ?_
  refine x_callSi hE hK hI (c_X5_isZeroOrOne l G o _ _ 0 ) mf_X5_isZeroOrOne mw_227 rfl hl.1 rfl (Nat.le_of_ble_eq_true rfl) ⟨(Nat.le_of_ble_eq_true rfl), (Nat.le_of_ble_eq_true rfl)⟩ ⟨Nat.zero_le _, Nat.zero_le _⟩ dX5_cutPower_10 (fun H locs hI => ?_)
  refine lv_topi (fun z2 ez2 => ?_)
  obtain rfl : 1 = z2 := (ez2.trans (bI_t (by decide))).symm
  refine lv_if_ne (tgt := 20) hx hb dX5_cutPower_13 (by decide) (fun _ => ?_) (fun q => absurd q (by decide))
  refine lv_aload_n hx hb dX5_cutPower_20 rfl (lv_at hl 0 rfl) ?_
  refine x_get (k := 0) hE hK hI (by decide) inG5 (e_0 G o _ _) rfl 3 (by decide) mw_175 rfl dX5_cutPower_21 ?_
  refine lv_aload_n hx hb dX5_cutPower_24 rfl (lv_at hl 0 rfl) ?_
  refine x_get (k := 0) hE hK hI (by decide) inG5 (e_0 G o _ _) rfl 0 (by decide) mw_172 rfl dX5_cutPower_25 ?_
  refine x_get (k := 1) hE hK hI (by decide) inG1 (e_1 G o _ _) rfl 0 (by decide) mw_139 rfl dX5_cutPower_28 ?_
  refine lv_iload_n hx hb dX5_cutPower_31 rfl (lv_at hl 1 rfl) ?_
  refine x_callVv (k := 282) hE hK hI (c_X4_solveCut_3 l G o _ _  ) mf_X4_solveCut mw_283 (by decide) ((e_282 G o) _ _) rfl rfl hl.1 rfl (Nat.le_of_ble_eq_true rfl) ⟨(Nat.le_of_ble_eq_true rfl), (Nat.le_of_ble_eq_true rfl)⟩ ⟨Nat.zero_le _, Nat.zero_le _⟩ dX5_cutPower_32 (fun H locs hI => ?_)
  refine lv_aload_n hx hb dX5_cutPower_35 rfl (lv_at hl 0 rfl) ?_
  refine x_get (k := 0) hE hK hI (by decide) inG5 (e_0 G o _ _) rfl 3 (by decide) mw_175 rfl dX5_cutPower_36 ?_
  refine x_get (k := 282) hE hK hI (by decide) inG4 (e_282 G o _ _) rfl 3 (by decide) mw_160 rfl dX5_cutPower_39 ?_
  refine lv_if_ne (tgt := 49) hx hb dX5_cutPower_42 (by decide) (fun _ => ?_) (fun q => absurd q h)
  refine lv_aload_n hx hb dX5_cutPower_49 rfl (lv_at hl 0 rfl) ?_
  refine x_get (k := 0) hE hK hI (by decide) inG5 (e_0 G o _ _) rfl 3 (by decide) mw_175 rfl dX5_cutPower_50 ?_
  refine lv_aload_n hx hb dX5_cutPower_53 rfl (lv_at hl 0 rfl) ?_
  refine x_get (k := 0) hE hK hI (by decide) inG5 (e_0 G o _ _) rfl 0 (by decide) mw_172 rfl dX5_cutPower_54 ?_
  refine x_get (k := 1) hE hK hI (by decide) inG1 (e_1 G o _ _) rfl 0 (by decide) mw_139 rfl dX5_cutPower_57 ?_
  refine x_get (k := 2) hE hK hI (by decide) inG2 (e_2 G o _ _) rfl 2 (by decide) mw_40 rfl dX5_cutPower_60 ?_
  refine x_callVl (k := 282) hE hK hI (c_X4_scaledPower l G o _ _  ) mf_X4_scaledPower mw_275 (by decide) ((e_282 G o) _ _) rfl rfl hl.1 rfl (Nat.le_of_ble_eq_true rfl) ⟨(Nat.le_of_ble_eq_true rfl), (Nat.le_of_ble_eq_true rfl)⟩ ⟨Nat.zero_le _, Nat.zero_le _⟩ dX5_cutPower_63 (fun H locs hI => ?_)
  refine lv_aload_n hx hb dX5_cutPower_66 rfl (lv_at hl 0 rfl) ?_
  refine x_get (k := 0) hE hK hI (by decide) inG5 (e_0 G o _ _) rfl 3 (by decide) mw_175 rfl dX5_cutPower_67 ?_
  refine x_get (k := 282) hE hK hI (by decide) inG4 (e_282 G o _ _) rfl 2 (by decide) mw_158 rfl dX5_cutPower_70 ?_
  refine lv_iload_n hx hb dX5_cutPower_73 rfl (lv_at hl 2 rfl) ?_
  refine x_callSl hE hK hI (c_X5_partOf_0 l G o _ _ (pwr (cu3X X Y) (cu3Y X Y)) ((cu3Y X Y) 282 2) hg) mf_X5_partOf mw_244 rfl hl.1 rfl (Nat.le_of_ble_eq_true rfl) ⟨(Nat.le_of_ble_eq_true rfl), (Nat.le_of_ble_eq_true rfl)⟩ ⟨Nat.zero_le _, Nat.zero_le _⟩ dX5_cutPower_74 (fun H locs hI => ?_)
  exact x_lret hE hr hlocks hI rfl rfl rfl dX5_cutPower_77
set_option maxRecDepth 100000 in
set_option maxHeartbeats 4000000 in
theorem c_X5_cutPower_n1_3 (l : Launch) (G : GG) (o : Nat) (X : SX) (Y : SY) (h : (cu3X X Y) 282 3 = 0) : Ct l yX5_cutPower cX5_cutPower 3 (some .long) 4 99 G o [.ref (o + 0), .int 3, .int 1] X Y (some (.long (-5))) (cu3X X Y) (cu3Y X Y) := by
  refine Ct.mk (by decide +kernel) (Nat.le_of_ble_eq_true rfl) rfl ?_
  intro p9 e9 s9 m9 args9 below9 meth9 c9 hE hr hlocks hK hI ls hl
  have hx := hE.1
  have hb := hE.2.1
  have hl : lv_has ls 3 [(0, .ref (o + 0)), (1, .int 3), (2, .int 1)] := hl
  refine lv_iload_n hx hb dX5_cutPower_0 rfl (lv_at hl 1 rfl) ?_
  refine lv_iconst (v := 0) hx hb dX5_cutPower_1 (by decide) ?_
  refine lv_iconst (v := 4) hx hb dX5_cutPower_2 (by decide) ?_
  refine x_callSi hE hK hI (c_X5_isWithin l G o _ _ 3 0 4 ) mf_X5_isWithin mw_192 rfl hl.1 rfl (Nat.le_of_ble_eq_true rfl) ⟨(Nat.le_of_ble_eq_true rfl), (Nat.le_of_ble_eq_true rfl)⟩ ⟨Nat.zero_le _, Nat.zero_le _⟩ dX5_cutPower_3 (fun H locs hI => ?_)
  refine lv_topi (fun z1 ez1 => ?_)
  obtain rfl : 1 = z1 := (ez1.trans (bI_t (by decide))).symm
  refine lv_if_eq (tgt := 16) hx hb dX5_cutPower_6 (by decide) (fun q => absurd q (by decide)) (fun _ => ?_)
  refine lv_iload_n hx hb dX5_cutPower_9 rfl (lv_at hl 2 rfl) ?_
  refine x_callSi hE hK hI (c_X5_isZeroOrOne l G o _ _ 1 ) mf_X5_isZeroOrOne mw_227 rfl hl.1 rfl (Nat.le_of_ble_eq_true rfl) ⟨(Nat.le_of_ble_eq_true rfl), (Nat.le_of_ble_eq_true rfl)⟩ ⟨Nat.zero_le _, Nat.zero_le _⟩ dX5_cutPower_10 (fun H locs hI => ?_)
  refine lv_topi (fun z2 ez2 => ?_)
  obtain rfl : 1 = z2 := (ez2.trans (bI_t (by decide))).symm
  refine lv_if_ne (tgt := 20) hx hb dX5_cutPower_13 (by decide) (fun _ => ?_) (fun q => absurd q (by decide))
  refine lv_aload_n hx hb dX5_cutPower_20 rfl (lv_at hl 0 rfl) ?_
  refine x_get (k := 0) hE hK hI (by decide) inG5 (e_0 G o _ _) rfl 3 (by decide) mw_175 rfl dX5_cutPower_21 ?_
  refine lv_aload_n hx hb dX5_cutPower_24 rfl (lv_at hl 0 rfl) ?_
  refine x_get (k := 0) hE hK hI (by decide) inG5 (e_0 G o _ _) rfl 0 (by decide) mw_172 rfl dX5_cutPower_25 ?_
  refine x_get (k := 1) hE hK hI (by decide) inG1 (e_1 G o _ _) rfl 0 (by decide) mw_139 rfl dX5_cutPower_28 ?_
  refine lv_iload_n hx hb dX5_cutPower_31 rfl (lv_at hl 1 rfl) ?_
  refine x_callVv (k := 282) hE hK hI (c_X4_solveCut_3 l G o _ _  ) mf_X4_solveCut mw_283 (by decide) ((e_282 G o) _ _) rfl rfl hl.1 rfl (Nat.le_of_ble_eq_true rfl) ⟨(Nat.le_of_ble_eq_true rfl), (Nat.le_of_ble_eq_true rfl)⟩ ⟨Nat.zero_le _, Nat.zero_le _⟩ dX5_cutPower_32 (fun H locs hI => ?_)
  refine lv_aload_n hx hb dX5_cutPower_35 rfl (lv_at hl 0 rfl) ?_
  refine x_get (k := 0) hE hK hI (by decide) inG5 (e_0 G o _ _) rfl 3 (by decide) mw_175 rfl dX5_cutPower_36 ?_
  refine x_get (k := 282) hE hK hI (by decide) inG4 (e_282 G o _ _) rfl 3 (by decide) mw_160 rfl dX5_cutPower_39 ?_
  refine lv_if_ne (tgt := 49) hx hb dX5_cutPower_42 (by decide) (fun q => absurd h q) (fun _ => ?_)
  refine lv_ldc2 hx hb hE.2.2.2.1 (hE.2.2.2.2 _ mw_243) dX5_cutPower_45 ?_
  exact x_lret hE hr hlocks hI rfl rfl rfl dX5_cutPower_48
set_option maxRecDepth 100000 in
set_option maxHeartbeats 4000000 in
theorem c_X5_cutPower_y1_3 (l : Launch) (G : GG) (o : Nat) (X : SX) (Y : SY) (h : ¬ ((cu3X X Y) 282 3 = 0)) (hg : 1 ≤ gcdL 100 (pwr (cu3X X Y) (cu3Y X Y)) ((cu3Y X Y) 282 2)) : Ct l yX5_cutPower cX5_cutPower 3 (some .long) 4 99 G o [.ref (o + 0), .int 3, .int 1] X Y (some (.long (((cu3Y X Y) 282 2) / (gcdL 100 (pwr (cu3X X Y) (cu3Y X Y)) ((cu3Y X Y) 282 2))))) (cu3X X Y) (cu3Y X Y) := by
  refine Ct.mk (by decide +kernel) (Nat.le_of_ble_eq_true rfl) rfl ?_
  intro p9 e9 s9 m9 args9 below9 meth9 c9 hE hr hlocks hK hI ls hl
  have hx := hE.1
  have hb := hE.2.1
  have hl : lv_has ls 3 [(0, .ref (o + 0)), (1, .int 3), (2, .int 1)] := hl
  refine lv_iload_n hx hb dX5_cutPower_0 rfl (lv_at hl 1 rfl) ?_
  refine lv_iconst (v := 0) hx hb dX5_cutPower_1 (by decide) ?_
  refine lv_iconst (v := 4) hx hb dX5_cutPower_2 (by decide) ?_
  refine x_callSi hE hK hI (c_X5_isWithin l G o _ _ 3 0 4 ) mf_X5_isWithin mw_192 rfl hl.1 rfl (Nat.le_of_ble_eq_true rfl) ⟨(Nat.le_of_ble_eq_true rfl), (Nat.le_of_ble_eq_true rfl)⟩ ⟨Nat.zero_le _, Nat.zero_le _⟩ dX5_cutPower_3 (fun H locs hI => ?_)
  refine lv_topi (fun z1 ez1 => ?_)
  obtain rfl : 1 = z1 := (ez1.trans (bI_t (by decide))).symm
  refine lv_if_eq (tgt := 16) hx hb dX5_cutPower_6 (by decide) (fun q => absurd q (by decide)) (fun _ => ?_)
  refine lv_iload_n hx hb dX5_cutPower_9 rfl (lv_at hl 2 rfl) ?_
  refine x_callSi hE hK hI (c_X5_isZeroOrOne l G o _ _ 1 ) mf_X5_isZeroOrOne mw_227 rfl hl.1 rfl (Nat.le_of_ble_eq_true rfl) ⟨(Nat.le_of_ble_eq_true rfl), (Nat.le_of_ble_eq_true rfl)⟩ ⟨Nat.zero_le _, Nat.zero_le _⟩ dX5_cutPower_10 (fun H locs hI => ?_)
  refine lv_topi (fun z2 ez2 => ?_)
  obtain rfl : 1 = z2 := (ez2.trans (bI_t (by decide))).symm
  refine lv_if_ne (tgt := 20) hx hb dX5_cutPower_13 (by decide) (fun _ => ?_) (fun q => absurd q (by decide))
  refine lv_aload_n hx hb dX5_cutPower_20 rfl (lv_at hl 0 rfl) ?_
  refine x_get (k := 0) hE hK hI (by decide) inG5 (e_0 G o _ _) rfl 3 (by decide) mw_175 rfl dX5_cutPower_21 ?_
  refine lv_aload_n hx hb dX5_cutPower_24 rfl (lv_at hl 0 rfl) ?_
  refine x_get (k := 0) hE hK hI (by decide) inG5 (e_0 G o _ _) rfl 0 (by decide) mw_172 rfl dX5_cutPower_25 ?_
  refine x_get (k := 1) hE hK hI (by decide) inG1 (e_1 G o _ _) rfl 0 (by decide) mw_139 rfl dX5_cutPower_28 ?_
  refine lv_iload_n hx hb dX5_cutPower_31 rfl (lv_at hl 1 rfl) ?_
  refine x_callVv (k := 282) hE hK hI (c_X4_solveCut_3 l G o _ _  ) mf_X4_solveCut mw_283 (by decide) ((e_282 G o) _ _) rfl rfl hl.1 rfl (Nat.le_of_ble_eq_true rfl) ⟨(Nat.le_of_ble_eq_true rfl), (Nat.le_of_ble_eq_true rfl)⟩ ⟨Nat.zero_le _, Nat.zero_le _⟩ dX5_cutPower_32 (fun H locs hI => ?_)
  refine lv_aload_n hx hb dX5_cutPower_35 rfl (lv_at hl 0 rfl) ?_
  refine x_get (k := 0) hE hK hI (by decide) inG5 (e_0 G o _ _) rfl 3 (by decide) mw_175 rfl dX5_cutPower_36 ?_
  refine x_get (k := 282) hE hK hI (by decide) inG4 (e_282 G o _ _) rfl 3 (by decide) mw_160 rfl dX5_cutPower_39 ?_
  refine lv_if_ne (tgt := 49) hx hb dX5_cutPower_42 (by decide) (fun _ => ?_) (fun q => absurd q h)
  refine lv_aload_n hx hb dX5_cutPower_49 rfl (lv_at hl 0 rfl) ?_
  refine x_get (k := 0) hE hK hI (by decide) inG5 (e_0 G o _ _) rfl 3 (by decide) mw_175 rfl dX5_cutPower_50 ?_
  refine lv_aload_n hx hb dX5_cutPower_53 rfl (lv_at hl 0 rfl) ?_
  refine x_get (k := 0) hE hK hI (by decide) inG5 (e_0 G o _ _) rfl 0 (by decide) mw_172 rfl dX5_cutPower_54 ?_
  refine x_get (k := 1) hE hK hI (by decide) inG1 (e_1 G o _ _) rfl 0 (by decide) mw_139 rfl dX5_cutPower_57 ?_
  refine x_get (k := 2) hE hK hI (by decide) inG2 (e_2 G o _ _) rfl 2 (by decide) mw_40 rfl dX5_cutPower_60 ?_
  refine x_callVl (k := 282) hE hK hI (c_X4_scaledPower l G o _ _  ) mf_X4_scaledPower mw_275 (by decide) ((e_282 G o) _ _) rfl rfl hl.1 rfl (Nat.le_of_ble_eq_true rfl) ⟨(Nat.le_of_ble_eq_true rfl), (Nat.le_of_ble_eq_true rfl)⟩ ⟨Nat.zero_le _, Nat.zero_le _⟩ dX5_cutPower_63 (fun H locs hI => ?_)
  refine lv_aload_n hx hb dX5_cutPower_66 rfl (lv_at hl 0 rfl) ?_
  refine x_get (k := 0) hE hK hI (by decide) inG5 (e_0 G o _ _) rfl 3 (by decide) mw_175 rfl dX5_cutPower_67 ?_
  refine x_get (k := 282) hE hK hI (by decide) inG4 (e_282 G o _ _) rfl 2 (by decide) mw_158 rfl dX5_cutPower_70 ?_
  refine lv_iload_n hx hb dX5_cutPower_73 rfl (lv_at hl 2 rfl) ?_
  refine x_callSl hE hK hI (c_X5_partOf_1 l G o _ _ (pwr (cu3X X Y) (cu3Y X Y)) ((cu3Y X Y) 282 2) hg) mf_X5_partOf mw_244 rfl hl.1 rfl (Nat.le_of_ble_eq_true rfl) ⟨(Nat.le_of_ble_eq_true rfl), (Nat.le_of_ble_eq_true rfl)⟩ ⟨Nat.zero_le _, Nat.zero_le _⟩ dX5_cutPower_74 (fun H locs hI => ?_)
  exact x_lret hE hr hlocks hI rfl rfl rfl dX5_cutPower_77
set_option maxRecDepth 100000 in
set_option maxHeartbeats 4000000 in
theorem c_X5_cutPower_n0_4 (l : Launch) (G : GG) (o : Nat) (X : SX) (Y : SY) (h : (cu4X X Y) 282 3 = 0) : Ct l yX5_cutPower cX5_cutPower 3 (some .long) 4 99 G o [.ref (o + 0), .int 4, .int 0] X Y (some (.long (-5))) (cu4X X Y) (cu4Y X Y) := by
  refine Ct.mk (by decide +kernel) (Nat.le_of_ble_eq_true rfl) rfl ?_
  intro p9 e9 s9 m9 args9 below9 meth9 c9 hE hr hlocks hK hI ls hl
  have hx := hE.1
  have hb := hE.2.1
  have hl : lv_has ls 3 [(0, .ref (o + 0)), (1, .int 4), (2, .int 0)] := hl
  refine lv_iload_n hx hb dX5_cutPower_0 rfl (lv_at hl 1 rfl) ?_
  refine lv_iconst (v := 0) hx hb dX5_cutPower_1 (by decide) ?_
  refine lv_iconst (v := 4) hx hb dX5_cutPower_2 (by decide) ?_
  refine x_callSi hE hK hI (c_X5_isWithin l G o _ _ 4 0 4 ) mf_X5_isWithin mw_192 rfl hl.1 rfl (Nat.le_of_ble_eq_true rfl) ⟨(Nat.le_of_ble_eq_true rfl), (Nat.le_of_ble_eq_true rfl)⟩ ⟨Nat.zero_le _, Nat.zero_le _⟩ dX5_cutPower_3 (fun H locs hI => ?_)
  refine lv_topi (fun z1 ez1 => ?_)
  obtain rfl : 1 = z1 := (ez1.trans (bI_t (by decide))).symm
  refine lv_if_eq (tgt := 16) hx hb dX5_cutPower_6 (by decide) (fun q => absurd q (by decide)) (fun _ => ?_)
  refine lv_iload_n hx hb dX5_cutPower_9 rfl (lv_at hl 2 rfl) ?_
  refine x_callSi hE hK hI (c_X5_isZeroOrOne l G o _ _ 0 ) mf_X5_isZeroOrOne mw_227 rfl hl.1 rfl (Nat.le_of_ble_eq_true rfl) ⟨(Nat.le_of_ble_eq_true rfl), (Nat.le_of_ble_eq_true rfl)⟩ ⟨Nat.zero_le _, Nat.zero_le _⟩ dX5_cutPower_10 (fun H locs hI => ?_)
  refine lv_topi (fun z2 ez2 => ?_)
  obtain rfl : 1 = z2 := (ez2.trans (bI_t (by decide))).symm
  refine lv_if_ne (tgt := 20) hx hb dX5_cutPower_13 (by decide) (fun _ => ?_) (fun q => absurd q (by decide))
  refine lv_aload_n hx hb dX5_cutPower_20 rfl (lv_at hl 0 rfl) ?_
  refine x_get (k := 0) hE hK hI (by decide) inG5 (e_0 G o _ _) rfl 3 (by decide) mw_175 rfl dX5_cutPower_21 ?_
  refine lv_aload_n hx hb dX5_cutPower_24 rfl (lv_at hl 0 rfl) ?_
  refine x_get (k := 0) hE hK hI (by decide) inG5 (e_0 G o _ _) rfl 0 (by decide) mw_172 rfl dX5_cutPower_25 ?_
  refine x_get (k := 1) hE hK hI (by decide) inG1 (e_1 G o _ _) rfl 0 (by decide) mw_139 rfl dX5_cutPower_28 ?_
  refine lv_iload_n hx hb dX5_cutPower_31 rfl (lv_at hl 1 rfl) ?_
  refine x_callVv (k := 282) hE hK hI (c_X4_solveCut_4 l G o _ _  ) mf_X4_solveCut mw_283 (by decide) ((e_282 G o) _ _) rfl rfl hl.1 rfl (Nat.le_of_ble_eq_true rfl) ⟨(Nat.le_of_ble_eq_true rfl), (Nat.le_of_ble_eq_true rfl)⟩ ⟨Nat.zero_le _, Nat.zero_le _⟩ dX5_cutPower_32 (fun H locs hI => ?_)
  refine lv_aload_n hx hb dX5_cutPower_35 rfl (lv_at hl 0 rfl) ?_
  refine x_get (k := 0) hE hK hI (by decide) inG5 (e_0 G o _ _) rfl 3 (by decide) mw_175 rfl dX5_cutPower_36 ?_
  refine x_get (k := 282) hE hK hI (by decide) inG4 (e_282 G o _ _) rfl 3 (by decide) mw_160 rfl dX5_cutPower_39 ?_
  refine lv_if_ne (tgt := 49) hx hb dX5_cutPower_42 (by decide) (fun q => absurd h q) (fun _ => ?_)
  refine lv_ldc2 hx hb hE.2.2.2.1 (hE.2.2.2.2 _ mw_243) dX5_cutPower_45 ?_
  exact x_lret hE hr hlocks hI rfl rfl rfl dX5_cutPower_48
set_option maxRecDepth 100000 in
set_option maxHeartbeats 4000000 in
theorem c_X5_cutPower_y0_4 (l : Launch) (G : GG) (o : Nat) (X : SX) (Y : SY) (h : ¬ ((cu4X X Y) 282 3 = 0)) (hg : 1 ≤ gcdL 100 (pwr (cu4X X Y) (cu4Y X Y)) ((cu4Y X Y) 282 2)) : Ct l yX5_cutPower cX5_cutPower 3 (some .long) 4 99 G o [.ref (o + 0), .int 4, .int 0] X Y (some (.long ((pwr (cu4X X Y) (cu4Y X Y)) / (gcdL 100 (pwr (cu4X X Y) (cu4Y X Y)) ((cu4Y X Y) 282 2))))) (cu4X X Y) (cu4Y X Y) := by
  refine Ct.mk (by decide +kernel) (Nat.le_of_ble_eq_true rfl) rfl ?_
  intro p9 e9 s9 m9 args9 below9 meth9 c9 hE hr hlocks hK hI ls hl
  have hx := hE.1
  have hb := hE.2.1
  have hl : lv_has ls 3 [(0, .ref (o + 0)), (1, .int 4), (2, .int 0)] := hl
  refine lv_iload_n hx hb dX5_cutPower_0 rfl (lv_at hl 1 rfl) ?_
  refine lv_iconst (v := 0) hx hb dX5_cutPower_1 (by decide) ?_
  refine lv_iconst (v := 4) hx hb dX5_cutPower_2 (by decide) ?_
  refine x_callSi hE hK hI (c_X5_isWithin l G o _ _ 4 0 4 ) mf_X5_isWithin mw_192 rfl hl.1 rfl (Nat.le_of_ble_eq_true rfl) ⟨(Nat.le_of_ble_eq_true rfl), (Nat.le_of_ble_eq_true rfl)⟩ ⟨Nat.zero_le _, Nat.zero_le _⟩ dX5_cutPower_3 (fun H locs hI => ?_)
  refine lv_topi (fun z1 ez1 => ?_)
  obtain rfl : 1 = z1 := (ez1.trans (bI_t (by decide))).symm
  refine lv_if_eq (tgt := 16) hx hb dX5_cutPower_6 (by decide) (fun q => absurd q (by decide)) (fun _ => ?_)
  refine lv_iload_n hx hb dX5_cutPower_9 rfl (lv_at hl 2 rfl) ?_
  refine x_callSi hE hK hI (c_X5_isZeroOrOne l G o _ _ 0 ) mf_X5_isZeroOrOne mw_227 rfl hl.1 rfl (Nat.le_of_ble_eq_true rfl) ⟨(Nat.le_of_ble_eq_true rfl), (Nat.le_of_ble_eq_true rfl)⟩ ⟨Nat.zero_le _, Nat.zero_le _⟩ dX5_cutPower_10 (fun H locs hI => ?_)
  refine lv_topi (fun z2 ez2 => ?_)
  obtain rfl : 1 = z2 := (ez2.trans (bI_t (by decide))).symm
  refine lv_if_ne (tgt := 20) hx hb dX5_cutPower_13 (by decide) (fun _ => ?_) (fun q => absurd q (by decide))
  refine lv_aload_n hx hb dX5_cutPower_20 rfl (lv_at hl 0 rfl) ?_
  refine x_get (k := 0) hE hK hI (by decide) inG5 (e_0 G o _ _) rfl 3 (by decide) mw_175 rfl dX5_cutPower_21 ?_
  refine lv_aload_n hx hb dX5_cutPower_24 rfl (lv_at hl 0 rfl) ?_
  refine x_get (k := 0) hE hK hI (by decide) inG5 (e_0 G o _ _) rfl 0 (by decide) mw_172 rfl dX5_cutPower_25 ?_
  refine x_get (k := 1) hE hK hI (by decide) inG1 (e_1 G o _ _) rfl 0 (by decide) mw_139 rfl dX5_cutPower_28 ?_
  refine lv_iload_n hx hb dX5_cutPower_31 rfl (lv_at hl 1 rfl) ?_
  refine x_callVv (k := 282) hE hK hI (c_X4_solveCut_4 l G o _ _  ) mf_X4_solveCut mw_283 (by decide) ((e_282 G o) _ _) rfl rfl hl.1 rfl (Nat.le_of_ble_eq_true rfl) ⟨(Nat.le_of_ble_eq_true rfl), (Nat.le_of_ble_eq_true rfl)⟩ ⟨Nat.zero_le _, Nat.zero_le _⟩ dX5_cutPower_32 (fun H locs hI => ?_)
  refine lv_aload_n hx hb dX5_cutPower_35 rfl (lv_at hl 0 rfl) ?_
  refine x_get (k := 0) hE hK hI (by decide) inG5 (e_0 G o _ _) rfl 3 (by decide) mw_175 rfl dX5_cutPower_36 ?_
  refine x_get (k := 282) hE hK hI (by decide) inG4 (e_282 G o _ _) rfl 3 (by decide) mw_160 rfl dX5_cutPower_39 ?_
  refine lv_if_ne (tgt := 49) hx hb dX5_cutPower_42 (by decide) (fun _ => ?_) (fun q => absurd q h)
  refine lv_aload_n hx hb dX5_cutPower_49 rfl (lv_at hl 0 rfl) ?_
  refine x_get (k := 0) hE hK hI (by decide) inG5 (e_0 G o _ _) rfl 3 (by decide) mw_175 rfl dX5_cutPower_50 ?_
  refine lv_aload_n hx hb dX5_cutPower_53 rfl (lv_at hl 0 rfl) ?_
  refine x_get (k := 0) hE hK hI (by decide) inG5 (e_0 G o _ _) rfl 0 (by decide) mw_172 rfl dX5_cutPower_54 ?_
  refine x_get (k := 1) hE hK hI (by decide) inG1 (e_1 G o _ _) rfl 0 (by decide) mw_139 rfl dX5_cutPower_57 ?_
  refine x_get (k := 2) hE hK hI (by decide) inG2 (e_2 G o _ _) rfl 2 (by decide) mw_40 rfl dX5_cutPower_60 ?_
  refine x_callVl (k := 282) hE hK hI (c_X4_scaledPower l G o _ _  ) mf_X4_scaledPower mw_275 (by decide) ((e_282 G o) _ _) rfl rfl hl.1 rfl (Nat.le_of_ble_eq_true rfl) ⟨(Nat.le_of_ble_eq_true rfl), (Nat.le_of_ble_eq_true rfl)⟩ ⟨Nat.zero_le _, Nat.zero_le _⟩ dX5_cutPower_63 (fun H locs hI => ?_)
  refine lv_aload_n hx hb dX5_cutPower_66 rfl (lv_at hl 0 rfl) ?_
  refine x_get (k := 0) hE hK hI (by decide) inG5 (e_0 G o _ _) rfl 3 (by decide) mw_175 rfl dX5_cutPower_67 ?_
  refine x_get (k := 282) hE hK hI (by decide) inG4 (e_282 G o _ _) rfl 2 (by decide) mw_158 rfl dX5_cutPower_70 ?_
  refine lv_iload_n hx hb dX5_cutPower_73 rfl (lv_at hl 2 rfl) ?_
  refine x_callSl hE hK hI (c_X5_partOf_0 l G o _ _ (pwr (cu4X X Y) (cu4Y X Y)) ((cu4Y X Y) 282 2) hg) mf_X5_partOf mw_244 rfl hl.1 rfl (Nat.le_of_ble_eq_true rfl) ⟨(Nat.le_of_ble_eq_true rfl), (Nat.le_of_ble_eq_true rfl)⟩ ⟨Nat.zero_le _, Nat.zero_le _⟩ dX5_cutPower_74 (fun H locs hI => ?_)
  exact x_lret hE hr hlocks hI rfl rfl rfl dX5_cutPower_77
set_option maxRecDepth 100000 in
set_option maxHeartbeats 4000000 in
theorem c_X5_cutPower_n1_4 (l : Launch) (G : GG) (o : Nat) (X : SX) (Y : SY) (h : (cu4X X Y) 282 3 = 0) : Ct l yX5_cutPower cX5_cutPower 3 (some .long) 4 99 G o [.ref (o + 0), .int 4, .int 1] X Y (some (.long (-5))) (cu4X X Y) (cu4Y X Y) := by
  refine Ct.mk (by decide +kernel) (Nat.le_of_ble_eq_true rfl) rfl ?_
  intro p9 e9 s9 m9 args9 below9 meth9 c9 hE hr hlocks hK hI ls hl
  have hx := hE.1
  have hb := hE.2.1
  have hl : lv_has ls 3 [(0, .ref (o + 0)), (1, .int 4), (2, .int 1)] := hl
  refine lv_iload_n hx hb dX5_cutPower_0 rfl (lv_at hl 1 rfl) ?_
  refine lv_iconst (v := 0) hx hb dX5_cutPower_1 (by decide) ?_
  refine lv_iconst (v := 4) hx hb dX5_cutPower_2 (by decide) ?_
  refine x_callSi hE hK hI (c_X5_isWithin l G o _ _ 4 0 4 ) mf_X5_isWithin mw_192 rfl hl.1 rfl (Nat.le_of_ble_eq_true rfl) ⟨(Nat.le_of_ble_eq_true rfl), (Nat.le_of_ble_eq_true rfl)⟩ ⟨Nat.zero_le _, Nat.zero_le _⟩ dX5_cutPower_3 (fun H locs hI => ?_)
  refine lv_topi (fun z1 ez1 => ?_)
  obtain rfl : 1 = z1 := (ez1.trans (bI_t (by decide))).symm
  refine lv_if_eq (tgt := 16) hx hb dX5_cutPower_6 (by decide) (fun q => absurd q (by decide)) (fun _ => ?_)
  refine lv_iload_n hx hb dX5_cutPower_9 rfl (lv_at hl 2 rfl) ?_
  refine x_callSi hE hK hI (c_X5_isZeroOrOne l G o _ _ 1 ) mf_X5_isZeroOrOne mw_227 rfl hl.1 rfl (Nat.le_of_ble_eq_true rfl) ⟨(Nat.le_of_ble_eq_true rfl), (Nat.le_of_ble_eq_true rfl)⟩ ⟨Nat.zero_le _, Nat.zero_le _⟩ dX5_cutPower_10 (fun H locs hI => ?_)
  refine lv_topi (fun z2 ez2 => ?_)
  obtain rfl : 1 = z2 := (ez2.trans (bI_t (by decide))).symm
  refine lv_if_ne (tgt := 20) hx hb dX5_cutPower_13 (by decide) (fun _ => ?_) (fun q => absurd q (by decide))
  refine lv_aload_n hx hb dX5_cutPower_20 rfl (lv_at hl 0 rfl) ?_
  refine x_get (k := 0) hE hK hI (by decide) inG5 (e_0 G o _ _) rfl 3 (by decide) mw_175 rfl dX5_cutPower_21 ?_
  refine lv_aload_n hx hb dX5_cutPower_24 rfl (lv_at hl 0 rfl) ?_
  refine x_get (k := 0) hE hK hI (by decide) inG5 (e_0 G o _ _) rfl 0 (by decide) mw_172 rfl dX5_cutPower_25 ?_
  refine x_get (k := 1) hE hK hI (by decide) inG1 (e_1 G o _ _) rfl 0 (by decide) mw_139 rfl dX5_cutPower_28 ?_
  refine lv_iload_n hx hb dX5_cutPower_31 rfl (lv_at hl 1 rfl) ?_
  refine x_callVv (k := 282) hE hK hI (c_X4_solveCut_4 l G o _ _  ) mf_X4_solveCut mw_283 (by decide) ((e_282 G o) _ _) rfl rfl hl.1 rfl (Nat.le_of_ble_eq_true rfl) ⟨(Nat.le_of_ble_eq_true rfl), (Nat.le_of_ble_eq_true rfl)⟩ ⟨Nat.zero_le _, Nat.zero_le _⟩ dX5_cutPower_32 (fun H locs hI => ?_)
  refine lv_aload_n hx hb dX5_cutPower_35 rfl (lv_at hl 0 rfl) ?_
  refine x_get (k := 0) hE hK hI (by decide) inG5 (e_0 G o _ _) rfl 3 (by decide) mw_175 rfl dX5_cutPower_36 ?_
  refine x_get (k := 282) hE hK hI (by decide) inG4 (e_282 G o _ _) rfl 3 (by decide) mw_160 rfl dX5_cutPower_39 ?_
  refine lv_if_ne (tgt := 49) hx hb dX5_cutPower_42 (by decide) (fun q => absurd h q) (fun _ => ?_)
  refine lv_ldc2 hx hb hE.2.2.2.1 (hE.2.2.2.2 _ mw_243) dX5_cutPower_45 ?_
  exact x_lret hE hr hlocks hI rfl rfl rfl dX5_cutPower_48
set_option maxRecDepth 100000 in
set_option maxHeartbeats 4000000 in
theorem c_X5_cutPower_y1_4 (l : Launch) (G : GG) (o : Nat) (X : SX) (Y : SY) (h : ¬ ((cu4X X Y) 282 3 = 0)) (hg : 1 ≤ gcdL 100 (pwr (cu4X X Y) (cu4Y X Y)) ((cu4Y X Y) 282 2)) : Ct l yX5_cutPower cX5_cutPower 3 (some .long) 4 99 G o [.ref (o + 0), .int 4, .int 1] X Y (some (.long (((cu4Y X Y) 282 2) / (gcdL 100 (pwr (cu4X X Y) (cu4Y X Y)) ((cu4Y X Y) 282 2))))) (cu4X X Y) (cu4Y X Y) := by
  refine Ct.mk (by decide +kernel) (Nat.le_of_ble_eq_true rfl) rfl ?_
  intro p9 e9 s9 m9 args9 below9 meth9 c9 hE hr hlocks hK hI ls hl
  have hx := hE.1
  have hb := hE.2.1
  have hl : lv_has ls 3 [(0, .ref (o + 0)), (1, .int 4), (2, .int 1)] := hl
  refine lv_iload_n hx hb dX5_cutPower_0 rfl (lv_at hl 1 rfl) ?_
  refine lv_iconst (v := 0) hx hb dX5_cutPower_1 (by decide) ?_
  refine lv_iconst (v := 4) hx hb dX5_cutPower_2 (by decide) ?_
  refine x_callSi hE hK hI (c_X5_isWithin l G o _ _ 4 0 4 ) mf_X5_isWithin mw_192 rfl hl.1 rfl (Nat.le_of_ble_eq_true rfl) ⟨(Nat.le_of_ble_eq_true rfl), (Nat.le_of_ble_eq_true rfl)⟩ ⟨Nat.zero_le _, Nat.zero_le _⟩ dX5_cutPower_3 (fun H locs hI => ?_)
  refine lv_topi (fun z1 ez1 => ?_)
  obtain rfl : 1 = z1 := (ez1.trans (bI_t (by decide))).symm
  refine lv_if_eq (tgt := 16) hx hb dX5_cutPower_6 (by decide) (fun q => absurd q (by decide)) (fun _ => ?_)
  refine lv_iload_n hx hb dX5_cutPower_9 rfl (lv_at hl 2 rfl) ?_
  refine x_callSi hE hK hI (c_X5_isZeroOrOne l G o _ _ 1 ) mf_X5_isZeroOrOne mw_227 rfl hl.1 rfl (Nat.le_of_ble_eq_true rfl) ⟨(Nat.le_of_ble_eq_true rfl), (Nat.le_of_ble_eq_true rfl)⟩ ⟨Nat.zero_le _, Nat.zero_le _⟩ dX5_cutPower_10 (fun H locs hI => ?_)
  refine lv_topi (fun z2 ez2 => ?_)
  obtain rfl : 1 = z2 := (ez2.trans (bI_t (by decide))).symm
  refine lv_if_ne (tgt := 20) hx hb dX5_cutPower_13 (by decide) (fun _ => ?_) (fun q => absurd q (by decide))
  refine lv_aload_n hx hb dX5_cutPower_20 rfl (lv_at hl 0 rfl) ?_
  refine x_get (k := 0) hE hK hI (by decide) inG5 (e_0 G o _ _) rfl 3 (by decide) mw_175 rfl dX5_cutPower_21 ?_
  refine lv_aload_n hx hb dX5_cutPower_24 rfl (lv_at hl 0 rfl) ?_
  refine x_get (k := 0) hE hK hI (by decide) inG5 (e_0 G o _ _) rfl 0 (by decide) mw_172 rfl dX5_cutPower_25 ?_
  refine x_get (k := 1) hE hK hI (by decide) inG1 (e_1 G o _ _) rfl 0 (by decide) mw_139 rfl dX5_cutPower_28 ?_
  refine lv_iload_n hx hb dX5_cutPower_31 rfl (lv_at hl 1 rfl) ?_
  refine x_callVv (k := 282) hE hK hI (c_X4_solveCut_4 l G o _ _  ) mf_X4_solveCut mw_283 (by decide) ((e_282 G o) _ _) rfl rfl hl.1 rfl (Nat.le_of_ble_eq_true rfl) ⟨(Nat.le_of_ble_eq_true rfl), (Nat.le_of_ble_eq_true rfl)⟩ ⟨Nat.zero_le _, Nat.zero_le _⟩ dX5_cutPower_32 (fun H locs hI => ?_)
  refine lv_aload_n hx hb dX5_cutPower_35 rfl (lv_at hl 0 rfl) ?_
  refine x_get (k := 0) hE hK hI (by decide) inG5 (e_0 G o _ _) rfl 3 (by decide) mw_175 rfl dX5_cutPower_36 ?_
  refine x_get (k := 282) hE hK hI (by decide) inG4 (e_282 G o _ _) rfl 3 (by decide) mw_160 rfl dX5_cutPower_39 ?_
  refine lv_if_ne (tgt := 49) hx hb dX5_cutPower_42 (by decide) (fun _ => ?_) (fun q => absurd q h)
  refine lv_aload_n hx hb dX5_cutPower_49 rfl (lv_at hl 0 rfl) ?_
  refine x_get (k := 0) hE hK hI (by decide) inG5 (e_0 G o _ _) rfl 3 (by decide) mw_175 rfl dX5_cutPower_50 ?_
  refine lv_aload_n hx hb dX5_cutPower_53 rfl (lv_at hl 0 rfl) ?_
  refine x_get (k := 0) hE hK hI (by decide) inG5 (e_0 G o _ _) rfl 0 (by decide) mw_172 rfl dX5_cutPower_54 ?_
  refine x_get (k := 1) hE hK hI (by decide) inG1 (e_1 G o _ _) rfl 0 (by decide) mw_139 rfl dX5_cutPower_57 ?_
  refine x_get (k := 2) hE hK hI (by decide) inG2 (e_2 G o _ _) rfl 2 (by decide) mw_40 rfl dX5_cutPower_60 ?_
  refine x_callVl (k := 282) hE hK hI (c_X4_scaledPower l G o _ _  ) mf_X4_scaledPower mw_275 (by decide) ((e_282 G o) _ _) rfl rfl hl.1 rfl (Nat.le_of_ble_eq_true rfl) ⟨(Nat.le_of_ble_eq_true rfl), (Nat.le_of_ble_eq_true rfl)⟩ ⟨Nat.zero_le _, Nat.zero_le _⟩ dX5_cutPower_63 (fun H locs hI => ?_)
  refine lv_aload_n hx hb dX5_cutPower_66 rfl (lv_at hl 0 rfl) ?_
  refine x_get (k := 0) hE hK hI (by decide) inG5 (e_0 G o _ _) rfl 3 (by decide) mw_175 rfl dX5_cutPower_67 ?_
  refine x_get (k := 282) hE hK hI (by decide) inG4 (e_282 G o _ _) rfl 2 (by decide) mw_158 rfl dX5_cutPower_70 ?_
  refine lv_iload_n hx hb dX5_cutPower_73 rfl (lv_at hl 2 rfl) ?_
  refine x_callSl hE hK hI (c_X5_partOf_1 l G o _ _ (pwr (cu4X X Y) (cu4Y X Y)) ((cu4Y X Y) 282 2) hg) mf_X5_partOf mw_244 rfl hl.1 rfl (Nat.le_of_ble_eq_true rfl) ⟨(Nat.le_of_ble_eq_true rfl), (Nat.le_of_ble_eq_true rfl)⟩ ⟨Nat.zero_le _, Nat.zero_le _⟩ dX5_cutPower_74 (fun H locs hI => ?_)
  exact x_lret hE hr hlocks hI rfl rfl rfl dX5_cutPower_77
