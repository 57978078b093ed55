/-! ===== 13: the reference: settings and the steady state ===== -/
def llr4 (X : SX) (Y : SY) : Int32 := 1
def llY4 (X : SX) (Y : SY) : SY := Y
def pwrM (X : SX) (Y : SY) : Int64 := 0 + (X 286 20).toInt64 * Y 290 0 + (X 286 21).toInt64 * Y 290 1 + (X 286 22).toInt64 * Y 290 2 + (X 286 23).toInt64 * Y 290 3
set_option maxRecDepth 100000 in
set_option maxHeartbeats 4000000 in
theorem c_X6_shareOf_0_0 (l : Launch) (G : GG) (o : Nat) (X : SX) (Y : SY) : Ct l yX6_shareOf cX6_shareOf 3 (some .int) 0 0 G o [.ref (o + 285), .int 0, .int 0] X Y (some (.int (X 286 0))) X Y := by
  refine Ct.mk (by decide +kernel) (Nat.le_of_ble_eq_true rfl) rfl ?_
  intro p9 e9 s9 m9 args9 below9 meth9 c9 hE hr hlocks hK hI ls hl
  have hx := hE.1
  have hb := hE.2.1
  have hl : lv_has ls 3 [(0, .ref (o + 285)), (1, .int 0), (2, .int 0)] := hl
  refine lv_aload_n hx hb dX6_shareOf_0 rfl (lv_at hl 0 rfl) ?_
  refine x_get (k := 285) hE hK hI (by decide) inG6 (e_285 G o _ _) rfl 0 (by decide) mw_480 rfl dX6_shareOf_1 ?_
  refine lv_iconst (v := 0) hx hb dX6_shareOf_4 (by decide) ?_
  refine lv_iconst (v := 4) hx hb dX6_shareOf_5 (by decide) ?_
  refine lv_iload_n hx hb dX6_shareOf_6 rfl (lv_at hl 1 rfl) ?_
  refine lv_imul hx hb dX6_shareOf_7 ?_
  refine lv_topi (fun z1 ez1 => ?_)
  obtain rfl : 0 = z1 := (ez1.trans (by decide)).symm
  refine lv_iadd hx hb dX6_shareOf_8 ?_
  refine lv_topi (fun z2 ez2 => ?_)
  obtain rfl : 0 = z2 := (ez2.trans (by decide)).symm
  refine lv_iload_n hx hb dX6_shareOf_9 rfl (lv_at hl 2 rfl) ?_
  refine lv_iadd hx hb dX6_shareOf_10 ?_
  refine lv_topi (fun z3 ez3 => ?_)
  obtain rfl : 0 = z3 := (ez3.trans (by decide)).symm
  refine x_iald (k := 286) (j := 0) hE hK hI (by decide) (e_286 G o) (by decide) (by decide) rfl dX6_shareOf_11 ?_
  exact x_iret hE hr hlocks hI rfl rfl rfl dX6_shareOf_12
set_option maxRecDepth 100000 in
set_option maxHeartbeats 4000000 in
theorem c_X6_shareOf_0_1 (l : Launch) (G : GG) (o : Nat) (X : SX) (Y : SY) : Ct l yX6_shareOf cX6_shareOf 3 (some .int) 0 0 G o [.ref (o + 285), .int 0, .int 1] X Y (some (.int (X 286 1))) X Y := by
  refine Ct.mk (by decide +kernel) (Nat.le_of_ble_eq_true rfl) rfl ?_
  intro p9 e9 s9 m9 args9 below9 meth9 c9 hE hr hlocks hK hI ls hl
  have hx := hE.1
  have hb := hE.2.1
  have hl : lv_has ls 3 [(0, .ref (o + 285)), (1, .int 0), (2, .int 1)] := hl
  refine lv_aload_n hx hb dX6_shareOf_0 rfl (lv_at hl 0 rfl) ?_
  refine x_get (k := 285) hE hK hI (by decide) inG6 (e_285 G o _ _) rfl 0 (by decide) mw_480 rfl dX6_shareOf_1 ?_
  refine lv_iconst (v := 0) hx hb dX6_shareOf_4 (by decide) ?_
  refine lv_iconst (v := 4) hx hb dX6_shareOf_5 (by decide) ?_
  refine lv_iload_n hx hb dX6_shareOf_6 rfl (lv_at hl 1 rfl) ?_
  refine lv_imul hx hb dX6_shareOf_7 ?_
  refine lv_topi (fun z1 ez1 => ?_)
  obtain rfl : 0 = z1 := (ez1.trans (by decide)).symm
  refine lv_iadd hx hb dX6_shareOf_8 ?_
  refine lv_topi (fun z2 ez2 => ?_)
  obtain rfl : 0 = z2 := (ez2.trans (by decide)).symm
  refine lv_iload_n hx hb dX6_shareOf_9 rfl (lv_at hl 2 rfl) ?_
  refine lv_iadd hx hb dX6_shareOf_10 ?_
  refine lv_topi (fun z3 ez3 => ?_)
  obtain rfl : 1 = z3 := (ez3.trans (by decide)).symm
  refine x_iald (k := 286) (j := 1) hE hK hI (by decide) (e_286 G o) (by decide) (by decide) rfl dX6_shareOf_11 ?_
  exact x_iret hE hr hlocks hI rfl rfl rfl dX6_shareOf_12
set_option maxRecDepth 100000 in
set_option maxHeartbeats 4000000 in
theorem c_X6_shareOf_0_2 (l : Launch) (G : GG) (o : Nat) (X : SX) (Y : SY) : Ct l yX6_shareOf cX6_shareOf 3 (some .int) 0 0 G o [.ref (o + 285), .int 0, .int 2] X Y (some (.int (X 286 2))) X Y := by
  refine Ct.mk (by decide +kernel) (Nat.le_of_ble_eq_true rfl) rfl ?_
  intro p9 e9 s9 m9 args9 below9 meth9 c9 hE hr hlocks hK hI ls hl
  have hx := hE.1
  have hb := hE.2.1
  have hl : lv_has ls 3 [(0, .ref (o + 285)), (1, .int 0), (2, .int 2)] := hl
  refine lv_aload_n hx hb dX6_shareOf_0 rfl (lv_at hl 0 rfl) ?_
  refine x_get (k := 285) hE hK hI (by decide) inG6 (e_285 G o _ _) rfl 0 (by decide) mw_480 rfl dX6_shareOf_1 ?_
  refine lv_iconst (v := 0) hx hb dX6_shareOf_4 (by decide) ?_
  refine lv_iconst (v := 4) hx hb dX6_shareOf_5 (by decide) ?_
  refine lv_iload_n hx hb dX6_shareOf_6 rfl (lv_at hl 1 rfl) ?_
  refine lv_imul hx hb dX6_shareOf_7 ?_
  refine lv_topi (fun z1 ez1 => ?_)
  obtain rfl : 0 = z1 := (ez1.trans (by decide)).symm
  refine lv_iadd hx hb dX6_shareOf_8 ?_
  refine lv_topi (fun z2 ez2 => ?_)
  obtain rfl : 0 = z2 := (ez2.trans (by decide)).symm
  refine lv_iload_n hx hb dX6_shareOf_9 rfl (lv_at hl 2 rfl) ?_
  refine lv_iadd hx hb dX6_shareOf_10 ?_
  refine lv_topi (fun z3 ez3 => ?_)
  obtain rfl : 2 = z3 := (ez3.trans (by decide)).symm
  refine x_iald (k := 286) (j := 2) hE hK hI (by decide) (e_286 G o) (by decide) (by decide) rfl dX6_shareOf_11 ?_
  exact x_iret hE hr hlocks hI rfl rfl rfl dX6_shareOf_12
set_option maxRecDepth 100000 in
set_option maxHeartbeats 4000000 in
theorem c_X6_shareOf_0_3 (l : Launch) (G : GG) (o : Nat) (X : SX) (Y : SY) : Ct l yX6_shareOf cX6_shareOf 3 (some .int) 0 0 G o [.ref (o + 285), .int 0, .int 3] X Y (some (.int (X 286 3))) X Y := by
  refine Ct.mk (by decide +kernel) (Nat.le_of_ble_eq_true rfl) rfl ?_
  intro p9 e9 s9 m9 args9 below9 meth9 c9 hE hr hlocks hK hI ls hl
  have hx := hE.1
  have hb := hE.2.1
  have hl : lv_has ls 3 [(0, .ref (o + 285)), (1, .int 0), (2, .int 3)] := hl
  refine lv_aload_n hx hb dX6_shareOf_0 rfl (lv_at hl 0 rfl) ?_
  refine x_get (k := 285) hE hK hI (by decide) inG6 (e_285 G o _ _) rfl 0 (by decide) mw_480 rfl dX6_shareOf_1 ?_
  refine lv_iconst (v := 0) hx hb dX6_shareOf_4 (by decide) ?_
  refine lv_iconst (v := 4) hx hb dX6_shareOf_5 (by decide) ?_
  refine lv_iload_n hx hb dX6_shareOf_6 rfl (lv_at hl 1 rfl) ?_
  refine lv_imul hx hb dX6_shareOf_7 ?_
  refine lv_topi (fun z1 ez1 => ?_)
  obtain rfl : 0 = z1 := (ez1.trans (by decide)).symm
  refine lv_iadd hx hb dX6_shareOf_8 ?_
  refine lv_topi (fun z2 ez2 => ?_)
  obtain rfl : 0 = z2 := (ez2.trans (by decide)).symm
  refine lv_iload_n hx hb dX6_shareOf_9 rfl (lv_at hl 2 rfl) ?_
  refine lv_iadd hx hb dX6_shareOf_10 ?_
  refine lv_topi (fun z3 ez3 => ?_)
  obtain rfl : 3 = z3 := (ez3.trans (by decide)).symm
  refine x_iald (k := 286) (j := 3) hE hK hI (by decide) (e_286 G o) (by decide) (by decide) rfl dX6_shareOf_11 ?_
  exact x_iret hE hr hlocks hI rfl rfl rfl dX6_shareOf_12
set_option maxRecDepth 100000 in
set_option maxHeartbeats 4000000 in
theorem c_X6_shareOf_1_0 (l : Launch) (G : GG) (o : Nat) (X : SX) (Y : SY) : Ct l yX6_shareOf cX6_shareOf 3 (some .int) 0 0 G o [.ref (o + 285), .int 1, .int 0] X Y (some (.int (X 286 4))) X Y := by
  refine Ct.mk (by decide +kernel) (Nat.le_of_ble_eq_true rfl) rfl ?_
  intro p9 e9 s9 m9 args9 below9 meth9 c9 hE hr hlocks hK hI ls hl
  have hx := hE.1
  have hb := hE.2.1
  have hl : lv_has ls 3 [(0, .ref (o + 285)), (1, .int 1), (2, .int 0)] := hl
  refine lv_aload_n hx hb dX6_shareOf_0 rfl (lv_at hl 0 rfl) ?_
  refine x_get (k := 285) hE hK hI (by decide) inG6 (e_285 G o _ _) rfl 0 (by decide) mw_480 rfl dX6_shareOf_1 ?_
  refine lv_iconst (v := 0) hx hb dX6_shareOf_4 (by decide) ?_
  refine lv_iconst (v := 4) hx hb dX6_shareOf_5 (by decide) ?_
  refine lv_iload_n hx hb dX6_shareOf_6 rfl (lv_at hl 1 rfl) ?_
  refine lv_imul hx hb dX6_shareOf_7 ?_
  refine lv_topi (fun z1 ez1 => ?_)
  obtain rfl : 4 = z1 := (ez1.trans (by decide)).symm
  refine lv_iadd hx hb dX6_shareOf_8 ?_
  refine lv_topi (fun z2 ez2 => ?_)
  obtain rfl : 4 = z2 := (ez2.trans (by decide)).symm
  refine lv_iload_n hx hb dX6_shareOf_9 rfl (lv_at hl 2 rfl) ?_
  refine lv_iadd hx hb dX6_shareOf_10 ?_
  refine lv_topi (fun z3 ez3 => ?_)
  obtain rfl : 4 = z3 := (ez3.trans (by decide)).symm
  refine x_iald (k := 286) (j := 4) hE hK hI (by decide) (e_286 G o) (by decide) (by decide) rfl dX6_shareOf_11 ?_
  exact x_iret hE hr hlocks hI rfl rfl rfl dX6_shareOf_12
set_option maxRecDepth 100000 in
set_option maxHeartbeats 4000000 in
theorem c_X6_shareOf_1_1 (l : Launch) (G : GG) (o : Nat) (X : SX) (Y : SY) : Ct l yX6_shareOf cX6_shareOf 3 (some .int) 0 0 G o [.ref (o + 285), .int 1, .int 1] X Y (some (.int (X 286 5))) X Y := by
  refine Ct.mk (by decide +kernel) (Nat.le_of_ble_eq_true rfl) rfl ?_
  intro p9 e9 s9 m9 args9 below9 meth9 c9 hE hr hlocks hK hI ls hl
  have hx := hE.1
  have hb := hE.2.1
  have hl : lv_has ls 3 [(0, .ref (o + 285)), (1, .int 1), (2, .int 1)] := hl
  refine lv_aload_n hx hb dX6_shareOf_0 rfl (lv_at hl 0 rfl) ?_
  refine x_get (k := 285) hE hK hI (by decide) inG6 (e_285 G o _ _) rfl 0 (by decide) mw_480 rfl dX6_shareOf_1 ?_
  refine lv_iconst (v := 0) hx hb dX6_shareOf_4 (by decide) ?_
  refine lv_iconst (v := 4) hx hb dX6_shareOf_5 (by decide) ?_
  refine lv_iload_n hx hb dX6_shareOf_6 rfl (lv_at hl 1 rfl) ?_
  refine lv_imul hx hb dX6_shareOf_7 ?_
  refine lv_topi (fun z1 ez1 => ?_)
  obtain rfl : 4 = z1 := (ez1.trans (by decide)).symm
  refine lv_iadd hx hb dX6_shareOf_8 ?_
  refine lv_topi (fun z2 ez2 => ?_)
  obtain rfl : 4 = z2 := (ez2.trans (by decide)).symm
  refine lv_iload_n hx hb dX6_shareOf_9 rfl (lv_at hl 2 rfl) ?_
  refine lv_iadd hx hb dX6_shareOf_10 ?_
  refine lv_topi (fun z3 ez3 => ?_)
  obtain rfl : 5 = z3 := (ez3.trans (by decide)).symm
  refine x_iald (k := 286) (j := 5) hE hK hI (by decide) (e_286 G o) (by decide) (by decide) rfl dX6_shareOf_11 ?_
  exact x_iret hE hr hlocks hI rfl rfl rfl dX6_shareOf_12
set_option maxRecDepth 100000 in
set_option maxHeartbeats 4000000 in
theorem c_X6_shareOf_1_2 (l : Launch) (G : GG) (o : Nat) (X : SX) (Y : SY) : Ct l yX6_shareOf cX6_shareOf 3 (some .int) 0 0 G o [.ref (o + 285), .int 1, .int 2] X Y (some (.int (X 286 6))) X Y := by
  refine Ct.mk (by decide +kernel) (Nat.le_of_ble_eq_true rfl) rfl ?_
  intro p9 e9 s9 m9 args9 below9 meth9 c9 hE hr hlocks hK hI ls hl
  have hx := hE.1
  have hb := hE.2.1
  have hl : lv_has ls 3 [(0, .ref (o + 285)), (1, .int 1), (2, .int 2)] := hl
  refine lv_aload_n hx hb dX6_shareOf_0 rfl (lv_at hl 0 rfl) ?_
  refine x_get (k := 285) hE hK hI (by decide) inG6 (e_285 G o _ _) rfl 0 (by decide) mw_480 rfl dX6_shareOf_1 ?_
  refine lv_iconst (v := 0) hx hb dX6_shareOf_4 (by decide) ?_
  refine lv_iconst (v := 4) hx hb dX6_shareOf_5 (by decide) ?_
  refine lv_iload_n hx hb dX6_shareOf_6 rfl (lv_at hl 1 rfl) ?_
  refine lv_imul hx hb dX6_shareOf_7 ?_
  refine lv_topi (fun z1 ez1 => ?_)
  obtain rfl : 4 = z1 := (ez1.trans (by decide)).symm
  refine lv_iadd hx hb dX6_shareOf_8 ?_
  refine lv_topi (fun z2 ez2 => ?_)
  obtain rfl : 4 = z2 := (ez2.trans (by decide)).symm
  refine lv_iload_n hx hb dX6_shareOf_9 rfl (lv_at hl 2 rfl) ?_
  refine lv_iadd hx hb dX6_shareOf_10 ?_
  refine lv_topi (fun z3 ez3 => ?_)
  obtain rfl : 6 = z3 := (ez3.trans (by decide)).symm
  refine x_iald (k := 286) (j := 6) hE hK hI (by decide) (e_286 G o) (by decide) (by decide) rfl dX6_shareOf_11 ?_
  exact x_iret hE hr hlocks hI rfl rfl rfl dX6_shareOf_12
set_option maxRecDepth 100000 in
set_option maxHeartbeats 4000000 in
theorem c_X6_shareOf_1_3 (l : Launch) (G : GG) (o : Nat) (X : SX) (Y : SY) : Ct l yX6_shareOf cX6_shareOf 3 (some .int) 0 0 G o [.ref (o + 285), .int 1, .int 3] X Y (some (.int (X 286 7))) X Y := by
  refine Ct.mk (by decide +kernel) (Nat.le_of_ble_eq_true rfl) rfl ?_
  intro p9 e9 s9 m9 args9 below9 meth9 c9 hE hr hlocks hK hI ls hl
  have hx := hE.1
  have hb := hE.2.1
  have hl : lv_has ls 3 [(0, .ref (o + 285)), (1, .int 1), (2, .int 3)] := hl
  refine lv_aload_n hx hb dX6_shareOf_0 rfl (lv_at hl 0 rfl) ?_
  refine x_get (k := 285) hE hK hI (by decide) inG6 (e_285 G o _ _) rfl 0 (by decide) mw_480 rfl dX6_shareOf_1 ?_
  refine lv_iconst (v := 0) hx hb dX6_shareOf_4 (by decide) ?_
  refine lv_iconst (v := 4) hx hb dX6_shareOf_5 (by decide) ?_
  refine lv_iload_n hx hb dX6_shareOf_6 rfl (lv_at hl 1 rfl) ?_
  refine lv_imul hx hb dX6_shareOf_7 ?_
  refine lv_topi (fun z1 ez1 => ?_)
  obtain rfl : 4 = z1 := (ez1.trans (by decide)).symm
  refine lv_iadd hx hb dX6_shareOf_8 ?_
  refine lv_topi (fun z2 ez2 => ?_)
  obtain rfl : 4 = z2 := (ez2.trans (by decide)).symm
  refine lv_iload_n hx hb dX6_shareOf_9 rfl (lv_at hl 2 rfl) ?_
  refine lv_iadd hx hb dX6_shareOf_10 ?_
  refine lv_topi (fun z3 ez3 => ?_)
  obtain rfl : 7 = z3 := (ez3.trans (by decide)).symm
  refine x_iald (k := 286) (j := 7) hE hK hI (by decide) (e_286 G o) (by decide) (by decide) rfl dX6_shareOf_11 ?_
  exact x_iret hE hr hlocks hI rfl rfl rfl dX6_shareOf_12
set_option maxRecDepth 100000 in
set_option maxHeartbeats 4000000 in
theorem c_X6_shareOf_2_0 (l : Launch) (G : GG) (o : Nat) (X : SX) (Y : SY) : Ct l yX6_shareOf cX6_shareOf 3 (some .int) 0 0 G o [.ref (o + 285), .int 2, .int 0] X Y (some (.int (X 286 8))) X Y := by
  refine Ct.mk (by decide +kernel) (Nat.le_of_ble_eq_true rfl) rfl ?_
  intro p9 e9 s9 m9 args9 below9 meth9 c9 hE hr hlocks hK hI ls hl
  have hx := hE.1
  have hb := hE.2.1
  have hl : lv_has ls 3 [(0, .ref (o + 285)), (1, .int 2), (2, .int 0)] := hl
  refine lv_aload_n hx hb dX6_shareOf_0 rfl (lv_at hl 0 rfl) ?_
  refine x_get (k := 285) hE hK hI (by decide) inG6 (e_285 G o _ _) rfl 0 (by decide) mw_480 rfl dX6_shareOf_1 ?_
  refine lv_iconst (v := 0) hx hb dX6_shareOf_4 (by decide) ?_
  refine lv_iconst (v := 4) hx hb dX6_shareOf_5 (by decide) ?_
  refine lv_iload_n hx hb dX6_shareOf_6 rfl (lv_at hl 1 rfl) ?_
  refine lv_imul hx hb dX6_shareOf_7 ?_
  refine lv_topi (fun z1 ez1 => ?_)
  obtain rfl : 8 = z1 := (ez1.trans (by decide)).symm
  refine lv_iadd hx hb dX6_shareOf_8 ?_
  refine lv_topi (fun z2 ez2 => ?_)
  obtain rfl : 8 = z2 := (ez2.trans (by decide)).symm
  refine lv_iload_n hx hb dX6_shareOf_9 rfl (lv_at hl 2 rfl) ?_
  refine lv_iadd hx hb dX6_shareOf_10 ?_
  refine lv_topi (fun z3 ez3 => ?_)
  obtain rfl : 8 = z3 := (ez3.trans (by decide)).symm
  refine x_iald (k := 286) (j := 8) hE hK hI (by decide) (e_286 G o) (by decide) (by decide) rfl dX6_shareOf_11 ?_
  exact x_iret hE hr hlocks hI rfl rfl rfl dX6_shareOf_12
set_option maxRecDepth 100000 in
set_option maxHeartbeats 4000000 in
theorem c_X6_shareOf_2_1 (l : Launch) (G : GG) (o : Nat) (X : SX) (Y : SY) : Ct l yX6_shareOf cX6_shareOf 3 (some .int) 0 0 G o [.ref (o + 285), .int 2, .int 1] X Y (some (.int (X 286 9))) X Y := by
  refine Ct.mk (by decide +kernel) (Nat.le_of_ble_eq_true rfl) rfl ?_
  intro p9 e9 s9 m9 args9 below9 meth9 c9 hE hr hlocks hK hI ls hl
  have hx := hE.1
  have hb := hE.2.1
  have hl : lv_has ls 3 [(0, .ref (o + 285)), (1, .int 2), (2, .int 1)] := hl
  refine lv_aload_n hx hb dX6_shareOf_0 rfl (lv_at hl 0 rfl) ?_
  refine x_get (k := 285) hE hK hI (by decide) inG6 (e_285 G o _ _) rfl 0 (by decide) mw_480 rfl dX6_shareOf_1 ?_
  refine lv_iconst (v := 0) hx hb dX6_shareOf_4 (by decide) ?_
  refine lv_iconst (v := 4) hx hb dX6_shareOf_5 (by decide) ?_
  refine lv_iload_n hx hb dX6_shareOf_6 rfl (lv_at hl 1 rfl) ?_
  refine lv_imul hx hb dX6_shareOf_7 ?_
  refine lv_topi (fun z1 ez1 => ?_)
  obtain rfl : 8 = z1 := (ez1.trans (by decide)).symm
  refine lv_iadd hx hb dX6_shareOf_8 ?_
  refine lv_topi (fun z2 ez2 => ?_)
  obtain rfl : 8 = z2 := (ez2.trans (by decide)).symm
  refine lv_iload_n hx hb dX6_shareOf_9 rfl (lv_at hl 2 rfl) ?_
  refine lv_iadd hx hb dX6_shareOf_10 ?_
  refine lv_topi (fun z3 ez3 => ?_)
  obtain rfl : 9 = z3 := (ez3.trans (by decide)).symm
  refine x_iald (k := 286) (j := 9) hE hK hI (by decide) (e_286 G o) (by decide) (by decide) rfl dX6_shareOf_11 ?_
  exact x_iret hE hr hlocks hI rfl rfl rfl dX6_shareOf_12
set_option maxRecDepth 100000 in
set_option maxHeartbeats 4000000 in
theorem c_X6_shareOf_2_2 (l : Launch) (G : GG) (o : Nat) (X : SX) (Y : SY) : Ct l yX6_shareOf cX6_shareOf 3 (some .int) 0 0 G o [.ref (o + 285), .int 2, .int 2] X Y (some (.int (X 286 10))) X Y := by
  refine Ct.mk (by decide +kernel) (Nat.le_of_ble_eq_true rfl) rfl ?_
  intro p9 e9 s9 m9 args9 below9 meth9 c9 hE hr hlocks hK hI ls hl
  have hx := hE.1
  have hb := hE.2.1
  have hl : lv_has ls 3 [(0, .ref (o + 285)), (1, .int 2), (2, .int 2)] := hl
  refine lv_aload_n hx hb dX6_shareOf_0 rfl (lv_at hl 0 rfl) ?_
  refine x_get (k := 285) hE hK hI (by decide) inG6 (e_285 G o _ _) rfl 0 (by decide) mw_480 rfl dX6_shareOf_1 ?_
  refine lv_iconst (v := 0) hx hb dX6_shareOf_4 (by decide) ?_
  refine lv_iconst (v := 4) hx hb dX6_shareOf_5 (by decide) ?_
  refine lv_iload_n hx hb dX6_shareOf_6 rfl (lv_at hl 1 rfl) ?_
  refine lv_imul hx hb dX6_shareOf_7 ?_
  refine lv_topi (fun z1 ez1 => ?_)
  obtain rfl : 8 = z1 := (ez1.trans (by decide)).symm
  refine lv_iadd hx hb dX6_shareOf_8 ?_
  refine lv_topi (fun z2 ez2 => ?_)
  obtain rfl : 8 = z2 := (ez2.trans (by decide)).symm
  refine lv_iload_n hx hb dX6_shareOf_9 rfl (lv_at hl 2 rfl) ?_
  refine lv_iadd hx hb dX6_shareOf_10 ?_
  refine lv_topi (fun z3 ez3 => ?_)
  obtain rfl : 10 = z3 := (ez3.trans (by decide)).symm
  refine x_iald (k := 286) (j := 10) hE hK hI (by decide) (e_286 G o) (by decide) (by decide) rfl dX6_shareOf_11 ?_
  exact x_iret hE hr hlocks hI rfl rfl rfl dX6_shareOf_12
set_option maxRecDepth 100000 in
set_option maxHeartbeats 4000000 in
theorem c_X6_shareOf_2_3 (l : Launch) (G : GG) (o : Nat) (X : SX) (Y : SY) : Ct l yX6_shareOf cX6_shareOf 3 (some .int) 0 0 G o [.ref (o + 285), .int 2, .int 3] X Y (some (.int (X 286 11))) X Y := by
  refine Ct.mk (by decide +kernel) (Nat.le_of_ble_eq_true rfl) rfl ?_
  intro p9 e9 s9 m9 args9 below9 meth9 c9 hE hr hlocks hK hI ls hl
  have hx := hE.1
  have hb := hE.2.1
  have hl : lv_has ls 3 [(0, .ref (o + 285)), (1, .int 2), (2, .int 3)] := hl
  refine lv_aload_n hx hb dX6_shareOf_0 rfl (lv_at hl 0 rfl) ?_
  refine x_get (k := 285) hE hK hI (by decide) inG6 (e_285 G o _ _) rfl 0 (by decide) mw_480 rfl dX6_shareOf_1 ?_
  refine lv_iconst (v := 0) hx hb dX6_shareOf_4 (by decide) ?_
  refine lv_iconst (v := 4) hx hb dX6_shareOf_5 (by decide) ?_
  refine lv_iload_n hx hb dX6_shareOf_6 rfl (lv_at hl 1 rfl) ?_
  refine lv_imul hx hb dX6_shareOf_7 ?_
  refine lv_topi (fun z1 ez1 => ?_)
  obtain rfl : 8 = z1 := (ez1.trans (by decide)).symm
  refine lv_iadd hx hb dX6_shareOf_8 ?_
  refine lv_topi (fun z2 ez2 => ?_)
  obtain rfl : 8 = z2 := (ez2.trans (by decide)).symm
  refine lv_iload_n hx hb dX6_shareOf_9 rfl (lv_at hl 2 rfl) ?_
  refine lv_iadd hx hb dX6_shareOf_10 ?_
  refine lv_topi (fun z3 ez3 => ?_)
  obtain rfl : 11 = z3 := (ez3.trans (by decide)).symm
  refine x_iald (k := 286) (j := 11) hE hK hI (by decide) (e_286 G o) (by decide) (by decide) rfl dX6_shareOf_11 ?_
  exact x_iret hE hr hlocks hI rfl rfl rfl dX6_shareOf_12
set_option maxRecDepth 100000 in
set_option maxHeartbeats 4000000 in
theorem c_X6_shareOf_3_0 (l : Launch) (G : GG) (o : Nat) (X : SX) (Y : SY) : Ct l yX6_shareOf cX6_shareOf 3 (some .int) 0 0 G o [.ref (o + 285), .int 3, .int 0] X Y (some (.int (X 286 12))) X Y := by
  refine Ct.mk (by decide +kernel) (Nat.le_of_ble_eq_true rfl) rfl ?_
  intro p9 e9 s9 m9 args9 below9 meth9 c9 hE hr hlocks hK hI ls hl
  have hx := hE.1
  have hb := hE.2.1
  have hl : lv_has ls 3 [(0, .ref (o + 285)), (1, .int 3), (2, .int 0)] := hl
  refine lv_aload_n hx hb dX6_shareOf_0 rfl (lv_at hl 0 rfl) ?_
  refine x_get (k := 285) hE hK hI (by decide) inG6 (e_285 G o _ _) rfl 0 (by decide) mw_480 rfl dX6_shareOf_1 ?_
  refine lv_iconst (v := 0) hx hb dX6_shareOf_4 (by decide) ?_
  refine lv_iconst (v := 4) hx hb dX6_shareOf_5 (by decide) ?_
  refine lv_iload_n hx hb dX6_shareOf_6 rfl (lv_at hl 1 rfl) ?_
  refine lv_imul hx hb dX6_shareOf_7 ?_
  refine lv_topi (fun z1 ez1 => ?_)
  obtain rfl : 12 = z1 := (ez1.trans (by decide)).symm
  refine lv_iadd hx hb dX6_shareOf_8 ?_
  refine lv_topi (fun z2 ez2 => ?_)
  obtain rfl : 12 = z2 := (ez2.trans (by decide)).symm
  refine lv_iload_n hx hb dX6_shareOf_9 rfl (lv_at hl 2 rfl) ?_
  refine lv_iadd hx hb dX6_shareOf_10 ?_
  refine lv_topi (fun z3 ez3 => ?_)
  obtain rfl : 12 = z3 := (ez3.trans (by decide)).symm
  refine x_iald (k := 286) (j := 12) hE hK hI (by decide) (e_286 G o) (by decide) (by decide) rfl dX6_shareOf_11 ?_
  exact x_iret hE hr hlocks hI rfl rfl rfl dX6_shareOf_12
set_option maxRecDepth 100000 in
set_option maxHeartbeats 4000000 in
theorem c_X6_shareOf_3_1 (l : Launch) (G : GG) (o : Nat) (X : SX) (Y : SY) : Ct l yX6_shareOf cX6_shareOf 3 (some .int) 0 0 G o [.ref (o + 285), .int 3, .int 1] X Y (some (.int (X 286 13))) X Y := by
  refine Ct.mk (by decide +kernel) (Nat.le_of_ble_eq_true rfl) rfl ?_
  intro p9 e9 s9 m9 args9 below9 meth9 c9 hE hr hlocks hK hI ls hl
  have hx := hE.1
  have hb := hE.2.1
  have hl : lv_has ls 3 [(0, .ref (o + 285)), (1, .int 3), (2, .int 1)] := hl
  refine lv_aload_n hx hb dX6_shareOf_0 rfl (lv_at hl 0 rfl) ?_
  refine x_get (k := 285) hE hK hI (by decide) inG6 (e_285 G o _ _) rfl 0 (by decide) mw_480 rfl dX6_shareOf_1 ?_
  refine lv_iconst (v := 0) hx hb dX6_shareOf_4 (by decide) ?_
  refine lv_iconst (v := 4) hx hb dX6_shareOf_5 (by decide) ?_
  refine lv_iload_n hx hb dX6_shareOf_6 rfl (lv_at hl 1 rfl) ?_
  refine lv_imul hx hb dX6_shareOf_7 ?_
  refine lv_topi (fun z1 ez1 => ?_)
  obtain rfl : 12 = z1 := (ez1.trans (by decide)).symm
  refine lv_iadd hx hb dX6_shareOf_8 ?_
  refine lv_topi (fun z2 ez2 => ?_)
  obtain rfl : 12 = z2 := (ez2.trans (by decide)).symm
  refine lv_iload_n hx hb dX6_shareOf_9 rfl (lv_at hl 2 rfl) ?_
  refine lv_iadd hx hb dX6_shareOf_10 ?_
  refine lv_topi (fun z3 ez3 => ?_)
  obtain rfl : 13 = z3 := (ez3.trans (by decide)).symm
  refine x_iald (k := 286) (j := 13) hE hK hI (by decide) (e_286 G o) (by decide) (by decide) rfl dX6_shareOf_11 ?_
  exact x_iret hE hr hlocks hI rfl rfl rfl dX6_shareOf_12
set_option maxRecDepth 100000 in
set_option maxHeartbeats 4000000 in
theorem c_X6_shareOf_3_2 (l : Launch) (G : GG) (o : Nat) (X : SX) (Y : SY) : Ct l yX6_shareOf cX6_shareOf 3 (some .int) 0 0 G o [.ref (o + 285), .int 3, .int 2] X Y (some (.int (X 286 14))) X Y := by
  refine Ct.mk (by decide +kernel) (Nat.le_of_ble_eq_true rfl) rfl ?_
  intro p9 e9 s9 m9 args9 below9 meth9 c9 hE hr hlocks hK hI ls hl
  have hx := hE.1
  have hb := hE.2.1
  have hl : lv_has ls 3 [(0, .ref (o + 285)), (1, .int 3), (2, .int 2)] := hl
  refine lv_aload_n hx hb dX6_shareOf_0 rfl (lv_at hl 0 rfl) ?_
  refine x_get (k := 285) hE hK hI (by decide) inG6 (e_285 G o _ _) rfl 0 (by decide) mw_480 rfl dX6_shareOf_1 ?_
  refine lv_iconst (v := 0) hx hb dX6_shareOf_4 (by decide) ?_
  refine lv_iconst (v := 4) hx hb dX6_shareOf_5 (by decide) ?_
  refine lv_iload_n hx hb dX6_shareOf_6 rfl (lv_at hl 1 rfl) ?_
  refine lv_imul hx hb dX6_shareOf_7 ?_
  refine lv_topi (fun z1 ez1 => ?_)
  obtain rfl : 12 = z1 := (ez1.trans (by decide)).symm
  refine lv_iadd hx hb dX6_shareOf_8 ?_
  refine lv_topi (fun z2 ez2 => ?_)
  obtain rfl : 12 = z2 := (ez2.trans (by decide)).symm
  refine lv_iload_n hx hb dX6_shareOf_9 rfl (lv_at hl 2 rfl) ?_
  refine lv_iadd hx hb dX6_shareOf_10 ?_
  refine lv_topi (fun z3 ez3 => ?_)
  obtain rfl : 14 = z3 := (ez3.trans (by decide)).symm
  refine x_iald (k := 286) (j := 14) hE hK hI (by decide) (e_286 G o) (by decide) (by decide) rfl dX6_shareOf_11 ?_
  exact x_iret hE hr hlocks hI rfl rfl rfl dX6_shareOf_12
set_option maxRecDepth 100000 in
set_option maxHeartbeats 4000000 in
theorem c_X6_shareOf_3_3 (l : Launch) (G : GG) (o : Nat) (X : SX) (Y : SY) : Ct l yX6_shareOf cX6_shareOf 3 (some .int) 0 0 G o [.ref (o + 285), .int 3, .int 3] X Y (some (.int (X 286 15))) X Y := by
  refine Ct.mk (by decide +kernel) (Nat.le_of_ble_eq_true rfl) rfl ?_
  intro p9 e9 s9 m9 args9 below9 meth9 c9 hE hr hlocks hK hI ls hl
  have hx := hE.1
  have hb := hE.2.1
  have hl : lv_has ls 3 [(0, .ref (o + 285)), (1, .int 3), (2, .int 3)] := hl
  refine lv_aload_n hx hb dX6_shareOf_0 rfl (lv_at hl 0 rfl) ?_
  refine x_get (k := 285) hE hK hI (by decide) inG6 (e_285 G o _ _) rfl 0 (by decide) mw_480 rfl dX6_shareOf_1 ?_
  refine lv_iconst (v := 0) hx hb dX6_shareOf_4 (by decide) ?_
  refine lv_iconst (v := 4) hx hb dX6_shareOf_5 (by decide) ?_
  refine lv_iload_n hx hb dX6_shareOf_6 rfl (lv_at hl 1 rfl) ?_
  refine lv_imul hx hb dX6_shareOf_7 ?_
  refine lv_topi (fun z1 ez1 => ?_)
  obtain rfl : 12 = z1 := (ez1.trans (by decide)).symm
  refine lv_iadd hx hb dX6_shareOf_8 ?_
  refine lv_topi (fun z2 ez2 => ?_)
  obtain rfl : 12 = z2 := (ez2.trans (by decide)).symm
  refine lv_iload_n hx hb dX6_shareOf_9 rfl (lv_at hl 2 rfl) ?_
  refine lv_iadd hx hb dX6_shareOf_10 ?_
  refine lv_topi (fun z3 ez3 => ?_)
  obtain rfl : 15 = z3 := (ez3.trans (by decide)).symm
  refine x_iald (k := 286) (j := 15) hE hK hI (by decide) (e_286 G o) (by decide) (by decide) rfl dX6_shareOf_11 ?_
  exact x_iret hE hr hlocks hI rfl rfl rfl dX6_shareOf_12
set_option maxRecDepth 100000 in
set_option maxHeartbeats 4000000 in
theorem c_X6_shareOf (l : Launch) (G : GG) (o : Nat) (X : SX) (Y : SY) (i : Nat) (j : Nat) (h1 : i < 4) (h2 : j < 4) : Ct l yX6_shareOf cX6_shareOf 3 (some .int) 0 0 G o [.ref (o + 285), .int (nI i), .int (nI j)] X Y (some (.int (X 286 ((0 + (4 * i)) + j)))) X Y := by
  refine Ct.mk (by decide +kernel) (Nat.le_of_ble_eq_true rfl) rfl ?_
  intro p9 e9 s9 m9 args9 below9 meth9 c9 hE hr hlocks hK hI ls hl
  have hx := hE.1
  have hb := hE.2.1
  have hl : lv_has ls 3 [(0, .ref (o + 285)), (1, .int (nI i)), (2, .int (nI j))] := hl
  refine lv_aload_n hx hb dX6_shareOf_0 rfl (lv_at hl 0 rfl) ?_
  refine x_get (k := 285) hE hK hI (by decide) inG6 (e_285 G o _ _) rfl 0 (by decide) mw_480 rfl dX6_shareOf_1 ?_
  refine lv_iconst (v := 0) hx hb dX6_shareOf_4 (by decide) ?_
  refine lv_iconst (v := 4) hx hb dX6_shareOf_5 (by decide) ?_
  refine lv_iload_n hx hb dX6_shareOf_6 rfl (lv_at hl 1 rfl) ?_
  refine lv_imul hx hb dX6_shareOf_7 ?_
  refine lv_topi (fun z1 ez1 => ?_)
  obtain rfl : nI (4 * i) = z1 := (ez1.trans (pk_mul 4 i)).symm
  refine lv_iadd hx hb dX6_shareOf_8 ?_
  refine lv_topi (fun z2 ez2 => ?_)
  obtain rfl : nI (0 + (4 * i)) = z2 := (ez2.trans (nI_add 0 (4 * i))).symm
  refine lv_iload_n hx hb dX6_shareOf_9 rfl (lv_at hl 2 rfl) ?_
  refine lv_iadd hx hb dX6_shareOf_10 ?_
  refine lv_topi (fun z3 ez3 => ?_)
  obtain rfl : nI ((0 + (4 * i)) + j) = z3 := (ez3.trans (nI_add (0 + (4 * i)) j)).symm
  refine x_iald (k := 286) (j := ((0 + (4 * i)) + j)) hE hK hI (by decide) (e_286 G o) (by omega) (by decide) rfl dX6_shareOf_11 ?_
  exact x_iret hE hr hlocks hI rfl rfl rfl dX6_shareOf_12
set_option maxRecDepth 100000 in
set_option maxHeartbeats 4000000 in
theorem c_X6_set (l : Launch) (G : GG) (o : Nat) (X : SX) (Y : SY) (k : Nat) (v : Int32) (h : k < 361) : Ct l yX6_set cX6_set 4 (some .int) 0 0 G o [.ref (o + 285), .int (nI k), .int v] X Y (some (.int (X 286 k))) (sx X 286 k v) Y := by
  refine Ct.mk (by decide +kernel) (Nat.le_of_ble_eq_true rfl) rfl ?_
  intro p9 e9 s9 m9 args9 below9 meth9 c9 hE hr hlocks hK hI ls hl
  have hx := hE.1
  have hb := hE.2.1
  have hl : lv_has ls 4 [(0, .ref (o + 285)), (1, .int (nI k)), (2, .int v)] := hl
  refine lv_aload_n hx hb dX6_set_0 rfl (lv_at hl 0 rfl) ?_
  refine x_get (k := 285) hE hK hI (by decide) inG6 (e_285 G o _ _) rfl 0 (by decide) mw_480 rfl dX6_set_1 ?_
  refine lv_iload_n hx hb dX6_set_4 rfl (lv_at hl 1 rfl) ?_
  refine x_iald (k := 286) (j := k) hE hK hI (by decide) (e_286 G o) h (by decide) rfl dX6_set_5 ?_
  refine lv_istore_n (lv' := [(3, .int (X 286 k)), (0, .ref (o + 285)), (1, .int (nI k)), (2, .int v)]) hx hb dX6_set_6 rfl hl (by decide) rfl (fun ls hl => ?_)
  refine lv_aload_n hx hb dX6_set_7 rfl (lv_at hl 1 rfl) ?_
  refine x_get (k := 285) hE hK hI (by decide) inG6 (e_285 G o _ _) rfl 0 (by decide) mw_480 rfl dX6_set_8 ?_
  refine lv_iload_n hx hb dX6_set_11 rfl (lv_at hl 2 rfl) ?_
  refine lv_iload_n hx hb dX6_set_12 rfl (lv_at hl 3 rfl) ?_
  refine x_iast (k := 286) (j := k) hE hK hI (by decide) (e_286 G o) h (by decide) rfl dX6_set_13 (fun H locs hI => ?_)
  refine lv_iload_n hx hb dX6_set_14 rfl (lv_at hl 0 rfl) ?_
  exact x_iret hE hr hlocks hI rfl rfl rfl dX6_set_15
set_option maxRecDepth 100000 in
set_option maxHeartbeats 4000000 in
theorem c_X6_setBreakage_s (l : Launch) (G : GG) (o : Nat) (X : SX) (Y : SY) (u : Int32) (a : Int32) (b : Int32) (c : Int32) (h : ¬ (Wi u 0 3)) : Ct l yX6_setBreakage cX6_setBreakage 7 (some .int) 2 42 G o [.ref (o + 285), .int u, .int a, .int b, .int c] X Y (some (.int (-1))) X Y := by
  refine Ct.mk (by decide +kernel) (Nat.le_of_ble_eq_true rfl) rfl ?_
  intro p9 e9 s9 m9 args9 below9 meth9 c9 hE hr hlocks hK hI ls hl
  have hx := hE.1
  have hb := hE.2.1
  have hl : lv_has ls 7 [(0, .ref (o + 285)), (1, .int u), (2, .int a), (3, .int b), (4, .int c)] := hl
  refine lv_iload_n hx hb dX6_setBreakage_0 rfl (lv_at hl 1 rfl) ?_
  refine x_callSi hE hK hI (c_X6_isSize l G o _ _ u ) mf_X6_isSize mw_506 rfl hl.1 rfl (Nat.le_of_ble_eq_true rfl) ⟨(Nat.le_of_ble_eq_true rfl), (Nat.le_of_ble_eq_true rfl)⟩ ⟨Nat.zero_le _, Nat.zero_le _⟩ dX6_setBreakage_1 (fun H locs hI => ?_)
  refine lv_topi (fun z1 ez1 => ?_)
  obtain rfl : 0 = z1 := (ez1.trans (bI_f h)).symm
  refine lv_if_ne (tgt := 9) hx hb dX6_setBreakage_4 (by decide) (fun q => absurd (by decide) q) (fun _ => ?_)
  refine lv_iconst (v := (-1)) hx hb dX6_setBreakage_7 (by decide) ?_
  exact x_iret hE hr hlocks hI rfl rfl rfl dX6_setBreakage_8
set_option maxRecDepth 100000 in
set_option maxHeartbeats 4000000 in
theorem c_X6_setBreakage_ok_0 (l : Launch) (G : GG) (o : Nat) (X : SX) (Y : SY) (a : Int32) (b : Int32) (c : Int32) (h0 : Wi a 0 10) (h1 : Wi b 0 10) (h2 : Wi c 0 10) (h3 : ¬ (10 < (a + b) + c)) : Ct l yX6_setBreakage cX6_setBreakage 7 (some .int) 2 42 G o [.ref (o + 285), .int 0, .int a, .int b, .int c] X Y (some (.int (((10 - a) - b) - c))) (sx (sx (sx (sx X 286 0 (((10 - a) - b) - c)) 286 1 a) 286 2 b) 286 3 c) Y := by
  refine Ct.mk (by decide +kernel) (Nat.le_of_ble_eq_true rfl) rfl ?_
  intro p9 e9 s9 m9 args9 below9 meth9 c9 hE hr hlocks hK hI ls hl
  have hx := hE.1
  have hb := hE.2.1
  have hl : lv_has ls 7 [(0, .ref (o + 285)), (1, .int 0), (2, .int a), (3, .int b), (4, .int c)] := hl
  refine lv_iload_n hx hb dX6_setBreakage_0 rfl (lv_at hl 1 rfl) ?_
  refine x_callSi hE hK hI (c_X6_isSize l G o _ _ 0 ) mf_X6_isSize mw_506 rfl hl.1 rfl (Nat.le_of_ble_eq_true rfl) ⟨(Nat.le_of_ble_eq_true rfl), (Nat.le_of_ble_eq_true rfl)⟩ ⟨Nat.zero_le _, Nat.zero_le _⟩ dX6_setBreakage_1 (fun H locs hI => ?_)
  refine lv_topi (fun z1 ez1 => ?_)
  obtain rfl : 1 = z1 := (ez1.trans (bI_t (by decide))).symm
  refine lv_if_ne (tgt := 9) hx hb dX6_setBreakage_4 (by decide) (fun _ => ?_) (fun q => absurd q (by decide))
  refine lv_iload_n hx hb dX6_setBreakage_9 rfl (lv_at hl 2 rfl) ?_
  refine lv_iconst (v := 0) hx hb dX6_setBreakage_10 (by decide) ?_
  refine lv_bipush (v := 10) hx hb dX6_setBreakage_11 (by decide) ?_
  refine x_callSi hE hK hI (c_X6_in l G o _ _ a 0 10 ) mf_X6_in mw_509 rfl hl.1 rfl (Nat.le_of_ble_eq_true rfl) ⟨(Nat.le_of_ble_eq_true rfl), (Nat.le_of_ble_eq_true rfl)⟩ ⟨Nat.zero_le _, Nat.zero_le _⟩ dX6_setBreakage_13 (fun H locs hI => ?_)
  refine lv_topi (fun z2 ez2 => ?_)
  obtain rfl : 1 = z2 := (ez2.trans (bI_t h0)).symm
  refine lv_if_eq (tgt := 55) hx hb dX6_setBreakage_16 (by decide) (fun q => absurd q (by decide)) (fun _ => ?_)
  refine lv_iload_n hx hb dX6_setBreakage_19 rfl (lv_at hl 3 rfl) ?_
  refine lv_iconst (v := 0) hx hb dX6_setBreakage_20 (by decide) ?_
  refine lv_bipush (v := 10) hx hb dX6_setBreakage_21 (by decide) ?_
  refine x_callSi hE hK hI (c_X6_in l G o _ _ b 0 10 ) mf_X6_in mw_509 rfl hl.1 rfl (Nat.le_of_ble_eq_true rfl) ⟨(Nat.le_of_ble_eq_true rfl), (Nat.le_of_ble_eq_true rfl)⟩ ⟨Nat.zero_le _, Nat.zero_le _⟩ dX6_setBreakage_23 (fun H locs hI => ?_)
  refine lv_topi (fun z3 ez3 => ?_)
  obtain rfl : 1 = z3 := (ez3.trans (bI_t h1)).symm
  refine lv_if_eq (tgt := 55) hx hb dX6_setBreakage_26 (by decide) (fun q => absurd q (by decide)) (fun _ => ?_)
  refine lv_iload hx hb dX6_setBreakage_29 (lv_at hl 4 rfl) ?_
  refine lv_iconst (v := 0) hx hb dX6_setBreakage_31 (by decide) ?_
  refine lv_bipush (v := 10) hx hb dX6_setBreakage_32 (by decide) ?_
  refine x_callSi hE hK hI (c_X6_in l G o _ _ c 0 10 ) mf_X6_in mw_509 rfl hl.1 rfl (Nat.le_of_ble_eq_true rfl) ⟨(Nat.le_of_ble_eq_true rfl), (Nat.le_of_ble_eq_true rfl)⟩ ⟨Nat.zero_le _, Nat.zero_le _⟩ dX6_setBreakage_34 (fun H locs hI => ?_)
  refine lv_topi (fun z4 ez4 => ?_)
  obtain rfl : 1 = z4 := (ez4.trans (bI_t h2)).symm
  refine lv_if_eq (tgt := 55) hx hb dX6_setBreakage_37 (by decide) (fun q => absurd q (by decide)) (fun _ => ?_)
  refine lv_iload_n hx hb dX6_setBreakage_40 rfl (lv_at hl 2 rfl) ?_
  refine lv_iload_n hx hb dX6_setBreakage_41 rfl (lv_at hl 3 rfl) ?_
  refine lv_iadd hx hb dX6_setBreakage_42 ?_
  refine lv_iload hx hb dX6_setBreakage_43 (lv_at hl 4 rfl) ?_
  refine lv_iadd hx hb dX6_setBreakage_45 ?_
  refine lv_bipush (v := 10) hx hb dX6_setBreakage_46 (by decide) ?_
  refine lv_icmp_gt (tgt := 55) hx hb dX6_setBreakage_48 (by decide) (fun q => absurd q h3) (fun _ => ?_)
  refine lv_iconst (v := 1) hx hb dX6_setBreakage_51 (by decide) ?_
  refine lv_goto (tgt := 56) hx hb dX6_setBreakage_52 (by decide) ?_
  refine lv_istore (lv' := [(5, .int 1), (0, .ref (o + 285)), (1, .int 0), (2, .int a), (3, .int b), (4, .int c)]) hx hb dX6_setBreakage_56 hl (by decide) rfl (fun ls hl => ?_)
  refine lv_iload hx hb dX6_setBreakage_58 (lv_at hl 0 rfl) ?_
  refine lv_if_eq (tgt := 95) hx hb dX6_setBreakage_60 (by decide) (fun q => absurd q (by decide)) (fun _ => ?_)
  refine lv_iload_n hx hb dX6_setBreakage_63 rfl (lv_at hl 2 rfl) ?_
  refine lv_iconst (v := 3) hx hb dX6_setBreakage_64 (by decide) ?_
  refine lv_icmp_lt (tgt := 72) hx hb dX6_setBreakage_65 (by decide) (fun _ => ?_) (fun q => absurd (by decide) q)
  refine lv_iload_n hx hb dX6_setBreakage_72 rfl (lv_at hl 2 rfl) ?_
  refine lv_iconst (v := 2) hx hb dX6_setBreakage_73 (by decide) ?_
  refine lv_icmp_lt (tgt := 81) hx hb dX6_setBreakage_74 (by decide) (fun _ => ?_) (fun q => absurd (by decide) q)
  refine lv_iload_n hx hb dX6_setBreakage_81 rfl (lv_at hl 2 rfl) ?_
  refine lv_iconst (v := 1) hx hb dX6_setBreakage_82 (by decide) ?_
  refine lv_icmp_lt (tgt := 91) hx hb dX6_setBreakage_83 (by decide) (fun _ => ?_) (fun q => absurd (by decide) q)
  refine lv_iconst (v := 1) hx hb dX6_setBreakage_91 (by decide) ?_
  refine lv_goto (tgt := 96) hx hb dX6_setBreakage_92 (by decide) ?_
  refine lv_istore (lv' := [(5, .int 1), (0, .ref (o + 285)), (1, .int 0), (2, .int a), (3, .int b), (4, .int c)]) hx hb dX6_setBreakage_96 hl (by decide) rfl (fun ls hl => ?_)
  refine lv_iload hx hb dX6_setBreakage_98 (lv_at hl 0 rfl) ?_
  refine lv_if_ne (tgt := 106) hx hb dX6_setBreakage_100 (by decide) (fun _ => ?_) (fun q => absurd q (by decide))
  refine lv_iconst (v := 0) hx hb dX6_setBreakage_106 (by decide) ?_
  refine lv_iconst (v := 5) hx hb dX6_setBreakage_107 (by decide) ?_
  refine lv_iload_n hx hb dX6_setBreakage_108 rfl (lv_at hl 2 rfl) ?_
  refine lv_imul hx hb dX6_setBreakage_109 ?_
  refine lv_topi (fun z5 ez5 => ?_)
  obtain rfl : 0 = z5 := (ez5.trans (by decide)).symm
  refine lv_iadd hx hb dX6_setBreakage_110 ?_
  refine lv_topi (fun z6 ez6 => ?_)
  obtain rfl : 0 = z6 := (ez6.trans (by decide)).symm
  refine lv_istore (lv' := [(6, .int 0), (5, .int 1), (0, .ref (o + 285)), (1, .int 0), (2, .int a), (3, .int b), (4, .int c)]) hx hb dX6_setBreakage_111 hl (by decide) rfl (fun ls hl => ?_)
  refine lv_aload_n hx hb dX6_setBreakage_113 rfl (lv_at hl 2 rfl) ?_
  refine x_get (k := 285) hE hK hI (by decide) inG6 (e_285 G o _ _) rfl 0 (by decide) mw_480 rfl dX6_setBreakage_114 ?_
  refine lv_iload hx hb dX6_setBreakage_117 (lv_at hl 0 rfl) ?_
  refine lv_bipush (v := 10) hx hb dX6_setBreakage_119 (by decide) ?_
  refine lv_iload_n hx hb dX6_setBreakage_121 rfl (lv_at hl 4 rfl) ?_
  refine lv_isub hx hb dX6_setBreakage_122 ?_
  refine lv_iload_n hx hb dX6_setBreakage_123 rfl (lv_at hl 5 rfl) ?_
  refine lv_isub hx hb dX6_setBreakage_124 ?_
  refine lv_iload hx hb dX6_setBreakage_125 (lv_at hl 6 rfl) ?_
  refine lv_isub hx hb dX6_setBreakage_127 ?_
  refine x_iast (k := 286) (j := 0) hE hK hI (by decide) (e_286 G o) (by decide) (by decide) rfl dX6_setBreakage_128 (fun H locs hI => ?_)
  refine lv_iload_n hx hb dX6_setBreakage_129 rfl (lv_at hl 3 rfl) ?_
  refine lv_iconst (v := 3) hx hb dX6_setBreakage_130 (by decide) ?_
  refine lv_icmp_ge (tgt := 144) hx hb dX6_setBreakage_131 (by decide) (fun q => absurd q (by decide)) (fun _ => ?_)
  refine lv_aload_n hx hb dX6_setBreakage_134 rfl (lv_at hl 2 rfl) ?_
  refine x_get (k := 285) hE hK hI (by decide) inG6 (e_285 G o _ _) rfl 0 (by decide) mw_480 rfl dX6_setBreakage_135 ?_
  refine lv_iload hx hb dX6_setBreakage_138 (lv_at hl 0 rfl) ?_
  refine lv_iconst (v := 1) hx hb dX6_setBreakage_140 (by decide) ?_
  refine lv_iadd hx hb dX6_setBreakage_141 ?_
  refine lv_topi (fun z7 ez7 => ?_)
  obtain rfl : 1 = z7 := (ez7.trans (by decide)).symm
  refine lv_iload_n hx hb dX6_setBreakage_142 rfl (lv_at hl 4 rfl) ?_
  refine x_iast (k := 286) (j := 1) hE hK hI (by decide) (e_286 G o) (by decide) (by decide) rfl dX6_setBreakage_143 (fun H locs hI => ?_)
  refine lv_iload_n hx hb dX6_setBreakage_144 rfl (lv_at hl 3 rfl) ?_
  refine lv_iconst (v := 2) hx hb dX6_setBreakage_145 (by decide) ?_
  refine lv_icmp_ge (tgt := 159) hx hb dX6_setBreakage_146 (by decide) (fun q => absurd q (by decide)) (fun _ => ?_)
  refine lv_aload_n hx hb dX6_setBreakage_149 rfl (lv_at hl 2 rfl) ?_
  refine x_get (k := 285) hE hK hI (by decide) inG6 (e_285 G o _ _) rfl 0 (by decide) mw_480 rfl dX6_setBreakage_150 ?_
  refine lv_iload hx hb dX6_setBreakage_153 (lv_at hl 0 rfl) ?_
  refine lv_iconst (v := 2) hx hb dX6_setBreakage_155 (by decide) ?_
  refine lv_iadd hx hb dX6_setBreakage_156 ?_
  refine lv_topi (fun z8 ez8 => ?_)
  obtain rfl : 2 = z8 := (ez8.trans (by decide)).symm
  refine lv_iload_n hx hb dX6_setBreakage_157 rfl (lv_at hl 5 rfl) ?_
  refine x_iast (k := 286) (j := 2) hE hK hI (by decide) (e_286 G o) (by decide) (by decide) rfl dX6_setBreakage_158 (fun H locs hI => ?_)
  refine lv_iload_n hx hb dX6_setBreakage_159 rfl (lv_at hl 3 rfl) ?_
  refine lv_iconst (v := 1) hx hb dX6_setBreakage_160 (by decide) ?_
  refine lv_icmp_ge (tgt := 175) hx hb dX6_setBreakage_161 (by decide) (fun q => absurd q (by decide)) (fun _ => ?_)
  refine lv_aload_n hx hb dX6_setBreakage_164 rfl (lv_at hl 2 rfl) ?_
  refine x_get (k := 285) hE hK hI (by decide) inG6 (e_285 G o _ _) rfl 0 (by decide) mw_480 rfl dX6_setBreakage_165 ?_
  refine lv_iload hx hb dX6_setBreakage_168 (lv_at hl 0 rfl) ?_
  refine lv_iconst (v := 3) hx hb dX6_setBreakage_170 (by decide) ?_
  refine lv_iadd hx hb dX6_setBreakage_171 ?_
  refine lv_topi (fun z9 ez9 => ?_)
  obtain rfl : 3 = z9 := (ez9.trans (by decide)).symm
  refine lv_iload hx hb dX6_setBreakage_172 (lv_at hl 6 rfl) ?_
  refine x_iast (k := 286) (j := 3) hE hK hI (by decide) (e_286 G o) (by decide) (by decide) rfl dX6_setBreakage_174 (fun H locs hI => ?_)
  refine lv_aload_n hx hb dX6_setBreakage_175 rfl (lv_at hl 2 rfl) ?_
  refine x_get (k := 285) hE hK hI (by decide) inG6 (e_285 G o _ _) rfl 0 (by decide) mw_480 rfl dX6_setBreakage_176 ?_
  refine lv_iload hx hb dX6_setBreakage_179 (lv_at hl 0 rfl) ?_
  refine x_iald (k := 286) (j := 0) hE hK hI (by decide) (e_286 G o) (by decide) (by decide) rfl dX6_setBreakage_181 ?_
  refine lv_topi (fun z10 ez10 => ?_)
  obtain rfl : ((10 - a) - b) - c = z10 := (ez10.trans ((sx_o (by decide)).trans ((sx_o (by decide)).trans ((sx_o (by decide)).trans (sx_e))))).symm
  exact x_iret hE hr hlocks hI rfl rfl rfl dX6_setBreakage_182
set_option maxRecDepth 100000 in
set_option maxHeartbeats 4000000 in
theorem c_X6_setBreakage_bad_0 (l : Launch) (G : GG) (o : Nat) (X : SX) (Y : SY) (a : Int32) (b : Int32) (c : Int32) (h : ¬ (Wi a 0 10 ∧ Wi b 0 10 ∧ Wi c 0 10 ∧ ¬ (10 < (a + b) + c))) : Ct l yX6_setBreakage cX6_setBreakage 7 (some .int) 2 42 G o [.ref (o + 285), .int 0, .int a, .int b, .int c] X Y (some (.int (-3))) X Y := by
  refine Ct.mk (by decide +kernel) (Nat.le_of_ble_eq_true rfl) rfl ?_
  intro p9 e9 s9 m9 args9 below9 meth9 c9 hE hr hlocks hK hI ls hl
  have hx := hE.1
  have hb := hE.2.1
  have hl : lv_has ls 7 [(0, .ref (o + 285)), (1, .int 0), (2, .int a), (3, .int b), (4, .int c)] := hl
  refine lv_iload_n hx hb dX6_setBreakage_0 rfl (lv_at hl 1 rfl) ?_
  refine x_callSi hE hK hI (c_X6_isSize l G o _ _ 0 ) mf_X6_isSize mw_506 rfl hl.1 rfl (Nat.le_of_ble_eq_true rfl) ⟨(Nat.le_of_ble_eq_true rfl), (Nat.le_of_ble_eq_true rfl)⟩ ⟨Nat.zero_le _, Nat.zero_le _⟩ dX6_setBreakage_1 (fun H locs hI => ?_)
  refine lv_topi (fun z1 ez1 => ?_)
  obtain rfl : 1 = z1 := (ez1.trans (bI_t (by decide))).symm
  refine lv_if_ne (tgt := 9) hx hb dX6_setBreakage_4 (by decide) (fun _ => ?_) (fun q => absurd q (by decide))
  refine lv_iload_n hx hb dX6_setBreakage_9 rfl (lv_at hl 2 rfl) ?_
  refine lv_iconst (v := 0) hx hb dX6_setBreakage_10 (by decide) ?_
  refine lv_bipush (v := 10) hx hb dX6_setBreakage_11 (by decide) ?_
  refine x_callSi hE hK hI (c_X6_in l G o _ _ a 0 10 ) mf_X6_in mw_509 rfl hl.1 rfl (Nat.le_of_ble_eq_true rfl) ⟨(Nat.le_of_ble_eq_true rfl), (Nat.le_of_ble_eq_true rfl)⟩ ⟨Nat.zero_le _, Nat.zero_le _⟩ dX6_setBreakage_13 (fun H locs hI => ?_)
  refine lv_if_eq (tgt := 55) hx hb dX6_setBreakage_16 (by decide) (fun c2 => ?_) (fun c2 => ?_)
  · have c2 := bI_eq0.mp c2
    refine lv_iconst (v := 0) hx hb dX6_setBreakage_55 (by decide) ?_
    refine lv_istore (lv' := [(5, .int 0), (0, .ref (o + 285)), (1, .int 0), (2, .int a), (3, .int b), (4, .int c)]) hx hb dX6_setBreakage_56 hl (by decide) rfl (fun ls hl => ?_)
    refine lv_iload hx hb dX6_setBreakage_58 (lv_at hl 0 rfl) ?_
    refine lv_if_eq (tgt := 95) hx hb dX6_setBreakage_60 (by decide) (fun _ => ?_) (fun q => absurd (by decide) q)
    refine lv_iconst (v := 0) hx hb dX6_setBreakage_95 (by decide) ?_
    refine lv_istore (lv' := [(5, .int 0), (0, .ref (o + 285)), (1, .int 0), (2, .int a), (3, .int b), (4, .int c)]) hx hb dX6_setBreakage_96 hl (by decide) rfl (fun ls hl => ?_)
    refine lv_iload hx hb dX6_setBreakage_98 (lv_at hl 0 rfl) ?_
    refine lv_if_ne (tgt := 106) hx hb dX6_setBreakage_100 (by decide) (fun q => absurd (by decide) q) (fun _ => ?_)
    refine lv_bipush (v := (-3)) hx hb dX6_setBreakage_103 (by decide) ?_
    exact x_iret hE hr hlocks hI rfl rfl rfl dX6_setBreakage_105
  · have c2 := bI_ne0.mp c2
    refine lv_iload_n hx hb dX6_setBreakage_19 rfl (lv_at hl 3 rfl) ?_
    refine lv_iconst (v := 0) hx hb dX6_setBreakage_20 (by decide) ?_
    refine lv_bipush (v := 10) hx hb dX6_setBreakage_21 (by decide) ?_
    refine x_callSi hE hK hI (c_X6_in l G o _ _ b 0 10 ) mf_X6_in mw_509 rfl hl.1 rfl (Nat.le_of_ble_eq_true rfl) ⟨(Nat.le_of_ble_eq_true rfl), (Nat.le_of_ble_eq_true rfl)⟩ ⟨Nat.zero_le _, Nat.zero_le _⟩ dX6_setBreakage_23 (fun H locs hI => ?_)
    refine lv_if_eq (tgt := 55) hx hb dX6_setBreakage_26 (by decide) (fun c3 => ?_) (fun c3 => ?_)
    · have c3 := bI_eq0.mp c3
      refine lv_iconst (v := 0) hx hb dX6_setBreakage_55 (by decide) ?_
      refine lv_istore (lv' := [(5, .int 0), (0, .ref (o + 285)), (1, .int 0), (2, .int a), (3, .int b), (4, .int c)]) hx hb dX6_setBreakage_56 hl (by decide) rfl (fun ls hl => ?_)
      refine lv_iload hx hb dX6_setBreakage_58 (lv_at hl 0 rfl) ?_
      refine lv_if_eq (tgt := 95) hx hb dX6_setBreakage_60 (by decide) (fun _ => ?_) (fun q => absurd (by decide) q)
      refine lv_iconst (v := 0) hx hb dX6_setBreakage_95 (by decide) ?_
      refine lv_istore (lv' := [(5, .int 0), (0, .ref (o + 285)), (1, .int 0), (2, .int a), (3, .int b), (4, .int c)]) hx hb dX6_setBreakage_96 hl (by decide) rfl (fun ls hl => ?_)
      refine lv_iload hx hb dX6_setBreakage_98 (lv_at hl 0 rfl) ?_
      refine lv_if_ne (tgt := 106) hx hb dX6_setBreakage_100 (by decide) (fun q => absurd (by decide) q) (fun _ => ?_)
      refine lv_bipush (v := (-3)) hx hb dX6_setBreakage_103 (by decide) ?_
      exact x_iret hE hr hlocks hI rfl rfl rfl dX6_setBreakage_105
    · have c3 := bI_ne0.mp c3
      refine lv_iload hx hb dX6_setBreakage_29 (lv_at hl 4 rfl) ?_
      refine lv_iconst (v := 0) hx hb dX6_setBreakage_31 (by decide) ?_
      refine lv_bipush (v := 10) hx hb dX6_setBreakage_32 (by decide) ?_
      refine x_callSi hE hK hI (c_X6_in l G o _ _ c 0 10 ) mf_X6_in mw_509 rfl hl.1 rfl (Nat.le_of_ble_eq_true rfl) ⟨(Nat.le_of_ble_eq_true rfl), (Nat.le_of_ble_eq_true rfl)⟩ ⟨Nat.zero_le _, Nat.zero_le _⟩ dX6_setBreakage_34 (fun H locs hI => ?_)
      refine lv_if_eq (tgt := 55) hx hb dX6_setBreakage_37 (by decide) (fun c4 => ?_) (fun c4 => ?_)
      · have c4 := bI_eq0.mp c4
        refine lv_iconst (v := 0) hx hb dX6_setBreakage_55 (by decide) ?_
        refine lv_istore (lv' := [(5, .int 0), (0, .ref (o + 285)), (1, .int 0), (2, .int a), (3, .int b), (4, .int c)]) hx hb dX6_setBreakage_56 hl (by decide) rfl (fun ls hl => ?_)
        refine lv_iload hx hb dX6_setBreakage_58 (lv_at hl 0 rfl) ?_
        refine lv_if_eq (tgt := 95) hx hb dX6_setBreakage_60 (by decide) (fun _ => ?_) (fun q => absurd (by decide) q)
        refine lv_iconst (v := 0) hx hb dX6_setBreakage_95 (by decide) ?_
        refine lv_istore (lv' := [(5, .int 0), (0, .ref (o + 285)), (1, .int 0), (2, .int a), (3, .int b), (4, .int c)]) hx hb dX6_setBreakage_96 hl (by decide) rfl (fun ls hl => ?_)
        refine lv_iload hx hb dX6_setBreakage_98 (lv_at hl 0 rfl) ?_
        refine lv_if_ne (tgt := 106) hx hb dX6_setBreakage_100 (by decide) (fun q => absurd (by decide) q) (fun _ => ?_)
        refine lv_bipush (v := (-3)) hx hb dX6_setBreakage_103 (by decide) ?_
        exact x_iret hE hr hlocks hI rfl rfl rfl dX6_setBreakage_105
      · have c4 := bI_ne0.mp c4
        refine lv_iload_n hx hb dX6_setBreakage_40 rfl (lv_at hl 2 rfl) ?_
        refine lv_iload_n hx hb dX6_setBreakage_41 rfl (lv_at hl 3 rfl) ?_
        refine lv_iadd hx hb dX6_setBreakage_42 ?_
        refine lv_iload hx hb dX6_setBreakage_43 (lv_at hl 4 rfl) ?_
        refine lv_iadd hx hb dX6_setBreakage_45 ?_
        refine lv_bipush (v := 10) hx hb dX6_setBreakage_46 (by decide) ?_
        refine lv_icmp_gt (tgt := 55) hx hb dX6_setBreakage_48 (by decide) (fun c5 => ?_) (fun c5 => ?_)
        · refine lv_iconst (v := 0) hx hb dX6_setBreakage_55 (by decide) ?_
          refine lv_istore (lv' := [(5, .int 0), (0, .ref (o + 285)), (1, .int 0), (2, .int a), (3, .int b), (4, .int c)]) hx hb dX6_setBreakage_56 hl (by decide) rfl (fun ls hl => ?_)
          refine lv_iload hx hb dX6_setBreakage_58 (lv_at hl 0 rfl) ?_
          refine lv_if_eq (tgt := 95) hx hb dX6_setBreakage_60 (by decide) (fun _ => ?_) (fun q => absurd (by decide) q)
          refine lv_iconst (v := 0) hx hb dX6_setBreakage_95 (by decide) ?_
          refine lv_istore (lv' := [(5, .int 0), (0, .ref (o + 285)), (1, .int 0), (2, .int a), (3, .int b), (4, .int c)]) hx hb dX6_setBreakage_96 hl (by decide) rfl (fun ls hl => ?_)
          refine lv_iload hx hb dX6_setBreakage_98 (lv_at hl 0 rfl) ?_
          refine lv_if_ne (tgt := 106) hx hb dX6_setBreakage_100 (by decide) (fun q => absurd (by decide) q) (fun _ => ?_)
          refine lv_bipush (v := (-3)) hx hb dX6_setBreakage_103 (by decide) ?_
          exact x_iret hE hr hlocks hI rfl rfl rfl dX6_setBreakage_105
        · refine lv_iconst (v := 1) hx hb dX6_setBreakage_51 (by decide) ?_
          refine lv_goto (tgt := 56) hx hb dX6_setBreakage_52 (by decide) ?_
          refine lv_istore (lv' := [(5, .int 1), (0, .ref (o + 285)), (1, .int 0), (2, .int a), (3, .int b), (4, .int c)]) hx hb dX6_setBreakage_56 hl (by decide) rfl (fun ls hl => ?_)
          refine lv_iload hx hb dX6_setBreakage_58 (lv_at hl 0 rfl) ?_
          refine lv_if_eq (tgt := 95) hx hb dX6_setBreakage_60 (by decide) (fun q => absurd q (by decide)) (fun _ => ?_)
          refine lv_iload_n hx hb dX6_setBreakage_63 rfl (lv_at hl 2 rfl) ?_
          refine lv_iconst (v := 3) hx hb dX6_setBreakage_64 (by decide) ?_
          refine lv_icmp_lt (tgt := 72) hx hb dX6_setBreakage_65 (by decide) (fun _ => ?_) (fun q => absurd (by decide) q)
          refine lv_iload_n hx hb dX6_setBreakage_72 rfl (lv_at hl 2 rfl) ?_
          refine lv_iconst (v := 2) hx hb dX6_setBreakage_73 (by decide) ?_
          refine lv_icmp_lt (tgt := 81) hx hb dX6_setBreakage_74 (by decide) (fun _ => ?_) (fun q => absurd (by decide) q)
          refine lv_iload_n hx hb dX6_setBreakage_81 rfl (lv_at hl 2 rfl) ?_
          refine lv_iconst (v := 1) hx hb dX6_setBreakage_82 (by decide) ?_
          refine lv_icmp_lt (tgt := 91) hx hb dX6_setBreakage_83 (by decide) (fun _ => ?_) (fun q => absurd (by decide) q)
          refine lv_iconst (v := 1) hx hb dX6_setBreakage_91 (by decide) ?_
          refine lv_goto (tgt := 96) hx hb dX6_setBreakage_92 (by decide) ?_
          refine lv_istore (lv' := [(5, .int 1), (0, .ref (o + 285)), (1, .int 0), (2, .int a), (3, .int b), (4, .int c)]) hx hb dX6_setBreakage_96 hl (by decide) rfl (fun ls hl => ?_)
          refine lv_iload hx hb dX6_setBreakage_98 (lv_at hl 0 rfl) ?_
          refine lv_if_ne (tgt := 106) hx hb dX6_setBreakage_100 (by decide) (fun _ => ?_) (fun q => absurd q (by decide))
          exact absurd ⟨c2, c3, c4, c5⟩ h
set_option maxRecDepth 100000 in
set_option maxHeartbeats 4000000 in
theorem c_X6_setBreakage_ok_1 (l : Launch) (G : GG) (o : Nat) (X : SX) (Y : SY) (a : Int32) (b : Int32) (c : Int32) (h0 : Wi a 0 10) (h1 : Wi b 0 10) (h2 : Wi c 0 10) (h3 : ¬ (10 < (a + b) + c)) (h4 : c = 0) : Ct l yX6_setBreakage cX6_setBreakage 7 (some .int) 2 42 G o [.ref (o + 285), .int 1, .int a, .int b, .int c] X Y (some (.int (((10 - a) - b) - c))) (sx (sx (sx X 286 5 (((10 - a) - b) - c)) 286 6 a) 286 7 b) Y := by
  refine Ct.mk (by decide +kernel) (Nat.le_of_ble_eq_true rfl) rfl ?_
  intro p9 e9 s9 m9 args9 below9 meth9 c9 hE hr hlocks hK hI ls hl
  have hx := hE.1
  have hb := hE.2.1
  have hl : lv_has ls 7 [(0, .ref (o + 285)), (1, .int 1), (2, .int a), (3, .int b), (4, .int c)] := hl
  refine lv_iload_n hx hb dX6_setBreakage_0 rfl (lv_at hl 1 rfl) ?_
  refine x_callSi hE hK hI (c_X6_isSize l G o _ _ 1 ) mf_X6_isSize mw_506 rfl hl.1 rfl (Nat.le_of_ble_eq_true rfl) ⟨(Nat.le_of_ble_eq_true rfl), (Nat.le_of_ble_eq_true rfl)⟩ ⟨Nat.zero_le _, Nat.zero_le _⟩ dX6_setBreakage_1 (fun H locs hI => ?_)
  refine lv_topi (fun z1 ez1 => ?_)
  obtain rfl : 1 = z1 := (ez1.trans (bI_t (by decide))).symm
  refine lv_if_ne (tgt := 9) hx hb dX6_setBreakage_4 (by decide) (fun _ => ?_) (fun q => absurd q (by decide))
  refine lv_iload_n hx hb dX6_setBreakage_9 rfl (lv_at hl 2 rfl) ?_
  refine lv_iconst (v := 0) hx hb dX6_setBreakage_10 (by decide) ?_
  refine lv_bipush (v := 10) hx hb dX6_setBreakage_11 (by decide) ?_
  refine x_callSi hE hK hI (c_X6_in l G o _ _ a 0 10 ) mf_X6_in mw_509 rfl hl.1 rfl (Nat.le_of_ble_eq_true rfl) ⟨(Nat.le_of_ble_eq_true rfl), (Nat.le_of_ble_eq_true rfl)⟩ ⟨Nat.zero_le _, Nat.zero_le _⟩ dX6_setBreakage_13 (fun H locs hI => ?_)
  refine lv_topi (fun z2 ez2 => ?_)
  obtain rfl : 1 = z2 := (ez2.trans (bI_t h0)).symm
  refine lv_if_eq (tgt := 55) hx hb dX6_setBreakage_16 (by decide) (fun q => absurd q (by decide)) (fun _ => ?_)
  refine lv_iload_n hx hb dX6_setBreakage_19 rfl (lv_at hl 3 rfl) ?_
  refine lv_iconst (v := 0) hx hb dX6_setBreakage_20 (by decide) ?_
  refine lv_bipush (v := 10) hx hb dX6_setBreakage_21 (by decide) ?_
  refine x_callSi hE hK hI (c_X6_in l G o _ _ b 0 10 ) mf_X6_in mw_509 rfl hl.1 rfl (Nat.le_of_ble_eq_true rfl) ⟨(Nat.le_of_ble_eq_true rfl), (Nat.le_of_ble_eq_true rfl)⟩ ⟨Nat.zero_le _, Nat.zero_le _⟩ dX6_setBreakage_23 (fun H locs hI => ?_)
  refine lv_topi (fun z3 ez3 => ?_)
  obtain rfl : 1 = z3 := (ez3.trans (bI_t h1)).symm
  refine lv_if_eq (tgt := 55) hx hb dX6_setBreakage_26 (by decide) (fun q => absurd q (by decide)) (fun _ => ?_)
  refine lv_iload hx hb dX6_setBreakage_29 (lv_at hl 4 rfl) ?_
  refine lv_iconst (v := 0) hx hb dX6_setBreakage_31 (by decide) ?_
  refine lv_bipush (v := 10) hx hb dX6_setBreakage_32 (by decide) ?_
  refine x_callSi hE hK hI (c_X6_in l G o _ _ c 0 10 ) mf_X6_in mw_509 rfl hl.1 rfl (Nat.le_of_ble_eq_true rfl) ⟨(Nat.le_of_ble_eq_true rfl), (Nat.le_of_ble_eq_true rfl)⟩ ⟨Nat.zero_le _, Nat.zero_le _⟩ dX6_setBreakage_34 (fun H locs hI => ?_)
  refine lv_topi (fun z4 ez4 => ?_)
  obtain rfl : 1 = z4 := (ez4.trans (bI_t h2)).symm
  refine lv_if_eq (tgt := 55) hx hb dX6_setBreakage_37 (by decide) (fun q => absurd q (by decide)) (fun _ => ?_)
  refine lv_iload_n hx hb dX6_setBreakage_40 rfl (lv_at hl 2 rfl) ?_
  refine lv_iload_n hx hb dX6_setBreakage_41 rfl (lv_at hl 3 rfl) ?_
  refine lv_iadd hx hb dX6_setBreakage_42 ?_
  refine lv_iload hx hb dX6_setBreakage_43 (lv_at hl 4 rfl) ?_
  refine lv_iadd hx hb dX6_setBreakage_45 ?_
  refine lv_bipush (v := 10) hx hb dX6_setBreakage_46 (by decide) ?_
  refine lv_icmp_gt (tgt := 55) hx hb dX6_setBreakage_48 (by decide) (fun q => absurd q h3) (fun _ => ?_)
  refine lv_iconst (v := 1) hx hb dX6_setBreakage_51 (by decide) ?_
  refine lv_goto (tgt := 56) hx hb dX6_setBreakage_52 (by decide) ?_
  refine lv_istore (lv' := [(5, .int 1), (0, .ref (o + 285)), (1, .int 1), (2, .int a), (3, .int b), (4, .int c)]) hx hb dX6_setBreakage_56 hl (by decide) rfl (fun ls hl => ?_)
  refine lv_iload hx hb dX6_setBreakage_58 (lv_at hl 0 rfl) ?_
  refine lv_if_eq (tgt := 95) hx hb dX6_setBreakage_60 (by decide) (fun q => absurd q (by decide)) (fun _ => ?_)
  refine lv_iload_n hx hb dX6_setBreakage_63 rfl (lv_at hl 2 rfl) ?_
  refine lv_iconst (v := 3) hx hb dX6_setBreakage_64 (by decide) ?_
  refine lv_icmp_lt (tgt := 72) hx hb dX6_setBreakage_65 (by decide) (fun _ => ?_) (fun q => absurd (by decide) q)
  refine lv_iload_n hx hb dX6_setBreakage_72 rfl (lv_at hl 2 rfl) ?_
  refine lv_iconst (v := 2) hx hb dX6_setBreakage_73 (by decide) ?_
  refine lv_icmp_lt (tgt := 81) hx hb dX6_setBreakage_74 (by decide) (fun _ => ?_) (fun q => absurd (by decide) q)
  refine lv_iload_n hx hb dX6_setBreakage_81 rfl (lv_at hl 2 rfl) ?_
  refine lv_iconst (v := 1) hx hb dX6_setBreakage_82 (by decide) ?_
  refine lv_icmp_lt (tgt := 91) hx hb dX6_setBreakage_83 (by decide) (fun q => absurd q (by decide)) (fun _ => ?_)
  refine lv_iload hx hb dX6_setBreakage_86 (lv_at hl 5 rfl) ?_
  refine lv_if_ne (tgt := 95) hx hb dX6_setBreakage_88 (by decide) (fun q => absurd h4 q) (fun _ => ?_)
  refine lv_iconst (v := 1) hx hb dX6_setBreakage_91 (by decide) ?_
  refine lv_goto (tgt := 96) hx hb dX6_setBreakage_92 (by decide) ?_
  refine lv_istore (lv' := [(5, .int 1), (0, .ref (o + 285)), (1, .int 1), (2, .int a), (3, .int b), (4, .int c)]) hx hb dX6_setBreakage_96 hl (by decide) rfl (fun ls hl => ?_)
  refine lv_iload hx hb dX6_setBreakage_98 (lv_at hl 0 rfl) ?_
  refine lv_if_ne (tgt := 106) hx hb dX6_setBreakage_100 (by decide) (fun _ => ?_) (fun q => absurd q (by decide))
  refine lv_iconst (v := 0) hx hb dX6_setBreakage_106 (by decide) ?_
  refine lv_iconst (v := 5) hx hb dX6_setBreakage_107 (by decide) ?_
  refine lv_iload_n hx hb dX6_setBreakage_108 rfl (lv_at hl 2 rfl) ?_
  refine lv_imul hx hb dX6_setBreakage_109 ?_
  refine lv_topi (fun z5 ez5 => ?_)
  obtain rfl : 5 = z5 := (ez5.trans (by decide)).symm
  refine lv_iadd hx hb dX6_setBreakage_110 ?_
  refine lv_topi (fun z6 ez6 => ?_)
  obtain rfl : 5 = z6 := (ez6.trans (by decide)).symm
  refine lv_istore (lv' := [(6, .int 5), (5, .int 1), (0, .ref (o + 285)), (1, .int 1), (2, .int a), (3, .int b), (4, .int c)]) hx hb dX6_setBreakage_111 hl (by decide) rfl (fun ls hl => ?_)
  refine lv_aload_n hx hb dX6_setBreakage_113 rfl (lv_at hl 2 rfl) ?_
  refine x_get (k := 285) hE hK hI (by decide) inG6 (e_285 G o _ _) rfl 0 (by decide) mw_480 rfl dX6_setBreakage_114 ?_
  refine lv_iload hx hb dX6_setBreakage_117 (lv_at hl 0 rfl) ?_
  refine lv_bipush (v := 10) hx hb dX6_setBreakage_119 (by decide) ?_
  refine lv_iload_n hx hb dX6_setBreakage_121 rfl (lv_at hl 4 rfl) ?_
  refine lv_isub hx hb dX6_setBreakage_122 ?_
  refine lv_iload_n hx hb dX6_setBreakage_123 rfl (lv_at hl 5 rfl) ?_
  refine lv_isub hx hb dX6_setBreakage_124 ?_
  refine lv_iload hx hb dX6_setBreakage_125 (lv_at hl 6 rfl) ?_
  refine lv_isub hx hb dX6_setBreakage_127 ?_
  refine x_iast (k := 286) (j := 5) hE hK hI (by decide) (e_286 G o) (by decide) (by decide) rfl dX6_setBreakage_128 (fun H locs hI => ?_)
  refine lv_iload_n hx hb dX6_setBreakage_129 rfl (lv_at hl 3 rfl) ?_
  refine lv_iconst (v := 3) hx hb dX6_setBreakage_130 (by decide) ?_
  refine lv_icmp_ge (tgt := 144) hx hb dX6_setBreakage_131 (by decide) (fun q => absurd q (by decide)) (fun _ => ?_)
  refine lv_aload_n hx hb dX6_setBreakage_134 rfl (lv_at hl 2 rfl) ?_
  refine x_get (k := 285) hE hK hI (by decide) inG6 (e_285 G o _ _) rfl 0 (by decide) mw_480 rfl dX6_setBreakage_135 ?_
  refine lv_iload hx hb dX6_setBreakage_138 (lv_at hl 0 rfl) ?_
  refine lv_iconst (v := 1) hx hb dX6_setBreakage_140 (by decide) ?_
  refine lv_iadd hx hb dX6_setBreakage_141 ?_
  refine lv_topi (fun z7 ez7 => ?_)
  obtain rfl : 6 = z7 := (ez7.trans (by decide)).symm
  refine lv_iload_n hx hb dX6_setBreakage_142 rfl (lv_at hl 4 rfl) ?_
  refine x_iast (k := 286) (j := 6) hE hK hI (by decide) (e_286 G o) (by decide) (by decide) rfl dX6_setBreakage_143 (fun H locs hI => ?_)
  refine lv_iload_n hx hb dX6_setBreakage_144 rfl (lv_at hl 3 rfl) ?_
  refine lv_iconst (v := 2) hx hb dX6_setBreakage_145 (by decide) ?_
  refine lv_icmp_ge (tgt := 159) hx hb dX6_setBreakage_146 (by decide) (fun q => absurd q (by decide)) (fun _ => ?_)
  refine lv_aload_n hx hb dX6_setBreakage_149 rfl (lv_at hl 2 rfl) ?_
  refine x_get (k := 285) hE hK hI (by decide) inG6 (e_285 G o _ _) rfl 0 (by decide) mw_480 rfl dX6_setBreakage_150 ?_
  refine lv_iload hx hb dX6_setBreakage_153 (lv_at hl 0 rfl) ?_
  refine lv_iconst (v := 2) hx hb dX6_setBreakage_155 (by decide) ?_
  refine lv_iadd hx hb dX6_setBreakage_156 ?_
  refine lv_topi (fun z8 ez8 => ?_)
  obtain rfl : 7 = z8 := (ez8.trans (by decide)).symm
  refine lv_iload_n hx hb dX6_setBreakage_157 rfl (lv_at hl 5 rfl) ?_
  refine x_iast (k := 286) (j := 7) hE hK hI (by decide) (e_286 G o) (by decide) (by decide) rfl dX6_setBreakage_158 (fun H locs hI => ?_)
  refine lv_iload_n hx hb dX6_setBreakage_159 rfl (lv_at hl 3 rfl) ?_
  refine lv_iconst (v := 1) hx hb dX6_setBreakage_160 (by decide) ?_
  refine lv_icmp_ge (tgt := 175) hx hb dX6_setBreakage_161 (by decide) (fun _ => ?_) (fun q => absurd (by decide) q)
  refine lv_aload_n hx hb dX6_setBreakage_175 rfl (lv_at hl 2 rfl) ?_
  refine x_get (k := 285) hE hK hI (by decide) inG6 (e_285 G o _ _) rfl 0 (by decide) mw_480 rfl dX6_setBreakage_176 ?_
  refine lv_iload hx hb dX6_setBreakage_179 (lv_at hl 0 rfl) ?_
  refine x_iald (k := 286) (j := 5) hE hK hI (by decide) (e_286 G o) (by decide) (by decide) rfl dX6_setBreakage_181 ?_
  refine lv_topi (fun z9 ez9 => ?_)
  obtain rfl : ((10 - a) - b) - c = z9 := (ez9.trans ((sx_o (by decide)).trans ((sx_o (by decide)).trans (sx_e)))).symm
  exact x_iret hE hr hlocks hI rfl rfl rfl dX6_setBreakage_182
set_option maxRecDepth 100000 in
set_option maxHeartbeats 4000000 in
theorem c_X6_setBreakage_bad_1 (l : Launch) (G : GG) (o : Nat) (X : SX) (Y : SY) (a : Int32) (b : Int32) (c : Int32) (h : ¬ (Wi a 0 10 ∧ Wi b 0 10 ∧ Wi c 0 10 ∧ ¬ (10 < (a + b) + c) ∧ c = 0)) : Ct l yX6_setBreakage cX6_setBreakage 7 (some .int) 2 42 G o [.ref (o + 285), .int 1, .int a, .int b, .int c] X Y (some (.int (-3))) X Y := by
  refine Ct.mk (by decide +kernel) (Nat.le_of_ble_eq_true rfl) rfl ?_
  intro p9 e9 s9 m9 args9 below9 meth9 c9 hE hr hlocks hK hI ls hl
  have hx := hE.1
  have hb := hE.2.1
  have hl : lv_has ls 7 [(0, .ref (o + 285)), (1, .int 1), (2, .int a), (3, .int b), (4, .int c)] := hl
  refine lv_iload_n hx hb dX6_setBreakage_0 rfl (lv_at hl 1 rfl) ?_
  refine x_callSi hE hK hI (c_X6_isSize l G o _ _ 1 ) mf_X6_isSize mw_506 rfl hl.1 rfl (Nat.le_of_ble_eq_true rfl) ⟨(Nat.le_of_ble_eq_true rfl), (Nat.le_of_ble_eq_true rfl)⟩ ⟨Nat.zero_le _, Nat.zero_le _⟩ dX6_setBreakage_1 (fun H locs hI => ?_)
  refine lv_topi (fun z1 ez1 => ?_)
  obtain rfl : 1 = z1 := (ez1.trans (bI_t (by decide))).symm
  refine lv_if_ne (tgt := 9) hx hb dX6_setBreakage_4 (by decide) (fun _ => ?_) (fun q => absurd q (by decide))
  refine lv_iload_n hx hb dX6_setBreakage_9 rfl (lv_at hl 2 rfl) ?_
  refine lv_iconst (v := 0) hx hb dX6_setBreakage_10 (by decide) ?_
  refine lv_bipush (v := 10) hx hb dX6_setBreakage_11 (by decide) ?_
  refine x_callSi hE hK hI (c_X6_in l G o _ _ a 0 10 ) mf_X6_in mw_509 rfl hl.1 rfl (Nat.le_of_ble_eq_true rfl) ⟨(Nat.le_of_ble_eq_true rfl), (Nat.le_of_ble_eq_true rfl)⟩ ⟨Nat.zero_le _, Nat.zero_le _⟩ dX6_setBreakage_13 (fun H locs hI => ?_)
  refine lv_if_eq (tgt := 55) hx hb dX6_setBreakage_16 (by decide) (fun c2 => ?_) (fun c2 => ?_)
  · have c2 := bI_eq0.mp c2
    refine lv_iconst (v := 0) hx hb dX6_setBreakage_55 (by decide) ?_
    refine lv_istore (lv' := [(5, .int 0), (0, .ref (o + 285)), (1, .int 1), (2, .int a), (3, .int b), (4, .int c)]) hx hb dX6_setBreakage_56 hl (by decide) rfl (fun ls hl => ?_)
    refine lv_iload hx hb dX6_setBreakage_58 (lv_at hl 0 rfl) ?_
    refine lv_if_eq (tgt := 95) hx hb dX6_setBreakage_60 (by decide) (fun _ => ?_) (fun q => absurd (by decide) q)
    refine lv_iconst (v := 0) hx hb dX6_setBreakage_95 (by decide) ?_
    refine lv_istore (lv' := [(5, .int 0), (0, .ref (o + 285)), (1, .int 1), (2, .int a), (3, .int b), (4, .int c)]) hx hb dX6_setBreakage_96 hl (by decide) rfl (fun ls hl => ?_)
    refine lv_iload hx hb dX6_setBreakage_98 (lv_at hl 0 rfl) ?_
    refine lv_if_ne (tgt := 106) hx hb dX6_setBreakage_100 (by decide) (fun q => absurd (by decide) q) (fun _ => ?_)
    refine lv_bipush (v := (-3)) hx hb dX6_setBreakage_103 (by decide) ?_
    exact x_iret hE hr hlocks hI rfl rfl rfl dX6_setBreakage_105
  · have c2 := bI_ne0.mp c2
    refine lv_iload_n hx hb dX6_setBreakage_19 rfl (lv_at hl 3 rfl) ?_
    refine lv_iconst (v := 0) hx hb dX6_setBreakage_20 (by decide) ?_
    refine lv_bipush (v := 10) hx hb dX6_setBreakage_21 (by decide) ?_
    refine x_callSi hE hK hI (c_X6_in l G o _ _ b 0 10 ) mf_X6_in mw_509 rfl hl.1 rfl (Nat.le_of_ble_eq_true rfl) ⟨(Nat.le_of_ble_eq_true rfl), (Nat.le_of_ble_eq_true rfl)⟩ ⟨Nat.zero_le _, Nat.zero_le _⟩ dX6_setBreakage_23 (fun H locs hI => ?_)
    refine lv_if_eq (tgt := 55) hx hb dX6_setBreakage_26 (by decide) (fun c3 => ?_) (fun c3 => ?_)
    · have c3 := bI_eq0.mp c3
      refine lv_iconst (v := 0) hx hb dX6_setBreakage_55 (by decide) ?_
      refine lv_istore (lv' := [(5, .int 0), (0, .ref (o + 285)), (1, .int 1), (2, .int a), (3, .int b), (4, .int c)]) hx hb dX6_setBreakage_56 hl (by decide) rfl (fun ls hl => ?_)
      refine lv_iload hx hb dX6_setBreakage_58 (lv_at hl 0 rfl) ?_
      refine lv_if_eq (tgt := 95) hx hb dX6_setBreakage_60 (by decide) (fun _ => ?_) (fun q => absurd (by decide) q)
      refine lv_iconst (v := 0) hx hb dX6_setBreakage_95 (by decide) ?_
      refine lv_istore (lv' := [(5, .int 0), (0, .ref (o + 285)), (1, .int 1), (2, .int a), (3, .int b), (4, .int c)]) hx hb dX6_setBreakage_96 hl (by decide) rfl (fun ls hl => ?_)
      refine lv_iload hx hb dX6_setBreakage_98 (lv_at hl 0 rfl) ?_
      refine lv_if_ne (tgt := 106) hx hb dX6_setBreakage_100 (by decide) (fun q => absurd (by decide) q) (fun _ => ?_)
      refine lv_bipush (v := (-3)) hx hb dX6_setBreakage_103 (by decide) ?_
      exact x_iret hE hr hlocks hI rfl rfl rfl dX6_setBreakage_105
    · have c3 := bI_ne0.mp c3
      refine lv_iload hx hb dX6_setBreakage_29 (lv_at hl 4 rfl) ?_
      refine lv_iconst (v := 0) hx hb dX6_setBreakage_31 (by decide) ?_
      refine lv_bipush (v := 10) hx hb dX6_setBreakage_32 (by decide) ?_
      refine x_callSi hE hK hI (c_X6_in l G o _ _ c 0 10 ) mf_X6_in mw_509 rfl hl.1 rfl (Nat.le_of_ble_eq_true rfl) ⟨(Nat.le_of_ble_eq_true rfl), (Nat.le_of_ble_eq_true rfl)⟩ ⟨Nat.zero_le _, Nat.zero_le _⟩ dX6_setBreakage_34 (fun H locs hI => ?_)
      refine lv_if_eq (tgt := 55) hx hb dX6_setBreakage_37 (by decide) (fun c4 => ?_) (fun c4 => ?_)
      · have c4 := bI_eq0.mp c4
        refine lv_iconst (v := 0) hx hb dX6_setBreakage_55 (by decide) ?_
        refine lv_istore (lv' := [(5, .int 0), (0, .ref (o + 285)), (1, .int 1), (2, .int a), (3, .int b), (4, .int c)]) hx hb dX6_setBreakage_56 hl (by decide) rfl (fun ls hl => ?_)
        refine lv_iload hx hb dX6_setBreakage_58 (lv_at hl 0 rfl) ?_
        refine lv_if_eq (tgt := 95) hx hb dX6_setBreakage_60 (by decide) (fun _ => ?_) (fun q => absurd (by decide) q)
        refine lv_iconst (v := 0) hx hb dX6_setBreakage_95 (by decide) ?_
        refine lv_istore (lv' := [(5, .int 0), (0, .ref (o + 285)), (1, .int 1), (2, .int a), (3, .int b), (4, .int c)]) hx hb dX6_setBreakage_96 hl (by decide) rfl (fun ls hl => ?_)
        refine lv_iload hx hb dX6_setBreakage_98 (lv_at hl 0 rfl) ?_
        refine lv_if_ne (tgt := 106) hx hb dX6_setBreakage_100 (by decide) (fun q => absurd (by decide) q) (fun _ => ?_)
        refine lv_bipush (v := (-3)) hx hb dX6_setBreakage_103 (by decide) ?_
        exact x_iret hE hr hlocks hI rfl rfl rfl dX6_setBreakage_105
      · have c4 := bI_ne0.mp c4
        refine lv_iload_n hx hb dX6_setBreakage_40 rfl (lv_at hl 2 rfl) ?_
        refine lv_iload_n hx hb dX6_setBreakage_41 rfl (lv_at hl 3 rfl) ?_
        refine lv_iadd hx hb dX6_setBreakage_42 ?_
        refine lv_iload hx hb dX6_setBreakage_43 (lv_at hl 4 rfl) ?_
        refine lv_iadd hx hb dX6_setBreakage_45 ?_
        refine lv_bipush (v := 10) hx hb dX6_setBreakage_46 (by decide) ?_
        refine lv_icmp_gt (tgt := 55) hx hb dX6_setBreakage_48 (by decide) (fun c5 => ?_) (fun c5 => ?_)
        · refine lv_iconst (v := 0) hx hb dX6_setBreakage_55 (by decide) ?_
          refine lv_istore (lv' := [(5, .int 0), (0, .ref (o + 285)), (1, .int 1), (2, .int a), (3, .int b), (4, .int c)]) hx hb dX6_setBreakage_56 hl (by decide) rfl (fun ls hl => ?_)
          refine lv_iload hx hb dX6_setBreakage_58 (lv_at hl 0 rfl) ?_
          refine lv_if_eq (tgt := 95) hx hb dX6_setBreakage_60 (by decide) (fun _ => ?_) (fun q => absurd (by decide) q)
          refine lv_iconst (v := 0) hx hb dX6_setBreakage_95 (by decide) ?_
          refine lv_istore (lv' := [(5, .int 0), (0, .ref (o + 285)), (1, .int 1), (2, .int a), (3, .int b), (4, .int c)]) hx hb dX6_setBreakage_96 hl (by decide) rfl (fun ls hl => ?_)
          refine lv_iload hx hb dX6_setBreakage_98 (lv_at hl 0 rfl) ?_
          refine lv_if_ne (tgt := 106) hx hb dX6_setBreakage_100 (by decide) (fun q => absurd (by decide) q) (fun _ => ?_)
          refine lv_bipush (v := (-3)) hx hb dX6_setBreakage_103 (by decide) ?_
          exact x_iret hE hr hlocks hI rfl rfl rfl dX6_setBreakage_105
        · refine lv_iconst (v := 1) hx hb dX6_setBreakage_51 (by decide) ?_
          refine lv_goto (tgt := 56) hx hb dX6_setBreakage_52 (by decide) ?_
          refine lv_istore (lv' := [(5, .int 1), (0, .ref (o + 285)), (1, .int 1), (2, .int a), (3, .int b), (4, .int c)]) hx hb dX6_setBreakage_56 hl (by decide) rfl (fun ls hl => ?_)
          refine lv_iload hx hb dX6_setBreakage_58 (lv_at hl 0 rfl) ?_
          refine lv_if_eq (tgt := 95) hx hb dX6_setBreakage_60 (by decide) (fun q => absurd q (by decide)) (fun _ => ?_)
          refine lv_iload_n hx hb dX6_setBreakage_63 rfl (lv_at hl 2 rfl) ?_
          refine lv_iconst (v := 3) hx hb dX6_setBreakage_64 (by decide) ?_
          refine lv_icmp_lt (tgt := 72) hx hb dX6_setBreakage_65 (by decide) (fun _ => ?_) (fun q => absurd (by decide) q)
          refine lv_iload_n hx hb dX6_setBreakage_72 rfl (lv_at hl 2 rfl) ?_
          refine lv_iconst (v := 2) hx hb dX6_setBreakage_73 (by decide) ?_
          refine lv_icmp_lt (tgt := 81) hx hb dX6_setBreakage_74 (by decide) (fun _ => ?_) (fun q => absurd (by decide) q)
          refine lv_iload_n hx hb dX6_setBreakage_81 rfl (lv_at hl 2 rfl) ?_
          refine lv_iconst (v := 1) hx hb dX6_setBreakage_82 (by decide) ?_
          refine lv_icmp_lt (tgt := 91) hx hb dX6_setBreakage_83 (by decide) (fun q => absurd q (by decide)) (fun _ => ?_)
          refine lv_iload hx hb dX6_setBreakage_86 (lv_at hl 5 rfl) ?_
          refine lv_if_ne (tgt := 95) hx hb dX6_setBreakage_88 (by decide) (fun c6 => ?_) (fun c6 => ?_)
          · refine lv_iconst (v := 0) hx hb dX6_setBreakage_95 (by decide) ?_
            refine lv_istore (lv' := [(5, .int 0), (0, .ref (o + 285)), (1, .int 1), (2, .int a), (3, .int b), (4, .int c)]) hx hb dX6_setBreakage_96 hl (by decide) rfl (fun ls hl => ?_)
            refine lv_iload hx hb dX6_setBreakage_98 (lv_at hl 0 rfl) ?_
            refine lv_if_ne (tgt := 106) hx hb dX6_setBreakage_100 (by decide) (fun q => absurd (by decide) q) (fun _ => ?_)
            refine lv_bipush (v := (-3)) hx hb dX6_setBreakage_103 (by decide) ?_
            exact x_iret hE hr hlocks hI rfl rfl rfl dX6_setBreakage_105
          · refine lv_iconst (v := 1) hx hb dX6_setBreakage_91 (by decide) ?_
            refine lv_goto (tgt := 96) hx hb dX6_setBreakage_92 (by decide) ?_
            refine lv_istore (lv' := [(5, .int 1), (0, .ref (o + 285)), (1, .int 1), (2, .int a), (3, .int b), (4, .int c)]) hx hb dX6_setBreakage_96 hl (by decide) rfl (fun ls hl => ?_)
            refine lv_iload hx hb dX6_setBreakage_98 (lv_at hl 0 rfl) ?_
            refine lv_if_ne (tgt := 106) hx hb dX6_setBreakage_100 (by decide) (fun _ => ?_) (fun q => absurd q (by decide))
            exact absurd ⟨c2, c3, c4, c5, c6⟩ h
set_option maxRecDepth 100000 in
set_option maxHeartbeats 4000000 in
theorem c_X6_setBreakage_ok_2 (l : Launch) (G : GG) (o : Nat) (X : SX) (Y : SY) (a : Int32) (b : Int32) (c : Int32) (h0 : Wi a 0 10) (h1 : Wi b 0 10) (h2 : Wi c 0 10) (h3 : ¬ (10 < (a + b) + c)) (h4 : b = 0) (h5 : c = 0) : Ct l yX6_setBreakage cX6_setBreakage 7 (some .int) 2 42 G o [.ref (o + 285), .int 2, .int a, .int b, .int c] X Y (some (.int (((10 - a) - b) - c))) (sx (sx X 286 10 (((10 - a) - b) - c)) 286 11 a) Y := by
  refine Ct.mk (by decide +kernel) (Nat.le_of_ble_eq_true rfl) rfl ?_
  intro p9 e9 s9 m9 args9 below9 meth9 c9 hE hr hlocks hK hI ls hl
  have hx := hE.1
  have hb := hE.2.1
  have hl : lv_has ls 7 [(0, .ref (o + 285)), (1, .int 2), (2, .int a), (3, .int b), (4, .int c)] := hl
  refine lv_iload_n hx hb dX6_setBreakage_0 rfl (lv_at hl 1 rfl) ?_
  refine x_callSi hE hK hI (c_X6_isSize l G o _ _ 2 ) mf_X6_isSize mw_506 rfl hl.1 rfl (Nat.le_of_ble_eq_true rfl) ⟨(Nat.le_of_ble_eq_true rfl), (Nat.le_of_ble_eq_true rfl)⟩ ⟨Nat.zero_le _, Nat.zero_le _⟩ dX6_setBreakage_1 (fun H locs hI => ?_)
  refine lv_topi (fun z1 ez1 => ?_)
  obtain rfl : 1 = z1 := (ez1.trans (bI_t (by decide))).symm
  refine lv_if_ne (tgt := 9) hx hb dX6_setBreakage_4 (by decide) (fun _ => ?_) (fun q => absurd q (by decide))
  refine lv_iload_n hx hb dX6_setBreakage_9 rfl (lv_at hl 2 rfl) ?_
  refine lv_iconst (v := 0) hx hb dX6_setBreakage_10 (by decide) ?_
  refine lv_bipush (v := 10) hx hb dX6_setBreakage_11 (by decide) ?_
  refine x_callSi hE hK hI (c_X6_in l G o _ _ a 0 10 ) mf_X6_in mw_509 rfl hl.1 rfl (Nat.le_of_ble_eq_true rfl) ⟨(Nat.le_of_ble_eq_true rfl), (Nat.le_of_ble_eq_true rfl)⟩ ⟨Nat.zero_le _, Nat.zero_le _⟩ dX6_setBreakage_13 (fun H locs hI => ?_)
  refine lv_topi (fun z2 ez2 => ?_)
  obtain rfl : 1 = z2 := (ez2.trans (bI_t h0)).symm
  refine lv_if_eq (tgt := 55) hx hb dX6_setBreakage_16 (by decide) (fun q => absurd q (by decide)) (fun _ => ?_)
  refine lv_iload_n hx hb dX6_setBreakage_19 rfl (lv_at hl 3 rfl) ?_
  refine lv_iconst (v := 0) hx hb dX6_setBreakage_20 (by decide) ?_
  refine lv_bipush (v := 10) hx hb dX6_setBreakage_21 (by decide) ?_
  refine x_callSi hE hK hI (c_X6_in l G o _ _ b 0 10 ) mf_X6_in mw_509 rfl hl.1 rfl (Nat.le_of_ble_eq_true rfl) ⟨(Nat.le_of_ble_eq_true rfl), (Nat.le_of_ble_eq_true rfl)⟩ ⟨Nat.zero_le _, Nat.zero_le _⟩ dX6_setBreakage_23 (fun H locs hI => ?_)
  refine lv_topi (fun z3 ez3 => ?_)
  obtain rfl : 1 = z3 := (ez3.trans (bI_t h1)).symm
  refine lv_if_eq (tgt := 55) hx hb dX6_setBreakage_26 (by decide) (fun q => absurd q (by decide)) (fun _ => ?_)
  refine lv_iload hx hb dX6_setBreakage_29 (lv_at hl 4 rfl) ?_
  refine lv_iconst (v := 0) hx hb dX6_setBreakage_31 (by decide) ?_
  refine lv_bipush (v := 10) hx hb dX6_setBreakage_32 (by decide) ?_
  refine x_callSi hE hK hI (c_X6_in l G o _ _ c 0 10 ) mf_X6_in mw_509 rfl hl.1 rfl (Nat.le_of_ble_eq_true rfl) ⟨(Nat.le_of_ble_eq_true rfl), (Nat.le_of_ble_eq_true rfl)⟩ ⟨Nat.zero_le _, Nat.zero_le _⟩ dX6_setBreakage_34 (fun H locs hI => ?_)
  refine lv_topi (fun z4 ez4 => ?_)
  obtain rfl : 1 = z4 := (ez4.trans (bI_t h2)).symm
  refine lv_if_eq (tgt := 55) hx hb dX6_setBreakage_37 (by decide) (fun q => absurd q (by decide)) (fun _ => ?_)
  refine lv_iload_n hx hb dX6_setBreakage_40 rfl (lv_at hl 2 rfl) ?_
  refine lv_iload_n hx hb dX6_setBreakage_41 rfl (lv_at hl 3 rfl) ?_
  refine lv_iadd hx hb dX6_setBreakage_42 ?_
  refine lv_iload hx hb dX6_setBreakage_43 (lv_at hl 4 rfl) ?_
  refine lv_iadd hx hb dX6_setBreakage_45 ?_
  refine lv_bipush (v := 10) hx hb dX6_setBreakage_46 (by decide) ?_
  refine lv_icmp_gt (tgt := 55) hx hb dX6_setBreakage_48 (by decide) (fun q => absurd q h3) (fun _ => ?_)
  refine lv_iconst (v := 1) hx hb dX6_setBreakage_51 (by decide) ?_
  refine lv_goto (tgt := 56) hx hb dX6_setBreakage_52 (by decide) ?_
  refine lv_istore (lv' := [(5, .int 1), (0, .ref (o + 285)), (1, .int 2), (2, .int a), (3, .int b), (4, .int c)]) hx hb dX6_setBreakage_56 hl (by decide) rfl (fun ls hl => ?_)
  refine lv_iload hx hb dX6_setBreakage_58 (lv_at hl 0 rfl) ?_
  refine lv_if_eq (tgt := 95) hx hb dX6_setBreakage_60 (by decide) (fun q => absurd q (by decide)) (fun _ => ?_)
  refine lv_iload_n hx hb dX6_setBreakage_63 rfl (lv_at hl 2 rfl) ?_
  refine lv_iconst (v := 3) hx hb dX6_setBreakage_64 (by decide) ?_
  refine lv_icmp_lt (tgt := 72) hx hb dX6_setBreakage_65 (by decide) (fun _ => ?_) (fun q => absurd (by decide) q)
  refine lv_iload_n hx hb dX6_setBreakage_72 rfl (lv_at hl 2 rfl) ?_
  refine lv_iconst (v := 2) hx hb dX6_setBreakage_73 (by decide) ?_
  refine lv_icmp_lt (tgt := 81) hx hb dX6_setBreakage_74 (by decide) (fun q => absurd q (by decide)) (fun _ => ?_)
  refine lv_iload_n hx hb dX6_setBreakage_77 rfl (lv_at hl 4 rfl) ?_
  refine lv_if_ne (tgt := 95) hx hb dX6_setBreakage_78 (by decide) (fun q => absurd h4 q) (fun _ => ?_)
  refine lv_iload_n hx hb dX6_setBreakage_81 rfl (lv_at hl 2 rfl) ?_
  refine lv_iconst (v := 1) hx hb dX6_setBreakage_82 (by decide) ?_
  refine lv_icmp_lt (tgt := 91) hx hb dX6_setBreakage_83 (by decide) (fun q => absurd q (by decide)) (fun _ => ?_)
  refine lv_iload hx hb dX6_setBreakage_86 (lv_at hl 5 rfl) ?_
  refine lv_if_ne (tgt := 95) hx hb dX6_setBreakage_88 (by decide) (fun q => absurd h5 q) (fun _ => ?_)
  refine lv_iconst (v := 1) hx hb dX6_setBreakage_91 (by decide) ?_
  refine lv_goto (tgt := 96) hx hb dX6_setBreakage_92 (by decide) ?_
  refine lv_istore (lv' := [(5, .int 1), (0, .ref (o + 285)), (1, .int 2), (2, .int a), (3, .int b), (4, .int c)]) hx hb dX6_setBreakage_96 hl (by decide) rfl (fun ls hl => ?_)
  refine lv_iload hx hb dX6_setBreakage_98 (lv_at hl 0 rfl) ?_
  refine lv_if_ne (tgt := 106) hx hb dX6_setBreakage_100 (by decide) (fun _ => ?_) (fun q => absurd q (by decide))
  refine lv_iconst (v := 0) hx hb dX6_setBreakage_106 (by decide) ?_
  refine lv_iconst (v := 5) hx hb dX6_setBreakage_107 (by decide) ?_
  refine lv_iload_n hx hb dX6_setBreakage_108 rfl (lv_at hl 2 rfl) ?_
  refine lv_imul hx hb dX6_setBreakage_109 ?_
  refine lv_topi (fun z5 ez5 => ?_)
  obtain rfl : 10 = z5 := (ez5.trans (by decide)).symm
  refine lv_iadd hx hb dX6_setBreakage_110 ?_
  refine lv_topi (fun z6 ez6 => ?_)
  obtain rfl : 10 = z6 := (ez6.trans (by decide)).symm
  refine lv_istore (lv' := [(6, .int 10), (5, .int 1), (0, .ref (o + 285)), (1, .int 2), (2, .int a), (3, .int b), (4, .int c)]) hx hb dX6_setBreakage_111 hl (by decide) rfl (fun ls hl => ?_)
  refine lv_aload_n hx hb dX6_setBreakage_113 rfl (lv_at hl 2 rfl) ?_
  refine x_get (k := 285) hE hK hI (by decide) inG6 (e_285 G o _ _) rfl 0 (by decide) mw_480 rfl dX6_setBreakage_114 ?_
  refine lv_iload hx hb dX6_setBreakage_117 (lv_at hl 0 rfl) ?_
  refine lv_bipush (v := 10) hx hb dX6_setBreakage_119 (by decide) ?_
  refine lv_iload_n hx hb dX6_setBreakage_121 rfl (lv_at hl 4 rfl) ?_
  refine lv_isub hx hb dX6_setBreakage_122 ?_
  refine lv_iload_n hx hb dX6_setBreakage_123 rfl (lv_at hl 5 rfl) ?_
  refine lv_isub hx hb dX6_setBreakage_124 ?_
  refine lv_iload hx hb dX6_setBreakage_125 (lv_at hl 6 rfl) ?_
  refine lv_isub hx hb dX6_setBreakage_127 ?_
  refine x_iast (k := 286) (j := 10) hE hK hI (by decide) (e_286 G o) (by decide) (by decide) rfl dX6_setBreakage_128 (fun H locs hI => ?_)
  refine lv_iload_n hx hb dX6_setBreakage_129 rfl (lv_at hl 3 rfl) ?_
  refine lv_iconst (v := 3) hx hb dX6_setBreakage_130 (by decide) ?_
  refine lv_icmp_ge (tgt := 144) hx hb dX6_setBreakage_131 (by decide) (fun q => absurd q (by decide)) (fun _ => ?_)
  refine lv_aload_n hx hb dX6_setBreakage_134 rfl (lv_at hl 2 rfl) ?_
  refine x_get (k := 285) hE hK hI (by decide) inG6 (e_285 G o _ _) rfl 0 (by decide) mw_480 rfl dX6_setBreakage_135 ?_
  refine lv_iload hx hb dX6_setBreakage_138 (lv_at hl 0 rfl) ?_
  refine lv_iconst (v := 1) hx hb dX6_setBreakage_140 (by decide) ?_
  refine lv_iadd hx hb dX6_setBreakage_141 ?_
  refine lv_topi (fun z7 ez7 => ?_)
  obtain rfl : 11 = z7 := (ez7.trans (by decide)).symm
  refine lv_iload_n hx hb dX6_setBreakage_142 rfl (lv_at hl 4 rfl) ?_
  refine x_iast (k := 286) (j := 11) hE hK hI (by decide) (e_286 G o) (by decide) (by decide) rfl dX6_setBreakage_143 (fun H locs hI => ?_)
  refine lv_iload_n hx hb dX6_setBreakage_144 rfl (lv_at hl 3 rfl) ?_
  refine lv_iconst (v := 2) hx hb dX6_setBreakage_145 (by decide) ?_
  refine lv_icmp_ge (tgt := 159) hx hb dX6_setBreakage_146 (by decide) (fun _ => ?_) (fun q => absurd (by decide) q)
  refine lv_iload_n hx hb dX6_setBreakage_159 rfl (lv_at hl 3 rfl) ?_
  refine lv_iconst (v := 1) hx hb dX6_setBreakage_160 (by decide) ?_
  refine lv_icmp_ge (tgt := 175) hx hb dX6_setBreakage_161 (by decide) (fun _ => ?_) (fun q => absurd (by decide) q)
  refine lv_aload_n hx hb dX6_setBreakage_175 rfl (lv_at hl 2 rfl) ?_
  refine x_get (k := 285) hE hK hI (by decide) inG6 (e_285 G o _ _) rfl 0 (by decide) mw_480 rfl dX6_setBreakage_176 ?_
  refine lv_iload hx hb dX6_setBreakage_179 (lv_at hl 0 rfl) ?_
  refine x_iald (k := 286) (j := 10) hE hK hI (by decide) (e_286 G o) (by decide) (by decide) rfl dX6_setBreakage_181 ?_
  refine lv_topi (fun z8 ez8 => ?_)
  obtain rfl : ((10 - a) - b) - c = z8 := (ez8.trans ((sx_o (by decide)).trans (sx_e))).symm
  exact x_iret hE hr hlocks hI rfl rfl rfl dX6_setBreakage_182
set_option maxRecDepth 100000 in
set_option maxHeartbeats 4000000 in
theorem c_X6_setBreakage_bad_2 (l : Launch) (G : GG) (o : Nat) (X : SX) (Y : SY) (a : Int32) (b : Int32) (c : Int32) (h : ¬ (Wi a 0 10 ∧ Wi b 0 10 ∧ Wi c 0 10 ∧ ¬ (10 < (a + b) + c) ∧ b = 0 ∧ c = 0)) : Ct l yX6_setBreakage cX6_setBreakage 7 (some .int) 2 42 G o [.ref (o + 285), .int 2, .int a, .int b, .int c] X Y (some (.int (-3))) X Y := by
  refine Ct.mk (by decide +kernel) (Nat.le_of_ble_eq_true rfl) rfl ?_
  intro p9 e9 s9 m9 args9 below9 meth9 c9 hE hr hlocks hK hI ls hl
  have hx := hE.1
  have hb := hE.2.1
  have hl : lv_has ls 7 [(0, .ref (o + 285)), (1, .int 2), (2, .int a), (3, .int b), (4, .int c)] := hl
  refine lv_iload_n hx hb dX6_setBreakage_0 rfl (lv_at hl 1 rfl) ?_
  refine x_callSi hE hK hI (c_X6_isSize l G o _ _ 2 ) mf_X6_isSize mw_506 rfl hl.1 rfl (Nat.le_of_ble_eq_true rfl) ⟨(Nat.le_of_ble_eq_true rfl), (Nat.le_of_ble_eq_true rfl)⟩ ⟨Nat.zero_le _, Nat.zero_le _⟩ dX6_setBreakage_1 (fun H locs hI => ?_)
  refine lv_topi (fun z1 ez1 => ?_)
  obtain rfl : 1 = z1 := (ez1.trans (bI_t (by decide))).symm
  refine lv_if_ne (tgt := 9) hx hb dX6_setBreakage_4 (by decide) (fun _ => ?_) (fun q => absurd q (by decide))
  refine lv_iload_n hx hb dX6_setBreakage_9 rfl (lv_at hl 2 rfl) ?_
  refine lv_iconst (v := 0) hx hb dX6_setBreakage_10 (by decide) ?_
  refine lv_bipush (v := 10) hx hb dX6_setBreakage_11 (by decide) ?_
  refine x_callSi hE hK hI (c_X6_in l G o _ _ a 0 10 ) mf_X6_in mw_509 rfl hl.1 rfl (Nat.le_of_ble_eq_true rfl) ⟨(Nat.le_of_ble_eq_true rfl), (Nat.le_of_ble_eq_true rfl)⟩ ⟨Nat.zero_le _, Nat.zero_le _⟩ dX6_setBreakage_13 (fun H locs hI => ?_)
  refine lv_if_eq (tgt := 55) hx hb dX6_setBreakage_16 (by decide) (fun c2 => ?_) (fun c2 => ?_)
  · have c2 := bI_eq0.mp c2
    refine lv_iconst (v := 0) hx hb dX6_setBreakage_55 (by decide) ?_
    refine lv_istore (lv' := [(5, .int 0), (0, .ref (o + 285)), (1, .int 2), (2, .int a), (3, .int b), (4, .int c)]) hx hb dX6_setBreakage_56 hl (by decide) rfl (fun ls hl => ?_)
    refine lv_iload hx hb dX6_setBreakage_58 (lv_at hl 0 rfl) ?_
    refine lv_if_eq (tgt := 95) hx hb dX6_setBreakage_60 (by decide) (fun _ => ?_) (fun q => absurd (by decide) q)
    refine lv_iconst (v := 0) hx hb dX6_setBreakage_95 (by decide) ?_
    refine lv_istore (lv' := [(5, .int 0), (0, .ref (o + 285)), (1, .int 2), (2, .int a), (3, .int b), (4, .int c)]) hx hb dX6_setBreakage_96 hl (by decide) rfl (fun ls hl => ?_)
    refine lv_iload hx hb dX6_setBreakage_98 (lv_at hl 0 rfl) ?_
    refine lv_if_ne (tgt := 106) hx hb dX6_setBreakage_100 (by decide) (fun q => absurd (by decide) q) (fun _ => ?_)
    refine lv_bipush (v := (-3)) hx hb dX6_setBreakage_103 (by decide) ?_
    exact x_iret hE hr hlocks hI rfl rfl rfl dX6_setBreakage_105
  · have c2 := bI_ne0.mp c2
    refine lv_iload_n hx hb dX6_setBreakage_19 rfl (lv_at hl 3 rfl) ?_
    refine lv_iconst (v := 0) hx hb dX6_setBreakage_20 (by decide) ?_
    refine lv_bipush (v := 10) hx hb dX6_setBreakage_21 (by decide) ?_
    refine x_callSi hE hK hI (c_X6_in l G o _ _ b 0 10 ) mf_X6_in mw_509 rfl hl.1 rfl (Nat.le_of_ble_eq_true rfl) ⟨(Nat.le_of_ble_eq_true rfl), (Nat.le_of_ble_eq_true rfl)⟩ ⟨Nat.zero_le _, Nat.zero_le _⟩ dX6_setBreakage_23 (fun H locs hI => ?_)
    refine lv_if_eq (tgt := 55) hx hb dX6_setBreakage_26 (by decide) (fun c3 => ?_) (fun c3 => ?_)
    · have c3 := bI_eq0.mp c3
      refine lv_iconst (v := 0) hx hb dX6_setBreakage_55 (by decide) ?_
      refine lv_istore (lv' := [(5, .int 0), (0, .ref (o + 285)), (1, .int 2), (2, .int a), (3, .int b), (4, .int c)]) hx hb dX6_setBreakage_56 hl (by decide) rfl (fun ls hl => ?_)
      refine lv_iload hx hb dX6_setBreakage_58 (lv_at hl 0 rfl) ?_
      refine lv_if_eq (tgt := 95) hx hb dX6_setBreakage_60 (by decide) (fun _ => ?_) (fun q => absurd (by decide) q)
      refine lv_iconst (v := 0) hx hb dX6_setBreakage_95 (by decide) ?_
      refine lv_istore (lv' := [(5, .int 0), (0, .ref (o + 285)), (1, .int 2), (2, .int a), (3, .int b), (4, .int c)]) hx hb dX6_setBreakage_96 hl (by decide) rfl (fun ls hl => ?_)
      refine lv_iload hx hb dX6_setBreakage_98 (lv_at hl 0 rfl) ?_
      refine lv_if_ne (tgt := 106) hx hb dX6_setBreakage_100 (by decide) (fun q => absurd (by decide) q) (fun _ => ?_)
      refine lv_bipush (v := (-3)) hx hb dX6_setBreakage_103 (by decide) ?_
      exact x_iret hE hr hlocks hI rfl rfl rfl dX6_setBreakage_105
    · have c3 := bI_ne0.mp c3
      refine lv_iload hx hb dX6_setBreakage_29 (lv_at hl 4 rfl) ?_
      refine lv_iconst (v := 0) hx hb dX6_setBreakage_31 (by decide) ?_
      refine lv_bipush (v := 10) hx hb dX6_setBreakage_32 (by decide) ?_
      refine x_callSi hE hK hI (c_X6_in l G o _ _ c 0 10 ) mf_X6_in mw_509 rfl hl.1 rfl (Nat.le_of_ble_eq_true rfl) ⟨(Nat.le_of_ble_eq_true rfl), (Nat.le_of_ble_eq_true rfl)⟩ ⟨Nat.zero_le _, Nat.zero_le _⟩ dX6_setBreakage_34 (fun H locs hI => ?_)
      refine lv_if_eq (tgt := 55) hx hb dX6_setBreakage_37 (by decide) (fun c4 => ?_) (fun c4 => ?_)
      · have c4 := bI_eq0.mp c4
        refine lv_iconst (v := 0) hx hb dX6_setBreakage_55 (by decide) ?_
        refine lv_istore (lv' := [(5, .int 0), (0, .ref (o + 285)), (1, .int 2), (2, .int a), (3, .int b), (4, .int c)]) hx hb dX6_setBreakage_56 hl (by decide) rfl (fun ls hl => ?_)
        refine lv_iload hx hb dX6_setBreakage_58 (lv_at hl 0 rfl) ?_
        refine lv_if_eq (tgt := 95) hx hb dX6_setBreakage_60 (by decide) (fun _ => ?_) (fun q => absurd (by decide) q)
        refine lv_iconst (v := 0) hx hb dX6_setBreakage_95 (by decide) ?_
        refine lv_istore (lv' := [(5, .int 0), (0, .ref (o + 285)), (1, .int 2), (2, .int a), (3, .int b), (4, .int c)]) hx hb dX6_setBreakage_96 hl (by decide) rfl (fun ls hl => ?_)
        refine lv_iload hx hb dX6_setBreakage_98 (lv_at hl 0 rfl) ?_
        refine lv_if_ne (tgt := 106) hx hb dX6_setBreakage_100 (by decide) (fun q => absurd (by decide) q) (fun _ => ?_)
        refine lv_bipush (v := (-3)) hx hb dX6_setBreakage_103 (by decide) ?_
        exact x_iret hE hr hlocks hI rfl rfl rfl dX6_setBreakage_105
      · have c4 := bI_ne0.mp c4
        refine lv_iload_n hx hb dX6_setBreakage_40 rfl (lv_at hl 2 rfl) ?_
        refine lv_iload_n hx hb dX6_setBreakage_41 rfl (lv_at hl 3 rfl) ?_
        refine lv_iadd hx hb dX6_setBreakage_42 ?_
        refine lv_iload hx hb dX6_setBreakage_43 (lv_at hl 4 rfl) ?_
        refine lv_iadd hx hb dX6_setBreakage_45 ?_
        refine lv_bipush (v := 10) hx hb dX6_setBreakage_46 (by decide) ?_
        refine lv_icmp_gt (tgt := 55) hx hb dX6_setBreakage_48 (by decide) (fun c5 => ?_) (fun c5 => ?_)
        · refine lv_iconst (v := 0) hx hb dX6_setBreakage_55 (by decide) ?_
          refine lv_istore (lv' := [(5, .int 0), (0, .ref (o + 285)), (1, .int 2), (2, .int a), (3, .int b), (4, .int c)]) hx hb dX6_setBreakage_56 hl (by decide) rfl (fun ls hl => ?_)
          refine lv_iload hx hb dX6_setBreakage_58 (lv_at hl 0 rfl) ?_
          refine lv_if_eq (tgt := 95) hx hb dX6_setBreakage_60 (by decide) (fun _ => ?_) (fun q => absurd (by decide) q)
          refine lv_iconst (v := 0) hx hb dX6_setBreakage_95 (by decide) ?_
          refine lv_istore (lv' := [(5, .int 0), (0, .ref (o + 285)), (1, .int 2), (2, .int a), (3, .int b), (4, .int c)]) hx hb dX6_setBreakage_96 hl (by decide) rfl (fun ls hl => ?_)
          refine lv_iload hx hb dX6_setBreakage_98 (lv_at hl 0 rfl) ?_
          refine lv_if_ne (tgt := 106) hx hb dX6_setBreakage_100 (by decide) (fun q => absurd (by decide) q) (fun _ => ?_)
          refine lv_bipush (v := (-3)) hx hb dX6_setBreakage_103 (by decide) ?_
          exact x_iret hE hr hlocks hI rfl rfl rfl dX6_setBreakage_105
        · refine lv_iconst (v := 1) hx hb dX6_setBreakage_51 (by decide) ?_
          refine lv_goto (tgt := 56) hx hb dX6_setBreakage_52 (by decide) ?_
          refine lv_istore (lv' := [(5, .int 1), (0, .ref (o + 285)), (1, .int 2), (2, .int a), (3, .int b), (4, .int c)]) hx hb dX6_setBreakage_56 hl (by decide) rfl (fun ls hl => ?_)
          refine lv_iload hx hb dX6_setBreakage_58 (lv_at hl 0 rfl) ?_
          refine lv_if_eq (tgt := 95) hx hb dX6_setBreakage_60 (by decide) (fun q => absurd q (by decide)) (fun _ => ?_)
          refine lv_iload_n hx hb dX6_setBreakage_63 rfl (lv_at hl 2 rfl) ?_
          refine lv_iconst (v := 3) hx hb dX6_setBreakage_64 (by decide) ?_
          refine lv_icmp_lt (tgt := 72) hx hb dX6_setBreakage_65 (by decide) (fun _ => ?_) (fun q => absurd (by decide) q)
          refine lv_iload_n hx hb dX6_setBreakage_72 rfl (lv_at hl 2 rfl) ?_
          refine lv_iconst (v := 2) hx hb dX6_setBreakage_73 (by decide) ?_
          refine lv_icmp_lt (tgt := 81) hx hb dX6_setBreakage_74 (by decide) (fun q => absurd q (by decide)) (fun _ => ?_)
          refine lv_iload_n hx hb dX6_setBreakage_77 rfl (lv_at hl 4 rfl) ?_
          refine lv_if_ne (tgt := 95) hx hb dX6_setBreakage_78 (by decide) (fun c6 => ?_) (fun c6 => ?_)
          · refine lv_iconst (v := 0) hx hb dX6_setBreakage_95 (by decide) ?_
            refine lv_istore (lv' := [(5, .int 0), (0, .ref (o + 285)), (1, .int 2), (2, .int a), (3, .int b), (4, .int c)]) hx hb dX6_setBreakage_96 hl (by decide) rfl (fun ls hl => ?_)
            refine lv_iload hx hb dX6_setBreakage_98 (lv_at hl 0 rfl) ?_
            refine lv_if_ne (tgt := 106) hx hb dX6_setBreakage_100 (by decide) (fun q => absurd (by decide) q) (fun _ => ?_)
            refine lv_bipush (v := (-3)) hx hb dX6_setBreakage_103 (by decide) ?_
            exact x_iret hE hr hlocks hI rfl rfl rfl dX6_setBreakage_105
          · refine lv_iload_n hx hb dX6_setBreakage_81 rfl (lv_at hl 2 rfl) ?_
            refine lv_iconst (v := 1) hx hb dX6_setBreakage_82 (by decide) ?_
            refine lv_icmp_lt (tgt := 91) hx hb dX6_setBreakage_83 (by decide) (fun q => absurd q (by decide)) (fun _ => ?_)
            refine lv_iload hx hb dX6_setBreakage_86 (lv_at hl 5 rfl) ?_
            refine lv_if_ne (tgt := 95) hx hb dX6_setBreakage_88 (by decide) (fun c7 => ?_) (fun c7 => ?_)
            · refine lv_iconst (v := 0) hx hb dX6_setBreakage_95 (by decide) ?_
              refine lv_istore (lv' := [(5, .int 0), (0, .ref (o + 285)), (1, .int 2), (2, .int a), (3, .int b), (4, .int c)]) hx hb dX6_setBreakage_96 hl (by decide) rfl (fun ls hl => ?_)
              refine lv_iload hx hb dX6_setBreakage_98 (lv_at hl 0 rfl) ?_
              refine lv_if_ne (tgt := 106) hx hb dX6_setBreakage_100 (by decide) (fun q => absurd (by decide) q) (fun _ => ?_)
              refine lv_bipush (v := (-3)) hx hb dX6_setBreakage_103 (by decide) ?_
              exact x_iret hE hr hlocks hI rfl rfl rfl dX6_setBreakage_105
            · refine lv_iconst (v := 1) hx hb dX6_setBreakage_91 (by decide) ?_
              refine lv_goto (tgt := 96) hx hb dX6_setBreakage_92 (by decide) ?_
              refine lv_istore (lv' := [(5, .int 1), (0, .ref (o + 285)), (1, .int 2), (2, .int a), (3, .int b), (4, .int c)]) hx hb dX6_setBreakage_96 hl (by decide) rfl (fun ls hl => ?_)
              refine lv_iload hx hb dX6_setBreakage_98 (lv_at hl 0 rfl) ?_
              refine lv_if_ne (tgt := 106) hx hb dX6_setBreakage_100 (by decide) (fun _ => ?_) (fun q => absurd q (by decide))
              exact absurd ⟨c2, c3, c4, c5, c6, c7⟩ h
set_option maxRecDepth 100000 in
set_option maxHeartbeats 4000000 in
theorem c_X6_setBreakage_ok_3 (l : Launch) (G : GG) (o : Nat) (X : SX) (Y : SY) (a : Int32) (b : Int32) (c : Int32) (h0 : Wi a 0 10) (h1 : Wi b 0 10) (h2 : Wi c 0 10) (h3 : ¬ (10 < (a + b) + c)) (h4 : a = 0) (h5 : b = 0) (h6 : c = 0) : Ct l yX6_setBreakage cX6_setBreakage 7 (some .int) 2 42 G o [.ref (o + 285), .int 3, .int a, .int b, .int c] X Y (some (.int (((10 - a) - b) - c))) (sx X 286 15 (((10 - a) - b) - c)) Y := by
  refine Ct.mk (by decide +kernel) (Nat.le_of_ble_eq_true rfl) rfl ?_
  intro p9 e9 s9 m9 args9 below9 meth9 c9 hE hr hlocks hK hI ls hl
  have hx := hE.1
  have hb := hE.2.1
  have hl : lv_has ls 7 [(0, .ref (o + 285)), (1, .int 3), (2, .int a), (3, .int b), (4, .int c)] := hl
  refine lv_iload_n hx hb dX6_setBreakage_0 rfl (lv_at hl 1 rfl) ?_
  refine x_callSi hE hK hI (c_X6_isSize l G o _ _ 3 ) mf_X6_isSize mw_506 rfl hl.1 rfl (Nat.le_of_ble_eq_true rfl) ⟨(Nat.le_of_ble_eq_true rfl), (Nat.le_of_ble_eq_true rfl)⟩ ⟨Nat.zero_le _, Nat.zero_le _⟩ dX6_setBreakage_1 (fun H locs hI => ?_)
  refine lv_topi (fun z1 ez1 => ?_)
  obtain rfl : 1 = z1 := (ez1.trans (bI_t (by decide))).symm
  refine lv_if_ne (tgt := 9) hx hb dX6_setBreakage_4 (by decide) (fun _ => ?_) (fun q => absurd q (by decide))
  refine lv_iload_n hx hb dX6_setBreakage_9 rfl (lv_at hl 2 rfl) ?_
  refine lv_iconst (v := 0) hx hb dX6_setBreakage_10 (by decide) ?_
  refine lv_bipush (v := 10) hx hb dX6_setBreakage_11 (by decide) ?_
  refine x_callSi hE hK hI (c_X6_in l G o _ _ a 0 10 ) mf_X6_in mw_509 rfl hl.1 rfl (Nat.le_of_ble_eq_true rfl) ⟨(Nat.le_of_ble_eq_true rfl), (Nat.le_of_ble_eq_true rfl)⟩ ⟨Nat.zero_le _, Nat.zero_le _⟩ dX6_setBreakage_13 (fun H locs hI => ?_)
  refine lv_topi (fun z2 ez2 => ?_)
  obtain rfl : 1 = z2 := (ez2.trans (bI_t h0)).symm
  refine lv_if_eq (tgt := 55) hx hb dX6_setBreakage_16 (by decide) (fun q => absurd q (by decide)) (fun _ => ?_)
  refine lv_iload_n hx hb dX6_setBreakage_19 rfl (lv_at hl 3 rfl) ?_
  refine lv_iconst (v := 0) hx hb dX6_setBreakage_20 (by decide) ?_
  refine lv_bipush (v := 10) hx hb dX6_setBreakage_21 (by decide) ?_
  refine x_callSi hE hK hI (c_X6_in l G o _ _ b 0 10 ) mf_X6_in mw_509 rfl hl.1 rfl (Nat.le_of_ble_eq_true rfl) ⟨(Nat.le_of_ble_eq_true rfl), (Nat.le_of_ble_eq_true rfl)⟩ ⟨Nat.zero_le _, Nat.zero_le _⟩ dX6_setBreakage_23 (fun H locs hI => ?_)
  refine lv_topi (fun z3 ez3 => ?_)
  obtain rfl : 1 = z3 := (ez3.trans (bI_t h1)).symm
  refine lv_if_eq (tgt := 55) hx hb dX6_setBreakage_26 (by decide) (fun q => absurd q (by decide)) (fun _ => ?_)
  refine lv_iload hx hb dX6_setBreakage_29 (lv_at hl 4 rfl) ?_
  refine lv_iconst (v := 0) hx hb dX6_setBreakage_31 (by decide) ?_
  refine lv_bipush (v := 10) hx hb dX6_setBreakage_32 (by decide) ?_
  refine x_callSi hE hK hI (c_X6_in l G o _ _ c 0 10 ) mf_X6_in mw_509 rfl hl.1 rfl (Nat.le_of_ble_eq_true rfl) ⟨(Nat.le_of_ble_eq_true rfl), (Nat.le_of_ble_eq_true rfl)⟩ ⟨Nat.zero_le _, Nat.zero_le _⟩ dX6_setBreakage_34 (fun H locs hI => ?_)
  refine lv_topi (fun z4 ez4 => ?_)
  obtain rfl : 1 = z4 := (ez4.trans (bI_t h2)).symm
  refine lv_if_eq (tgt := 55) hx hb dX6_setBreakage_37 (by decide) (fun q => absurd q (by decide)) (fun _ => ?_)
  refine lv_iload_n hx hb dX6_setBreakage_40 rfl (lv_at hl 2 rfl) ?_
  refine lv_iload_n hx hb dX6_setBreakage_41 rfl (lv_at hl 3 rfl) ?_
  refine lv_iadd hx hb dX6_setBreakage_42 ?_
  refine lv_iload hx hb dX6_setBreakage_43 (lv_at hl 4 rfl) ?_
  refine lv_iadd hx hb dX6_setBreakage_45 ?_
  refine lv_bipush (v := 10) hx hb dX6_setBreakage_46 (by decide) ?_
  refine lv_icmp_gt (tgt := 55) hx hb dX6_setBreakage_48 (by decide) (fun q => absurd q h3) (fun _ => ?_)
  refine lv_iconst (v := 1) hx hb dX6_setBreakage_51 (by decide) ?_
  refine lv_goto (tgt := 56) hx hb dX6_setBreakage_52 (by decide) ?_
  refine lv_istore (lv' := [(5, .int 1), (0, .ref (o + 285)), (1, .int 3), (2, .int a), (3, .int b), (4, .int c)]) hx hb dX6_setBreakage_56 hl (by decide) rfl (fun ls hl => ?_)
  refine lv_iload hx hb dX6_setBreakage_58 (lv_at hl 0 rfl) ?_
  refine lv_if_eq (tgt := 95) hx hb dX6_setBreakage_60 (by decide) (fun q => absurd q (by decide)) (fun _ => ?_)
  refine lv_iload_n hx hb dX6_setBreakage_63 rfl (lv_at hl 2 rfl) ?_
  refine lv_iconst (v := 3) hx hb dX6_setBreakage_64 (by decide) ?_
  refine lv_icmp_lt (tgt := 72) hx hb dX6_setBreakage_65 (by decide) (fun q => absurd q (by decide)) (fun _ => ?_)
  refine lv_iload_n hx hb dX6_setBreakage_68 rfl (lv_at hl 3 rfl) ?_
  refine lv_if_ne (tgt := 95) hx hb dX6_setBreakage_69 (by decide) (fun q => absurd h4 q) (fun _ => ?_)
  refine lv_iload_n hx hb dX6_setBreakage_72 rfl (lv_at hl 2 rfl) ?_
  refine lv_iconst (v := 2) hx hb dX6_setBreakage_73 (by decide) ?_
  refine lv_icmp_lt (tgt := 81) hx hb dX6_setBreakage_74 (by decide) (fun q => absurd q (by decide)) (fun _ => ?_)
  refine lv_iload_n hx hb dX6_setBreakage_77 rfl (lv_at hl 4 rfl) ?_
  refine lv_if_ne (tgt := 95) hx hb dX6_setBreakage_78 (by decide) (fun q => absurd h5 q) (fun _ => ?_)
  refine lv_iload_n hx hb dX6_setBreakage_81 rfl (lv_at hl 2 rfl) ?_
  refine lv_iconst (v := 1) hx hb dX6_setBreakage_82 (by decide) ?_
  refine lv_icmp_lt (tgt := 91) hx hb dX6_setBreakage_83 (by decide) (fun q => absurd q (by decide)) (fun _ => ?_)
  refine lv_iload hx hb dX6_setBreakage_86 (lv_at hl 5 rfl) ?_
  refine lv_if_ne (tgt := 95) hx hb dX6_setBreakage_88 (by decide) (fun q => absurd h6 q) (fun _ => ?_)
  refine lv_iconst (v := 1) hx hb dX6_setBreakage_91 (by decide) ?_
  refine lv_goto (tgt := 96) hx hb dX6_setBreakage_92 (by decide) ?_
  refine lv_istore (lv' := [(5, .int 1), (0, .ref (o + 285)), (1, .int 3), (2, .int a), (3, .int b), (4, .int c)]) hx hb dX6_setBreakage_96 hl (by decide) rfl (fun ls hl => ?_)
  refine lv_iload hx hb dX6_setBreakage_98 (lv_at hl 0 rfl) ?_
  refine lv_if_ne (tgt := 106) hx hb dX6_setBreakage_100 (by decide) (fun _ => ?_) (fun q => absurd q (by decide))
  refine lv_iconst (v := 0) hx hb dX6_setBreakage_106 (by decide) ?_
  refine lv_iconst (v := 5) hx hb dX6_setBreakage_107 (by decide) ?_
  refine lv_iload_n hx hb dX6_setBreakage_108 rfl (lv_at hl 2 rfl) ?_
  refine lv_imul hx hb dX6_setBreakage_109 ?_
  refine lv_topi (fun z5 ez5 => ?_)
  obtain rfl : 15 = z5 := (ez5.trans (by decide)).symm
  refine lv_iadd hx hb dX6_setBreakage_110 ?_
  refine lv_topi (fun z6 ez6 => ?_)
  obtain rfl : 15 = z6 := (ez6.trans (by decide)).symm
  refine lv_istore (lv' := [(6, .int 15), (5, .int 1), (0, .ref (o + 285)), (1, .int 3), (2, .int a), (3, .int b), (4, .int c)]) hx hb dX6_setBreakage_111 hl (by decide) rfl (fun ls hl => ?_)
  refine lv_aload_n hx hb dX6_setBreakage_113 rfl (lv_at hl 2 rfl) ?_
  refine x_get (k := 285) hE hK hI (by decide) inG6 (e_285 G o _ _) rfl 0 (by decide) mw_480 rfl dX6_setBreakage_114 ?_
  refine lv_iload hx hb dX6_setBreakage_117 (lv_at hl 0 rfl) ?_
  refine lv_bipush (v := 10) hx hb dX6_setBreakage_119 (by decide) ?_
  refine lv_iload_n hx hb dX6_setBreakage_121 rfl (lv_at hl 4 rfl) ?_
  refine lv_isub hx hb dX6_setBreakage_122 ?_
  refine lv_iload_n hx hb dX6_setBreakage_123 rfl (lv_at hl 5 rfl) ?_
  refine lv_isub hx hb dX6_setBreakage_124 ?_
  refine lv_iload hx hb dX6_setBreakage_125 (lv_at hl 6 rfl) ?_
  refine lv_isub hx hb dX6_setBreakage_127 ?_
  refine x_iast (k := 286) (j := 15) hE hK hI (by decide) (e_286 G o) (by decide) (by decide) rfl dX6_setBreakage_128 (fun H locs hI => ?_)
  refine lv_iload_n hx hb dX6_setBreakage_129 rfl (lv_at hl 3 rfl) ?_
  refine lv_iconst (v := 3) hx hb dX6_setBreakage_130 (by decide) ?_
  refine lv_icmp_ge (tgt := 144) hx hb dX6_setBreakage_131 (by decide) (fun _ => ?_) (fun q => absurd (by decide) q)
  refine lv_iload_n hx hb dX6_setBreakage_144 rfl (lv_at hl 3 rfl) ?_
  refine lv_iconst (v := 2) hx hb dX6_setBreakage_145 (by decide) ?_
  refine lv_icmp_ge (tgt := 159) hx hb dX6_setBreakage_146 (by decide) (fun _ => ?_) (fun q => absurd (by decide) q)
  refine lv_iload_n hx hb dX6_setBreakage_159 rfl (lv_at hl 3 rfl) ?_
  refine lv_iconst (v := 1) hx hb dX6_setBreakage_160 (by decide) ?_
  refine lv_icmp_ge (tgt := 175) hx hb dX6_setBreakage_161 (by decide) (fun _ => ?_) (fun q => absurd (by decide) q)
  refine lv_aload_n hx hb dX6_setBreakage_175 rfl (lv_at hl 2 rfl) ?_
  refine x_get (k := 285) hE hK hI (by decide) inG6 (e_285 G o _ _) rfl 0 (by decide) mw_480 rfl dX6_setBreakage_176 ?_
  refine lv_iload hx hb dX6_setBreakage_179 (lv_at hl 0 rfl) ?_
  refine x_iald (k := 286) (j := 15) hE hK hI (by decide) (e_286 G o) (by decide) (by decide) rfl dX6_setBreakage_181 ?_
  refine lv_topi (fun z7 ez7 => ?_)
  obtain rfl : ((10 - a) - b) - c = z7 := (ez7.trans (sx_e)).symm
  exact x_iret hE hr hlocks hI rfl rfl rfl dX6_setBreakage_182
set_option maxRecDepth 100000 in
set_option maxHeartbeats 4000000 in
theorem c_X6_setBreakage_bad_3 (l : Launch) (G : GG) (o : Nat) (X : SX) (Y : SY) (a : Int32) (b : Int32) (c : Int32) (h : ¬ (Wi a 0 10 ∧ Wi b 0 10 ∧ Wi c 0 10 ∧ ¬ (10 < (a + b) + c) ∧ a = 0 ∧ b = 0 ∧ c = 0)) : Ct l yX6_setBreakage cX6_setBreakage 7 (some .int) 2 42 G o [.ref (o + 285), .int 3, .int a, .int b, .int c] X Y (some (.int (-3))) X Y := by
  refine Ct.mk (by decide +kernel) (Nat.le_of_ble_eq_true rfl) rfl ?_
  intro p9 e9 s9 m9 args9 below9 meth9 c9 hE hr hlocks hK hI ls hl
  have hx := hE.1
  have hb := hE.2.1
  have hl : lv_has ls 7 [(0, .ref (o + 285)), (1, .int 3), (2, .int a), (3, .int b), (4, .int c)] := hl
  refine lv_iload_n hx hb dX6_setBreakage_0 rfl (lv_at hl 1 rfl) ?_
  refine x_callSi hE hK hI (c_X6_isSize l G o _ _ 3 ) mf_X6_isSize mw_506 rfl hl.1 rfl (Nat.le_of_ble_eq_true rfl) ⟨(Nat.le_of_ble_eq_true rfl), (Nat.le_of_ble_eq_true rfl)⟩ ⟨Nat.zero_le _, Nat.zero_le _⟩ dX6_setBreakage_1 (fun H locs hI => ?_)
  refine lv_topi (fun z1 ez1 => ?_)
  obtain rfl : 1 = z1 := (ez1.trans (bI_t (by decide))).symm
  refine lv_if_ne (tgt := 9) hx hb dX6_setBreakage_4 (by decide) (fun _ => ?_) (fun q => absurd q (by decide))
  refine lv_iload_n hx hb dX6_setBreakage_9 rfl (lv_at hl 2 rfl) ?_
  refine lv_iconst (v := 0) hx hb dX6_setBreakage_10 (by decide) ?_
  refine lv_bipush (v := 10) hx hb dX6_setBreakage_11 (by decide) ?_
  refine x_callSi hE hK hI (c_X6_in l G o _ _ a 0 10 ) mf_X6_in mw_509 rfl hl.1 rfl (Nat.le_of_ble_eq_true rfl) ⟨(Nat.le_of_ble_eq_true rfl), (Nat.le_of_ble_eq_true rfl)⟩ ⟨Nat.zero_le _, Nat.zero_le _⟩ dX6_setBreakage_13 (fun H locs hI => ?_)
  refine lv_if_eq (tgt := 55) hx hb dX6_setBreakage_16 (by decide) (fun c2 => ?_) (fun c2 => ?_)
  · have c2 := bI_eq0.mp c2
    refine lv_iconst (v := 0) hx hb dX6_setBreakage_55 (by decide) ?_
    refine lv_istore (lv' := [(5, .int 0), (0, .ref (o + 285)), (1, .int 3), (2, .int a), (3, .int b), (4, .int c)]) hx hb dX6_setBreakage_56 hl (by decide) rfl (fun ls hl => ?_)
    refine lv_iload hx hb dX6_setBreakage_58 (lv_at hl 0 rfl) ?_
    refine lv_if_eq (tgt := 95) hx hb dX6_setBreakage_60 (by decide) (fun _ => ?_) (fun q => absurd (by decide) q)
    refine lv_iconst (v := 0) hx hb dX6_setBreakage_95 (by decide) ?_
    refine lv_istore (lv' := [(5, .int 0), (0, .ref (o + 285)), (1, .int 3), (2, .int a), (3, .int b), (4, .int c)]) hx hb dX6_setBreakage_96 hl (by decide) rfl (fun ls hl => ?_)
    refine lv_iload hx hb dX6_setBreakage_98 (lv_at hl 0 rfl) ?_
    refine lv_if_ne (tgt := 106) hx hb dX6_setBreakage_100 (by decide) (fun q => absurd (by decide) q) (fun _ => ?_)
    refine lv_bipush (v := (-3)) hx hb dX6_setBreakage_103 (by decide) ?_
    exact x_iret hE hr hlocks hI rfl rfl rfl dX6_setBreakage_105
  · have c2 := bI_ne0.mp c2
    refine lv_iload_n hx hb dX6_setBreakage_19 rfl (lv_at hl 3 rfl) ?_
    refine lv_iconst (v := 0) hx hb dX6_setBreakage_20 (by decide) ?_
    refine lv_bipush (v := 10) hx hb dX6_setBreakage_21 (by decide) ?_
    refine x_callSi hE hK hI (c_X6_in l G o _ _ b 0 10 ) mf_X6_in mw_509 rfl hl.1 rfl (Nat.le_of_ble_eq_true rfl) ⟨(Nat.le_of_ble_eq_true rfl), (Nat.le_of_ble_eq_true rfl)⟩ ⟨Nat.zero_le _, Nat.zero_le _⟩ dX6_setBreakage_23 (fun H locs hI => ?_)
    refine lv_if_eq (tgt := 55) hx hb dX6_setBreakage_26 (by decide) (fun c3 => ?_) (fun c3 => ?_)
    · have c3 := bI_eq0.mp c3
      refine lv_iconst (v := 0) hx hb dX6_setBreakage_55 (by decide) ?_
      refine lv_istore (lv' := [(5, .int 0), (0, .ref (o + 285)), (1, .int 3), (2, .int a), (3, .int b), (4, .int c)]) hx hb dX6_setBreakage_56 hl (by decide) rfl (fun ls hl => ?_)
      refine lv_iload hx hb dX6_setBreakage_58 (lv_at hl 0 rfl) ?_
      refine lv_if_eq (tgt := 95) hx hb dX6_setBreakage_60 (by decide) (fun _ => ?_) (fun q => absurd (by decide) q)
      refine lv_iconst (v := 0) hx hb dX6_setBreakage_95 (by decide) ?_
      refine lv_istore (lv' := [(5, .int 0), (0, .ref (o + 285)), (1, .int 3), (2, .int a), (3, .int b), (4, .int c)]) hx hb dX6_setBreakage_96 hl (by decide) rfl (fun ls hl => ?_)
      refine lv_iload hx hb dX6_setBreakage_98 (lv_at hl 0 rfl) ?_
      refine lv_if_ne (tgt := 106) hx hb dX6_setBreakage_100 (by decide) (fun q => absurd (by decide) q) (fun _ => ?_)
      refine lv_bipush (v := (-3)) hx hb dX6_setBreakage_103 (by decide) ?_
      exact x_iret hE hr hlocks hI rfl rfl rfl dX6_setBreakage_105
    · have c3 := bI_ne0.mp c3
      refine lv_iload hx hb dX6_setBreakage_29 (lv_at hl 4 rfl) ?_
      refine lv_iconst (v := 0) hx hb dX6_setBreakage_31 (by decide) ?_
      refine lv_bipush (v := 10) hx hb dX6_setBreakage_32 (by decide) ?_
      refine x_callSi hE hK hI (c_X6_in l G o _ _ c 0 10 ) mf_X6_in mw_509 rfl hl.1 rfl (Nat.le_of_ble_eq_true rfl) ⟨(Nat.le_of_ble_eq_true rfl), (Nat.le_of_ble_eq_true rfl)⟩ ⟨Nat.zero_le _, Nat.zero_le _⟩ dX6_setBreakage_34 (fun H locs hI => ?_)
      refine lv_if_eq (tgt := 55) hx hb dX6_setBreakage_37 (by decide) (fun c4 => ?_) (fun c4 => ?_)
      · have c4 := bI_eq0.mp c4
        refine lv_iconst (v := 0) hx hb dX6_setBreakage_55 (by decide) ?_
        refine lv_istore (lv' := [(5, .int 0), (0, .ref (o + 285)), (1, .int 3), (2, .int a), (3, .int b), (4, .int c)]) hx hb dX6_setBreakage_56 hl (by decide) rfl (fun ls hl => ?_)
        refine lv_iload hx hb dX6_setBreakage_58 (lv_at hl 0 rfl) ?_
        refine lv_if_eq (tgt := 95) hx hb dX6_setBreakage_60 (by decide) (fun _ => ?_) (fun q => absurd (by decide) q)
        refine lv_iconst (v := 0) hx hb dX6_setBreakage_95 (by decide) ?_
        refine lv_istore (lv' := [(5, .int 0), (0, .ref (o + 285)), (1, .int 3), (2, .int a), (3, .int b), (4, .int c)]) hx hb dX6_setBreakage_96 hl (by decide) rfl (fun ls hl => ?_)
        refine lv_iload hx hb dX6_setBreakage_98 (lv_at hl 0 rfl) ?_
        refine lv_if_ne (tgt := 106) hx hb dX6_setBreakage_100 (by decide) (fun q => absurd (by decide) q) (fun _ => ?_)
        refine lv_bipush (v := (-3)) hx hb dX6_setBreakage_103 (by decide) ?_
        exact x_iret hE hr hlocks hI rfl rfl rfl dX6_setBreakage_105
      · have c4 := bI_ne0.mp c4
        refine lv_iload_n hx hb dX6_setBreakage_40 rfl (lv_at hl 2 rfl) ?_
        refine lv_iload_n hx hb dX6_setBreakage_41 rfl (lv_at hl 3 rfl) ?_
        refine lv_iadd hx hb dX6_setBreakage_42 ?_
        refine lv_iload hx hb dX6_setBreakage_43 (lv_at hl 4 rfl) ?_
        refine lv_iadd hx hb dX6_setBreakage_45 ?_
        refine lv_bipush (v := 10) hx hb dX6_setBreakage_46 (by decide) ?_
        refine lv_icmp_gt (tgt := 55) hx hb dX6_setBreakage_48 (by decide) (fun c5 => ?_) (fun c5 => ?_)
        · refine lv_iconst (v := 0) hx hb dX6_setBreakage_55 (by decide) ?_
          refine lv_istore (lv' := [(5, .int 0), (0, .ref (o + 285)), (1, .int 3), (2, .int a), (3, .int b), (4, .int c)]) hx hb dX6_setBreakage_56 hl (by decide) rfl (fun ls hl => ?_)
          refine lv_iload hx hb dX6_setBreakage_58 (lv_at hl 0 rfl) ?_
          refine lv_if_eq (tgt := 95) hx hb dX6_setBreakage_60 (by decide) (fun _ => ?_) (fun q => absurd (by decide) q)
          refine lv_iconst (v := 0) hx hb dX6_setBreakage_95 (by decide) ?_
          refine lv_istore (lv' := [(5, .int 0), (0, .ref (o + 285)), (1, .int 3), (2, .int a), (3, .int b), (4, .int c)]) hx hb dX6_setBreakage_96 hl (by decide) rfl (fun ls hl => ?_)
          refine lv_iload hx hb dX6_setBreakage_98 (lv_at hl 0 rfl) ?_
          refine lv_if_ne (tgt := 106) hx hb dX6_setBreakage_100 (by decide) (fun q => absurd (by decide) q) (fun _ => ?_)
          refine lv_bipush (v := (-3)) hx hb dX6_setBreakage_103 (by decide) ?_
          exact x_iret hE hr hlocks hI rfl rfl rfl dX6_setBreakage_105
        · refine lv_iconst (v := 1) hx hb dX6_setBreakage_51 (by decide) ?_
          refine lv_goto (tgt := 56) hx hb dX6_setBreakage_52 (by decide) ?_
          refine lv_istore (lv' := [(5, .int 1), (0, .ref (o + 285)), (1, .int 3), (2, .int a), (3, .int b), (4, .int c)]) hx hb dX6_setBreakage_56 hl (by decide) rfl (fun ls hl => ?_)
          refine lv_iload hx hb dX6_setBreakage_58 (lv_at hl 0 rfl) ?_
          refine lv_if_eq (tgt := 95) hx hb dX6_setBreakage_60 (by decide) (fun q => absurd q (by decide)) (fun _ => ?_)
          refine lv_iload_n hx hb dX6_setBreakage_63 rfl (lv_at hl 2 rfl) ?_
          refine lv_iconst (v := 3) hx hb dX6_setBreakage_64 (by decide) ?_
          refine lv_icmp_lt (tgt := 72) hx hb dX6_setBreakage_65 (by decide) (fun q => absurd q (by decide)) (fun _ => ?_)
          refine lv_iload_n hx hb dX6_setBreakage_68 rfl (lv_at hl 3 rfl) ?_
          refine lv_if_ne (tgt := 95) hx hb dX6_setBreakage_69 (by decide) (fun c6 => ?_) (fun c6 => ?_)
          · refine lv_iconst (v := 0) hx hb dX6_setBreakage_95 (by decide) ?_
            refine lv_istore (lv' := [(5, .int 0), (0, .ref (o + 285)), (1, .int 3), (2, .int a), (3, .int b), (4, .int c)]) hx hb dX6_setBreakage_96 hl (by decide) rfl (fun ls hl => ?_)
            refine lv_iload hx hb dX6_setBreakage_98 (lv_at hl 0 rfl) ?_
            refine lv_if_ne (tgt := 106) hx hb dX6_setBreakage_100 (by decide) (fun q => absurd (by decide) q) (fun _ => ?_)
            refine lv_bipush (v := (-3)) hx hb dX6_setBreakage_103 (by decide) ?_
            exact x_iret hE hr hlocks hI rfl rfl rfl dX6_setBreakage_105
          · refine lv_iload_n hx hb dX6_setBreakage_72 rfl (lv_at hl 2 rfl) ?_
            refine lv_iconst (v := 2) hx hb dX6_setBreakage_73 (by decide) ?_
            refine lv_icmp_lt (tgt := 81) hx hb dX6_setBreakage_74 (by decide) (fun q => absurd q (by decide)) (fun _ => ?_)
            refine lv_iload_n hx hb dX6_setBreakage_77 rfl (lv_at hl 4 rfl) ?_
            refine lv_if_ne (tgt := 95) hx hb dX6_setBreakage_78 (by decide) (fun c7 => ?_) (fun c7 => ?_)
            · refine lv_iconst (v := 0) hx hb dX6_setBreakage_95 (by decide) ?_
              refine lv_istore (lv' := [(5, .int 0), (0, .ref (o + 285)), (1, .int 3), (2, .int a), (3, .int b), (4, .int c)]) hx hb dX6_setBreakage_96 hl (by decide) rfl (fun ls hl => ?_)
              refine lv_iload hx hb dX6_setBreakage_98 (lv_at hl 0 rfl) ?_
              refine lv_if_ne (tgt := 106) hx hb dX6_setBreakage_100 (by decide) (fun q => absurd (by decide) q) (fun _ => ?_)
              refine lv_bipush (v := (-3)) hx hb dX6_setBreakage_103 (by decide) ?_
              exact x_iret hE hr hlocks hI rfl rfl rfl dX6_setBreakage_105
            · refine lv_iload_n hx hb dX6_setBreakage_81 rfl (lv_at hl 2 rfl) ?_
              refine lv_iconst (v := 1) hx hb dX6_setBreakage_82 (by decide) ?_
              refine lv_icmp_lt (tgt := 91) hx hb dX6_setBreakage_83 (by decide) (fun q => absurd q (by decide)) (fun _ => ?_)
              refine lv_iload hx hb dX6_setBreakage_86 (lv_at hl 5 rfl) ?_
              refine lv_if_ne (tgt := 95) hx hb dX6_setBreakage_88 (by decide) (fun c8 => ?_) (fun c8 => ?_)
              · refine lv_iconst (v := 0) hx hb dX6_setBreakage_95 (by decide) ?_
                refine lv_istore (lv' := [(5, .int 0), (0, .ref (o + 285)), (1, .int 3), (2, .int a), (3, .int b), (4, .int c)]) hx hb dX6_setBreakage_96 hl (by decide) rfl (fun ls hl => ?_)
                refine lv_iload hx hb dX6_setBreakage_98 (lv_at hl 0 rfl) ?_
                refine lv_if_ne (tgt := 106) hx hb dX6_setBreakage_100 (by decide) (fun q => absurd (by decide) q) (fun _ => ?_)
                refine lv_bipush (v := (-3)) hx hb dX6_setBreakage_103 (by decide) ?_
                exact x_iret hE hr hlocks hI rfl rfl rfl dX6_setBreakage_105
              · refine lv_iconst (v := 1) hx hb dX6_setBreakage_91 (by decide) ?_
                refine lv_goto (tgt := 96) hx hb dX6_setBreakage_92 (by decide) ?_
                refine lv_istore (lv' := [(5, .int 1), (0, .ref (o + 285)), (1, .int 3), (2, .int a), (3, .int b), (4, .int c)]) hx hb dX6_setBreakage_96 hl (by decide) rfl (fun ls hl => ?_)
                refine lv_iload hx hb dX6_setBreakage_98 (lv_at hl 0 rfl) ?_
                refine lv_if_ne (tgt := 106) hx hb dX6_setBreakage_100 (by decide) (fun _ => ?_) (fun q => absurd q (by decide))
                exact absurd ⟨c2, c3, c4, c5, c6, c7, c8⟩ h
set_option maxRecDepth 100000 in
set_option maxHeartbeats 4000000 in
theorem c_X6_share_a (l : Launch) (G : GG) (o : Nat) (X : SX) (Y : SY) (u : Int32) (v : Int32) (h : ¬ (Wi u 0 3)) : Ct l yX6_share cX6_share 3 (some .int) 2 42 G o [.ref (o + 285), .int u, .int v] X Y (some (.int (-1))) X Y := by
  refine Ct.mk (by decide +kernel) (Nat.le_of_ble_eq_true rfl) rfl ?_
  intro p9 e9 s9 m9 args9 below9 meth9 c9 hE hr hlocks hK hI ls hl
  have hx := hE.1
  have hb := hE.2.1
  have hl : lv_has ls 3 [(0, .ref (o + 285)), (1, .int u), (2, .int v)] := hl
  refine lv_iload_n hx hb dX6_share_0 rfl (lv_at hl 1 rfl) ?_
  refine x_callSi hE hK hI (c_X6_isSize l G o _ _ u ) mf_X6_isSize mw_506 rfl hl.1 rfl (Nat.le_of_ble_eq_true rfl) ⟨(Nat.le_of_ble_eq_true rfl), (Nat.le_of_ble_eq_true rfl)⟩ ⟨Nat.zero_le _, Nat.zero_le _⟩ dX6_share_1 (fun H locs hI => ?_)
  refine lv_topi (fun z1 ez1 => ?_)
  obtain rfl : 0 = z1 := (ez1.trans (bI_f h)).symm
  refine lv_if_eq (tgt := 23) hx hb dX6_share_4 (by decide) (fun _ => ?_) (fun q => absurd (by decide) q)
  refine lv_iconst (v := (-1)) hx hb dX6_share_23 (by decide) ?_
  exact x_iret hE hr hlocks hI rfl rfl rfl dX6_share_24
set_option maxRecDepth 100000 in
set_option maxHeartbeats 4000000 in
theorem c_X6_share_b (l : Launch) (G : GG) (o : Nat) (X : SX) (Y : SY) (u : Int32) (v : Int32) (h1 : Wi u 0 3) (h : ¬ (Wi v 0 3)) : Ct l yX6_share cX6_share 3 (some .int) 2 42 G o [.ref (o + 285), .int u, .int v] X Y (some (.int (-1))) X Y := by
  refine Ct.mk (by decide +kernel) (Nat.le_of_ble_eq_true rfl) rfl ?_
  intro p9 e9 s9 m9 args9 below9 meth9 c9 hE hr hlocks hK hI ls hl
  have hx := hE.1
  have hb := hE.2.1
  have hl : lv_has ls 3 [(0, .ref (o + 285)), (1, .int u), (2, .int v)] := hl
  refine lv_iload_n hx hb dX6_share_0 rfl (lv_at hl 1 rfl) ?_
  refine x_callSi hE hK hI (c_X6_isSize l G o _ _ u ) mf_X6_isSize mw_506 rfl hl.1 rfl (Nat.le_of_ble_eq_true rfl) ⟨(Nat.le_of_ble_eq_true rfl), (Nat.le_of_ble_eq_true rfl)⟩ ⟨Nat.zero_le _, Nat.zero_le _⟩ dX6_share_1 (fun H locs hI => ?_)
  refine lv_topi (fun z1 ez1 => ?_)
  obtain rfl : 1 = z1 := (ez1.trans (bI_t h1)).symm
  refine lv_if_eq (tgt := 23) hx hb dX6_share_4 (by decide) (fun q => absurd q (by decide)) (fun _ => ?_)
  refine lv_iload_n hx hb dX6_share_7 rfl (lv_at hl 2 rfl) ?_
  refine x_callSi hE hK hI (c_X6_isSize l G o _ _ v ) mf_X6_isSize mw_506 rfl hl.1 rfl (Nat.le_of_ble_eq_true rfl) ⟨(Nat.le_of_ble_eq_true rfl), (Nat.le_of_ble_eq_true rfl)⟩ ⟨Nat.zero_le _, Nat.zero_le _⟩ dX6_share_8 (fun H locs hI => ?_)
  refine lv_topi (fun z2 ez2 => ?_)
  obtain rfl : 0 = z2 := (ez2.trans (bI_f h)).symm
  refine lv_if_eq (tgt := 23) hx hb dX6_share_11 (by decide) (fun _ => ?_) (fun q => absurd (by decide) q)
  refine lv_iconst (v := (-1)) hx hb dX6_share_23 (by decide) ?_
  exact x_iret hE hr hlocks hI rfl rfl rfl dX6_share_24
set_option maxRecDepth 100000 in
set_option maxHeartbeats 4000000 in
theorem c_X6_share_y (l : Launch) (G : GG) (o : Nat) (X : SX) (Y : SY) (i : Nat) (j : Nat) (h1 : i < 4) (h2 : j < 4) (h3 : Wi (nI i) 0 3) (h4 : Wi (nI j) 0 3) : Ct l yX6_share cX6_share 3 (some .int) 2 42 G o [.ref (o + 285), .int (nI i), .int (nI j)] X Y (some (.int (X 286 ((0 + (4 * i)) + j)))) X Y := by
  refine Ct.mk (by decide +kernel) (Nat.le_of_ble_eq_true rfl) rfl ?_
  intro p9 e9 s9 m9 args9 below9 meth9 c9 hE hr hlocks hK hI ls hl
  have hx := hE.1
  have hb := hE.2.1
  have hl : lv_has ls 3 [(0, .ref (o + 285)), (1, .int (nI i)), (2, .int (nI j))] := hl
  refine lv_iload_n hx hb dX6_share_0 rfl (lv_at hl 1 rfl) ?_
  refine x_callSi hE hK hI (c_X6_isSize l G o _ _ (nI i) ) mf_X6_isSize mw_506 rfl hl.1 rfl (Nat.le_of_ble_eq_true rfl) ⟨(Nat.le_of_ble_eq_true rfl), (Nat.le_of_ble_eq_true rfl)⟩ ⟨Nat.zero_le _, Nat.zero_le _⟩ dX6_share_1 (fun H locs hI => ?_)
  refine lv_topi (fun z1 ez1 => ?_)
  obtain rfl : 1 = z1 := (ez1.trans (bI_t h3)).symm
  refine lv_if_eq (tgt := 23) hx hb dX6_share_4 (by decide) (fun q => absurd q (by decide)) (fun _ => ?_)
  refine lv_iload_n hx hb dX6_share_7 rfl (lv_at hl 2 rfl) ?_
  refine x_callSi hE hK hI (c_X6_isSize l G o _ _ (nI j) ) mf_X6_isSize mw_506 rfl hl.1 rfl (Nat.le_of_ble_eq_true rfl) ⟨(Nat.le_of_ble_eq_true rfl), (Nat.le_of_ble_eq_true rfl)⟩ ⟨Nat.zero_le _, Nat.zero_le _⟩ dX6_share_8 (fun H locs hI => ?_)
  refine lv_topi (fun z2 ez2 => ?_)
  obtain rfl : 1 = z2 := (ez2.trans (bI_t h4)).symm
  refine lv_if_eq (tgt := 23) hx hb dX6_share_11 (by decide) (fun q => absurd q (by decide)) (fun _ => ?_)
  refine lv_aload_n hx hb dX6_share_14 rfl (lv_at hl 0 rfl) ?_
  refine lv_iload_n hx hb dX6_share_15 rfl (lv_at hl 1 rfl) ?_
  refine lv_iload_n hx hb dX6_share_16 rfl (lv_at hl 2 rfl) ?_
  refine x_callVi (k := 285) hE hK hI (c_X6_shareOf l G o _ _ i j h1 h2) mf_X6_shareOf mw_516 (by decide) ((e_285 G o) _ _) rfl rfl hl.1 rfl (Nat.le_of_ble_eq_true rfl) ⟨(Nat.le_of_ble_eq_true rfl), (Nat.le_of_ble_eq_true rfl)⟩ ⟨Nat.zero_le _, Nat.zero_le _⟩ dX6_share_17 (fun H locs hI => ?_)
  refine lv_goto (tgt := 24) hx hb dX6_share_20 (by decide) ?_
  exact x_iret hE hr hlocks hI rfl rfl rfl dX6_share_24
set_option maxRecDepth 100000 in
set_option maxHeartbeats 4000000 in
theorem c_X6_setReturn_a (l : Launch) (G : GG) (o : Nat) (X : SX) (Y : SY) (u : Int32) (v : Int32) (h : ¬ (Wi u 0 3)) : Ct l yX6_setReturn cX6_setReturn 3 (some .int) 2 42 G o [.ref (o + 285), .int u, .int v] X Y (some (.int (-1))) X Y := by
  refine Ct.mk (by decide +kernel) (Nat.le_of_ble_eq_true rfl) rfl ?_
  intro p9 e9 s9 m9 args9 below9 meth9 c9 hE hr hlocks hK hI ls hl
  have hx := hE.1
  have hb := hE.2.1
  have hl : lv_has ls 3 [(0, .ref (o + 285)), (1, .int u), (2, .int v)] := hl
  refine lv_iload_n hx hb dX6_setReturn_0 rfl (lv_at hl 1 rfl) ?_
  refine x_callSi hE hK hI (c_X6_isSize l G o _ _ u ) mf_X6_isSize mw_506 rfl hl.1 rfl (Nat.le_of_ble_eq_true rfl) ⟨(Nat.le_of_ble_eq_true rfl), (Nat.le_of_ble_eq_true rfl)⟩ ⟨Nat.zero_le _, Nat.zero_le _⟩ dX6_setReturn_1 (fun H locs hI => ?_)
  refine lv_topi (fun z1 ez1 => ?_)
  obtain rfl : 0 = z1 := (ez1.trans (bI_f h)).symm
  refine lv_if_ne (tgt := 9) hx hb dX6_setReturn_4 (by decide) (fun q => absurd (by decide) q) (fun _ => ?_)
  refine lv_iconst (v := (-1)) hx hb dX6_setReturn_7 (by decide) ?_
  exact x_iret hE hr hlocks hI rfl rfl rfl dX6_setReturn_8
set_option maxRecDepth 100000 in
set_option maxHeartbeats 4000000 in
theorem c_X6_setReturn_b (l : Launch) (G : GG) (o : Nat) (X : SX) (Y : SY) (u : Int32) (v : Int32) (h1 : Wi u 0 3) (h : ¬ (Wi v 0 10)) : Ct l yX6_setReturn cX6_setReturn 3 (some .int) 2 42 G o [.ref (o + 285), .int u, .int v] X Y (some (.int (-3))) X Y := by
  refine Ct.mk (by decide +kernel) (Nat.le_of_ble_eq_true rfl) rfl ?_
  intro p9 e9 s9 m9 args9 below9 meth9 c9 hE hr hlocks hK hI ls hl
  have hx := hE.1
  have hb := hE.2.1
  have hl : lv_has ls 3 [(0, .ref (o + 285)), (1, .int u), (2, .int v)] := hl
  refine lv_iload_n hx hb dX6_setReturn_0 rfl (lv_at hl 1 rfl) ?_
  refine x_callSi hE hK hI (c_X6_isSize l G o _ _ u ) mf_X6_isSize mw_506 rfl hl.1 rfl (Nat.le_of_ble_eq_true rfl) ⟨(Nat.le_of_ble_eq_true rfl), (Nat.le_of_ble_eq_true rfl)⟩ ⟨Nat.zero_le _, Nat.zero_le _⟩ dX6_setReturn_1 (fun H locs hI => ?_)
  refine lv_topi (fun z1 ez1 => ?_)
  obtain rfl : 1 = z1 := (ez1.trans (bI_t h1)).symm
  refine lv_if_ne (tgt := 9) hx hb dX6_setReturn_4 (by decide) (fun _ => ?_) (fun q => absurd q (by decide))
  refine lv_iload_n hx hb dX6_setReturn_9 rfl (lv_at hl 2 rfl) ?_
  refine lv_iconst (v := 0) hx hb dX6_setReturn_10 (by decide) ?_
  refine lv_bipush (v := 10) hx hb dX6_setReturn_11 (by decide) ?_
  refine x_callSi hE hK hI (c_X6_in l G o _ _ v 0 10 ) mf_X6_in mw_509 rfl hl.1 rfl (Nat.le_of_ble_eq_true rfl) ⟨(Nat.le_of_ble_eq_true rfl), (Nat.le_of_ble_eq_true rfl)⟩ ⟨Nat.zero_le _, Nat.zero_le _⟩ dX6_setReturn_13 (fun H locs hI => ?_)
  refine lv_topi (fun z2 ez2 => ?_)
  obtain rfl : 0 = z2 := (ez2.trans (bI_f h)).symm
  refine lv_if_eq (tgt := 31) hx hb dX6_setReturn_16 (by decide) (fun _ => ?_) (fun q => absurd (by decide) q)
  refine lv_bipush (v := (-3)) hx hb dX6_setReturn_31 (by decide) ?_
  exact x_iret hE hr hlocks hI rfl rfl rfl dX6_setReturn_33
set_option maxRecDepth 100000 in
set_option maxHeartbeats 4000000 in
theorem c_X6_setReturn_c (l : Launch) (G : GG) (o : Nat) (X : SX) (Y : SY) (t : Nat) (v : Int32) (h0 : t < 4) (h1 : Wi (nI t) 0 3) (h : Wi v 0 10) : Ct l yX6_setReturn cX6_setReturn 3 (some .int) 2 42 G o [.ref (o + 285), .int (nI t), .int v] X Y (some (.int (X 286 (16 + t)))) (sx X 286 (16 + t) v) Y := by
  refine Ct.mk (by decide +kernel) (Nat.le_of_ble_eq_true rfl) rfl ?_
  intro p9 e9 s9 m9 args9 below9 meth9 c9 hE hr hlocks hK hI ls hl
  have hx := hE.1
  have hb := hE.2.1
  have hl : lv_has ls 3 [(0, .ref (o + 285)), (1, .int (nI t)), (2, .int v)] := hl
  refine lv_iload_n hx hb dX6_setReturn_0 rfl (lv_at hl 1 rfl) ?_
  refine x_callSi hE hK hI (c_X6_isSize l G o _ _ (nI t) ) mf_X6_isSize mw_506 rfl hl.1 rfl (Nat.le_of_ble_eq_true rfl) ⟨(Nat.le_of_ble_eq_true rfl), (Nat.le_of_ble_eq_true rfl)⟩ ⟨Nat.zero_le _, Nat.zero_le _⟩ dX6_setReturn_1 (fun H locs hI => ?_)
  refine lv_topi (fun z1 ez1 => ?_)
  obtain rfl : 1 = z1 := (ez1.trans (bI_t h1)).symm
  refine lv_if_ne (tgt := 9) hx hb dX6_setReturn_4 (by decide) (fun _ => ?_) (fun q => absurd q (by decide))
  refine lv_iload_n hx hb dX6_setReturn_9 rfl (lv_at hl 2 rfl) ?_
  refine lv_iconst (v := 0) hx hb dX6_setReturn_10 (by decide) ?_
  refine lv_bipush (v := 10) hx hb dX6_setReturn_11 (by decide) ?_
  refine x_callSi hE hK hI (c_X6_in l G o _ _ v 0 10 ) mf_X6_in mw_509 rfl hl.1 rfl (Nat.le_of_ble_eq_true rfl) ⟨(Nat.le_of_ble_eq_true rfl), (Nat.le_of_ble_eq_true rfl)⟩ ⟨Nat.zero_le _, Nat.zero_le _⟩ dX6_setReturn_13 (fun H locs hI => ?_)
  refine lv_topi (fun z2 ez2 => ?_)
  obtain rfl : 1 = z2 := (ez2.trans (bI_t h)).symm
  refine lv_if_eq (tgt := 31) hx hb dX6_setReturn_16 (by decide) (fun q => absurd q (by decide)) (fun _ => ?_)
  refine lv_aload_n hx hb dX6_setReturn_19 rfl (lv_at hl 0 rfl) ?_
  refine lv_bipush (v := 16) hx hb dX6_setReturn_20 (by decide) ?_
  refine lv_iload_n hx hb dX6_setReturn_22 rfl (lv_at hl 1 rfl) ?_
  refine lv_iadd hx hb dX6_setReturn_23 ?_
  refine lv_topi (fun z3 ez3 => ?_)
  obtain rfl : nI (16 + t) = z3 := (ez3.trans (nI_add 16 t)).symm
  refine lv_iload_n hx hb dX6_setReturn_24 rfl (lv_at hl 2 rfl) ?_
  refine x_callVi (k := 285) hE hK hI (c_X6_set l G o _ _ (16 + t) v (by omega)) mf_X6_set mw_524 (by decide) ((e_285 G o) _ _) rfl rfl hl.1 rfl (Nat.le_of_ble_eq_true rfl) ⟨(Nat.le_of_ble_eq_true rfl), (Nat.le_of_ble_eq_true rfl)⟩ ⟨Nat.zero_le _, Nat.zero_le _⟩ dX6_setReturn_25 (fun H locs hI => ?_)
  refine lv_goto (tgt := 33) hx hb dX6_setReturn_28 (by decide) ?_
  exact x_iret hE hr hlocks hI rfl rfl rfl dX6_setReturn_33
set_option maxRecDepth 100000 in
set_option maxHeartbeats 4000000 in
theorem c_X6_setWork_a (l : Launch) (G : GG) (o : Nat) (X : SX) (Y : SY) (u : Int32) (v : Int32) (h : ¬ (Wi u 0 3)) : Ct l yX6_setWork cX6_setWork 3 (some .int) 2 42 G o [.ref (o + 285), .int u, .int v] X Y (some (.int (-1))) X Y := by
  refine Ct.mk (by decide +kernel) (Nat.le_of_ble_eq_true rfl) rfl ?_
  intro p9 e9 s9 m9 args9 below9 meth9 c9 hE hr hlocks hK hI ls hl
  have hx := hE.1
  have hb := hE.2.1
  have hl : lv_has ls 3 [(0, .ref (o + 285)), (1, .int u), (2, .int v)] := hl
  refine lv_iload_n hx hb dX6_setWork_0 rfl (lv_at hl 1 rfl) ?_
  refine x_callSi hE hK hI (c_X6_isSize l G o _ _ u ) mf_X6_isSize mw_506 rfl hl.1 rfl (Nat.le_of_ble_eq_true rfl) ⟨(Nat.le_of_ble_eq_true rfl), (Nat.le_of_ble_eq_true rfl)⟩ ⟨Nat.zero_le _, Nat.zero_le _⟩ dX6_setWork_1 (fun H locs hI => ?_)
  refine lv_topi (fun z1 ez1 => ?_)
  obtain rfl : 0 = z1 := (ez1.trans (bI_f h)).symm
  refine lv_if_ne (tgt := 9) hx hb dX6_setWork_4 (by decide) (fun q => absurd (by decide) q) (fun _ => ?_)
  refine lv_iconst (v := (-1)) hx hb dX6_setWork_7 (by decide) ?_
  exact x_iret hE hr hlocks hI rfl rfl rfl dX6_setWork_8
set_option maxRecDepth 100000 in
set_option maxHeartbeats 4000000 in
theorem c_X6_setWork_b (l : Launch) (G : GG) (o : Nat) (X : SX) (Y : SY) (u : Int32) (v : Int32) (h1 : Wi u 0 3) (h : ¬ (Wi v 0 100)) : Ct l yX6_setWork cX6_setWork 3 (some .int) 2 42 G o [.ref (o + 285), .int u, .int v] X Y (some (.int (-3))) X Y := by
  refine Ct.mk (by decide +kernel) (Nat.le_of_ble_eq_true rfl) rfl ?_
  intro p9 e9 s9 m9 args9 below9 meth9 c9 hE hr hlocks hK hI ls hl
  have hx := hE.1
  have hb := hE.2.1
  have hl : lv_has ls 3 [(0, .ref (o + 285)), (1, .int u), (2, .int v)] := hl
  refine lv_iload_n hx hb dX6_setWork_0 rfl (lv_at hl 1 rfl) ?_
  refine x_callSi hE hK hI (c_X6_isSize l G o _ _ u ) mf_X6_isSize mw_506 rfl hl.1 rfl (Nat.le_of_ble_eq_true rfl) ⟨(Nat.le_of_ble_eq_true rfl), (Nat.le_of_ble_eq_true rfl)⟩ ⟨Nat.zero_le _, Nat.zero_le _⟩ dX6_setWork_1 (fun H locs hI => ?_)
  refine lv_topi (fun z1 ez1 => ?_)
  obtain rfl : 1 = z1 := (ez1.trans (bI_t h1)).symm
  refine lv_if_ne (tgt := 9) hx hb dX6_setWork_4 (by decide) (fun _ => ?_) (fun q => absurd q (by decide))
  refine lv_iload_n hx hb dX6_setWork_9 rfl (lv_at hl 2 rfl) ?_
  refine lv_iconst (v := 0) hx hb dX6_setWork_10 (by decide) ?_
  refine lv_bipush (v := 100) hx hb dX6_setWork_11 (by decide) ?_
  refine x_callSi hE hK hI (c_X6_in l G o _ _ v 0 100 ) mf_X6_in mw_509 rfl hl.1 rfl (Nat.le_of_ble_eq_true rfl) ⟨(Nat.le_of_ble_eq_true rfl), (Nat.le_of_ble_eq_true rfl)⟩ ⟨Nat.zero_le _, Nat.zero_le _⟩ dX6_setWork_13 (fun H locs hI => ?_)
  refine lv_topi (fun z2 ez2 => ?_)
  obtain rfl : 0 = z2 := (ez2.trans (bI_f h)).symm
  refine lv_if_eq (tgt := 31) hx hb dX6_setWork_16 (by decide) (fun _ => ?_) (fun q => absurd (by decide) q)
  refine lv_bipush (v := (-3)) hx hb dX6_setWork_31 (by decide) ?_
  exact x_iret hE hr hlocks hI rfl rfl rfl dX6_setWork_33
set_option maxRecDepth 100000 in
set_option maxHeartbeats 4000000 in
theorem c_X6_setWork_c (l : Launch) (G : GG) (o : Nat) (X : SX) (Y : SY) (t : Nat) (v : Int32) (h0 : t < 4) (h1 : Wi (nI t) 0 3) (h : Wi v 0 100) : Ct l yX6_setWork cX6_setWork 3 (some .int) 2 42 G o [.ref (o + 285), .int (nI t), .int v] X Y (some (.int (X 286 (20 + t)))) (sx X 286 (20 + t) v) Y := by
  refine Ct.mk (by decide +kernel) (Nat.le_of_ble_eq_true rfl) rfl ?_
  intro p9 e9 s9 m9 args9 below9 meth9 c9 hE hr hlocks hK hI ls hl
  have hx := hE.1
  have hb := hE.2.1
  have hl : lv_has ls 3 [(0, .ref (o + 285)), (1, .int (nI t)), (2, .int v)] := hl
  refine lv_iload_n hx hb dX6_setWork_0 rfl (lv_at hl 1 rfl) ?_
  refine x_callSi hE hK hI (c_X6_isSize l G o _ _ (nI t) ) mf_X6_isSize mw_506 rfl hl.1 rfl (Nat.le_of_ble_eq_true rfl) ⟨(Nat.le_of_ble_eq_true rfl), (Nat.le_of_ble_eq_true rfl)⟩ ⟨Nat.zero_le _, Nat.zero_le _⟩ dX6_setWork_1 (fun H locs hI => ?_)
  refine lv_topi (fun z1 ez1 => ?_)
  obtain rfl : 1 = z1 := (ez1.trans (bI_t h1)).symm
  refine lv_if_ne (tgt := 9) hx hb dX6_setWork_4 (by decide) (fun _ => ?_) (fun q => absurd q (by decide))
  refine lv_iload_n hx hb dX6_setWork_9 rfl (lv_at hl 2 rfl) ?_
  refine lv_iconst (v := 0) hx hb dX6_setWork_10 (by decide) ?_
  refine lv_bipush (v := 100) hx hb dX6_setWork_11 (by decide) ?_
  refine x_callSi hE hK hI (c_X6_in l G o _ _ v 0 100 ) mf_X6_in mw_509 rfl hl.1 rfl (Nat.le_of_ble_eq_true rfl) ⟨(Nat.le_of_ble_eq_true rfl), (Nat.le_of_ble_eq_true rfl)⟩ ⟨Nat.zero_le _, Nat.zero_le _⟩ dX6_setWork_13 (fun H locs hI => ?_)
  refine lv_topi (fun z2 ez2 => ?_)
  obtain rfl : 1 = z2 := (ez2.trans (bI_t h)).symm
  refine lv_if_eq (tgt := 31) hx hb dX6_setWork_16 (by decide) (fun q => absurd q (by decide)) (fun _ => ?_)
  refine lv_aload_n hx hb dX6_setWork_19 rfl (lv_at hl 0 rfl) ?_
  refine lv_bipush (v := 20) hx hb dX6_setWork_20 (by decide) ?_
  refine lv_iload_n hx hb dX6_setWork_22 rfl (lv_at hl 1 rfl) ?_
  refine lv_iadd hx hb dX6_setWork_23 ?_
  refine lv_topi (fun z3 ez3 => ?_)
  obtain rfl : nI (20 + t) = z3 := (ez3.trans (nI_add 20 t)).symm
  refine lv_iload_n hx hb dX6_setWork_24 rfl (lv_at hl 2 rfl) ?_
  refine x_callVi (k := 285) hE hK hI (c_X6_set l G o _ _ (20 + t) v (by omega)) mf_X6_set mw_524 (by decide) ((e_285 G o) _ _) rfl rfl hl.1 rfl (Nat.le_of_ble_eq_true rfl) ⟨(Nat.le_of_ble_eq_true rfl), (Nat.le_of_ble_eq_true rfl)⟩ ⟨Nat.zero_le _, Nat.zero_le _⟩ dX6_setWork_25 (fun H locs hI => ?_)
  refine lv_goto (tgt := 33) hx hb dX6_setWork_28 (by decide) ?_
  exact x_iret hE hr hlocks hI rfl rfl rfl dX6_setWork_33
set_option maxRecDepth 100000 in
set_option maxHeartbeats 4000000 in
theorem c_X6_setFeed_a (l : Launch) (G : GG) (o : Nat) (X : SX) (Y : SY) (u : Int32) (v : Int32) (h : ¬ (Wi u 0 3)) : Ct l yX6_setFeed cX6_setFeed 3 (some .int) 2 42 G o [.ref (o + 285), .int u, .int v] X Y (some (.int (-1))) X Y := by
  refine Ct.mk (by decide +kernel) (Nat.le_of_ble_eq_true rfl) rfl ?_
  intro p9 e9 s9 m9 args9 below9 meth9 c9 hE hr hlocks hK hI ls hl
  have hx := hE.1
  have hb := hE.2.1
  have hl : lv_has ls 3 [(0, .ref (o + 285)), (1, .int u), (2, .int v)] := hl
  refine lv_iload_n hx hb dX6_setFeed_0 rfl (lv_at hl 1 rfl) ?_
  refine x_callSi hE hK hI (c_X6_isSize l G o _ _ u ) mf_X6_isSize mw_506 rfl hl.1 rfl (Nat.le_of_ble_eq_true rfl) ⟨(Nat.le_of_ble_eq_true rfl), (Nat.le_of_ble_eq_true rfl)⟩ ⟨Nat.zero_le _, Nat.zero_le _⟩ dX6_setFeed_1 (fun H locs hI => ?_)
  refine lv_topi (fun z1 ez1 => ?_)
  obtain rfl : 0 = z1 := (ez1.trans (bI_f h)).symm
  refine lv_if_ne (tgt := 9) hx hb dX6_setFeed_4 (by decide) (fun q => absurd (by decide) q) (fun _ => ?_)
  refine lv_iconst (v := (-1)) hx hb dX6_setFeed_7 (by decide) ?_
  exact x_iret hE hr hlocks hI rfl rfl rfl dX6_setFeed_8
set_option maxRecDepth 100000 in
set_option maxHeartbeats 4000000 in
theorem c_X6_setFeed_b (l : Launch) (G : GG) (o : Nat) (X : SX) (Y : SY) (u : Int32) (v : Int32) (h1 : Wi u 0 3) (h : ¬ (Wi v 0 1000)) : Ct l yX6_setFeed cX6_setFeed 3 (some .int) 2 42 G o [.ref (o + 285), .int u, .int v] X Y (some (.int (-3))) X Y := by
  refine Ct.mk (by decide +kernel) (Nat.le_of_ble_eq_true rfl) rfl ?_
  intro p9 e9 s9 m9 args9 below9 meth9 c9 hE hr hlocks hK hI ls hl
  have hx := hE.1
  have hb := hE.2.1
  have hl : lv_has ls 3 [(0, .ref (o + 285)), (1, .int u), (2, .int v)] := hl
  refine lv_iload_n hx hb dX6_setFeed_0 rfl (lv_at hl 1 rfl) ?_
  refine x_callSi hE hK hI (c_X6_isSize l G o _ _ u ) mf_X6_isSize mw_506 rfl hl.1 rfl (Nat.le_of_ble_eq_true rfl) ⟨(Nat.le_of_ble_eq_true rfl), (Nat.le_of_ble_eq_true rfl)⟩ ⟨Nat.zero_le _, Nat.zero_le _⟩ dX6_setFeed_1 (fun H locs hI => ?_)
  refine lv_topi (fun z1 ez1 => ?_)
  obtain rfl : 1 = z1 := (ez1.trans (bI_t h1)).symm
  refine lv_if_ne (tgt := 9) hx hb dX6_setFeed_4 (by decide) (fun _ => ?_) (fun q => absurd q (by decide))
  refine lv_iload_n hx hb dX6_setFeed_9 rfl (lv_at hl 2 rfl) ?_
  refine lv_iconst (v := 0) hx hb dX6_setFeed_10 (by decide) ?_
  refine lv_sipush (v := 1000) hx hb dX6_setFeed_11 (by decide) ?_
  refine x_callSi hE hK hI (c_X6_in l G o _ _ v 0 1000 ) mf_X6_in mw_509 rfl hl.1 rfl (Nat.le_of_ble_eq_true rfl) ⟨(Nat.le_of_ble_eq_true rfl), (Nat.le_of_ble_eq_true rfl)⟩ ⟨Nat.zero_le _, Nat.zero_le _⟩ dX6_setFeed_14 (fun H locs hI => ?_)
  refine lv_topi (fun z2 ez2 => ?_)
  obtain rfl : 0 = z2 := (ez2.trans (bI_f h)).symm
  refine lv_if_eq (tgt := 32) hx hb dX6_setFeed_17 (by decide) (fun _ => ?_) (fun q => absurd (by decide) q)
  refine lv_bipush (v := (-3)) hx hb dX6_setFeed_32 (by decide) ?_
  exact x_iret hE hr hlocks hI rfl rfl rfl dX6_setFeed_34
set_option maxRecDepth 100000 in
set_option maxHeartbeats 4000000 in
theorem c_X6_setFeed_c (l : Launch) (G : GG) (o : Nat) (X : SX) (Y : SY) (t : Nat) (v : Int32) (h0 : t < 4) (h1 : Wi (nI t) 0 3) (h : Wi v 0 1000) : Ct l yX6_setFeed cX6_setFeed 3 (some .int) 2 42 G o [.ref (o + 285), .int (nI t), .int v] X Y (some (.int (X 286 (24 + t)))) (sx X 286 (24 + t) v) Y := by
  refine Ct.mk (by decide +kernel) (Nat.le_of_ble_eq_true rfl) rfl ?_
  intro p9 e9 s9 m9 args9 below9 meth9 c9 hE hr hlocks hK hI ls hl
  have hx := hE.1
  have hb := hE.2.1
  have hl : lv_has ls 3 [(0, .ref (o + 285)), (1, .int (nI t)), (2, .int v)] := hl
  refine lv_iload_n hx hb dX6_setFeed_0 rfl (lv_at hl 1 rfl) ?_
  refine x_callSi hE hK hI (c_X6_isSize l G o _ _ (nI t) ) mf_X6_isSize mw_506 rfl hl.1 rfl (Nat.le_of_ble_eq_true rfl) ⟨(Nat.le_of_ble_eq_true rfl), (Nat.le_of_ble_eq_true rfl)⟩ ⟨Nat.zero_le _, Nat.zero_le _⟩ dX6_setFeed_1 (fun H locs hI => ?_)
  refine lv_topi (fun z1 ez1 => ?_)
  obtain rfl : 1 = z1 := (ez1.trans (bI_t h1)).symm
  refine lv_if_ne (tgt := 9) hx hb dX6_setFeed_4 (by decide) (fun _ => ?_) (fun q => absurd q (by decide))
  refine lv_iload_n hx hb dX6_setFeed_9 rfl (lv_at hl 2 rfl) ?_
  refine lv_iconst (v := 0) hx hb dX6_setFeed_10 (by decide) ?_
  refine lv_sipush (v := 1000) hx hb dX6_setFeed_11 (by decide) ?_
  refine x_callSi hE hK hI (c_X6_in l G o _ _ v 0 1000 ) mf_X6_in mw_509 rfl hl.1 rfl (Nat.le_of_ble_eq_true rfl) ⟨(Nat.le_of_ble_eq_true rfl), (Nat.le_of_ble_eq_true rfl)⟩ ⟨Nat.zero_le _, Nat.zero_le _⟩ dX6_setFeed_14 (fun H locs hI => ?_)
  refine lv_topi (fun z2 ez2 => ?_)
  obtain rfl : 1 = z2 := (ez2.trans (bI_t h)).symm
  refine lv_if_eq (tgt := 32) hx hb dX6_setFeed_17 (by decide) (fun q => absurd q (by decide)) (fun _ => ?_)
  refine lv_aload_n hx hb dX6_setFeed_20 rfl (lv_at hl 0 rfl) ?_
  refine lv_bipush (v := 24) hx hb dX6_setFeed_21 (by decide) ?_
  refine lv_iload_n hx hb dX6_setFeed_23 rfl (lv_at hl 1 rfl) ?_
  refine lv_iadd hx hb dX6_setFeed_24 ?_
  refine lv_topi (fun z3 ez3 => ?_)
  obtain rfl : nI (24 + t) = z3 := (ez3.trans (nI_add 24 t)).symm
  refine lv_iload_n hx hb dX6_setFeed_25 rfl (lv_at hl 2 rfl) ?_
  refine x_callVi (k := 285) hE hK hI (c_X6_set l G o _ _ (24 + t) v (by omega)) mf_X6_set mw_524 (by decide) ((e_285 G o) _ _) rfl rfl hl.1 rfl (Nat.le_of_ble_eq_true rfl) ⟨(Nat.le_of_ble_eq_true rfl), (Nat.le_of_ble_eq_true rfl)⟩ ⟨Nat.zero_le _, Nat.zero_le _⟩ dX6_setFeed_26 (fun H locs hI => ?_)
  refine lv_goto (tgt := 34) hx hb dX6_setFeed_29 (by decide) ?_
  exact x_iret hE hr hlocks hI rfl rfl rfl dX6_setFeed_34
def asX (X : SX) : SX := sx (sx (sx (sx X 289 0 (X 286 16)) 289 1 (X 286 17)) 289 2 (X 286 18)) 289 3 (X 286 19)
set_option maxRecDepth 100000 in
set_option maxHeartbeats 4000000 in
theorem c_X6_asSet (l : Launch) (G : GG) (o : Nat) (X : SX) (Y : SY) : Ct l yX6_asSet cX6_asSet 2 none 0 0 G o [.ref (o + 285)] X Y none (asX X) Y := by
  refine Ct.mk (by decide +kernel) (Nat.le_of_ble_eq_true rfl) rfl ?_
  intro p9 e9 s9 m9 args9 below9 meth9 c9 hE hr hlocks hK hI ls hl
  have hx := hE.1
  have hb := hE.2.1
  have hl : lv_has ls 2 [(0, .ref (o + 285))] := hl
  refine lv_iconst (v := 0) hx hb dX6_asSet_0 (by decide) ?_
  refine lv_istore_n (lv' := [(1, .int 0), (0, .ref (o + 285))]) hx hb dX6_asSet_1 rfl hl (by decide) rfl (fun ls hl => ?_)
  refine lv_iload_n hx hb dX6_asSet_2 rfl (lv_at hl 0 rfl) ?_
  refine lv_iconst (v := 4) hx hb dX6_asSet_3 (by decide) ?_
  refine lv_icmp_ge (tgt := 28) hx hb dX6_asSet_4 (by decide) (fun q => absurd q (by decide)) (fun _ => ?_)
  refine lv_aload_n hx hb dX6_asSet_7 rfl (lv_at hl 1 rfl) ?_
  refine x_get (k := 285) hE hK hI (by decide) inG6 (e_285 G o _ _) rfl 3 (by decide) mw_483 rfl dX6_asSet_8 ?_
  refine lv_iload_n hx hb dX6_asSet_11 rfl (lv_at hl 0 rfl) ?_
  refine lv_aload_n hx hb dX6_asSet_12 rfl (lv_at hl 1 rfl) ?_
  refine x_get (k := 285) hE hK hI (by decide) inG6 (e_285 G o _ _) rfl 0 (by decide) mw_480 rfl dX6_asSet_13 ?_
  refine lv_bipush (v := 16) hx hb dX6_asSet_16 (by decide) ?_
  refine lv_iload_n hx hb dX6_asSet_18 rfl (lv_at hl 0 rfl) ?_
  refine lv_iadd hx hb dX6_asSet_19 ?_
  refine lv_topi (fun z1 ez1 => ?_)
  obtain rfl : 16 = z1 := (ez1.trans (by decide)).symm
  refine x_iald (k := 286) (j := 16) hE hK hI (by decide) (e_286 G o) (by decide) (by decide) rfl dX6_asSet_20 ?_
  refine x_iast (k := 289) (j := 0) hE hK hI (by decide) (e_289 G o) (by decide) (by decide) rfl dX6_asSet_21 (fun H locs hI => ?_)
  refine lv_iinc (v := 1) (lv' := [(1, .int 1), (0, .ref (o + 285))]) hx hb dX6_asSet_22 hl (k := 0) rfl (by decide) (by decide) rfl (fun ls hl => ?_)
  refine lv_goto (tgt := 2) hx hb dX6_asSet_25 (by decide) ?_
  refine lv_iload_n hx hb dX6_asSet_2 rfl (lv_at hl 0 rfl) ?_
  refine lv_iconst (v := 4) hx hb dX6_asSet_3 (by decide) ?_
  refine lv_icmp_ge (tgt := 28) hx hb dX6_asSet_4 (by decide) (fun q => absurd q (by decide)) (fun _ => ?_)
  refine lv_aload_n hx hb dX6_asSet_7 rfl (lv_at hl 1 rfl) ?_
  refine x_get (k := 285) hE hK hI (by decide) inG6 (e_285 G o _ _) rfl 3 (by decide) mw_483 rfl dX6_asSet_8 ?_
  refine lv_iload_n hx hb dX6_asSet_11 rfl (lv_at hl 0 rfl) ?_
  refine lv_aload_n hx hb dX6_asSet_12 rfl (lv_at hl 1 rfl) ?_
  refine x_get (k := 285) hE hK hI (by decide) inG6 (e_285 G o _ _) rfl 0 (by decide) mw_480 rfl dX6_asSet_13 ?_
  refine lv_bipush (v := 16) hx hb dX6_asSet_16 (by decide) ?_
  refine lv_iload_n hx hb dX6_asSet_18 rfl (lv_at hl 0 rfl) ?_
  refine lv_iadd hx hb dX6_asSet_19 ?_
  refine lv_topi (fun z2 ez2 => ?_)
  obtain rfl : 17 = z2 := (ez2.trans (by decide)).symm
  refine x_iald (k := 286) (j := 17) hE hK hI (by decide) (e_286 G o) (by decide) (by decide) rfl dX6_asSet_20 ?_
  refine lv_topi (fun z3 ez3 => ?_)
  obtain rfl : X 286 17 = z3 := (ez3.trans ((sx_o (by decide)))).symm
  refine x_iast (k := 289) (j := 1) hE hK hI (by decide) (e_289 G o) (by decide) (by decide) rfl dX6_asSet_21 (fun H locs hI => ?_)
  refine lv_iinc (v := 2) (lv' := [(1, .int 2), (0, .ref (o + 285))]) hx hb dX6_asSet_22 hl (k := 0) rfl (by decide) (by decide) rfl (fun ls hl => ?_)
  refine lv_goto (tgt := 2) hx hb dX6_asSet_25 (by decide) ?_
  refine lv_iload_n hx hb dX6_asSet_2 rfl (lv_at hl 0 rfl) ?_
  refine lv_iconst (v := 4) hx hb dX6_asSet_3 (by decide) ?_
  refine lv_icmp_ge (tgt := 28) hx hb dX6_asSet_4 (by decide) (fun q => absurd q (by decide)) (fun _ => ?_)
  refine lv_aload_n hx hb dX6_asSet_7 rfl (lv_at hl 1 rfl) ?_
  refine x_get (k := 285) hE hK hI (by decide) inG6 (e_285 G o _ _) rfl 3 (by decide) mw_483 rfl dX6_asSet_8 ?_
  refine lv_iload_n hx hb dX6_asSet_11 rfl (lv_at hl 0 rfl) ?_
  refine lv_aload_n hx hb dX6_asSet_12 rfl (lv_at hl 1 rfl) ?_
  refine x_get (k := 285) hE hK hI (by decide) inG6 (e_285 G o _ _) rfl 0 (by decide) mw_480 rfl dX6_asSet_13 ?_
  refine lv_bipush (v := 16) hx hb dX6_asSet_16 (by decide) ?_
  refine lv_iload_n hx hb dX6_asSet_18 rfl (lv_at hl 0 rfl) ?_
  refine lv_iadd hx hb dX6_asSet_19 ?_
  refine lv_topi (fun z4 ez4 => ?_)
  obtain rfl : 18 = z4 := (ez4.trans (by decide)).symm
  refine x_iald (k := 286) (j := 18) hE hK hI (by decide) (e_286 G o) (by decide) (by decide) rfl dX6_asSet_20 ?_
  refine lv_topi (fun z5 ez5 => ?_)
  obtain rfl : X 286 18 = z5 := (ez5.trans ((sx_o (by decide)).trans ((sx_o (by decide))))).symm
  refine x_iast (k := 289) (j := 2) hE hK hI (by decide) (e_289 G o) (by decide) (by decide) rfl dX6_asSet_21 (fun H locs hI => ?_)
  refine lv_iinc (v := 3) (lv' := [(1, .int 3), (0, .ref (o + 285))]) hx hb dX6_asSet_22 hl (k := 0) rfl (by decide) (by decide) rfl (fun ls hl => ?_)
  refine lv_goto (tgt := 2) hx hb dX6_asSet_25 (by decide) ?_
  refine lv_iload_n hx hb dX6_asSet_2 rfl (lv_at hl 0 rfl) ?_
  refine lv_iconst (v := 4) hx hb dX6_asSet_3 (by decide) ?_
  refine lv_icmp_ge (tgt := 28) hx hb dX6_asSet_4 (by decide) (fun q => absurd q (by decide)) (fun _ => ?_)
  refine lv_aload_n hx hb dX6_asSet_7 rfl (lv_at hl 1 rfl) ?_
  refine x_get (k := 285) hE hK hI (by decide) inG6 (e_285 G o _ _) rfl 3 (by decide) mw_483 rfl dX6_asSet_8 ?_
  refine lv_iload_n hx hb dX6_asSet_11 rfl (lv_at hl 0 rfl) ?_
  refine lv_aload_n hx hb dX6_asSet_12 rfl (lv_at hl 1 rfl) ?_
  refine x_get (k := 285) hE hK hI (by decide) inG6 (e_285 G o _ _) rfl 0 (by decide) mw_480 rfl dX6_asSet_13 ?_
  refine lv_bipush (v := 16) hx hb dX6_asSet_16 (by decide) ?_
  refine lv_iload_n hx hb dX6_asSet_18 rfl (lv_at hl 0 rfl) ?_
  refine lv_iadd hx hb dX6_asSet_19 ?_
  refine lv_topi (fun z6 ez6 => ?_)
  obtain rfl : 19 = z6 := (ez6.trans (by decide)).symm
  refine x_iald (k := 286) (j := 19) hE hK hI (by decide) (e_286 G o) (by decide) (by decide) rfl dX6_asSet_20 ?_
  refine lv_topi (fun z7 ez7 => ?_)
  obtain rfl : X 286 19 = z7 := (ez7.trans ((sx_o (by decide)).trans ((sx_o (by decide)).trans ((sx_o (by decide)))))).symm
  refine x_iast (k := 289) (j := 3) hE hK hI (by decide) (e_289 G o) (by decide) (by decide) rfl dX6_asSet_21 (fun H locs hI => ?_)
  refine lv_iinc (v := 4) (lv' := [(1, .int 4), (0, .ref (o + 285))]) hx hb dX6_asSet_22 hl (k := 0) rfl (by decide) (by decide) rfl (fun ls hl => ?_)
  refine lv_goto (tgt := 2) hx hb dX6_asSet_25 (by decide) ?_
  refine lv_iload_n hx hb dX6_asSet_2 rfl (lv_at hl 0 rfl) ?_
  refine lv_iconst (v := 4) hx hb dX6_asSet_3 (by decide) ?_
  refine lv_icmp_ge (tgt := 28) hx hb dX6_asSet_4 (by decide) (fun _ => ?_) (fun q => absurd (by decide) q)
  exact x_vret hE hr hlocks hI rfl rfl rfl dX6_asSet_28
def ac0X (X : SX) : SX := sx (sx (sx (sx X 289 0 0) 289 1 0) 289 2 0) 289 3 0
set_option maxRecDepth 100000 in
set_option maxHeartbeats 4000000 in
theorem c_X6_asCut_0 (l : Launch) (G : GG) (o : Nat) (X : SX) (Y : SY) : Ct l yX6_asCut cX6_asCut 3 none 0 0 G o [.ref (o + 285), .int 0] X Y none (ac0X X) Y := by
  refine Ct.mk (by decide +kernel) (Nat.le_of_ble_eq_true rfl) rfl ?_
  intro p9 e9 s9 m9 args9 below9 meth9 c9 hE hr hlocks hK hI ls hl
  have hx := hE.1
  have hb := hE.2.1
  have hl : lv_has ls 3 [(0, .ref (o + 285)), (1, .int 0)] := hl
  refine lv_iconst (v := 0) hx hb dX6_asCut_0 (by decide) ?_
  refine lv_istore_n (lv' := [(2, .int 0), (0, .ref (o + 285)), (1, .int 0)]) hx hb dX6_asCut_1 rfl hl (by decide) rfl (fun ls hl => ?_)
  refine lv_iload_n hx hb dX6_asCut_2 rfl (lv_at hl 0 rfl) ?_
  refine lv_iconst (v := 4) hx hb dX6_asCut_3 (by decide) ?_
  refine lv_icmp_ge (tgt := 30) hx hb dX6_asCut_4 (by decide) (fun q => absurd q (by decide)) (fun _ => ?_)
  refine lv_aload_n hx hb dX6_asCut_7 rfl (lv_at hl 1 rfl) ?_
  refine x_get (k := 285) hE hK hI (by decide) inG6 (e_285 G o _ _) rfl 3 (by decide) mw_483 rfl dX6_asCut_8 ?_
  refine lv_iload_n hx hb dX6_asCut_11 rfl (lv_at hl 0 rfl) ?_
  refine lv_iload_n hx hb dX6_asCut_12 rfl (lv_at hl 0 rfl) ?_
  refine lv_iload_n hx hb dX6_asCut_13 rfl (lv_at hl 2 rfl) ?_
  refine lv_icmp_ge (tgt := 22) hx hb dX6_asCut_14 (by decide) (fun _ => ?_) (fun q => absurd (by decide) q)
  refine lv_iconst (v := 0) hx hb dX6_asCut_22 (by decide) ?_
  refine x_iast (k := 289) (j := 0) hE hK hI (by decide) (e_289 G o) (by decide) (by decide) rfl dX6_asCut_23 (fun H locs hI => ?_)
  refine lv_iinc (v := 1) (lv' := [(2, .int 1), (0, .ref (o + 285)), (1, .int 0)]) hx hb dX6_asCut_24 hl (k := 0) rfl (by decide) (by decide) rfl (fun ls hl => ?_)
  refine lv_goto (tgt := 2) hx hb dX6_asCut_27 (by decide) ?_
  refine lv_iload_n hx hb dX6_asCut_2 rfl (lv_at hl 0 rfl) ?_
  refine lv_iconst (v := 4) hx hb dX6_asCut_3 (by decide) ?_
  refine lv_icmp_ge (tgt := 30) hx hb dX6_asCut_4 (by decide) (fun q => absurd q (by decide)) (fun _ => ?_)
  refine lv_aload_n hx hb dX6_asCut_7 rfl (lv_at hl 1 rfl) ?_
  refine x_get (k := 285) hE hK hI (by decide) inG6 (e_285 G o _ _) rfl 3 (by decide) mw_483 rfl dX6_asCut_8 ?_
  refine lv_iload_n hx hb dX6_asCut_11 rfl (lv_at hl 0 rfl) ?_
  refine lv_iload_n hx hb dX6_asCut_12 rfl (lv_at hl 0 rfl) ?_
  refine lv_iload_n hx hb dX6_asCut_13 rfl (lv_at hl 2 rfl) ?_
  refine lv_icmp_ge (tgt := 22) hx hb dX6_asCut_14 (by decide) (fun _ => ?_) (fun q => absurd (by decide) q)
  refine lv_iconst (v := 0) hx hb dX6_asCut_22 (by decide) ?_
  refine x_iast (k := 289) (j := 1) hE hK hI (by decide) (e_289 G o) (by decide) (by decide) rfl dX6_asCut_23 (fun H locs hI => ?_)
  refine lv_iinc (v := 2) (lv' := [(2, .int 2), (0, .ref (o + 285)), (1, .int 0)]) hx hb dX6_asCut_24 hl (k := 0) rfl (by decide) (by decide) rfl (fun ls hl => ?_)
  refine lv_goto (tgt := 2) hx hb dX6_asCut_27 (by decide) ?_
  refine lv_iload_n hx hb dX6_asCut_2 rfl (lv_at hl 0 rfl) ?_
  refine lv_iconst (v := 4) hx hb dX6_asCut_3 (by decide) ?_
  refine lv_icmp_ge (tgt := 30) hx hb dX6_asCut_4 (by decide) (fun q => absurd q (by decide)) (fun _ => ?_)
  refine lv_aload_n hx hb dX6_asCut_7 rfl (lv_at hl 1 rfl) ?_
  refine x_get (k := 285) hE hK hI (by decide) inG6 (e_285 G o _ _) rfl 3 (by decide) mw_483 rfl dX6_asCut_8 ?_
  refine lv_iload_n hx hb dX6_asCut_11 rfl (lv_at hl 0 rfl) ?_
  refine lv_iload_n hx hb dX6_asCut_12 rfl (lv_at hl 0 rfl) ?_
  refine lv_iload_n hx hb dX6_asCut_13 rfl (lv_at hl 2 rfl) ?_
  refine lv_icmp_ge (tgt := 22) hx hb dX6_asCut_14 (by decide) (fun _ => ?_) (fun q => absurd (by decide) q)
  refine lv_iconst (v := 0) hx hb dX6_asCut_22 (by decide) ?_
  refine x_iast (k := 289) (j := 2) hE hK hI (by decide) (e_289 G o) (by decide) (by decide) rfl dX6_asCut_23 (fun H locs hI => ?_)
  refine lv_iinc (v := 3) (lv' := [(2, .int 3), (0, .ref (o + 285)), (1, .int 0)]) hx hb dX6_asCut_24 hl (k := 0) rfl (by decide) (by decide) rfl (fun ls hl => ?_)
  refine lv_goto (tgt := 2) hx hb dX6_asCut_27 (by decide) ?_
  refine lv_iload_n hx hb dX6_asCut_2 rfl (lv_at hl 0 rfl) ?_
  refine lv_iconst (v := 4) hx hb dX6_asCut_3 (by decide) ?_
  refine lv_icmp_ge (tgt := 30) hx hb dX6_asCut_4 (by decide) (fun q => absurd q (by decide)) (fun _ => ?_)
  refine lv_aload_n hx hb dX6_asCut_7 rfl (lv_at hl 1 rfl) ?_
  refine x_get (k := 285) hE hK hI (by decide) inG6 (e_285 G o _ _) rfl 3 (by decide) mw_483 rfl dX6_asCut_8 ?_
  refine lv_iload_n hx hb dX6_asCut_11 rfl (lv_at hl 0 rfl) ?_
  refine lv_iload_n hx hb dX6_asCut_12 rfl (lv_at hl 0 rfl) ?_
  refine lv_iload_n hx hb dX6_asCut_13 rfl (lv_at hl 2 rfl) ?_
  refine lv_icmp_ge (tgt := 22) hx hb dX6_asCut_14 (by decide) (fun _ => ?_) (fun q => absurd (by decide) q)
  refine lv_iconst (v := 0) hx hb dX6_asCut_22 (by decide) ?_
  refine x_iast (k := 289) (j := 3) hE hK hI (by decide) (e_289 G o) (by decide) (by decide) rfl dX6_asCut_23 (fun H locs hI => ?_)
  refine lv_iinc (v := 4) (lv' := [(2, .int 4), (0, .ref (o + 285)), (1, .int 0)]) hx hb dX6_asCut_24 hl (k := 0) rfl (by decide) (by decide) rfl (fun ls hl => ?_)
  refine lv_goto (tgt := 2) hx hb dX6_asCut_27 (by decide) ?_
  refine lv_iload_n hx hb dX6_asCut_2 rfl (lv_at hl 0 rfl) ?_
  refine lv_iconst (v := 4) hx hb dX6_asCut_3 (by decide) ?_
  refine lv_icmp_ge (tgt := 30) hx hb dX6_asCut_4 (by decide) (fun _ => ?_) (fun q => absurd (by decide) q)
  exact x_vret hE hr hlocks hI rfl rfl rfl dX6_asCut_30
def ac1X (X : SX) : SX := sx (sx (sx (sx X 289 0 10) 289 1 0) 289 2 0) 289 3 0
set_option maxRecDepth 100000 in
set_option maxHeartbeats 4000000 in
theorem c_X6_asCut_1 (l : Launch) (G : GG) (o : Nat) (X : SX) (Y : SY) : Ct l yX6_asCut cX6_asCut 3 none 0 0 G o [.ref (o + 285), .int 1] X Y none (ac1X X) Y := by
  refine Ct.mk (by decide +kernel) (Nat.le_of_ble_eq_true rfl) rfl ?_
  intro p9 e9 s9 m9 args9 below9 meth9 c9 hE hr hlocks hK hI ls hl
  have hx := hE.1
  have hb := hE.2.1
  have hl : lv_has ls 3 [(0, .ref (o + 285)), (1, .int 1)] := hl
  refine lv_iconst (v := 0) hx hb dX6_asCut_0 (by decide) ?_
  refine lv_istore_n (lv' := [(2, .int 0), (0, .ref (o + 285)), (1, .int 1)]) hx hb dX6_asCut_1 rfl hl (by decide) rfl (fun ls hl => ?_)
  refine lv_iload_n hx hb dX6_asCut_2 rfl (lv_at hl 0 rfl) ?_
  refine lv_iconst (v := 4) hx hb dX6_asCut_3 (by decide) ?_
  refine lv_icmp_ge (tgt := 30) hx hb dX6_asCut_4 (by decide) (fun q => absurd q (by decide)) (fun _ => ?_)
  refine lv_aload_n hx hb dX6_asCut_7 rfl (lv_at hl 1 rfl) ?_
  refine x_get (k := 285) hE hK hI (by decide) inG6 (e_285 G o _ _) rfl 3 (by decide) mw_483 rfl dX6_asCut_8 ?_
  refine lv_iload_n hx hb dX6_asCut_11 rfl (lv_at hl 0 rfl) ?_
  refine lv_iload_n hx hb dX6_asCut_12 rfl (lv_at hl 0 rfl) ?_
  refine lv_iload_n hx hb dX6_asCut_13 rfl (lv_at hl 2 rfl) ?_
  refine lv_icmp_ge (tgt := 22) hx hb dX6_asCut_14 (by decide) (fun q => absurd q (by decide)) (fun _ => ?_)
  refine lv_bipush (v := 10) hx hb dX6_asCut_17 (by decide) ?_
  refine lv_goto (tgt := 23) hx hb dX6_asCut_19 (by decide) ?_
  refine x_iast (k := 289) (j := 0) hE hK hI (by decide) (e_289 G o) (by decide) (by decide) rfl dX6_asCut_23 (fun H locs hI => ?_)
  refine lv_iinc (v := 1) (lv' := [(2, .int 1), (0, .ref (o + 285)), (1, .int 1)]) hx hb dX6_asCut_24 hl (k := 0) rfl (by decide) (by decide) rfl (fun ls hl => ?_)
  refine lv_goto (tgt := 2) hx hb dX6_asCut_27 (by decide) ?_
  refine lv_iload_n hx hb dX6_asCut_2 rfl (lv_at hl 0 rfl) ?_
  refine lv_iconst (v := 4) hx hb dX6_asCut_3 (by decide) ?_
  refine lv_icmp_ge (tgt := 30) hx hb dX6_asCut_4 (by decide) (fun q => absurd q (by decide)) (fun _ => ?_)
  refine lv_aload_n hx hb dX6_asCut_7 rfl (lv_at hl 1 rfl) ?_
  refine x_get (k := 285) hE hK hI (by decide) inG6 (e_285 G o _ _) rfl 3 (by decide) mw_483 rfl dX6_asCut_8 ?_
  refine lv_iload_n hx hb dX6_asCut_11 rfl (lv_at hl 0 rfl) ?_
  refine lv_iload_n hx hb dX6_asCut_12 rfl (lv_at hl 0 rfl) ?_
  refine lv_iload_n hx hb dX6_asCut_13 rfl (lv_at hl 2 rfl) ?_
  refine lv_icmp_ge (tgt := 22) hx hb dX6_asCut_14 (by decide) (fun _ => ?_) (fun q => absurd (by decide) q)
  refine lv_iconst (v := 0) hx hb dX6_asCut_22 (by decide) ?_
  refine x_iast (k := 289) (j := 1) hE hK hI (by decide) (e_289 G o) (by decide) (by decide) rfl dX6_asCut_23 (fun H locs hI => ?_)
  refine lv_iinc (v := 2) (lv' := [(2, .int 2), (0, .ref (o + 285)), (1, .int 1)]) hx hb dX6_asCut_24 hl (k := 0) rfl (by decide) (by decide) rfl (fun ls hl => ?_)
  refine lv_goto (tgt := 2) hx hb dX6_asCut_27 (by decide) ?_
  refine lv_iload_n hx hb dX6_asCut_2 rfl (lv_at hl 0 rfl) ?_
  refine lv_iconst (v := 4) hx hb dX6_asCut_3 (by decide) ?_
  refine lv_icmp_ge (tgt := 30) hx hb dX6_asCut_4 (by decide) (fun q => absurd q (by decide)) (fun _ => ?_)
  refine lv_aload_n hx hb dX6_asCut_7 rfl (lv_at hl 1 rfl) ?_
  refine x_get (k := 285) hE hK hI (by decide) inG6 (e_285 G o _ _) rfl 3 (by decide) mw_483 rfl dX6_asCut_8 ?_
  refine lv_iload_n hx hb dX6_asCut_11 rfl (lv_at hl 0 rfl) ?_
  refine lv_iload_n hx hb dX6_asCut_12 rfl (lv_at hl 0 rfl) ?_
  refine lv_iload_n hx hb dX6_asCut_13 rfl (lv_at hl 2 rfl) ?_
  refine lv_icmp_ge (tgt := 22) hx hb dX6_asCut_14 (by decide) (fun _ => ?_) (fun q => absurd (by decide) q)
  refine lv_iconst (v := 0) hx hb dX6_asCut_22 (by decide) ?_
  refine x_iast (k := 289) (j := 2) hE hK hI (by decide) (e_289 G o) (by decide) (by decide) rfl dX6_asCut_23 (fun H locs hI => ?_)
  refine lv_iinc (v := 3) (lv' := [(2, .int 3), (0, .ref (o + 285)), (1, .int 1)]) hx hb dX6_asCut_24 hl (k := 0) rfl (by decide) (by decide) rfl (fun ls hl => ?_)
  refine lv_goto (tgt := 2) hx hb dX6_asCut_27 (by decide) ?_
  refine lv_iload_n hx hb dX6_asCut_2 rfl (lv_at hl 0 rfl) ?_
  refine lv_iconst (v := 4) hx hb dX6_asCut_3 (by decide) ?_
  refine lv_icmp_ge (tgt := 30) hx hb dX6_asCut_4 (by decide) (fun q => absurd q (by decide)) (fun _ => ?_)
  refine lv_aload_n hx hb dX6_asCut_7 rfl (lv_at hl 1 rfl) ?_
  refine x_get (k := 285) hE hK hI (by decide) inG6 (e_285 G o _ _) rfl 3 (by decide) mw_483 rfl dX6_asCut_8 ?_
  refine lv_iload_n hx hb dX6_asCut_11 rfl (lv_at hl 0 rfl) ?_
  refine lv_iload_n hx hb dX6_asCut_12 rfl (lv_at hl 0 rfl) ?_
  refine lv_iload_n hx hb dX6_asCut_13 rfl (lv_at hl 2 rfl) ?_
  refine lv_icmp_ge (tgt := 22) hx hb dX6_asCut_14 (by decide) (fun _ => ?_) (fun q => absurd (by decide) q)
  refine lv_iconst (v := 0) hx hb dX6_asCut_22 (by decide) ?_
  refine x_iast (k := 289) (j := 3) hE hK hI (by decide) (e_289 G o) (by decide) (by decide) rfl dX6_asCut_23 (fun H locs hI => ?_)
  refine lv_iinc (v := 4) (lv' := [(2, .int 4), (0, .ref (o + 285)), (1, .int 1)]) hx hb dX6_asCut_24 hl (k := 0) rfl (by decide) (by decide) rfl (fun ls hl => ?_)
  refine lv_goto (tgt := 2) hx hb dX6_asCut_27 (by decide) ?_
  refine lv_iload_n hx hb dX6_asCut_2 rfl (lv_at hl 0 rfl) ?_
  refine lv_iconst (v := 4) hx hb dX6_asCut_3 (by decide) ?_
  refine lv_icmp_ge (tgt := 30) hx hb dX6_asCut_4 (by decide) (fun _ => ?_) (fun q => absurd (by decide) q)
  exact x_vret hE hr hlocks hI rfl rfl rfl dX6_asCut_30
def ac2X (X : SX) : SX := sx (sx (sx (sx X 289 0 10) 289 1 10) 289 2 0) 289 3 0
set_option maxRecDepth 100000 in
set_option maxHeartbeats 4000000 in
theorem c_X6_asCut_2 (l : Launch) (G : GG) (o : Nat) (X : SX) (Y : SY) : Ct l yX6_asCut cX6_asCut 3 none 0 0 G o [.ref (o + 285), .int 2] X Y none (ac2X X) Y := by
  refine Ct.mk (by decide +kernel) (Nat.le_of_ble_eq_true rfl) rfl ?_
  intro p9 e9 s9 m9 args9 below9 meth9 c9 hE hr hlocks hK hI ls hl
  have hx := hE.1
  have hb := hE.2.1
  have hl : lv_has ls 3 [(0, .ref (o + 285)), (1, .int 2)] := hl
  refine lv_iconst (v := 0) hx hb dX6_asCut_0 (by decide) ?_
  refine lv_istore_n (lv' := [(2, .int 0), (0, .ref (o + 285)), (1, .int 2)]) hx hb dX6_asCut_1 rfl hl (by decide) rfl (fun ls hl => ?_)
  refine lv_iload_n hx hb dX6_asCut_2 rfl (lv_at hl 0 rfl) ?_
  refine lv_iconst (v := 4) hx hb dX6_asCut_3 (by decide) ?_
  refine lv_icmp_ge (tgt := 30) hx hb dX6_asCut_4 (by decide) (fun q => absurd q (by decide)) (fun _ => ?_)
  refine lv_aload_n hx hb dX6_asCut_7 rfl (lv_at hl 1 rfl) ?_
  refine x_get (k := 285) hE hK hI (by decide) inG6 (e_285 G o _ _) rfl 3 (by decide) mw_483 rfl dX6_asCut_8 ?_
  refine lv_iload_n hx hb dX6_asCut_11 rfl (lv_at hl 0 rfl) ?_
  refine lv_iload_n hx hb dX6_asCut_12 rfl (lv_at hl 0 rfl) ?_
  refine lv_iload_n hx hb dX6_asCut_13 rfl (lv_at hl 2 rfl) ?_
  refine lv_icmp_ge (tgt := 22) hx hb dX6_asCut_14 (by decide) (fun q => absurd q (by decide)) (fun _ => ?_)
  refine lv_bipush (v := 10) hx hb dX6_asCut_17 (by decide) ?_
  refine lv_goto (tgt := 23) hx hb dX6_asCut_19 (by decide) ?_
  refine x_iast (k := 289) (j := 0) hE hK hI (by decide) (e_289 G o) (by decide) (by decide) rfl dX6_asCut_23 (fun H locs hI => ?_)
  refine lv_iinc (v := 1) (lv' := [(2, .int 1), (0, .ref (o + 285)), (1, .int 2)]) hx hb dX6_asCut_24 hl (k := 0) rfl (by decide) (by decide) rfl (fun ls hl => ?_)
  refine lv_goto (tgt := 2) hx hb dX6_asCut_27 (by decide) ?_
  refine lv_iload_n hx hb dX6_asCut_2 rfl (lv_at hl 0 rfl) ?_
  refine lv_iconst (v := 4) hx hb dX6_asCut_3 (by decide) ?_
  refine lv_icmp_ge (tgt := 30) hx hb dX6_asCut_4 (by decide) (fun q => absurd q (by decide)) (fun _ => ?_)
  refine lv_aload_n hx hb dX6_asCut_7 rfl (lv_at hl 1 rfl) ?_
  refine x_get (k := 285) hE hK hI (by decide) inG6 (e_285 G o _ _) rfl 3 (by decide) mw_483 rfl dX6_asCut_8 ?_
  refine lv_iload_n hx hb dX6_asCut_11 rfl (lv_at hl 0 rfl) ?_
  refine lv_iload_n hx hb dX6_asCut_12 rfl (lv_at hl 0 rfl) ?_
  refine lv_iload_n hx hb dX6_asCut_13 rfl (lv_at hl 2 rfl) ?_
  refine lv_icmp_ge (tgt := 22) hx hb dX6_asCut_14 (by decide) (fun q => absurd q (by decide)) (fun _ => ?_)
  refine lv_bipush (v := 10) hx hb dX6_asCut_17 (by decide) ?_
  refine lv_goto (tgt := 23) hx hb dX6_asCut_19 (by decide) ?_
  refine x_iast (k := 289) (j := 1) hE hK hI (by decide) (e_289 G o) (by decide) (by decide) rfl dX6_asCut_23 (fun H locs hI => ?_)
  refine lv_iinc (v := 2) (lv' := [(2, .int 2), (0, .ref (o + 285)), (1, .int 2)]) hx hb dX6_asCut_24 hl (k := 0) rfl (by decide) (by decide) rfl (fun ls hl => ?_)
  refine lv_goto (tgt := 2) hx hb dX6_asCut_27 (by decide) ?_
  refine lv_iload_n hx hb dX6_asCut_2 rfl (lv_at hl 0 rfl) ?_
  refine lv_iconst (v := 4) hx hb dX6_asCut_3 (by decide) ?_
  refine lv_icmp_ge (tgt := 30) hx hb dX6_asCut_4 (by decide) (fun q => absurd q (by decide)) (fun _ => ?_)
  refine lv_aload_n hx hb dX6_asCut_7 rfl (lv_at hl 1 rfl) ?_
  refine x_get (k := 285) hE hK hI (by decide) inG6 (e_285 G o _ _) rfl 3 (by decide) mw_483 rfl dX6_asCut_8 ?_
  refine lv_iload_n hx hb dX6_asCut_11 rfl (lv_at hl 0 rfl) ?_
  refine lv_iload_n hx hb dX6_asCut_12 rfl (lv_at hl 0 rfl) ?_
  refine lv_iload_n hx hb dX6_asCut_13 rfl (lv_at hl 2 rfl) ?_
  refine lv_icmp_ge (tgt := 22) hx hb dX6_asCut_14 (by decide) (fun _ => ?_) (fun q => absurd (by decide) q)
  refine lv_iconst (v := 0) hx hb dX6_asCut_22 (by decide) ?_
  refine x_iast (k := 289) (j := 2) hE hK hI (by decide) (e_289 G o) (by decide) (by decide) rfl dX6_asCut_23 (fun H locs hI => ?_)
  refine lv_iinc (v := 3) (lv' := [(2, .int 3), (0, .ref (o + 285)), (1, .int 2)]) hx hb dX6_asCut_24 hl (k := 0) rfl (by decide) (by decide) rfl (fun ls hl => ?_)
  refine lv_goto (tgt := 2) hx hb dX6_asCut_27 (by decide) ?_
  refine lv_iload_n hx hb dX6_asCut_2 rfl (lv_at hl 0 rfl) ?_
  refine lv_iconst (v := 4) hx hb dX6_asCut_3 (by decide) ?_
  refine lv_icmp_ge (tgt := 30) hx hb dX6_asCut_4 (by decide) (fun q => absurd q (by decide)) (fun _ => ?_)
  refine lv_aload_n hx hb dX6_asCut_7 rfl (lv_at hl 1 rfl) ?_
  refine x_get (k := 285) hE hK hI (by decide) inG6 (e_285 G o _ _) rfl 3 (by decide) mw_483 rfl dX6_asCut_8 ?_
  refine lv_iload_n hx hb dX6_asCut_11 rfl (lv_at hl 0 rfl) ?_
  refine lv_iload_n hx hb dX6_asCut_12 rfl (lv_at hl 0 rfl) ?_
  refine lv_iload_n hx hb dX6_asCut_13 rfl (lv_at hl 2 rfl) ?_
  refine lv_icmp_ge (tgt := 22) hx hb dX6_asCut_14 (by decide) (fun _ => ?_) (fun q => absurd (by decide) q)
  refine lv_iconst (v := 0) hx hb dX6_asCut_22 (by decide) ?_
  refine x_iast (k := 289) (j := 3) hE hK hI (by decide) (e_289 G o) (by decide) (by decide) rfl dX6_asCut_23 (fun H locs hI => ?_)
  refine lv_iinc (v := 4) (lv' := [(2, .int 4), (0, .ref (o + 285)), (1, .int 2)]) hx hb dX6_asCut_24 hl (k := 0) rfl (by decide) (by decide) rfl (fun ls hl => ?_)
  refine lv_goto (tgt := 2) hx hb dX6_asCut_27 (by decide) ?_
  refine lv_iload_n hx hb dX6_asCut_2 rfl (lv_at hl 0 rfl) ?_
  refine lv_iconst (v := 4) hx hb dX6_asCut_3 (by decide) ?_
  refine lv_icmp_ge (tgt := 30) hx hb dX6_asCut_4 (by decide) (fun _ => ?_) (fun q => absurd (by decide) q)
  exact x_vret hE hr hlocks hI rfl rfl rfl dX6_asCut_30
def ac3X (X : SX) : SX := sx (sx (sx (sx X 289 0 10) 289 1 10) 289 2 10) 289 3 0
set_option maxRecDepth 100000 in
set_option maxHeartbeats 4000000 in
theorem c_X6_asCut_3 (l : Launch) (G : GG) (o : Nat) (X : SX) (Y : SY) : Ct l yX6_asCut cX6_asCut 3 none 0 0 G o [.ref (o + 285), .int 3] X Y none (ac3X X) Y := by
  refine Ct.mk (by decide +kernel) (Nat.le_of_ble_eq_true rfl) rfl ?_
  intro p9 e9 s9 m9 args9 below9 meth9 c9 hE hr hlocks hK hI ls hl
  have hx := hE.1
  have hb := hE.2.1
  have hl : lv_has ls 3 [(0, .ref (o + 285)), (1, .int 3)] := hl
  refine lv_iconst (v := 0) hx hb dX6_asCut_0 (by decide) ?_
  refine lv_istore_n (lv' := [(2, .int 0), (0, .ref (o + 285)), (1, .int 3)]) hx hb dX6_asCut_1 rfl hl (by decide) rfl (fun ls hl => ?_)
  refine lv_iload_n hx hb dX6_asCut_2 rfl (lv_at hl 0 rfl) ?_
  refine lv_iconst (v := 4) hx hb dX6_asCut_3 (by decide) ?_
  refine lv_icmp_ge (tgt := 30) hx hb dX6_asCut_4 (by decide) (fun q => absurd q (by decide)) (fun _ => ?_)
  refine lv_aload_n hx hb dX6_asCut_7 rfl (lv_at hl 1 rfl) ?_
  refine x_get (k := 285) hE hK hI (by decide) inG6 (e_285 G o _ _) rfl 3 (by decide) mw_483 rfl dX6_asCut_8 ?_
  refine lv_iload_n hx hb dX6_asCut_11 rfl (lv_at hl 0 rfl) ?_
  refine lv_iload_n hx hb dX6_asCut_12 rfl (lv_at hl 0 rfl) ?_
  refine lv_iload_n hx hb dX6_asCut_13 rfl (lv_at hl 2 rfl) ?_
  refine lv_icmp_ge (tgt := 22) hx hb dX6_asCut_14 (by decide) (fun q => absurd q (by decide)) (fun _ => ?_)
  refine lv_bipush (v := 10) hx hb dX6_asCut_17 (by decide) ?_
  refine lv_goto (tgt := 23) hx hb dX6_asCut_19 (by decide) ?_
  refine x_iast (k := 289) (j := 0) hE hK hI (by decide) (e_289 G o) (by decide) (by decide) rfl dX6_asCut_23 (fun H locs hI => ?_)
  refine lv_iinc (v := 1) (lv' := [(2, .int 1), (0, .ref (o + 285)), (1, .int 3)]) hx hb dX6_asCut_24 hl (k := 0) rfl (by decide) (by decide) rfl (fun ls hl => ?_)
  refine lv_goto (tgt := 2) hx hb dX6_asCut_27 (by decide) ?_
  refine lv_iload_n hx hb dX6_asCut_2 rfl (lv_at hl 0 rfl) ?_
  refine lv_iconst (v := 4) hx hb dX6_asCut_3 (by decide) ?_
  refine lv_icmp_ge (tgt := 30) hx hb dX6_asCut_4 (by decide) (fun q => absurd q (by decide)) (fun _ => ?_)
  refine lv_aload_n hx hb dX6_asCut_7 rfl (lv_at hl 1 rfl) ?_
  refine x_get (k := 285) hE hK hI (by decide) inG6 (e_285 G o _ _) rfl 3 (by decide) mw_483 rfl dX6_asCut_8 ?_
  refine lv_iload_n hx hb dX6_asCut_11 rfl (lv_at hl 0 rfl) ?_
  refine lv_iload_n hx hb dX6_asCut_12 rfl (lv_at hl 0 rfl) ?_
  refine lv_iload_n hx hb dX6_asCut_13 rfl (lv_at hl 2 rfl) ?_
  refine lv_icmp_ge (tgt := 22) hx hb dX6_asCut_14 (by decide) (fun q => absurd q (by decide)) (fun _ => ?_)
  refine lv_bipush (v := 10) hx hb dX6_asCut_17 (by decide) ?_
  refine lv_goto (tgt := 23) hx hb dX6_asCut_19 (by decide) ?_
  refine x_iast (k := 289) (j := 1) hE hK hI (by decide) (e_289 G o) (by decide) (by decide) rfl dX6_asCut_23 (fun H locs hI => ?_)
  refine lv_iinc (v := 2) (lv' := [(2, .int 2), (0, .ref (o + 285)), (1, .int 3)]) hx hb dX6_asCut_24 hl (k := 0) rfl (by decide) (by decide) rfl (fun ls hl => ?_)
  refine lv_goto (tgt := 2) hx hb dX6_asCut_27 (by decide) ?_
  refine lv_iload_n hx hb dX6_asCut_2 rfl (lv_at hl 0 rfl) ?_
  refine lv_iconst (v := 4) hx hb dX6_asCut_3 (by decide) ?_
  refine lv_icmp_ge (tgt := 30) hx hb dX6_asCut_4 (by decide) (fun q => absurd q (by decide)) (fun _ => ?_)
  refine lv_aload_n hx hb dX6_asCut_7 rfl (lv_at hl 1 rfl) ?_
  refine x_get (k := 285) hE hK hI (by decide) inG6 (e_285 G o _ _) rfl 3 (by decide) mw_483 rfl dX6_asCut_8 ?_
  refine lv_iload_n hx hb dX6_asCut_11 rfl (lv_at hl 0 rfl) ?_
  refine lv_iload_n hx hb dX6_asCut_12 rfl (lv_at hl 0 rfl) ?_
  refine lv_iload_n hx hb dX6_asCut_13 rfl (lv_at hl 2 rfl) ?_
  refine lv_icmp_ge (tgt := 22) hx hb dX6_asCut_14 (by decide) (fun q => absurd q (by decide)) (fun _ => ?_)
  refine lv_bipush (v := 10) hx hb dX6_asCut_17 (by decide) ?_
  refine lv_goto (tgt := 23) hx hb dX6_asCut_19 (by decide) ?_
  refine x_iast (k := 289) (j := 2) hE hK hI (by decide) (e_289 G o) (by decide) (by decide) rfl dX6_asCut_23 (fun H locs hI => ?_)
  refine lv_iinc (v := 3) (lv' := [(2, .int 3), (0, .ref (o + 285)), (1, .int 3)]) hx hb dX6_asCut_24 hl (k := 0) rfl (by decide) (by decide) rfl (fun ls hl => ?_)
  refine lv_goto (tgt := 2) hx hb dX6_asCut_27 (by decide) ?_
  refine lv_iload_n hx hb dX6_asCut_2 rfl (lv_at hl 0 rfl) ?_
  refine lv_iconst (v := 4) hx hb dX6_asCut_3 (by decide) ?_
  refine lv_icmp_ge (tgt := 30) hx hb dX6_asCut_4 (by decide) (fun q => absurd q (by decide)) (fun _ => ?_)
  refine lv_aload_n hx hb dX6_asCut_7 rfl (lv_at hl 1 rfl) ?_
  refine x_get (k := 285) hE hK hI (by decide) inG6 (e_285 G o _ _) rfl 3 (by decide) mw_483 rfl dX6_asCut_8 ?_
  refine lv_iload_n hx hb dX6_asCut_11 rfl (lv_at hl 0 rfl) ?_
  refine lv_iload_n hx hb dX6_asCut_12 rfl (lv_at hl 0 rfl) ?_
  refine lv_iload_n hx hb dX6_asCut_13 rfl (lv_at hl 2 rfl) ?_
  refine lv_icmp_ge (tgt := 22) hx hb dX6_asCut_14 (by decide) (fun _ => ?_) (fun q => absurd (by decide) q)
  refine lv_iconst (v := 0) hx hb dX6_asCut_22 (by decide) ?_
  refine x_iast (k := 289) (j := 3) hE hK hI (by decide) (e_289 G o) (by decide) (by decide) rfl dX6_asCut_23 (fun H locs hI => ?_)
  refine lv_iinc (v := 4) (lv' := [(2, .int 4), (0, .ref (o + 285)), (1, .int 3)]) hx hb dX6_asCut_24 hl (k := 0) rfl (by decide) (by decide) rfl (fun ls hl => ?_)
  refine lv_goto (tgt := 2) hx hb dX6_asCut_27 (by decide) ?_
  refine lv_iload_n hx hb dX6_asCut_2 rfl (lv_at hl 0 rfl) ?_
  refine lv_iconst (v := 4) hx hb dX6_asCut_3 (by decide) ?_
  refine lv_icmp_ge (tgt := 30) hx hb dX6_asCut_4 (by decide) (fun _ => ?_) (fun q => absurd (by decide) q)
  exact x_vret hE hr hlocks hI rfl rfl rfl dX6_asCut_30
def ac4X (X : SX) : SX := sx (sx (sx (sx X 289 0 10) 289 1 10) 289 2 10) 289 3 10
set_option maxRecDepth 100000 in
set_option maxHeartbeats 4000000 in
theorem c_X6_asCut_4 (l : Launch) (G : GG) (o : Nat) (X : SX) (Y : SY) : Ct l yX6_asCut cX6_asCut 3 none 0 0 G o [.ref (o + 285), .int 4] X Y none (ac4X X) Y := by
  refine Ct.mk (by decide +kernel) (Nat.le_of_ble_eq_true rfl) rfl ?_
  intro p9 e9 s9 m9 args9 below9 meth9 c9 hE hr hlocks hK hI ls hl
  have hx := hE.1
  have hb := hE.2.1
  have hl : lv_has ls 3 [(0, .ref (o + 285)), (1, .int 4)] := hl
  refine lv_iconst (v := 0) hx hb dX6_asCut_0 (by decide) ?_
  refine lv_istore_n (lv' := [(2, .int 0), (0, .ref (o + 285)), (1, .int 4)]) hx hb dX6_asCut_1 rfl hl (by decide) rfl (fun ls hl => ?_)
  refine lv_iload_n hx hb dX6_asCut_2 rfl (lv_at hl 0 rfl) ?_
  refine lv_iconst (v := 4) hx hb dX6_asCut_3 (by decide) ?_
  refine lv_icmp_ge (tgt := 30) hx hb dX6_asCut_4 (by decide) (fun q => absurd q (by decide)) (fun _ => ?_)
  refine lv_aload_n hx hb dX6_asCut_7 rfl (lv_at hl 1 rfl) ?_
  refine x_get (k := 285) hE hK hI (by decide) inG6 (e_285 G o _ _) rfl 3 (by decide) mw_483 rfl dX6_asCut_8 ?_
  refine lv_iload_n hx hb dX6_asCut_11 rfl (lv_at hl 0 rfl) ?_
  refine lv_iload_n hx hb dX6_asCut_12 rfl (lv_at hl 0 rfl) ?_
  refine lv_iload_n hx hb dX6_asCut_13 rfl (lv_at hl 2 rfl) ?_
  refine lv_icmp_ge (tgt := 22) hx hb dX6_asCut_14 (by decide) (fun q => absurd q (by decide)) (fun _ => ?_)
  refine lv_bipush (v := 10) hx hb dX6_asCut_17 (by decide) ?_
  refine lv_goto (tgt := 23) hx hb dX6_asCut_19 (by decide) ?_
  refine x_iast (k := 289) (j := 0) hE hK hI (by decide) (e_289 G o) (by decide) (by decide) rfl dX6_asCut_23 (fun H locs hI => ?_)
  refine lv_iinc (v := 1) (lv' := [(2, .int 1), (0, .ref (o + 285)), (1, .int 4)]) hx hb dX6_asCut_24 hl (k := 0) rfl (by decide) (by decide) rfl (fun ls hl => ?_)
  refine lv_goto (tgt := 2) hx hb dX6_asCut_27 (by decide) ?_
  refine lv_iload_n hx hb dX6_asCut_2 rfl (lv_at hl 0 rfl) ?_
  refine lv_iconst (v := 4) hx hb dX6_asCut_3 (by decide) ?_
  refine lv_icmp_ge (tgt := 30) hx hb dX6_asCut_4 (by decide) (fun q => absurd q (by decide)) (fun _ => ?_)
  refine lv_aload_n hx hb dX6_asCut_7 rfl (lv_at hl 1 rfl) ?_
  refine x_get (k := 285) hE hK hI (by decide) inG6 (e_285 G o _ _) rfl 3 (by decide) mw_483 rfl dX6_asCut_8 ?_
  refine lv_iload_n hx hb dX6_asCut_11 rfl (lv_at hl 0 rfl) ?_
  refine lv_iload_n hx hb dX6_asCut_12 rfl (lv_at hl 0 rfl) ?_
  refine lv_iload_n hx hb dX6_asCut_13 rfl (lv_at hl 2 rfl) ?_
  refine lv_icmp_ge (tgt := 22) hx hb dX6_asCut_14 (by decide) (fun q => absurd q (by decide)) (fun _ => ?_)
  refine lv_bipush (v := 10) hx hb dX6_asCut_17 (by decide) ?_
  refine lv_goto (tgt := 23) hx hb dX6_asCut_19 (by decide) ?_
  refine x_iast (k := 289) (j := 1) hE hK hI (by decide) (e_289 G o) (by decide) (by decide) rfl dX6_asCut_23 (fun H locs hI => ?_)
  refine lv_iinc (v := 2) (lv' := [(2, .int 2), (0, .ref (o + 285)), (1, .int 4)]) hx hb dX6_asCut_24 hl (k := 0) rfl (by decide) (by decide) rfl (fun ls hl => ?_)
  refine lv_goto (tgt := 2) hx hb dX6_asCut_27 (by decide) ?_
  refine lv_iload_n hx hb dX6_asCut_2 rfl (lv_at hl 0 rfl) ?_
  refine lv_iconst (v := 4) hx hb dX6_asCut_3 (by decide) ?_
  refine lv_icmp_ge (tgt := 30) hx hb dX6_asCut_4 (by decide) (fun q => absurd q (by decide)) (fun _ => ?_)
  refine lv_aload_n hx hb dX6_asCut_7 rfl (lv_at hl 1 rfl) ?_
  refine x_get (k := 285) hE hK hI (by decide) inG6 (e_285 G o _ _) rfl 3 (by decide) mw_483 rfl dX6_asCut_8 ?_
  refine lv_iload_n hx hb dX6_asCut_11 rfl (lv_at hl 0 rfl) ?_
  refine lv_iload_n hx hb dX6_asCut_12 rfl (lv_at hl 0 rfl) ?_
  refine lv_iload_n hx hb dX6_asCut_13 rfl (lv_at hl 2 rfl) ?_
  refine lv_icmp_ge (tgt := 22) hx hb dX6_asCut_14 (by decide) (fun q => absurd q (by decide)) (fun _ => ?_)
  refine lv_bipush (v := 10) hx hb dX6_asCut_17 (by decide) ?_
  refine lv_goto (tgt := 23) hx hb dX6_asCut_19 (by decide) ?_
  refine x_iast (k := 289) (j := 2) hE hK hI (by decide) (e_289 G o) (by decide) (by decide) rfl dX6_asCut_23 (fun H locs hI => ?_)
  refine lv_iinc (v := 3) (lv' := [(2, .int 3), (0, .ref (o + 285)), (1, .int 4)]) hx hb dX6_asCut_24 hl (k := 0) rfl (by decide) (by decide) rfl (fun ls hl => ?_)
  refine lv_goto (tgt := 2) hx hb dX6_asCut_27 (by decide) ?_
  refine lv_iload_n hx hb dX6_asCut_2 rfl (lv_at hl 0 rfl) ?_
  refine lv_iconst (v := 4) hx hb dX6_asCut_3 (by decide) ?_
  refine lv_icmp_ge (tgt := 30) hx hb dX6_asCut_4 (by decide) (fun q => absurd q (by decide)) (fun _ => ?_)
  refine lv_aload_n hx hb dX6_asCut_7 rfl (lv_at hl 1 rfl) ?_
  refine x_get (k := 285) hE hK hI (by decide) inG6 (e_285 G o _ _) rfl 3 (by decide) mw_483 rfl dX6_asCut_8 ?_
  refine lv_iload_n hx hb dX6_asCut_11 rfl (lv_at hl 0 rfl) ?_
  refine lv_iload_n hx hb dX6_asCut_12 rfl (lv_at hl 0 rfl) ?_
  refine lv_iload_n hx hb dX6_asCut_13 rfl (lv_at hl 2 rfl) ?_
  refine lv_icmp_ge (tgt := 22) hx hb dX6_asCut_14 (by decide) (fun q => absurd q (by decide)) (fun _ => ?_)
  refine lv_bipush (v := 10) hx hb dX6_asCut_17 (by decide) ?_
  refine lv_goto (tgt := 23) hx hb dX6_asCut_19 (by decide) ?_
  refine x_iast (k := 289) (j := 3) hE hK hI (by decide) (e_289 G o) (by decide) (by decide) rfl dX6_asCut_23 (fun H locs hI => ?_)
  refine lv_iinc (v := 4) (lv' := [(2, .int 4), (0, .ref (o + 285)), (1, .int 4)]) hx hb dX6_asCut_24 hl (k := 0) rfl (by decide) (by decide) rfl (fun ls hl => ?_)
  refine lv_goto (tgt := 2) hx hb dX6_asCut_27 (by decide) ?_
  refine lv_iload_n hx hb dX6_asCut_2 rfl (lv_at hl 0 rfl) ?_
  refine lv_iconst (v := 4) hx hb dX6_asCut_3 (by decide) ?_
  refine lv_icmp_ge (tgt := 30) hx hb dX6_asCut_4 (by decide) (fun _ => ?_) (fun q => absurd (by decide) q)
  exact x_vret hE hr hlocks hI rfl rfl rfl dX6_asCut_30
set_option maxRecDepth 100000 in
set_option maxHeartbeats 4000000 in
theorem hd_ll4 (l : Launch) (G : GG) (o : Nat) (X : SX) (Y : SY) {p9 : Program} {e9 : Env} {s9 : State} {m9 : MethodId} {args9 : Array Value} {below9 : List Frame} {meth9 : Method} {c9 : Code} (hE : gE p9 m9 c9 cX6_layLoads 8 s9 args9 yX6_layLoads.cls) (hr : meth9.sig.returnType = (some .boolean)) (hlocks : meth9.locks = false) (hK : KK G s9) (H : Heap) (locs : List Loc) (hI : In G o X Y s9.heap H locs) (ls : Array Slot) (hl : lv_has ls 8 [(0, .ref (o + 285)), (1, .int 4)]) :
    W p9 l e9 (Rm 1 22) s9 m9 args9 below9 meth9 c9 H locs 0 0 (MQ below9 (Qw G o (some (.int (llr4 X Y))) X (llY4 X Y)) args9 s9 0 0 (rg o)) (F0 m9 7 ls []) := by
  have hx := hE.1
  have hb := hE.2.1
  refine lv_iload_n hx hb dX6_layLoads_7 rfl (lv_at hl 1 rfl) ?_
  refine lv_iconst (v := 4) hx hb dX6_layLoads_8 (by decide) ?_
  refine lv_icmp_ge (tgt := 186) hx hb dX6_layLoads_9 (by decide) (fun _ => ?_) (fun q => absurd (by decide) q)
  refine lv_iconst (v := 1) hx hb dX6_layLoads_186 (by decide) ?_
  exact x_zret hE hr hlocks hI (by decide) rfl rfl rfl dX6_layLoads_187
def llr3 (X : SX) (Y : SY) : Int32 := if 100 - ((X 286 15) * (X 289 3)) = 0 then (if 0 < X 286 27 then (0) else (if ((0 + ((Y 290 0) * ((X 286 3).toInt64))) + ((Y 290 1) * ((X 286 7).toInt64))) + ((Y 290 2) * ((X 286 11).toInt64)) ≤ 0 then (llr4 X (sy Y 290 3 0)) else (0))) else (llr4 X (sy (sy (sy (sy (sy Y 290 0 ((Y 290 0) * ((100 - ((X 286 15) * (X 289 3))).toInt64))) 290 1 ((Y 290 1) * ((100 - ((X 286 15) * (X 289 3))).toInt64))) 290 2 ((Y 290 2) * ((100 - ((X 286 15) * (X 289 3))).toInt64))) 290 3 (((100 * ((X 286 27).toInt64)) * (Y 285 5)) + (((X 289 3).toInt64) * (((0 + ((Y 290 0) * ((X 286 3).toInt64))) + ((Y 290 1) * ((X 286 7).toInt64))) + ((Y 290 2) * ((X 286 11).toInt64)))))) 285 5 ((Y 285 5) * ((100 - ((X 286 15) * (X 289 3))).toInt64))))
def llY3 (X : SX) (Y : SY) : SY := if 100 - ((X 286 15) * (X 289 3)) = 0 then (if 0 < X 286 27 then (Y) else (if ((0 + ((Y 290 0) * ((X 286 3).toInt64))) + ((Y 290 1) * ((X 286 7).toInt64))) + ((Y 290 2) * ((X 286 11).toInt64)) ≤ 0 then (llY4 X (sy Y 290 3 0)) else (Y))) else (llY4 X (sy (sy (sy (sy (sy Y 290 0 ((Y 290 0) * ((100 - ((X 286 15) * (X 289 3))).toInt64))) 290 1 ((Y 290 1) * ((100 - ((X 286 15) * (X 289 3))).toInt64))) 290 2 ((Y 290 2) * ((100 - ((X 286 15) * (X 289 3))).toInt64))) 290 3 (((100 * ((X 286 27).toInt64)) * (Y 285 5)) + (((X 289 3).toInt64) * (((0 + ((Y 290 0) * ((X 286 3).toInt64))) + ((Y 290 1) * ((X 286 7).toInt64))) + ((Y 290 2) * ((X 286 11).toInt64)))))) 285 5 ((Y 285 5) * ((100 - ((X 286 15) * (X 289 3))).toInt64))))
set_option maxRecDepth 100000 in
set_option maxHeartbeats 4000000 in
theorem hd_ll3 (l : Launch) (G : GG) (o : Nat) (X : SX) (Y : SY) {p9 : Program} {e9 : Env} {s9 : State} {m9 : MethodId} {args9 : Array Value} {below9 : List Frame} {meth9 : Method} {c9 : Code} (hE : gE p9 m9 c9 cX6_layLoads 8 s9 args9 yX6_layLoads.cls) (hr : meth9.sig.returnType = (some .boolean)) (hlocks : meth9.locks = false) (hK : KK G s9) (H : Heap) (locs : List Loc) (hI : In G o X Y s9.heap H locs) (ls : Array Slot) (hl : lv_has ls 8 [(0, .ref (o + 285)), (1, .int 3)]) :
    W p9 l e9 (Rm 1 22) s9 m9 args9 below9 meth9 c9 H locs 0 0 (MQ below9 (Qw G o (some (.int (llr3 X Y))) X (llY3 X Y)) args9 s9 0 0 (rg o)) (F0 m9 7 ls []) := by
  have hx := hE.1
  have hb := hE.2.1
  refine lv_iload_n hx hb dX6_layLoads_7 rfl (lv_at hl 1 rfl) ?_
  refine lv_iconst (v := 4) hx hb dX6_layLoads_8 (by decide) ?_
  refine lv_icmp_ge (tgt := 186) hx hb dX6_layLoads_9 (by decide) (fun q => absurd q (by decide)) (fun _ => ?_)
  refine lv_lconst (v := 0) hx hb dX6_layLoads_12 (by decide) ?_
  refine lv_lstore_n (lv' := [(2, .long 0), (0, .ref (o + 285)), (1, .int 3)]) hx hb dX6_layLoads_13 rfl hl (by decide) rfl (fun ls hl => ?_)
  refine lv_iconst (v := 0) hx hb dX6_layLoads_14 (by decide) ?_
  refine lv_istore (lv' := [(4, .int 0), (2, .long 0), (0, .ref (o + 285)), (1, .int 3)]) hx hb dX6_layLoads_15 hl (by decide) rfl (fun ls hl => ?_)
  refine lv_iload hx hb dX6_layLoads_17 (lv_at hl 0 rfl) ?_
  refine lv_iload_n hx hb dX6_layLoads_19 rfl (lv_at hl 3 rfl) ?_
  refine lv_icmp_ge (tgt := 48) hx hb dX6_layLoads_20 (by decide) (fun q => absurd q (by decide)) (fun _ => ?_)
  refine lv_lload_n hx hb dX6_layLoads_23 rfl (lv_at hl 1 rfl) ?_
  refine lv_aload_n hx hb dX6_layLoads_24 rfl (lv_at hl 2 rfl) ?_
  refine x_get (k := 285) hE hK hI (by decide) inG6 (e_285 G o _ _) rfl 4 (by decide) mw_484 rfl dX6_layLoads_25 ?_
  refine lv_iload hx hb dX6_layLoads_28 (lv_at hl 0 rfl) ?_
  refine x_lald (k := 290) (j := 0) hE hK hI (by decide) (e_290 G o) (by decide) (by decide) rfl dX6_layLoads_30 ?_
  refine lv_aload_n hx hb dX6_layLoads_31 rfl (lv_at hl 2 rfl) ?_
  refine lv_iload hx hb dX6_layLoads_32 (lv_at hl 0 rfl) ?_
  refine lv_iload_n hx hb dX6_layLoads_34 rfl (lv_at hl 3 rfl) ?_
  refine x_callVi (k := 285) hE hK hI (c_X6_shareOf_0_3 l G o _ _  ) mf_X6_shareOf mw_516 (by decide) ((e_285 G o) _ _) rfl rfl hl.1 rfl (Nat.le_of_ble_eq_true rfl) ⟨(Nat.le_of_ble_eq_true rfl), (Nat.le_of_ble_eq_true rfl)⟩ ⟨Nat.zero_le _, Nat.zero_le _⟩ dX6_layLoads_35 (fun H locs hI => ?_)
  refine lv_i2l hx hb dX6_layLoads_38 rfl ?_
  refine lv_lmul hx hb dX6_layLoads_39 ?_
  refine lv_ladd hx hb dX6_layLoads_40 ?_
  refine lv_lstore_n (lv' := [(2, .long (0 + ((Y 290 0) * ((X 286 3).toInt64)))), (4, .int 0), (0, .ref (o + 285)), (1, .int 3)]) hx hb dX6_layLoads_41 rfl hl (by decide) rfl (fun ls hl => ?_)
  refine lv_iinc (v := 1) (lv' := [(4, .int 1), (2, .long (0 + ((Y 290 0) * ((X 286 3).toInt64)))), (0, .ref (o + 285)), (1, .int 3)]) hx hb dX6_layLoads_42 hl (k := 1) rfl (by decide) (by decide) rfl (fun ls hl => ?_)
  refine lv_goto (tgt := 17) hx hb dX6_layLoads_45 (by decide) ?_
  refine lv_iload hx hb dX6_layLoads_17 (lv_at hl 0 rfl) ?_
  refine lv_iload_n hx hb dX6_layLoads_19 rfl (lv_at hl 3 rfl) ?_
  refine lv_icmp_ge (tgt := 48) hx hb dX6_layLoads_20 (by decide) (fun q => absurd q (by decide)) (fun _ => ?_)
  refine lv_lload_n hx hb dX6_layLoads_23 rfl (lv_at hl 1 rfl) ?_
  refine lv_aload_n hx hb dX6_layLoads_24 rfl (lv_at hl 2 rfl) ?_
  refine x_get (k := 285) hE hK hI (by decide) inG6 (e_285 G o _ _) rfl 4 (by decide) mw_484 rfl dX6_layLoads_25 ?_
  refine lv_iload hx hb dX6_layLoads_28 (lv_at hl 0 rfl) ?_
  refine x_lald (k := 290) (j := 1) hE hK hI (by decide) (e_290 G o) (by decide) (by decide) rfl dX6_layLoads_30 ?_
  refine lv_aload_n hx hb dX6_layLoads_31 rfl (lv_at hl 2 rfl) ?_
  refine lv_iload hx hb dX6_layLoads_32 (lv_at hl 0 rfl) ?_
  refine lv_iload_n hx hb dX6_layLoads_34 rfl (lv_at hl 3 rfl) ?_
  refine x_callVi (k := 285) hE hK hI (c_X6_shareOf_1_3 l G o _ _  ) mf_X6_shareOf mw_516 (by decide) ((e_285 G o) _ _) rfl rfl hl.1 rfl (Nat.le_of_ble_eq_true rfl) ⟨(Nat.le_of_ble_eq_true rfl), (Nat.le_of_ble_eq_true rfl)⟩ ⟨Nat.zero_le _, Nat.zero_le _⟩ dX6_layLoads_35 (fun H locs hI => ?_)
  refine lv_i2l hx hb dX6_layLoads_38 rfl ?_
  refine lv_lmul hx hb dX6_layLoads_39 ?_
  refine lv_ladd hx hb dX6_layLoads_40 ?_
  refine lv_lstore_n (lv' := [(2, .long ((0 + ((Y 290 0) * ((X 286 3).toInt64))) + ((Y 290 1) * ((X 286 7).toInt64)))), (4, .int 1), (0, .ref (o + 285)), (1, .int 3)]) hx hb dX6_layLoads_41 rfl hl (by decide) rfl (fun ls hl => ?_)
  refine lv_iinc (v := 2) (lv' := [(4, .int 2), (2, .long ((0 + ((Y 290 0) * ((X 286 3).toInt64))) + ((Y 290 1) * ((X 286 7).toInt64)))), (0, .ref (o + 285)), (1, .int 3)]) hx hb dX6_layLoads_42 hl (k := 1) rfl (by decide) (by decide) rfl (fun ls hl => ?_)
  refine lv_goto (tgt := 17) hx hb dX6_layLoads_45 (by decide) ?_
  refine lv_iload hx hb dX6_layLoads_17 (lv_at hl 0 rfl) ?_
  refine lv_iload_n hx hb dX6_layLoads_19 rfl (lv_at hl 3 rfl) ?_
  refine lv_icmp_ge (tgt := 48) hx hb dX6_layLoads_20 (by decide) (fun q => absurd q (by decide)) (fun _ => ?_)
  refine lv_lload_n hx hb dX6_layLoads_23 rfl (lv_at hl 1 rfl) ?_
  refine lv_aload_n hx hb dX6_layLoads_24 rfl (lv_at hl 2 rfl) ?_
  refine x_get (k := 285) hE hK hI (by decide) inG6 (e_285 G o _ _) rfl 4 (by decide) mw_484 rfl dX6_layLoads_25 ?_
  refine lv_iload hx hb dX6_layLoads_28 (lv_at hl 0 rfl) ?_
  refine x_lald (k := 290) (j := 2) hE hK hI (by decide) (e_290 G o) (by decide) (by decide) rfl dX6_layLoads_30 ?_
  refine lv_aload_n hx hb dX6_layLoads_31 rfl (lv_at hl 2 rfl) ?_
  refine lv_iload hx hb dX6_layLoads_32 (lv_at hl 0 rfl) ?_
  refine lv_iload_n hx hb dX6_layLoads_34 rfl (lv_at hl 3 rfl) ?_
  refine x_callVi (k := 285) hE hK hI (c_X6_shareOf_2_3 l G o _ _  ) mf_X6_shareOf mw_516 (by decide) ((e_285 G o) _ _) rfl rfl hl.1 rfl (Nat.le_of_ble_eq_true rfl) ⟨(Nat.le_of_ble_eq_true rfl), (Nat.le_of_ble_eq_true rfl)⟩ ⟨Nat.zero_le _, Nat.zero_le _⟩ dX6_layLoads_35 (fun H locs hI => ?_)
  refine lv_i2l hx hb dX6_layLoads_38 rfl ?_
  refine lv_lmul hx hb dX6_layLoads_39 ?_
  refine lv_ladd hx hb dX6_layLoads_40 ?_
  refine lv_lstore_n (lv' := [(2, .long (((0 + ((Y 290 0) * ((X 286 3).toInt64))) + ((Y 290 1) * ((X 286 7).toInt64))) + ((Y 290 2) * ((X 286 11).toInt64)))), (4, .int 2), (0, .ref (o + 285)), (1, .int 3)]) hx hb dX6_layLoads_41 rfl hl (by decide) rfl (fun ls hl => ?_)
  refine lv_iinc (v := 3) (lv' := [(4, .int 3), (2, .long (((0 + ((Y 290 0) * ((X 286 3).toInt64))) + ((Y 290 1) * ((X 286 7).toInt64))) + ((Y 290 2) * ((X 286 11).toInt64)))), (0, .ref (o + 285)), (1, .int 3)]) hx hb dX6_layLoads_42 hl (k := 1) rfl (by decide) (by decide) rfl (fun ls hl => ?_)
  refine lv_goto (tgt := 17) hx hb dX6_layLoads_45 (by decide) ?_
  refine lv_iload hx hb dX6_layLoads_17 (lv_at hl 0 rfl) ?_
  refine lv_iload_n hx hb dX6_layLoads_19 rfl (lv_at hl 3 rfl) ?_
  refine lv_icmp_ge (tgt := 48) hx hb dX6_layLoads_20 (by decide) (fun _ => ?_) (fun q => absurd (by decide) q)
  refine lv_bipush (v := 100) hx hb dX6_layLoads_48 (by decide) ?_
  refine lv_aload_n hx hb dX6_layLoads_50 rfl (lv_at hl 2 rfl) ?_
  refine lv_iload_n hx hb dX6_layLoads_51 rfl (lv_at hl 3 rfl) ?_
  refine lv_iload_n hx hb dX6_layLoads_52 rfl (lv_at hl 3 rfl) ?_
  refine x_callVi (k := 285) hE hK hI (c_X6_shareOf_3_3 l G o _ _  ) mf_X6_shareOf mw_516 (by decide) ((e_285 G o) _ _) rfl rfl hl.1 rfl (Nat.le_of_ble_eq_true rfl) ⟨(Nat.le_of_ble_eq_true rfl), (Nat.le_of_ble_eq_true rfl)⟩ ⟨Nat.zero_le _, Nat.zero_le _⟩ dX6_layLoads_53 (fun H locs hI => ?_)
  refine lv_aload_n hx hb dX6_layLoads_56 rfl (lv_at hl 2 rfl) ?_
  refine x_get (k := 285) hE hK hI (by decide) inG6 (e_285 G o _ _) rfl 3 (by decide) mw_483 rfl dX6_layLoads_57 ?_
  refine lv_iload_n hx hb dX6_layLoads_60 rfl (lv_at hl 3 rfl) ?_
  refine x_iald (k := 289) (j := 3) hE hK hI (by decide) (e_289 G o) (by decide) (by decide) rfl dX6_layLoads_61 ?_
  refine lv_imul hx hb dX6_layLoads_62 ?_
  refine lv_isub hx hb dX6_layLoads_63 ?_
  refine lv_istore (lv' := [(4, .int (100 - ((X 286 15) * (X 289 3)))), (2, .long (((0 + ((Y 290 0) * ((X 286 3).toInt64))) + ((Y 290 1) * ((X 286 7).toInt64))) + ((Y 290 2) * ((X 286 11).toInt64)))), (0, .ref (o + 285)), (1, .int 3)]) hx hb dX6_layLoads_64 hl (by decide) rfl (fun ls hl => ?_)
  refine lv_ldc2 hx hb hE.2.2.2.1 (hE.2.2.2.2 _ mw_555) dX6_layLoads_66 ?_
  refine lv_aload_n hx hb dX6_layLoads_69 rfl (lv_at hl 2 rfl) ?_
  refine x_get (k := 285) hE hK hI (by decide) inG6 (e_285 G o _ _) rfl 0 (by decide) mw_480 rfl dX6_layLoads_70 ?_
  refine lv_bipush (v := 24) hx hb dX6_layLoads_73 (by decide) ?_
  refine lv_iload_n hx hb dX6_layLoads_75 rfl (lv_at hl 3 rfl) ?_
  refine lv_iadd hx hb dX6_layLoads_76 ?_
  refine lv_topi (fun z1 ez1 => ?_)
  obtain rfl : 27 = z1 := (ez1.trans (by decide)).symm
  refine x_iald (k := 286) (j := 27) hE hK hI (by decide) (e_286 G o) (by decide) (by decide) rfl dX6_layLoads_77 ?_
  refine lv_i2l hx hb dX6_layLoads_78 rfl ?_
  refine lv_lmul hx hb dX6_layLoads_79 ?_
  refine lv_aload_n hx hb dX6_layLoads_80 rfl (lv_at hl 2 rfl) ?_
  refine x_get (k := 285) hE hK hI (by decide) inG6 (e_285 G o _ _) rfl 5 (by decide) mw_485 rfl dX6_layLoads_81 ?_
  refine lv_lmul hx hb dX6_layLoads_84 ?_
  refine lv_aload_n hx hb dX6_layLoads_85 rfl (lv_at hl 2 rfl) ?_
  refine x_get (k := 285) hE hK hI (by decide) inG6 (e_285 G o _ _) rfl 3 (by decide) mw_483 rfl dX6_layLoads_86 ?_
  refine lv_iload_n hx hb dX6_layLoads_89 rfl (lv_at hl 3 rfl) ?_
  refine x_iald (k := 289) (j := 3) hE hK hI (by decide) (e_289 G o) (by decide) (by decide) rfl dX6_layLoads_90 ?_
  refine lv_i2l hx hb dX6_layLoads_91 rfl ?_
  refine lv_lload_n hx hb dX6_layLoads_92 rfl (lv_at hl 1 rfl) ?_
  refine lv_lmul hx hb dX6_layLoads_93 ?_
  refine lv_ladd hx hb dX6_layLoads_94 ?_
  refine lv_lstore (lv' := [(5, .long (((100 * ((X 286 27).toInt64)) * (Y 285 5)) + (((X 289 3).toInt64) * (((0 + ((Y 290 0) * ((X 286 3).toInt64))) + ((Y 290 1) * ((X 286 7).toInt64))) + ((Y 290 2) * ((X 286 11).toInt64)))))), (4, .int (100 - ((X 286 15) * (X 289 3)))), (2, .long (((0 + ((Y 290 0) * ((X 286 3).toInt64))) + ((Y 290 1) * ((X 286 7).toInt64))) + ((Y 290 2) * ((X 286 11).toInt64)))), (0, .ref (o + 285)), (1, .int 3)]) hx hb dX6_layLoads_95 hl (by decide) rfl (fun ls hl => ?_)
  refine lv_iload hx hb dX6_layLoads_97 (lv_at hl 1 rfl) ?_
  refine lv_if_ne (tgt := 132) hx hb dX6_layLoads_99 (by decide) (fun c2 => ?_) (fun c2 => ?_)
  · refine lv_iconst (v := 0) hx hb dX6_layLoads_132 (by decide) ?_
    refine lv_istore (lv' := [(7, .int 0), (5, .long (((100 * ((X 286 27).toInt64)) * (Y 285 5)) + (((X 289 3).toInt64) * (((0 + ((Y 290 0) * ((X 286 3).toInt64))) + ((Y 290 1) * ((X 286 7).toInt64))) + ((Y 290 2) * ((X 286 11).toInt64)))))), (4, .int (100 - ((X 286 15) * (X 289 3)))), (2, .long (((0 + ((Y 290 0) * ((X 286 3).toInt64))) + ((Y 290 1) * ((X 286 7).toInt64))) + ((Y 290 2) * ((X 286 11).toInt64)))), (0, .ref (o + 285)), (1, .int 3)]) hx hb dX6_layLoads_133 hl (by decide) rfl (fun ls hl => ?_)
    refine lv_iload hx hb dX6_layLoads_135 (lv_at hl 0 rfl) ?_
    refine lv_iload_n hx hb dX6_layLoads_137 rfl (lv_at hl 5 rfl) ?_
    refine lv_icmp_ge (tgt := 160) hx hb dX6_layLoads_138 (by decide) (fun q => absurd q (by decide)) (fun _ => ?_)
    refine lv_aload_n hx hb dX6_layLoads_141 rfl (lv_at hl 4 rfl) ?_
    refine x_get (k := 285) hE hK hI (by decide) inG6 (e_285 G o _ _) rfl 4 (by decide) mw_484 rfl dX6_layLoads_142 ?_
    refine lv_iload hx hb dX6_layLoads_145 (lv_at hl 0 rfl) ?_
    refine lv_dup2_11 hx hb dX6_layLoads_147 rfl rfl ?_
    refine x_lald (k := 290) (j := 0) hE hK hI (by decide) (e_290 G o) (by decide) (by decide) rfl dX6_layLoads_148 ?_
    refine lv_iload hx hb dX6_layLoads_149 (lv_at hl 2 rfl) ?_
    refine lv_i2l hx hb dX6_layLoads_151 rfl ?_
    refine lv_lmul hx hb dX6_layLoads_152 ?_
    refine x_last (k := 290) (j := 0) hE hK hI (by decide) (e_290 G o) (by decide) (by decide) rfl dX6_layLoads_153 (fun H locs hI => ?_)
    refine lv_iinc (v := 1) (lv' := [(7, .int 1), (5, .long (((100 * ((X 286 27).toInt64)) * (Y 285 5)) + (((X 289 3).toInt64) * (((0 + ((Y 290 0) * ((X 286 3).toInt64))) + ((Y 290 1) * ((X 286 7).toInt64))) + ((Y 290 2) * ((X 286 11).toInt64)))))), (4, .int (100 - ((X 286 15) * (X 289 3)))), (2, .long (((0 + ((Y 290 0) * ((X 286 3).toInt64))) + ((Y 290 1) * ((X 286 7).toInt64))) + ((Y 290 2) * ((X 286 11).toInt64)))), (0, .ref (o + 285)), (1, .int 3)]) hx hb dX6_layLoads_154 hl (k := 0) rfl (by decide) (by decide) rfl (fun ls hl => ?_)
    refine lv_goto (tgt := 135) hx hb dX6_layLoads_157 (by decide) ?_
    refine lv_iload hx hb dX6_layLoads_135 (lv_at hl 0 rfl) ?_
    refine lv_iload_n hx hb dX6_layLoads_137 rfl (lv_at hl 5 rfl) ?_
    refine lv_icmp_ge (tgt := 160) hx hb dX6_layLoads_138 (by decide) (fun q => absurd q (by decide)) (fun _ => ?_)
    refine lv_aload_n hx hb dX6_layLoads_141 rfl (lv_at hl 4 rfl) ?_
    refine x_get (k := 285) hE hK hI (by decide) inG6 (e_285 G o _ _) rfl 4 (by decide) mw_484 rfl dX6_layLoads_142 ?_
    refine lv_iload hx hb dX6_layLoads_145 (lv_at hl 0 rfl) ?_
    refine lv_dup2_11 hx hb dX6_layLoads_147 rfl rfl ?_
    refine x_lald (k := 290) (j := 1) hE hK hI (by decide) (e_290 G o) (by decide) (by decide) rfl dX6_layLoads_148 ?_
    refine lv_topl (fun z3 ez3 => ?_)
    obtain rfl : Y 290 1 = z3 := (ez3.trans ((sy_o (by decide)))).symm
    refine lv_iload hx hb dX6_layLoads_149 (lv_at hl 2 rfl) ?_
    refine lv_i2l hx hb dX6_layLoads_151 rfl ?_
    refine lv_lmul hx hb dX6_layLoads_152 ?_
    refine x_last (k := 290) (j := 1) hE hK hI (by decide) (e_290 G o) (by decide) (by decide) rfl dX6_layLoads_153 (fun H locs hI => ?_)
    refine lv_iinc (v := 2) (lv' := [(7, .int 2), (5, .long (((100 * ((X 286 27).toInt64)) * (Y 285 5)) + (((X 289 3).toInt64) * (((0 + ((Y 290 0) * ((X 286 3).toInt64))) + ((Y 290 1) * ((X 286 7).toInt64))) + ((Y 290 2) * ((X 286 11).toInt64)))))), (4, .int (100 - ((X 286 15) * (X 289 3)))), (2, .long (((0 + ((Y 290 0) * ((X 286 3).toInt64))) + ((Y 290 1) * ((X 286 7).toInt64))) + ((Y 290 2) * ((X 286 11).toInt64)))), (0, .ref (o + 285)), (1, .int 3)]) hx hb dX6_layLoads_154 hl (k := 0) rfl (by decide) (by decide) rfl (fun ls hl => ?_)
    refine lv_goto (tgt := 135) hx hb dX6_layLoads_157 (by decide) ?_
    refine lv_iload hx hb dX6_layLoads_135 (lv_at hl 0 rfl) ?_
    refine lv_iload_n hx hb dX6_layLoads_137 rfl (lv_at hl 5 rfl) ?_
    refine lv_icmp_ge (tgt := 160) hx hb dX6_layLoads_138 (by decide) (fun q => absurd q (by decide)) (fun _ => ?_)
    refine lv_aload_n hx hb dX6_layLoads_141 rfl (lv_at hl 4 rfl) ?_
    refine x_get (k := 285) hE hK hI (by decide) inG6 (e_285 G o _ _) rfl 4 (by decide) mw_484 rfl dX6_layLoads_142 ?_
    refine lv_iload hx hb dX6_layLoads_145 (lv_at hl 0 rfl) ?_
    refine lv_dup2_11 hx hb dX6_layLoads_147 rfl rfl ?_
    refine x_lald (k := 290) (j := 2) hE hK hI (by decide) (e_290 G o) (by decide) (by decide) rfl dX6_layLoads_148 ?_
    refine lv_topl (fun z4 ez4 => ?_)
    obtain rfl : Y 290 2 = z4 := (ez4.trans ((sy_o (by decide)).trans ((sy_o (by decide))))).symm
    refine lv_iload hx hb dX6_layLoads_149 (lv_at hl 2 rfl) ?_
    refine lv_i2l hx hb dX6_layLoads_151 rfl ?_
    refine lv_lmul hx hb dX6_layLoads_152 ?_
    refine x_last (k := 290) (j := 2) hE hK hI (by decide) (e_290 G o) (by decide) (by decide) rfl dX6_layLoads_153 (fun H locs hI => ?_)
    refine lv_iinc (v := 3) (lv' := [(7, .int 3), (5, .long (((100 * ((X 286 27).toInt64)) * (Y 285 5)) + (((X 289 3).toInt64) * (((0 + ((Y 290 0) * ((X 286 3).toInt64))) + ((Y 290 1) * ((X 286 7).toInt64))) + ((Y 290 2) * ((X 286 11).toInt64)))))), (4, .int (100 - ((X 286 15) * (X 289 3)))), (2, .long (((0 + ((Y 290 0) * ((X 286 3).toInt64))) + ((Y 290 1) * ((X 286 7).toInt64))) + ((Y 290 2) * ((X 286 11).toInt64)))), (0, .ref (o + 285)), (1, .int 3)]) hx hb dX6_layLoads_154 hl (k := 0) rfl (by decide) (by decide) rfl (fun ls hl => ?_)
    refine lv_goto (tgt := 135) hx hb dX6_layLoads_157 (by decide) ?_
    refine lv_iload hx hb dX6_layLoads_135 (lv_at hl 0 rfl) ?_
    refine lv_iload_n hx hb dX6_layLoads_137 rfl (lv_at hl 5 rfl) ?_
    refine lv_icmp_ge (tgt := 160) hx hb dX6_layLoads_138 (by decide) (fun _ => ?_) (fun q => absurd (by decide) q)
    refine lv_aload_n hx hb dX6_layLoads_160 rfl (lv_at hl 4 rfl) ?_
    refine x_get (k := 285) hE hK hI (by decide) inG6 (e_285 G o _ _) rfl 4 (by decide) mw_484 rfl dX6_layLoads_161 ?_
    refine lv_iload_n hx hb dX6_layLoads_164 rfl (lv_at hl 5 rfl) ?_
    refine lv_lload hx hb dX6_layLoads_165 (lv_at hl 1 rfl) ?_
    refine x_last (k := 290) (j := 3) hE hK hI (by decide) (e_290 G o) (by decide) (by decide) rfl dX6_layLoads_167 (fun H locs hI => ?_)
    refine lv_aload_n hx hb dX6_layLoads_168 rfl (lv_at hl 4 rfl) ?_
    refine lv_dup hx hb dX6_layLoads_169 rfl ?_
    refine x_get (k := 285) hE hK hI (by decide) inG6 (e_285 G o _ _) rfl 5 (by decide) mw_485 rfl dX6_layLoads_170 ?_
    refine lv_topl (fun z5 ez5 => ?_)
    obtain rfl : Y 285 5 = z5 := (ez5.trans ((sy_o (by decide)).trans ((sy_o (by decide)).trans ((sy_o (by decide)).trans ((sy_o (by decide))))))).symm
    refine lv_iload hx hb dX6_layLoads_173 (lv_at hl 2 rfl) ?_
    refine lv_i2l hx hb dX6_layLoads_175 rfl ?_
    refine lv_lmul hx hb dX6_layLoads_176 ?_
    refine x_putl (k := 285) hE hK hI (by decide) inG6 tyX6 tyX6_ok nmX6 (e_285 G o) rfl 5 (by decide) mw_485 rfl (by decide +kernel) (by exact Nat.le_of_ble_eq_true rfl) rfl dX6_layLoads_177 (fun H locs hI => ?_)
    refine lv_iinc (v := 4) (lv' := [(1, .int 4), (7, .int 3), (5, .long (((100 * ((X 286 27).toInt64)) * (Y 285 5)) + (((X 289 3).toInt64) * (((0 + ((Y 290 0) * ((X 286 3).toInt64))) + ((Y 290 1) * ((X 286 7).toInt64))) + ((Y 290 2) * ((X 286 11).toInt64)))))), (4, .int (100 - ((X 286 15) * (X 289 3)))), (2, .long (((0 + ((Y 290 0) * ((X 286 3).toInt64))) + ((Y 290 1) * ((X 286 7).toInt64))) + ((Y 290 2) * ((X 286 11).toInt64)))), (0, .ref (o + 285))]) hx hb dX6_layLoads_180 hl (k := 5) rfl (by decide) (by decide) rfl (fun ls hl => ?_)
    refine lv_goto (tgt := 7) hx hb dX6_layLoads_183 (by decide) ?_
    have e1 : llr3 X Y = llr4 X (sy (sy (sy (sy (sy Y 290 0 ((Y 290 0) * ((100 - ((X 286 15) * (X 289 3))).toInt64))) 290 1 ((Y 290 1) * ((100 - ((X 286 15) * (X 289 3))).toInt64))) 290 2 ((Y 290 2) * ((100 - ((X 286 15) * (X 289 3))).toInt64))) 290 3 (((100 * ((X 286 27).toInt64)) * (Y 285 5)) + (((X 289 3).toInt64) * (((0 + ((Y 290 0) * ((X 286 3).toInt64))) + ((Y 290 1) * ((X 286 7).toInt64))) + ((Y 290 2) * ((X 286 11).toInt64)))))) 285 5 ((Y 285 5) * ((100 - ((X 286 15) * (X 289 3))).toInt64))) := if_neg c2
    have e3 : llY3 X Y = llY4 X (sy (sy (sy (sy (sy Y 290 0 ((Y 290 0) * ((100 - ((X 286 15) * (X 289 3))).toInt64))) 290 1 ((Y 290 1) * ((100 - ((X 286 15) * (X 289 3))).toInt64))) 290 2 ((Y 290 2) * ((100 - ((X 286 15) * (X 289 3))).toInt64))) 290 3 (((100 * ((X 286 27).toInt64)) * (Y 285 5)) + (((X 289 3).toInt64) * (((0 + ((Y 290 0) * ((X 286 3).toInt64))) + ((Y 290 1) * ((X 286 7).toInt64))) + ((Y 290 2) * ((X 286 11).toInt64)))))) 285 5 ((Y 285 5) * ((100 - ((X 286 15) * (X 289 3))).toInt64))) := if_neg c2
    rw [e1, e3]
    exact hd_ll4 l G o _ _ hE hr hlocks hK H locs hI ls (lv_sub hl [5, 0] rfl)
  · refine lv_aload_n hx hb dX6_layLoads_102 rfl (lv_at hl 3 rfl) ?_
    refine x_get (k := 285) hE hK hI (by decide) inG6 (e_285 G o _ _) rfl 0 (by decide) mw_480 rfl dX6_layLoads_103 ?_
    refine lv_bipush (v := 24) hx hb dX6_layLoads_106 (by decide) ?_
    refine lv_iload_n hx hb dX6_layLoads_108 rfl (lv_at hl 4 rfl) ?_
    refine lv_iadd hx hb dX6_layLoads_109 ?_
    refine lv_topi (fun z6 ez6 => ?_)
    obtain rfl : 27 = z6 := (ez6.trans (by decide)).symm
    refine x_iald (k := 286) (j := 27) hE hK hI (by decide) (e_286 G o) (by decide) (by decide) rfl dX6_layLoads_110 ?_
    refine lv_if_gt (tgt := 120) hx hb dX6_layLoads_111 (by decide) (fun c7 => ?_) (fun c7 => ?_)
    · refine lv_iconst (v := 0) hx hb dX6_layLoads_120 (by decide) ?_
      exact x_zret hE hr hlocks hI (by decide) (congrArg (fun q => some (Value.int q)) ((if_pos c2).trans (if_pos c7))) rfl (((if_pos c2).trans (if_pos c7)).symm) dX6_layLoads_121
    · refine lv_lload_n hx hb dX6_layLoads_114 rfl (lv_at hl 2 rfl) ?_
      refine lv_lconst (v := 0) hx hb dX6_layLoads_115 (by decide) ?_
      refine W.lcmp hx hb dX6_layLoads_116 ?_
      refine lv_if_le (tgt := 122) hx hb dX6_layLoads_117 (by decide) (fun c8 => ?_) (fun c8 => ?_)
      · have c8 := (lg_cmp_le _ _).mp c8
        refine lv_aload_n hx hb dX6_layLoads_122 rfl (lv_at hl 3 rfl) ?_
        refine x_get (k := 285) hE hK hI (by decide) inG6 (e_285 G o _ _) rfl 4 (by decide) mw_484 rfl dX6_layLoads_123 ?_
        refine lv_iload_n hx hb dX6_layLoads_126 rfl (lv_at hl 4 rfl) ?_
        refine lv_lconst (v := 0) hx hb dX6_layLoads_127 (by decide) ?_
        refine x_last (k := 290) (j := 3) hE hK hI (by decide) (e_290 G o) (by decide) (by decide) rfl dX6_layLoads_128 (fun H locs hI => ?_)
        refine lv_goto (tgt := 180) hx hb dX6_layLoads_129 (by decide) ?_
        refine lv_iinc (v := 4) (lv' := [(1, .int 4), (5, .long (((100 * ((X 286 27).toInt64)) * (Y 285 5)) + (((X 289 3).toInt64) * (((0 + ((Y 290 0) * ((X 286 3).toInt64))) + ((Y 290 1) * ((X 286 7).toInt64))) + ((Y 290 2) * ((X 286 11).toInt64)))))), (4, .int (100 - ((X 286 15) * (X 289 3)))), (2, .long (((0 + ((Y 290 0) * ((X 286 3).toInt64))) + ((Y 290 1) * ((X 286 7).toInt64))) + ((Y 290 2) * ((X 286 11).toInt64)))), (0, .ref (o + 285))]) hx hb dX6_layLoads_180 hl (k := 4) rfl (by decide) (by decide) rfl (fun ls hl => ?_)
        refine lv_goto (tgt := 7) hx hb dX6_layLoads_183 (by decide) ?_
        have e1 : llr3 X Y = llr4 X (sy Y 290 3 0) := (if_pos c2).trans ((if_neg c7).trans (if_pos c8))
        have e3 : llY3 X Y = llY4 X (sy Y 290 3 0) := (if_pos c2).trans ((if_neg c7).trans (if_pos c8))
        rw [e1, e3]
        exact hd_ll4 l G o _ _ hE hr hlocks hK H locs hI ls (lv_sub hl [4, 0] rfl)
      · have c8 := mt (lg_cmp_le _ _).mpr c8
        refine lv_iconst (v := 0) hx hb dX6_layLoads_120 (by decide) ?_
        exact x_zret hE hr hlocks hI (by decide) (congrArg (fun q => some (Value.int q)) ((if_pos c2).trans ((if_neg c7).trans (if_neg c8)))) rfl (((if_pos c2).trans ((if_neg c7).trans (if_neg c8))).symm) dX6_layLoads_121
def llr2 (X : SX) (Y : SY) : Int32 := if 100 - ((X 286 10) * (X 289 2)) = 0 then (if 0 < X 286 26 then (0) else (if (0 + ((Y 290 0) * ((X 286 2).toInt64))) + ((Y 290 1) * ((X 286 6).toInt64)) ≤ 0 then (llr3 X (sy Y 290 2 0)) else (0))) else (llr3 X (sy (sy (sy (sy Y 290 0 ((Y 290 0) * ((100 - ((X 286 10) * (X 289 2))).toInt64))) 290 1 ((Y 290 1) * ((100 - ((X 286 10) * (X 289 2))).toInt64))) 290 2 (((100 * ((X 286 26).toInt64)) * (Y 285 5)) + (((X 289 2).toInt64) * ((0 + ((Y 290 0) * ((X 286 2).toInt64))) + ((Y 290 1) * ((X 286 6).toInt64)))))) 285 5 ((Y 285 5) * ((100 - ((X 286 10) * (X 289 2))).toInt64))))
def llY2 (X : SX) (Y : SY) : SY := if 100 - ((X 286 10) * (X 289 2)) = 0 then (if 0 < X 286 26 then (Y) else (if (0 + ((Y 290 0) * ((X 286 2).toInt64))) + ((Y 290 1) * ((X 286 6).toInt64)) ≤ 0 then (llY3 X (sy Y 290 2 0)) else (Y))) else (llY3 X (sy (sy (sy (sy Y 290 0 ((Y 290 0) * ((100 - ((X 286 10) * (X 289 2))).toInt64))) 290 1 ((Y 290 1) * ((100 - ((X 286 10) * (X 289 2))).toInt64))) 290 2 (((100 * ((X 286 26).toInt64)) * (Y 285 5)) + (((X 289 2).toInt64) * ((0 + ((Y 290 0) * ((X 286 2).toInt64))) + ((Y 290 1) * ((X 286 6).toInt64)))))) 285 5 ((Y 285 5) * ((100 - ((X 286 10) * (X 289 2))).toInt64))))
set_option maxRecDepth 100000 in
set_option maxHeartbeats 4000000 in
theorem hd_ll2 (l : Launch) (G : GG) (o : Nat) (X : SX) (Y : SY) {p9 : Program} {e9 : Env} {s9 : State} {m9 : MethodId} {args9 : Array Value} {below9 : List Frame} {meth9 : Method} {c9 : Code} (hE : gE p9 m9 c9 cX6_layLoads 8 s9 args9 yX6_layLoads.cls) (hr : meth9.sig.returnType = (some .boolean)) (hlocks : meth9.locks = false) (hK : KK G s9) (H : Heap) (locs : List Loc) (hI : In G o X Y s9.heap H locs) (ls : Array Slot) (hl : lv_has ls 8 [(0, .ref (o + 285)), (1, .int 2)]) :
    W p9 l e9 (Rm 1 22) s9 m9 args9 below9 meth9 c9 H locs 0 0 (MQ below9 (Qw G o (some (.int (llr2 X Y))) X (llY2 X Y)) args9 s9 0 0 (rg o)) (F0 m9 7 ls []) := by
  have hx := hE.1
  have hb := hE.2.1
  refine lv_iload_n hx hb dX6_layLoads_7 rfl (lv_at hl 1 rfl) ?_
  refine lv_iconst (v := 4) hx hb dX6_layLoads_8 (by decide) ?_
  refine lv_icmp_ge (tgt := 186) hx hb dX6_layLoads_9 (by decide) (fun q => absurd q (by decide)) (fun _ => ?_)
  refine lv_lconst (v := 0) hx hb dX6_layLoads_12 (by decide) ?_
  refine lv_lstore_n (lv' := [(2, .long 0), (0, .ref (o + 285)), (1, .int 2)]) hx hb dX6_layLoads_13 rfl hl (by decide) rfl (fun ls hl => ?_)
  refine lv_iconst (v := 0) hx hb dX6_layLoads_14 (by decide) ?_
  refine lv_istore (lv' := [(4, .int 0), (2, .long 0), (0, .ref (o + 285)), (1, .int 2)]) hx hb dX6_layLoads_15 hl (by decide) rfl (fun ls hl => ?_)
  refine lv_iload hx hb dX6_layLoads_17 (lv_at hl 0 rfl) ?_
  refine lv_iload_n hx hb dX6_layLoads_19 rfl (lv_at hl 3 rfl) ?_
  refine lv_icmp_ge (tgt := 48) hx hb dX6_layLoads_20 (by decide) (fun q => absurd q (by decide)) (fun _ => ?_)
  refine lv_lload_n hx hb dX6_layLoads_23 rfl (lv_at hl 1 rfl) ?_
  refine lv_aload_n hx hb dX6_layLoads_24 rfl (lv_at hl 2 rfl) ?_
  refine x_get (k := 285) hE hK hI (by decide) inG6 (e_285 G o _ _) rfl 4 (by decide) mw_484 rfl dX6_layLoads_25 ?_
  refine lv_iload hx hb dX6_layLoads_28 (lv_at hl 0 rfl) ?_
  refine x_lald (k := 290) (j := 0) hE hK hI (by decide) (e_290 G o) (by decide) (by decide) rfl dX6_layLoads_30 ?_
  refine lv_aload_n hx hb dX6_layLoads_31 rfl (lv_at hl 2 rfl) ?_
  refine lv_iload hx hb dX6_layLoads_32 (lv_at hl 0 rfl) ?_
  refine lv_iload_n hx hb dX6_layLoads_34 rfl (lv_at hl 3 rfl) ?_
  refine x_callVi (k := 285) hE hK hI (c_X6_shareOf_0_2 l G o _ _  ) mf_X6_shareOf mw_516 (by decide) ((e_285 G o) _ _) rfl rfl hl.1 rfl (Nat.le_of_ble_eq_true rfl) ⟨(Nat.le_of_ble_eq_true rfl), (Nat.le_of_ble_eq_true rfl)⟩ ⟨Nat.zero_le _, Nat.zero_le _⟩ dX6_layLoads_35 (fun H locs hI => ?_)
  refine lv_i2l hx hb dX6_layLoads_38 rfl ?_
  refine lv_lmul hx hb dX6_layLoads_39 ?_
  refine lv_ladd hx hb dX6_layLoads_40 ?_
  refine lv_lstore_n (lv' := [(2, .long (0 + ((Y 290 0) * ((X 286 2).toInt64)))), (4, .int 0), (0, .ref (o + 285)), (1, .int 2)]) hx hb dX6_layLoads_41 rfl hl (by decide) rfl (fun ls hl => ?_)
  refine lv_iinc (v := 1) (lv' := [(4, .int 1), (2, .long (0 + ((Y 290 0) * ((X 286 2).toInt64)))), (0, .ref (o + 285)), (1, .int 2)]) hx hb dX6_layLoads_42 hl (k := 1) rfl (by decide) (by decide) rfl (fun ls hl => ?_)
  refine lv_goto (tgt := 17) hx hb dX6_layLoads_45 (by decide) ?_
  refine lv_iload hx hb dX6_layLoads_17 (lv_at hl 0 rfl) ?_
  refine lv_iload_n hx hb dX6_layLoads_19 rfl (lv_at hl 3 rfl) ?_
  refine lv_icmp_ge (tgt := 48) hx hb dX6_layLoads_20 (by decide) (fun q => absurd q (by decide)) (fun _ => ?_)
  refine lv_lload_n hx hb dX6_layLoads_23 rfl (lv_at hl 1 rfl) ?_
  refine lv_aload_n hx hb dX6_layLoads_24 rfl (lv_at hl 2 rfl) ?_
  refine x_get (k := 285) hE hK hI (by decide) inG6 (e_285 G o _ _) rfl 4 (by decide) mw_484 rfl dX6_layLoads_25 ?_
  refine lv_iload hx hb dX6_layLoads_28 (lv_at hl 0 rfl) ?_
  refine x_lald (k := 290) (j := 1) hE hK hI (by decide) (e_290 G o) (by decide) (by decide) rfl dX6_layLoads_30 ?_
  refine lv_aload_n hx hb dX6_layLoads_31 rfl (lv_at hl 2 rfl) ?_
  refine lv_iload hx hb dX6_layLoads_32 (lv_at hl 0 rfl) ?_
  refine lv_iload_n hx hb dX6_layLoads_34 rfl (lv_at hl 3 rfl) ?_
  refine x_callVi (k := 285) hE hK hI (c_X6_shareOf_1_2 l G o _ _  ) mf_X6_shareOf mw_516 (by decide) ((e_285 G o) _ _) rfl rfl hl.1 rfl (Nat.le_of_ble_eq_true rfl) ⟨(Nat.le_of_ble_eq_true rfl), (Nat.le_of_ble_eq_true rfl)⟩ ⟨Nat.zero_le _, Nat.zero_le _⟩ dX6_layLoads_35 (fun H locs hI => ?_)
  refine lv_i2l hx hb dX6_layLoads_38 rfl ?_
  refine lv_lmul hx hb dX6_layLoads_39 ?_
  refine lv_ladd hx hb dX6_layLoads_40 ?_
  refine lv_lstore_n (lv' := [(2, .long ((0 + ((Y 290 0) * ((X 286 2).toInt64))) + ((Y 290 1) * ((X 286 6).toInt64)))), (4, .int 1), (0, .ref (o + 285)), (1, .int 2)]) hx hb dX6_layLoads_41 rfl hl (by decide) rfl (fun ls hl => ?_)
  refine lv_iinc (v := 2) (lv' := [(4, .int 2), (2, .long ((0 + ((Y 290 0) * ((X 286 2).toInt64))) + ((Y 290 1) * ((X 286 6).toInt64)))), (0, .ref (o + 285)), (1, .int 2)]) hx hb dX6_layLoads_42 hl (k := 1) rfl (by decide) (by decide) rfl (fun ls hl => ?_)
  refine lv_goto (tgt := 17) hx hb dX6_layLoads_45 (by decide) ?_
  refine lv_iload hx hb dX6_layLoads_17 (lv_at hl 0 rfl) ?_
  refine lv_iload_n hx hb dX6_layLoads_19 rfl (lv_at hl 3 rfl) ?_
  refine lv_icmp_ge (tgt := 48) hx hb dX6_layLoads_20 (by decide) (fun _ => ?_) (fun q => absurd (by decide) q)
  refine lv_bipush (v := 100) hx hb dX6_layLoads_48 (by decide) ?_
  refine lv_aload_n hx hb dX6_layLoads_50 rfl (lv_at hl 2 rfl) ?_
  refine lv_iload_n hx hb dX6_layLoads_51 rfl (lv_at hl 3 rfl) ?_
  refine lv_iload_n hx hb dX6_layLoads_52 rfl (lv_at hl 3 rfl) ?_
  refine x_callVi (k := 285) hE hK hI (c_X6_shareOf_2_2 l G o _ _  ) mf_X6_shareOf mw_516 (by decide) ((e_285 G o) _ _) rfl rfl hl.1 rfl (Nat.le_of_ble_eq_true rfl) ⟨(Nat.le_of_ble_eq_true rfl), (Nat.le_of_ble_eq_true rfl)⟩ ⟨Nat.zero_le _, Nat.zero_le _⟩ dX6_layLoads_53 (fun H locs hI => ?_)
  refine lv_aload_n hx hb dX6_layLoads_56 rfl (lv_at hl 2 rfl) ?_
  refine x_get (k := 285) hE hK hI (by decide) inG6 (e_285 G o _ _) rfl 3 (by decide) mw_483 rfl dX6_layLoads_57 ?_
  refine lv_iload_n hx hb dX6_layLoads_60 rfl (lv_at hl 3 rfl) ?_
  refine x_iald (k := 289) (j := 2) hE hK hI (by decide) (e_289 G o) (by decide) (by decide) rfl dX6_layLoads_61 ?_
  refine lv_imul hx hb dX6_layLoads_62 ?_
  refine lv_isub hx hb dX6_layLoads_63 ?_
  refine lv_istore (lv' := [(4, .int (100 - ((X 286 10) * (X 289 2)))), (2, .long ((0 + ((Y 290 0) * ((X 286 2).toInt64))) + ((Y 290 1) * ((X 286 6).toInt64)))), (0, .ref (o + 285)), (1, .int 2)]) hx hb dX6_layLoads_64 hl (by decide) rfl (fun ls hl => ?_)
  refine lv_ldc2 hx hb hE.2.2.2.1 (hE.2.2.2.2 _ mw_555) dX6_layLoads_66 ?_
  refine lv_aload_n hx hb dX6_layLoads_69 rfl (lv_at hl 2 rfl) ?_
  refine x_get (k := 285) hE hK hI (by decide) inG6 (e_285 G o _ _) rfl 0 (by decide) mw_480 rfl dX6_layLoads_70 ?_
  refine lv_bipush (v := 24) hx hb dX6_layLoads_73 (by decide) ?_
  refine lv_iload_n hx hb dX6_layLoads_75 rfl (lv_at hl 3 rfl) ?_
  refine lv_iadd hx hb dX6_layLoads_76 ?_
  refine lv_topi (fun z1 ez1 => ?_)
  obtain rfl : 26 = z1 := (ez1.trans (by decide)).symm
  refine x_iald (k := 286) (j := 26) hE hK hI (by decide) (e_286 G o) (by decide) (by decide) rfl dX6_layLoads_77 ?_
  refine lv_i2l hx hb dX6_layLoads_78 rfl ?_
  refine lv_lmul hx hb dX6_layLoads_79 ?_
  refine lv_aload_n hx hb dX6_layLoads_80 rfl (lv_at hl 2 rfl) ?_
  refine x_get (k := 285) hE hK hI (by decide) inG6 (e_285 G o _ _) rfl 5 (by decide) mw_485 rfl dX6_layLoads_81 ?_
  refine lv_lmul hx hb dX6_layLoads_84 ?_
  refine lv_aload_n hx hb dX6_layLoads_85 rfl (lv_at hl 2 rfl) ?_
  refine x_get (k := 285) hE hK hI (by decide) inG6 (e_285 G o _ _) rfl 3 (by decide) mw_483 rfl dX6_layLoads_86 ?_
  refine lv_iload_n hx hb dX6_layLoads_89 rfl (lv_at hl 3 rfl) ?_
  refine x_iald (k := 289) (j := 2) hE hK hI (by decide) (e_289 G o) (by decide) (by decide) rfl dX6_layLoads_90 ?_
  refine lv_i2l hx hb dX6_layLoads_91 rfl ?_
  refine lv_lload_n hx hb dX6_layLoads_92 rfl (lv_at hl 1 rfl) ?_
  refine lv_lmul hx hb dX6_layLoads_93 ?_
  refine lv_ladd hx hb dX6_layLoads_94 ?_
  refine lv_lstore (lv' := [(5, .long (((100 * ((X 286 26).toInt64)) * (Y 285 5)) + (((X 289 2).toInt64) * ((0 + ((Y 290 0) * ((X 286 2).toInt64))) + ((Y 290 1) * ((X 286 6).toInt64)))))), (4, .int (100 - ((X 286 10) * (X 289 2)))), (2, .long ((0 + ((Y 290 0) * ((X 286 2).toInt64))) + ((Y 290 1) * ((X 286 6).toInt64)))), (0, .ref (o + 285)), (1, .int 2)]) hx hb dX6_layLoads_95 hl (by decide) rfl (fun ls hl => ?_)
  refine lv_iload hx hb dX6_layLoads_97 (lv_at hl 1 rfl) ?_
  refine lv_if_ne (tgt := 132) hx hb dX6_layLoads_99 (by decide) (fun c2 => ?_) (fun c2 => ?_)
  · refine lv_iconst (v := 0) hx hb dX6_layLoads_132 (by decide) ?_
    refine lv_istore (lv' := [(7, .int 0), (5, .long (((100 * ((X 286 26).toInt64)) * (Y 285 5)) + (((X 289 2).toInt64) * ((0 + ((Y 290 0) * ((X 286 2).toInt64))) + ((Y 290 1) * ((X 286 6).toInt64)))))), (4, .int (100 - ((X 286 10) * (X 289 2)))), (2, .long ((0 + ((Y 290 0) * ((X 286 2).toInt64))) + ((Y 290 1) * ((X 286 6).toInt64)))), (0, .ref (o + 285)), (1, .int 2)]) hx hb dX6_layLoads_133 hl (by decide) rfl (fun ls hl => ?_)
    refine lv_iload hx hb dX6_layLoads_135 (lv_at hl 0 rfl) ?_
    refine lv_iload_n hx hb dX6_layLoads_137 rfl (lv_at hl 5 rfl) ?_
    refine lv_icmp_ge (tgt := 160) hx hb dX6_layLoads_138 (by decide) (fun q => absurd q (by decide)) (fun _ => ?_)
    refine lv_aload_n hx hb dX6_layLoads_141 rfl (lv_at hl 4 rfl) ?_
    refine x_get (k := 285) hE hK hI (by decide) inG6 (e_285 G o _ _) rfl 4 (by decide) mw_484 rfl dX6_layLoads_142 ?_
    refine lv_iload hx hb dX6_layLoads_145 (lv_at hl 0 rfl) ?_
    refine lv_dup2_11 hx hb dX6_layLoads_147 rfl rfl ?_
    refine x_lald (k := 290) (j := 0) hE hK hI (by decide) (e_290 G o) (by decide) (by decide) rfl dX6_layLoads_148 ?_
    refine lv_iload hx hb dX6_layLoads_149 (lv_at hl 2 rfl) ?_
    refine lv_i2l hx hb dX6_layLoads_151 rfl ?_
    refine lv_lmul hx hb dX6_layLoads_152 ?_
    refine x_last (k := 290) (j := 0) hE hK hI (by decide) (e_290 G o) (by decide) (by decide) rfl dX6_layLoads_153 (fun H locs hI => ?_)
    refine lv_iinc (v := 1) (lv' := [(7, .int 1), (5, .long (((100 * ((X 286 26).toInt64)) * (Y 285 5)) + (((X 289 2).toInt64) * ((0 + ((Y 290 0) * ((X 286 2).toInt64))) + ((Y 290 1) * ((X 286 6).toInt64)))))), (4, .int (100 - ((X 286 10) * (X 289 2)))), (2, .long ((0 + ((Y 290 0) * ((X 286 2).toInt64))) + ((Y 290 1) * ((X 286 6).toInt64)))), (0, .ref (o + 285)), (1, .int 2)]) hx hb dX6_layLoads_154 hl (k := 0) rfl (by decide) (by decide) rfl (fun ls hl => ?_)
    refine lv_goto (tgt := 135) hx hb dX6_layLoads_157 (by decide) ?_
    refine lv_iload hx hb dX6_layLoads_135 (lv_at hl 0 rfl) ?_
    refine lv_iload_n hx hb dX6_layLoads_137 rfl (lv_at hl 5 rfl) ?_
    refine lv_icmp_ge (tgt := 160) hx hb dX6_layLoads_138 (by decide) (fun q => absurd q (by decide)) (fun _ => ?_)
    refine lv_aload_n hx hb dX6_layLoads_141 rfl (lv_at hl 4 rfl) ?_
    refine x_get (k := 285) hE hK hI (by decide) inG6 (e_285 G o _ _) rfl 4 (by decide) mw_484 rfl dX6_layLoads_142 ?_
    refine lv_iload hx hb dX6_layLoads_145 (lv_at hl 0 rfl) ?_
    refine lv_dup2_11 hx hb dX6_layLoads_147 rfl rfl ?_
    refine x_lald (k := 290) (j := 1) hE hK hI (by decide) (e_290 G o) (by decide) (by decide) rfl dX6_layLoads_148 ?_
    refine lv_topl (fun z3 ez3 => ?_)
    obtain rfl : Y 290 1 = z3 := (ez3.trans ((sy_o (by decide)))).symm
    refine lv_iload hx hb dX6_layLoads_149 (lv_at hl 2 rfl) ?_
    refine lv_i2l hx hb dX6_layLoads_151 rfl ?_
    refine lv_lmul hx hb dX6_layLoads_152 ?_
    refine x_last (k := 290) (j := 1) hE hK hI (by decide) (e_290 G o) (by decide) (by decide) rfl dX6_layLoads_153 (fun H locs hI => ?_)
    refine lv_iinc (v := 2) (lv' := [(7, .int 2), (5, .long (((100 * ((X 286 26).toInt64)) * (Y 285 5)) + (((X 289 2).toInt64) * ((0 + ((Y 290 0) * ((X 286 2).toInt64))) + ((Y 290 1) * ((X 286 6).toInt64)))))), (4, .int (100 - ((X 286 10) * (X 289 2)))), (2, .long ((0 + ((Y 290 0) * ((X 286 2).toInt64))) + ((Y 290 1) * ((X 286 6).toInt64)))), (0, .ref (o + 285)), (1, .int 2)]) hx hb dX6_layLoads_154 hl (k := 0) rfl (by decide) (by decide) rfl (fun ls hl => ?_)
    refine lv_goto (tgt := 135) hx hb dX6_layLoads_157 (by decide) ?_
    refine lv_iload hx hb dX6_layLoads_135 (lv_at hl 0 rfl) ?_
    refine lv_iload_n hx hb dX6_layLoads_137 rfl (lv_at hl 5 rfl) ?_
    refine lv_icmp_ge (tgt := 160) hx hb dX6_layLoads_138 (by decide) (fun _ => ?_) (fun q => absurd (by decide) q)
    refine lv_aload_n hx hb dX6_layLoads_160 rfl (lv_at hl 4 rfl) ?_
    refine x_get (k := 285) hE hK hI (by decide) inG6 (e_285 G o _ _) rfl 4 (by decide) mw_484 rfl dX6_layLoads_161 ?_
    refine lv_iload_n hx hb dX6_layLoads_164 rfl (lv_at hl 5 rfl) ?_
    refine lv_lload hx hb dX6_layLoads_165 (lv_at hl 1 rfl) ?_
    refine x_last (k := 290) (j := 2) hE hK hI (by decide) (e_290 G o) (by decide) (by decide) rfl dX6_layLoads_167 (fun H locs hI => ?_)
    refine lv_aload_n hx hb dX6_layLoads_168 rfl (lv_at hl 4 rfl) ?_
    refine lv_dup hx hb dX6_layLoads_169 rfl ?_
    refine x_get (k := 285) hE hK hI (by decide) inG6 (e_285 G o _ _) rfl 5 (by decide) mw_485 rfl dX6_layLoads_170 ?_
    refine lv_topl (fun z4 ez4 => ?_)
    obtain rfl : Y 285 5 = z4 := (ez4.trans ((sy_o (by decide)).trans ((sy_o (by decide)).trans ((sy_o (by decide)))))).symm
    refine lv_iload hx hb dX6_layLoads_173 (lv_at hl 2 rfl) ?_
    refine lv_i2l hx hb dX6_layLoads_175 rfl ?_
    refine lv_lmul hx hb dX6_layLoads_176 ?_
    refine x_putl (k := 285) hE hK hI (by decide) inG6 tyX6 tyX6_ok nmX6 (e_285 G o) rfl 5 (by decide) mw_485 rfl (by decide +kernel) (by exact Nat.le_of_ble_eq_true rfl) rfl dX6_layLoads_177 (fun H locs hI => ?_)
    refine lv_iinc (v := 3) (lv' := [(1, .int 3), (7, .int 2), (5, .long (((100 * ((X 286 26).toInt64)) * (Y 285 5)) + (((X 289 2).toInt64) * ((0 + ((Y 290 0) * ((X 286 2).toInt64))) + ((Y 290 1) * ((X 286 6).toInt64)))))), (4, .int (100 - ((X 286 10) * (X 289 2)))), (2, .long ((0 + ((Y 290 0) * ((X 286 2).toInt64))) + ((Y 290 1) * ((X 286 6).toInt64)))), (0, .ref (o + 285))]) hx hb dX6_layLoads_180 hl (k := 5) rfl (by decide) (by decide) rfl (fun ls hl => ?_)
    refine lv_goto (tgt := 7) hx hb dX6_layLoads_183 (by decide) ?_
    have e1 : llr2 X Y = llr3 X (sy (sy (sy (sy Y 290 0 ((Y 290 0) * ((100 - ((X 286 10) * (X 289 2))).toInt64))) 290 1 ((Y 290 1) * ((100 - ((X 286 10) * (X 289 2))).toInt64))) 290 2 (((100 * ((X 286 26).toInt64)) * (Y 285 5)) + (((X 289 2).toInt64) * ((0 + ((Y 290 0) * ((X 286 2).toInt64))) + ((Y 290 1) * ((X 286 6).toInt64)))))) 285 5 ((Y 285 5) * ((100 - ((X 286 10) * (X 289 2))).toInt64))) := if_neg c2
    have e3 : llY2 X Y = llY3 X (sy (sy (sy (sy Y 290 0 ((Y 290 0) * ((100 - ((X 286 10) * (X 289 2))).toInt64))) 290 1 ((Y 290 1) * ((100 - ((X 286 10) * (X 289 2))).toInt64))) 290 2 (((100 * ((X 286 26).toInt64)) * (Y 285 5)) + (((X 289 2).toInt64) * ((0 + ((Y 290 0) * ((X 286 2).toInt64))) + ((Y 290 1) * ((X 286 6).toInt64)))))) 285 5 ((Y 285 5) * ((100 - ((X 286 10) * (X 289 2))).toInt64))) := if_neg c2
    rw [e1, e3]
    exact hd_ll3 l G o _ _ hE hr hlocks hK H locs hI ls (lv_sub hl [5, 0] rfl)
  · refine lv_aload_n hx hb dX6_layLoads_102 rfl (lv_at hl 3 rfl) ?_
    refine x_get (k := 285) hE hK hI (by decide) inG6 (e_285 G o _ _) rfl 0 (by decide) mw_480 rfl dX6_layLoads_103 ?_
    refine lv_bipush (v := 24) hx hb dX6_layLoads_106 (by decide) ?_
    refine lv_iload_n hx hb dX6_layLoads_108 rfl (lv_at hl 4 rfl) ?_
    refine lv_iadd hx hb dX6_layLoads_109 ?_
    refine lv_topi (fun z5 ez5 => ?_)
    obtain rfl : 26 = z5 := (ez5.trans (by decide)).symm
    refine x_iald (k := 286) (j := 26) hE hK hI (by decide) (e_286 G o) (by decide) (by decide) rfl dX6_layLoads_110 ?_
    refine lv_if_gt (tgt := 120) hx hb dX6_layLoads_111 (by decide) (fun c6 => ?_) (fun c6 => ?_)
    · refine lv_iconst (v := 0) hx hb dX6_layLoads_120 (by decide) ?_
      exact x_zret hE hr hlocks hI (by decide) (congrArg (fun q => some (Value.int q)) ((if_pos c2).trans (if_pos c6))) rfl (((if_pos c2).trans (if_pos c6)).symm) dX6_layLoads_121
    · refine lv_lload_n hx hb dX6_layLoads_114 rfl (lv_at hl 2 rfl) ?_
      refine lv_lconst (v := 0) hx hb dX6_layLoads_115 (by decide) ?_
      refine W.lcmp hx hb dX6_layLoads_116 ?_
      refine lv_if_le (tgt := 122) hx hb dX6_layLoads_117 (by decide) (fun c7 => ?_) (fun c7 => ?_)
      · have c7 := (lg_cmp_le _ _).mp c7
        refine lv_aload_n hx hb dX6_layLoads_122 rfl (lv_at hl 3 rfl) ?_
        refine x_get (k := 285) hE hK hI (by decide) inG6 (e_285 G o _ _) rfl 4 (by decide) mw_484 rfl dX6_layLoads_123 ?_
        refine lv_iload_n hx hb dX6_layLoads_126 rfl (lv_at hl 4 rfl) ?_
        refine lv_lconst (v := 0) hx hb dX6_layLoads_127 (by decide) ?_
        refine x_last (k := 290) (j := 2) hE hK hI (by decide) (e_290 G o) (by decide) (by decide) rfl dX6_layLoads_128 (fun H locs hI => ?_)
        refine lv_goto (tgt := 180) hx hb dX6_layLoads_129 (by decide) ?_
        refine lv_iinc (v := 3) (lv' := [(1, .int 3), (5, .long (((100 * ((X 286 26).toInt64)) * (Y 285 5)) + (((X 289 2).toInt64) * ((0 + ((Y 290 0) * ((X 286 2).toInt64))) + ((Y 290 1) * ((X 286 6).toInt64)))))), (4, .int (100 - ((X 286 10) * (X 289 2)))), (2, .long ((0 + ((Y 290 0) * ((X 286 2).toInt64))) + ((Y 290 1) * ((X 286 6).toInt64)))), (0, .ref (o + 285))]) hx hb dX6_layLoads_180 hl (k := 4) rfl (by decide) (by decide) rfl (fun ls hl => ?_)
        refine lv_goto (tgt := 7) hx hb dX6_layLoads_183 (by decide) ?_
        have e1 : llr2 X Y = llr3 X (sy Y 290 2 0) := (if_pos c2).trans ((if_neg c6).trans (if_pos c7))
        have e3 : llY2 X Y = llY3 X (sy Y 290 2 0) := (if_pos c2).trans ((if_neg c6).trans (if_pos c7))
        rw [e1, e3]
        exact hd_ll3 l G o _ _ hE hr hlocks hK H locs hI ls (lv_sub hl [4, 0] rfl)
      · have c7 := mt (lg_cmp_le _ _).mpr c7
        refine lv_iconst (v := 0) hx hb dX6_layLoads_120 (by decide) ?_
        exact x_zret hE hr hlocks hI (by decide) (congrArg (fun q => some (Value.int q)) ((if_pos c2).trans ((if_neg c6).trans (if_neg c7)))) rfl (((if_pos c2).trans ((if_neg c6).trans (if_neg c7))).symm) dX6_layLoads_121
def llr1 (X : SX) (Y : SY) : Int32 := if 100 - ((X 286 5) * (X 289 1)) = 0 then (if 0 < X 286 25 then (0) else (if 0 + ((Y 290 0) * ((X 286 1).toInt64)) ≤ 0 then (llr2 X (sy Y 290 1 0)) else (0))) else (llr2 X (sy (sy (sy Y 290 0 ((Y 290 0) * ((100 - ((X 286 5) * (X 289 1))).toInt64))) 290 1 (((100 * ((X 286 25).toInt64)) * (Y 285 5)) + (((X 289 1).toInt64) * (0 + ((Y 290 0) * ((X 286 1).toInt64)))))) 285 5 ((Y 285 5) * ((100 - ((X 286 5) * (X 289 1))).toInt64))))
def llY1 (X : SX) (Y : SY) : SY := if 100 - ((X 286 5) * (X 289 1)) = 0 then (if 0 < X 286 25 then (Y) else (if 0 + ((Y 290 0) * ((X 286 1).toInt64)) ≤ 0 then (llY2 X (sy Y 290 1 0)) else (Y))) else (llY2 X (sy (sy (sy Y 290 0 ((Y 290 0) * ((100 - ((X 286 5) * (X 289 1))).toInt64))) 290 1 (((100 * ((X 286 25).toInt64)) * (Y 285 5)) + (((X 289 1).toInt64) * (0 + ((Y 290 0) * ((X 286 1).toInt64)))))) 285 5 ((Y 285 5) * ((100 - ((X 286 5) * (X 289 1))).toInt64))))
set_option maxRecDepth 100000 in
set_option maxHeartbeats 4000000 in
theorem hd_ll1 (l : Launch) (G : GG) (o : Nat) (X : SX) (Y : SY) {p9 : Program} {e9 : Env} {s9 : State} {m9 : MethodId} {args9 : Array Value} {below9 : List Frame} {meth9 : Method} {c9 : Code} (hE : gE p9 m9 c9 cX6_layLoads 8 s9 args9 yX6_layLoads.cls) (hr : meth9.sig.returnType = (some .boolean)) (hlocks : meth9.locks = false) (hK : KK G s9) (H : Heap) (locs : List Loc) (hI : In G o X Y s9.heap H locs) (ls : Array Slot) (hl : lv_has ls 8 [(0, .ref (o + 285)), (1, .int 1)]) :
    W p9 l e9 (Rm 1 22) s9 m9 args9 below9 meth9 c9 H locs 0 0 (MQ below9 (Qw G o (some (.int (llr1 X Y))) X (llY1 X Y)) args9 s9 0 0 (rg o)) (F0 m9 7 ls []) := by
  have hx := hE.1
  have hb := hE.2.1
  refine lv_iload_n hx hb dX6_layLoads_7 rfl (lv_at hl 1 rfl) ?_
  refine lv_iconst (v := 4) hx hb dX6_layLoads_8 (by decide) ?_
  refine lv_icmp_ge (tgt := 186) hx hb dX6_layLoads_9 (by decide) (fun q => absurd q (by decide)) (fun _ => ?_)
  refine lv_lconst (v := 0) hx hb dX6_layLoads_12 (by decide) ?_
  refine lv_lstore_n (lv' := [(2, .long 0), (0, .ref (o + 285)), (1, .int 1)]) hx hb dX6_layLoads_13 rfl hl (by decide) rfl (fun ls hl => ?_)
  refine lv_iconst (v := 0) hx hb dX6_layLoads_14 (by decide) ?_
  refine lv_istore (lv' := [(4, .int 0), (2, .long 0), (0, .ref (o + 285)), (1, .int 1)]) hx hb dX6_layLoads_15 hl (by decide) rfl (fun ls hl => ?_)
  refine lv_iload hx hb dX6_layLoads_17 (lv_at hl 0 rfl) ?_
  refine lv_iload_n hx hb dX6_layLoads_19 rfl (lv_at hl 3 rfl) ?_
  refine lv_icmp_ge (tgt := 48) hx hb dX6_layLoads_20 (by decide) (fun q => absurd q (by decide)) (fun _ => ?_)
  refine lv_lload_n hx hb dX6_layLoads_23 rfl (lv_at hl 1 rfl) ?_
  refine lv_aload_n hx hb dX6_layLoads_24 rfl (lv_at hl 2 rfl) ?_
  refine x_get (k := 285) hE hK hI (by decide) inG6 (e_285 G o _ _) rfl 4 (by decide) mw_484 rfl dX6_layLoads_25 ?_
  refine lv_iload hx hb dX6_layLoads_28 (lv_at hl 0 rfl) ?_
  refine x_lald (k := 290) (j := 0) hE hK hI (by decide) (e_290 G o) (by decide) (by decide) rfl dX6_layLoads_30 ?_
  refine lv_aload_n hx hb dX6_layLoads_31 rfl (lv_at hl 2 rfl) ?_
  refine lv_iload hx hb dX6_layLoads_32 (lv_at hl 0 rfl) ?_
  refine lv_iload_n hx hb dX6_layLoads_34 rfl (lv_at hl 3 rfl) ?_
  refine x_callVi (k := 285) hE hK hI (c_X6_shareOf_0_1 l G o _ _  ) mf_X6_shareOf mw_516 (by decide) ((e_285 G o) _ _) rfl rfl hl.1 rfl (Nat.le_of_ble_eq_true rfl) ⟨(Nat.le_of_ble_eq_true rfl), (Nat.le_of_ble_eq_true rfl)⟩ ⟨Nat.zero_le _, Nat.zero_le _⟩ dX6_layLoads_35 (fun H locs hI => ?_)
  refine lv_i2l hx hb dX6_layLoads_38 rfl ?_
  refine lv_lmul hx hb dX6_layLoads_39 ?_
  refine lv_ladd hx hb dX6_layLoads_40 ?_
  refine lv_lstore_n (lv' := [(2, .long (0 + ((Y 290 0) * ((X 286 1).toInt64)))), (4, .int 0), (0, .ref (o + 285)), (1, .int 1)]) hx hb dX6_layLoads_41 rfl hl (by decide) rfl (fun ls hl => ?_)
  refine lv_iinc (v := 1) (lv' := [(4, .int 1), (2, .long (0 + ((Y 290 0) * ((X 286 1).toInt64)))), (0, .ref (o + 285)), (1, .int 1)]) hx hb dX6_layLoads_42 hl (k := 1) rfl (by decide) (by decide) rfl (fun ls hl => ?_)
  refine lv_goto (tgt := 17) hx hb dX6_layLoads_45 (by decide) ?_
  refine lv_iload hx hb dX6_layLoads_17 (lv_at hl 0 rfl) ?_
  refine lv_iload_n hx hb dX6_layLoads_19 rfl (lv_at hl 3 rfl) ?_
  refine lv_icmp_ge (tgt := 48) hx hb dX6_layLoads_20 (by decide) (fun _ => ?_) (fun q => absurd (by decide) q)
  refine lv_bipush (v := 100) hx hb dX6_layLoads_48 (by decide) ?_
  refine lv_aload_n hx hb dX6_layLoads_50 rfl (lv_at hl 2 rfl) ?_
  refine lv_iload_n hx hb dX6_layLoads_51 rfl (lv_at hl 3 rfl) ?_
  refine lv_iload_n hx hb dX6_layLoads_52 rfl (lv_at hl 3 rfl) ?_
  refine x_callVi (k := 285) hE hK hI (c_X6_shareOf_1_1 l G o _ _  ) mf_X6_shareOf mw_516 (by decide) ((e_285 G o) _ _) rfl rfl hl.1 rfl (Nat.le_of_ble_eq_true rfl) ⟨(Nat.le_of_ble_eq_true rfl), (Nat.le_of_ble_eq_true rfl)⟩ ⟨Nat.zero_le _, Nat.zero_le _⟩ dX6_layLoads_53 (fun H locs hI => ?_)
  refine lv_aload_n hx hb dX6_layLoads_56 rfl (lv_at hl 2 rfl) ?_
  refine x_get (k := 285) hE hK hI (by decide) inG6 (e_285 G o _ _) rfl 3 (by decide) mw_483 rfl dX6_layLoads_57 ?_
  refine lv_iload_n hx hb dX6_layLoads_60 rfl (lv_at hl 3 rfl) ?_
  refine x_iald (k := 289) (j := 1) hE hK hI (by decide) (e_289 G o) (by decide) (by decide) rfl dX6_layLoads_61 ?_
  refine lv_imul hx hb dX6_layLoads_62 ?_
  refine lv_isub hx hb dX6_layLoads_63 ?_
  refine lv_istore (lv' := [(4, .int (100 - ((X 286 5) * (X 289 1)))), (2, .long (0 + ((Y 290 0) * ((X 286 1).toInt64)))), (0, .ref (o + 285)), (1, .int 1)]) hx hb dX6_layLoads_64 hl (by decide) rfl (fun ls hl => ?_)
  refine lv_ldc2 hx hb hE.2.2.2.1 (hE.2.2.2.2 _ mw_555) dX6_layLoads_66 ?_
  refine lv_aload_n hx hb dX6_layLoads_69 rfl (lv_at hl 2 rfl) ?_
  refine x_get (k := 285) hE hK hI (by decide) inG6 (e_285 G o _ _) rfl 0 (by decide) mw_480 rfl dX6_layLoads_70 ?_
  refine lv_bipush (v := 24) hx hb dX6_layLoads_73 (by decide) ?_
  refine lv_iload_n hx hb dX6_layLoads_75 rfl (lv_at hl 3 rfl) ?_
  refine lv_iadd hx hb dX6_layLoads_76 ?_
  refine lv_topi (fun z1 ez1 => ?_)
  obtain rfl : 25 = z1 := (ez1.trans (by decide)).symm
  refine x_iald (k := 286) (j := 25) hE hK hI (by decide) (e_286 G o) (by decide) (by decide) rfl dX6_layLoads_77 ?_
  refine lv_i2l hx hb dX6_layLoads_78 rfl ?_
  refine lv_lmul hx hb dX6_layLoads_79 ?_
  refine lv_aload_n hx hb dX6_layLoads_80 rfl (lv_at hl 2 rfl) ?_
  refine x_get (k := 285) hE hK hI (by decide) inG6 (e_285 G o _ _) rfl 5 (by decide) mw_485 rfl dX6_layLoads_81 ?_
  refine lv_lmul hx hb dX6_layLoads_84 ?_
  refine lv_aload_n hx hb dX6_layLoads_85 rfl (lv_at hl 2 rfl) ?_
  refine x_get (k := 285) hE hK hI (by decide) inG6 (e_285 G o _ _) rfl 3 (by decide) mw_483 rfl dX6_layLoads_86 ?_
  refine lv_iload_n hx hb dX6_layLoads_89 rfl (lv_at hl 3 rfl) ?_
  refine x_iald (k := 289) (j := 1) hE hK hI (by decide) (e_289 G o) (by decide) (by decide) rfl dX6_layLoads_90 ?_
  refine lv_i2l hx hb dX6_layLoads_91 rfl ?_
  refine lv_lload_n hx hb dX6_layLoads_92 rfl (lv_at hl 1 rfl) ?_
  refine lv_lmul hx hb dX6_layLoads_93 ?_
  refine lv_ladd hx hb dX6_layLoads_94 ?_
  refine lv_lstore (lv' := [(5, .long (((100 * ((X 286 25).toInt64)) * (Y 285 5)) + (((X 289 1).toInt64) * (0 + ((Y 290 0) * ((X 286 1).toInt64)))))), (4, .int (100 - ((X 286 5) * (X 289 1)))), (2, .long (0 + ((Y 290 0) * ((X 286 1).toInt64)))), (0, .ref (o + 285)), (1, .int 1)]) hx hb dX6_layLoads_95 hl (by decide) rfl (fun ls hl => ?_)
  refine lv_iload hx hb dX6_layLoads_97 (lv_at hl 1 rfl) ?_
  refine lv_if_ne (tgt := 132) hx hb dX6_layLoads_99 (by decide) (fun c2 => ?_) (fun c2 => ?_)
  · refine lv_iconst (v := 0) hx hb dX6_layLoads_132 (by decide) ?_
    refine lv_istore (lv' := [(7, .int 0), (5, .long (((100 * ((X 286 25).toInt64)) * (Y 285 5)) + (((X 289 1).toInt64) * (0 + ((Y 290 0) * ((X 286 1).toInt64)))))), (4, .int (100 - ((X 286 5) * (X 289 1)))), (2, .long (0 + ((Y 290 0) * ((X 286 1).toInt64)))), (0, .ref (o + 285)), (1, .int 1)]) hx hb dX6_layLoads_133 hl (by decide) rfl (fun ls hl => ?_)
    refine lv_iload hx hb dX6_layLoads_135 (lv_at hl 0 rfl) ?_
    refine lv_iload_n hx hb dX6_layLoads_137 rfl (lv_at hl 5 rfl) ?_
    refine lv_icmp_ge (tgt := 160) hx hb dX6_layLoads_138 (by decide) (fun q => absurd q (by decide)) (fun _ => ?_)
    refine lv_aload_n hx hb dX6_layLoads_141 rfl (lv_at hl 4 rfl) ?_
    refine x_get (k := 285) hE hK hI (by decide) inG6 (e_285 G o _ _) rfl 4 (by decide) mw_484 rfl dX6_layLoads_142 ?_
    refine lv_iload hx hb dX6_layLoads_145 (lv_at hl 0 rfl) ?_
    refine lv_dup2_11 hx hb dX6_layLoads_147 rfl rfl ?_
    refine x_lald (k := 290) (j := 0) hE hK hI (by decide) (e_290 G o) (by decide) (by decide) rfl dX6_layLoads_148 ?_
    refine lv_iload hx hb dX6_layLoads_149 (lv_at hl 2 rfl) ?_
    refine lv_i2l hx hb dX6_layLoads_151 rfl ?_
    refine lv_lmul hx hb dX6_layLoads_152 ?_
    refine x_last (k := 290) (j := 0) hE hK hI (by decide) (e_290 G o) (by decide) (by decide) rfl dX6_layLoads_153 (fun H locs hI => ?_)
    refine lv_iinc (v := 1) (lv' := [(7, .int 1), (5, .long (((100 * ((X 286 25).toInt64)) * (Y 285 5)) + (((X 289 1).toInt64) * (0 + ((Y 290 0) * ((X 286 1).toInt64)))))), (4, .int (100 - ((X 286 5) * (X 289 1)))), (2, .long (0 + ((Y 290 0) * ((X 286 1).toInt64)))), (0, .ref (o + 285)), (1, .int 1)]) hx hb dX6_layLoads_154 hl (k := 0) rfl (by decide) (by decide) rfl (fun ls hl => ?_)
    refine lv_goto (tgt := 135) hx hb dX6_layLoads_157 (by decide) ?_
    refine lv_iload hx hb dX6_layLoads_135 (lv_at hl 0 rfl) ?_
    refine lv_iload_n hx hb dX6_layLoads_137 rfl (lv_at hl 5 rfl) ?_
    refine lv_icmp_ge (tgt := 160) hx hb dX6_layLoads_138 (by decide) (fun _ => ?_) (fun q => absurd (by decide) q)
    refine lv_aload_n hx hb dX6_layLoads_160 rfl (lv_at hl 4 rfl) ?_
    refine x_get (k := 285) hE hK hI (by decide) inG6 (e_285 G o _ _) rfl 4 (by decide) mw_484 rfl dX6_layLoads_161 ?_
    refine lv_iload_n hx hb dX6_layLoads_164 rfl (lv_at hl 5 rfl) ?_
    refine lv_lload hx hb dX6_layLoads_165 (lv_at hl 1 rfl) ?_
    refine x_last (k := 290) (j := 1) hE hK hI (by decide) (e_290 G o) (by decide) (by decide) rfl dX6_layLoads_167 (fun H locs hI => ?_)
    refine lv_aload_n hx hb dX6_layLoads_168 rfl (lv_at hl 4 rfl) ?_
    refine lv_dup hx hb dX6_layLoads_169 rfl ?_
    refine x_get (k := 285) hE hK hI (by decide) inG6 (e_285 G o _ _) rfl 5 (by decide) mw_485 rfl dX6_layLoads_170 ?_
    refine lv_topl (fun z3 ez3 => ?_)
    obtain rfl : Y 285 5 = z3 := (ez3.trans ((sy_o (by decide)).trans ((sy_o (by decide))))).symm
    refine lv_iload hx hb dX6_layLoads_173 (lv_at hl 2 rfl) ?_
    refine lv_i2l hx hb dX6_layLoads_175 rfl ?_
    refine lv_lmul hx hb dX6_layLoads_176 ?_
    refine x_putl (k := 285) hE hK hI (by decide) inG6 tyX6 tyX6_ok nmX6 (e_285 G o) rfl 5 (by decide) mw_485 rfl (by decide +kernel) (by exact Nat.le_of_ble_eq_true rfl) rfl dX6_layLoads_177 (fun H locs hI => ?_)
    refine lv_iinc (v := 2) (lv' := [(1, .int 2), (7, .int 1), (5, .long (((100 * ((X 286 25).toInt64)) * (Y 285 5)) + (((X 289 1).toInt64) * (0 + ((Y 290 0) * ((X 286 1).toInt64)))))), (4, .int (100 - ((X 286 5) * (X 289 1)))), (2, .long (0 + ((Y 290 0) * ((X 286 1).toInt64)))), (0, .ref (o + 285))]) hx hb dX6_layLoads_180 hl (k := 5) rfl (by decide) (by decide) rfl (fun ls hl => ?_)
    refine lv_goto (tgt := 7) hx hb dX6_layLoads_183 (by decide) ?_
    have e1 : llr1 X Y = llr2 X (sy (sy (sy Y 290 0 ((Y 290 0) * ((100 - ((X 286 5) * (X 289 1))).toInt64))) 290 1 (((100 * ((X 286 25).toInt64)) * (Y 285 5)) + (((X 289 1).toInt64) * (0 + ((Y 290 0) * ((X 286 1).toInt64)))))) 285 5 ((Y 285 5) * ((100 - ((X 286 5) * (X 289 1))).toInt64))) := if_neg c2
    have e3 : llY1 X Y = llY2 X (sy (sy (sy Y 290 0 ((Y 290 0) * ((100 - ((X 286 5) * (X 289 1))).toInt64))) 290 1 (((100 * ((X 286 25).toInt64)) * (Y 285 5)) + (((X 289 1).toInt64) * (0 + ((Y 290 0) * ((X 286 1).toInt64)))))) 285 5 ((Y 285 5) * ((100 - ((X 286 5) * (X 289 1))).toInt64))) := if_neg c2
    rw [e1, e3]
    exact hd_ll2 l G o _ _ hE hr hlocks hK H locs hI ls (lv_sub hl [5, 0] rfl)
  · refine lv_aload_n hx hb dX6_layLoads_102 rfl (lv_at hl 3 rfl) ?_
    refine x_get (k := 285) hE hK hI (by decide) inG6 (e_285 G o _ _) rfl 0 (by decide) mw_480 rfl dX6_layLoads_103 ?_
    refine lv_bipush (v := 24) hx hb dX6_layLoads_106 (by decide) ?_
    refine lv_iload_n hx hb dX6_layLoads_108 rfl (lv_at hl 4 rfl) ?_
    refine lv_iadd hx hb dX6_layLoads_109 ?_
    refine lv_topi (fun z4 ez4 => ?_)
    obtain rfl : 25 = z4 := (ez4.trans (by decide)).symm
    refine x_iald (k := 286) (j := 25) hE hK hI (by decide) (e_286 G o) (by decide) (by decide) rfl dX6_layLoads_110 ?_
    refine lv_if_gt (tgt := 120) hx hb dX6_layLoads_111 (by decide) (fun c5 => ?_) (fun c5 => ?_)
    · refine lv_iconst (v := 0) hx hb dX6_layLoads_120 (by decide) ?_
      exact x_zret hE hr hlocks hI (by decide) (congrArg (fun q => some (Value.int q)) ((if_pos c2).trans (if_pos c5))) rfl (((if_pos c2).trans (if_pos c5)).symm) dX6_layLoads_121
    · refine lv_lload_n hx hb dX6_layLoads_114 rfl (lv_at hl 2 rfl) ?_
      refine lv_lconst (v := 0) hx hb dX6_layLoads_115 (by decide) ?_
      refine W.lcmp hx hb dX6_layLoads_116 ?_
      refine lv_if_le (tgt := 122) hx hb dX6_layLoads_117 (by decide) (fun c6 => ?_) (fun c6 => ?_)
      · have c6 := (lg_cmp_le _ _).mp c6
        refine lv_aload_n hx hb dX6_layLoads_122 rfl (lv_at hl 3 rfl) ?_
        refine x_get (k := 285) hE hK hI (by decide) inG6 (e_285 G o _ _) rfl 4 (by decide) mw_484 rfl dX6_layLoads_123 ?_
        refine lv_iload_n hx hb dX6_layLoads_126 rfl (lv_at hl 4 rfl) ?_
        refine lv_lconst (v := 0) hx hb dX6_layLoads_127 (by decide) ?_
        refine x_last (k := 290) (j := 1) hE hK hI (by decide) (e_290 G o) (by decide) (by decide) rfl dX6_layLoads_128 (fun H locs hI => ?_)
        refine lv_goto (tgt := 180) hx hb dX6_layLoads_129 (by decide) ?_
        refine lv_iinc (v := 2) (lv' := [(1, .int 2), (5, .long (((100 * ((X 286 25).toInt64)) * (Y 285 5)) + (((X 289 1).toInt64) * (0 + ((Y 290 0) * ((X 286 1).toInt64)))))), (4, .int (100 - ((X 286 5) * (X 289 1)))), (2, .long (0 + ((Y 290 0) * ((X 286 1).toInt64)))), (0, .ref (o + 285))]) hx hb dX6_layLoads_180 hl (k := 4) rfl (by decide) (by decide) rfl (fun ls hl => ?_)
        refine lv_goto (tgt := 7) hx hb dX6_layLoads_183 (by decide) ?_
        have e1 : llr1 X Y = llr2 X (sy Y 290 1 0) := (if_pos c2).trans ((if_neg c5).trans (if_pos c6))
        have e3 : llY1 X Y = llY2 X (sy Y 290 1 0) := (if_pos c2).trans ((if_neg c5).trans (if_pos c6))
        rw [e1, e3]
        exact hd_ll2 l G o _ _ hE hr hlocks hK H locs hI ls (lv_sub hl [4, 0] rfl)
      · have c6 := mt (lg_cmp_le _ _).mpr c6
        refine lv_iconst (v := 0) hx hb dX6_layLoads_120 (by decide) ?_
        exact x_zret hE hr hlocks hI (by decide) (congrArg (fun q => some (Value.int q)) ((if_pos c2).trans ((if_neg c5).trans (if_neg c6)))) rfl (((if_pos c2).trans ((if_neg c5).trans (if_neg c6))).symm) dX6_layLoads_121
def llr0 (X : SX) (Y : SY) : Int32 := if 100 - ((X 286 0) * (X 289 0)) = 0 then (if 0 < X 286 24 then (0) else (llr1 X (sy Y 290 0 0))) else (llr1 X (sy (sy Y 290 0 (((100 * ((X 286 24).toInt64)) * (Y 285 5)) + (((X 289 0).toInt64) * 0))) 285 5 ((Y 285 5) * ((100 - ((X 286 0) * (X 289 0))).toInt64))))
def llY0 (X : SX) (Y : SY) : SY := if 100 - ((X 286 0) * (X 289 0)) = 0 then (if 0 < X 286 24 then (Y) else (llY1 X (sy Y 290 0 0))) else (llY1 X (sy (sy Y 290 0 (((100 * ((X 286 24).toInt64)) * (Y 285 5)) + (((X 289 0).toInt64) * 0))) 285 5 ((Y 285 5) * ((100 - ((X 286 0) * (X 289 0))).toInt64))))
set_option maxRecDepth 100000 in
set_option maxHeartbeats 4000000 in
theorem hd_ll0 (l : Launch) (G : GG) (o : Nat) (X : SX) (Y : SY) {p9 : Program} {e9 : Env} {s9 : State} {m9 : MethodId} {args9 : Array Value} {below9 : List Frame} {meth9 : Method} {c9 : Code} (hE : gE p9 m9 c9 cX6_layLoads 8 s9 args9 yX6_layLoads.cls) (hr : meth9.sig.returnType = (some .boolean)) (hlocks : meth9.locks = false) (hK : KK G s9) (H : Heap) (locs : List Loc) (hI : In G o X Y s9.heap H locs) (ls : Array Slot) (hl : lv_has ls 8 [(0, .ref (o + 285)), (1, .int 0)]) :
    W p9 l e9 (Rm 1 22) s9 m9 args9 below9 meth9 c9 H locs 0 0 (MQ below9 (Qw G o (some (.int (llr0 X Y))) X (llY0 X Y)) args9 s9 0 0 (rg o)) (F0 m9 7 ls []) := by
  have hx := hE.1
  have hb := hE.2.1
  refine lv_iload_n hx hb dX6_layLoads_7 rfl (lv_at hl 1 rfl) ?_
  refine lv_iconst (v := 4) hx hb dX6_layLoads_8 (by decide) ?_
  refine lv_icmp_ge (tgt := 186) hx hb dX6_layLoads_9 (by decide) (fun q => absurd q (by decide)) (fun _ => ?_)
  refine lv_lconst (v := 0) hx hb dX6_layLoads_12 (by decide) ?_
  refine lv_lstore_n (lv' := [(2, .long 0), (0, .ref (o + 285)), (1, .int 0)]) hx hb dX6_layLoads_13 rfl hl (by decide) rfl (fun ls hl => ?_)
  refine lv_iconst (v := 0) hx hb dX6_layLoads_14 (by decide) ?_
  refine lv_istore (lv' := [(4, .int 0), (2, .long 0), (0, .ref (o + 285)), (1, .int 0)]) hx hb dX6_layLoads_15 hl (by decide) rfl (fun ls hl => ?_)
  refine lv_iload hx hb dX6_layLoads_17 (lv_at hl 0 rfl) ?_
  refine lv_iload_n hx hb dX6_layLoads_19 rfl (lv_at hl 3 rfl) ?_
  refine lv_icmp_ge (tgt := 48) hx hb dX6_layLoads_20 (by decide) (fun _ => ?_) (fun q => absurd (by decide) q)
  refine lv_bipush (v := 100) hx hb dX6_layLoads_48 (by decide) ?_
  refine lv_aload_n hx hb dX6_layLoads_50 rfl (lv_at hl 2 rfl) ?_
  refine lv_iload_n hx hb dX6_layLoads_51 rfl (lv_at hl 3 rfl) ?_
  refine lv_iload_n hx hb dX6_layLoads_52 rfl (lv_at hl 3 rfl) ?_
  refine x_callVi (k := 285) hE hK hI (c_X6_shareOf_0_0 l G o _ _  ) mf_X6_shareOf mw_516 (by decide) ((e_285 G o) _ _) rfl rfl hl.1 rfl (Nat.le_of_ble_eq_true rfl) ⟨(Nat.le_of_ble_eq_true rfl), (Nat.le_of_ble_eq_true rfl)⟩ ⟨Nat.zero_le _, Nat.zero_le _⟩ dX6_layLoads_53 (fun H locs hI => ?_)
  refine lv_aload_n hx hb dX6_layLoads_56 rfl (lv_at hl 2 rfl) ?_
  refine x_get (k := 285) hE hK hI (by decide) inG6 (e_285 G o _ _) rfl 3 (by decide) mw_483 rfl dX6_layLoads_57 ?_
  refine lv_iload_n hx hb dX6_layLoads_60 rfl (lv_at hl 3 rfl) ?_
  refine x_iald (k := 289) (j := 0) hE hK hI (by decide) (e_289 G o) (by decide) (by decide) rfl dX6_layLoads_61 ?_
  refine lv_imul hx hb dX6_layLoads_62 ?_
  refine lv_isub hx hb dX6_layLoads_63 ?_
  refine lv_istore (lv' := [(4, .int (100 - ((X 286 0) * (X 289 0)))), (2, .long 0), (0, .ref (o + 285)), (1, .int 0)]) hx hb dX6_layLoads_64 hl (by decide) rfl (fun ls hl => ?_)
  refine lv_ldc2 hx hb hE.2.2.2.1 (hE.2.2.2.2 _ mw_555) dX6_layLoads_66 ?_
  refine lv_aload_n hx hb dX6_layLoads_69 rfl (lv_at hl 2 rfl) ?_
  refine x_get (k := 285) hE hK hI (by decide) inG6 (e_285 G o _ _) rfl 0 (by decide) mw_480 rfl dX6_layLoads_70 ?_
  refine lv_bipush (v := 24) hx hb dX6_layLoads_73 (by decide) ?_
  refine lv_iload_n hx hb dX6_layLoads_75 rfl (lv_at hl 3 rfl) ?_
  refine lv_iadd hx hb dX6_layLoads_76 ?_
  refine lv_topi (fun z1 ez1 => ?_)
  obtain rfl : 24 = z1 := (ez1.trans (by decide)).symm
  refine x_iald (k := 286) (j := 24) hE hK hI (by decide) (e_286 G o) (by decide) (by decide) rfl dX6_layLoads_77 ?_
  refine lv_i2l hx hb dX6_layLoads_78 rfl ?_
  refine lv_lmul hx hb dX6_layLoads_79 ?_
  refine lv_aload_n hx hb dX6_layLoads_80 rfl (lv_at hl 2 rfl) ?_
  refine x_get (k := 285) hE hK hI (by decide) inG6 (e_285 G o _ _) rfl 5 (by decide) mw_485 rfl dX6_layLoads_81 ?_
  refine lv_lmul hx hb dX6_layLoads_84 ?_
  refine lv_aload_n hx hb dX6_layLoads_85 rfl (lv_at hl 2 rfl) ?_
  refine x_get (k := 285) hE hK hI (by decide) inG6 (e_285 G o _ _) rfl 3 (by decide) mw_483 rfl dX6_layLoads_86 ?_
  refine lv_iload_n hx hb dX6_layLoads_89 rfl (lv_at hl 3 rfl) ?_
  refine x_iald (k := 289) (j := 0) hE hK hI (by decide) (e_289 G o) (by decide) (by decide) rfl dX6_layLoads_90 ?_
  refine lv_i2l hx hb dX6_layLoads_91 rfl ?_
  refine lv_lload_n hx hb dX6_layLoads_92 rfl (lv_at hl 1 rfl) ?_
  refine lv_lmul hx hb dX6_layLoads_93 ?_
  refine lv_ladd hx hb dX6_layLoads_94 ?_
  refine lv_lstore (lv' := [(5, .long (((100 * ((X 286 24).toInt64)) * (Y 285 5)) + (((X 289 0).toInt64) * 0))), (4, .int (100 - ((X 286 0) * (X 289 0)))), (2, .long 0), (0, .ref (o + 285)), (1, .int 0)]) hx hb dX6_layLoads_95 hl (by decide) rfl (fun ls hl => ?_)
  refine lv_iload hx hb dX6_layLoads_97 (lv_at hl 1 rfl) ?_
  refine lv_if_ne (tgt := 132) hx hb dX6_layLoads_99 (by decide) (fun c2 => ?_) (fun c2 => ?_)
  · refine lv_iconst (v := 0) hx hb dX6_layLoads_132 (by decide) ?_
    refine lv_istore (lv' := [(7, .int 0), (5, .long (((100 * ((X 286 24).toInt64)) * (Y 285 5)) + (((X 289 0).toInt64) * 0))), (4, .int (100 - ((X 286 0) * (X 289 0)))), (2, .long 0), (0, .ref (o + 285)), (1, .int 0)]) hx hb dX6_layLoads_133 hl (by decide) rfl (fun ls hl => ?_)
    refine lv_iload hx hb dX6_layLoads_135 (lv_at hl 0 rfl) ?_
    refine lv_iload_n hx hb dX6_layLoads_137 rfl (lv_at hl 5 rfl) ?_
    refine lv_icmp_ge (tgt := 160) hx hb dX6_layLoads_138 (by decide) (fun _ => ?_) (fun q => absurd (by decide) q)
    refine lv_aload_n hx hb dX6_layLoads_160 rfl (lv_at hl 4 rfl) ?_
    refine x_get (k := 285) hE hK hI (by decide) inG6 (e_285 G o _ _) rfl 4 (by decide) mw_484 rfl dX6_layLoads_161 ?_
    refine lv_iload_n hx hb dX6_layLoads_164 rfl (lv_at hl 5 rfl) ?_
    refine lv_lload hx hb dX6_layLoads_165 (lv_at hl 1 rfl) ?_
    refine x_last (k := 290) (j := 0) hE hK hI (by decide) (e_290 G o) (by decide) (by decide) rfl dX6_layLoads_167 (fun H locs hI => ?_)
    refine lv_aload_n hx hb dX6_layLoads_168 rfl (lv_at hl 4 rfl) ?_
    refine lv_dup hx hb dX6_layLoads_169 rfl ?_
    refine x_get (k := 285) hE hK hI (by decide) inG6 (e_285 G o _ _) rfl 5 (by decide) mw_485 rfl dX6_layLoads_170 ?_
    refine lv_topl (fun z3 ez3 => ?_)
    obtain rfl : Y 285 5 = z3 := (ez3.trans ((sy_o (by decide)))).symm
    refine lv_iload hx hb dX6_layLoads_173 (lv_at hl 2 rfl) ?_
    refine lv_i2l hx hb dX6_layLoads_175 rfl ?_
    refine lv_lmul hx hb dX6_layLoads_176 ?_
    refine x_putl (k := 285) hE hK hI (by decide) inG6 tyX6 tyX6_ok nmX6 (e_285 G o) rfl 5 (by decide) mw_485 rfl (by decide +kernel) (by exact Nat.le_of_ble_eq_true rfl) rfl dX6_layLoads_177 (fun H locs hI => ?_)
    refine lv_iinc (v := 1) (lv' := [(1, .int 1), (7, .int 0), (5, .long (((100 * ((X 286 24).toInt64)) * (Y 285 5)) + (((X 289 0).toInt64) * 0))), (4, .int (100 - ((X 286 0) * (X 289 0)))), (2, .long 0), (0, .ref (o + 285))]) hx hb dX6_layLoads_180 hl (k := 5) rfl (by decide) (by decide) rfl (fun ls hl => ?_)
    refine lv_goto (tgt := 7) hx hb dX6_layLoads_183 (by decide) ?_
    have e1 : llr0 X Y = llr1 X (sy (sy Y 290 0 (((100 * ((X 286 24).toInt64)) * (Y 285 5)) + (((X 289 0).toInt64) * 0))) 285 5 ((Y 285 5) * ((100 - ((X 286 0) * (X 289 0))).toInt64))) := if_neg c2
    have e3 : llY0 X Y = llY1 X (sy (sy Y 290 0 (((100 * ((X 286 24).toInt64)) * (Y 285 5)) + (((X 289 0).toInt64) * 0))) 285 5 ((Y 285 5) * ((100 - ((X 286 0) * (X 289 0))).toInt64))) := if_neg c2
    rw [e1, e3]
    exact hd_ll1 l G o _ _ hE hr hlocks hK H locs hI ls (lv_sub hl [5, 0] rfl)
  · refine lv_aload_n hx hb dX6_layLoads_102 rfl (lv_at hl 3 rfl) ?_
    refine x_get (k := 285) hE hK hI (by decide) inG6 (e_285 G o _ _) rfl 0 (by decide) mw_480 rfl dX6_layLoads_103 ?_
    refine lv_bipush (v := 24) hx hb dX6_layLoads_106 (by decide) ?_
    refine lv_iload_n hx hb dX6_layLoads_108 rfl (lv_at hl 4 rfl) ?_
    refine lv_iadd hx hb dX6_layLoads_109 ?_
    refine lv_topi (fun z4 ez4 => ?_)
    obtain rfl : 24 = z4 := (ez4.trans (by decide)).symm
    refine x_iald (k := 286) (j := 24) hE hK hI (by decide) (e_286 G o) (by decide) (by decide) rfl dX6_layLoads_110 ?_
    refine lv_if_gt (tgt := 120) hx hb dX6_layLoads_111 (by decide) (fun c5 => ?_) (fun c5 => ?_)
    · refine lv_iconst (v := 0) hx hb dX6_layLoads_120 (by decide) ?_
      exact x_zret hE hr hlocks hI (by decide) (congrArg (fun q => some (Value.int q)) ((if_pos c2).trans (if_pos c5))) rfl (((if_pos c2).trans (if_pos c5)).symm) dX6_layLoads_121
    · refine lv_lload_n hx hb dX6_layLoads_114 rfl (lv_at hl 2 rfl) ?_
      refine lv_lconst (v := 0) hx hb dX6_layLoads_115 (by decide) ?_
      refine W.lcmp hx hb dX6_layLoads_116 ?_
      refine lv_if_le (tgt := 122) hx hb dX6_layLoads_117 (by decide) (fun _ => ?_) (fun q => absurd ((lg_cmp_le _ _).mpr (by decide)) q)
      refine lv_aload_n hx hb dX6_layLoads_122 rfl (lv_at hl 3 rfl) ?_
      refine x_get (k := 285) hE hK hI (by decide) inG6 (e_285 G o _ _) rfl 4 (by decide) mw_484 rfl dX6_layLoads_123 ?_
      refine lv_iload_n hx hb dX6_layLoads_126 rfl (lv_at hl 4 rfl) ?_
      refine lv_lconst (v := 0) hx hb dX6_layLoads_127 (by decide) ?_
      refine x_last (k := 290) (j := 0) hE hK hI (by decide) (e_290 G o) (by decide) (by decide) rfl dX6_layLoads_128 (fun H locs hI => ?_)
      refine lv_goto (tgt := 180) hx hb dX6_layLoads_129 (by decide) ?_
      refine lv_iinc (v := 1) (lv' := [(1, .int 1), (5, .long (((100 * ((X 286 24).toInt64)) * (Y 285 5)) + (((X 289 0).toInt64) * 0))), (4, .int (100 - ((X 286 0) * (X 289 0)))), (2, .long 0), (0, .ref (o + 285))]) hx hb dX6_layLoads_180 hl (k := 4) rfl (by decide) (by decide) rfl (fun ls hl => ?_)
      refine lv_goto (tgt := 7) hx hb dX6_layLoads_183 (by decide) ?_
      have e1 : llr0 X Y = llr1 X (sy Y 290 0 0) := (if_pos c2).trans (if_neg c5)
      have e3 : llY0 X Y = llY1 X (sy Y 290 0 0) := (if_pos c2).trans (if_neg c5)
      rw [e1, e3]
      exact hd_ll1 l G o _ _ hE hr hlocks hK H locs hI ls (lv_sub hl [4, 0] rfl)
def llr (X : SX) (Y : SY) : Int32 := llr0 X (sy Y 285 5 1)
def llY (X : SX) (Y : SY) : SY := llY0 X (sy Y 285 5 1)
set_option maxRecDepth 100000 in
set_option maxHeartbeats 4000000 in
theorem c_X6_layLoads (l : Launch) (G : GG) (o : Nat) (X : SX) (Y : SY) : Ct l yX6_layLoads cX6_layLoads 8 (some .boolean) 1 22 G o [.ref (o + 285)] X Y (some (.int (llr X Y))) X (llY X Y) := by
  refine Ct.mk (by decide +kernel) (Nat.le_of_ble_eq_true rfl) rfl ?_
  intro p9 e9 s9 m9 args9 below9 meth9 c9 hE hr hlocks hK hI ls hl
  have hx := hE.1
  have hb := hE.2.1
  have hl : lv_has ls 8 [(0, .ref (o + 285))] := hl
  refine lv_aload_n hx hb dX6_layLoads_0 rfl (lv_at hl 0 rfl) ?_
  refine lv_lconst (v := 1) hx hb dX6_layLoads_1 (by decide) ?_
  refine x_putl (k := 285) hE hK hI (by decide) inG6 tyX6 tyX6_ok nmX6 (e_285 G o) rfl 5 (by decide) mw_485 rfl (by decide +kernel) (by exact Nat.le_of_ble_eq_true rfl) rfl dX6_layLoads_2 (fun H locs hI => ?_)
  refine lv_iconst (v := 0) hx hb dX6_layLoads_5 (by decide) ?_
  refine lv_istore_n (lv' := [(1, .int 0), (0, .ref (o + 285))]) hx hb dX6_layLoads_6 rfl hl (by decide) rfl (fun ls hl => ?_)
  exact hd_ll0 l G o X _ hE hr hlocks hK _ _ hI ls (lv_sub hl [1, 0] rfl)
set_option maxRecDepth 100000 in
set_option maxHeartbeats 4000000 in
theorem c_X6_wrongSteady_a (l : Launch) (G : GG) (o : Nat) (X : SX) (Y : SY) (u : Int32) (v : Int32) (h : ¬ (Wi u 0 3)) : Ct l yX6_wrongSteady cX6_wrongSteady 3 (some .int) 2 42 G o [.ref (o + 285), .int u, .int v] X Y (some (.int (-1))) X Y := by
  refine Ct.mk (by decide +kernel) (Nat.le_of_ble_eq_true rfl) rfl ?_
  intro p9 e9 s9 m9 args9 below9 meth9 c9 hE hr hlocks hK hI ls hl
  have hx := hE.1
  have hb := hE.2.1
  have hl : lv_has ls 3 [(0, .ref (o + 285)), (1, .int u), (2, .int v)] := hl
  refine lv_iload_n hx hb dX6_wrongSteady_0 rfl (lv_at hl 1 rfl) ?_
  refine x_callSi hE hK hI (c_X6_isSize l G o _ _ u ) mf_X6_isSize mw_506 rfl hl.1 rfl (Nat.le_of_ble_eq_true rfl) ⟨(Nat.le_of_ble_eq_true rfl), (Nat.le_of_ble_eq_true rfl)⟩ ⟨Nat.zero_le _, Nat.zero_le _⟩ dX6_wrongSteady_1 (fun H locs hI => ?_)
  refine lv_topi (fun z1 ez1 => ?_)
  obtain rfl : 0 = z1 := (ez1.trans (bI_f h)).symm
  refine lv_if_ne (tgt := 9) hx hb dX6_wrongSteady_4 (by decide) (fun q => absurd (by decide) q) (fun _ => ?_)
  refine lv_iconst (v := (-1)) hx hb dX6_wrongSteady_7 (by decide) ?_
  exact x_iret hE hr hlocks hI rfl rfl rfl dX6_wrongSteady_8
set_option maxRecDepth 100000 in
set_option maxHeartbeats 4000000 in
theorem c_X6_wrongSteady_b (l : Launch) (G : GG) (o : Nat) (X : SX) (Y : SY) (u : Int32) (v : Int32) (h1 : Wi u 0 3) (h : ¬ (Wi v 0 1)) : Ct l yX6_wrongSteady cX6_wrongSteady 3 (some .int) 2 42 G o [.ref (o + 285), .int u, .int v] X Y (some (.int (-3))) X Y := by
  refine Ct.mk (by decide +kernel) (Nat.le_of_ble_eq_true rfl) rfl ?_
  intro p9 e9 s9 m9 args9 below9 meth9 c9 hE hr hlocks hK hI ls hl
  have hx := hE.1
  have hb := hE.2.1
  have hl : lv_has ls 3 [(0, .ref (o + 285)), (1, .int u), (2, .int v)] := hl
  refine lv_iload_n hx hb dX6_wrongSteady_0 rfl (lv_at hl 1 rfl) ?_
  refine x_callSi hE hK hI (c_X6_isSize l G o _ _ u ) mf_X6_isSize mw_506 rfl hl.1 rfl (Nat.le_of_ble_eq_true rfl) ⟨(Nat.le_of_ble_eq_true rfl), (Nat.le_of_ble_eq_true rfl)⟩ ⟨Nat.zero_le _, Nat.zero_le _⟩ dX6_wrongSteady_1 (fun H locs hI => ?_)
  refine lv_topi (fun z1 ez1 => ?_)
  obtain rfl : 1 = z1 := (ez1.trans (bI_t h1)).symm
  refine lv_if_ne (tgt := 9) hx hb dX6_wrongSteady_4 (by decide) (fun _ => ?_) (fun q => absurd q (by decide))
  refine lv_iload_n hx hb dX6_wrongSteady_9 rfl (lv_at hl 2 rfl) ?_
  refine x_callSi hE hK hI (c_X6_isPart l G o _ _ v ) mf_X6_isPart mw_544 rfl hl.1 rfl (Nat.le_of_ble_eq_true rfl) ⟨(Nat.le_of_ble_eq_true rfl), (Nat.le_of_ble_eq_true rfl)⟩ ⟨Nat.zero_le _, Nat.zero_le _⟩ dX6_wrongSteady_10 (fun H locs hI => ?_)
  refine lv_topi (fun z2 ez2 => ?_)
  obtain rfl : 0 = z2 := (ez2.trans (bI_f h)).symm
  refine lv_if_ne (tgt := 19) hx hb dX6_wrongSteady_13 (by decide) (fun q => absurd (by decide) q) (fun _ => ?_)
  refine lv_bipush (v := (-3)) hx hb dX6_wrongSteady_16 (by decide) ?_
  exact x_iret hE hr hlocks hI rfl rfl rfl dX6_wrongSteady_18
set_option maxRecDepth 100000 in
set_option maxHeartbeats 4000000 in
theorem c_X6_wrongSteady_n (l : Launch) (G : GG) (o : Nat) (X : SX) (Y : SY) (u : Int32) (v : Int32) (h1 : Wi u 0 3) (h2 : Wi v 0 1) (h : llr (asX X) Y = 0) : Ct l yX6_wrongSteady cX6_wrongSteady 3 (some .int) 2 49 G o [.ref (o + 285), .int u, .int v] X Y (some (.int (-5))) (asX X) (llY (asX X) Y) := by
  refine Ct.mk (by decide +kernel) (Nat.le_of_ble_eq_true rfl) rfl ?_
  intro p9 e9 s9 m9 args9 below9 meth9 c9 hE hr hlocks hK hI ls hl
  have hx := hE.1
  have hb := hE.2.1
  have hl : lv_has ls 3 [(0, .ref (o + 285)), (1, .int u), (2, .int v)] := hl
  refine lv_iload_n hx hb dX6_wrongSteady_0 rfl (lv_at hl 1 rfl) ?_
  refine x_callSi hE hK hI (c_X6_isSize l G o _ _ u ) mf_X6_isSize mw_506 rfl hl.1 rfl (Nat.le_of_ble_eq_true rfl) ⟨(Nat.le_of_ble_eq_true rfl), (Nat.le_of_ble_eq_true rfl)⟩ ⟨Nat.zero_le _, Nat.zero_le _⟩ dX6_wrongSteady_1 (fun H locs hI => ?_)
  refine lv_topi (fun z1 ez1 => ?_)
  obtain rfl : 1 = z1 := (ez1.trans (bI_t h1)).symm
  refine lv_if_ne (tgt := 9) hx hb dX6_wrongSteady_4 (by decide) (fun _ => ?_) (fun q => absurd q (by decide))
  refine lv_iload_n hx hb dX6_wrongSteady_9 rfl (lv_at hl 2 rfl) ?_
  refine x_callSi hE hK hI (c_X6_isPart l G o _ _ v ) mf_X6_isPart mw_544 rfl hl.1 rfl (Nat.le_of_ble_eq_true rfl) ⟨(Nat.le_of_ble_eq_true rfl), (Nat.le_of_ble_eq_true rfl)⟩ ⟨Nat.zero_le _, Nat.zero_le _⟩ dX6_wrongSteady_10 (fun H locs hI => ?_)
  refine lv_topi (fun z2 ez2 => ?_)
  obtain rfl : 1 = z2 := (ez2.trans (bI_t h2)).symm
  refine lv_if_ne (tgt := 19) hx hb dX6_wrongSteady_13 (by decide) (fun _ => ?_) (fun q => absurd q (by decide))
  refine lv_aload_n hx hb dX6_wrongSteady_19 rfl (lv_at hl 0 rfl) ?_
  refine x_callVv (k := 285) hE hK hI (c_X6_asSet l G o _ _  ) mf_X6_asSet mw_547 (by decide) ((e_285 G o) _ _) rfl rfl hl.1 rfl (Nat.le_of_ble_eq_true rfl) ⟨(Nat.le_of_ble_eq_true rfl), (Nat.le_of_ble_eq_true rfl)⟩ ⟨Nat.zero_le _, Nat.zero_le _⟩ dX6_wrongSteady_20 (fun H locs hI => ?_)
  refine lv_aload_n hx hb dX6_wrongSteady_23 rfl (lv_at hl 0 rfl) ?_
  refine x_callVi (k := 285) hE hK hI (c_X6_layLoads l G o _ _  ) mf_X6_layLoads mw_551 (by decide) ((e_285 G o) _ _) rfl rfl hl.1 rfl (Nat.le_of_ble_eq_true rfl) ⟨(Nat.le_of_ble_eq_true rfl), (Nat.le_of_ble_eq_true rfl)⟩ ⟨Nat.zero_le _, Nat.zero_le _⟩ dX6_wrongSteady_24 (fun H locs hI => ?_)
  refine lv_if_eq (tgt := 34) hx hb dX6_wrongSteady_27 (by decide) (fun _ => ?_) (fun q => absurd h q)
  refine lv_bipush (v := (-5)) hx hb dX6_wrongSteady_34 (by decide) ?_
  exact x_iret hE hr hlocks hI rfl rfl rfl dX6_wrongSteady_36
set_option maxRecDepth 100000 in
set_option maxHeartbeats 4000000 in
theorem c_X6_wrongSteady_y (l : Launch) (G : GG) (o : Nat) (X : SX) (Y : SY) (u : Int32) (v : Int32) (h1 : Wi u 0 3) (h2 : Wi v 0 1) (h : ¬ (llr (asX X) Y = 0)) : Ct l yX6_wrongSteady cX6_wrongSteady 3 (some .int) 2 49 G o [.ref (o + 285), .int u, .int v] X Y (some (.int 0)) (asX X) (llY (asX X) Y) := by
  refine Ct.mk (by decide +kernel) (Nat.le_of_ble_eq_true rfl) rfl ?_
  intro p9 e9 s9 m9 args9 below9 meth9 c9 hE hr hlocks hK hI ls hl
  have hx := hE.1
  have hb := hE.2.1
  have hl : lv_has ls 3 [(0, .ref (o + 285)), (1, .int u), (2, .int v)] := hl
  refine lv_iload_n hx hb dX6_wrongSteady_0 rfl (lv_at hl 1 rfl) ?_
  refine x_callSi hE hK hI (c_X6_isSize l G o _ _ u ) mf_X6_isSize mw_506 rfl hl.1 rfl (Nat.le_of_ble_eq_true rfl) ⟨(Nat.le_of_ble_eq_true rfl), (Nat.le_of_ble_eq_true rfl)⟩ ⟨Nat.zero_le _, Nat.zero_le _⟩ dX6_wrongSteady_1 (fun H locs hI => ?_)
  refine lv_topi (fun z1 ez1 => ?_)
  obtain rfl : 1 = z1 := (ez1.trans (bI_t h1)).symm
  refine lv_if_ne (tgt := 9) hx hb dX6_wrongSteady_4 (by decide) (fun _ => ?_) (fun q => absurd q (by decide))
  refine lv_iload_n hx hb dX6_wrongSteady_9 rfl (lv_at hl 2 rfl) ?_
  refine x_callSi hE hK hI (c_X6_isPart l G o _ _ v ) mf_X6_isPart mw_544 rfl hl.1 rfl (Nat.le_of_ble_eq_true rfl) ⟨(Nat.le_of_ble_eq_true rfl), (Nat.le_of_ble_eq_true rfl)⟩ ⟨Nat.zero_le _, Nat.zero_le _⟩ dX6_wrongSteady_10 (fun H locs hI => ?_)
  refine lv_topi (fun z2 ez2 => ?_)
  obtain rfl : 1 = z2 := (ez2.trans (bI_t h2)).symm
  refine lv_if_ne (tgt := 19) hx hb dX6_wrongSteady_13 (by decide) (fun _ => ?_) (fun q => absurd q (by decide))
  refine lv_aload_n hx hb dX6_wrongSteady_19 rfl (lv_at hl 0 rfl) ?_
  refine x_callVv (k := 285) hE hK hI (c_X6_asSet l G o _ _  ) mf_X6_asSet mw_547 (by decide) ((e_285 G o) _ _) rfl rfl hl.1 rfl (Nat.le_of_ble_eq_true rfl) ⟨(Nat.le_of_ble_eq_true rfl), (Nat.le_of_ble_eq_true rfl)⟩ ⟨Nat.zero_le _, Nat.zero_le _⟩ dX6_wrongSteady_20 (fun H locs hI => ?_)
  refine lv_aload_n hx hb dX6_wrongSteady_23 rfl (lv_at hl 0 rfl) ?_
  refine x_callVi (k := 285) hE hK hI (c_X6_layLoads l G o _ _  ) mf_X6_layLoads mw_551 (by decide) ((e_285 G o) _ _) rfl rfl hl.1 rfl (Nat.le_of_ble_eq_true rfl) ⟨(Nat.le_of_ble_eq_true rfl), (Nat.le_of_ble_eq_true rfl)⟩ ⟨Nat.zero_le _, Nat.zero_le _⟩ dX6_wrongSteady_24 (fun H locs hI => ?_)
  refine lv_if_eq (tgt := 34) hx hb dX6_wrongSteady_27 (by decide) (fun q => absurd q h) (fun _ => ?_)
  refine lv_iconst (v := 0) hx hb dX6_wrongSteady_30 (by decide) ?_
  refine lv_goto (tgt := 36) hx hb dX6_wrongSteady_31 (by decide) ?_
  exact x_iret hE hr hlocks hI rfl rfl rfl dX6_wrongSteady_36
set_option maxRecDepth 100000 in
set_option maxHeartbeats 4000000 in
theorem c_X6_powerOf (l : Launch) (G : GG) (o : Nat) (X : SX) (Y : SY) : Ct l yX6_powerOf cX6_powerOf 4 (some .long) 0 0 G o [.ref (o + 285)] X Y (some (.long (pwrM X Y))) X Y := by
  refine Ct.mk (by decide +kernel) (Nat.le_of_ble_eq_true rfl) rfl ?_
  intro p9 e9 s9 m9 args9 below9 meth9 c9 hE hr hlocks hK hI ls hl
  have hx := hE.1
  have hb := hE.2.1
  have hl : lv_has ls 4 [(0, .ref (o + 285))] := hl
  refine lv_lconst (v := 0) hx hb dX6_powerOf_0 (by decide) ?_
  refine lv_lstore_n (lv' := [(1, .long 0), (0, .ref (o + 285))]) hx hb dX6_powerOf_1 rfl hl (by decide) rfl (fun ls hl => ?_)
  refine lv_iconst (v := 0) hx hb dX6_powerOf_2 (by decide) ?_
  refine lv_istore_n (lv' := [(3, .int 0), (1, .long 0), (0, .ref (o + 285))]) hx hb dX6_powerOf_3 rfl hl (by decide) rfl (fun ls hl => ?_)
  refine lv_iload_n hx hb dX6_powerOf_4 rfl (lv_at hl 0 rfl) ?_
  refine lv_iconst (v := 4) hx hb dX6_powerOf_5 (by decide) ?_
  refine lv_icmp_ge (tgt := 35) hx hb dX6_powerOf_6 (by decide) (fun q => absurd q (by decide)) (fun _ => ?_)
  refine lv_lload_n hx hb dX6_powerOf_9 rfl (lv_at hl 1 rfl) ?_
  refine lv_aload_n hx hb dX6_powerOf_10 rfl (lv_at hl 2 rfl) ?_
  refine x_get (k := 285) hE hK hI (by decide) inG6 (e_285 G o _ _) rfl 0 (by decide) mw_480 rfl dX6_powerOf_11 ?_
  refine lv_bipush (v := 20) hx hb dX6_powerOf_14 (by decide) ?_
  refine lv_iload_n hx hb dX6_powerOf_16 rfl (lv_at hl 0 rfl) ?_
  refine lv_iadd hx hb dX6_powerOf_17 ?_
  refine lv_topi (fun z1 ez1 => ?_)
  obtain rfl : 20 = z1 := (ez1.trans (by decide)).symm
  refine x_iald (k := 286) (j := 20) hE hK hI (by decide) (e_286 G o) (by decide) (by decide) rfl dX6_powerOf_18 ?_
  refine lv_i2l hx hb dX6_powerOf_19 rfl ?_
  refine lv_aload_n hx hb dX6_powerOf_20 rfl (lv_at hl 2 rfl) ?_
  refine x_get (k := 285) hE hK hI (by decide) inG6 (e_285 G o _ _) rfl 4 (by decide) mw_484 rfl dX6_powerOf_21 ?_
  refine lv_iload_n hx hb dX6_powerOf_24 rfl (lv_at hl 0 rfl) ?_
  refine x_lald (k := 290) (j := 0) hE hK hI (by decide) (e_290 G o) (by decide) (by decide) rfl dX6_powerOf_25 ?_
  refine lv_lmul hx hb dX6_powerOf_26 ?_
  refine lv_ladd hx hb dX6_powerOf_27 ?_
  refine lv_lstore_n (lv' := [(1, .long (0 + (((X 286 20).toInt64) * (Y 290 0)))), (3, .int 0), (0, .ref (o + 285))]) hx hb dX6_powerOf_28 rfl hl (by decide) rfl (fun ls hl => ?_)
  refine lv_iinc (v := 1) (lv' := [(3, .int 1), (1, .long (0 + (((X 286 20).toInt64) * (Y 290 0)))), (0, .ref (o + 285))]) hx hb dX6_powerOf_29 hl (k := 1) rfl (by decide) (by decide) rfl (fun ls hl => ?_)
  refine lv_goto (tgt := 4) hx hb dX6_powerOf_32 (by decide) ?_
  refine lv_iload_n hx hb dX6_powerOf_4 rfl (lv_at hl 0 rfl) ?_
  refine lv_iconst (v := 4) hx hb dX6_powerOf_5 (by decide) ?_
  refine lv_icmp_ge (tgt := 35) hx hb dX6_powerOf_6 (by decide) (fun q => absurd q (by decide)) (fun _ => ?_)
  refine lv_lload_n hx hb dX6_powerOf_9 rfl (lv_at hl 1 rfl) ?_
  refine lv_aload_n hx hb dX6_powerOf_10 rfl (lv_at hl 2 rfl) ?_
  refine x_get (k := 285) hE hK hI (by decide) inG6 (e_285 G o _ _) rfl 0 (by decide) mw_480 rfl dX6_powerOf_11 ?_
  refine lv_bipush (v := 20) hx hb dX6_powerOf_14 (by decide) ?_
  refine lv_iload_n hx hb dX6_powerOf_16 rfl (lv_at hl 0 rfl) ?_
  refine lv_iadd hx hb dX6_powerOf_17 ?_
  refine lv_topi (fun z2 ez2 => ?_)
  obtain rfl : 21 = z2 := (ez2.trans (by decide)).symm
  refine x_iald (k := 286) (j := 21) hE hK hI (by decide) (e_286 G o) (by decide) (by decide) rfl dX6_powerOf_18 ?_
  refine lv_i2l hx hb dX6_powerOf_19 rfl ?_
  refine lv_aload_n hx hb dX6_powerOf_20 rfl (lv_at hl 2 rfl) ?_
  refine x_get (k := 285) hE hK hI (by decide) inG6 (e_285 G o _ _) rfl 4 (by decide) mw_484 rfl dX6_powerOf_21 ?_
  refine lv_iload_n hx hb dX6_powerOf_24 rfl (lv_at hl 0 rfl) ?_
  refine x_lald (k := 290) (j := 1) hE hK hI (by decide) (e_290 G o) (by decide) (by decide) rfl dX6_powerOf_25 ?_
  refine lv_lmul hx hb dX6_powerOf_26 ?_
  refine lv_ladd hx hb dX6_powerOf_27 ?_
  refine lv_lstore_n (lv' := [(1, .long ((0 + (((X 286 20).toInt64) * (Y 290 0))) + (((X 286 21).toInt64) * (Y 290 1)))), (3, .int 1), (0, .ref (o + 285))]) hx hb dX6_powerOf_28 rfl hl (by decide) rfl (fun ls hl => ?_)
  refine lv_iinc (v := 2) (lv' := [(3, .int 2), (1, .long ((0 + (((X 286 20).toInt64) * (Y 290 0))) + (((X 286 21).toInt64) * (Y 290 1)))), (0, .ref (o + 285))]) hx hb dX6_powerOf_29 hl (k := 1) rfl (by decide) (by decide) rfl (fun ls hl => ?_)
  refine lv_goto (tgt := 4) hx hb dX6_powerOf_32 (by decide) ?_
  refine lv_iload_n hx hb dX6_powerOf_4 rfl (lv_at hl 0 rfl) ?_
  refine lv_iconst (v := 4) hx hb dX6_powerOf_5 (by decide) ?_
  refine lv_icmp_ge (tgt := 35) hx hb dX6_powerOf_6 (by decide) (fun q => absurd q (by decide)) (fun _ => ?_)
  refine lv_lload_n hx hb dX6_powerOf_9 rfl (lv_at hl 1 rfl) ?_
  refine lv_aload_n hx hb dX6_powerOf_10 rfl (lv_at hl 2 rfl) ?_
  refine x_get (k := 285) hE hK hI (by decide) inG6 (e_285 G o _ _) rfl 0 (by decide) mw_480 rfl dX6_powerOf_11 ?_
  refine lv_bipush (v := 20) hx hb dX6_powerOf_14 (by decide) ?_
  refine lv_iload_n hx hb dX6_powerOf_16 rfl (lv_at hl 0 rfl) ?_
  refine lv_iadd hx hb dX6_powerOf_17 ?_
  refine lv_topi (fun z3 ez3 => ?_)
  obtain rfl : 22 = z3 := (ez3.trans (by decide)).symm
  refine x_iald (k := 286) (j := 22) hE hK hI (by decide) (e_286 G o) (by decide) (by decide) rfl dX6_powerOf_18 ?_
  refine lv_i2l hx hb dX6_powerOf_19 rfl ?_
  refine lv_aload_n hx hb dX6_powerOf_20 rfl (lv_at hl 2 rfl) ?_
  refine x_get (k := 285) hE hK hI (by decide) inG6 (e_285 G o _ _) rfl 4 (by decide) mw_484 rfl dX6_powerOf_21 ?_
  refine lv_iload_n hx hb dX6_powerOf_24 rfl (lv_at hl 0 rfl) ?_
  refine x_lald (k := 290) (j := 2) hE hK hI (by decide) (e_290 G o) (by decide) (by decide) rfl dX6_powerOf_25 ?_
  refine lv_lmul hx hb dX6_powerOf_26 ?_
  refine lv_ladd hx hb dX6_powerOf_27 ?_
  refine lv_lstore_n (lv' := [(1, .long (((0 + (((X 286 20).toInt64) * (Y 290 0))) + (((X 286 21).toInt64) * (Y 290 1))) + (((X 286 22).toInt64) * (Y 290 2)))), (3, .int 2), (0, .ref (o + 285))]) hx hb dX6_powerOf_28 rfl hl (by decide) rfl (fun ls hl => ?_)
  refine lv_iinc (v := 3) (lv' := [(3, .int 3), (1, .long (((0 + (((X 286 20).toInt64) * (Y 290 0))) + (((X 286 21).toInt64) * (Y 290 1))) + (((X 286 22).toInt64) * (Y 290 2)))), (0, .ref (o + 285))]) hx hb dX6_powerOf_29 hl (k := 1) rfl (by decide) (by decide) rfl (fun ls hl => ?_)
  refine lv_goto (tgt := 4) hx hb dX6_powerOf_32 (by decide) ?_
  refine lv_iload_n hx hb dX6_powerOf_4 rfl (lv_at hl 0 rfl) ?_
  refine lv_iconst (v := 4) hx hb dX6_powerOf_5 (by decide) ?_
  refine lv_icmp_ge (tgt := 35) hx hb dX6_powerOf_6 (by decide) (fun q => absurd q (by decide)) (fun _ => ?_)
  refine lv_lload_n hx hb dX6_powerOf_9 rfl (lv_at hl 1 rfl) ?_
  refine lv_aload_n hx hb dX6_powerOf_10 rfl (lv_at hl 2 rfl) ?_
  refine x_get (k := 285) hE hK hI (by decide) inG6 (e_285 G o _ _) rfl 0 (by decide) mw_480 rfl dX6_powerOf_11 ?_
  refine lv_bipush (v := 20) hx hb dX6_powerOf_14 (by decide) ?_
  refine lv_iload_n hx hb dX6_powerOf_16 rfl (lv_at hl 0 rfl) ?_
  refine lv_iadd hx hb dX6_powerOf_17 ?_
  refine lv_topi (fun z4 ez4 => ?_)
  obtain rfl : 23 = z4 := (ez4.trans (by decide)).symm
  refine x_iald (k := 286) (j := 23) hE hK hI (by decide) (e_286 G o) (by decide) (by decide) rfl dX6_powerOf_18 ?_
  refine lv_i2l hx hb dX6_powerOf_19 rfl ?_
  refine lv_aload_n hx hb dX6_powerOf_20 rfl (lv_at hl 2 rfl) ?_
  refine x_get (k := 285) hE hK hI (by decide) inG6 (e_285 G o _ _) rfl 4 (by decide) mw_484 rfl dX6_powerOf_21 ?_
  refine lv_iload_n hx hb dX6_powerOf_24 rfl (lv_at hl 0 rfl) ?_
  refine x_lald (k := 290) (j := 3) hE hK hI (by decide) (e_290 G o) (by decide) (by decide) rfl dX6_powerOf_25 ?_
  refine lv_lmul hx hb dX6_powerOf_26 ?_
  refine lv_ladd hx hb dX6_powerOf_27 ?_
  refine lv_lstore_n (lv' := [(1, .long ((((0 + (((X 286 20).toInt64) * (Y 290 0))) + (((X 286 21).toInt64) * (Y 290 1))) + (((X 286 22).toInt64) * (Y 290 2))) + (((X 286 23).toInt64) * (Y 290 3)))), (3, .int 3), (0, .ref (o + 285))]) hx hb dX6_powerOf_28 rfl hl (by decide) rfl (fun ls hl => ?_)
  refine lv_iinc (v := 4) (lv' := [(3, .int 4), (1, .long ((((0 + (((X 286 20).toInt64) * (Y 290 0))) + (((X 286 21).toInt64) * (Y 290 1))) + (((X 286 22).toInt64) * (Y 290 2))) + (((X 286 23).toInt64) * (Y 290 3)))), (0, .ref (o + 285))]) hx hb dX6_powerOf_29 hl (k := 1) rfl (by decide) (by decide) rfl (fun ls hl => ?_)
  refine lv_goto (tgt := 4) hx hb dX6_powerOf_32 (by decide) ?_
  refine lv_iload_n hx hb dX6_powerOf_4 rfl (lv_at hl 0 rfl) ?_
  refine lv_iconst (v := 4) hx hb dX6_powerOf_5 (by decide) ?_
  refine lv_icmp_ge (tgt := 35) hx hb dX6_powerOf_6 (by decide) (fun _ => ?_) (fun q => absurd (by decide) q)
  refine lv_lload_n hx hb dX6_powerOf_35 rfl (lv_at hl 1 rfl) ?_
  exact x_lret hE hr hlocks hI rfl rfl rfl dX6_powerOf_36
set_option maxRecDepth 100000 in
set_option maxHeartbeats 4000000 in
theorem c_X6_load_a (l : Launch) (G : GG) (o : Nat) (X : SX) (Y : SY) (u : Int32) (v : Int32) (h : ¬ (Wi u 0 3)) : Ct l yX6_load cX6_load 4 (some .long) 3 64 G o [.ref (o + 285), .int u, .int v] X Y (some (.long (-1))) X Y := by
  refine Ct.mk (by decide +kernel) (Nat.le_of_ble_eq_true rfl) rfl ?_
  intro p9 e9 s9 m9 args9 below9 meth9 c9 hE hr hlocks hK hI ls hl
  have hx := hE.1
  have hb := hE.2.1
  have hl : lv_has ls 4 [(0, .ref (o + 285)), (1, .int u), (2, .int v)] := hl
  refine lv_aload_n hx hb dX6_load_0 rfl (lv_at hl 0 rfl) ?_
  refine lv_iload_n hx hb dX6_load_1 rfl (lv_at hl 1 rfl) ?_
  refine lv_iload_n hx hb dX6_load_2 rfl (lv_at hl 2 rfl) ?_
  refine x_callVi (k := 285) hE hK hI (c_X6_wrongSteady_a l G o _ _ u v h) mf_X6_wrongSteady mw_540 (by decide) ((e_285 G o) _ _) rfl rfl hl.1 rfl (Nat.le_of_ble_eq_true rfl) ⟨(Nat.le_of_ble_eq_true rfl), (Nat.le_of_ble_eq_true rfl)⟩ ⟨Nat.zero_le _, Nat.zero_le _⟩ dX6_load_3 (fun H locs hI => ?_)
  refine lv_istore_n (lv' := [(3, .int (-1)), (0, .ref (o + 285)), (1, .int u), (2, .int v)]) hx hb dX6_load_6 rfl hl (by decide) rfl (fun ls hl => ?_)
  refine lv_iload_n hx hb dX6_load_7 rfl (lv_at hl 0 rfl) ?_
  refine lv_if_eq (tgt := 16) hx hb dX6_load_8 (by decide) (fun q => absurd q (by decide)) (fun _ => ?_)
  refine lv_iload_n hx hb dX6_load_11 rfl (lv_at hl 0 rfl) ?_
  refine lv_i2l (v := (-1)) hx hb dX6_load_12 (by decide) ?_
  refine lv_goto (tgt := 30) hx hb dX6_load_13 (by decide) ?_
  exact x_lret hE hr hlocks hI rfl rfl rfl dX6_load_30
set_option maxRecDepth 100000 in
set_option maxHeartbeats 4000000 in
theorem c_X6_load_b (l : Launch) (G : GG) (o : Nat) (X : SX) (Y : SY) (u : Int32) (v : Int32) (h1 : Wi u 0 3) (h : ¬ (Wi v 0 1)) : Ct l yX6_load cX6_load 4 (some .long) 3 64 G o [.ref (o + 285), .int u, .int v] X Y (some (.long (-3))) X Y := by
  refine Ct.mk (by decide +kernel) (Nat.le_of_ble_eq_true rfl) rfl ?_
  intro p9 e9 s9 m9 args9 below9 meth9 c9 hE hr hlocks hK hI ls hl
  have hx := hE.1
  have hb := hE.2.1
  have hl : lv_has ls 4 [(0, .ref (o + 285)), (1, .int u), (2, .int v)] := hl
  refine lv_aload_n hx hb dX6_load_0 rfl (lv_at hl 0 rfl) ?_
  refine lv_iload_n hx hb dX6_load_1 rfl (lv_at hl 1 rfl) ?_
  refine lv_iload_n hx hb dX6_load_2 rfl (lv_at hl 2 rfl) ?_
  refine x_callVi (k := 285) hE hK hI (c_X6_wrongSteady_b l G o _ _ u v h1 h) mf_X6_wrongSteady mw_540 (by decide) ((e_285 G o) _ _) rfl rfl hl.1 rfl (Nat.le_of_ble_eq_true rfl) ⟨(Nat.le_of_ble_eq_true rfl), (Nat.le_of_ble_eq_true rfl)⟩ ⟨Nat.zero_le _, Nat.zero_le _⟩ dX6_load_3 (fun H locs hI => ?_)
  refine lv_istore_n (lv' := [(3, .int (-3)), (0, .ref (o + 285)), (1, .int u), (2, .int v)]) hx hb dX6_load_6 rfl hl (by decide) rfl (fun ls hl => ?_)
  refine lv_iload_n hx hb dX6_load_7 rfl (lv_at hl 0 rfl) ?_
  refine lv_if_eq (tgt := 16) hx hb dX6_load_8 (by decide) (fun q => absurd q (by decide)) (fun _ => ?_)
  refine lv_iload_n hx hb dX6_load_11 rfl (lv_at hl 0 rfl) ?_
  refine lv_i2l (v := (-3)) hx hb dX6_load_12 (by decide) ?_
  refine lv_goto (tgt := 30) hx hb dX6_load_13 (by decide) ?_
  exact x_lret hE hr hlocks hI rfl rfl rfl dX6_load_30
set_option maxRecDepth 100000 in
set_option maxHeartbeats 4000000 in
theorem c_X6_load_n0 (l : Launch) (G : GG) (o : Nat) (X : SX) (Y : SY) (u : Int32) (h1 : Wi u 0 3) (h : llr (asX X) Y = 0) : Ct l yX6_load cX6_load 4 (some .long) 3 71 G o [.ref (o + 285), .int u, .int 0] X Y (some (.long (-5))) (asX X) (llY (asX X) Y) := by
  refine Ct.mk (by decide +kernel) (Nat.le_of_ble_eq_true rfl) rfl ?_
  intro p9 e9 s9 m9 args9 below9 meth9 c9 hE hr hlocks hK hI ls hl
  have hx := hE.1
  have hb := hE.2.1
  have hl : lv_has ls 4 [(0, .ref (o + 285)), (1, .int u), (2, .int 0)] := hl
  refine lv_aload_n hx hb dX6_load_0 rfl (lv_at hl 0 rfl) ?_
  refine lv_iload_n hx hb dX6_load_1 rfl (lv_at hl 1 rfl) ?_
  refine lv_iload_n hx hb dX6_load_2 rfl (lv_at hl 2 rfl) ?_
  refine x_callVi (k := 285) hE hK hI (c_X6_wrongSteady_n l G o _ _ u 0 h1 (by decide) h) mf_X6_wrongSteady mw_540 (by decide) ((e_285 G o) _ _) rfl rfl hl.1 rfl (Nat.le_of_ble_eq_true rfl) ⟨(Nat.le_of_ble_eq_true rfl), (Nat.le_of_ble_eq_true rfl)⟩ ⟨Nat.zero_le _, Nat.zero_le _⟩ dX6_load_3 (fun H locs hI => ?_)
  refine lv_istore_n (lv' := [(3, .int (-5)), (0, .ref (o + 285)), (1, .int u), (2, .int 0)]) hx hb dX6_load_6 rfl hl (by decide) rfl (fun ls hl => ?_)
  refine lv_iload_n hx hb dX6_load_7 rfl (lv_at hl 0 rfl) ?_
  refine lv_if_eq (tgt := 16) hx hb dX6_load_8 (by decide) (fun q => absurd q (by decide)) (fun _ => ?_)
  refine lv_iload_n hx hb dX6_load_11 rfl (lv_at hl 0 rfl) ?_
  refine lv_i2l (v := (-5)) hx hb dX6_load_12 (by decide) ?_
  refine lv_goto (tgt := 30) hx hb dX6_load_13 (by decide) ?_
  exact x_lret hE hr hlocks hI rfl rfl rfl dX6_load_30
set_option maxRecDepth 100000 in
set_option maxHeartbeats 4000000 in
theorem c_X6_load_n1 (l : Launch) (G : GG) (o : Nat) (X : SX) (Y : SY) (u : Int32) (h1 : Wi u 0 3) (h : llr (asX X) Y = 0) : Ct l yX6_load cX6_load 4 (some .long) 3 71 G o [.ref (o + 285), .int u, .int 1] X Y (some (.long (-5))) (asX X) (llY (asX X) Y) := by
  refine Ct.mk (by decide +kernel) (Nat.le_of_ble_eq_true rfl) rfl ?_
  intro p9 e9 s9 m9 args9 below9 meth9 c9 hE hr hlocks hK hI ls hl
  have hx := hE.1
  have hb := hE.2.1
  have hl : lv_has ls 4 [(0, .ref (o + 285)), (1, .int u), (2, .int 1)] := hl
  refine lv_aload_n hx hb dX6_load_0 rfl (lv_at hl 0 rfl) ?_
  refine lv_iload_n hx hb dX6_load_1 rfl (lv_at hl 1 rfl) ?_
  refine lv_iload_n hx hb dX6_load_2 rfl (lv_at hl 2 rfl) ?_
  refine x_callVi (k := 285) hE hK hI (c_X6_wrongSteady_n l G o _ _ u 1 h1 (by decide) h) mf_X6_wrongSteady mw_540 (by decide) ((e_285 G o) _ _) rfl rfl hl.1 rfl (Nat.le_of_ble_eq_true rfl) ⟨(Nat.le_of_ble_eq_true rfl), (Nat.le_of_ble_eq_true rfl)⟩ ⟨Nat.zero_le _, Nat.zero_le _⟩ dX6_load_3 (fun H locs hI => ?_)
  refine lv_istore_n (lv' := [(3, .int (-5)), (0, .ref (o + 285)), (1, .int u), (2, .int 1)]) hx hb dX6_load_6 rfl hl (by decide) rfl (fun ls hl => ?_)
  refine lv_iload_n hx hb dX6_load_7 rfl (lv_at hl 0 rfl) ?_
  refine lv_if_eq (tgt := 16) hx hb dX6_load_8 (by decide) (fun q => absurd q (by decide)) (fun _ => ?_)
  refine lv_iload_n hx hb dX6_load_11 rfl (lv_at hl 0 rfl) ?_
  refine lv_i2l (v := (-5)) hx hb dX6_load_12 (by decide) ?_
  refine lv_goto (tgt := 30) hx hb dX6_load_13 (by decide) ?_
  exact x_lret hE hr hlocks hI rfl rfl rfl dX6_load_30
set_option maxRecDepth 100000 in
set_option maxHeartbeats 4000000 in
theorem c_X6_product_a (l : Launch) (G : GG) (o : Nat) (X : SX) (Y : SY) (u : Int32) (v : Int32) (h : ¬ (Wi u 0 3)) : Ct l yX6_product cX6_product 7 (some .long) 3 64 G o [.ref (o + 285), .int u, .int v] X Y (some (.long (-1))) X Y := by
  refine Ct.mk (by decide +kernel) (Nat.le_of_ble_eq_true rfl) rfl ?_
  intro p9 e9 s9 m9 args9 below9 meth9 c9 hE hr hlocks hK hI ls hl
  have hx := hE.1
  have hb := hE.2.1
  have hl : lv_has ls 7 [(0, .ref (o + 285)), (1, .int u), (2, .int v)] := hl
  refine lv_aload_n hx hb dX6_product_0 rfl (lv_at hl 0 rfl) ?_
  refine lv_iload_n hx hb dX6_product_1 rfl (lv_at hl 1 rfl) ?_
  refine lv_iload_n hx hb dX6_product_2 rfl (lv_at hl 2 rfl) ?_
  refine x_callVi (k := 285) hE hK hI (c_X6_wrongSteady_a l G o _ _ u v h) mf_X6_wrongSteady mw_540 (by decide) ((e_285 G o) _ _) rfl rfl hl.1 rfl (Nat.le_of_ble_eq_true rfl) ⟨(Nat.le_of_ble_eq_true rfl), (Nat.le_of_ble_eq_true rfl)⟩ ⟨Nat.zero_le _, Nat.zero_le _⟩ dX6_product_3 (fun H locs hI => ?_)
  refine lv_istore_n (lv' := [(3, .int (-1)), (0, .ref (o + 285)), (1, .int u), (2, .int v)]) hx hb dX6_product_6 rfl hl (by decide) rfl (fun ls hl => ?_)
  refine lv_iload_n hx hb dX6_product_7 rfl (lv_at hl 0 rfl) ?_
  refine lv_if_eq (tgt := 14) hx hb dX6_product_8 (by decide) (fun q => absurd q (by decide)) (fun _ => ?_)
  refine lv_iload_n hx hb dX6_product_11 rfl (lv_at hl 0 rfl) ?_
  refine lv_i2l (v := (-1)) hx hb dX6_product_12 (by decide) ?_
  exact x_lret hE hr hlocks hI rfl rfl rfl dX6_product_13
set_option maxRecDepth 100000 in
set_option maxHeartbeats 4000000 in
theorem c_X6_product_b (l : Launch) (G : GG) (o : Nat) (X : SX) (Y : SY) (u : Int32) (v : Int32) (h1 : Wi u 0 3) (h : ¬ (Wi v 0 1)) : Ct l yX6_product cX6_product 7 (some .long) 3 64 G o [.ref (o + 285), .int u, .int v] X Y (some (.long (-3))) X Y := by
  refine Ct.mk (by decide +kernel) (Nat.le_of_ble_eq_true rfl) rfl ?_
  intro p9 e9 s9 m9 args9 below9 meth9 c9 hE hr hlocks hK hI ls hl
  have hx := hE.1
  have hb := hE.2.1
  have hl : lv_has ls 7 [(0, .ref (o + 285)), (1, .int u), (2, .int v)] := hl
  refine lv_aload_n hx hb dX6_product_0 rfl (lv_at hl 0 rfl) ?_
  refine lv_iload_n hx hb dX6_product_1 rfl (lv_at hl 1 rfl) ?_
  refine lv_iload_n hx hb dX6_product_2 rfl (lv_at hl 2 rfl) ?_
  refine x_callVi (k := 285) hE hK hI (c_X6_wrongSteady_b l G o _ _ u v h1 h) mf_X6_wrongSteady mw_540 (by decide) ((e_285 G o) _ _) rfl rfl hl.1 rfl (Nat.le_of_ble_eq_true rfl) ⟨(Nat.le_of_ble_eq_true rfl), (Nat.le_of_ble_eq_true rfl)⟩ ⟨Nat.zero_le _, Nat.zero_le _⟩ dX6_product_3 (fun H locs hI => ?_)
  refine lv_istore_n (lv' := [(3, .int (-3)), (0, .ref (o + 285)), (1, .int u), (2, .int v)]) hx hb dX6_product_6 rfl hl (by decide) rfl (fun ls hl => ?_)
  refine lv_iload_n hx hb dX6_product_7 rfl (lv_at hl 0 rfl) ?_
  refine lv_if_eq (tgt := 14) hx hb dX6_product_8 (by decide) (fun q => absurd q (by decide)) (fun _ => ?_)
  refine lv_iload_n hx hb dX6_product_11 rfl (lv_at hl 0 rfl) ?_
  refine lv_i2l (v := (-3)) hx hb dX6_product_12 (by decide) ?_
  exact x_lret hE hr hlocks hI rfl rfl rfl dX6_product_13
set_option maxRecDepth 100000 in
set_option maxHeartbeats 4000000 in
theorem c_X6_product_n0 (l : Launch) (G : GG) (o : Nat) (X : SX) (Y : SY) (u : Int32) (h1 : Wi u 0 3) (h : llr (asX X) Y = 0) : Ct l yX6_product cX6_product 7 (some .long) 3 71 G o [.ref (o + 285), .int u, .int 0] X Y (some (.long (-5))) (asX X) (llY (asX X) Y) := by
  refine Ct.mk (by decide +kernel) (Nat.le_of_ble_eq_true rfl) rfl ?_
  intro p9 e9 s9 m9 args9 below9 meth9 c9 hE hr hlocks hK hI ls hl
  have hx := hE.1
  have hb := hE.2.1
  have hl : lv_has ls 7 [(0, .ref (o + 285)), (1, .int u), (2, .int 0)] := hl
  refine lv_aload_n hx hb dX6_product_0 rfl (lv_at hl 0 rfl) ?_
  refine lv_iload_n hx hb dX6_product_1 rfl (lv_at hl 1 rfl) ?_
  refine lv_iload_n hx hb dX6_product_2 rfl (lv_at hl 2 rfl) ?_
  refine x_callVi (k := 285) hE hK hI (c_X6_wrongSteady_n l G o _ _ u 0 h1 (by decide) h) mf_X6_wrongSteady mw_540 (by decide) ((e_285 G o) _ _) rfl rfl hl.1 rfl (Nat.le_of_ble_eq_true rfl) ⟨(Nat.le_of_ble_eq_true rfl), (Nat.le_of_ble_eq_true rfl)⟩ ⟨Nat.zero_le _, Nat.zero_le _⟩ dX6_product_3 (fun H locs hI => ?_)
  refine lv_istore_n (lv' := [(3, .int (-5)), (0, .ref (o + 285)), (1, .int u), (2, .int 0)]) hx hb dX6_product_6 rfl hl (by decide) rfl (fun ls hl => ?_)
  refine lv_iload_n hx hb dX6_product_7 rfl (lv_at hl 0 rfl) ?_
  refine lv_if_eq (tgt := 14) hx hb dX6_product_8 (by decide) (fun q => absurd q (by decide)) (fun _ => ?_)
  refine lv_iload_n hx hb dX6_product_11 rfl (lv_at hl 0 rfl) ?_
  refine lv_i2l (v := (-5)) hx hb dX6_product_12 (by decide) ?_
  exact x_lret hE hr hlocks hI rfl rfl rfl dX6_product_13
set_option maxRecDepth 100000 in
set_option maxHeartbeats 4000000 in
theorem c_X6_product_n1 (l : Launch) (G : GG) (o : Nat) (X : SX) (Y : SY) (u : Int32) (h1 : Wi u 0 3) (h : llr (asX X) Y = 0) : Ct l yX6_product cX6_product 7 (some .long) 3 71 G o [.ref (o + 285), .int u, .int 1] X Y (some (.long (-5))) (asX X) (llY (asX X) Y) := by
  refine Ct.mk (by decide +kernel) (Nat.le_of_ble_eq_true rfl) rfl ?_
  intro p9 e9 s9 m9 args9 below9 meth9 c9 hE hr hlocks hK hI ls hl
  have hx := hE.1
  have hb := hE.2.1
  have hl : lv_has ls 7 [(0, .ref (o + 285)), (1, .int u), (2, .int 1)] := hl
  refine lv_aload_n hx hb dX6_product_0 rfl (lv_at hl 0 rfl) ?_
  refine lv_iload_n hx hb dX6_product_1 rfl (lv_at hl 1 rfl) ?_
  refine lv_iload_n hx hb dX6_product_2 rfl (lv_at hl 2 rfl) ?_
  refine x_callVi (k := 285) hE hK hI (c_X6_wrongSteady_n l G o _ _ u 1 h1 (by decide) h) mf_X6_wrongSteady mw_540 (by decide) ((e_285 G o) _ _) rfl rfl hl.1 rfl (Nat.le_of_ble_eq_true rfl) ⟨(Nat.le_of_ble_eq_true rfl), (Nat.le_of_ble_eq_true rfl)⟩ ⟨Nat.zero_le _, Nat.zero_le _⟩ dX6_product_3 (fun H locs hI => ?_)
  refine lv_istore_n (lv' := [(3, .int (-5)), (0, .ref (o + 285)), (1, .int u), (2, .int 1)]) hx hb dX6_product_6 rfl hl (by decide) rfl (fun ls hl => ?_)
  refine lv_iload_n hx hb dX6_product_7 rfl (lv_at hl 0 rfl) ?_
  refine lv_if_eq (tgt := 14) hx hb dX6_product_8 (by decide) (fun q => absurd q (by decide)) (fun _ => ?_)
  refine lv_iload_n hx hb dX6_product_11 rfl (lv_at hl 0 rfl) ?_
  refine lv_i2l (v := (-5)) hx hb dX6_product_12 (by decide) ?_
  exact x_lret hE hr hlocks hI rfl rfl rfl dX6_product_13
set_option maxRecDepth 100000 in
set_option maxHeartbeats 4000000 in
theorem c_X6_load_y0 (l : Launch) (G : GG) (o : Nat) (X : SX) (Y : SY) (j : Nat) (h0 : j < 4) (h1 : Wi (nI j) 0 3) (h : ¬ (llr (asX X) Y = 0)) (hg0 : 0 ≤ (llY (asX X) Y) 290 j) (hgk : gok 100 ((llY (asX X) Y) 290 j) ((llY (asX X) Y) 285 5)) (hg : ¬ (gcdL 100 ((llY (asX X) Y) 290 j) ((llY (asX X) Y) 285 5) = 0)) : Ct l yX6_load cX6_load 4 (some .long) 3 71 G o [.ref (o + 285), .int (nI j), .int 0] X Y (some (.long (((llY (asX X) Y) 290 j) / gcdL 100 ((llY (asX X) Y) 290 j) ((llY (asX X) Y) 285 5)))) (asX X) (llY (asX X) Y) := by
  refine Ct.mk (by decide +kernel) (Nat.le_of_ble_eq_true rfl) rfl ?_
  intro p9 e9 s9 m9 args9 below9 meth9 c9 hE hr hlocks hK hI ls hl
  have hx := hE.1
  have hb := hE.2.1
  have hl : lv_has ls 4 [(0, .ref (o + 285)), (1, .int (nI j)), (2, .int 0)] := hl
  refine lv_aload_n hx hb dX6_load_0 rfl (lv_at hl 0 rfl) ?_
  refine lv_iload_n hx hb dX6_load_1 rfl (lv_at hl 1 rfl) ?_
  refine lv_iload_n hx hb dX6_load_2 rfl (lv_at hl 2 rfl) ?_
  refine x_callVi (k := 285) hE hK hI (c_X6_wrongSteady_y l G o _ _ (nI j) 0 h1 (by decide) h) mf_X6_wrongSteady mw_540 (by decide) ((e_285 G o) _ _) rfl rfl hl.1 rfl (Nat.le_of_ble_eq_true rfl) ⟨(Nat.le_of_ble_eq_true rfl), (Nat.le_of_ble_eq_true rfl)⟩ ⟨Nat.zero_le _, Nat.zero_le _⟩ dX6_load_3 (fun H locs hI => ?_)
  refine lv_istore_n (lv' := [(3, .int 0), (0, .ref (o + 285)), (1, .int (nI j)), (2, .int 0)]) hx hb dX6_load_6 rfl hl (by decide) rfl (fun ls hl => ?_)
  refine lv_iload_n hx hb dX6_load_7 rfl (lv_at hl 0 rfl) ?_
  refine lv_if_eq (tgt := 16) hx hb dX6_load_8 (by decide) (fun _ => ?_) (fun q => absurd (by decide) q)
  refine lv_aload_n hx hb dX6_load_16 rfl (lv_at hl 1 rfl) ?_
  refine x_get (k := 285) hE hK hI (by decide) inG6 (e_285 G o _ _) rfl 4 (by decide) mw_484 rfl dX6_load_17 ?_
  refine lv_iload_n hx hb dX6_load_20 rfl (lv_at hl 2 rfl) ?_
  refine x_lald (k := 290) (j := j) hE hK hI (by decide) (e_290 G o) h0 (by decide) rfl dX6_load_21 ?_
  refine lv_aload_n hx hb dX6_load_22 rfl (lv_at hl 1 rfl) ?_
  refine x_get (k := 285) hE hK hI (by decide) inG6 (e_285 G o _ _) rfl 5 (by decide) mw_485 rfl dX6_load_23 ?_
  refine lv_iload_n hx hb dX6_load_26 rfl (lv_at hl 3 rfl) ?_
  refine x_callSl hE hK hI (c_X6_part_0 l G o _ _ ((llY (asX X) Y) 290 j) ((llY (asX X) Y) 285 5) hg0 hgk hg) mf_X6_part mw_556 rfl hl.1 rfl (Nat.le_of_ble_eq_true rfl) ⟨(Nat.le_of_ble_eq_true rfl), (Nat.le_of_ble_eq_true rfl)⟩ ⟨Nat.zero_le _, Nat.zero_le _⟩ dX6_load_27 (fun H locs hI => ?_)
  exact x_lret hE hr hlocks hI rfl rfl rfl dX6_load_30
set_option maxRecDepth 100000 in
set_option maxHeartbeats 4000000 in
theorem c_X6_product_y0_0 (l : Launch) (G : GG) (o : Nat) (X : SX) (Y : SY) (h : ¬ (llr (asX X) Y = 0)) (hg0 : 0 ≤ (0 + (((llY (asX X) Y) 290 0) * (((asX X) 286 0).toInt64))) * ((10 - ((asX X) 289 0)).toInt64)) (hgk : gok 100 ((0 + (((llY (asX X) Y) 290 0) * (((asX X) 286 0).toInt64))) * ((10 - ((asX X) 289 0)).toInt64)) (100 * ((llY (asX X) Y) 285 5))) (hg : ¬ (gcdL 100 ((0 + (((llY (asX X) Y) 290 0) * (((asX X) 286 0).toInt64))) * ((10 - ((asX X) 289 0)).toInt64)) (100 * ((llY (asX X) Y) 285 5)) = 0)) : Ct l yX6_product cX6_product 7 (some .long) 3 71 G o [.ref (o + 285), .int 0, .int 0] X Y (some (.long (((0 + (((llY (asX X) Y) 290 0) * (((asX X) 286 0).toInt64))) * ((10 - ((asX X) 289 0)).toInt64)) / gcdL 100 ((0 + (((llY (asX X) Y) 290 0) * (((asX X) 286 0).toInt64))) * ((10 - ((asX X) 289 0)).toInt64)) (100 * ((llY (asX X) Y) 285 5))))) (asX X) (llY (asX X) Y) := by
  refine Ct.mk (by decide +kernel) (Nat.le_of_ble_eq_true rfl) rfl ?_
  intro p9 e9 s9 m9 args9 below9 meth9 c9 hE hr hlocks hK hI ls hl
  have hx := hE.1
  have hb := hE.2.1
  have hl : lv_has ls 7 [(0, .ref (o + 285)), (1, .int 0), (2, .int 0)] := hl
  refine lv_aload_n hx hb dX6_product_0 rfl (lv_at hl 0 rfl) ?_
  refine lv_iload_n hx hb dX6_product_1 rfl (lv_at hl 1 rfl) ?_
  refine lv_iload_n hx hb dX6_product_2 rfl (lv_at hl 2 rfl) ?_
  refine x_callVi (k := 285) hE hK hI (c_X6_wrongSteady_y l G o _ _ 0 0 (by decide) (by decide) h) mf_X6_wrongSteady mw_540 (by decide) ((e_285 G o) _ _) rfl rfl hl.1 rfl (Nat.le_of_ble_eq_true rfl) ⟨(Nat.le_of_ble_eq_true rfl), (Nat.le_of_ble_eq_true rfl)⟩ ⟨Nat.zero_le _, Nat.zero_le _⟩ dX6_product_3 (fun H locs hI => ?_)
  refine lv_istore_n (lv' := [(3, .int 0), (0, .ref (o + 285)), (1, .int 0), (2, .int 0)]) hx hb dX6_product_6 rfl hl (by decide) rfl (fun ls hl => ?_)
  refine lv_iload_n hx hb dX6_product_7 rfl (lv_at hl 0 rfl) ?_
  refine lv_if_eq (tgt := 14) hx hb dX6_product_8 (by decide) (fun _ => ?_) (fun q => absurd (by decide) q)
  refine lv_lconst (v := 0) hx hb dX6_product_14 (by decide) ?_
  refine lv_lstore (lv' := [(4, .long 0), (3, .int 0), (0, .ref (o + 285)), (1, .int 0), (2, .int 0)]) hx hb dX6_product_15 hl (by decide) rfl (fun ls hl => ?_)
  refine lv_iconst (v := 0) hx hb dX6_product_17 (by decide) ?_
  refine lv_istore (lv' := [(6, .int 0), (4, .long 0), (3, .int 0), (0, .ref (o + 285)), (1, .int 0), (2, .int 0)]) hx hb dX6_product_18 hl (by decide) rfl (fun ls hl => ?_)
  refine lv_iload hx hb dX6_product_20 (lv_at hl 0 rfl) ?_
  refine lv_iload_n hx hb dX6_product_22 rfl (lv_at hl 4 rfl) ?_
  refine lv_icmp_gt (tgt := 53) hx hb dX6_product_23 (by decide) (fun q => absurd q (by decide)) (fun _ => ?_)
  refine lv_lload hx hb dX6_product_26 (lv_at hl 1 rfl) ?_
  refine lv_aload_n hx hb dX6_product_28 rfl (lv_at hl 3 rfl) ?_
  refine x_get (k := 285) hE hK hI (by decide) inG6 (e_285 G o _ _) rfl 4 (by decide) mw_484 rfl dX6_product_29 ?_
  refine lv_iload hx hb dX6_product_32 (lv_at hl 0 rfl) ?_
  refine x_lald (k := 290) (j := 0) hE hK hI (by decide) (e_290 G o) (by decide) (by decide) rfl dX6_product_34 ?_
  refine lv_aload_n hx hb dX6_product_35 rfl (lv_at hl 3 rfl) ?_
  refine lv_iload hx hb dX6_product_36 (lv_at hl 0 rfl) ?_
  refine lv_iload_n hx hb dX6_product_38 rfl (lv_at hl 4 rfl) ?_
  refine x_callVi (k := 285) hE hK hI (c_X6_shareOf_0_0 l G o _ _  ) mf_X6_shareOf mw_516 (by decide) ((e_285 G o) _ _) rfl rfl hl.1 rfl (Nat.le_of_ble_eq_true rfl) ⟨(Nat.le_of_ble_eq_true rfl), (Nat.le_of_ble_eq_true rfl)⟩ ⟨Nat.zero_le _, Nat.zero_le _⟩ dX6_product_39 (fun H locs hI => ?_)
  refine lv_i2l hx hb dX6_product_42 rfl ?_
  refine lv_lmul hx hb dX6_product_43 ?_
  refine lv_ladd hx hb dX6_product_44 ?_
  refine lv_lstore (lv' := [(4, .long (0 + (((llY (asX X) Y) 290 0) * (((asX X) 286 0).toInt64)))), (6, .int 0), (3, .int 0), (0, .ref (o + 285)), (1, .int 0), (2, .int 0)]) hx hb dX6_product_45 hl (by decide) rfl (fun ls hl => ?_)
  refine lv_iinc (v := 1) (lv' := [(6, .int 1), (4, .long (0 + (((llY (asX X) Y) 290 0) * (((asX X) 286 0).toInt64)))), (3, .int 0), (0, .ref (o + 285)), (1, .int 0), (2, .int 0)]) hx hb dX6_product_47 hl (k := 1) rfl (by decide) (by decide) rfl (fun ls hl => ?_)
  refine lv_goto (tgt := 20) hx hb dX6_product_50 (by decide) ?_
  refine lv_iload hx hb dX6_product_20 (lv_at hl 0 rfl) ?_
  refine lv_iload_n hx hb dX6_product_22 rfl (lv_at hl 4 rfl) ?_
  refine lv_icmp_gt (tgt := 53) hx hb dX6_product_23 (by decide) (fun _ => ?_) (fun q => absurd (by decide) q)
  refine lv_lload hx hb dX6_product_53 (lv_at hl 1 rfl) ?_
  refine lv_bipush (v := 10) hx hb dX6_product_55 (by decide) ?_
  refine lv_aload_n hx hb dX6_product_57 rfl (lv_at hl 3 rfl) ?_
  refine x_get (k := 285) hE hK hI (by decide) inG6 (e_285 G o _ _) rfl 3 (by decide) mw_483 rfl dX6_product_58 ?_
  refine lv_iload_n hx hb dX6_product_61 rfl (lv_at hl 4 rfl) ?_
  refine x_iald (k := 289) (j := 0) hE hK hI (by decide) (e_289 G o) (by decide) (by decide) rfl dX6_product_62 ?_
  refine lv_isub hx hb dX6_product_63 ?_
  refine lv_i2l hx hb dX6_product_64 rfl ?_
  refine lv_lmul hx hb dX6_product_65 ?_
  refine lv_ldc2 hx hb hE.2.2.2.1 (hE.2.2.2.2 _ mw_555) dX6_product_66 ?_
  refine lv_aload_n hx hb dX6_product_69 rfl (lv_at hl 3 rfl) ?_
  refine x_get (k := 285) hE hK hI (by decide) inG6 (e_285 G o _ _) rfl 5 (by decide) mw_485 rfl dX6_product_70 ?_
  refine lv_lmul hx hb dX6_product_73 ?_
  refine lv_iload_n hx hb dX6_product_74 rfl (lv_at hl 5 rfl) ?_
  refine x_callSl hE hK hI (c_X6_part_0 l G o _ _ ((0 + (((llY (asX X) Y) 290 0) * (((asX X) 286 0).toInt64))) * ((10 - ((asX X) 289 0)).toInt64)) (100 * ((llY (asX X) Y) 285 5)) hg0 hgk hg) mf_X6_part mw_556 rfl hl.1 rfl (Nat.le_of_ble_eq_true rfl) ⟨(Nat.le_of_ble_eq_true rfl), (Nat.le_of_ble_eq_true rfl)⟩ ⟨Nat.zero_le _, Nat.zero_le _⟩ dX6_product_75 (fun H locs hI => ?_)
  exact x_lret hE hr hlocks hI rfl rfl rfl dX6_product_78
set_option maxRecDepth 100000 in
set_option maxHeartbeats 4000000 in
theorem c_X6_product_y0_1 (l : Launch) (G : GG) (o : Nat) (X : SX) (Y : SY) (h : ¬ (llr (asX X) Y = 0)) (hg0 : 0 ≤ ((0 + (((llY (asX X) Y) 290 0) * (((asX X) 286 1).toInt64))) + (((llY (asX X) Y) 290 1) * (((asX X) 286 5).toInt64))) * ((10 - ((asX X) 289 1)).toInt64)) (hgk : gok 100 (((0 + (((llY (asX X) Y) 290 0) * (((asX X) 286 1).toInt64))) + (((llY (asX X) Y) 290 1) * (((asX X) 286 5).toInt64))) * ((10 - ((asX X) 289 1)).toInt64)) (100 * ((llY (asX X) Y) 285 5))) (hg : ¬ (gcdL 100 (((0 + (((llY (asX X) Y) 290 0) * (((asX X) 286 1).toInt64))) + (((llY (asX X) Y) 290 1) * (((asX X) 286 5).toInt64))) * ((10 - ((asX X) 289 1)).toInt64)) (100 * ((llY (asX X) Y) 285 5)) = 0)) : Ct l yX6_product cX6_product 7 (some .long) 3 71 G o [.ref (o + 285), .int 1, .int 0] X Y (some (.long ((((0 + (((llY (asX X) Y) 290 0) * (((asX X) 286 1).toInt64))) + (((llY (asX X) Y) 290 1) * (((asX X) 286 5).toInt64))) * ((10 - ((asX X) 289 1)).toInt64)) / gcdL 100 (((0 + (((llY (asX X) Y) 290 0) * (((asX X) 286 1).toInt64))) + (((llY (asX X) Y) 290 1) * (((asX X) 286 5).toInt64))) * ((10 - ((asX X) 289 1)).toInt64)) (100 * ((llY (asX X) Y) 285 5))))) (asX X) (llY (asX X) Y) := by
  refine Ct.mk (by decide +kernel) (Nat.le_of_ble_eq_true rfl) rfl ?_
  intro p9 e9 s9 m9 args9 below9 meth9 c9 hE hr hlocks hK hI ls hl
  have hx := hE.1
  have hb := hE.2.1
  have hl : lv_has ls 7 [(0, .ref (o + 285)), (1, .int 1), (2, .int 0)] := hl
  refine lv_aload_n hx hb dX6_product_0 rfl (lv_at hl 0 rfl) ?_
  refine lv_iload_n hx hb dX6_product_1 rfl (lv_at hl 1 rfl) ?_
  refine lv_iload_n hx hb dX6_product_2 rfl (lv_at hl 2 rfl) ?_
  refine x_callVi (k := 285) hE hK hI (c_X6_wrongSteady_y l G o _ _ 1 0 (by decide) (by decide) h) mf_X6_wrongSteady mw_540 (by decide) ((e_285 G o) _ _) rfl rfl hl.1 rfl (Nat.le_of_ble_eq_true rfl) ⟨(Nat.le_of_ble_eq_true rfl), (Nat.le_of_ble_eq_true rfl)⟩ ⟨Nat.zero_le _, Nat.zero_le _⟩ dX6_product_3 (fun H locs hI => ?_)
  refine lv_istore_n (lv' := [(3, .int 0), (0, .ref (o + 285)), (1, .int 1), (2, .int 0)]) hx hb dX6_product_6 rfl hl (by decide) rfl (fun ls hl => ?_)
  refine lv_iload_n hx hb dX6_product_7 rfl (lv_at hl 0 rfl) ?_
  refine lv_if_eq (tgt := 14) hx hb dX6_product_8 (by decide) (fun _ => ?_) (fun q => absurd (by decide) q)
  refine lv_lconst (v := 0) hx hb dX6_product_14 (by decide) ?_
  refine lv_lstore (lv' := [(4, .long 0), (3, .int 0), (0, .ref (o + 285)), (1, .int 1), (2, .int 0)]) hx hb dX6_product_15 hl (by decide) rfl (fun ls hl => ?_)
  refine lv_iconst (v := 0) hx hb dX6_product_17 (by decide) ?_
  refine lv_istore (lv' := [(6, .int 0), (4, .long 0), (3, .int 0), (0, .ref (o + 285)), (1, .int 1), (2, .int 0)]) hx hb dX6_product_18 hl (by decide) rfl (fun ls hl => ?_)
  refine lv_iload hx hb dX6_product_20 (lv_at hl 0 rfl) ?_
  refine lv_iload_n hx hb dX6_product_22 rfl (lv_at hl 4 rfl) ?_
  refine lv_icmp_gt (tgt := 53) hx hb dX6_product_23 (by decide) (fun q => absurd q (by decide)) (fun _ => ?_)
  refine lv_lload hx hb dX6_product_26 (lv_at hl 1 rfl) ?_
  refine lv_aload_n hx hb dX6_product_28 rfl (lv_at hl 3 rfl) ?_
  refine x_get (k := 285) hE hK hI (by decide) inG6 (e_285 G o _ _) rfl 4 (by decide) mw_484 rfl dX6_product_29 ?_
  refine lv_iload hx hb dX6_product_32 (lv_at hl 0 rfl) ?_
  refine x_lald (k := 290) (j := 0) hE hK hI (by decide) (e_290 G o) (by decide) (by decide) rfl dX6_product_34 ?_
  refine lv_aload_n hx hb dX6_product_35 rfl (lv_at hl 3 rfl) ?_
  refine lv_iload hx hb dX6_product_36 (lv_at hl 0 rfl) ?_
  refine lv_iload_n hx hb dX6_product_38 rfl (lv_at hl 4 rfl) ?_
  refine x_callVi (k := 285) hE hK hI (c_X6_shareOf_0_1 l G o _ _  ) mf_X6_shareOf mw_516 (by decide) ((e_285 G o) _ _) rfl rfl hl.1 rfl (Nat.le_of_ble_eq_true rfl) ⟨(Nat.le_of_ble_eq_true rfl), (Nat.le_of_ble_eq_true rfl)⟩ ⟨Nat.zero_le _, Nat.zero_le _⟩ dX6_product_39 (fun H locs hI => ?_)
  refine lv_i2l hx hb dX6_product_42 rfl ?_
  refine lv_lmul hx hb dX6_product_43 ?_
  refine lv_ladd hx hb dX6_product_44 ?_
  refine lv_lstore (lv' := [(4, .long (0 + (((llY (asX X) Y) 290 0) * (((asX X) 286 1).toInt64)))), (6, .int 0), (3, .int 0), (0, .ref (o + 285)), (1, .int 1), (2, .int 0)]) hx hb dX6_product_45 hl (by decide) rfl (fun ls hl => ?_)
  refine lv_iinc (v := 1) (lv' := [(6, .int 1), (4, .long (0 + (((llY (asX X) Y) 290 0) * (((asX X) 286 1).toInt64)))), (3, .int 0), (0, .ref (o + 285)), (1, .int 1), (2, .int 0)]) hx hb dX6_product_47 hl (k := 1) rfl (by decide) (by decide) rfl (fun ls hl => ?_)
  refine lv_goto (tgt := 20) hx hb dX6_product_50 (by decide) ?_
  refine lv_iload hx hb dX6_product_20 (lv_at hl 0 rfl) ?_
  refine lv_iload_n hx hb dX6_product_22 rfl (lv_at hl 4 rfl) ?_
  refine lv_icmp_gt (tgt := 53) hx hb dX6_product_23 (by decide) (fun q => absurd q (by decide)) (fun _ => ?_)
  refine lv_lload hx hb dX6_product_26 (lv_at hl 1 rfl) ?_
  refine lv_aload_n hx hb dX6_product_28 rfl (lv_at hl 3 rfl) ?_
  refine x_get (k := 285) hE hK hI (by decide) inG6 (e_285 G o _ _) rfl 4 (by decide) mw_484 rfl dX6_product_29 ?_
  refine lv_iload hx hb dX6_product_32 (lv_at hl 0 rfl) ?_
  refine x_lald (k := 290) (j := 1) hE hK hI (by decide) (e_290 G o) (by decide) (by decide) rfl dX6_product_34 ?_
  refine lv_aload_n hx hb dX6_product_35 rfl (lv_at hl 3 rfl) ?_
  refine lv_iload hx hb dX6_product_36 (lv_at hl 0 rfl) ?_
  refine lv_iload_n hx hb dX6_product_38 rfl (lv_at hl 4 rfl) ?_
  refine x_callVi (k := 285) hE hK hI (c_X6_shareOf_1_1 l G o _ _  ) mf_X6_shareOf mw_516 (by decide) ((e_285 G o) _ _) rfl rfl hl.1 rfl (Nat.le_of_ble_eq_true rfl) ⟨(Nat.le_of_ble_eq_true rfl), (Nat.le_of_ble_eq_true rfl)⟩ ⟨Nat.zero_le _, Nat.zero_le _⟩ dX6_product_39 (fun H locs hI => ?_)
  refine lv_i2l hx hb dX6_product_42 rfl ?_
  refine lv_lmul hx hb dX6_product_43 ?_
  refine lv_ladd hx hb dX6_product_44 ?_
  refine lv_lstore (lv' := [(4, .long ((0 + (((llY (asX X) Y) 290 0) * (((asX X) 286 1).toInt64))) + (((llY (asX X) Y) 290 1) * (((asX X) 286 5).toInt64)))), (6, .int 1), (3, .int 0), (0, .ref (o + 285)), (1, .int 1), (2, .int 0)]) hx hb dX6_product_45 hl (by decide) rfl (fun ls hl => ?_)
  refine lv_iinc (v := 2) (lv' := [(6, .int 2), (4, .long ((0 + (((llY (asX X) Y) 290 0) * (((asX X) 286 1).toInt64))) + (((llY (asX X) Y) 290 1) * (((asX X) 286 5).toInt64)))), (3, .int 0), (0, .ref (o + 285)), (1, .int 1), (2, .int 0)]) hx hb dX6_product_47 hl (k := 1) rfl (by decide) (by decide) rfl (fun ls hl => ?_)
  refine lv_goto (tgt := 20) hx hb dX6_product_50 (by decide) ?_
  refine lv_iload hx hb dX6_product_20 (lv_at hl 0 rfl) ?_
  refine lv_iload_n hx hb dX6_product_22 rfl (lv_at hl 4 rfl) ?_
  refine lv_icmp_gt (tgt := 53) hx hb dX6_product_23 (by decide) (fun _ => ?_) (fun q => absurd (by decide) q)
  refine lv_lload hx hb dX6_product_53 (lv_at hl 1 rfl) ?_
  refine lv_bipush (v := 10) hx hb dX6_product_55 (by decide) ?_
  refine lv_aload_n hx hb dX6_product_57 rfl (lv_at hl 3 rfl) ?_
  refine x_get (k := 285) hE hK hI (by decide) inG6 (e_285 G o _ _) rfl 3 (by decide) mw_483 rfl dX6_product_58 ?_
  refine lv_iload_n hx hb dX6_product_61 rfl (lv_at hl 4 rfl) ?_
  refine x_iald (k := 289) (j := 1) hE hK hI (by decide) (e_289 G o) (by decide) (by decide) rfl dX6_product_62 ?_
  refine lv_isub hx hb dX6_product_63 ?_
  refine lv_i2l hx hb dX6_product_64 rfl ?_
  refine lv_lmul hx hb dX6_product_65 ?_
  refine lv_ldc2 hx hb hE.2.2.2.1 (hE.2.2.2.2 _ mw_555) dX6_product_66 ?_
  refine lv_aload_n hx hb dX6_product_69 rfl (lv_at hl 3 rfl) ?_
  refine x_get (k := 285) hE hK hI (by decide) inG6 (e_285 G o _ _) rfl 5 (by decide) mw_485 rfl dX6_product_70 ?_
  refine lv_lmul hx hb dX6_product_73 ?_
  refine lv_iload_n hx hb dX6_product_74 rfl (lv_at hl 5 rfl) ?_
  refine x_callSl hE hK hI (c_X6_part_0 l G o _ _ (((0 + (((llY (asX X) Y) 290 0) * (((asX X) 286 1).toInt64))) + (((llY (asX X) Y) 290 1) * (((asX X) 286 5).toInt64))) * ((10 - ((asX X) 289 1)).toInt64)) (100 * ((llY (asX X) Y) 285 5)) hg0 hgk hg) mf_X6_part mw_556 rfl hl.1 rfl (Nat.le_of_ble_eq_true rfl) ⟨(Nat.le_of_ble_eq_true rfl), (Nat.le_of_ble_eq_true rfl)⟩ ⟨Nat.zero_le _, Nat.zero_le _⟩ dX6_product_75 (fun H locs hI => ?_)
  exact x_lret hE hr hlocks hI rfl rfl rfl dX6_product_78
set_option maxRecDepth 100000 in
set_option maxHeartbeats 4000000 in
theorem c_X6_product_y0_2 (l : Launch) (G : GG) (o : Nat) (X : SX) (Y : SY) (h : ¬ (llr (asX X) Y = 0)) (hg0 : 0 ≤ (((0 + (((llY (asX X) Y) 290 0) * (((asX X) 286 2).toInt64))) + (((llY (asX X) Y) 290 1) * (((asX X) 286 6).toInt64))) + (((llY (asX X) Y) 290 2) * (((asX X) 286 10).toInt64))) * ((10 - ((asX X) 289 2)).toInt64)) (hgk : gok 100 ((((0 + (((llY (asX X) Y) 290 0) * (((asX X) 286 2).toInt64))) + (((llY (asX X) Y) 290 1) * (((asX X) 286 6).toInt64))) + (((llY (asX X) Y) 290 2) * (((asX X) 286 10).toInt64))) * ((10 - ((asX X) 289 2)).toInt64)) (100 * ((llY (asX X) Y) 285 5))) (hg : ¬ (gcdL 100 ((((0 + (((llY (asX X) Y) 290 0) * (((asX X) 286 2).toInt64))) + (((llY (asX X) Y) 290 1) * (((asX X) 286 6).toInt64))) + (((llY (asX X) Y) 290 2) * (((asX X) 286 10).toInt64))) * ((10 - ((asX X) 289 2)).toInt64)) (100 * ((llY (asX X) Y) 285 5)) = 0)) : Ct l yX6_product cX6_product 7 (some .long) 3 71 G o [.ref (o + 285), .int 2, .int 0] X Y (some (.long (((((0 + (((llY (asX X) Y) 290 0) * (((asX X) 286 2).toInt64))) + (((llY (asX X) Y) 290 1) * (((asX X) 286 6).toInt64))) + (((llY (asX X) Y) 290 2) * (((asX X) 286 10).toInt64))) * ((10 - ((asX X) 289 2)).toInt64)) / gcdL 100 ((((0 + (((llY (asX X) Y) 290 0) * (((asX X) 286 2).toInt64))) + (((llY (asX X) Y) 290 1) * (((asX X) 286 6).toInt64))) + (((llY (asX X) Y) 290 2) * (((asX X) 286 10).toInt64))) * ((10 - ((asX X) 289 2)).toInt64)) (100 * ((llY (asX X) Y) 285 5))))) (asX X) (llY (asX X) Y) := by
  refine Ct.mk (by decide +kernel) (Nat.le_of_ble_eq_true rfl) rfl ?_
  intro p9 e9 s9 m9 args9 below9 meth9 c9 hE hr hlocks hK hI ls hl
  have hx := hE.1
  have hb := hE.2.1
  have hl : lv_has ls 7 [(0, .ref (o + 285)), (1, .int 2), (2, .int 0)] := hl
  refine lv_aload_n hx hb dX6_product_0 rfl (lv_at hl 0 rfl) ?_
  refine lv_iload_n hx hb dX6_product_1 rfl (lv_at hl 1 rfl) ?_
  refine lv_iload_n hx hb dX6_product_2 rfl (lv_at hl 2 rfl) ?_
  refine x_callVi (k := 285) hE hK hI (c_X6_wrongSteady_y l G o _ _ 2 0 (by decide) (by decide) h) mf_X6_wrongSteady mw_540 (by decide) ((e_285 G o) _ _) rfl rfl hl.1 rfl (Nat.le_of_ble_eq_true rfl) ⟨(Nat.le_of_ble_eq_true rfl), (Nat.le_of_ble_eq_true rfl)⟩ ⟨Nat.zero_le _, Nat.zero_le _⟩ dX6_product_3 (fun H locs hI => ?_)
  refine lv_istore_n (lv' := [(3, .int 0), (0, .ref (o + 285)), (1, .int 2), (2, .int 0)]) hx hb dX6_product_6 rfl hl (by decide) rfl (fun ls hl => ?_)
  refine lv_iload_n hx hb dX6_product_7 rfl (lv_at hl 0 rfl) ?_
  refine lv_if_eq (tgt := 14) hx hb dX6_product_8 (by decide) (fun _ => ?_) (fun q => absurd (by decide) q)
  refine lv_lconst (v := 0) hx hb dX6_product_14 (by decide) ?_
  refine lv_lstore (lv' := [(4, .long 0), (3, .int 0), (0, .ref (o + 285)), (1, .int 2), (2, .int 0)]) hx hb dX6_product_15 hl (by decide) rfl (fun ls hl => ?_)
  refine lv_iconst (v := 0) hx hb dX6_product_17 (by decide) ?_
  refine lv_istore (lv' := [(6, .int 0), (4, .long 0), (3, .int 0), (0, .ref (o + 285)), (1, .int 2), (2, .int 0)]) hx hb dX6_product_18 hl (by decide) rfl (fun ls hl => ?_)
  refine lv_iload hx hb dX6_product_20 (lv_at hl 0 rfl) ?_
  refine lv_iload_n hx hb dX6_product_22 rfl (lv_at hl 4 rfl) ?_
  refine lv_icmp_gt (tgt := 53) hx hb dX6_product_23 (by decide) (fun q => absurd q (by decide)) (fun _ => ?_)
  refine lv_lload hx hb dX6_product_26 (lv_at hl 1 rfl) ?_
  refine lv_aload_n hx hb dX6_product_28 rfl (lv_at hl 3 rfl) ?_
  refine x_get (k := 285) hE hK hI (by decide) inG6 (e_285 G o _ _) rfl 4 (by decide) mw_484 rfl dX6_product_29 ?_
  refine lv_iload hx hb dX6_product_32 (lv_at hl 0 rfl) ?_
  refine x_lald (k := 290) (j := 0) hE hK hI (by decide) (e_290 G o) (by decide) (by decide) rfl dX6_product_34 ?_
  refine lv_aload_n hx hb dX6_product_35 rfl (lv_at hl 3 rfl) ?_
  refine lv_iload hx hb dX6_product_36 (lv_at hl 0 rfl) ?_
  refine lv_iload_n hx hb dX6_product_38 rfl (lv_at hl 4 rfl) ?_
  refine x_callVi (k := 285) hE hK hI (c_X6_shareOf_0_2 l G o _ _  ) mf_X6_shareOf mw_516 (by decide) ((e_285 G o) _ _) rfl rfl hl.1 rfl (Nat.le_of_ble_eq_true rfl) ⟨(Nat.le_of_ble_eq_true rfl), (Nat.le_of_ble_eq_true rfl)⟩ ⟨Nat.zero_le _, Nat.zero_le _⟩ dX6_product_39 (fun H locs hI => ?_)
  refine lv_i2l hx hb dX6_product_42 rfl ?_
  refine lv_lmul hx hb dX6_product_43 ?_
  refine lv_ladd hx hb dX6_product_44 ?_
  refine lv_lstore (lv' := [(4, .long (0 + (((llY (asX X) Y) 290 0) * (((asX X) 286 2).toInt64)))), (6, .int 0), (3, .int 0), (0, .ref (o + 285)), (1, .int 2), (2, .int 0)]) hx hb dX6_product_45 hl (by decide) rfl (fun ls hl => ?_)
  refine lv_iinc (v := 1) (lv' := [(6, .int 1), (4, .long (0 + (((llY (asX X) Y) 290 0) * (((asX X) 286 2).toInt64)))), (3, .int 0), (0, .ref (o + 285)), (1, .int 2), (2, .int 0)]) hx hb dX6_product_47 hl (k := 1) rfl (by decide) (by decide) rfl (fun ls hl => ?_)
  refine lv_goto (tgt := 20) hx hb dX6_product_50 (by decide) ?_
  refine lv_iload hx hb dX6_product_20 (lv_at hl 0 rfl) ?_
  refine lv_iload_n hx hb dX6_product_22 rfl (lv_at hl 4 rfl) ?_
  refine lv_icmp_gt (tgt := 53) hx hb dX6_product_23 (by decide) (fun q => absurd q (by decide)) (fun _ => ?_)
  refine lv_lload hx hb dX6_product_26 (lv_at hl 1 rfl) ?_
  refine lv_aload_n hx hb dX6_product_28 rfl (lv_at hl 3 rfl) ?_
  refine x_get (k := 285) hE hK hI (by decide) inG6 (e_285 G o _ _) rfl 4 (by decide) mw_484 rfl dX6_product_29 ?_
  refine lv_iload hx hb dX6_product_32 (lv_at hl 0 rfl) ?_
  refine x_lald (k := 290) (j := 1) hE hK hI (by decide) (e_290 G o) (by decide) (by decide) rfl dX6_product_34 ?_
  refine lv_aload_n hx hb dX6_product_35 rfl (lv_at hl 3 rfl) ?_
  refine lv_iload hx hb dX6_product_36 (lv_at hl 0 rfl) ?_
  refine lv_iload_n hx hb dX6_product_38 rfl (lv_at hl 4 rfl) ?_
  refine x_callVi (k := 285) hE hK hI (c_X6_shareOf_1_2 l G o _ _  ) mf_X6_shareOf mw_516 (by decide) ((e_285 G o) _ _) rfl rfl hl.1 rfl (Nat.le_of_ble_eq_true rfl) ⟨(Nat.le_of_ble_eq_true rfl), (Nat.le_of_ble_eq_true rfl)⟩ ⟨Nat.zero_le _, Nat.zero_le _⟩ dX6_product_39 (fun H locs hI => ?_)
  refine lv_i2l hx hb dX6_product_42 rfl ?_
  refine lv_lmul hx hb dX6_product_43 ?_
  refine lv_ladd hx hb dX6_product_44 ?_
  refine lv_lstore (lv' := [(4, .long ((0 + (((llY (asX X) Y) 290 0) * (((asX X) 286 2).toInt64))) + (((llY (asX X) Y) 290 1) * (((asX X) 286 6).toInt64)))), (6, .int 1), (3, .int 0), (0, .ref (o + 285)), (1, .int 2), (2, .int 0)]) hx hb dX6_product_45 hl (by decide) rfl (fun ls hl => ?_)
  refine lv_iinc (v := 2) (lv' := [(6, .int 2), (4, .long ((0 + (((llY (asX X) Y) 290 0) * (((asX X) 286 2).toInt64))) + (((llY (asX X) Y) 290 1) * (((asX X) 286 6).toInt64)))), (3, .int 0), (0, .ref (o + 285)), (1, .int 2), (2, .int 0)]) hx hb dX6_product_47 hl (k := 1) rfl (by decide) (by decide) rfl (fun ls hl => ?_)
  refine lv_goto (tgt := 20) hx hb dX6_product_50 (by decide) ?_
  refine lv_iload hx hb dX6_product_20 (lv_at hl 0 rfl) ?_
  refine lv_iload_n hx hb dX6_product_22 rfl (lv_at hl 4 rfl) ?_
  refine lv_icmp_gt (tgt := 53) hx hb dX6_product_23 (by decide) (fun q => absurd q (by decide)) (fun _ => ?_)
  refine lv_lload hx hb dX6_product_26 (lv_at hl 1 rfl) ?_
  refine lv_aload_n hx hb dX6_product_28 rfl (lv_at hl 3 rfl) ?_
  refine x_get (k := 285) hE hK hI (by decide) inG6 (e_285 G o _ _) rfl 4 (by decide) mw_484 rfl dX6_product_29 ?_
  refine lv_iload hx hb dX6_product_32 (lv_at hl 0 rfl) ?_
  refine x_lald (k := 290) (j := 2) hE hK hI (by decide) (e_290 G o) (by decide) (by decide) rfl dX6_product_34 ?_
  refine lv_aload_n hx hb dX6_product_35 rfl (lv_at hl 3 rfl) ?_
  refine lv_iload hx hb dX6_product_36 (lv_at hl 0 rfl) ?_
  refine lv_iload_n hx hb dX6_product_38 rfl (lv_at hl 4 rfl) ?_
  refine x_callVi (k := 285) hE hK hI (c_X6_shareOf_2_2 l G o _ _  ) mf_X6_shareOf mw_516 (by decide) ((e_285 G o) _ _) rfl rfl hl.1 rfl (Nat.le_of_ble_eq_true rfl) ⟨(Nat.le_of_ble_eq_true rfl), (Nat.le_of_ble_eq_true rfl)⟩ ⟨Nat.zero_le _, Nat.zero_le _⟩ dX6_product_39 (fun H locs hI => ?_)
  refine lv_i2l hx hb dX6_product_42 rfl ?_
  refine lv_lmul hx hb dX6_product_43 ?_
  refine lv_ladd hx hb dX6_product_44 ?_
  refine lv_lstore (lv' := [(4, .long (((0 + (((llY (asX X) Y) 290 0) * (((asX X) 286 2).toInt64))) + (((llY (asX X) Y) 290 1) * (((asX X) 286 6).toInt64))) + (((llY (asX X) Y) 290 2) * (((asX X) 286 10).toInt64)))), (6, .int 2), (3, .int 0), (0, .ref (o + 285)), (1, .int 2), (2, .int 0)]) hx hb dX6_product_45 hl (by decide) rfl (fun ls hl => ?_)
  refine lv_iinc (v := 3) (lv' := [(6, .int 3), (4, .long (((0 + (((llY (asX X) Y) 290 0) * (((asX X) 286 2).toInt64))) + (((llY (asX X) Y) 290 1) * (((asX X) 286 6).toInt64))) + (((llY (asX X) Y) 290 2) * (((asX X) 286 10).toInt64)))), (3, .int 0), (0, .ref (o + 285)), (1, .int 2), (2, .int 0)]) hx hb dX6_product_47 hl (k := 1) rfl (by decide) (by decide) rfl (fun ls hl => ?_)
  refine lv_goto (tgt := 20) hx hb dX6_product_50 (by decide) ?_
  refine lv_iload hx hb dX6_product_20 (lv_at hl 0 rfl) ?_
  refine lv_iload_n hx hb dX6_product_22 rfl (lv_at hl 4 rfl) ?_
  refine lv_icmp_gt (tgt := 53) hx hb dX6_product_23 (by decide) (fun _ => ?_) (fun q => absurd (by decide) q)
  refine lv_lload hx hb dX6_product_53 (lv_at hl 1 rfl) ?_
  refine lv_bipush (v := 10) hx hb dX6_product_55 (by decide) ?_
  refine lv_aload_n hx hb dX6_product_57 rfl (lv_at hl 3 rfl) ?_
  refine x_get (k := 285) hE hK hI (by decide) inG6 (e_285 G o _ _) rfl 3 (by decide) mw_483 rfl dX6_product_58 ?_
  refine lv_iload_n hx hb dX6_product_61 rfl (lv_at hl 4 rfl) ?_
  refine x_iald (k := 289) (j := 2) hE hK hI (by decide) (e_289 G o) (by decide) (by decide) rfl dX6_product_62 ?_
  refine lv_isub hx hb dX6_product_63 ?_
  refine lv_i2l hx hb dX6_product_64 rfl ?_
  refine lv_lmul hx hb dX6_product_65 ?_
  refine lv_ldc2 hx hb hE.2.2.2.1 (hE.2.2.2.2 _ mw_555) dX6_product_66 ?_
  refine lv_aload_n hx hb dX6_product_69 rfl (lv_at hl 3 rfl) ?_
  refine x_get (k := 285) hE hK hI (by decide) inG6 (e_285 G o _ _) rfl 5 (by decide) mw_485 rfl dX6_product_70 ?_
  refine lv_lmul hx hb dX6_product_73 ?_
  refine lv_iload_n hx hb dX6_product_74 rfl (lv_at hl 5 rfl) ?_
  refine x_callSl hE hK hI (c_X6_part_0 l G o _ _ ((((0 + (((llY (asX X) Y) 290 0) * (((asX X) 286 2).toInt64))) + (((llY (asX X) Y) 290 1) * (((asX X) 286 6).toInt64))) + (((llY (asX X) Y) 290 2) * (((asX X) 286 10).toInt64))) * ((10 - ((asX X) 289 2)).toInt64)) (100 * ((llY (asX X) Y) 285 5)) hg0 hgk hg) mf_X6_part mw_556 rfl hl.1 rfl (Nat.le_of_ble_eq_true rfl) ⟨(Nat.le_of_ble_eq_true rfl), (Nat.le_of_ble_eq_true rfl)⟩ ⟨Nat.zero_le _, Nat.zero_le _⟩ dX6_product_75 (fun H locs hI => ?_)
  exact x_lret hE hr hlocks hI rfl rfl rfl dX6_product_78
set_option maxRecDepth 100000 in
set_option maxHeartbeats 4000000 in
theorem c_X6_product_y0_3 (l : Launch) (G : GG) (o : Nat) (X : SX) (Y : SY) (h : ¬ (llr (asX X) Y = 0)) (hg0 : 0 ≤ ((((0 + (((llY (asX X) Y) 290 0) * (((asX X) 286 3).toInt64))) + (((llY (asX X) Y) 290 1) * (((asX X) 286 7).toInt64))) + (((llY (asX X) Y) 290 2) * (((asX X) 286 11).toInt64))) + (((llY (asX X) Y) 290 3) * (((asX X) 286 15).toInt64))) * ((10 - ((asX X) 289 3)).toInt64)) (hgk : gok 100 (((((0 + (((llY (asX X) Y) 290 0) * (((asX X) 286 3).toInt64))) + (((llY (asX X) Y) 290 1) * (((asX X) 286 7).toInt64))) + (((llY (asX X) Y) 290 2) * (((asX X) 286 11).toInt64))) + (((llY (asX X) Y) 290 3) * (((asX X) 286 15).toInt64))) * ((10 - ((asX X) 289 3)).toInt64)) (100 * ((llY (asX X) Y) 285 5))) (hg : ¬ (gcdL 100 (((((0 + (((llY (asX X) Y) 290 0) * (((asX X) 286 3).toInt64))) + (((llY (asX X) Y) 290 1) * (((asX X) 286 7).toInt64))) + (((llY (asX X) Y) 290 2) * (((asX X) 286 11).toInt64))) + (((llY (asX X) Y) 290 3) * (((asX X) 286 15).toInt64))) * ((10 - ((asX X) 289 3)).toInt64)) (100 * ((llY (asX X) Y) 285 5)) = 0)) : Ct l yX6_product cX6_product 7 (some .long) 3 71 G o [.ref (o + 285), .int 3, .int 0] X Y (some (.long ((((((0 + (((llY (asX X) Y) 290 0) * (((asX X) 286 3).toInt64))) + (((llY (asX X) Y) 290 1) * (((asX X) 286 7).toInt64))) + (((llY (asX X) Y) 290 2) * (((asX X) 286 11).toInt64))) + (((llY (asX X) Y) 290 3) * (((asX X) 286 15).toInt64))) * ((10 - ((asX X) 289 3)).toInt64)) / gcdL 100 (((((0 + (((llY (asX X) Y) 290 0) * (((asX X) 286 3).toInt64))) + (((llY (asX X) Y) 290 1) * (((asX X) 286 7).toInt64))) + (((llY (asX X) Y) 290 2) * (((asX X) 286 11).toInt64))) + (((llY (asX X) Y) 290 3) * (((asX X) 286 15).toInt64))) * ((10 - ((asX X) 289 3)).toInt64)) (100 * ((llY (asX X) Y) 285 5))))) (asX X) (llY (asX X) Y) := by
  refine Ct.mk (by decide +kernel) (Nat.le_of_ble_eq_true rfl) rfl ?_
  intro p9 e9 s9 m9 args9 below9 meth9 c9 hE hr hlocks hK hI ls hl
  have hx := hE.1
  have hb := hE.2.1
  have hl : lv_has ls 7 [(0, .ref (o + 285)), (1, .int 3), (2, .int 0)] := hl
  refine lv_aload_n hx hb dX6_product_0 rfl (lv_at hl 0 rfl) ?_
  refine lv_iload_n hx hb dX6_product_1 rfl (lv_at hl 1 rfl) ?_
  refine lv_iload_n hx hb dX6_product_2 rfl (lv_at hl 2 rfl) ?_
  refine x_callVi (k := 285) hE hK hI (c_X6_wrongSteady_y l G o _ _ 3 0 (by decide) (by decide) h) mf_X6_wrongSteady mw_540 (by decide) ((e_285 G o) _ _) rfl rfl hl.1 rfl (Nat.le_of_ble_eq_true rfl) ⟨(Nat.le_of_ble_eq_true rfl), (Nat.le_of_ble_eq_true rfl)⟩ ⟨Nat.zero_le _, Nat.zero_le _⟩ dX6_product_3 (fun H locs hI => ?_)
  refine lv_istore_n (lv' := [(3, .int 0), (0, .ref (o + 285)), (1, .int 3), (2, .int 0)]) hx hb dX6_product_6 rfl hl (by decide) rfl (fun ls hl => ?_)
  refine lv_iload_n hx hb dX6_product_7 rfl (lv_at hl 0 rfl) ?_
  refine lv_if_eq (tgt := 14) hx hb dX6_product_8 (by decide) (fun _ => ?_) (fun q => absurd (by decide) q)
  refine lv_lconst (v := 0) hx hb dX6_product_14 (by decide) ?_
  refine lv_lstore (lv' := [(4, .long 0), (3, .int 0), (0, .ref (o + 285)), (1, .int 3), (2, .int 0)]) hx hb dX6_product_15 hl (by decide) rfl (fun ls hl => ?_)
  refine lv_iconst (v := 0) hx hb dX6_product_17 (by decide) ?_
  refine lv_istore (lv' := [(6, .int 0), (4, .long 0), (3, .int 0), (0, .ref (o + 285)), (1, .int 3), (2, .int 0)]) hx hb dX6_product_18 hl (by decide) rfl (fun ls hl => ?_)
  refine lv_iload hx hb dX6_product_20 (lv_at hl 0 rfl) ?_
  refine lv_iload_n hx hb dX6_product_22 rfl (lv_at hl 4 rfl) ?_
  refine lv_icmp_gt (tgt := 53) hx hb dX6_product_23 (by decide) (fun q => absurd q (by decide)) (fun _ => ?_)
  refine lv_lload hx hb dX6_product_26 (lv_at hl 1 rfl) ?_
  refine lv_aload_n hx hb dX6_product_28 rfl (lv_at hl 3 rfl) ?_
  refine x_get (k := 285) hE hK hI (by decide) inG6 (e_285 G o _ _) rfl 4 (by decide) mw_484 rfl dX6_product_29 ?_
  refine lv_iload hx hb dX6_product_32 (lv_at hl 0 rfl) ?_
  refine x_lald (k := 290) (j := 0) hE hK hI (by decide) (e_290 G o) (by decide) (by decide) rfl dX6_product_34 ?_
  refine lv_aload_n hx hb dX6_product_35 rfl (lv_at hl 3 rfl) ?_
  refine lv_iload hx hb dX6_product_36 (lv_at hl 0 rfl) ?_
  refine lv_iload_n hx hb dX6_product_38 rfl (lv_at hl 4 rfl) ?_
  refine x_callVi (k := 285) hE hK hI (c_X6_shareOf_0_3 l G o _ _  ) mf_X6_shareOf mw_516 (by decide) ((e_285 G o) _ _) rfl rfl hl.1 rfl (Nat.le_of_ble_eq_true rfl) ⟨(Nat.le_of_ble_eq_true rfl), (Nat.le_of_ble_eq_true rfl)⟩ ⟨Nat.zero_le _, Nat.zero_le _⟩ dX6_product_39 (fun H locs hI => ?_)
  refine lv_i2l hx hb dX6_product_42 rfl ?_
  refine lv_lmul hx hb dX6_product_43 ?_
  refine lv_ladd hx hb dX6_product_44 ?_
  refine lv_lstore (lv' := [(4, .long (0 + (((llY (asX X) Y) 290 0) * (((asX X) 286 3).toInt64)))), (6, .int 0), (3, .int 0), (0, .ref (o + 285)), (1, .int 3), (2, .int 0)]) hx hb dX6_product_45 hl (by decide) rfl (fun ls hl => ?_)
  refine lv_iinc (v := 1) (lv' := [(6, .int 1), (4, .long (0 + (((llY (asX X) Y) 290 0) * (((asX X) 286 3).toInt64)))), (3, .int 0), (0, .ref (o + 285)), (1, .int 3), (2, .int 0)]) hx hb dX6_product_47 hl (k := 1) rfl (by decide) (by decide) rfl (fun ls hl => ?_)
  refine lv_goto (tgt := 20) hx hb dX6_product_50 (by decide) ?_
  refine lv_iload hx hb dX6_product_20 (lv_at hl 0 rfl) ?_
  refine lv_iload_n hx hb dX6_product_22 rfl (lv_at hl 4 rfl) ?_
  refine lv_icmp_gt (tgt := 53) hx hb dX6_product_23 (by decide) (fun q => absurd q (by decide)) (fun _ => ?_)
  refine lv_lload hx hb dX6_product_26 (lv_at hl 1 rfl) ?_
  refine lv_aload_n hx hb dX6_product_28 rfl (lv_at hl 3 rfl) ?_
  refine x_get (k := 285) hE hK hI (by decide) inG6 (e_285 G o _ _) rfl 4 (by decide) mw_484 rfl dX6_product_29 ?_
  refine lv_iload hx hb dX6_product_32 (lv_at hl 0 rfl) ?_
  refine x_lald (k := 290) (j := 1) hE hK hI (by decide) (e_290 G o) (by decide) (by decide) rfl dX6_product_34 ?_
  refine lv_aload_n hx hb dX6_product_35 rfl (lv_at hl 3 rfl) ?_
  refine lv_iload hx hb dX6_product_36 (lv_at hl 0 rfl) ?_
  refine lv_iload_n hx hb dX6_product_38 rfl (lv_at hl 4 rfl) ?_
  refine x_callVi (k := 285) hE hK hI (c_X6_shareOf_1_3 l G o _ _  ) mf_X6_shareOf mw_516 (by decide) ((e_285 G o) _ _) rfl rfl hl.1 rfl (Nat.le_of_ble_eq_true rfl) ⟨(Nat.le_of_ble_eq_true rfl), (Nat.le_of_ble_eq_true rfl)⟩ ⟨Nat.zero_le _, Nat.zero_le _⟩ dX6_product_39 (fun H locs hI => ?_)
  refine lv_i2l hx hb dX6_product_42 rfl ?_
  refine lv_lmul hx hb dX6_product_43 ?_
  refine lv_ladd hx hb dX6_product_44 ?_
  refine lv_lstore (lv' := [(4, .long ((0 + (((llY (asX X) Y) 290 0) * (((asX X) 286 3).toInt64))) + (((llY (asX X) Y) 290 1) * (((asX X) 286 7).toInt64)))), (6, .int 1), (3, .int 0), (0, .ref (o + 285)), (1, .int 3), (2, .int 0)]) hx hb dX6_product_45 hl (by decide) rfl (fun ls hl => ?_)
  refine lv_iinc (v := 2) (lv' := [(6, .int 2), (4, .long ((0 + (((llY (asX X) Y) 290 0) * (((asX X) 286 3).toInt64))) + (((llY (asX X) Y) 290 1) * (((asX X) 286 7).toInt64)))), (3, .int 0), (0, .ref (o + 285)), (1, .int 3), (2, .int 0)]) hx hb dX6_product_47 hl (k := 1) rfl (by decide) (by decide) rfl (fun ls hl => ?_)
  refine lv_goto (tgt := 20) hx hb dX6_product_50 (by decide) ?_
  refine lv_iload hx hb dX6_product_20 (lv_at hl 0 rfl) ?_
  refine lv_iload_n hx hb dX6_product_22 rfl (lv_at hl 4 rfl) ?_
  refine lv_icmp_gt (tgt := 53) hx hb dX6_product_23 (by decide) (fun q => absurd q (by decide)) (fun _ => ?_)
  refine lv_lload hx hb dX6_product_26 (lv_at hl 1 rfl) ?_
  refine lv_aload_n hx hb dX6_product_28 rfl (lv_at hl 3 rfl) ?_
  refine x_get (k := 285) hE hK hI (by decide) inG6 (e_285 G o _ _) rfl 4 (by decide) mw_484 rfl dX6_product_29 ?_
  refine lv_iload hx hb dX6_product_32 (lv_at hl 0 rfl) ?_
  refine x_lald (k := 290) (j := 2) hE hK hI (by decide) (e_290 G o) (by decide) (by decide) rfl dX6_product_34 ?_
  refine lv_aload_n hx hb dX6_product_35 rfl (lv_at hl 3 rfl) ?_
  refine lv_iload hx hb dX6_product_36 (lv_at hl 0 rfl) ?_
  refine lv_iload_n hx hb dX6_product_38 rfl (lv_at hl 4 rfl) ?_
  refine x_callVi (k := 285) hE hK hI (c_X6_shareOf_2_3 l G o _ _  ) mf_X6_shareOf mw_516 (by decide) ((e_285 G o) _ _) rfl rfl hl.1 rfl (Nat.le_of_ble_eq_true rfl) ⟨(Nat.le_of_ble_eq_true rfl), (Nat.le_of_ble_eq_true rfl)⟩ ⟨Nat.zero_le _, Nat.zero_le _⟩ dX6_product_39 (fun H locs hI => ?_)
  refine lv_i2l hx hb dX6_product_42 rfl ?_
  refine lv_lmul hx hb dX6_product_43 ?_
  refine lv_ladd hx hb dX6_product_44 ?_
  refine lv_lstore (lv' := [(4, .long (((0 + (((llY (asX X) Y) 290 0) * (((asX X) 286 3).toInt64))) + (((llY (asX X) Y) 290 1) * (((asX X) 286 7).toInt64))) + (((llY (asX X) Y) 290 2) * (((asX X) 286 11).toInt64)))), (6, .int 2), (3, .int 0), (0, .ref (o + 285)), (1, .int 3), (2, .int 0)]) hx hb dX6_product_45 hl (by decide) rfl (fun ls hl => ?_)
  refine lv_iinc (v := 3) (lv' := [(6, .int 3), (4, .long (((0 + (((llY (asX X) Y) 290 0) * (((asX X) 286 3).toInt64))) + (((llY (asX X) Y) 290 1) * (((asX X) 286 7).toInt64))) + (((llY (asX X) Y) 290 2) * (((asX X) 286 11).toInt64)))), (3, .int 0), (0, .ref (o + 285)), (1, .int 3), (2, .int 0)]) hx hb dX6_product_47 hl (k := 1) rfl (by decide) (by decide) rfl (fun ls hl => ?_)
  refine lv_goto (tgt := 20) hx hb dX6_product_50 (by decide) ?_
  refine lv_iload hx hb dX6_product_20 (lv_at hl 0 rfl) ?_
  refine lv_iload_n hx hb dX6_product_22 rfl (lv_at hl 4 rfl) ?_
  refine lv_icmp_gt (tgt := 53) hx hb dX6_product_23 (by decide) (fun q => absurd q (by decide)) (fun _ => ?_)
  refine lv_lload hx hb dX6_product_26 (lv_at hl 1 rfl) ?_
  refine lv_aload_n hx hb dX6_product_28 rfl (lv_at hl 3 rfl) ?_
  refine x_get (k := 285) hE hK hI (by decide) inG6 (e_285 G o _ _) rfl 4 (by decide) mw_484 rfl dX6_product_29 ?_
  refine lv_iload hx hb dX6_product_32 (lv_at hl 0 rfl) ?_
  refine x_lald (k := 290) (j := 3) hE hK hI (by decide) (e_290 G o) (by decide) (by decide) rfl dX6_product_34 ?_
  refine lv_aload_n hx hb dX6_product_35 rfl (lv_at hl 3 rfl) ?_
  refine lv_iload hx hb dX6_product_36 (lv_at hl 0 rfl) ?_
  refine lv_iload_n hx hb dX6_product_38 rfl (lv_at hl 4 rfl) ?_
  refine x_callVi (k := 285) hE hK hI (c_X6_shareOf_3_3 l G o _ _  ) mf_X6_shareOf mw_516 (by decide) ((e_285 G o) _ _) rfl rfl hl.1 rfl (Nat.le_of_ble_eq_true rfl) ⟨(Nat.le_of_ble_eq_true rfl), (Nat.le_of_ble_eq_true rfl)⟩ ⟨Nat.zero_le _, Nat.zero_le _⟩ dX6_product_39 (fun H locs hI => ?_)
  refine lv_i2l hx hb dX6_product_42 rfl ?_
  refine lv_lmul hx hb dX6_product_43 ?_
  refine lv_ladd hx hb dX6_product_44 ?_
  refine lv_lstore (lv' := [(4, .long ((((0 + (((llY (asX X) Y) 290 0) * (((asX X) 286 3).toInt64))) + (((llY (asX X) Y) 290 1) * (((asX X) 286 7).toInt64))) + (((llY (asX X) Y) 290 2) * (((asX X) 286 11).toInt64))) + (((llY (asX X) Y) 290 3) * (((asX X) 286 15).toInt64)))), (6, .int 3), (3, .int 0), (0, .ref (o + 285)), (1, .int 3), (2, .int 0)]) hx hb dX6_product_45 hl (by decide) rfl (fun ls hl => ?_)
  refine lv_iinc (v := 4) (lv' := [(6, .int 4), (4, .long ((((0 + (((llY (asX X) Y) 290 0) * (((asX X) 286 3).toInt64))) + (((llY (asX X) Y) 290 1) * (((asX X) 286 7).toInt64))) + (((llY (asX X) Y) 290 2) * (((asX X) 286 11).toInt64))) + (((llY (asX X) Y) 290 3) * (((asX X) 286 15).toInt64)))), (3, .int 0), (0, .ref (o + 285)), (1, .int 3), (2, .int 0)]) hx hb dX6_product_47 hl (k := 1) rfl (by decide) (by decide) rfl (fun ls hl => ?_)
  refine lv_goto (tgt := 20) hx hb dX6_product_50 (by decide) ?_
  refine lv_iload hx hb dX6_product_20 (lv_at hl 0 rfl) ?_
  refine lv_iload_n hx hb dX6_product_22 rfl (lv_at hl 4 rfl) ?_
  refine lv_icmp_gt (tgt := 53) hx hb dX6_product_23 (by decide) (fun _ => ?_) (fun q => absurd (by decide) q)
  refine lv_lload hx hb dX6_product_53 (lv_at hl 1 rfl) ?_
  refine lv_bipush (v := 10) hx hb dX6_product_55 (by decide) ?_
  refine lv_aload_n hx hb dX6_product_57 rfl (lv_at hl 3 rfl) ?_
  refine x_get (k := 285) hE hK hI (by decide) inG6 (e_285 G o _ _) rfl 3 (by decide) mw_483 rfl dX6_product_58 ?_
  refine lv_iload_n hx hb dX6_product_61 rfl (lv_at hl 4 rfl) ?_
  refine x_iald (k := 289) (j := 3) hE hK hI (by decide) (e_289 G o) (by decide) (by decide) rfl dX6_product_62 ?_
  refine lv_isub hx hb dX6_product_63 ?_
  refine lv_i2l hx hb dX6_product_64 rfl ?_
  refine lv_lmul hx hb dX6_product_65 ?_
  refine lv_ldc2 hx hb hE.2.2.2.1 (hE.2.2.2.2 _ mw_555) dX6_product_66 ?_
  refine lv_aload_n hx hb dX6_product_69 rfl (lv_at hl 3 rfl) ?_
  refine x_get (k := 285) hE hK hI (by decide) inG6 (e_285 G o _ _) rfl 5 (by decide) mw_485 rfl dX6_product_70 ?_
  refine lv_lmul hx hb dX6_product_73 ?_
  refine lv_iload_n hx hb dX6_product_74 rfl (lv_at hl 5 rfl) ?_
  refine x_callSl hE hK hI (c_X6_part_0 l G o _ _ (((((0 + (((llY (asX X) Y) 290 0) * (((asX X) 286 3).toInt64))) + (((llY (asX X) Y) 290 1) * (((asX X) 286 7).toInt64))) + (((llY (asX X) Y) 290 2) * (((asX X) 286 11).toInt64))) + (((llY (asX X) Y) 290 3) * (((asX X) 286 15).toInt64))) * ((10 - ((asX X) 289 3)).toInt64)) (100 * ((llY (asX X) Y) 285 5)) hg0 hgk hg) mf_X6_part mw_556 rfl hl.1 rfl (Nat.le_of_ble_eq_true rfl) ⟨(Nat.le_of_ble_eq_true rfl), (Nat.le_of_ble_eq_true rfl)⟩ ⟨Nat.zero_le _, Nat.zero_le _⟩ dX6_product_75 (fun H locs hI => ?_)
  exact x_lret hE hr hlocks hI rfl rfl rfl dX6_product_78
set_option maxRecDepth 100000 in
set_option maxHeartbeats 4000000 in
theorem c_X6_load_y1 (l : Launch) (G : GG) (o : Nat) (X : SX) (Y : SY) (j : Nat) (h0 : j < 4) (h1 : Wi (nI j) 0 3) (h : ¬ (llr (asX X) Y = 0)) (hg0 : 0 ≤ (llY (asX X) Y) 290 j) (hgk : gok 100 ((llY (asX X) Y) 290 j) ((llY (asX X) Y) 285 5)) (hg : ¬ (gcdL 100 ((llY (asX X) Y) 290 j) ((llY (asX X) Y) 285 5) = 0)) : Ct l yX6_load cX6_load 4 (some .long) 3 71 G o [.ref (o + 285), .int (nI j), .int 1] X Y (some (.long (((llY (asX X) Y) 285 5) / gcdL 100 ((llY (asX X) Y) 290 j) ((llY (asX X) Y) 285 5)))) (asX X) (llY (asX X) Y) := by
  refine Ct.mk (by decide +kernel) (Nat.le_of_ble_eq_true rfl) rfl ?_
  intro p9 e9 s9 m9 args9 below9 meth9 c9 hE hr hlocks hK hI ls hl
  have hx := hE.1
  have hb := hE.2.1
  have hl : lv_has ls 4 [(0, .ref (o + 285)), (1, .int (nI j)), (2, .int 1)] := hl
  refine lv_aload_n hx hb dX6_load_0 rfl (lv_at hl 0 rfl) ?_
  refine lv_iload_n hx hb dX6_load_1 rfl (lv_at hl 1 rfl) ?_
  refine lv_iload_n hx hb dX6_load_2 rfl (lv_at hl 2 rfl) ?_
  refine x_callVi (k := 285) hE hK hI (c_X6_wrongSteady_y l G o _ _ (nI j) 1 h1 (by decide) h) mf_X6_wrongSteady mw_540 (by decide) ((e_285 G o) _ _) rfl rfl hl.1 rfl (Nat.le_of_ble_eq_true rfl) ⟨(Nat.le_of_ble_eq_true rfl), (Nat.le_of_ble_eq_true rfl)⟩ ⟨Nat.zero_le _, Nat.zero_le _⟩ dX6_load_3 (fun H locs hI => ?_)
  refine lv_istore_n (lv' := [(3, .int 0), (0, .ref (o + 285)), (1, .int (nI j)), (2, .int 1)]) hx hb dX6_load_6 rfl hl (by decide) rfl (fun ls hl => ?_)
  refine lv_iload_n hx hb dX6_load_7 rfl (lv_at hl 0 rfl) ?_
  refine lv_if_eq (tgt := 16) hx hb dX6_load_8 (by decide) (fun _ => ?_) (fun q => absurd (by decide) q)
  refine lv_aload_n hx hb dX6_load_16 rfl (lv_at hl 1 rfl) ?_
  refine x_get (k := 285) hE hK hI (by decide) inG6 (e_285 G o _ _) rfl 4 (by decide) mw_484 rfl dX6_load_17 ?_
  refine lv_iload_n hx hb dX6_load_20 rfl (lv_at hl 2 rfl) ?_
  refine x_lald (k := 290) (j := j) hE hK hI (by decide) (e_290 G o) h0 (by decide) rfl dX6_load_21 ?_
  refine lv_aload_n hx hb dX6_load_22 rfl (lv_at hl 1 rfl) ?_
  refine x_get (k := 285) hE hK hI (by decide) inG6 (e_285 G o _ _) rfl 5 (by decide) mw_485 rfl dX6_load_23 ?_
  refine lv_iload_n hx hb dX6_load_26 rfl (lv_at hl 3 rfl) ?_
  refine x_callSl hE hK hI (c_X6_part_1 l G o _ _ ((llY (asX X) Y) 290 j) ((llY (asX X) Y) 285 5) hg0 hgk hg) mf_X6_part mw_556 rfl hl.1 rfl (Nat.le_of_ble_eq_true rfl) ⟨(Nat.le_of_ble_eq_true rfl), (Nat.le_of_ble_eq_true rfl)⟩ ⟨Nat.zero_le _, Nat.zero_le _⟩ dX6_load_27 (fun H locs hI => ?_)
  exact x_lret hE hr hlocks hI rfl rfl rfl dX6_load_30
set_option maxRecDepth 100000 in
set_option maxHeartbeats 4000000 in
theorem c_X6_product_y1_0 (l : Launch) (G : GG) (o : Nat) (X : SX) (Y : SY) (h : ¬ (llr (asX X) Y = 0)) (hg0 : 0 ≤ (0 + (((llY (asX X) Y) 290 0) * (((asX X) 286 0).toInt64))) * ((10 - ((asX X) 289 0)).toInt64)) (hgk : gok 100 ((0 + (((llY (asX X) Y) 290 0) * (((asX X) 286 0).toInt64))) * ((10 - ((asX X) 289 0)).toInt64)) (100 * ((llY (asX X) Y) 285 5))) (hg : ¬ (gcdL 100 ((0 + (((llY (asX X) Y) 290 0) * (((asX X) 286 0).toInt64))) * ((10 - ((asX X) 289 0)).toInt64)) (100 * ((llY (asX X) Y) 285 5)) = 0)) : Ct l yX6_product cX6_product 7 (some .long) 3 71 G o [.ref (o + 285), .int 0, .int 1] X Y (some (.long ((100 * ((llY (asX X) Y) 285 5)) / gcdL 100 ((0 + (((llY (asX X) Y) 290 0) * (((asX X) 286 0).toInt64))) * ((10 - ((asX X) 289 0)).toInt64)) (100 * ((llY (asX X) Y) 285 5))))) (asX X) (llY (asX X) Y) := by
  refine Ct.mk (by decide +kernel) (Nat.le_of_ble_eq_true rfl) rfl ?_
  intro p9 e9 s9 m9 args9 below9 meth9 c9 hE hr hlocks hK hI ls hl
  have hx := hE.1
  have hb := hE.2.1
  have hl : lv_has ls 7 [(0, .ref (o + 285)), (1, .int 0), (2, .int 1)] := hl
  refine lv_aload_n hx hb dX6_product_0 rfl (lv_at hl 0 rfl) ?_
  refine lv_iload_n hx hb dX6_product_1 rfl (lv_at hl 1 rfl) ?_
  refine lv_iload_n hx hb dX6_product_2 rfl (lv_at hl 2 rfl) ?_
  refine x_callVi (k := 285) hE hK hI (c_X6_wrongSteady_y l G o _ _ 0 1 (by decide) (by decide) h) mf_X6_wrongSteady mw_540 (by decide) ((e_285 G o) _ _) rfl rfl hl.1 rfl (Nat.le_of_ble_eq_true rfl) ⟨(Nat.le_of_ble_eq_true rfl), (Nat.le_of_ble_eq_true rfl)⟩ ⟨Nat.zero_le _, Nat.zero_le _⟩ dX6_product_3 (fun H locs hI => ?_)
  refine lv_istore_n (lv' := [(3, .int 0), (0, .ref (o + 285)), (1, .int 0), (2, .int 1)]) hx hb dX6_product_6 rfl hl (by decide) rfl (fun ls hl => ?_)
  refine lv_iload_n hx hb dX6_product_7 rfl (lv_at hl 0 rfl) ?_
  refine lv_if_eq (tgt := 14) hx hb dX6_product_8 (by decide) (fun _ => ?_) (fun q => absurd (by decide) q)
  refine lv_lconst (v := 0) hx hb dX6_product_14 (by decide) ?_
  refine lv_lstore (lv' := [(4, .long 0), (3, .int 0), (0, .ref (o + 285)), (1, .int 0), (2, .int 1)]) hx hb dX6_product_15 hl (by decide) rfl (fun ls hl => ?_)
  refine lv_iconst (v := 0) hx hb dX6_product_17 (by decide) ?_
  refine lv_istore (lv' := [(6, .int 0), (4, .long 0), (3, .int 0), (0, .ref (o + 285)), (1, .int 0), (2, .int 1)]) hx hb dX6_product_18 hl (by decide) rfl (fun ls hl => ?_)
  refine lv_iload hx hb dX6_product_20 (lv_at hl 0 rfl) ?_
  refine lv_iload_n hx hb dX6_product_22 rfl (lv_at hl 4 rfl) ?_
  refine lv_icmp_gt (tgt := 53) hx hb dX6_product_23 (by decide) (fun q => absurd q (by decide)) (fun _ => ?_)
  refine lv_lload hx hb dX6_product_26 (lv_at hl 1 rfl) ?_
  refine lv_aload_n hx hb dX6_product_28 rfl (lv_at hl 3 rfl) ?_
  refine x_get (k := 285) hE hK hI (by decide) inG6 (e_285 G o _ _) rfl 4 (by decide) mw_484 rfl dX6_product_29 ?_
  refine lv_iload hx hb dX6_product_32 (lv_at hl 0 rfl) ?_
  refine x_lald (k := 290) (j := 0) hE hK hI (by decide) (e_290 G o) (by decide) (by decide) rfl dX6_product_34 ?_
  refine lv_aload_n hx hb dX6_product_35 rfl (lv_at hl 3 rfl) ?_
  refine lv_iload hx hb dX6_product_36 (lv_at hl 0 rfl) ?_
  refine lv_iload_n hx hb dX6_product_38 rfl (lv_at hl 4 rfl) ?_
  refine x_callVi (k := 285) hE hK hI (c_X6_shareOf_0_0 l G o _ _  ) mf_X6_shareOf mw_516 (by decide) ((e_285 G o) _ _) rfl rfl hl.1 rfl (Nat.le_of_ble_eq_true rfl) ⟨(Nat.le_of_ble_eq_true rfl), (Nat.le_of_ble_eq_true rfl)⟩ ⟨Nat.zero_le _, Nat.zero_le _⟩ dX6_product_39 (fun H locs hI => ?_)
  refine lv_i2l hx hb dX6_product_42 rfl ?_
  refine lv_lmul hx hb dX6_product_43 ?_
  refine lv_ladd hx hb dX6_product_44 ?_
  refine lv_lstore (lv' := [(4, .long (0 + (((llY (asX X) Y) 290 0) * (((asX X) 286 0).toInt64)))), (6, .int 0), (3, .int 0), (0, .ref (o + 285)), (1, .int 0), (2, .int 1)]) hx hb dX6_product_45 hl (by decide) rfl (fun ls hl => ?_)
  refine lv_iinc (v := 1) (lv' := [(6, .int 1), (4, .long (0 + (((llY (asX X) Y) 290 0) * (((asX X) 286 0).toInt64)))), (3, .int 0), (0, .ref (o + 285)), (1, .int 0), (2, .int 1)]) hx hb dX6_product_47 hl (k := 1) rfl (by decide) (by decide) rfl (fun ls hl => ?_)
  refine lv_goto (tgt := 20) hx hb dX6_product_50 (by decide) ?_
  refine lv_iload hx hb dX6_product_20 (lv_at hl 0 rfl) ?_
  refine lv_iload_n hx hb dX6_product_22 rfl (lv_at hl 4 rfl) ?_
  refine lv_icmp_gt (tgt := 53) hx hb dX6_product_23 (by decide) (fun _ => ?_) (fun q => absurd (by decide) q)
  refine lv_lload hx hb dX6_product_53 (lv_at hl 1 rfl) ?_
  refine lv_bipush (v := 10) hx hb dX6_product_55 (by decide) ?_
  refine lv_aload_n hx hb dX6_product_57 rfl (lv_at hl 3 rfl) ?_
  refine x_get (k := 285) hE hK hI (by decide) inG6 (e_285 G o _ _) rfl 3 (by decide) mw_483 rfl dX6_product_58 ?_
  refine lv_iload_n hx hb dX6_product_61 rfl (lv_at hl 4 rfl) ?_
  refine x_iald (k := 289) (j := 0) hE hK hI (by decide) (e_289 G o) (by decide) (by decide) rfl dX6_product_62 ?_
  refine lv_isub hx hb dX6_product_63 ?_
  refine lv_i2l hx hb dX6_product_64 rfl ?_
  refine lv_lmul hx hb dX6_product_65 ?_
  refine lv_ldc2 hx hb hE.2.2.2.1 (hE.2.2.2.2 _ mw_555) dX6_product_66 ?_
  refine lv_aload_n hx hb dX6_product_69 rfl (lv_at hl 3 rfl) ?_
  refine x_get (k := 285) hE hK hI (by decide) inG6 (e_285 G o _ _) rfl 5 (by decide) mw_485 rfl dX6_product_70 ?_
  refine lv_lmul hx hb dX6_product_73 ?_
  refine lv_iload_n hx hb dX6_product_74 rfl (lv_at hl 5 rfl) ?_
  refine x_callSl hE hK hI (c_X6_part_1 l G o _ _ ((0 + (((llY (asX X) Y) 290 0) * (((asX X) 286 0).toInt64))) * ((10 - ((asX X) 289 0)).toInt64)) (100 * ((llY (asX X) Y) 285 5)) hg0 hgk hg) mf_X6_part mw_556 rfl hl.1 rfl (Nat.le_of_ble_eq_true rfl) ⟨(Nat.le_of_ble_eq_true rfl), (Nat.le_of_ble_eq_true rfl)⟩ ⟨Nat.zero_le _, Nat.zero_le _⟩ dX6_product_75 (fun H locs hI => ?_)
  exact x_lret hE hr hlocks hI rfl rfl rfl dX6_product_78
set_option maxRecDepth 100000 in
set_option maxHeartbeats 4000000 in
theorem c_X6_product_y1_1 (l : Launch) (G : GG) (o : Nat) (X : SX) (Y : SY) (h : ¬ (llr (asX X) Y = 0)) (hg0 : 0 ≤ ((0 + (((llY (asX X) Y) 290 0) * (((asX X) 286 1).toInt64))) + (((llY (asX X) Y) 290 1) * (((asX X) 286 5).toInt64))) * ((10 - ((asX X) 289 1)).toInt64)) (hgk : gok 100 (((0 + (((llY (asX X) Y) 290 0) * (((asX X) 286 1).toInt64))) + (((llY (asX X) Y) 290 1) * (((asX X) 286 5).toInt64))) * ((10 - ((asX X) 289 1)).toInt64)) (100 * ((llY (asX X) Y) 285 5))) (hg : ¬ (gcdL 100 (((0 + (((llY (asX X) Y) 290 0) * (((asX X) 286 1).toInt64))) + (((llY (asX X) Y) 290 1) * (((asX X) 286 5).toInt64))) * ((10 - ((asX X) 289 1)).toInt64)) (100 * ((llY (asX X) Y) 285 5)) = 0)) : Ct l yX6_product cX6_product 7 (some .long) 3 71 G o [.ref (o + 285), .int 1, .int 1] X Y (some (.long ((100 * ((llY (asX X) Y) 285 5)) / gcdL 100 (((0 + (((llY (asX X) Y) 290 0) * (((asX X) 286 1).toInt64))) + (((llY (asX X) Y) 290 1) * (((asX X) 286 5).toInt64))) * ((10 - ((asX X) 289 1)).toInt64)) (100 * ((llY (asX X) Y) 285 5))))) (asX X) (llY (asX X) Y) := by
  refine Ct.mk (by decide +kernel) (Nat.le_of_ble_eq_true rfl) rfl ?_
  intro p9 e9 s9 m9 args9 below9 meth9 c9 hE hr hlocks hK hI ls hl
  have hx := hE.1
  have hb := hE.2.1
  have hl : lv_has ls 7 [(0, .ref (o + 285)), (1, .int 1), (2, .int 1)] := hl
  refine lv_aload_n hx hb dX6_product_0 rfl (lv_at hl 0 rfl) ?_
  refine lv_iload_n hx hb dX6_product_1 rfl (lv_at hl 1 rfl) ?_
  refine lv_iload_n hx hb dX6_product_2 rfl (lv_at hl 2 rfl) ?_
  refine x_callVi (k := 285) hE hK hI (c_X6_wrongSteady_y l G o _ _ 1 1 (by decide) (by decide) h) mf_X6_wrongSteady mw_540 (by decide) ((e_285 G o) _ _) rfl rfl hl.1 rfl (Nat.le_of_ble_eq_true rfl) ⟨(Nat.le_of_ble_eq_true rfl), (Nat.le_of_ble_eq_true rfl)⟩ ⟨Nat.zero_le _, Nat.zero_le _⟩ dX6_product_3 (fun H locs hI => ?_)
  refine lv_istore_n (lv' := [(3, .int 0), (0, .ref (o + 285)), (1, .int 1), (2, .int 1)]) hx hb dX6_product_6 rfl hl (by decide) rfl (fun ls hl => ?_)
  refine lv_iload_n hx hb dX6_product_7 rfl (lv_at hl 0 rfl) ?_
  refine lv_if_eq (tgt := 14) hx hb dX6_product_8 (by decide) (fun _ => ?_) (fun q => absurd (by decide) q)
  refine lv_lconst (v := 0) hx hb dX6_product_14 (by decide) ?_
  refine lv_lstore (lv' := [(4, .long 0), (3, .int 0), (0, .ref (o + 285)), (1, .int 1), (2, .int 1)]) hx hb dX6_product_15 hl (by decide) rfl (fun ls hl => ?_)
  refine lv_iconst (v := 0) hx hb dX6_product_17 (by decide) ?_
  refine lv_istore (lv' := [(6, .int 0), (4, .long 0), (3, .int 0), (0, .ref (o + 285)), (1, .int 1), (2, .int 1)]) hx hb dX6_product_18 hl (by decide) rfl (fun ls hl => ?_)
  refine lv_iload hx hb dX6_product_20 (lv_at hl 0 rfl) ?_
  refine lv_iload_n hx hb dX6_product_22 rfl (lv_at hl 4 rfl) ?_
  refine lv_icmp_gt (tgt := 53) hx hb dX6_product_23 (by decide) (fun q => absurd q (by decide)) (fun _ => ?_)
  refine lv_lload hx hb dX6_product_26 (lv_at hl 1 rfl) ?_
  refine lv_aload_n hx hb dX6_product_28 rfl (lv_at hl 3 rfl) ?_
  refine x_get (k := 285) hE hK hI (by decide) inG6 (e_285 G o _ _) rfl 4 (by decide) mw_484 rfl dX6_product_29 ?_
  refine lv_iload hx hb dX6_product_32 (lv_at hl 0 rfl) ?_
  refine x_lald (k := 290) (j := 0) hE hK hI (by decide) (e_290 G o) (by decide) (by decide) rfl dX6_product_34 ?_
  refine lv_aload_n hx hb dX6_product_35 rfl (lv_at hl 3 rfl) ?_
  refine lv_iload hx hb dX6_product_36 (lv_at hl 0 rfl) ?_
  refine lv_iload_n hx hb dX6_product_38 rfl (lv_at hl 4 rfl) ?_
  refine x_callVi (k := 285) hE hK hI (c_X6_shareOf_0_1 l G o _ _  ) mf_X6_shareOf mw_516 (by decide) ((e_285 G o) _ _) rfl rfl hl.1 rfl (Nat.le_of_ble_eq_true rfl) ⟨(Nat.le_of_ble_eq_true rfl), (Nat.le_of_ble_eq_true rfl)⟩ ⟨Nat.zero_le _, Nat.zero_le _⟩ dX6_product_39 (fun H locs hI => ?_)
  refine lv_i2l hx hb dX6_product_42 rfl ?_
  refine lv_lmul hx hb dX6_product_43 ?_
  refine lv_ladd hx hb dX6_product_44 ?_
  refine lv_lstore (lv' := [(4, .long (0 + (((llY (asX X) Y) 290 0) * (((asX X) 286 1).toInt64)))), (6, .int 0), (3, .int 0), (0, .ref (o + 285)), (1, .int 1), (2, .int 1)]) hx hb dX6_product_45 hl (by decide) rfl (fun ls hl => ?_)
  refine lv_iinc (v := 1) (lv' := [(6, .int 1), (4, .long (0 + (((llY (asX X) Y) 290 0) * (((asX X) 286 1).toInt64)))), (3, .int 0), (0, .ref (o + 285)), (1, .int 1), (2, .int 1)]) hx hb dX6_product_47 hl (k := 1) rfl (by decide) (by decide) rfl (fun ls hl => ?_)
  refine lv_goto (tgt := 20) hx hb dX6_product_50 (by decide) ?_
  refine lv_iload hx hb dX6_product_20 (lv_at hl 0 rfl) ?_
  refine lv_iload_n hx hb dX6_product_22 rfl (lv_at hl 4 rfl) ?_
  refine lv_icmp_gt (tgt := 53) hx hb dX6_product_23 (by decide) (fun q => absurd q (by decide)) (fun _ => ?_)
  refine lv_lload hx hb dX6_product_26 (lv_at hl 1 rfl) ?_
  refine lv_aload_n hx hb dX6_product_28 rfl (lv_at hl 3 rfl) ?_
  refine x_get (k := 285) hE hK hI (by decide) inG6 (e_285 G o _ _) rfl 4 (by decide) mw_484 rfl dX6_product_29 ?_
  refine lv_iload hx hb dX6_product_32 (lv_at hl 0 rfl) ?_
  refine x_lald (k := 290) (j := 1) hE hK hI (by decide) (e_290 G o) (by decide) (by decide) rfl dX6_product_34 ?_
  refine lv_aload_n hx hb dX6_product_35 rfl (lv_at hl 3 rfl) ?_
  refine lv_iload hx hb dX6_product_36 (lv_at hl 0 rfl) ?_
  refine lv_iload_n hx hb dX6_product_38 rfl (lv_at hl 4 rfl) ?_
  refine x_callVi (k := 285) hE hK hI (c_X6_shareOf_1_1 l G o _ _  ) mf_X6_shareOf mw_516 (by decide) ((e_285 G o) _ _) rfl rfl hl.1 rfl (Nat.le_of_ble_eq_true rfl) ⟨(Nat.le_of_ble_eq_true rfl), (Nat.le_of_ble_eq_true rfl)⟩ ⟨Nat.zero_le _, Nat.zero_le _⟩ dX6_product_39 (fun H locs hI => ?_)
  refine lv_i2l hx hb dX6_product_42 rfl ?_
  refine lv_lmul hx hb dX6_product_43 ?_
  refine lv_ladd hx hb dX6_product_44 ?_
  refine lv_lstore (lv' := [(4, .long ((0 + (((llY (asX X) Y) 290 0) * (((asX X) 286 1).toInt64))) + (((llY (asX X) Y) 290 1) * (((asX X) 286 5).toInt64)))), (6, .int 1), (3, .int 0), (0, .ref (o + 285)), (1, .int 1), (2, .int 1)]) hx hb dX6_product_45 hl (by decide) rfl (fun ls hl => ?_)
  refine lv_iinc (v := 2) (lv' := [(6, .int 2), (4, .long ((0 + (((llY (asX X) Y) 290 0) * (((asX X) 286 1).toInt64))) + (((llY (asX X) Y) 290 1) * (((asX X) 286 5).toInt64)))), (3, .int 0), (0, .ref (o + 285)), (1, .int 1), (2, .int 1)]) hx hb dX6_product_47 hl (k := 1) rfl (by decide) (by decide) rfl (fun ls hl => ?_)
  refine lv_goto (tgt := 20) hx hb dX6_product_50 (by decide) ?_
  refine lv_iload hx hb dX6_product_20 (lv_at hl 0 rfl) ?_
  refine lv_iload_n hx hb dX6_product_22 rfl (lv_at hl 4 rfl) ?_
  refine lv_icmp_gt (tgt := 53) hx hb dX6_product_23 (by decide) (fun _ => ?_) (fun q => absurd (by decide) q)
  refine lv_lload hx hb dX6_product_53 (lv_at hl 1 rfl) ?_
  refine lv_bipush (v := 10) hx hb dX6_product_55 (by decide) ?_
  refine lv_aload_n hx hb dX6_product_57 rfl (lv_at hl 3 rfl) ?_
  refine x_get (k := 285) hE hK hI (by decide) inG6 (e_285 G o _ _) rfl 3 (by decide) mw_483 rfl dX6_product_58 ?_
  refine lv_iload_n hx hb dX6_product_61 rfl (lv_at hl 4 rfl) ?_
  refine x_iald (k := 289) (j := 1) hE hK hI (by decide) (e_289 G o) (by decide) (by decide) rfl dX6_product_62 ?_
  refine lv_isub hx hb dX6_product_63 ?_
  refine lv_i2l hx hb dX6_product_64 rfl ?_
  refine lv_lmul hx hb dX6_product_65 ?_
  refine lv_ldc2 hx hb hE.2.2.2.1 (hE.2.2.2.2 _ mw_555) dX6_product_66 ?_
  refine lv_aload_n hx hb dX6_product_69 rfl (lv_at hl 3 rfl) ?_
  refine x_get (k := 285) hE hK hI (by decide) inG6 (e_285 G o _ _) rfl 5 (by decide) mw_485 rfl dX6_product_70 ?_
  refine lv_lmul hx hb dX6_product_73 ?_
  refine lv_iload_n hx hb dX6_product_74 rfl (lv_at hl 5 rfl) ?_
  refine x_callSl hE hK hI (c_X6_part_1 l G o _ _ (((0 + (((llY (asX X) Y) 290 0) * (((asX X) 286 1).toInt64))) + (((llY (asX X) Y) 290 1) * (((asX X) 286 5).toInt64))) * ((10 - ((asX X) 289 1)).toInt64)) (100 * ((llY (asX X) Y) 285 5)) hg0 hgk hg) mf_X6_part mw_556 rfl hl.1 rfl (Nat.le_of_ble_eq_true rfl) ⟨(Nat.le_of_ble_eq_true rfl), (Nat.le_of_ble_eq_true rfl)⟩ ⟨Nat.zero_le _, Nat.zero_le _⟩ dX6_product_75 (fun H locs hI => ?_)
  exact x_lret hE hr hlocks hI rfl rfl rfl dX6_product_78
set_option maxRecDepth 100000 in
set_option maxHeartbeats 4000000 in
theorem c_X6_product_y1_2 (l : Launch) (G : GG) (o : Nat) (X : SX) (Y : SY) (h : ¬ (llr (asX X) Y = 0)) (hg0 : 0 ≤ (((0 + (((llY (asX X) Y) 290 0) * (((asX X) 286 2).toInt64))) + (((llY (asX X) Y) 290 1) * (((asX X) 286 6).toInt64))) + (((llY (asX X) Y) 290 2) * (((asX X) 286 10).toInt64))) * ((10 - ((asX X) 289 2)).toInt64)) (hgk : gok 100 ((((0 + (((llY (asX X) Y) 290 0) * (((asX X) 286 2).toInt64))) + (((llY (asX X) Y) 290 1) * (((asX X) 286 6).toInt64))) + (((llY (asX X) Y) 290 2) * (((asX X) 286 10).toInt64))) * ((10 - ((asX X) 289 2)).toInt64)) (100 * ((llY (asX X) Y) 285 5))) (hg : ¬ (gcdL 100 ((((0 + (((llY (asX X) Y) 290 0) * (((asX X) 286 2).toInt64))) + (((llY (asX X) Y) 290 1) * (((asX X) 286 6).toInt64))) + (((llY (asX X) Y) 290 2) * (((asX X) 286 10).toInt64))) * ((10 - ((asX X) 289 2)).toInt64)) (100 * ((llY (asX X) Y) 285 5)) = 0)) : Ct l yX6_product cX6_product 7 (some .long) 3 71 G o [.ref (o + 285), .int 2, .int 1] X Y (some (.long ((100 * ((llY (asX X) Y) 285 5)) / gcdL 100 ((((0 + (((llY (asX X) Y) 290 0) * (((asX X) 286 2).toInt64))) + (((llY (asX X) Y) 290 1) * (((asX X) 286 6).toInt64))) + (((llY (asX X) Y) 290 2) * (((asX X) 286 10).toInt64))) * ((10 - ((asX X) 289 2)).toInt64)) (100 * ((llY (asX X) Y) 285 5))))) (asX X) (llY (asX X) Y) := by
  refine Ct.mk (by decide +kernel) (Nat.le_of_ble_eq_true rfl) rfl ?_
  intro p9 e9 s9 m9 args9 below9 meth9 c9 hE hr hlocks hK hI ls hl
  have hx := hE.1
  have hb := hE.2.1
  have hl : lv_has ls 7 [(0, .ref (o + 285)), (1, .int 2), (2, .int 1)] := hl
  refine lv_aload_n hx hb dX6_product_0 rfl (lv_at hl 0 rfl) ?_
  refine lv_iload_n hx hb dX6_product_1 rfl (lv_at hl 1 rfl) ?_
  refine lv_iload_n hx hb dX6_product_2 rfl (lv_at hl 2 rfl) ?_
  refine x_callVi (k := 285) hE hK hI (c_X6_wrongSteady_y l G o _ _ 2 1 (by decide) (by decide) h) mf_X6_wrongSteady mw_540 (by decide) ((e_285 G o) _ _) rfl rfl hl.1 rfl (Nat.le_of_ble_eq_true rfl) ⟨(Nat.le_of_ble_eq_true rfl), (Nat.le_of_ble_eq_true rfl)⟩ ⟨Nat.zero_le _, Nat.zero_le _⟩ dX6_product_3 (fun H locs hI => ?_)
  refine lv_istore_n (lv' := [(3, .int 0), (0, .ref (o + 285)), (1, .int 2), (2, .int 1)]) hx hb dX6_product_6 rfl hl (by decide) rfl (fun ls hl => ?_)
  refine lv_iload_n hx hb dX6_product_7 rfl (lv_at hl 0 rfl) ?_
  refine lv_if_eq (tgt := 14) hx hb dX6_product_8 (by decide) (fun _ => ?_) (fun q => absurd (by decide) q)
  refine lv_lconst (v := 0) hx hb dX6_product_14 (by decide) ?_
  refine lv_lstore (lv' := [(4, .long 0), (3, .int 0), (0, .ref (o + 285)), (1, .int 2), (2, .int 1)]) hx hb dX6_product_15 hl (by decide) rfl (fun ls hl => ?_)
  refine lv_iconst (v := 0) hx hb dX6_product_17 (by decide) ?_
  refine lv_istore (lv' := [(6, .int 0), (4, .long 0), (3, .int 0), (0, .ref (o + 285)), (1, .int 2), (2, .int 1)]) hx hb dX6_product_18 hl (by decide) rfl (fun ls hl => ?_)
  refine lv_iload hx hb dX6_product_20 (lv_at hl 0 rfl) ?_
  refine lv_iload_n hx hb dX6_product_22 rfl (lv_at hl 4 rfl) ?_
  refine lv_icmp_gt (tgt := 53) hx hb dX6_product_23 (by decide) (fun q => absurd q (by decide)) (fun _ => ?_)
  refine lv_lload hx hb dX6_product_26 (lv_at hl 1 rfl) ?_
  refine lv_aload_n hx hb dX6_product_28 rfl (lv_at hl 3 rfl) ?_
  refine x_get (k := 285) hE hK hI (by decide) inG6 (e_285 G o _ _) rfl 4 (by decide) mw_484 rfl dX6_product_29 ?_
  refine lv_iload hx hb dX6_product_32 (lv_at hl 0 rfl) ?_
  refine x_lald (k := 290) (j := 0) hE hK hI (by decide) (e_290 G o) (by decide) (by decide) rfl dX6_product_34 ?_
  refine lv_aload_n hx hb dX6_product_35 rfl (lv_at hl 3 rfl) ?_
  refine lv_iload hx hb dX6_product_36 (lv_at hl 0 rfl) ?_
  refine lv_iload_n hx hb dX6_product_38 rfl (lv_at hl 4 rfl) ?_
  refine x_callVi (k := 285) hE hK hI (c_X6_shareOf_0_2 l G o _ _  ) mf_X6_shareOf mw_516 (by decide) ((e_285 G o) _ _) rfl rfl hl.1 rfl (Nat.le_of_ble_eq_true rfl) ⟨(Nat.le_of_ble_eq_true rfl), (Nat.le_of_ble_eq_true rfl)⟩ ⟨Nat.zero_le _, Nat.zero_le _⟩ dX6_product_39 (fun H locs hI => ?_)
  refine lv_i2l hx hb dX6_product_42 rfl ?_
  refine lv_lmul hx hb dX6_product_43 ?_
  refine lv_ladd hx hb dX6_product_44 ?_
  refine lv_lstore (lv' := [(4, .long (0 + (((llY (asX X) Y) 290 0) * (((asX X) 286 2).toInt64)))), (6, .int 0), (3, .int 0), (0, .ref (o + 285)), (1, .int 2), (2, .int 1)]) hx hb dX6_product_45 hl (by decide) rfl (fun ls hl => ?_)
  refine lv_iinc (v := 1) (lv' := [(6, .int 1), (4, .long (0 + (((llY (asX X) Y) 290 0) * (((asX X) 286 2).toInt64)))), (3, .int 0), (0, .ref (o + 285)), (1, .int 2), (2, .int 1)]) hx hb dX6_product_47 hl (k := 1) rfl (by decide) (by decide) rfl (fun ls hl => ?_)
  refine lv_goto (tgt := 20) hx hb dX6_product_50 (by decide) ?_
  refine lv_iload hx hb dX6_product_20 (lv_at hl 0 rfl) ?_
  refine lv_iload_n hx hb dX6_product_22 rfl (lv_at hl 4 rfl) ?_
  refine lv_icmp_gt (tgt := 53) hx hb dX6_product_23 (by decide) (fun q => absurd q (by decide)) (fun _ => ?_)
  refine lv_lload hx hb dX6_product_26 (lv_at hl 1 rfl) ?_
  refine lv_aload_n hx hb dX6_product_28 rfl (lv_at hl 3 rfl) ?_
  refine x_get (k := 285) hE hK hI (by decide) inG6 (e_285 G o _ _) rfl 4 (by decide) mw_484 rfl dX6_product_29 ?_
  refine lv_iload hx hb dX6_product_32 (lv_at hl 0 rfl) ?_
  refine x_lald (k := 290) (j := 1) hE hK hI (by decide) (e_290 G o) (by decide) (by decide) rfl dX6_product_34 ?_
  refine lv_aload_n hx hb dX6_product_35 rfl (lv_at hl 3 rfl) ?_
  refine lv_iload hx hb dX6_product_36 (lv_at hl 0 rfl) ?_
  refine lv_iload_n hx hb dX6_product_38 rfl (lv_at hl 4 rfl) ?_
  refine x_callVi (k := 285) hE hK hI (c_X6_shareOf_1_2 l G o _ _  ) mf_X6_shareOf mw_516 (by decide) ((e_285 G o) _ _) rfl rfl hl.1 rfl (Nat.le_of_ble_eq_true rfl) ⟨(Nat.le_of_ble_eq_true rfl), (Nat.le_of_ble_eq_true rfl)⟩ ⟨Nat.zero_le _, Nat.zero_le _⟩ dX6_product_39 (fun H locs hI => ?_)
  refine lv_i2l hx hb dX6_product_42 rfl ?_
  refine lv_lmul hx hb dX6_product_43 ?_
  refine lv_ladd hx hb dX6_product_44 ?_
  refine lv_lstore (lv' := [(4, .long ((0 + (((llY (asX X) Y) 290 0) * (((asX X) 286 2).toInt64))) + (((llY (asX X) Y) 290 1) * (((asX X) 286 6).toInt64)))), (6, .int 1), (3, .int 0), (0, .ref (o + 285)), (1, .int 2), (2, .int 1)]) hx hb dX6_product_45 hl (by decide) rfl (fun ls hl => ?_)
  refine lv_iinc (v := 2) (lv' := [(6, .int 2), (4, .long ((0 + (((llY (asX X) Y) 290 0) * (((asX X) 286 2).toInt64))) + (((llY (asX X) Y) 290 1) * (((asX X) 286 6).toInt64)))), (3, .int 0), (0, .ref (o + 285)), (1, .int 2), (2, .int 1)]) hx hb dX6_product_47 hl (k := 1) rfl (by decide) (by decide) rfl (fun ls hl => ?_)
  refine lv_goto (tgt := 20) hx hb dX6_product_50 (by decide) ?_
  refine lv_iload hx hb dX6_product_20 (lv_at hl 0 rfl) ?_
  refine lv_iload_n hx hb dX6_product_22 rfl (lv_at hl 4 rfl) ?_
  refine lv_icmp_gt (tgt := 53) hx hb dX6_product_23 (by decide) (fun q => absurd q (by decide)) (fun _ => ?_)
  refine lv_lload hx hb dX6_product_26 (lv_at hl 1 rfl) ?_
  refine lv_aload_n hx hb dX6_product_28 rfl (lv_at hl 3 rfl) ?_
  refine x_get (k := 285) hE hK hI (by decide) inG6 (e_285 G o _ _) rfl 4 (by decide) mw_484 rfl dX6_product_29 ?_
  refine lv_iload hx hb dX6_product_32 (lv_at hl 0 rfl) ?_
  refine x_lald (k := 290) (j := 2) hE hK hI (by decide) (e_290 G o) (by decide) (by decide) rfl dX6_product_34 ?_
  refine lv_aload_n hx hb dX6_product_35 rfl (lv_at hl 3 rfl) ?_
  refine lv_iload hx hb dX6_product_36 (lv_at hl 0 rfl) ?_
  refine lv_iload_n hx hb dX6_product_38 rfl (lv_at hl 4 rfl) ?_
  refine x_callVi (k := 285) hE hK hI (c_X6_shareOf_2_2 l G o _ _  ) mf_X6_shareOf mw_516 (by decide) ((e_285 G o) _ _) rfl rfl hl.1 rfl (Nat.le_of_ble_eq_true rfl) ⟨(Nat.le_of_ble_eq_true rfl), (Nat.le_of_ble_eq_true rfl)⟩ ⟨Nat.zero_le _, Nat.zero_le _⟩ dX6_product_39 (fun H locs hI => ?_)
  refine lv_i2l hx hb dX6_product_42 rfl ?_
  refine lv_lmul hx hb dX6_product_43 ?_
  refine lv_ladd hx hb dX6_product_44 ?_
  refine lv_lstore (lv' := [(4, .long (((0 + (((llY (asX X) Y) 290 0) * (((asX X) 286 2).toInt64))) + (((llY (asX X) Y) 290 1) * (((asX X) 286 6).toInt64))) + (((llY (asX X) Y) 290 2) * (((asX X) 286 10).toInt64)))), (6, .int 2), (3, .int 0), (0, .ref (o + 285)), (1, .int 2), (2, .int 1)]) hx hb dX6_product_45 hl (by decide) rfl (fun ls hl => ?_)
  refine lv_iinc (v := 3) (lv' := [(6, .int 3), (4, .long (((0 + (((llY (asX X) Y) 290 0) * (((asX X) 286 2).toInt64))) + (((llY (asX X) Y) 290 1) * (((asX X) 286 6).toInt64))) + (((llY (asX X) Y) 290 2) * (((asX X) 286 10).toInt64)))), (3, .int 0), (0, .ref (o + 285)), (1, .int 2), (2, .int 1)]) hx hb dX6_product_47 hl (k := 1) rfl (by decide) (by decide) rfl (fun ls hl => ?_)
  refine lv_goto (tgt := 20) hx hb dX6_product_50 (by decide) ?_
  refine lv_iload hx hb dX6_product_20 (lv_at hl 0 rfl) ?_
  refine lv_iload_n hx hb dX6_product_22 rfl (lv_at hl 4 rfl) ?_
  refine lv_icmp_gt (tgt := 53) hx hb dX6_product_23 (by decide) (fun _ => ?_) (fun q => absurd (by decide) q)
  refine lv_lload hx hb dX6_product_53 (lv_at hl 1 rfl) ?_
  refine lv_bipush (v := 10) hx hb dX6_product_55 (by decide) ?_
  refine lv_aload_n hx hb dX6_product_57 rfl (lv_at hl 3 rfl) ?_
  refine x_get (k := 285) hE hK hI (by decide) inG6 (e_285 G o _ _) rfl 3 (by decide) mw_483 rfl dX6_product_58 ?_
  refine lv_iload_n hx hb dX6_product_61 rfl (lv_at hl 4 rfl) ?_
  refine x_iald (k := 289) (j := 2) hE hK hI (by decide) (e_289 G o) (by decide) (by decide) rfl dX6_product_62 ?_
  refine lv_isub hx hb dX6_product_63 ?_
  refine lv_i2l hx hb dX6_product_64 rfl ?_
  refine lv_lmul hx hb dX6_product_65 ?_
  refine lv_ldc2 hx hb hE.2.2.2.1 (hE.2.2.2.2 _ mw_555) dX6_product_66 ?_
  refine lv_aload_n hx hb dX6_product_69 rfl (lv_at hl 3 rfl) ?_
  refine x_get (k := 285) hE hK hI (by decide) inG6 (e_285 G o _ _) rfl 5 (by decide) mw_485 rfl dX6_product_70 ?_
  refine lv_lmul hx hb dX6_product_73 ?_
  refine lv_iload_n hx hb dX6_product_74 rfl (lv_at hl 5 rfl) ?_
  refine x_callSl hE hK hI (c_X6_part_1 l G o _ _ ((((0 + (((llY (asX X) Y) 290 0) * (((asX X) 286 2).toInt64))) + (((llY (asX X) Y) 290 1) * (((asX X) 286 6).toInt64))) + (((llY (asX X) Y) 290 2) * (((asX X) 286 10).toInt64))) * ((10 - ((asX X) 289 2)).toInt64)) (100 * ((llY (asX X) Y) 285 5)) hg0 hgk hg) mf_X6_part mw_556 rfl hl.1 rfl (Nat.le_of_ble_eq_true rfl) ⟨(Nat.le_of_ble_eq_true rfl), (Nat.le_of_ble_eq_true rfl)⟩ ⟨Nat.zero_le _, Nat.zero_le _⟩ dX6_product_75 (fun H locs hI => ?_)
  exact x_lret hE hr hlocks hI rfl rfl rfl dX6_product_78
set_option maxRecDepth 100000 in
set_option maxHeartbeats 4000000 in
theorem c_X6_product_y1_3 (l : Launch) (G : GG) (o : Nat) (X : SX) (Y : SY) (h : ¬ (llr (asX X) Y = 0)) (hg0 : 0 ≤ ((((0 + (((llY (asX X) Y) 290 0) * (((asX X) 286 3).toInt64))) + (((llY (asX X) Y) 290 1) * (((asX X) 286 7).toInt64))) + (((llY (asX X) Y) 290 2) * (((asX X) 286 11).toInt64))) + (((llY (asX X) Y) 290 3) * (((asX X) 286 15).toInt64))) * ((10 - ((asX X) 289 3)).toInt64)) (hgk : gok 100 (((((0 + (((llY (asX X) Y) 290 0) * (((asX X) 286 3).toInt64))) + (((llY (asX X) Y) 290 1) * (((asX X) 286 7).toInt64))) + (((llY (asX X) Y) 290 2) * (((asX X) 286 11).toInt64))) + (((llY (asX X) Y) 290 3) * (((asX X) 286 15).toInt64))) * ((10 - ((asX X) 289 3)).toInt64)) (100 * ((llY (asX X) Y) 285 5))) (hg : ¬ (gcdL 100 (((((0 + (((llY (asX X) Y) 290 0) * (((asX X) 286 3).toInt64))) + (((llY (asX X) Y) 290 1) * (((asX X) 286 7).toInt64))) + (((llY (asX X) Y) 290 2) * (((asX X) 286 11).toInt64))) + (((llY (asX X) Y) 290 3) * (((asX X) 286 15).toInt64))) * ((10 - ((asX X) 289 3)).toInt64)) (100 * ((llY (asX X) Y) 285 5)) = 0)) : Ct l yX6_product cX6_product 7 (some .long) 3 71 G o [.ref (o + 285), .int 3, .int 1] X Y (some (.long ((100 * ((llY (asX X) Y) 285 5)) / gcdL 100 (((((0 + (((llY (asX X) Y) 290 0) * (((asX X) 286 3).toInt64))) + (((llY (asX X) Y) 290 1) * (((asX X) 286 7).toInt64))) + (((llY (asX X) Y) 290 2) * (((asX X) 286 11).toInt64))) + (((llY (asX X) Y) 290 3) * (((asX X) 286 15).toInt64))) * ((10 - ((asX X) 289 3)).toInt64)) (100 * ((llY (asX X) Y) 285 5))))) (asX X) (llY (asX X) Y) := by
  refine Ct.mk (by decide +kernel) (Nat.le_of_ble_eq_true rfl) rfl ?_
  intro p9 e9 s9 m9 args9 below9 meth9 c9 hE hr hlocks hK hI ls hl
  have hx := hE.1
  have hb := hE.2.1
  have hl : lv_has ls 7 [(0, .ref (o + 285)), (1, .int 3), (2, .int 1)] := hl
  refine lv_aload_n hx hb dX6_product_0 rfl (lv_at hl 0 rfl) ?_
  refine lv_iload_n hx hb dX6_product_1 rfl (lv_at hl 1 rfl) ?_
  refine lv_iload_n hx hb dX6_product_2 rfl (lv_at hl 2 rfl) ?_
  refine x_callVi (k := 285) hE hK hI (c_X6_wrongSteady_y l G o _ _ 3 1 (by decide) (by decide) h) mf_X6_wrongSteady mw_540 (by decide) ((e_285 G o) _ _) rfl rfl hl.1 rfl (Nat.le_of_ble_eq_true rfl) ⟨(Nat.le_of_ble_eq_true rfl), (Nat.le_of_ble_eq_true rfl)⟩ ⟨Nat.zero_le _, Nat.zero_le _⟩ dX6_product_3 (fun H locs hI => ?_)
  refine lv_istore_n (lv' := [(3, .int 0), (0, .ref (o + 285)), (1, .int 3), (2, .int 1)]) hx hb dX6_product_6 rfl hl (by decide) rfl (fun ls hl => ?_)
  refine lv_iload_n hx hb dX6_product_7 rfl (lv_at hl 0 rfl) ?_
  refine lv_if_eq (tgt := 14) hx hb dX6_product_8 (by decide) (fun _ => ?_) (fun q => absurd (by decide) q)
  refine lv_lconst (v := 0) hx hb dX6_product_14 (by decide) ?_
  refine lv_lstore (lv' := [(4, .long 0), (3, .int 0), (0, .ref (o + 285)), (1, .int 3), (2, .int 1)]) hx hb dX6_product_15 hl (by decide) rfl (fun ls hl => ?_)
  refine lv_iconst (v := 0) hx hb dX6_product_17 (by decide) ?_
  refine lv_istore (lv' := [(6, .int 0), (4, .long 0), (3, .int 0), (0, .ref (o + 285)), (1, .int 3), (2, .int 1)]) hx hb dX6_product_18 hl (by decide) rfl (fun ls hl => ?_)
  refine lv_iload hx hb dX6_product_20 (lv_at hl 0 rfl) ?_
  refine lv_iload_n hx hb dX6_product_22 rfl (lv_at hl 4 rfl) ?_
  refine lv_icmp_gt (tgt := 53) hx hb dX6_product_23 (by decide) (fun q => absurd q (by decide)) (fun _ => ?_)
  refine lv_lload hx hb dX6_product_26 (lv_at hl 1 rfl) ?_
  refine lv_aload_n hx hb dX6_product_28 rfl (lv_at hl 3 rfl) ?_
  refine x_get (k := 285) hE hK hI (by decide) inG6 (e_285 G o _ _) rfl 4 (by decide) mw_484 rfl dX6_product_29 ?_
  refine lv_iload hx hb dX6_product_32 (lv_at hl 0 rfl) ?_
  refine x_lald (k := 290) (j := 0) hE hK hI (by decide) (e_290 G o) (by decide) (by decide) rfl dX6_product_34 ?_
  refine lv_aload_n hx hb dX6_product_35 rfl (lv_at hl 3 rfl) ?_
  refine lv_iload hx hb dX6_product_36 (lv_at hl 0 rfl) ?_
  refine lv_iload_n hx hb dX6_product_38 rfl (lv_at hl 4 rfl) ?_
  refine x_callVi (k := 285) hE hK hI (c_X6_shareOf_0_3 l G o _ _  ) mf_X6_shareOf mw_516 (by decide) ((e_285 G o) _ _) rfl rfl hl.1 rfl (Nat.le_of_ble_eq_true rfl) ⟨(Nat.le_of_ble_eq_true rfl), (Nat.le_of_ble_eq_true rfl)⟩ ⟨Nat.zero_le _, Nat.zero_le _⟩ dX6_product_39 (fun H locs hI => ?_)
  refine lv_i2l hx hb dX6_product_42 rfl ?_
  refine lv_lmul hx hb dX6_product_43 ?_
  refine lv_ladd hx hb dX6_product_44 ?_
  refine lv_lstore (lv' := [(4, .long (0 + (((llY (asX X) Y) 290 0) * (((asX X) 286 3).toInt64)))), (6, .int 0), (3, .int 0), (0, .ref (o + 285)), (1, .int 3), (2, .int 1)]) hx hb dX6_product_45 hl (by decide) rfl (fun ls hl => ?_)
  refine lv_iinc (v := 1) (lv' := [(6, .int 1), (4, .long (0 + (((llY (asX X) Y) 290 0) * (((asX X) 286 3).toInt64)))), (3, .int 0), (0, .ref (o + 285)), (1, .int 3), (2, .int 1)]) hx hb dX6_product_47 hl (k := 1) rfl (by decide) (by decide) rfl (fun ls hl => ?_)
  refine lv_goto (tgt := 20) hx hb dX6_product_50 (by decide) ?_
  refine lv_iload hx hb dX6_product_20 (lv_at hl 0 rfl) ?_
  refine lv_iload_n hx hb dX6_product_22 rfl (lv_at hl 4 rfl) ?_
  refine lv_icmp_gt (tgt := 53) hx hb dX6_product_23 (by decide) (fun q => absurd q (by decide)) (fun _ => ?_)
  refine lv_lload hx hb dX6_product_26 (lv_at hl 1 rfl) ?_
  refine lv_aload_n hx hb dX6_product_28 rfl (lv_at hl 3 rfl) ?_
  refine x_get (k := 285) hE hK hI (by decide) inG6 (e_285 G o _ _) rfl 4 (by decide) mw_484 rfl dX6_product_29 ?_
  refine lv_iload hx hb dX6_product_32 (lv_at hl 0 rfl) ?_
  refine x_lald (k := 290) (j := 1) hE hK hI (by decide) (e_290 G o) (by decide) (by decide) rfl dX6_product_34 ?_
  refine lv_aload_n hx hb dX6_product_35 rfl (lv_at hl 3 rfl) ?_
  refine lv_iload hx hb dX6_product_36 (lv_at hl 0 rfl) ?_
  refine lv_iload_n hx hb dX6_product_38 rfl (lv_at hl 4 rfl) ?_
  refine x_callVi (k := 285) hE hK hI (c_X6_shareOf_1_3 l G o _ _  ) mf_X6_shareOf mw_516 (by decide) ((e_285 G o) _ _) rfl rfl hl.1 rfl (Nat.le_of_ble_eq_true rfl) ⟨(Nat.le_of_ble_eq_true rfl), (Nat.le_of_ble_eq_true rfl)⟩ ⟨Nat.zero_le _, Nat.zero_le _⟩ dX6_product_39 (fun H locs hI => ?_)
  refine lv_i2l hx hb dX6_product_42 rfl ?_
  refine lv_lmul hx hb dX6_product_43 ?_
  refine lv_ladd hx hb dX6_product_44 ?_
  refine lv_lstore (lv' := [(4, .long ((0 + (((llY (asX X) Y) 290 0) * (((asX X) 286 3).toInt64))) + (((llY (asX X) Y) 290 1) * (((asX X) 286 7).toInt64)))), (6, .int 1), (3, .int 0), (0, .ref (o + 285)), (1, .int 3), (2, .int 1)]) hx hb dX6_product_45 hl (by decide) rfl (fun ls hl => ?_)
  refine lv_iinc (v := 2) (lv' := [(6, .int 2), (4, .long ((0 + (((llY (asX X) Y) 290 0) * (((asX X) 286 3).toInt64))) + (((llY (asX X) Y) 290 1) * (((asX X) 286 7).toInt64)))), (3, .int 0), (0, .ref (o + 285)), (1, .int 3), (2, .int 1)]) hx hb dX6_product_47 hl (k := 1) rfl (by decide) (by decide) rfl (fun ls hl => ?_)
  refine lv_goto (tgt := 20) hx hb dX6_product_50 (by decide) ?_
  refine lv_iload hx hb dX6_product_20 (lv_at hl 0 rfl) ?_
  refine lv_iload_n hx hb dX6_product_22 rfl (lv_at hl 4 rfl) ?_
  refine lv_icmp_gt (tgt := 53) hx hb dX6_product_23 (by decide) (fun q => absurd q (by decide)) (fun _ => ?_)
  refine lv_lload hx hb dX6_product_26 (lv_at hl 1 rfl) ?_
  refine lv_aload_n hx hb dX6_product_28 rfl (lv_at hl 3 rfl) ?_
  refine x_get (k := 285) hE hK hI (by decide) inG6 (e_285 G o _ _) rfl 4 (by decide) mw_484 rfl dX6_product_29 ?_
  refine lv_iload hx hb dX6_product_32 (lv_at hl 0 rfl) ?_
  refine x_lald (k := 290) (j := 2) hE hK hI (by decide) (e_290 G o) (by decide) (by decide) rfl dX6_product_34 ?_
  refine lv_aload_n hx hb dX6_product_35 rfl (lv_at hl 3 rfl) ?_
  refine lv_iload hx hb dX6_product_36 (lv_at hl 0 rfl) ?_
  refine lv_iload_n hx hb dX6_product_38 rfl (lv_at hl 4 rfl) ?_
  refine x_callVi (k := 285) hE hK hI (c_X6_shareOf_2_3 l G o _ _  ) mf_X6_shareOf mw_516 (by decide) ((e_285 G o) _ _) rfl rfl hl.1 rfl (Nat.le_of_ble_eq_true rfl) ⟨(Nat.le_of_ble_eq_true rfl), (Nat.le_of_ble_eq_true rfl)⟩ ⟨Nat.zero_le _, Nat.zero_le _⟩ dX6_product_39 (fun H locs hI => ?_)
  refine lv_i2l hx hb dX6_product_42 rfl ?_
  refine lv_lmul hx hb dX6_product_43 ?_
  refine lv_ladd hx hb dX6_product_44 ?_
  refine lv_lstore (lv' := [(4, .long (((0 + (((llY (asX X) Y) 290 0) * (((asX X) 286 3).toInt64))) + (((llY (asX X) Y) 290 1) * (((asX X) 286 7).toInt64))) + (((llY (asX X) Y) 290 2) * (((asX X) 286 11).toInt64)))), (6, .int 2), (3, .int 0), (0, .ref (o + 285)), (1, .int 3), (2, .int 1)]) hx hb dX6_product_45 hl (by decide) rfl (fun ls hl => ?_)
  refine lv_iinc (v := 3) (lv' := [(6, .int 3), (4, .long (((0 + (((llY (asX X) Y) 290 0) * (((asX X) 286 3).toInt64))) + (((llY (asX X) Y) 290 1) * (((asX X) 286 7).toInt64))) + (((llY (asX X) Y) 290 2) * (((asX X) 286 11).toInt64)))), (3, .int 0), (0, .ref (o + 285)), (1, .int 3), (2, .int 1)]) hx hb dX6_product_47 hl (k := 1) rfl (by decide) (by decide) rfl (fun ls hl => ?_)
  refine lv_goto (tgt := 20) hx hb dX6_product_50 (by decide) ?_
  refine lv_iload hx hb dX6_product_20 (lv_at hl 0 rfl) ?_
  refine lv_iload_n hx hb dX6_product_22 rfl (lv_at hl 4 rfl) ?_
  refine lv_icmp_gt (tgt := 53) hx hb dX6_product_23 (by decide) (fun q => absurd q (by decide)) (fun _ => ?_)
  refine lv_lload hx hb dX6_product_26 (lv_at hl 1 rfl) ?_
  refine lv_aload_n hx hb dX6_product_28 rfl (lv_at hl 3 rfl) ?_
  refine x_get (k := 285) hE hK hI (by decide) inG6 (e_285 G o _ _) rfl 4 (by decide) mw_484 rfl dX6_product_29 ?_
  refine lv_iload hx hb dX6_product_32 (lv_at hl 0 rfl) ?_
  refine x_lald (k := 290) (j := 3) hE hK hI (by decide) (e_290 G o) (by decide) (by decide) rfl dX6_product_34 ?_
  refine lv_aload_n hx hb dX6_product_35 rfl (lv_at hl 3 rfl) ?_
  refine lv_iload hx hb dX6_product_36 (lv_at hl 0 rfl) ?_
  refine lv_iload_n hx hb dX6_product_38 rfl (lv_at hl 4 rfl) ?_
  refine x_callVi (k := 285) hE hK hI (c_X6_shareOf_3_3 l G o _ _  ) mf_X6_shareOf mw_516 (by decide) ((e_285 G o) _ _) rfl rfl hl.1 rfl (Nat.le_of_ble_eq_true rfl) ⟨(Nat.le_of_ble_eq_true rfl), (Nat.le_of_ble_eq_true rfl)⟩ ⟨Nat.zero_le _, Nat.zero_le _⟩ dX6_product_39 (fun H locs hI => ?_)
  refine lv_i2l hx hb dX6_product_42 rfl ?_
  refine lv_lmul hx hb dX6_product_43 ?_
  refine lv_ladd hx hb dX6_product_44 ?_
  refine lv_lstore (lv' := [(4, .long ((((0 + (((llY (asX X) Y) 290 0) * (((asX X) 286 3).toInt64))) + (((llY (asX X) Y) 290 1) * (((asX X) 286 7).toInt64))) + (((llY (asX X) Y) 290 2) * (((asX X) 286 11).toInt64))) + (((llY (asX X) Y) 290 3) * (((asX X) 286 15).toInt64)))), (6, .int 3), (3, .int 0), (0, .ref (o + 285)), (1, .int 3), (2, .int 1)]) hx hb dX6_product_45 hl (by decide) rfl (fun ls hl => ?_)
  refine lv_iinc (v := 4) (lv' := [(6, .int 4), (4, .long ((((0 + (((llY (asX X) Y) 290 0) * (((asX X) 286 3).toInt64))) + (((llY (asX X) Y) 290 1) * (((asX X) 286 7).toInt64))) + (((llY (asX X) Y) 290 2) * (((asX X) 286 11).toInt64))) + (((llY (asX X) Y) 290 3) * (((asX X) 286 15).toInt64)))), (3, .int 0), (0, .ref (o + 285)), (1, .int 3), (2, .int 1)]) hx hb dX6_product_47 hl (k := 1) rfl (by decide) (by decide) rfl (fun ls hl => ?_)
  refine lv_goto (tgt := 20) hx hb dX6_product_50 (by decide) ?_
  refine lv_iload hx hb dX6_product_20 (lv_at hl 0 rfl) ?_
  refine lv_iload_n hx hb dX6_product_22 rfl (lv_at hl 4 rfl) ?_
  refine lv_icmp_gt (tgt := 53) hx hb dX6_product_23 (by decide) (fun _ => ?_) (fun q => absurd (by decide) q)
  refine lv_lload hx hb dX6_product_53 (lv_at hl 1 rfl) ?_
  refine lv_bipush (v := 10) hx hb dX6_product_55 (by decide) ?_
  refine lv_aload_n hx hb dX6_product_57 rfl (lv_at hl 3 rfl) ?_
  refine x_get (k := 285) hE hK hI (by decide) inG6 (e_285 G o _ _) rfl 3 (by decide) mw_483 rfl dX6_product_58 ?_
  refine lv_iload_n hx hb dX6_product_61 rfl (lv_at hl 4 rfl) ?_
  refine x_iald (k := 289) (j := 3) hE hK hI (by decide) (e_289 G o) (by decide) (by decide) rfl dX6_product_62 ?_
  refine lv_isub hx hb dX6_product_63 ?_
  refine lv_i2l hx hb dX6_product_64 rfl ?_
  refine lv_lmul hx hb dX6_product_65 ?_
  refine lv_ldc2 hx hb hE.2.2.2.1 (hE.2.2.2.2 _ mw_555) dX6_product_66 ?_
  refine lv_aload_n hx hb dX6_product_69 rfl (lv_at hl 3 rfl) ?_
  refine x_get (k := 285) hE hK hI (by decide) inG6 (e_285 G o _ _) rfl 5 (by decide) mw_485 rfl dX6_product_70 ?_
  refine lv_lmul hx hb dX6_product_73 ?_
  refine lv_iload_n hx hb dX6_product_74 rfl (lv_at hl 5 rfl) ?_
  refine x_callSl hE hK hI (c_X6_part_1 l G o _ _ (((((0 + (((llY (asX X) Y) 290 0) * (((asX X) 286 3).toInt64))) + (((llY (asX X) Y) 290 1) * (((asX X) 286 7).toInt64))) + (((llY (asX X) Y) 290 2) * (((asX X) 286 11).toInt64))) + (((llY (asX X) Y) 290 3) * (((asX X) 286 15).toInt64))) * ((10 - ((asX X) 289 3)).toInt64)) (100 * ((llY (asX X) Y) 285 5)) hg0 hgk hg) mf_X6_part mw_556 rfl hl.1 rfl (Nat.le_of_ble_eq_true rfl) ⟨(Nat.le_of_ble_eq_true rfl), (Nat.le_of_ble_eq_true rfl)⟩ ⟨Nat.zero_le _, Nat.zero_le _⟩ dX6_product_75 (fun H locs hI => ?_)
  exact x_lret hE hr hlocks hI rfl rfl rfl dX6_product_78
set_option maxRecDepth 100000 in
set_option maxHeartbeats 4000000 in
theorem c_X6_circulatingLoad_b (l : Launch) (G : GG) (o : Nat) (X : SX) (Y : SY) (v : Int32) (h : ¬ (Wi v 0 1)) : Ct l yX6_circulatingLoad cX6_circulatingLoad 8 (some .long) 3 64 G o [.ref (o + 285), .int v] X Y (some (.long (-3))) X Y := by
  refine Ct.mk (by decide +kernel) (Nat.le_of_ble_eq_true rfl) rfl ?_
  intro p9 e9 s9 m9 args9 below9 meth9 c9 hE hr hlocks hK hI ls hl
  have hx := hE.1
  have hb := hE.2.1
  have hl : lv_has ls 8 [(0, .ref (o + 285)), (1, .int v)] := hl
  refine lv_aload_n hx hb dX6_circulatingLoad_0 rfl (lv_at hl 0 rfl) ?_
  refine lv_iconst (v := 0) hx hb dX6_circulatingLoad_1 (by decide) ?_
  refine lv_iload_n hx hb dX6_circulatingLoad_2 rfl (lv_at hl 1 rfl) ?_
  refine x_callVi (k := 285) hE hK hI (c_X6_wrongSteady_b l G o _ _ 0 v (by decide) h) mf_X6_wrongSteady mw_540 (by decide) ((e_285 G o) _ _) rfl rfl hl.1 rfl (Nat.le_of_ble_eq_true rfl) ⟨(Nat.le_of_ble_eq_true rfl), (Nat.le_of_ble_eq_true rfl)⟩ ⟨Nat.zero_le _, Nat.zero_le _⟩ dX6_circulatingLoad_3 (fun H locs hI => ?_)
  refine lv_istore_n (lv' := [(2, .int (-3)), (0, .ref (o + 285)), (1, .int v)]) hx hb dX6_circulatingLoad_6 rfl hl (by decide) rfl (fun ls hl => ?_)
  refine lv_iload_n hx hb dX6_circulatingLoad_7 rfl (lv_at hl 0 rfl) ?_
  refine lv_if_eq (tgt := 14) hx hb dX6_circulatingLoad_8 (by decide) (fun q => absurd q (by decide)) (fun _ => ?_)
  refine lv_iload_n hx hb dX6_circulatingLoad_11 rfl (lv_at hl 0 rfl) ?_
  refine lv_i2l (v := (-3)) hx hb dX6_circulatingLoad_12 (by decide) ?_
  exact x_lret hE hr hlocks hI rfl rfl rfl dX6_circulatingLoad_13
set_option maxRecDepth 100000 in
set_option maxHeartbeats 4000000 in
theorem c_X6_circulatingLoad_n0 (l : Launch) (G : GG) (o : Nat) (X : SX) (Y : SY) (h : llr (asX X) Y = 0) : Ct l yX6_circulatingLoad cX6_circulatingLoad 8 (some .long) 3 71 G o [.ref (o + 285), .int 0] X Y (some (.long (-5))) (asX X) (llY (asX X) Y) := by
  refine Ct.mk (by decide +kernel) (Nat.le_of_ble_eq_true rfl) rfl ?_
  intro p9 e9 s9 m9 args9 below9 meth9 c9 hE hr hlocks hK hI ls hl
  have hx := hE.1
  have hb := hE.2.1
  have hl : lv_has ls 8 [(0, .ref (o + 285)), (1, .int 0)] := hl
  refine lv_aload_n hx hb dX6_circulatingLoad_0 rfl (lv_at hl 0 rfl) ?_
  refine lv_iconst (v := 0) hx hb dX6_circulatingLoad_1 (by decide) ?_
  refine lv_iload_n hx hb dX6_circulatingLoad_2 rfl (lv_at hl 1 rfl) ?_
  refine x_callVi (k := 285) hE hK hI (c_X6_wrongSteady_n l G o _ _ 0 0 (by decide) (by decide) h) mf_X6_wrongSteady mw_540 (by decide) ((e_285 G o) _ _) rfl rfl hl.1 rfl (Nat.le_of_ble_eq_true rfl) ⟨(Nat.le_of_ble_eq_true rfl), (Nat.le_of_ble_eq_true rfl)⟩ ⟨Nat.zero_le _, Nat.zero_le _⟩ dX6_circulatingLoad_3 (fun H locs hI => ?_)
  refine lv_istore_n (lv' := [(2, .int (-5)), (0, .ref (o + 285)), (1, .int 0)]) hx hb dX6_circulatingLoad_6 rfl hl (by decide) rfl (fun ls hl => ?_)
  refine lv_iload_n hx hb dX6_circulatingLoad_7 rfl (lv_at hl 0 rfl) ?_
  refine lv_if_eq (tgt := 14) hx hb dX6_circulatingLoad_8 (by decide) (fun q => absurd q (by decide)) (fun _ => ?_)
  refine lv_iload_n hx hb dX6_circulatingLoad_11 rfl (lv_at hl 0 rfl) ?_
  refine lv_i2l (v := (-5)) hx hb dX6_circulatingLoad_12 (by decide) ?_
  exact x_lret hE hr hlocks hI rfl rfl rfl dX6_circulatingLoad_13
set_option maxRecDepth 100000 in
set_option maxHeartbeats 4000000 in
theorem c_X6_circulatingLoad_n1 (l : Launch) (G : GG) (o : Nat) (X : SX) (Y : SY) (h : llr (asX X) Y = 0) : Ct l yX6_circulatingLoad cX6_circulatingLoad 8 (some .long) 3 71 G o [.ref (o + 285), .int 1] X Y (some (.long (-5))) (asX X) (llY (asX X) Y) := by
  refine Ct.mk (by decide +kernel) (Nat.le_of_ble_eq_true rfl) rfl ?_
  intro p9 e9 s9 m9 args9 below9 meth9 c9 hE hr hlocks hK hI ls hl
  have hx := hE.1
  have hb := hE.2.1
  have hl : lv_has ls 8 [(0, .ref (o + 285)), (1, .int 1)] := hl
  refine lv_aload_n hx hb dX6_circulatingLoad_0 rfl (lv_at hl 0 rfl) ?_
  refine lv_iconst (v := 0) hx hb dX6_circulatingLoad_1 (by decide) ?_
  refine lv_iload_n hx hb dX6_circulatingLoad_2 rfl (lv_at hl 1 rfl) ?_
  refine x_callVi (k := 285) hE hK hI (c_X6_wrongSteady_n l G o _ _ 0 1 (by decide) (by decide) h) mf_X6_wrongSteady mw_540 (by decide) ((e_285 G o) _ _) rfl rfl hl.1 rfl (Nat.le_of_ble_eq_true rfl) ⟨(Nat.le_of_ble_eq_true rfl), (Nat.le_of_ble_eq_true rfl)⟩ ⟨Nat.zero_le _, Nat.zero_le _⟩ dX6_circulatingLoad_3 (fun H locs hI => ?_)
  refine lv_istore_n (lv' := [(2, .int (-5)), (0, .ref (o + 285)), (1, .int 1)]) hx hb dX6_circulatingLoad_6 rfl hl (by decide) rfl (fun ls hl => ?_)
  refine lv_iload_n hx hb dX6_circulatingLoad_7 rfl (lv_at hl 0 rfl) ?_
  refine lv_if_eq (tgt := 14) hx hb dX6_circulatingLoad_8 (by decide) (fun q => absurd q (by decide)) (fun _ => ?_)
  refine lv_iload_n hx hb dX6_circulatingLoad_11 rfl (lv_at hl 0 rfl) ?_
  refine lv_i2l (v := (-5)) hx hb dX6_circulatingLoad_12 (by decide) ?_
  exact x_lret hE hr hlocks hI rfl rfl rfl dX6_circulatingLoad_13
set_option maxRecDepth 100000 in
set_option maxHeartbeats 4000000 in
theorem c_X6_power_b (l : Launch) (G : GG) (o : Nat) (X : SX) (Y : SY) (v : Int32) (h : ¬ (Wi v 0 1)) : Ct l yX6_power cX6_power 3 (some .long) 3 64 G o [.ref (o + 285), .int v] X Y (some (.long (-3))) X Y := by
  refine Ct.mk (by decide +kernel) (Nat.le_of_ble_eq_true rfl) rfl ?_
  intro p9 e9 s9 m9 args9 below9 meth9 c9 hE hr hlocks hK hI ls hl
  have hx := hE.1
  have hb := hE.2.1
  have hl : lv_has ls 3 [(0, .ref (o + 285)), (1, .int v)] := hl
  refine lv_aload_n hx hb dX6_power_0 rfl (lv_at hl 0 rfl) ?_
  refine lv_iconst (v := 0) hx hb dX6_power_1 (by decide) ?_
  refine lv_iload_n hx hb dX6_power_2 rfl (lv_at hl 1 rfl) ?_
  refine x_callVi (k := 285) hE hK hI (c_X6_wrongSteady_b l G o _ _ 0 v (by decide) h) mf_X6_wrongSteady mw_540 (by decide) ((e_285 G o) _ _) rfl rfl hl.1 rfl (Nat.le_of_ble_eq_true rfl) ⟨(Nat.le_of_ble_eq_true rfl), (Nat.le_of_ble_eq_true rfl)⟩ ⟨Nat.zero_le _, Nat.zero_le _⟩ dX6_power_3 (fun H locs hI => ?_)
  refine lv_istore_n (lv' := [(2, .int (-3)), (0, .ref (o + 285)), (1, .int v)]) hx hb dX6_power_6 rfl hl (by decide) rfl (fun ls hl => ?_)
  refine lv_iload_n hx hb dX6_power_7 rfl (lv_at hl 0 rfl) ?_
  refine lv_if_eq (tgt := 16) hx hb dX6_power_8 (by decide) (fun q => absurd q (by decide)) (fun _ => ?_)
  refine lv_iload_n hx hb dX6_power_11 rfl (lv_at hl 0 rfl) ?_
  refine lv_i2l (v := (-3)) hx hb dX6_power_12 (by decide) ?_
  refine lv_goto (tgt := 28) hx hb dX6_power_13 (by decide) ?_
  exact x_lret hE hr hlocks hI rfl rfl rfl dX6_power_28
set_option maxRecDepth 100000 in
set_option maxHeartbeats 4000000 in
theorem c_X6_power_n0 (l : Launch) (G : GG) (o : Nat) (X : SX) (Y : SY) (h : llr (asX X) Y = 0) : Ct l yX6_power cX6_power 3 (some .long) 3 71 G o [.ref (o + 285), .int 0] X Y (some (.long (-5))) (asX X) (llY (asX X) Y) := by
  refine Ct.mk (by decide +kernel) (Nat.le_of_ble_eq_true rfl) rfl ?_
  intro p9 e9 s9 m9 args9 below9 meth9 c9 hE hr hlocks hK hI ls hl
  have hx := hE.1
  have hb := hE.2.1
  have hl : lv_has ls 3 [(0, .ref (o + 285)), (1, .int 0)] := hl
  refine lv_aload_n hx hb dX6_power_0 rfl (lv_at hl 0 rfl) ?_
  refine lv_iconst (v := 0) hx hb dX6_power_1 (by decide) ?_
  refine lv_iload_n hx hb dX6_power_2 rfl (lv_at hl 1 rfl) ?_
  refine x_callVi (k := 285) hE hK hI (c_X6_wrongSteady_n l G o _ _ 0 0 (by decide) (by decide) h) mf_X6_wrongSteady mw_540 (by decide) ((e_285 G o) _ _) rfl rfl hl.1 rfl (Nat.le_of_ble_eq_true rfl) ⟨(Nat.le_of_ble_eq_true rfl), (Nat.le_of_ble_eq_true rfl)⟩ ⟨Nat.zero_le _, Nat.zero_le _⟩ dX6_power_3 (fun H locs hI => ?_)
  refine lv_istore_n (lv' := [(2, .int (-5)), (0, .ref (o + 285)), (1, .int 0)]) hx hb dX6_power_6 rfl hl (by decide) rfl (fun ls hl => ?_)
  refine lv_iload_n hx hb dX6_power_7 rfl (lv_at hl 0 rfl) ?_
  refine lv_if_eq (tgt := 16) hx hb dX6_power_8 (by decide) (fun q => absurd q (by decide)) (fun _ => ?_)
  refine lv_iload_n hx hb dX6_power_11 rfl (lv_at hl 0 rfl) ?_
  refine lv_i2l (v := (-5)) hx hb dX6_power_12 (by decide) ?_
  refine lv_goto (tgt := 28) hx hb dX6_power_13 (by decide) ?_
  exact x_lret hE hr hlocks hI rfl rfl rfl dX6_power_28
set_option maxRecDepth 100000 in
set_option maxHeartbeats 4000000 in
theorem c_X6_power_n1 (l : Launch) (G : GG) (o : Nat) (X : SX) (Y : SY) (h : llr (asX X) Y = 0) : Ct l yX6_power cX6_power 3 (some .long) 3 71 G o [.ref (o + 285), .int 1] X Y (some (.long (-5))) (asX X) (llY (asX X) Y) := by
  refine Ct.mk (by decide +kernel) (Nat.le_of_ble_eq_true rfl) rfl ?_
  intro p9 e9 s9 m9 args9 below9 meth9 c9 hE hr hlocks hK hI ls hl
  have hx := hE.1
  have hb := hE.2.1
  have hl : lv_has ls 3 [(0, .ref (o + 285)), (1, .int 1)] := hl
  refine lv_aload_n hx hb dX6_power_0 rfl (lv_at hl 0 rfl) ?_
  refine lv_iconst (v := 0) hx hb dX6_power_1 (by decide) ?_
  refine lv_iload_n hx hb dX6_power_2 rfl (lv_at hl 1 rfl) ?_
  refine x_callVi (k := 285) hE hK hI (c_X6_wrongSteady_n l G o _ _ 0 1 (by decide) (by decide) h) mf_X6_wrongSteady mw_540 (by decide) ((e_285 G o) _ _) rfl rfl hl.1 rfl (Nat.le_of_ble_eq_true rfl) ⟨(Nat.le_of_ble_eq_true rfl), (Nat.le_of_ble_eq_true rfl)⟩ ⟨Nat.zero_le _, Nat.zero_le _⟩ dX6_power_3 (fun H locs hI => ?_)
  refine lv_istore_n (lv' := [(2, .int (-5)), (0, .ref (o + 285)), (1, .int 1)]) hx hb dX6_power_6 rfl hl (by decide) rfl (fun ls hl => ?_)
  refine lv_iload_n hx hb dX6_power_7 rfl (lv_at hl 0 rfl) ?_
  refine lv_if_eq (tgt := 16) hx hb dX6_power_8 (by decide) (fun q => absurd q (by decide)) (fun _ => ?_)
  refine lv_iload_n hx hb dX6_power_11 rfl (lv_at hl 0 rfl) ?_
  refine lv_i2l (v := (-5)) hx hb dX6_power_12 (by decide) ?_
  refine lv_goto (tgt := 28) hx hb dX6_power_13 (by decide) ?_
  exact x_lret hE hr hlocks hI rfl rfl rfl dX6_power_28
set_option maxRecDepth 100000 in
set_option maxHeartbeats 4000000 in
theorem c_X6_circulatingLoad_z0 (l : Launch) (G : GG) (o : Nat) (X : SX) (Y : SY) (h : ¬ (llr (asX X) Y = 0)) (hz : ((((0 + (((asX X) 286 24).toInt64)) + (((asX X) 286 25).toInt64)) + (((asX X) 286 26).toInt64)) + (((asX X) 286 27).toInt64)) = 0) : Ct l yX6_circulatingLoad cX6_circulatingLoad 8 (some .long) 3 71 G o [.ref (o + 285), .int 0] X Y (some (.long (-7))) (asX X) (llY (asX X) Y) := by
  refine Ct.mk (by decide +kernel) (Nat.le_of_ble_eq_true rfl) rfl ?_
  intro p9 e9 s9 m9 args9 below9 meth9 c9 hE hr hlocks hK hI ls hl
  have hx := hE.1
  have hb := hE.2.1
  have hl : lv_has ls 8 [(0, .ref (o + 285)), (1, .int 0)] := hl
  refine lv_aload_n hx hb dX6_circulatingLoad_0 rfl (lv_at hl 0 rfl) ?_
  refine lv_iconst (v := 0) hx hb dX6_circulatingLoad_1 (by decide) ?_
  refine lv_iload_n hx hb dX6_circulatingLoad_2 rfl (lv_at hl 1 rfl) ?_
  refine x_callVi (k := 285) hE hK hI (c_X6_wrongSteady_y l G o _ _ 0 0 (by decide) (by decide) h) mf_X6_wrongSteady mw_540 (by decide) ((e_285 G o) _ _) rfl rfl hl.1 rfl (Nat.le_of_ble_eq_true rfl) ⟨(Nat.le_of_ble_eq_true rfl), (Nat.le_of_ble_eq_true rfl)⟩ ⟨Nat.zero_le _, Nat.zero_le _⟩ dX6_circulatingLoad_3 (fun H locs hI => ?_)
  refine lv_istore_n (lv' := [(2, .int 0), (0, .ref (o + 285)), (1, .int 0)]) hx hb dX6_circulatingLoad_6 rfl hl (by decide) rfl (fun ls hl => ?_)
  refine lv_iload_n hx hb dX6_circulatingLoad_7 rfl (lv_at hl 0 rfl) ?_
  refine lv_if_eq (tgt := 14) hx hb dX6_circulatingLoad_8 (by decide) (fun _ => ?_) (fun q => absurd (by decide) q)
  refine lv_lconst (v := 0) hx hb dX6_circulatingLoad_14 (by decide) ?_
  refine lv_lstore_n (lv' := [(3, .long 0), (2, .int 0), (0, .ref (o + 285)), (1, .int 0)]) hx hb dX6_circulatingLoad_15 rfl hl (by decide) rfl (fun ls hl => ?_)
  refine lv_lconst (v := 0) hx hb dX6_circulatingLoad_16 (by decide) ?_
  refine lv_lstore (lv' := [(5, .long 0), (3, .long 0), (2, .int 0), (0, .ref (o + 285)), (1, .int 0)]) hx hb dX6_circulatingLoad_17 hl (by decide) rfl (fun ls hl => ?_)
  refine lv_iconst (v := 0) hx hb dX6_circulatingLoad_19 (by decide) ?_
  refine lv_istore (lv' := [(7, .int 0), (5, .long 0), (3, .long 0), (2, .int 0), (0, .ref (o + 285)), (1, .int 0)]) hx hb dX6_circulatingLoad_20 hl (by decide) rfl (fun ls hl => ?_)
  refine lv_iload hx hb dX6_circulatingLoad_22 (lv_at hl 0 rfl) ?_
  refine lv_iconst (v := 4) hx hb dX6_circulatingLoad_24 (by decide) ?_
  refine lv_icmp_ge (tgt := 60) hx hb dX6_circulatingLoad_25 (by decide) (fun q => absurd q (by decide)) (fun _ => ?_)
  refine lv_lload_n hx hb dX6_circulatingLoad_28 rfl (lv_at hl 2 rfl) ?_
  refine lv_aload_n hx hb dX6_circulatingLoad_29 rfl (lv_at hl 4 rfl) ?_
  refine x_get (k := 285) hE hK hI (by decide) inG6 (e_285 G o _ _) rfl 4 (by decide) mw_484 rfl dX6_circulatingLoad_30 ?_
  refine lv_iload hx hb dX6_circulatingLoad_33 (lv_at hl 0 rfl) ?_
  refine x_lald (k := 290) (j := 0) hE hK hI (by decide) (e_290 G o) (by decide) (by decide) rfl dX6_circulatingLoad_35 ?_
  refine lv_ladd hx hb dX6_circulatingLoad_36 ?_
  refine lv_lstore_n (lv' := [(3, .long (0 + ((llY (asX X) Y) 290 0))), (7, .int 0), (5, .long 0), (2, .int 0), (0, .ref (o + 285)), (1, .int 0)]) hx hb dX6_circulatingLoad_37 rfl hl (by decide) rfl (fun ls hl => ?_)
  refine lv_lload hx hb dX6_circulatingLoad_38 (lv_at hl 2 rfl) ?_
  refine lv_aload_n hx hb dX6_circulatingLoad_40 rfl (lv_at hl 4 rfl) ?_
  refine x_get (k := 285) hE hK hI (by decide) inG6 (e_285 G o _ _) rfl 0 (by decide) mw_480 rfl dX6_circulatingLoad_41 ?_
  refine lv_bipush (v := 24) hx hb dX6_circulatingLoad_44 (by decide) ?_
  refine lv_iload hx hb dX6_circulatingLoad_46 (lv_at hl 1 rfl) ?_
  refine lv_iadd hx hb dX6_circulatingLoad_48 ?_
  refine lv_topi (fun z1 ez1 => ?_)
  obtain rfl : 24 = z1 := (ez1.trans (by decide)).symm
  refine x_iald (k := 286) (j := 24) hE hK hI (by decide) (e_286 G o) (by decide) (by decide) rfl dX6_circulatingLoad_49 ?_
  refine lv_i2l hx hb dX6_circulatingLoad_50 rfl ?_
  refine lv_ladd hx hb dX6_circulatingLoad_51 ?_
  refine lv_lstore (lv' := [(5, .long (0 + (((asX X) 286 24).toInt64))), (3, .long (0 + ((llY (asX X) Y) 290 0))), (7, .int 0), (2, .int 0), (0, .ref (o + 285)), (1, .int 0)]) hx hb dX6_circulatingLoad_52 hl (by decide) rfl (fun ls hl => ?_)
  refine lv_iinc (v := 1) (lv' := [(7, .int 1), (5, .long (0 + (((asX X) 286 24).toInt64))), (3, .long (0 + ((llY (asX X) Y) 290 0))), (2, .int 0), (0, .ref (o + 285)), (1, .int 0)]) hx hb dX6_circulatingLoad_54 hl (k := 2) rfl (by decide) (by decide) rfl (fun ls hl => ?_)
  refine lv_goto (tgt := 22) hx hb dX6_circulatingLoad_57 (by decide) ?_
  refine lv_iload hx hb dX6_circulatingLoad_22 (lv_at hl 0 rfl) ?_
  refine lv_iconst (v := 4) hx hb dX6_circulatingLoad_24 (by decide) ?_
  refine lv_icmp_ge (tgt := 60) hx hb dX6_circulatingLoad_25 (by decide) (fun q => absurd q (by decide)) (fun _ => ?_)
  refine lv_lload_n hx hb dX6_circulatingLoad_28 rfl (lv_at hl 2 rfl) ?_
  refine lv_aload_n hx hb dX6_circulatingLoad_29 rfl (lv_at hl 4 rfl) ?_
  refine x_get (k := 285) hE hK hI (by decide) inG6 (e_285 G o _ _) rfl 4 (by decide) mw_484 rfl dX6_circulatingLoad_30 ?_
  refine lv_iload hx hb dX6_circulatingLoad_33 (lv_at hl 0 rfl) ?_
  refine x_lald (k := 290) (j := 1) hE hK hI (by decide) (e_290 G o) (by decide) (by decide) rfl dX6_circulatingLoad_35 ?_
  refine lv_ladd hx hb dX6_circulatingLoad_36 ?_
  refine lv_lstore_n (lv' := [(3, .long ((0 + ((llY (asX X) Y) 290 0)) + ((llY (asX X) Y) 290 1))), (7, .int 1), (5, .long (0 + (((asX X) 286 24).toInt64))), (2, .int 0), (0, .ref (o + 285)), (1, .int 0)]) hx hb dX6_circulatingLoad_37 rfl hl (by decide) rfl (fun ls hl => ?_)
  refine lv_lload hx hb dX6_circulatingLoad_38 (lv_at hl 2 rfl) ?_
  refine lv_aload_n hx hb dX6_circulatingLoad_40 rfl (lv_at hl 4 rfl) ?_
  refine x_get (k := 285) hE hK hI (by decide) inG6 (e_285 G o _ _) rfl 0 (by decide) mw_480 rfl dX6_circulatingLoad_41 ?_
  refine lv_bipush (v := 24) hx hb dX6_circulatingLoad_44 (by decide) ?_
  refine lv_iload hx hb dX6_circulatingLoad_46 (lv_at hl 1 rfl) ?_
  refine lv_iadd hx hb dX6_circulatingLoad_48 ?_
  refine lv_topi (fun z2 ez2 => ?_)
  obtain rfl : 25 = z2 := (ez2.trans (by decide)).symm
  refine x_iald (k := 286) (j := 25) hE hK hI (by decide) (e_286 G o) (by decide) (by decide) rfl dX6_circulatingLoad_49 ?_
  refine lv_i2l hx hb dX6_circulatingLoad_50 rfl ?_
  refine lv_ladd hx hb dX6_circulatingLoad_51 ?_
  refine lv_lstore (lv' := [(5, .long ((0 + (((asX X) 286 24).toInt64)) + (((asX X) 286 25).toInt64))), (3, .long ((0 + ((llY (asX X) Y) 290 0)) + ((llY (asX X) Y) 290 1))), (7, .int 1), (2, .int 0), (0, .ref (o + 285)), (1, .int 0)]) hx hb dX6_circulatingLoad_52 hl (by decide) rfl (fun ls hl => ?_)
  refine lv_iinc (v := 2) (lv' := [(7, .int 2), (5, .long ((0 + (((asX X) 286 24).toInt64)) + (((asX X) 286 25).toInt64))), (3, .long ((0 + ((llY (asX X) Y) 290 0)) + ((llY (asX X) Y) 290 1))), (2, .int 0), (0, .ref (o + 285)), (1, .int 0)]) hx hb dX6_circulatingLoad_54 hl (k := 2) rfl (by decide) (by decide) rfl (fun ls hl => ?_)
  refine lv_goto (tgt := 22) hx hb dX6_circulatingLoad_57 (by decide) ?_
  refine lv_iload hx hb dX6_circulatingLoad_22 (lv_at hl 0 rfl) ?_
  refine lv_iconst (v := 4) hx hb dX6_circulatingLoad_24 (by decide) ?_
  refine lv_icmp_ge (tgt := 60) hx hb dX6_circulatingLoad_25 (by decide) (fun q => absurd q (by decide)) (fun _ => ?_)
  refine lv_lload_n hx hb dX6_circulatingLoad_28 rfl (lv_at hl 2 rfl) ?_
  refine lv_aload_n hx hb dX6_circulatingLoad_29 rfl (lv_at hl 4 rfl) ?_
  refine x_get (k := 285) hE hK hI (by decide) inG6 (e_285 G o _ _) rfl 4 (by decide) mw_484 rfl dX6_circulatingLoad_30 ?_
  refine lv_iload hx hb dX6_circulatingLoad_33 (lv_at hl 0 rfl) ?_
  refine x_lald (k := 290) (j := 2) hE hK hI (by decide) (e_290 G o) (by decide) (by decide) rfl dX6_circulatingLoad_35 ?_
  refine lv_ladd hx hb dX6_circulatingLoad_36 ?_
  refine lv_lstore_n (lv' := [(3, .long (((0 + ((llY (asX X) Y) 290 0)) + ((llY (asX X) Y) 290 1)) + ((llY (asX X) Y) 290 2))), (7, .int 2), (5, .long ((0 + (((asX X) 286 24).toInt64)) + (((asX X) 286 25).toInt64))), (2, .int 0), (0, .ref (o + 285)), (1, .int 0)]) hx hb dX6_circulatingLoad_37 rfl hl (by decide) rfl (fun ls hl => ?_)
  refine lv_lload hx hb dX6_circulatingLoad_38 (lv_at hl 2 rfl) ?_
  refine lv_aload_n hx hb dX6_circulatingLoad_40 rfl (lv_at hl 4 rfl) ?_
  refine x_get (k := 285) hE hK hI (by decide) inG6 (e_285 G o _ _) rfl 0 (by decide) mw_480 rfl dX6_circulatingLoad_41 ?_
  refine lv_bipush (v := 24) hx hb dX6_circulatingLoad_44 (by decide) ?_
  refine lv_iload hx hb dX6_circulatingLoad_46 (lv_at hl 1 rfl) ?_
  refine lv_iadd hx hb dX6_circulatingLoad_48 ?_
  refine lv_topi (fun z3 ez3 => ?_)
  obtain rfl : 26 = z3 := (ez3.trans (by decide)).symm
  refine x_iald (k := 286) (j := 26) hE hK hI (by decide) (e_286 G o) (by decide) (by decide) rfl dX6_circulatingLoad_49 ?_
  refine lv_i2l hx hb dX6_circulatingLoad_50 rfl ?_
  refine lv_ladd hx hb dX6_circulatingLoad_51 ?_
  refine lv_lstore (lv' := [(5, .long (((0 + (((asX X) 286 24).toInt64)) + (((asX X) 286 25).toInt64)) + (((asX X) 286 26).toInt64))), (3, .long (((0 + ((llY (asX X) Y) 290 0)) + ((llY (asX X) Y) 290 1)) + ((llY (asX X) Y) 290 2))), (7, .int 2), (2, .int 0), (0, .ref (o + 285)), (1, .int 0)]) hx hb dX6_circulatingLoad_52 hl (by decide) rfl (fun ls hl => ?_)
  refine lv_iinc (v := 3) (lv' := [(7, .int 3), (5, .long (((0 + (((asX X) 286 24).toInt64)) + (((asX X) 286 25).toInt64)) + (((asX X) 286 26).toInt64))), (3, .long (((0 + ((llY (asX X) Y) 290 0)) + ((llY (asX X) Y) 290 1)) + ((llY (asX X) Y) 290 2))), (2, .int 0), (0, .ref (o + 285)), (1, .int 0)]) hx hb dX6_circulatingLoad_54 hl (k := 2) rfl (by decide) (by decide) rfl (fun ls hl => ?_)
  refine lv_goto (tgt := 22) hx hb dX6_circulatingLoad_57 (by decide) ?_
  refine lv_iload hx hb dX6_circulatingLoad_22 (lv_at hl 0 rfl) ?_
  refine lv_iconst (v := 4) hx hb dX6_circulatingLoad_24 (by decide) ?_
  refine lv_icmp_ge (tgt := 60) hx hb dX6_circulatingLoad_25 (by decide) (fun q => absurd q (by decide)) (fun _ => ?_)
  refine lv_lload_n hx hb dX6_circulatingLoad_28 rfl (lv_at hl 2 rfl) ?_
  refine lv_aload_n hx hb dX6_circulatingLoad_29 rfl (lv_at hl 4 rfl) ?_
  refine x_get (k := 285) hE hK hI (by decide) inG6 (e_285 G o _ _) rfl 4 (by decide) mw_484 rfl dX6_circulatingLoad_30 ?_
  refine lv_iload hx hb dX6_circulatingLoad_33 (lv_at hl 0 rfl) ?_
  refine x_lald (k := 290) (j := 3) hE hK hI (by decide) (e_290 G o) (by decide) (by decide) rfl dX6_circulatingLoad_35 ?_
  refine lv_ladd hx hb dX6_circulatingLoad_36 ?_
  refine lv_lstore_n (lv' := [(3, .long ((((0 + ((llY (asX X) Y) 290 0)) + ((llY (asX X) Y) 290 1)) + ((llY (asX X) Y) 290 2)) + ((llY (asX X) Y) 290 3))), (7, .int 3), (5, .long (((0 + (((asX X) 286 24).toInt64)) + (((asX X) 286 25).toInt64)) + (((asX X) 286 26).toInt64))), (2, .int 0), (0, .ref (o + 285)), (1, .int 0)]) hx hb dX6_circulatingLoad_37 rfl hl (by decide) rfl (fun ls hl => ?_)
  refine lv_lload hx hb dX6_circulatingLoad_38 (lv_at hl 2 rfl) ?_
  refine lv_aload_n hx hb dX6_circulatingLoad_40 rfl (lv_at hl 4 rfl) ?_
  refine x_get (k := 285) hE hK hI (by decide) inG6 (e_285 G o _ _) rfl 0 (by decide) mw_480 rfl dX6_circulatingLoad_41 ?_
  refine lv_bipush (v := 24) hx hb dX6_circulatingLoad_44 (by decide) ?_
  refine lv_iload hx hb dX6_circulatingLoad_46 (lv_at hl 1 rfl) ?_
  refine lv_iadd hx hb dX6_circulatingLoad_48 ?_
  refine lv_topi (fun z4 ez4 => ?_)
  obtain rfl : 27 = z4 := (ez4.trans (by decide)).symm
  refine x_iald (k := 286) (j := 27) hE hK hI (by decide) (e_286 G o) (by decide) (by decide) rfl dX6_circulatingLoad_49 ?_
  refine lv_i2l hx hb dX6_circulatingLoad_50 rfl ?_
  refine lv_ladd hx hb dX6_circulatingLoad_51 ?_
  refine lv_lstore (lv' := [(5, .long ((((0 + (((asX X) 286 24).toInt64)) + (((asX X) 286 25).toInt64)) + (((asX X) 286 26).toInt64)) + (((asX X) 286 27).toInt64))), (3, .long ((((0 + ((llY (asX X) Y) 290 0)) + ((llY (asX X) Y) 290 1)) + ((llY (asX X) Y) 290 2)) + ((llY (asX X) Y) 290 3))), (7, .int 3), (2, .int 0), (0, .ref (o + 285)), (1, .int 0)]) hx hb dX6_circulatingLoad_52 hl (by decide) rfl (fun ls hl => ?_)
  refine lv_iinc (v := 4) (lv' := [(7, .int 4), (5, .long ((((0 + (((asX X) 286 24).toInt64)) + (((asX X) 286 25).toInt64)) + (((asX X) 286 26).toInt64)) + (((asX X) 286 27).toInt64))), (3, .long ((((0 + ((llY (asX X) Y) 290 0)) + ((llY (asX X) Y) 290 1)) + ((llY (asX X) Y) 290 2)) + ((llY (asX X) Y) 290 3))), (2, .int 0), (0, .ref (o + 285)), (1, .int 0)]) hx hb dX6_circulatingLoad_54 hl (k := 2) rfl (by decide) (by decide) rfl (fun ls hl => ?_)
  refine lv_goto (tgt := 22) hx hb dX6_circulatingLoad_57 (by decide) ?_
  refine lv_iload hx hb dX6_circulatingLoad_22 (lv_at hl 0 rfl) ?_
  refine lv_iconst (v := 4) hx hb dX6_circulatingLoad_24 (by decide) ?_
  refine lv_icmp_ge (tgt := 60) hx hb dX6_circulatingLoad_25 (by decide) (fun _ => ?_) (fun q => absurd (by decide) q)
  refine lv_lload hx hb dX6_circulatingLoad_60 (lv_at hl 1 rfl) ?_
  refine lv_lconst (v := 0) hx hb dX6_circulatingLoad_62 (by decide) ?_
  refine W.lcmp hx hb dX6_circulatingLoad_63 ?_
  refine lv_if_ne (tgt := 73) hx hb dX6_circulatingLoad_64 (by decide) (fun q => absurd ((lg_cmp_eq _ _).mpr hz) q) (fun _ => ?_)
  refine lv_ldc2 hx hb hE.2.2.2.1 (hE.2.2.2.2 _ mw_567) dX6_circulatingLoad_67 ?_
  refine lv_goto (tgt := 93) hx hb dX6_circulatingLoad_70 (by decide) ?_
  exact x_lret hE hr hlocks hI rfl rfl rfl dX6_circulatingLoad_93
set_option maxRecDepth 100000 in
set_option maxHeartbeats 4000000 in
theorem c_X6_circulatingLoad_y0 (l : Launch) (G : GG) (o : Nat) (X : SX) (Y : SY) (h : ¬ (llr (asX X) Y = 0)) (hz : ¬ (((((0 + (((asX X) 286 24).toInt64)) + (((asX X) 286 25).toInt64)) + (((asX X) 286 26).toInt64)) + (((asX X) 286 27).toInt64)) = 0)) (hg0 : 0 ≤ ((((0 + ((llY (asX X) Y) 290 0)) + ((llY (asX X) Y) 290 1)) + ((llY (asX X) Y) 290 2)) + ((llY (asX X) Y) 290 3)) - (((((0 + (((asX X) 286 24).toInt64)) + (((asX X) 286 25).toInt64)) + (((asX X) 286 26).toInt64)) + (((asX X) 286 27).toInt64)) * ((llY (asX X) Y) 285 5))) (hgk : gok 100 (((((0 + ((llY (asX X) Y) 290 0)) + ((llY (asX X) Y) 290 1)) + ((llY (asX X) Y) 290 2)) + ((llY (asX X) Y) 290 3)) - (((((0 + (((asX X) 286 24).toInt64)) + (((asX X) 286 25).toInt64)) + (((asX X) 286 26).toInt64)) + (((asX X) 286 27).toInt64)) * ((llY (asX X) Y) 285 5))) (((((0 + (((asX X) 286 24).toInt64)) + (((asX X) 286 25).toInt64)) + (((asX X) 286 26).toInt64)) + (((asX X) 286 27).toInt64)) * ((llY (asX X) Y) 285 5))) (hg : ¬ (gcdL 100 (((((0 + ((llY (asX X) Y) 290 0)) + ((llY (asX X) Y) 290 1)) + ((llY (asX X) Y) 290 2)) + ((llY (asX X) Y) 290 3)) - (((((0 + (((asX X) 286 24).toInt64)) + (((asX X) 286 25).toInt64)) + (((asX X) 286 26).toInt64)) + (((asX X) 286 27).toInt64)) * ((llY (asX X) Y) 285 5))) (((((0 + (((asX X) 286 24).toInt64)) + (((asX X) 286 25).toInt64)) + (((asX X) 286 26).toInt64)) + (((asX X) 286 27).toInt64)) * ((llY (asX X) Y) 285 5)) = 0)) : Ct l yX6_circulatingLoad cX6_circulatingLoad 8 (some .long) 3 71 G o [.ref (o + 285), .int 0] X Y (some (.long ((((((0 + ((llY (asX X) Y) 290 0)) + ((llY (asX X) Y) 290 1)) + ((llY (asX X) Y) 290 2)) + ((llY (asX X) Y) 290 3)) - (((((0 + (((asX X) 286 24).toInt64)) + (((asX X) 286 25).toInt64)) + (((asX X) 286 26).toInt64)) + (((asX X) 286 27).toInt64)) * ((llY (asX X) Y) 285 5))) / gcdL 100 (((((0 + ((llY (asX X) Y) 290 0)) + ((llY (asX X) Y) 290 1)) + ((llY (asX X) Y) 290 2)) + ((llY (asX X) Y) 290 3)) - (((((0 + (((asX X) 286 24).toInt64)) + (((asX X) 286 25).toInt64)) + (((asX X) 286 26).toInt64)) + (((asX X) 286 27).toInt64)) * ((llY (asX X) Y) 285 5))) (((((0 + (((asX X) 286 24).toInt64)) + (((asX X) 286 25).toInt64)) + (((asX X) 286 26).toInt64)) + (((asX X) 286 27).toInt64)) * ((llY (asX X) Y) 285 5))))) (asX X) (llY (asX X) Y) := by
  refine Ct.mk (by decide +kernel) (Nat.le_of_ble_eq_true rfl) rfl ?_
  intro p9 e9 s9 m9 args9 below9 meth9 c9 hE hr hlocks hK hI ls hl
  have hx := hE.1
  have hb := hE.2.1
  have hl : lv_has ls 8 [(0, .ref (o + 285)), (1, .int 0)] := hl
  refine lv_aload_n hx hb dX6_circulatingLoad_0 rfl (lv_at hl 0 rfl) ?_
  refine lv_iconst (v := 0) hx hb dX6_circulatingLoad_1 (by decide) ?_
  refine lv_iload_n hx hb dX6_circulatingLoad_2 rfl (lv_at hl 1 rfl) ?_
  refine x_callVi (k := 285) hE hK hI (c_X6_wrongSteady_y l G o _ _ 0 0 (by decide) (by decide) h) mf_X6_wrongSteady mw_540 (by decide) ((e_285 G o) _ _) rfl rfl hl.1 rfl (Nat.le_of_ble_eq_true rfl) ⟨(Nat.le_of_ble_eq_true rfl), (Nat.le_of_ble_eq_true rfl)⟩ ⟨Nat.zero_le _, Nat.zero_le _⟩ dX6_circulatingLoad_3 (fun H locs hI => ?_)
  refine lv_istore_n (lv' := [(2, .int 0), (0, .ref (o + 285)), (1, .int 0)]) hx hb dX6_circulatingLoad_6 rfl hl (by decide) rfl (fun ls hl => ?_)
  refine lv_iload_n hx hb dX6_circulatingLoad_7 rfl (lv_at hl 0 rfl) ?_
  refine lv_if_eq (tgt := 14) hx hb dX6_circulatingLoad_8 (by decide) (fun _ => ?_) (fun q => absurd (by decide) q)
  refine lv_lconst (v := 0) hx hb dX6_circulatingLoad_14 (by decide) ?_
  refine lv_lstore_n (lv' := [(3, .long 0), (2, .int 0), (0, .ref (o + 285)), (1, .int 0)]) hx hb dX6_circulatingLoad_15 rfl hl (by decide) rfl (fun ls hl => ?_)
  refine lv_lconst (v := 0) hx hb dX6_circulatingLoad_16 (by decide) ?_
  refine lv_lstore (lv' := [(5, .long 0), (3, .long 0), (2, .int 0), (0, .ref (o + 285)), (1, .int 0)]) hx hb dX6_circulatingLoad_17 hl (by decide) rfl (fun ls hl => ?_)
  refine lv_iconst (v := 0) hx hb dX6_circulatingLoad_19 (by decide) ?_
  refine lv_istore (lv' := [(7, .int 0), (5, .long 0), (3, .long 0), (2, .int 0), (0, .ref (o + 285)), (1, .int 0)]) hx hb dX6_circulatingLoad_20 hl (by decide) rfl (fun ls hl => ?_)
  refine lv_iload hx hb dX6_circulatingLoad_22 (lv_at hl 0 rfl) ?_
  refine lv_iconst (v := 4) hx hb dX6_circulatingLoad_24 (by decide) ?_
  refine lv_icmp_ge (tgt := 60) hx hb dX6_circulatingLoad_25 (by decide) (fun q => absurd q (by decide)) (fun _ => ?_)
  refine lv_lload_n hx hb dX6_circulatingLoad_28 rfl (lv_at hl 2 rfl) ?_
  refine lv_aload_n hx hb dX6_circulatingLoad_29 rfl (lv_at hl 4 rfl) ?_
  refine x_get (k := 285) hE hK hI (by decide) inG6 (e_285 G o _ _) rfl 4 (by decide) mw_484 rfl dX6_circulatingLoad_30 ?_
  refine lv_iload hx hb dX6_circulatingLoad_33 (lv_at hl 0 rfl) ?_
  refine x_lald (k := 290) (j := 0) hE hK hI (by decide) (e_290 G o) (by decide) (by decide) rfl dX6_circulatingLoad_35 ?_
  refine lv_ladd hx hb dX6_circulatingLoad_36 ?_
  refine lv_lstore_n (lv' := [(3, .long (0 + ((llY (asX X) Y) 290 0))), (7, .int 0), (5, .long 0), (2, .int 0), (0, .ref (o + 285)), (1, .int 0)]) hx hb dX6_circulatingLoad_37 rfl hl (by decide) rfl (fun ls hl => ?_)
  refine lv_lload hx hb dX6_circulatingLoad_38 (lv_at hl 2 rfl) ?_
  refine lv_aload_n hx hb dX6_circulatingLoad_40 rfl (lv_at hl 4 rfl) ?_
  refine x_get (k := 285) hE hK hI (by decide) inG6 (e_285 G o _ _) rfl 0 (by decide) mw_480 rfl dX6_circulatingLoad_41 ?_
  refine lv_bipush (v := 24) hx hb dX6_circulatingLoad_44 (by decide) ?_
  refine lv_iload hx hb dX6_circulatingLoad_46 (lv_at hl 1 rfl) ?_
  refine lv_iadd hx hb dX6_circulatingLoad_48 ?_
  refine lv_topi (fun z1 ez1 => ?_)
  obtain rfl : 24 = z1 := (ez1.trans (by decide)).symm
  refine x_iald (k := 286) (j := 24) hE hK hI (by decide) (e_286 G o) (by decide) (by decide) rfl dX6_circulatingLoad_49 ?_
  refine lv_i2l hx hb dX6_circulatingLoad_50 rfl ?_
  refine lv_ladd hx hb dX6_circulatingLoad_51 ?_
  refine lv_lstore (lv' := [(5, .long (0 + (((asX X) 286 24).toInt64))), (3, .long (0 + ((llY (asX X) Y) 290 0))), (7, .int 0), (2, .int 0), (0, .ref (o + 285)), (1, .int 0)]) hx hb dX6_circulatingLoad_52 hl (by decide) rfl (fun ls hl => ?_)
  refine lv_iinc (v := 1) (lv' := [(7, .int 1), (5, .long (0 + (((asX X) 286 24).toInt64))), (3, .long (0 + ((llY (asX X) Y) 290 0))), (2, .int 0), (0, .ref (o + 285)), (1, .int 0)]) hx hb dX6_circulatingLoad_54 hl (k := 2) rfl (by decide) (by decide) rfl (fun ls hl => ?_)
  refine lv_goto (tgt := 22) hx hb dX6_circulatingLoad_57 (by decide) ?_
  refine lv_iload hx hb dX6_circulatingLoad_22 (lv_at hl 0 rfl) ?_
  refine lv_iconst (v := 4) hx hb dX6_circulatingLoad_24 (by decide) ?_
  refine lv_icmp_ge (tgt := 60) hx hb dX6_circulatingLoad_25 (by decide) (fun q => absurd q (by decide)) (fun _ => ?_)
  refine lv_lload_n hx hb dX6_circulatingLoad_28 rfl (lv_at hl 2 rfl) ?_
  refine lv_aload_n hx hb dX6_circulatingLoad_29 rfl (lv_at hl 4 rfl) ?_
  refine x_get (k := 285) hE hK hI (by decide) inG6 (e_285 G o _ _) rfl 4 (by decide) mw_484 rfl dX6_circulatingLoad_30 ?_
  refine lv_iload hx hb dX6_circulatingLoad_33 (lv_at hl 0 rfl) ?_
  refine x_lald (k := 290) (j := 1) hE hK hI (by decide) (e_290 G o) (by decide) (by decide) rfl dX6_circulatingLoad_35 ?_
  refine lv_ladd hx hb dX6_circulatingLoad_36 ?_
  refine lv_lstore_n (lv' := [(3, .long ((0 + ((llY (asX X) Y) 290 0)) + ((llY (asX X) Y) 290 1))), (7, .int 1), (5, .long (0 + (((asX X) 286 24).toInt64))), (2, .int 0), (0, .ref (o + 285)), (1, .int 0)]) hx hb dX6_circulatingLoad_37 rfl hl (by decide) rfl (fun ls hl => ?_)
  refine lv_lload hx hb dX6_circulatingLoad_38 (lv_at hl 2 rfl) ?_
  refine lv_aload_n hx hb dX6_circulatingLoad_40 rfl (lv_at hl 4 rfl) ?_
  refine x_get (k := 285) hE hK hI (by decide) inG6 (e_285 G o _ _) rfl 0 (by decide) mw_480 rfl dX6_circulatingLoad_41 ?_
  refine lv_bipush (v := 24) hx hb dX6_circulatingLoad_44 (by decide) ?_
  refine lv_iload hx hb dX6_circulatingLoad_46 (lv_at hl 1 rfl) ?_
  refine lv_iadd hx hb dX6_circulatingLoad_48 ?_
  refine lv_topi (fun z2 ez2 => ?_)
  obtain rfl : 25 = z2 := (ez2.trans (by decide)).symm
  refine x_iald (k := 286) (j := 25) hE hK hI (by decide) (e_286 G o) (by decide) (by decide) rfl dX6_circulatingLoad_49 ?_
  refine lv_i2l hx hb dX6_circulatingLoad_50 rfl ?_
  refine lv_ladd hx hb dX6_circulatingLoad_51 ?_
  refine lv_lstore (lv' := [(5, .long ((0 + (((asX X) 286 24).toInt64)) + (((asX X) 286 25).toInt64))), (3, .long ((0 + ((llY (asX X) Y) 290 0)) + ((llY (asX X) Y) 290 1))), (7, .int 1), (2, .int 0), (0, .ref (o + 285)), (1, .int 0)]) hx hb dX6_circulatingLoad_52 hl (by decide) rfl (fun ls hl => ?_)
  refine lv_iinc (v := 2) (lv' := [(7, .int 2), (5, .long ((0 + (((asX X) 286 24).toInt64)) + (((asX X) 286 25).toInt64))), (3, .long ((0 + ((llY (asX X) Y) 290 0)) + ((llY (asX X) Y) 290 1))), (2, .int 0), (0, .ref (o + 285)), (1, .int 0)]) hx hb dX6_circulatingLoad_54 hl (k := 2) rfl (by decide) (by decide) rfl (fun ls hl => ?_)
  refine lv_goto (tgt := 22) hx hb dX6_circulatingLoad_57 (by decide) ?_
  refine lv_iload hx hb dX6_circulatingLoad_22 (lv_at hl 0 rfl) ?_
  refine lv_iconst (v := 4) hx hb dX6_circulatingLoad_24 (by decide) ?_
  refine lv_icmp_ge (tgt := 60) hx hb dX6_circulatingLoad_25 (by decide) (fun q => absurd q (by decide)) (fun _ => ?_)
  refine lv_lload_n hx hb dX6_circulatingLoad_28 rfl (lv_at hl 2 rfl) ?_
  refine lv_aload_n hx hb dX6_circulatingLoad_29 rfl (lv_at hl 4 rfl) ?_
  refine x_get (k := 285) hE hK hI (by decide) inG6 (e_285 G o _ _) rfl 4 (by decide) mw_484 rfl dX6_circulatingLoad_30 ?_
  refine lv_iload hx hb dX6_circulatingLoad_33 (lv_at hl 0 rfl) ?_
  refine x_lald (k := 290) (j := 2) hE hK hI (by decide) (e_290 G o) (by decide) (by decide) rfl dX6_circulatingLoad_35 ?_
  refine lv_ladd hx hb dX6_circulatingLoad_36 ?_
  refine lv_lstore_n (lv' := [(3, .long (((0 + ((llY (asX X) Y) 290 0)) + ((llY (asX X) Y) 290 1)) + ((llY (asX X) Y) 290 2))), (7, .int 2), (5, .long ((0 + (((asX X) 286 24).toInt64)) + (((asX X) 286 25).toInt64))), (2, .int 0), (0, .ref (o + 285)), (1, .int 0)]) hx hb dX6_circulatingLoad_37 rfl hl (by decide) rfl (fun ls hl => ?_)
  refine lv_lload hx hb dX6_circulatingLoad_38 (lv_at hl 2 rfl) ?_
  refine lv_aload_n hx hb dX6_circulatingLoad_40 rfl (lv_at hl 4 rfl) ?_
  refine x_get (k := 285) hE hK hI (by decide) inG6 (e_285 G o _ _) rfl 0 (by decide) mw_480 rfl dX6_circulatingLoad_41 ?_
  refine lv_bipush (v := 24) hx hb dX6_circulatingLoad_44 (by decide) ?_
  refine lv_iload hx hb dX6_circulatingLoad_46 (lv_at hl 1 rfl) ?_
  refine lv_iadd hx hb dX6_circulatingLoad_48 ?_
  refine lv_topi (fun z3 ez3 => ?_)
  obtain rfl : 26 = z3 := (ez3.trans (by decide)).symm
  refine x_iald (k := 286) (j := 26) hE hK hI (by decide) (e_286 G o) (by decide) (by decide) rfl dX6_circulatingLoad_49 ?_
  refine lv_i2l hx hb dX6_circulatingLoad_50 rfl ?_
  refine lv_ladd hx hb dX6_circulatingLoad_51 ?_
  refine lv_lstore (lv' := [(5, .long (((0 + (((asX X) 286 24).toInt64)) + (((asX X) 286 25).toInt64)) + (((asX X) 286 26).toInt64))), (3, .long (((0 + ((llY (asX X) Y) 290 0)) + ((llY (asX X) Y) 290 1)) + ((llY (asX X) Y) 290 2))), (7, .int 2), (2, .int 0), (0, .ref (o + 285)), (1, .int 0)]) hx hb dX6_circulatingLoad_52 hl (by decide) rfl (fun ls hl => ?_)
  refine lv_iinc (v := 3) (lv' := [(7, .int 3), (5, .long (((0 + (((asX X) 286 24).toInt64)) + (((asX X) 286 25).toInt64)) + (((asX X) 286 26).toInt64))), (3, .long (((0 + ((llY (asX X) Y) 290 0)) + ((llY (asX X) Y) 290 1)) + ((llY (asX X) Y) 290 2))), (2, .int 0), (0, .ref (o + 285)), (1, .int 0)]) hx hb dX6_circulatingLoad_54 hl (k := 2) rfl (by decide) (by decide) rfl (fun ls hl => ?_)
  refine lv_goto (tgt := 22) hx hb dX6_circulatingLoad_57 (by decide) ?_
  refine lv_iload hx hb dX6_circulatingLoad_22 (lv_at hl 0 rfl) ?_
  refine lv_iconst (v := 4) hx hb dX6_circulatingLoad_24 (by decide) ?_
  refine lv_icmp_ge (tgt := 60) hx hb dX6_circulatingLoad_25 (by decide) (fun q => absurd q (by decide)) (fun _ => ?_)
  refine lv_lload_n hx hb dX6_circulatingLoad_28 rfl (lv_at hl 2 rfl) ?_
  refine lv_aload_n hx hb dX6_circulatingLoad_29 rfl (lv_at hl 4 rfl) ?_
  refine x_get (k := 285) hE hK hI (by decide) inG6 (e_285 G o _ _) rfl 4 (by decide) mw_484 rfl dX6_circulatingLoad_30 ?_
  refine lv_iload hx hb dX6_circulatingLoad_33 (lv_at hl 0 rfl) ?_
  refine x_lald (k := 290) (j := 3) hE hK hI (by decide) (e_290 G o) (by decide) (by decide) rfl dX6_circulatingLoad_35 ?_
  refine lv_ladd hx hb dX6_circulatingLoad_36 ?_
  refine lv_lstore_n (lv' := [(3, .long ((((0 + ((llY (asX X) Y) 290 0)) + ((llY (asX X) Y) 290 1)) + ((llY (asX X) Y) 290 2)) + ((llY (asX X) Y) 290 3))), (7, .int 3), (5, .long (((0 + (((asX X) 286 24).toInt64)) + (((asX X) 286 25).toInt64)) + (((asX X) 286 26).toInt64))), (2, .int 0), (0, .ref (o + 285)), (1, .int 0)]) hx hb dX6_circulatingLoad_37 rfl hl (by decide) rfl (fun ls hl => ?_)
  refine lv_lload hx hb dX6_circulatingLoad_38 (lv_at hl 2 rfl) ?_
  refine lv_aload_n hx hb dX6_circulatingLoad_40 rfl (lv_at hl 4 rfl) ?_
  refine x_get (k := 285) hE hK hI (by decide) inG6 (e_285 G o _ _) rfl 0 (by decide) mw_480 rfl dX6_circulatingLoad_41 ?_
  refine lv_bipush (v := 24) hx hb dX6_circulatingLoad_44 (by decide) ?_
  refine lv_iload hx hb dX6_circulatingLoad_46 (lv_at hl 1 rfl) ?_
  refine lv_iadd hx hb dX6_circulatingLoad_48 ?_
  refine lv_topi (fun z4 ez4 => ?_)
  obtain rfl : 27 = z4 := (ez4.trans (by decide)).symm
  refine x_iald (k := 286) (j := 27) hE hK hI (by decide) (e_286 G o) (by decide) (by decide) rfl dX6_circulatingLoad_49 ?_
  refine lv_i2l hx hb dX6_circulatingLoad_50 rfl ?_
  refine lv_ladd hx hb dX6_circulatingLoad_51 ?_
  refine lv_lstore (lv' := [(5, .long ((((0 + (((asX X) 286 24).toInt64)) + (((asX X) 286 25).toInt64)) + (((asX X) 286 26).toInt64)) + (((asX X) 286 27).toInt64))), (3, .long ((((0 + ((llY (asX X) Y) 290 0)) + ((llY (asX X) Y) 290 1)) + ((llY (asX X) Y) 290 2)) + ((llY (asX X) Y) 290 3))), (7, .int 3), (2, .int 0), (0, .ref (o + 285)), (1, .int 0)]) hx hb dX6_circulatingLoad_52 hl (by decide) rfl (fun ls hl => ?_)
  refine lv_iinc (v := 4) (lv' := [(7, .int 4), (5, .long ((((0 + (((asX X) 286 24).toInt64)) + (((asX X) 286 25).toInt64)) + (((asX X) 286 26).toInt64)) + (((asX X) 286 27).toInt64))), (3, .long ((((0 + ((llY (asX X) Y) 290 0)) + ((llY (asX X) Y) 290 1)) + ((llY (asX X) Y) 290 2)) + ((llY (asX X) Y) 290 3))), (2, .int 0), (0, .ref (o + 285)), (1, .int 0)]) hx hb dX6_circulatingLoad_54 hl (k := 2) rfl (by decide) (by decide) rfl (fun ls hl => ?_)
  refine lv_goto (tgt := 22) hx hb dX6_circulatingLoad_57 (by decide) ?_
  refine lv_iload hx hb dX6_circulatingLoad_22 (lv_at hl 0 rfl) ?_
  refine lv_iconst (v := 4) hx hb dX6_circulatingLoad_24 (by decide) ?_
  refine lv_icmp_ge (tgt := 60) hx hb dX6_circulatingLoad_25 (by decide) (fun _ => ?_) (fun q => absurd (by decide) q)
  refine lv_lload hx hb dX6_circulatingLoad_60 (lv_at hl 1 rfl) ?_
  refine lv_lconst (v := 0) hx hb dX6_circulatingLoad_62 (by decide) ?_
  refine W.lcmp hx hb dX6_circulatingLoad_63 ?_
  refine lv_if_ne (tgt := 73) hx hb dX6_circulatingLoad_64 (by decide) (fun _ => ?_) (fun q => absurd q (mt (lg_cmp_eq _ _).mp hz))
  refine lv_lload_n hx hb dX6_circulatingLoad_73 rfl (lv_at hl 2 rfl) ?_
  refine lv_lload hx hb dX6_circulatingLoad_74 (lv_at hl 1 rfl) ?_
  refine lv_aload_n hx hb dX6_circulatingLoad_76 rfl (lv_at hl 4 rfl) ?_
  refine x_get (k := 285) hE hK hI (by decide) inG6 (e_285 G o _ _) rfl 5 (by decide) mw_485 rfl dX6_circulatingLoad_77 ?_
  refine lv_lmul hx hb dX6_circulatingLoad_80 ?_
  refine lv_lsub hx hb dX6_circulatingLoad_81 ?_
  refine lv_lload hx hb dX6_circulatingLoad_82 (lv_at hl 1 rfl) ?_
  refine lv_aload_n hx hb dX6_circulatingLoad_84 rfl (lv_at hl 4 rfl) ?_
  refine x_get (k := 285) hE hK hI (by decide) inG6 (e_285 G o _ _) rfl 5 (by decide) mw_485 rfl dX6_circulatingLoad_85 ?_
  refine lv_lmul hx hb dX6_circulatingLoad_88 ?_
  refine lv_iload_n hx hb dX6_circulatingLoad_89 rfl (lv_at hl 5 rfl) ?_
  refine x_callSl hE hK hI (c_X6_part_0 l G o _ _ (((((0 + ((llY (asX X) Y) 290 0)) + ((llY (asX X) Y) 290 1)) + ((llY (asX X) Y) 290 2)) + ((llY (asX X) Y) 290 3)) - (((((0 + (((asX X) 286 24).toInt64)) + (((asX X) 286 25).toInt64)) + (((asX X) 286 26).toInt64)) + (((asX X) 286 27).toInt64)) * ((llY (asX X) Y) 285 5))) (((((0 + (((asX X) 286 24).toInt64)) + (((asX X) 286 25).toInt64)) + (((asX X) 286 26).toInt64)) + (((asX X) 286 27).toInt64)) * ((llY (asX X) Y) 285 5)) hg0 hgk hg) mf_X6_part mw_556 rfl hl.1 rfl (Nat.le_of_ble_eq_true rfl) ⟨(Nat.le_of_ble_eq_true rfl), (Nat.le_of_ble_eq_true rfl)⟩ ⟨Nat.zero_le _, Nat.zero_le _⟩ dX6_circulatingLoad_90 (fun H locs hI => ?_)
  exact x_lret hE hr hlocks hI rfl rfl rfl dX6_circulatingLoad_93
set_option maxRecDepth 100000 in
set_option maxHeartbeats 4000000 in
theorem c_X6_power_y0 (l : Launch) (G : GG) (o : Nat) (X : SX) (Y : SY) (h : ¬ (llr (asX X) Y = 0)) (hg0 : 0 ≤ pwrM (asX X) (llY (asX X) Y)) (hgk : gok 100 (pwrM (asX X) (llY (asX X) Y)) ((llY (asX X) Y) 285 5)) (hg : ¬ (gcdL 100 (pwrM (asX X) (llY (asX X) Y)) ((llY (asX X) Y) 285 5) = 0)) : Ct l yX6_power cX6_power 3 (some .long) 3 71 G o [.ref (o + 285), .int 0] X Y (some (.long ((pwrM (asX X) (llY (asX X) Y)) / gcdL 100 (pwrM (asX X) (llY (asX X) Y)) ((llY (asX X) Y) 285 5)))) (asX X) (llY (asX X) Y) := by
  refine Ct.mk (by decide +kernel) (Nat.le_of_ble_eq_true rfl) rfl ?_
  intro p9 e9 s9 m9 args9 below9 meth9 c9 hE hr hlocks hK hI ls hl
  have hx := hE.1
  have hb := hE.2.1
  have hl : lv_has ls 3 [(0, .ref (o + 285)), (1, .int 0)] := hl
  refine lv_aload_n hx hb dX6_power_0 rfl (lv_at hl 0 rfl) ?_
  refine lv_iconst (v := 0) hx hb dX6_power_1 (by decide) ?_
  refine lv_iload_n hx hb dX6_power_2 rfl (lv_at hl 1 rfl) ?_
  refine x_callVi (k := 285) hE hK hI (c_X6_wrongSteady_y l G o _ _ 0 0 (by decide) (by decide) h) mf_X6_wrongSteady mw_540 (by decide) ((e_285 G o) _ _) rfl rfl hl.1 rfl (Nat.le_of_ble_eq_true rfl) ⟨(Nat.le_of_ble_eq_true rfl), (Nat.le_of_ble_eq_true rfl)⟩ ⟨Nat.zero_le _, Nat.zero_le _⟩ dX6_power_3 (fun H locs hI => ?_)
  refine lv_istore_n (lv' := [(2, .int 0), (0, .ref (o + 285)), (1, .int 0)]) hx hb dX6_power_6 rfl hl (by decide) rfl (fun ls hl => ?_)
  refine lv_iload_n hx hb dX6_power_7 rfl (lv_at hl 0 rfl) ?_
  refine lv_if_eq (tgt := 16) hx hb dX6_power_8 (by decide) (fun _ => ?_) (fun q => absurd (by decide) q)
  refine lv_aload_n hx hb dX6_power_16 rfl (lv_at hl 1 rfl) ?_
  refine x_callVl (k := 285) hE hK hI (c_X6_powerOf l G o _ _  ) mf_X6_powerOf mw_572 (by decide) ((e_285 G o) _ _) rfl rfl hl.1 rfl (Nat.le_of_ble_eq_true rfl) ⟨(Nat.le_of_ble_eq_true rfl), (Nat.le_of_ble_eq_true rfl)⟩ ⟨Nat.zero_le _, Nat.zero_le _⟩ dX6_power_17 (fun H locs hI => ?_)
  refine lv_aload_n hx hb dX6_power_20 rfl (lv_at hl 1 rfl) ?_
  refine x_get (k := 285) hE hK hI (by decide) inG6 (e_285 G o _ _) rfl 5 (by decide) mw_485 rfl dX6_power_21 ?_
  refine lv_iload_n hx hb dX6_power_24 rfl (lv_at hl 2 rfl) ?_
  refine x_callSl hE hK hI (c_X6_part_0 l G o _ _ (pwrM (asX X) (llY (asX X) Y)) ((llY (asX X) Y) 285 5) hg0 hgk hg) mf_X6_part mw_556 rfl hl.1 rfl (Nat.le_of_ble_eq_true rfl) ⟨(Nat.le_of_ble_eq_true rfl), (Nat.le_of_ble_eq_true rfl)⟩ ⟨Nat.zero_le _, Nat.zero_le _⟩ dX6_power_25 (fun H locs hI => ?_)
  exact x_lret hE hr hlocks hI rfl rfl rfl dX6_power_28
set_option maxRecDepth 100000 in
set_option maxHeartbeats 4000000 in
theorem c_X6_circulatingLoad_z1 (l : Launch) (G : GG) (o : Nat) (X : SX) (Y : SY) (h : ¬ (llr (asX X) Y = 0)) (hz : ((((0 + (((asX X) 286 24).toInt64)) + (((asX X) 286 25).toInt64)) + (((asX X) 286 26).toInt64)) + (((asX X) 286 27).toInt64)) = 0) : Ct l yX6_circulatingLoad cX6_circulatingLoad 8 (some .long) 3 71 G o [.ref (o + 285), .int 1] X Y (some (.long (-7))) (asX X) (llY (asX X) Y) := by
  refine Ct.mk (by decide +kernel) (Nat.le_of_ble_eq_true rfl) rfl ?_
  intro p9 e9 s9 m9 args9 below9 meth9 c9 hE hr hlocks hK hI ls hl
  have hx := hE.1
  have hb := hE.2.1
  have hl : lv_has ls 8 [(0, .ref (o + 285)), (1, .int 1)] := hl
  refine lv_aload_n hx hb dX6_circulatingLoad_0 rfl (lv_at hl 0 rfl) ?_
  refine lv_iconst (v := 0) hx hb dX6_circulatingLoad_1 (by decide) ?_
  refine lv_iload_n hx hb dX6_circulatingLoad_2 rfl (lv_at hl 1 rfl) ?_
  refine x_callVi (k := 285) hE hK hI (c_X6_wrongSteady_y l G o _ _ 0 1 (by decide) (by decide) h) mf_X6_wrongSteady mw_540 (by decide) ((e_285 G o) _ _) rfl rfl hl.1 rfl (Nat.le_of_ble_eq_true rfl) ⟨(Nat.le_of_ble_eq_true rfl), (Nat.le_of_ble_eq_true rfl)⟩ ⟨Nat.zero_le _, Nat.zero_le _⟩ dX6_circulatingLoad_3 (fun H locs hI => ?_)
  refine lv_istore_n (lv' := [(2, .int 0), (0, .ref (o + 285)), (1, .int 1)]) hx hb dX6_circulatingLoad_6 rfl hl (by decide) rfl (fun ls hl => ?_)
  refine lv_iload_n hx hb dX6_circulatingLoad_7 rfl (lv_at hl 0 rfl) ?_
  refine lv_if_eq (tgt := 14) hx hb dX6_circulatingLoad_8 (by decide) (fun _ => ?_) (fun q => absurd (by decide) q)
  refine lv_lconst (v := 0) hx hb dX6_circulatingLoad_14 (by decide) ?_
  refine lv_lstore_n (lv' := [(3, .long 0), (2, .int 0), (0, .ref (o + 285)), (1, .int 1)]) hx hb dX6_circulatingLoad_15 rfl hl (by decide) rfl (fun ls hl => ?_)
  refine lv_lconst (v := 0) hx hb dX6_circulatingLoad_16 (by decide) ?_
  refine lv_lstore (lv' := [(5, .long 0), (3, .long 0), (2, .int 0), (0, .ref (o + 285)), (1, .int 1)]) hx hb dX6_circulatingLoad_17 hl (by decide) rfl (fun ls hl => ?_)
  refine lv_iconst (v := 0) hx hb dX6_circulatingLoad_19 (by decide) ?_
  refine lv_istore (lv' := [(7, .int 0), (5, .long 0), (3, .long 0), (2, .int 0), (0, .ref (o + 285)), (1, .int 1)]) hx hb dX6_circulatingLoad_20 hl (by decide) rfl (fun ls hl => ?_)
  refine lv_iload hx hb dX6_circulatingLoad_22 (lv_at hl 0 rfl) ?_
  refine lv_iconst (v := 4) hx hb dX6_circulatingLoad_24 (by decide) ?_
  refine lv_icmp_ge (tgt := 60) hx hb dX6_circulatingLoad_25 (by decide) (fun q => absurd q (by decide)) (fun _ => ?_)
  refine lv_lload_n hx hb dX6_circulatingLoad_28 rfl (lv_at hl 2 rfl) ?_
  refine lv_aload_n hx hb dX6_circulatingLoad_29 rfl (lv_at hl 4 rfl) ?_
  refine x_get (k := 285) hE hK hI (by decide) inG6 (e_285 G o _ _) rfl 4 (by decide) mw_484 rfl dX6_circulatingLoad_30 ?_
  refine lv_iload hx hb dX6_circulatingLoad_33 (lv_at hl 0 rfl) ?_
  refine x_lald (k := 290) (j := 0) hE hK hI (by decide) (e_290 G o) (by decide) (by decide) rfl dX6_circulatingLoad_35 ?_
  refine lv_ladd hx hb dX6_circulatingLoad_36 ?_
  refine lv_lstore_n (lv' := [(3, .long (0 + ((llY (asX X) Y) 290 0))), (7, .int 0), (5, .long 0), (2, .int 0), (0, .ref (o + 285)), (1, .int 1)]) hx hb dX6_circulatingLoad_37 rfl hl (by decide) rfl (fun ls hl => ?_)
  refine lv_lload hx hb dX6_circulatingLoad_38 (lv_at hl 2 rfl) ?_
  refine lv_aload_n hx hb dX6_circulatingLoad_40 rfl (lv_at hl 4 rfl) ?_
  refine x_get (k := 285) hE hK hI (by decide) inG6 (e_285 G o _ _) rfl 0 (by decide) mw_480 rfl dX6_circulatingLoad_41 ?_
  refine lv_bipush (v := 24) hx hb dX6_circulatingLoad_44 (by decide) ?_
  refine lv_iload hx hb dX6_circulatingLoad_46 (lv_at hl 1 rfl) ?_
  refine lv_iadd hx hb dX6_circulatingLoad_48 ?_
  refine lv_topi (fun z1 ez1 => ?_)
  obtain rfl : 24 = z1 := (ez1.trans (by decide)).symm
  refine x_iald (k := 286) (j := 24) hE hK hI (by decide) (e_286 G o) (by decide) (by decide) rfl dX6_circulatingLoad_49 ?_
  refine lv_i2l hx hb dX6_circulatingLoad_50 rfl ?_
  refine lv_ladd hx hb dX6_circulatingLoad_51 ?_
  refine lv_lstore (lv' := [(5, .long (0 + (((asX X) 286 24).toInt64))), (3, .long (0 + ((llY (asX X) Y) 290 0))), (7, .int 0), (2, .int 0), (0, .ref (o + 285)), (1, .int 1)]) hx hb dX6_circulatingLoad_52 hl (by decide) rfl (fun ls hl => ?_)
  refine lv_iinc (v := 1) (lv' := [(7, .int 1), (5, .long (0 + (((asX X) 286 24).toInt64))), (3, .long (0 + ((llY (asX X) Y) 290 0))), (2, .int 0), (0, .ref (o + 285)), (1, .int 1)]) hx hb dX6_circulatingLoad_54 hl (k := 2) rfl (by decide) (by decide) rfl (fun ls hl => ?_)
  refine lv_goto (tgt := 22) hx hb dX6_circulatingLoad_57 (by decide) ?_
  refine lv_iload hx hb dX6_circulatingLoad_22 (lv_at hl 0 rfl) ?_
  refine lv_iconst (v := 4) hx hb dX6_circulatingLoad_24 (by decide) ?_
  refine lv_icmp_ge (tgt := 60) hx hb dX6_circulatingLoad_25 (by decide) (fun q => absurd q (by decide)) (fun _ => ?_)
  refine lv_lload_n hx hb dX6_circulatingLoad_28 rfl (lv_at hl 2 rfl) ?_
  refine lv_aload_n hx hb dX6_circulatingLoad_29 rfl (lv_at hl 4 rfl) ?_
  refine x_get (k := 285) hE hK hI (by decide) inG6 (e_285 G o _ _) rfl 4 (by decide) mw_484 rfl dX6_circulatingLoad_30 ?_
  refine lv_iload hx hb dX6_circulatingLoad_33 (lv_at hl 0 rfl) ?_
  refine x_lald (k := 290) (j := 1) hE hK hI (by decide) (e_290 G o) (by decide) (by decide) rfl dX6_circulatingLoad_35 ?_
  refine lv_ladd hx hb dX6_circulatingLoad_36 ?_
  refine lv_lstore_n (lv' := [(3, .long ((0 + ((llY (asX X) Y) 290 0)) + ((llY (asX X) Y) 290 1))), (7, .int 1), (5, .long (0 + (((asX X) 286 24).toInt64))), (2, .int 0), (0, .ref (o + 285)), (1, .int 1)]) hx hb dX6_circulatingLoad_37 rfl hl (by decide) rfl (fun ls hl => ?_)
  refine lv_lload hx hb dX6_circulatingLoad_38 (lv_at hl 2 rfl) ?_
  refine lv_aload_n hx hb dX6_circulatingLoad_40 rfl (lv_at hl 4 rfl) ?_
  refine x_get (k := 285) hE hK hI (by decide) inG6 (e_285 G o _ _) rfl 0 (by decide) mw_480 rfl dX6_circulatingLoad_41 ?_
  refine lv_bipush (v := 24) hx hb dX6_circulatingLoad_44 (by decide) ?_
  refine lv_iload hx hb dX6_circulatingLoad_46 (lv_at hl 1 rfl) ?_
  refine lv_iadd hx hb dX6_circulatingLoad_48 ?_
  refine lv_topi (fun z2 ez2 => ?_)
  obtain rfl : 25 = z2 := (ez2.trans (by decide)).symm
  refine x_iald (k := 286) (j := 25) hE hK hI (by decide) (e_286 G o) (by decide) (by decide) rfl dX6_circulatingLoad_49 ?_
  refine lv_i2l hx hb dX6_circulatingLoad_50 rfl ?_
  refine lv_ladd hx hb dX6_circulatingLoad_51 ?_
  refine lv_lstore (lv' := [(5, .long ((0 + (((asX X) 286 24).toInt64)) + (((asX X) 286 25).toInt64))), (3, .long ((0 + ((llY (asX X) Y) 290 0)) + ((llY (asX X) Y) 290 1))), (7, .int 1), (2, .int 0), (0, .ref (o + 285)), (1, .int 1)]) hx hb dX6_circulatingLoad_52 hl (by decide) rfl (fun ls hl => ?_)
  refine lv_iinc (v := 2) (lv' := [(7, .int 2), (5, .long ((0 + (((asX X) 286 24).toInt64)) + (((asX X) 286 25).toInt64))), (3, .long ((0 + ((llY (asX X) Y) 290 0)) + ((llY (asX X) Y) 290 1))), (2, .int 0), (0, .ref (o + 285)), (1, .int 1)]) hx hb dX6_circulatingLoad_54 hl (k := 2) rfl (by decide) (by decide) rfl (fun ls hl => ?_)
  refine lv_goto (tgt := 22) hx hb dX6_circulatingLoad_57 (by decide) ?_
  refine lv_iload hx hb dX6_circulatingLoad_22 (lv_at hl 0 rfl) ?_
  refine lv_iconst (v := 4) hx hb dX6_circulatingLoad_24 (by decide) ?_
  refine lv_icmp_ge (tgt := 60) hx hb dX6_circulatingLoad_25 (by decide) (fun q => absurd q (by decide)) (fun _ => ?_)
  refine lv_lload_n hx hb dX6_circulatingLoad_28 rfl (lv_at hl 2 rfl) ?_
  refine lv_aload_n hx hb dX6_circulatingLoad_29 rfl (lv_at hl 4 rfl) ?_
  refine x_get (k := 285) hE hK hI (by decide) inG6 (e_285 G o _ _) rfl 4 (by decide) mw_484 rfl dX6_circulatingLoad_30 ?_
  refine lv_iload hx hb dX6_circulatingLoad_33 (lv_at hl 0 rfl) ?_
  refine x_lald (k := 290) (j := 2) hE hK hI (by decide) (e_290 G o) (by decide) (by decide) rfl dX6_circulatingLoad_35 ?_
  refine lv_ladd hx hb dX6_circulatingLoad_36 ?_
  refine lv_lstore_n (lv' := [(3, .long (((0 + ((llY (asX X) Y) 290 0)) + ((llY (asX X) Y) 290 1)) + ((llY (asX X) Y) 290 2))), (7, .int 2), (5, .long ((0 + (((asX X) 286 24).toInt64)) + (((asX X) 286 25).toInt64))), (2, .int 0), (0, .ref (o + 285)), (1, .int 1)]) hx hb dX6_circulatingLoad_37 rfl hl (by decide) rfl (fun ls hl => ?_)
  refine lv_lload hx hb dX6_circulatingLoad_38 (lv_at hl 2 rfl) ?_
  refine lv_aload_n hx hb dX6_circulatingLoad_40 rfl (lv_at hl 4 rfl) ?_
  refine x_get (k := 285) hE hK hI (by decide) inG6 (e_285 G o _ _) rfl 0 (by decide) mw_480 rfl dX6_circulatingLoad_41 ?_
  refine lv_bipush (v := 24) hx hb dX6_circulatingLoad_44 (by decide) ?_
  refine lv_iload hx hb dX6_circulatingLoad_46 (lv_at hl 1 rfl) ?_
  refine lv_iadd hx hb dX6_circulatingLoad_48 ?_
  refine lv_topi (fun z3 ez3 => ?_)
  obtain rfl : 26 = z3 := (ez3.trans (by decide)).symm
  refine x_iald (k := 286) (j := 26) hE hK hI (by decide) (e_286 G o) (by decide) (by decide) rfl dX6_circulatingLoad_49 ?_
  refine lv_i2l hx hb dX6_circulatingLoad_50 rfl ?_
  refine lv_ladd hx hb dX6_circulatingLoad_51 ?_
  refine lv_lstore (lv' := [(5, .long (((0 + (((asX X) 286 24).toInt64)) + (((asX X) 286 25).toInt64)) + (((asX X) 286 26).toInt64))), (3, .long (((0 + ((llY (asX X) Y) 290 0)) + ((llY (asX X) Y) 290 1)) + ((llY (asX X) Y) 290 2))), (7, .int 2), (2, .int 0), (0, .ref (o + 285)), (1, .int 1)]) hx hb dX6_circulatingLoad_52 hl (by decide) rfl (fun ls hl => ?_)
  refine lv_iinc (v := 3) (lv' := [(7, .int 3), (5, .long (((0 + (((asX X) 286 24).toInt64)) + (((asX X) 286 25).toInt64)) + (((asX X) 286 26).toInt64))), (3, .long (((0 + ((llY (asX X) Y) 290 0)) + ((llY (asX X) Y) 290 1)) + ((llY (asX X) Y) 290 2))), (2, .int 0), (0, .ref (o + 285)), (1, .int 1)]) hx hb dX6_circulatingLoad_54 hl (k := 2) rfl (by decide) (by decide) rfl (fun ls hl => ?_)
  refine lv_goto (tgt := 22) hx hb dX6_circulatingLoad_57 (by decide) ?_
  refine lv_iload hx hb dX6_circulatingLoad_22 (lv_at hl 0 rfl) ?_
  refine lv_iconst (v := 4) hx hb dX6_circulatingLoad_24 (by decide) ?_
  refine lv_icmp_ge (tgt := 60) hx hb dX6_circulatingLoad_25 (by decide) (fun q => absurd q (by decide)) (fun _ => ?_)
  refine lv_lload_n hx hb dX6_circulatingLoad_28 rfl (lv_at hl 2 rfl) ?_
  refine lv_aload_n hx hb dX6_circulatingLoad_29 rfl (lv_at hl 4 rfl) ?_
  refine x_get (k := 285) hE hK hI (by decide) inG6 (e_285 G o _ _) rfl 4 (by decide) mw_484 rfl dX6_circulatingLoad_30 ?_
  refine lv_iload hx hb dX6_circulatingLoad_33 (lv_at hl 0 rfl) ?_
  refine x_lald (k := 290) (j := 3) hE hK hI (by decide) (e_290 G o) (by decide) (by decide) rfl dX6_circulatingLoad_35 ?_
  refine lv_ladd hx hb dX6_circulatingLoad_36 ?_
  refine lv_lstore_n (lv' := [(3, .long ((((0 + ((llY (asX X) Y) 290 0)) + ((llY (asX X) Y) 290 1)) + ((llY (asX X) Y) 290 2)) + ((llY (asX X) Y) 290 3))), (7, .int 3), (5, .long (((0 + (((asX X) 286 24).toInt64)) + (((asX X) 286 25).toInt64)) + (((asX X) 286 26).toInt64))), (2, .int 0), (0, .ref (o + 285)), (1, .int 1)]) hx hb dX6_circulatingLoad_37 rfl hl (by decide) rfl (fun ls hl => ?_)
  refine lv_lload hx hb dX6_circulatingLoad_38 (lv_at hl 2 rfl) ?_
  refine lv_aload_n hx hb dX6_circulatingLoad_40 rfl (lv_at hl 4 rfl) ?_
  refine x_get (k := 285) hE hK hI (by decide) inG6 (e_285 G o _ _) rfl 0 (by decide) mw_480 rfl dX6_circulatingLoad_41 ?_
  refine lv_bipush (v := 24) hx hb dX6_circulatingLoad_44 (by decide) ?_
  refine lv_iload hx hb dX6_circulatingLoad_46 (lv_at hl 1 rfl) ?_
  refine lv_iadd hx hb dX6_circulatingLoad_48 ?_
  refine lv_topi (fun z4 ez4 => ?_)
  obtain rfl : 27 = z4 := (ez4.trans (by decide)).symm
  refine x_iald (k := 286) (j := 27) hE hK hI (by decide) (e_286 G o) (by decide) (by decide) rfl dX6_circulatingLoad_49 ?_
  refine lv_i2l hx hb dX6_circulatingLoad_50 rfl ?_
  refine lv_ladd hx hb dX6_circulatingLoad_51 ?_
  refine lv_lstore (lv' := [(5, .long ((((0 + (((asX X) 286 24).toInt64)) + (((asX X) 286 25).toInt64)) + (((asX X) 286 26).toInt64)) + (((asX X) 286 27).toInt64))), (3, .long ((((0 + ((llY (asX X) Y) 290 0)) + ((llY (asX X) Y) 290 1)) + ((llY (asX X) Y) 290 2)) + ((llY (asX X) Y) 290 3))), (7, .int 3), (2, .int 0), (0, .ref (o + 285)), (1, .int 1)]) hx hb dX6_circulatingLoad_52 hl (by decide) rfl (fun ls hl => ?_)
  refine lv_iinc (v := 4) (lv' := [(7, .int 4), (5, .long ((((0 + (((asX X) 286 24).toInt64)) + (((asX X) 286 25).toInt64)) + (((asX X) 286 26).toInt64)) + (((asX X) 286 27).toInt64))), (3, .long ((((0 + ((llY (asX X) Y) 290 0)) + ((llY (asX X) Y) 290 1)) + ((llY (asX X) Y) 290 2)) + ((llY (asX X) Y) 290 3))), (2, .int 0), (0, .ref (o + 285)), (1, .int 1)]) hx hb dX6_circulatingLoad_54 hl (k := 2) rfl (by decide) (by decide) rfl (fun ls hl => ?_)
  refine lv_goto (tgt := 22) hx hb dX6_circulatingLoad_57 (by decide) ?_
  refine lv_iload hx hb dX6_circulatingLoad_22 (lv_at hl 0 rfl) ?_
  refine lv_iconst (v := 4) hx hb dX6_circulatingLoad_24 (by decide) ?_
  refine lv_icmp_ge (tgt := 60) hx hb dX6_circulatingLoad_25 (by decide) (fun _ => ?_) (fun q => absurd (by decide) q)
  refine lv_lload hx hb dX6_circulatingLoad_60 (lv_at hl 1 rfl) ?_
  refine lv_lconst (v := 0) hx hb dX6_circulatingLoad_62 (by decide) ?_
  refine W.lcmp hx hb dX6_circulatingLoad_63 ?_
  refine lv_if_ne (tgt := 73) hx hb dX6_circulatingLoad_64 (by decide) (fun q => absurd ((lg_cmp_eq _ _).mpr hz) q) (fun _ => ?_)
  refine lv_ldc2 hx hb hE.2.2.2.1 (hE.2.2.2.2 _ mw_567) dX6_circulatingLoad_67 ?_
  refine lv_goto (tgt := 93) hx hb dX6_circulatingLoad_70 (by decide) ?_
  exact x_lret hE hr hlocks hI rfl rfl rfl dX6_circulatingLoad_93
set_option maxRecDepth 100000 in
set_option maxHeartbeats 4000000 in
theorem c_X6_circulatingLoad_y1 (l : Launch) (G : GG) (o : Nat) (X : SX) (Y : SY) (h : ¬ (llr (asX X) Y = 0)) (hz : ¬ (((((0 + (((asX X) 286 24).toInt64)) + (((asX X) 286 25).toInt64)) + (((asX X) 286 26).toInt64)) + (((asX X) 286 27).toInt64)) = 0)) (hg0 : 0 ≤ ((((0 + ((llY (asX X) Y) 290 0)) + ((llY (asX X) Y) 290 1)) + ((llY (asX X) Y) 290 2)) + ((llY (asX X) Y) 290 3)) - (((((0 + (((asX X) 286 24).toInt64)) + (((asX X) 286 25).toInt64)) + (((asX X) 286 26).toInt64)) + (((asX X) 286 27).toInt64)) * ((llY (asX X) Y) 285 5))) (hgk : gok 100 (((((0 + ((llY (asX X) Y) 290 0)) + ((llY (asX X) Y) 290 1)) + ((llY (asX X) Y) 290 2)) + ((llY (asX X) Y) 290 3)) - (((((0 + (((asX X) 286 24).toInt64)) + (((asX X) 286 25).toInt64)) + (((asX X) 286 26).toInt64)) + (((asX X) 286 27).toInt64)) * ((llY (asX X) Y) 285 5))) (((((0 + (((asX X) 286 24).toInt64)) + (((asX X) 286 25).toInt64)) + (((asX X) 286 26).toInt64)) + (((asX X) 286 27).toInt64)) * ((llY (asX X) Y) 285 5))) (hg : ¬ (gcdL 100 (((((0 + ((llY (asX X) Y) 290 0)) + ((llY (asX X) Y) 290 1)) + ((llY (asX X) Y) 290 2)) + ((llY (asX X) Y) 290 3)) - (((((0 + (((asX X) 286 24).toInt64)) + (((asX X) 286 25).toInt64)) + (((asX X) 286 26).toInt64)) + (((asX X) 286 27).toInt64)) * ((llY (asX X) Y) 285 5))) (((((0 + (((asX X) 286 24).toInt64)) + (((asX X) 286 25).toInt64)) + (((asX X) 286 26).toInt64)) + (((asX X) 286 27).toInt64)) * ((llY (asX X) Y) 285 5)) = 0)) : Ct l yX6_circulatingLoad cX6_circulatingLoad 8 (some .long) 3 71 G o [.ref (o + 285), .int 1] X Y (some (.long ((((((0 + (((asX X) 286 24).toInt64)) + (((asX X) 286 25).toInt64)) + (((asX X) 286 26).toInt64)) + (((asX X) 286 27).toInt64)) * ((llY (asX X) Y) 285 5)) / gcdL 100 (((((0 + ((llY (asX X) Y) 290 0)) + ((llY (asX X) Y) 290 1)) + ((llY (asX X) Y) 290 2)) + ((llY (asX X) Y) 290 3)) - (((((0 + (((asX X) 286 24).toInt64)) + (((asX X) 286 25).toInt64)) + (((asX X) 286 26).toInt64)) + (((asX X) 286 27).toInt64)) * ((llY (asX X) Y) 285 5))) (((((0 + (((asX X) 286 24).toInt64)) + (((asX X) 286 25).toInt64)) + (((asX X) 286 26).toInt64)) + (((asX X) 286 27).toInt64)) * ((llY (asX X) Y) 285 5))))) (asX X) (llY (asX X) Y) := by
  refine Ct.mk (by decide +kernel) (Nat.le_of_ble_eq_true rfl) rfl ?_
  intro p9 e9 s9 m9 args9 below9 meth9 c9 hE hr hlocks hK hI ls hl
  have hx := hE.1
  have hb := hE.2.1
  have hl : lv_has ls 8 [(0, .ref (o + 285)), (1, .int 1)] := hl
  refine lv_aload_n hx hb dX6_circulatingLoad_0 rfl (lv_at hl 0 rfl) ?_
  refine lv_iconst (v := 0) hx hb dX6_circulatingLoad_1 (by decide) ?_
  refine lv_iload_n hx hb dX6_circulatingLoad_2 rfl (lv_at hl 1 rfl) ?_
  refine x_callVi (k := 285) hE hK hI (c_X6_wrongSteady_y l G o _ _ 0 1 (by decide) (by decide) h) mf_X6_wrongSteady mw_540 (by decide) ((e_285 G o) _ _) rfl rfl hl.1 rfl (Nat.le_of_ble_eq_true rfl) ⟨(Nat.le_of_ble_eq_true rfl), (Nat.le_of_ble_eq_true rfl)⟩ ⟨Nat.zero_le _, Nat.zero_le _⟩ dX6_circulatingLoad_3 (fun H locs hI => ?_)
  refine lv_istore_n (lv' := [(2, .int 0), (0, .ref (o + 285)), (1, .int 1)]) hx hb dX6_circulatingLoad_6 rfl hl (by decide) rfl (fun ls hl => ?_)
  refine lv_iload_n hx hb dX6_circulatingLoad_7 rfl (lv_at hl 0 rfl) ?_
  refine lv_if_eq (tgt := 14) hx hb dX6_circulatingLoad_8 (by decide) (fun _ => ?_) (fun q => absurd (by decide) q)
  refine lv_lconst (v := 0) hx hb dX6_circulatingLoad_14 (by decide) ?_
  refine lv_lstore_n (lv' := [(3, .long 0), (2, .int 0), (0, .ref (o + 285)), (1, .int 1)]) hx hb dX6_circulatingLoad_15 rfl hl (by decide) rfl (fun ls hl => ?_)
  refine lv_lconst (v := 0) hx hb dX6_circulatingLoad_16 (by decide) ?_
  refine lv_lstore (lv' := [(5, .long 0), (3, .long 0), (2, .int 0), (0, .ref (o + 285)), (1, .int 1)]) hx hb dX6_circulatingLoad_17 hl (by decide) rfl (fun ls hl => ?_)
  refine lv_iconst (v := 0) hx hb dX6_circulatingLoad_19 (by decide) ?_
  refine lv_istore (lv' := [(7, .int 0), (5, .long 0), (3, .long 0), (2, .int 0), (0, .ref (o + 285)), (1, .int 1)]) hx hb dX6_circulatingLoad_20 hl (by decide) rfl (fun ls hl => ?_)
  refine lv_iload hx hb dX6_circulatingLoad_22 (lv_at hl 0 rfl) ?_
  refine lv_iconst (v := 4) hx hb dX6_circulatingLoad_24 (by decide) ?_
  refine lv_icmp_ge (tgt := 60) hx hb dX6_circulatingLoad_25 (by decide) (fun q => absurd q (by decide)) (fun _ => ?_)
  refine lv_lload_n hx hb dX6_circulatingLoad_28 rfl (lv_at hl 2 rfl) ?_
  refine lv_aload_n hx hb dX6_circulatingLoad_29 rfl (lv_at hl 4 rfl) ?_
  refine x_get (k := 285) hE hK hI (by decide) inG6 (e_285 G o _ _) rfl 4 (by decide) mw_484 rfl dX6_circulatingLoad_30 ?_
  refine lv_iload hx hb dX6_circulatingLoad_33 (lv_at hl 0 rfl) ?_
  refine x_lald (k := 290) (j := 0) hE hK hI (by decide) (e_290 G o) (by decide) (by decide) rfl dX6_circulatingLoad_35 ?_
  refine lv_ladd hx hb dX6_circulatingLoad_36 ?_
  refine lv_lstore_n (lv' := [(3, .long (0 + ((llY (asX X) Y) 290 0))), (7, .int 0), (5, .long 0), (2, .int 0), (0, .ref (o + 285)), (1, .int 1)]) hx hb dX6_circulatingLoad_37 rfl hl (by decide) rfl (fun ls hl => ?_)
  refine lv_lload hx hb dX6_circulatingLoad_38 (lv_at hl 2 rfl) ?_
  refine lv_aload_n hx hb dX6_circulatingLoad_40 rfl (lv_at hl 4 rfl) ?_
  refine x_get (k := 285) hE hK hI (by decide) inG6 (e_285 G o _ _) rfl 0 (by decide) mw_480 rfl dX6_circulatingLoad_41 ?_
  refine lv_bipush (v := 24) hx hb dX6_circulatingLoad_44 (by decide) ?_
  refine lv_iload hx hb dX6_circulatingLoad_46 (lv_at hl 1 rfl) ?_
  refine lv_iadd hx hb dX6_circulatingLoad_48 ?_
  refine lv_topi (fun z1 ez1 => ?_)
  obtain rfl : 24 = z1 := (ez1.trans (by decide)).symm
  refine x_iald (k := 286) (j := 24) hE hK hI (by decide) (e_286 G o) (by decide) (by decide) rfl dX6_circulatingLoad_49 ?_
  refine lv_i2l hx hb dX6_circulatingLoad_50 rfl ?_
  refine lv_ladd hx hb dX6_circulatingLoad_51 ?_
  refine lv_lstore (lv' := [(5, .long (0 + (((asX X) 286 24).toInt64))), (3, .long (0 + ((llY (asX X) Y) 290 0))), (7, .int 0), (2, .int 0), (0, .ref (o + 285)), (1, .int 1)]) hx hb dX6_circulatingLoad_52 hl (by decide) rfl (fun ls hl => ?_)
  refine lv_iinc (v := 1) (lv' := [(7, .int 1), (5, .long (0 + (((asX X) 286 24).toInt64))), (3, .long (0 + ((llY (asX X) Y) 290 0))), (2, .int 0), (0, .ref (o + 285)), (1, .int 1)]) hx hb dX6_circulatingLoad_54 hl (k := 2) rfl (by decide) (by decide) rfl (fun ls hl => ?_)
  refine lv_goto (tgt := 22) hx hb dX6_circulatingLoad_57 (by decide) ?_
  refine lv_iload hx hb dX6_circulatingLoad_22 (lv_at hl 0 rfl) ?_
  refine lv_iconst (v := 4) hx hb dX6_circulatingLoad_24 (by decide) ?_
  refine lv_icmp_ge (tgt := 60) hx hb dX6_circulatingLoad_25 (by decide) (fun q => absurd q (by decide)) (fun _ => ?_)
  refine lv_lload_n hx hb dX6_circulatingLoad_28 rfl (lv_at hl 2 rfl) ?_
  refine lv_aload_n hx hb dX6_circulatingLoad_29 rfl (lv_at hl 4 rfl) ?_
  refine x_get (k := 285) hE hK hI (by decide) inG6 (e_285 G o _ _) rfl 4 (by decide) mw_484 rfl dX6_circulatingLoad_30 ?_
  refine lv_iload hx hb dX6_circulatingLoad_33 (lv_at hl 0 rfl) ?_
  refine x_lald (k := 290) (j := 1) hE hK hI (by decide) (e_290 G o) (by decide) (by decide) rfl dX6_circulatingLoad_35 ?_
  refine lv_ladd hx hb dX6_circulatingLoad_36 ?_
  refine lv_lstore_n (lv' := [(3, .long ((0 + ((llY (asX X) Y) 290 0)) + ((llY (asX X) Y) 290 1))), (7, .int 1), (5, .long (0 + (((asX X) 286 24).toInt64))), (2, .int 0), (0, .ref (o + 285)), (1, .int 1)]) hx hb dX6_circulatingLoad_37 rfl hl (by decide) rfl (fun ls hl => ?_)
  refine lv_lload hx hb dX6_circulatingLoad_38 (lv_at hl 2 rfl) ?_
  refine lv_aload_n hx hb dX6_circulatingLoad_40 rfl (lv_at hl 4 rfl) ?_
  refine x_get (k := 285) hE hK hI (by decide) inG6 (e_285 G o _ _) rfl 0 (by decide) mw_480 rfl dX6_circulatingLoad_41 ?_
  refine lv_bipush (v := 24) hx hb dX6_circulatingLoad_44 (by decide) ?_
  refine lv_iload hx hb dX6_circulatingLoad_46 (lv_at hl 1 rfl) ?_
  refine lv_iadd hx hb dX6_circulatingLoad_48 ?_
  refine lv_topi (fun z2 ez2 => ?_)
  obtain rfl : 25 = z2 := (ez2.trans (by decide)).symm
  refine x_iald (k := 286) (j := 25) hE hK hI (by decide) (e_286 G o) (by decide) (by decide) rfl dX6_circulatingLoad_49 ?_
  refine lv_i2l hx hb dX6_circulatingLoad_50 rfl ?_
  refine lv_ladd hx hb dX6_circulatingLoad_51 ?_
  refine lv_lstore (lv' := [(5, .long ((0 + (((asX X) 286 24).toInt64)) + (((asX X) 286 25).toInt64))), (3, .long ((0 + ((llY (asX X) Y) 290 0)) + ((llY (asX X) Y) 290 1))), (7, .int 1), (2, .int 0), (0, .ref (o + 285)), (1, .int 1)]) hx hb dX6_circulatingLoad_52 hl (by decide) rfl (fun ls hl => ?_)
  refine lv_iinc (v := 2) (lv' := [(7, .int 2), (5, .long ((0 + (((asX X) 286 24).toInt64)) + (((asX X) 286 25).toInt64))), (3, .long ((0 + ((llY (asX X) Y) 290 0)) + ((llY (asX X) Y) 290 1))), (2, .int 0), (0, .ref (o + 285)), (1, .int 1)]) hx hb dX6_circulatingLoad_54 hl (k := 2) rfl (by decide) (by decide) rfl (fun ls hl => ?_)
  refine lv_goto (tgt := 22) hx hb dX6_circulatingLoad_57 (by decide) ?_
  refine lv_iload hx hb dX6_circulatingLoad_22 (lv_at hl 0 rfl) ?_
  refine lv_iconst (v := 4) hx hb dX6_circulatingLoad_24 (by decide) ?_
  refine lv_icmp_ge (tgt := 60) hx hb dX6_circulatingLoad_25 (by decide) (fun q => absurd q (by decide)) (fun _ => ?_)
  refine lv_lload_n hx hb dX6_circulatingLoad_28 rfl (lv_at hl 2 rfl) ?_
  refine lv_aload_n hx hb dX6_circulatingLoad_29 rfl (lv_at hl 4 rfl) ?_
  refine x_get (k := 285) hE hK hI (by decide) inG6 (e_285 G o _ _) rfl 4 (by decide) mw_484 rfl dX6_circulatingLoad_30 ?_
  refine lv_iload hx hb dX6_circulatingLoad_33 (lv_at hl 0 rfl) ?_
  refine x_lald (k := 290) (j := 2) hE hK hI (by decide) (e_290 G o) (by decide) (by decide) rfl dX6_circulatingLoad_35 ?_
  refine lv_ladd hx hb dX6_circulatingLoad_36 ?_
  refine lv_lstore_n (lv' := [(3, .long (((0 + ((llY (asX X) Y) 290 0)) + ((llY (asX X) Y) 290 1)) + ((llY (asX X) Y) 290 2))), (7, .int 2), (5, .long ((0 + (((asX X) 286 24).toInt64)) + (((asX X) 286 25).toInt64))), (2, .int 0), (0, .ref (o + 285)), (1, .int 1)]) hx hb dX6_circulatingLoad_37 rfl hl (by decide) rfl (fun ls hl => ?_)
  refine lv_lload hx hb dX6_circulatingLoad_38 (lv_at hl 2 rfl) ?_
  refine lv_aload_n hx hb dX6_circulatingLoad_40 rfl (lv_at hl 4 rfl) ?_
  refine x_get (k := 285) hE hK hI (by decide) inG6 (e_285 G o _ _) rfl 0 (by decide) mw_480 rfl dX6_circulatingLoad_41 ?_
  refine lv_bipush (v := 24) hx hb dX6_circulatingLoad_44 (by decide) ?_
  refine lv_iload hx hb dX6_circulatingLoad_46 (lv_at hl 1 rfl) ?_
  refine lv_iadd hx hb dX6_circulatingLoad_48 ?_
  refine lv_topi (fun z3 ez3 => ?_)
  obtain rfl : 26 = z3 := (ez3.trans (by decide)).symm
  refine x_iald (k := 286) (j := 26) hE hK hI (by decide) (e_286 G o) (by decide) (by decide) rfl dX6_circulatingLoad_49 ?_
  refine lv_i2l hx hb dX6_circulatingLoad_50 rfl ?_
  refine lv_ladd hx hb dX6_circulatingLoad_51 ?_
  refine lv_lstore (lv' := [(5, .long (((0 + (((asX X) 286 24).toInt64)) + (((asX X) 286 25).toInt64)) + (((asX X) 286 26).toInt64))), (3, .long (((0 + ((llY (asX X) Y) 290 0)) + ((llY (asX X) Y) 290 1)) + ((llY (asX X) Y) 290 2))), (7, .int 2), (2, .int 0), (0, .ref (o + 285)), (1, .int 1)]) hx hb dX6_circulatingLoad_52 hl (by decide) rfl (fun ls hl => ?_)
  refine lv_iinc (v := 3) (lv' := [(7, .int 3), (5, .long (((0 + (((asX X) 286 24).toInt64)) + (((asX X) 286 25).toInt64)) + (((asX X) 286 26).toInt64))), (3, .long (((0 + ((llY (asX X) Y) 290 0)) + ((llY (asX X) Y) 290 1)) + ((llY (asX X) Y) 290 2))), (2, .int 0), (0, .ref (o + 285)), (1, .int 1)]) hx hb dX6_circulatingLoad_54 hl (k := 2) rfl (by decide) (by decide) rfl (fun ls hl => ?_)
  refine lv_goto (tgt := 22) hx hb dX6_circulatingLoad_57 (by decide) ?_
  refine lv_iload hx hb dX6_circulatingLoad_22 (lv_at hl 0 rfl) ?_
  refine lv_iconst (v := 4) hx hb dX6_circulatingLoad_24 (by decide) ?_
  refine lv_icmp_ge (tgt := 60) hx hb dX6_circulatingLoad_25 (by decide) (fun q => absurd q (by decide)) (fun _ => ?_)
  refine lv_lload_n hx hb dX6_circulatingLoad_28 rfl (lv_at hl 2 rfl) ?_
  refine lv_aload_n hx hb dX6_circulatingLoad_29 rfl (lv_at hl 4 rfl) ?_
  refine x_get (k := 285) hE hK hI (by decide) inG6 (e_285 G o _ _) rfl 4 (by decide) mw_484 rfl dX6_circulatingLoad_30 ?_
  refine lv_iload hx hb dX6_circulatingLoad_33 (lv_at hl 0 rfl) ?_
  refine x_lald (k := 290) (j := 3) hE hK hI (by decide) (e_290 G o) (by decide) (by decide) rfl dX6_circulatingLoad_35 ?_
  refine lv_ladd hx hb dX6_circulatingLoad_36 ?_
  refine lv_lstore_n (lv' := [(3, .long ((((0 + ((llY (asX X) Y) 290 0)) + ((llY (asX X) Y) 290 1)) + ((llY (asX X) Y) 290 2)) + ((llY (asX X) Y) 290 3))), (7, .int 3), (5, .long (((0 + (((asX X) 286 24).toInt64)) + (((asX X) 286 25).toInt64)) + (((asX X) 286 26).toInt64))), (2, .int 0), (0, .ref (o + 285)), (1, .int 1)]) hx hb dX6_circulatingLoad_37 rfl hl (by decide) rfl (fun ls hl => ?_)
  refine lv_lload hx hb dX6_circulatingLoad_38 (lv_at hl 2 rfl) ?_
  refine lv_aload_n hx hb dX6_circulatingLoad_40 rfl (lv_at hl 4 rfl) ?_
  refine x_get (k := 285) hE hK hI (by decide) inG6 (e_285 G o _ _) rfl 0 (by decide) mw_480 rfl dX6_circulatingLoad_41 ?_
  refine lv_bipush (v := 24) hx hb dX6_circulatingLoad_44 (by decide) ?_
  refine lv_iload hx hb dX6_circulatingLoad_46 (lv_at hl 1 rfl) ?_
  refine lv_iadd hx hb dX6_circulatingLoad_48 ?_
  refine lv_topi (fun z4 ez4 => ?_)
  obtain rfl : 27 = z4 := (ez4.trans (by decide)).symm
  refine x_iald (k := 286) (j := 27) hE hK hI (by decide) (e_286 G o) (by decide) (by decide) rfl dX6_circulatingLoad_49 ?_
  refine lv_i2l hx hb dX6_circulatingLoad_50 rfl ?_
  refine lv_ladd hx hb dX6_circulatingLoad_51 ?_
  refine lv_lstore (lv' := [(5, .long ((((0 + (((asX X) 286 24).toInt64)) + (((asX X) 286 25).toInt64)) + (((asX X) 286 26).toInt64)) + (((asX X) 286 27).toInt64))), (3, .long ((((0 + ((llY (asX X) Y) 290 0)) + ((llY (asX X) Y) 290 1)) + ((llY (asX X) Y) 290 2)) + ((llY (asX X) Y) 290 3))), (7, .int 3), (2, .int 0), (0, .ref (o + 285)), (1, .int 1)]) hx hb dX6_circulatingLoad_52 hl (by decide) rfl (fun ls hl => ?_)
  refine lv_iinc (v := 4) (lv' := [(7, .int 4), (5, .long ((((0 + (((asX X) 286 24).toInt64)) + (((asX X) 286 25).toInt64)) + (((asX X) 286 26).toInt64)) + (((asX X) 286 27).toInt64))), (3, .long ((((0 + ((llY (asX X) Y) 290 0)) + ((llY (asX X) Y) 290 1)) + ((llY (asX X) Y) 290 2)) + ((llY (asX X) Y) 290 3))), (2, .int 0), (0, .ref (o + 285)), (1, .int 1)]) hx hb dX6_circulatingLoad_54 hl (k := 2) rfl (by decide) (by decide) rfl (fun ls hl => ?_)
  refine lv_goto (tgt := 22) hx hb dX6_circulatingLoad_57 (by decide) ?_
  refine lv_iload hx hb dX6_circulatingLoad_22 (lv_at hl 0 rfl) ?_
  refine lv_iconst (v := 4) hx hb dX6_circulatingLoad_24 (by decide) ?_
  refine lv_icmp_ge (tgt := 60) hx hb dX6_circulatingLoad_25 (by decide) (fun _ => ?_) (fun q => absurd (by decide) q)
  refine lv_lload hx hb dX6_circulatingLoad_60 (lv_at hl 1 rfl) ?_
  refine lv_lconst (v := 0) hx hb dX6_circulatingLoad_62 (by decide) ?_
  refine W.lcmp hx hb dX6_circulatingLoad_63 ?_
  refine lv_if_ne (tgt := 73) hx hb dX6_circulatingLoad_64 (by decide) (fun _ => ?_) (fun q => absurd q (mt (lg_cmp_eq _ _).mp hz))
  refine lv_lload_n hx hb dX6_circulatingLoad_73 rfl (lv_at hl 2 rfl) ?_
  refine lv_lload hx hb dX6_circulatingLoad_74 (lv_at hl 1 rfl) ?_
  refine lv_aload_n hx hb dX6_circulatingLoad_76 rfl (lv_at hl 4 rfl) ?_
  refine x_get (k := 285) hE hK hI (by decide) inG6 (e_285 G o _ _) rfl 5 (by decide) mw_485 rfl dX6_circulatingLoad_77 ?_
  refine lv_lmul hx hb dX6_circulatingLoad_80 ?_
  refine lv_lsub hx hb dX6_circulatingLoad_81 ?_
  refine lv_lload hx hb dX6_circulatingLoad_82 (lv_at hl 1 rfl) ?_
  refine lv_aload_n hx hb dX6_circulatingLoad_84 rfl (lv_at hl 4 rfl) ?_
  refine x_get (k := 285) hE hK hI (by decide) inG6 (e_285 G o _ _) rfl 5 (by decide) mw_485 rfl dX6_circulatingLoad_85 ?_
  refine lv_lmul hx hb dX6_circulatingLoad_88 ?_
  refine lv_iload_n hx hb dX6_circulatingLoad_89 rfl (lv_at hl 5 rfl) ?_
  refine x_callSl hE hK hI (c_X6_part_1 l G o _ _ (((((0 + ((llY (asX X) Y) 290 0)) + ((llY (asX X) Y) 290 1)) + ((llY (asX X) Y) 290 2)) + ((llY (asX X) Y) 290 3)) - (((((0 + (((asX X) 286 24).toInt64)) + (((asX X) 286 25).toInt64)) + (((asX X) 286 26).toInt64)) + (((asX X) 286 27).toInt64)) * ((llY (asX X) Y) 285 5))) (((((0 + (((asX X) 286 24).toInt64)) + (((asX X) 286 25).toInt64)) + (((asX X) 286 26).toInt64)) + (((asX X) 286 27).toInt64)) * ((llY (asX X) Y) 285 5)) hg0 hgk hg) mf_X6_part mw_556 rfl hl.1 rfl (Nat.le_of_ble_eq_true rfl) ⟨(Nat.le_of_ble_eq_true rfl), (Nat.le_of_ble_eq_true rfl)⟩ ⟨Nat.zero_le _, Nat.zero_le _⟩ dX6_circulatingLoad_90 (fun H locs hI => ?_)
  exact x_lret hE hr hlocks hI rfl rfl rfl dX6_circulatingLoad_93
set_option maxRecDepth 100000 in
set_option maxHeartbeats 4000000 in
theorem c_X6_power_y1 (l : Launch) (G : GG) (o : Nat) (X : SX) (Y : SY) (h : ¬ (llr (asX X) Y = 0)) (hg0 : 0 ≤ pwrM (asX X) (llY (asX X) Y)) (hgk : gok 100 (pwrM (asX X) (llY (asX X) Y)) ((llY (asX X) Y) 285 5)) (hg : ¬ (gcdL 100 (pwrM (asX X) (llY (asX X) Y)) ((llY (asX X) Y) 285 5) = 0)) : Ct l yX6_power cX6_power 3 (some .long) 3 71 G o [.ref (o + 285), .int 1] X Y (some (.long (((llY (asX X) Y) 285 5) / gcdL 100 (pwrM (asX X) (llY (asX X) Y)) ((llY (asX X) Y) 285 5)))) (asX X) (llY (asX X) Y) := by
  refine Ct.mk (by decide +kernel) (Nat.le_of_ble_eq_true rfl) rfl ?_
  intro p9 e9 s9 m9 args9 below9 meth9 c9 hE hr hlocks hK hI ls hl
  have hx := hE.1
  have hb := hE.2.1
  have hl : lv_has ls 3 [(0, .ref (o + 285)), (1, .int 1)] := hl
  refine lv_aload_n hx hb dX6_power_0 rfl (lv_at hl 0 rfl) ?_
  refine lv_iconst (v := 0) hx hb dX6_power_1 (by decide) ?_
  refine lv_iload_n hx hb dX6_power_2 rfl (lv_at hl 1 rfl) ?_
  refine x_callVi (k := 285) hE hK hI (c_X6_wrongSteady_y l G o _ _ 0 1 (by decide) (by decide) h) mf_X6_wrongSteady mw_540 (by decide) ((e_285 G o) _ _) rfl rfl hl.1 rfl (Nat.le_of_ble_eq_true rfl) ⟨(Nat.le_of_ble_eq_true rfl), (Nat.le_of_ble_eq_true rfl)⟩ ⟨Nat.zero_le _, Nat.zero_le _⟩ dX6_power_3 (fun H locs hI => ?_)
  refine lv_istore_n (lv' := [(2, .int 0), (0, .ref (o + 285)), (1, .int 1)]) hx hb dX6_power_6 rfl hl (by decide) rfl (fun ls hl => ?_)
  refine lv_iload_n hx hb dX6_power_7 rfl (lv_at hl 0 rfl) ?_
  refine lv_if_eq (tgt := 16) hx hb dX6_power_8 (by decide) (fun _ => ?_) (fun q => absurd (by decide) q)
  refine lv_aload_n hx hb dX6_power_16 rfl (lv_at hl 1 rfl) ?_
  refine x_callVl (k := 285) hE hK hI (c_X6_powerOf l G o _ _  ) mf_X6_powerOf mw_572 (by decide) ((e_285 G o) _ _) rfl rfl hl.1 rfl (Nat.le_of_ble_eq_true rfl) ⟨(Nat.le_of_ble_eq_true rfl), (Nat.le_of_ble_eq_true rfl)⟩ ⟨Nat.zero_le _, Nat.zero_le _⟩ dX6_power_17 (fun H locs hI => ?_)
  refine lv_aload_n hx hb dX6_power_20 rfl (lv_at hl 1 rfl) ?_
  refine x_get (k := 285) hE hK hI (by decide) inG6 (e_285 G o _ _) rfl 5 (by decide) mw_485 rfl dX6_power_21 ?_
  refine lv_iload_n hx hb dX6_power_24 rfl (lv_at hl 2 rfl) ?_
  refine x_callSl hE hK hI (c_X6_part_1 l G o _ _ (pwrM (asX X) (llY (asX X) Y)) ((llY (asX X) Y) 285 5) hg0 hgk hg) mf_X6_part mw_556 rfl hl.1 rfl (Nat.le_of_ble_eq_true rfl) ⟨(Nat.le_of_ble_eq_true rfl), (Nat.le_of_ble_eq_true rfl)⟩ ⟨Nat.zero_le _, Nat.zero_le _⟩ dX6_power_25 (fun H locs hI => ?_)
  exact x_lret hE hr hlocks hI rfl rfl rfl dX6_power_28
set_option maxRecDepth 100000 in
set_option maxHeartbeats 4000000 in
theorem c_X6_cutPower_a (l : Launch) (G : GG) (o : Nat) (X : SX) (Y : SY) (u : Int32) (v : Int32) (h : ¬ (Wi u 0 4)) : Ct l yX6_cutPower cX6_cutPower 3 (some .long) 1 22 G o [.ref (o + 285), .int u, .int v] X Y (some (.long (-3))) X Y := by
  refine Ct.mk (by decide +kernel) (Nat.le_of_ble_eq_true rfl) rfl ?_
  intro p9 e9 s9 m9 args9 below9 meth9 c9 hE hr hlocks hK hI ls hl
  have hx := hE.1
  have hb := hE.2.1
  have hl : lv_has ls 3 [(0, .ref (o + 285)), (1, .int u), (2, .int v)] := hl
  refine lv_iload_n hx hb dX6_cutPower_0 rfl (lv_at hl 1 rfl) ?_
  refine lv_iconst (v := 0) hx hb dX6_cutPower_1 (by decide) ?_
  refine lv_iconst (v := 4) hx hb dX6_cutPower_2 (by decide) ?_
  refine x_callSi hE hK hI (c_X6_in l G o _ _ u 0 4 ) mf_X6_in mw_509 rfl hl.1 rfl (Nat.le_of_ble_eq_true rfl) ⟨(Nat.le_of_ble_eq_true rfl), (Nat.le_of_ble_eq_true rfl)⟩ ⟨Nat.zero_le _, Nat.zero_le _⟩ dX6_cutPower_3 (fun H locs hI => ?_)
  refine lv_topi (fun z1 ez1 => ?_)
  obtain rfl : 0 = z1 := (ez1.trans (bI_f h)).symm
  refine lv_if_eq (tgt := 16) hx hb dX6_cutPower_6 (by decide) (fun _ => ?_) (fun q => absurd (by decide) q)
  refine lv_ldc2 hx hb hE.2.2.2.1 (hE.2.2.2.2 _ mw_580) dX6_cutPower_16 ?_
  exact x_lret hE hr hlocks hI rfl rfl rfl dX6_cutPower_19
set_option maxRecDepth 100000 in
set_option maxHeartbeats 4000000 in
theorem c_X6_cutPower_b (l : Launch) (G : GG) (o : Nat) (X : SX) (Y : SY) (u : Int32) (v : Int32) (h1 : Wi u 0 4) (h : ¬ (Wi v 0 1)) : Ct l yX6_cutPower cX6_cutPower 3 (some .long) 2 42 G o [.ref (o + 285), .int u, .int v] X Y (some (.long (-3))) X Y := by
  refine Ct.mk (by decide +kernel) (Nat.le_of_ble_eq_true rfl) rfl ?_
  intro p9 e9 s9 m9 args9 below9 meth9 c9 hE hr hlocks hK hI ls hl
  have hx := hE.1
  have hb := hE.2.1
  have hl : lv_has ls 3 [(0, .ref (o + 285)), (1, .int u), (2, .int v)] := hl
  refine lv_iload_n hx hb dX6_cutPower_0 rfl (lv_at hl 1 rfl) ?_
  refine lv_iconst (v := 0) hx hb dX6_cutPower_1 (by decide) ?_
  refine lv_iconst (v := 4) hx hb dX6_cutPower_2 (by decide) ?_
  refine x_callSi hE hK hI (c_X6_in l G o _ _ u 0 4 ) mf_X6_in mw_509 rfl hl.1 rfl (Nat.le_of_ble_eq_true rfl) ⟨(Nat.le_of_ble_eq_true rfl), (Nat.le_of_ble_eq_true rfl)⟩ ⟨Nat.zero_le _, Nat.zero_le _⟩ dX6_cutPower_3 (fun H locs hI => ?_)
  refine lv_topi (fun z1 ez1 => ?_)
  obtain rfl : 1 = z1 := (ez1.trans (bI_t h1)).symm
  refine lv_if_eq (tgt := 16) hx hb dX6_cutPower_6 (by decide) (fun q => absurd q (by decide)) (fun _ => ?_)
  refine lv_iload_n hx hb dX6_cutPower_9 rfl (lv_at hl 2 rfl) ?_
  refine x_callSi hE hK hI (c_X6_isPart l G o _ _ v ) mf_X6_isPart mw_544 rfl hl.1 rfl (Nat.le_of_ble_eq_true rfl) ⟨(Nat.le_of_ble_eq_true rfl), (Nat.le_of_ble_eq_true rfl)⟩ ⟨Nat.zero_le _, Nat.zero_le _⟩ dX6_cutPower_10 (fun H locs hI => ?_)
  refine lv_topi (fun z2 ez2 => ?_)
  obtain rfl : 0 = z2 := (ez2.trans (bI_f h)).symm
  refine lv_if_ne (tgt := 20) hx hb dX6_cutPower_13 (by decide) (fun q => absurd (by decide) q) (fun _ => ?_)
  refine lv_ldc2 hx hb hE.2.2.2.1 (hE.2.2.2.2 _ mw_580) dX6_cutPower_16 ?_
  exact x_lret hE hr hlocks hI rfl rfl rfl dX6_cutPower_19
set_option maxRecDepth 100000 in
set_option maxHeartbeats 4000000 in
theorem c_X6_cutPower_n0_0 (l : Launch) (G : GG) (o : Nat) (X : SX) (Y : SY) (h : llr (ac0X X) Y = 0) : Ct l yX6_cutPower cX6_cutPower 3 (some .long) 2 49 G o [.ref (o + 285), .int 0, .int 0] X Y (some (.long (-5))) (ac0X X) (llY (ac0X X) Y) := by
  refine Ct.mk (by decide +kernel) (Nat.le_of_ble_eq_true rfl) rfl ?_
  intro p9 e9 s9 m9 args9 below9 meth9 c9 hE hr hlocks hK hI ls hl
  have hx := hE.1
  have hb := hE.2.1
  have hl : lv_has ls 3 [(0, .ref (o + 285)), (1, .int 0), (2, .int 0)] := hl
  refine lv_iload_n hx hb dX6_cutPower_0 rfl (lv_at hl 1 rfl) ?_
  refine lv_iconst (v := 0) hx hb dX6_cutPower_1 (by decide) ?_
  refine lv_iconst (v := 4) hx hb dX6_cutPower_2 (by decide) ?_
  refine x_callSi hE hK hI (c_X6_in l G o _ _ 0 0 4 ) mf_X6_in mw_509 rfl hl.1 rfl (Nat.le_of_ble_eq_true rfl) ⟨(Nat.le_of_ble_eq_true rfl), (Nat.le_of_ble_eq_true rfl)⟩ ⟨Nat.zero_le _, Nat.zero_le _⟩ dX6_cutPower_3 (fun H locs hI => ?_)
  refine lv_topi (fun z1 ez1 => ?_)
  obtain rfl : 1 = z1 := (ez1.trans (bI_t (by decide))).symm
  refine lv_if_eq (tgt := 16) hx hb dX6_cutPower_6 (by decide) (fun q => absurd q (by decide)) (fun _ => ?_)
  refine lv_iload_n hx hb dX6_cutPower_9 rfl (lv_at hl 2 rfl) ?_
  refine x_callSi hE hK hI (c_X6_isPart l G o _ _ 0 ) mf_X6_isPart mw_544 rfl hl.1 rfl (Nat.le_of_ble_eq_true rfl) ⟨(Nat.le_of_ble_eq_true rfl), (Nat.le_of_ble_eq_true rfl)⟩ ⟨Nat.zero_le _, Nat.zero_le _⟩ dX6_cutPower_10 (fun H locs hI => ?_)
  refine lv_topi (fun z2 ez2 => ?_)
  obtain rfl : 1 = z2 := (ez2.trans (bI_t (by decide))).symm
  refine lv_if_ne (tgt := 20) hx hb dX6_cutPower_13 (by decide) (fun _ => ?_) (fun q => absurd q (by decide))
  refine lv_aload_n hx hb dX6_cutPower_20 rfl (lv_at hl 0 rfl) ?_
  refine lv_iload_n hx hb dX6_cutPower_21 rfl (lv_at hl 1 rfl) ?_
  refine x_callVv (k := 285) hE hK hI (c_X6_asCut_0 l G o _ _  ) mf_X6_asCut mw_581 (by decide) ((e_285 G o) _ _) rfl rfl hl.1 rfl (Nat.le_of_ble_eq_true rfl) ⟨(Nat.le_of_ble_eq_true rfl), (Nat.le_of_ble_eq_true rfl)⟩ ⟨Nat.zero_le _, Nat.zero_le _⟩ dX6_cutPower_22 (fun H locs hI => ?_)
  refine lv_aload_n hx hb dX6_cutPower_25 rfl (lv_at hl 0 rfl) ?_
  refine x_callVi (k := 285) hE hK hI (c_X6_layLoads l G o _ _  ) mf_X6_layLoads mw_551 (by decide) ((e_285 G o) _ _) rfl rfl hl.1 rfl (Nat.le_of_ble_eq_true rfl) ⟨(Nat.le_of_ble_eq_true rfl), (Nat.le_of_ble_eq_true rfl)⟩ ⟨Nat.zero_le _, Nat.zero_le _⟩ dX6_cutPower_26 (fun H locs hI => ?_)
  refine lv_if_eq (tgt := 47) hx hb dX6_cutPower_29 (by decide) (fun _ => ?_) (fun q => absurd h q)
  refine lv_ldc2 hx hb hE.2.2.2.1 (hE.2.2.2.2 _ mw_585) dX6_cutPower_47 ?_
  exact x_lret hE hr hlocks hI rfl rfl rfl dX6_cutPower_50
set_option maxRecDepth 100000 in
set_option maxHeartbeats 4000000 in
theorem c_X6_cutPower_y0_0 (l : Launch) (G : GG) (o : Nat) (X : SX) (Y : SY) (h : ¬ (llr (ac0X X) Y = 0)) (hg0 : 0 ≤ pwrM (ac0X X) (llY (ac0X X) Y)) (hgk : gok 100 (pwrM (ac0X X) (llY (ac0X X) Y)) ((llY (ac0X X) Y) 285 5)) (hg : ¬ (gcdL 100 (pwrM (ac0X X) (llY (ac0X X) Y)) ((llY (ac0X X) Y) 285 5) = 0)) : Ct l yX6_cutPower cX6_cutPower 3 (some .long) 2 49 G o [.ref (o + 285), .int 0, .int 0] X Y (some (.long ((pwrM (ac0X X) (llY (ac0X X) Y)) / gcdL 100 (pwrM (ac0X X) (llY (ac0X X) Y)) ((llY (ac0X X) Y) 285 5)))) (ac0X X) (llY (ac0X X) Y) := by
  refine Ct.mk (by decide +kernel) (Nat.le_of_ble_eq_true rfl) rfl ?_
  intro p9 e9 s9 m9 args9 below9 meth9 c9 hE hr hlocks hK hI ls hl
  have hx := hE.1
  have hb := hE.2.1
  have hl : lv_has ls 3 [(0, .ref (o + 285)), (1, .int 0), (2, .int 0)] := hl
  refine lv_iload_n hx hb dX6_cutPower_0 rfl (lv_at hl 1 rfl) ?_
  refine lv_iconst (v := 0) hx hb dX6_cutPower_1 (by decide) ?_
  refine lv_iconst (v := 4) hx hb dX6_cutPower_2 (by decide) ?_
  refine x_callSi hE hK hI (c_X6_in l G o _ _ 0 0 4 ) mf_X6_in mw_509 rfl hl.1 rfl (Nat.le_of_ble_eq_true rfl) ⟨(Nat.le_of_ble_eq_true rfl), (Nat.le_of_ble_eq_true rfl)⟩ ⟨Nat.zero_le _, Nat.zero_le _⟩ dX6_cutPower_3 (fun H locs hI => ?_)
  refine lv_topi (fun z1 ez1 => ?_)
  obtain rfl : 1 = z1 := (ez1.trans (bI_t (by decide))).symm
  refine lv_if_eq (tgt := 16) hx hb dX6_cutPower_6 (by decide) (fun q => absurd q (by decide)) (fun _ => ?_)
  refine lv_iload_n hx hb dX6_cutPower_9 rfl (lv_at hl 2 rfl) ?_
  refine x_callSi hE hK hI (c_X6_isPart l G o _ _ 0 ) mf_X6_isPart mw_544 rfl hl.1 rfl (Nat.le_of_ble_eq_true rfl) ⟨(Nat.le_of_ble_eq_true rfl), (Nat.le_of_ble_eq_true rfl)⟩ ⟨Nat.zero_le _, Nat.zero_le _⟩ dX6_cutPower_10 (fun H locs hI => ?_)
  refine lv_topi (fun z2 ez2 => ?_)
  obtain rfl : 1 = z2 := (ez2.trans (bI_t (by decide))).symm
  refine lv_if_ne (tgt := 20) hx hb dX6_cutPower_13 (by decide) (fun _ => ?_) (fun q => absurd q (by decide))
  refine lv_aload_n hx hb dX6_cutPower_20 rfl (lv_at hl 0 rfl) ?_
  refine lv_iload_n hx hb dX6_cutPower_21 rfl (lv_at hl 1 rfl) ?_
  refine x_callVv (k := 285) hE hK hI (c_X6_asCut_0 l G o _ _  ) mf_X6_asCut mw_581 (by decide) ((e_285 G o) _ _) rfl rfl hl.1 rfl (Nat.le_of_ble_eq_true rfl) ⟨(Nat.le_of_ble_eq_true rfl), (Nat.le_of_ble_eq_true rfl)⟩ ⟨Nat.zero_le _, Nat.zero_le _⟩ dX6_cutPower_22 (fun H locs hI => ?_)
  refine lv_aload_n hx hb dX6_cutPower_25 rfl (lv_at hl 0 rfl) ?_
  refine x_callVi (k := 285) hE hK hI (c_X6_layLoads l G o _ _  ) mf_X6_layLoads mw_551 (by decide) ((e_285 G o) _ _) rfl rfl hl.1 rfl (Nat.le_of_ble_eq_true rfl) ⟨(Nat.le_of_ble_eq_true rfl), (Nat.le_of_ble_eq_true rfl)⟩ ⟨Nat.zero_le _, Nat.zero_le _⟩ dX6_cutPower_26 (fun H locs hI => ?_)
  refine lv_if_eq (tgt := 47) hx hb dX6_cutPower_29 (by decide) (fun q => absurd q h) (fun _ => ?_)
  refine lv_aload_n hx hb dX6_cutPower_32 rfl (lv_at hl 0 rfl) ?_
  refine x_callVl (k := 285) hE hK hI (c_X6_powerOf l G o _ _  ) mf_X6_powerOf mw_572 (by decide) ((e_285 G o) _ _) rfl rfl hl.1 rfl (Nat.le_of_ble_eq_true rfl) ⟨(Nat.le_of_ble_eq_true rfl), (Nat.le_of_ble_eq_true rfl)⟩ ⟨Nat.zero_le _, Nat.zero_le _⟩ dX6_cutPower_33 (fun H locs hI => ?_)
  refine lv_aload_n hx hb dX6_cutPower_36 rfl (lv_at hl 0 rfl) ?_
  refine x_get (k := 285) hE hK hI (by decide) inG6 (e_285 G o _ _) rfl 5 (by decide) mw_485 rfl dX6_cutPower_37 ?_
  refine lv_iload_n hx hb dX6_cutPower_40 rfl (lv_at hl 2 rfl) ?_
  refine x_callSl hE hK hI (c_X6_part_0 l G o _ _ (pwrM (ac0X X) (llY (ac0X X) Y)) ((llY (ac0X X) Y) 285 5) hg0 hgk hg) mf_X6_part mw_556 rfl hl.1 rfl (Nat.le_of_ble_eq_true rfl) ⟨(Nat.le_of_ble_eq_true rfl), (Nat.le_of_ble_eq_true rfl)⟩ ⟨Nat.zero_le _, Nat.zero_le _⟩ dX6_cutPower_41 (fun H locs hI => ?_)
  refine lv_goto (tgt := 50) hx hb dX6_cutPower_44 (by decide) ?_
  exact x_lret hE hr hlocks hI rfl rfl rfl dX6_cutPower_50
set_option maxRecDepth 100000 in
set_option maxHeartbeats 4000000 in
theorem c_X6_cutPower_n1_0 (l : Launch) (G : GG) (o : Nat) (X : SX) (Y : SY) (h : llr (ac0X X) Y = 0) : Ct l yX6_cutPower cX6_cutPower 3 (some .long) 2 49 G o [.ref (o + 285), .int 0, .int 1] X Y (some (.long (-5))) (ac0X X) (llY (ac0X X) Y) := by
  refine Ct.mk (by decide +kernel) (Nat.le_of_ble_eq_true rfl) rfl ?_
  intro p9 e9 s9 m9 args9 below9 meth9 c9 hE hr hlocks hK hI ls hl
  have hx := hE.1
  have hb := hE.2.1
  have hl : lv_has ls 3 [(0, .ref (o + 285)), (1, .int 0), (2, .int 1)] := hl
  refine lv_iload_n hx hb dX6_cutPower_0 rfl (lv_at hl 1 rfl) ?_
  refine lv_iconst (v := 0) hx hb dX6_cutPower_1 (by decide) ?_
  refine lv_iconst (v := 4) hx hb dX6_cutPower_2 (by decide) ?_
  refine x_callSi hE hK hI (c_X6_in l G o _ _ 0 0 4 ) mf_X6_in mw_509 rfl hl.1 rfl (Nat.le_of_ble_eq_true rfl) ⟨(Nat.le_of_ble_eq_true rfl), (Nat.le_of_ble_eq_true rfl)⟩ ⟨Nat.zero_le _, Nat.zero_le _⟩ dX6_cutPower_3 (fun H locs hI => ?_)
  refine lv_topi (fun z1 ez1 => ?_)
  obtain rfl : 1 = z1 := (ez1.trans (bI_t (by decide))).symm
  refine lv_if_eq (tgt := 16) hx hb dX6_cutPower_6 (by decide) (fun q => absurd q (by decide)) (fun _ => ?_)
  refine lv_iload_n hx hb dX6_cutPower_9 rfl (lv_at hl 2 rfl) ?_
  refine x_callSi hE hK hI (c_X6_isPart l G o _ _ 1 ) mf_X6_isPart mw_544 rfl hl.1 rfl (Nat.le_of_ble_eq_true rfl) ⟨(Nat.le_of_ble_eq_true rfl), (Nat.le_of_ble_eq_true rfl)⟩ ⟨Nat.zero_le _, Nat.zero_le _⟩ dX6_cutPower_10 (fun H locs hI => ?_)
  refine lv_topi (fun z2 ez2 => ?_)
  obtain rfl : 1 = z2 := (ez2.trans (bI_t (by decide))).symm
  refine lv_if_ne (tgt := 20) hx hb dX6_cutPower_13 (by decide) (fun _ => ?_) (fun q => absurd q (by decide))
  refine lv_aload_n hx hb dX6_cutPower_20 rfl (lv_at hl 0 rfl) ?_
  refine lv_iload_n hx hb dX6_cutPower_21 rfl (lv_at hl 1 rfl) ?_
  refine x_callVv (k := 285) hE hK hI (c_X6_asCut_0 l G o _ _  ) mf_X6_asCut mw_581 (by decide) ((e_285 G o) _ _) rfl rfl hl.1 rfl (Nat.le_of_ble_eq_true rfl) ⟨(Nat.le_of_ble_eq_true rfl), (Nat.le_of_ble_eq_true rfl)⟩ ⟨Nat.zero_le _, Nat.zero_le _⟩ dX6_cutPower_22 (fun H locs hI => ?_)
  refine lv_aload_n hx hb dX6_cutPower_25 rfl (lv_at hl 0 rfl) ?_
  refine x_callVi (k := 285) hE hK hI (c_X6_layLoads l G o _ _  ) mf_X6_layLoads mw_551 (by decide) ((e_285 G o) _ _) rfl rfl hl.1 rfl (Nat.le_of_ble_eq_true rfl) ⟨(Nat.le_of_ble_eq_true rfl), (Nat.le_of_ble_eq_true rfl)⟩ ⟨Nat.zero_le _, Nat.zero_le _⟩ dX6_cutPower_26 (fun H locs hI => ?_)
  refine lv_if_eq (tgt := 47) hx hb dX6_cutPower_29 (by decide) (fun _ => ?_) (fun q => absurd h q)
  refine lv_ldc2 hx hb hE.2.2.2.1 (hE.2.2.2.2 _ mw_585) dX6_cutPower_47 ?_
  exact x_lret hE hr hlocks hI rfl rfl rfl dX6_cutPower_50
set_option maxRecDepth 100000 in
set_option maxHeartbeats 4000000 in
theorem c_X6_cutPower_y1_0 (l : Launch) (G : GG) (o : Nat) (X : SX) (Y : SY) (h : ¬ (llr (ac0X X) Y = 0)) (hg0 : 0 ≤ pwrM (ac0X X) (llY (ac0X X) Y)) (hgk : gok 100 (pwrM (ac0X X) (llY (ac0X X) Y)) ((llY (ac0X X) Y) 285 5)) (hg : ¬ (gcdL 100 (pwrM (ac0X X) (llY (ac0X X) Y)) ((llY (ac0X X) Y) 285 5) = 0)) : Ct l yX6_cutPower cX6_cutPower 3 (some .long) 2 49 G o [.ref (o + 285), .int 0, .int 1] X Y (some (.long (((llY (ac0X X) Y) 285 5) / gcdL 100 (pwrM (ac0X X) (llY (ac0X X) Y)) ((llY (ac0X X) Y) 285 5)))) (ac0X X) (llY (ac0X X) Y) := by
  refine Ct.mk (by decide +kernel) (Nat.le_of_ble_eq_true rfl) rfl ?_
  intro p9 e9 s9 m9 args9 below9 meth9 c9 hE hr hlocks hK hI ls hl
  have hx := hE.1
  have hb := hE.2.1
  have hl : lv_has ls 3 [(0, .ref (o + 285)), (1, .int 0), (2, .int 1)] := hl
  refine lv_iload_n hx hb dX6_cutPower_0 rfl (lv_at hl 1 rfl) ?_
  refine lv_iconst (v := 0) hx hb dX6_cutPower_1 (by decide) ?_
  refine lv_iconst (v := 4) hx hb dX6_cutPower_2 (by decide) ?_
  refine x_callSi hE hK hI (c_X6_in l G o _ _ 0 0 4 ) mf_X6_in mw_509 rfl hl.1 rfl (Nat.le_of_ble_eq_true rfl) ⟨(Nat.le_of_ble_eq_true rfl), (Nat.le_of_ble_eq_true rfl)⟩ ⟨Nat.zero_le _, Nat.zero_le _⟩ dX6_cutPower_3 (fun H locs hI => ?_)
  refine lv_topi (fun z1 ez1 => ?_)
  obtain rfl : 1 = z1 := (ez1.trans (bI_t (by decide))).symm
  refine lv_if_eq (tgt := 16) hx hb dX6_cutPower_6 (by decide) (fun q => absurd q (by decide)) (fun _ => ?_)
  refine lv_iload_n hx hb dX6_cutPower_9 rfl (lv_at hl 2 rfl) ?_
  refine x_callSi hE hK hI (c_X6_isPart l G o _ _ 1 ) mf_X6_isPart mw_544 rfl hl.1 rfl (Nat.le_of_ble_eq_true rfl) ⟨(Nat.le_of_ble_eq_true rfl), (Nat.le_of_ble_eq_true rfl)⟩ ⟨Nat.zero_le _, Nat.zero_le _⟩ dX6_cutPower_10 (fun H locs hI => ?_)
  refine lv_topi (fun z2 ez2 => ?_)
  obtain rfl : 1 = z2 := (ez2.trans (bI_t (by decide))).symm
  refine lv_if_ne (tgt := 20) hx hb dX6_cutPower_13 (by decide) (fun _ => ?_) (fun q => absurd q (by decide))
  refine lv_aload_n hx hb dX6_cutPower_20 rfl (lv_at hl 0 rfl) ?_
  refine lv_iload_n hx hb dX6_cutPower_21 rfl (lv_at hl 1 rfl) ?_
  refine x_callVv (k := 285) hE hK hI (c_X6_asCut_0 l G o _ _  ) mf_X6_asCut mw_581 (by decide) ((e_285 G o) _ _) rfl rfl hl.1 rfl (Nat.le_of_ble_eq_true rfl) ⟨(Nat.le_of_ble_eq_true rfl), (Nat.le_of_ble_eq_true rfl)⟩ ⟨Nat.zero_le _, Nat.zero_le _⟩ dX6_cutPower_22 (fun H locs hI => ?_)
  refine lv_aload_n hx hb dX6_cutPower_25 rfl (lv_at hl 0 rfl) ?_
  refine x_callVi (k := 285) hE hK hI (c_X6_layLoads l G o _ _  ) mf_X6_layLoads mw_551 (by decide) ((e_285 G o) _ _) rfl rfl hl.1 rfl (Nat.le_of_ble_eq_true rfl) ⟨(Nat.le_of_ble_eq_true rfl), (Nat.le_of_ble_eq_true rfl)⟩ ⟨Nat.zero_le _, Nat.zero_le _⟩ dX6_cutPower_26 (fun H locs hI => ?_)
  refine lv_if_eq (tgt := 47) hx hb dX6_cutPower_29 (by decide) (fun q => absurd q h) (fun _ => ?_)
  refine lv_aload_n hx hb dX6_cutPower_32 rfl (lv_at hl 0 rfl) ?_
  refine x_callVl (k := 285) hE hK hI (c_X6_powerOf l G o _ _  ) mf_X6_powerOf mw_572 (by decide) ((e_285 G o) _ _) rfl rfl hl.1 rfl (Nat.le_of_ble_eq_true rfl) ⟨(Nat.le_of_ble_eq_true rfl), (Nat.le_of_ble_eq_true rfl)⟩ ⟨Nat.zero_le _, Nat.zero_le _⟩ dX6_cutPower_33 (fun H locs hI => ?_)
  refine lv_aload_n hx hb dX6_cutPower_36 rfl (lv_at hl 0 rfl) ?_
  refine x_get (k := 285) hE hK hI (by decide) inG6 (e_285 G o _ _) rfl 5 (by decide) mw_485 rfl dX6_cutPower_37 ?_
  refine lv_iload_n hx hb dX6_cutPower_40 rfl (lv_at hl 2 rfl) ?_
  refine x_callSl hE hK hI (c_X6_part_1 l G o _ _ (pwrM (ac0X X) (llY (ac0X X) Y)) ((llY (ac0X X) Y) 285 5) hg0 hgk hg) mf_X6_part mw_556 rfl hl.1 rfl (Nat.le_of_ble_eq_true rfl) ⟨(Nat.le_of_ble_eq_true rfl), (Nat.le_of_ble_eq_true rfl)⟩ ⟨Nat.zero_le _, Nat.zero_le _⟩ dX6_cutPower_41 (fun H locs hI => ?_)
  refine lv_goto (tgt := 50) hx hb dX6_cutPower_44 (by decide) ?_
  exact x_lret hE hr hlocks hI rfl rfl rfl dX6_cutPower_50
set_option maxRecDepth 100000 in
set_option maxHeartbeats 4000000 in
theorem c_X6_cutPower_n0_1 (l : Launch) (G : GG) (o : Nat) (X : SX) (Y : SY) (h : llr (ac1X X) Y = 0) : Ct l yX6_cutPower cX6_cutPower 3 (some .long) 2 49 G o [.ref (o + 285), .int 1, .int 0] X Y (some (.long (-5))) (ac1X X) (llY (ac1X X) Y) := by
  refine Ct.mk (by decide +kernel) (Nat.le_of_ble_eq_true rfl) rfl ?_
  intro p9 e9 s9 m9 args9 below9 meth9 c9 hE hr hlocks hK hI ls hl
  have hx := hE.1
  have hb := hE.2.1
  have hl : lv_has ls 3 [(0, .ref (o + 285)), (1, .int 1), (2, .int 0)] := hl
  refine lv_iload_n hx hb dX6_cutPower_0 rfl (lv_at hl 1 rfl) ?_
  refine lv_iconst (v := 0) hx hb dX6_cutPower_1 (by decide) ?_
  refine lv_iconst (v := 4) hx hb dX6_cutPower_2 (by decide) ?_
  refine x_callSi hE hK hI (c_X6_in l G o _ _ 1 0 4 ) mf_X6_in mw_509 rfl hl.1 rfl (Nat.le_of_ble_eq_true rfl) ⟨(Nat.le_of_ble_eq_true rfl), (Nat.le_of_ble_eq_true rfl)⟩ ⟨Nat.zero_le _, Nat.zero_le _⟩ dX6_cutPower_3 (fun H locs hI => ?_)
  refine lv_topi (fun z1 ez1 => ?_)
  obtain rfl : 1 = z1 := (ez1.trans (bI_t (by decide))).symm
  refine lv_if_eq (tgt := 16) hx hb dX6_cutPower_6 (by decide) (fun q => absurd q (by decide)) (fun _ => ?_)
  refine lv_iload_n hx hb dX6_cutPower_9 rfl (lv_at hl 2 rfl) ?_
  refine x_callSi hE hK hI (c_X6_isPart l G o _ _ 0 ) mf_X6_isPart mw_544 rfl hl.1 rfl (Nat.le_of_ble_eq_true rfl) ⟨(Nat.le_of_ble_eq_true rfl), (Nat.le_of_ble_eq_true rfl)⟩ ⟨Nat.zero_le _, Nat.zero_le _⟩ dX6_cutPower_10 (fun H locs hI => ?_)
  refine lv_topi (fun z2 ez2 => ?_)
  obtain rfl : 1 = z2 := (ez2.trans (bI_t (by decide))).symm
  refine lv_if_ne (tgt := 20) hx hb dX6_cutPower_13 (by decide) (fun _ => ?_) (fun q => absurd q (by decide))
  refine lv_aload_n hx hb dX6_cutPower_20 rfl (lv_at hl 0 rfl) ?_
  refine lv_iload_n hx hb dX6_cutPower_21 rfl (lv_at hl 1 rfl) ?_
  refine x_callVv (k := 285) hE hK hI (c_X6_asCut_1 l G o _ _  ) mf_X6_asCut mw_581 (by decide) ((e_285 G o) _ _) rfl rfl hl.1 rfl (Nat.le_of_ble_eq_true rfl) ⟨(Nat.le_of_ble_eq_true rfl), (Nat.le_of_ble_eq_true rfl)⟩ ⟨Nat.zero_le _, Nat.zero_le _⟩ dX6_cutPower_22 (fun H locs hI => ?_)
  refine lv_aload_n hx hb dX6_cutPower_25 rfl (lv_at hl 0 rfl) ?_
  refine x_callVi (k := 285) hE hK hI (c_X6_layLoads l G o _ _  ) mf_X6_layLoads mw_551 (by decide) ((e_285 G o) _ _) rfl rfl hl.1 rfl (Nat.le_of_ble_eq_true rfl) ⟨(Nat.le_of_ble_eq_true rfl), (Nat.le_of_ble_eq_true rfl)⟩ ⟨Nat.zero_le _, Nat.zero_le _⟩ dX6_cutPower_26 (fun H locs hI => ?_)
  refine lv_if_eq (tgt := 47) hx hb dX6_cutPower_29 (by decide) (fun _ => ?_) (fun q => absurd h q)
  refine lv_ldc2 hx hb hE.2.2.2.1 (hE.2.2.2.2 _ mw_585) dX6_cutPower_47 ?_
  exact x_lret hE hr hlocks hI rfl rfl rfl dX6_cutPower_50
set_option maxRecDepth 100000 in
set_option maxHeartbeats 4000000 in
theorem c_X6_cutPower_y0_1 (l : Launch) (G : GG) (o : Nat) (X : SX) (Y : SY) (h : ¬ (llr (ac1X X) Y = 0)) (hg0 : 0 ≤ pwrM (ac1X X) (llY (ac1X X) Y)) (hgk : gok 100 (pwrM (ac1X X) (llY (ac1X X) Y)) ((llY (ac1X X) Y) 285 5)) (hg : ¬ (gcdL 100 (pwrM (ac1X X) (llY (ac1X X) Y)) ((llY (ac1X X) Y) 285 5) = 0)) : Ct l yX6_cutPower cX6_cutPower 3 (some .long) 2 49 G o [.ref (o + 285), .int 1, .int 0] X Y (some (.long ((pwrM (ac1X X) (llY (ac1X X) Y)) / gcdL 100 (pwrM (ac1X X) (llY (ac1X X) Y)) ((llY (ac1X X) Y) 285 5)))) (ac1X X) (llY (ac1X X) Y) := by
  refine Ct.mk (by decide +kernel) (Nat.le_of_ble_eq_true rfl) rfl ?_
  intro p9 e9 s9 m9 args9 below9 meth9 c9 hE hr hlocks hK hI ls hl
  have hx := hE.1
  have hb := hE.2.1
  have hl : lv_has ls 3 [(0, .ref (o + 285)), (1, .int 1), (2, .int 0)] := hl
  refine lv_iload_n hx hb dX6_cutPower_0 rfl (lv_at hl 1 rfl) ?_
  refine lv_iconst (v := 0) hx hb dX6_cutPower_1 (by decide) ?_
  refine lv_iconst (v := 4) hx hb dX6_cutPower_2 (by decide) ?_
  refine x_callSi hE hK hI (c_X6_in l G o _ _ 1 0 4 ) mf_X6_in mw_509 rfl hl.1 rfl (Nat.le_of_ble_eq_true rfl) ⟨(Nat.le_of_ble_eq_true rfl), (Nat.le_of_ble_eq_true rfl)⟩ ⟨Nat.zero_le _, Nat.zero_le _⟩ dX6_cutPower_3 (fun H locs hI => ?_)
  refine lv_topi (fun z1 ez1 => ?_)
  obtain rfl : 1 = z1 := (ez1.trans (bI_t (by decide))).symm
  refine lv_if_eq (tgt := 16) hx hb dX6_cutPower_6 (by decide) (fun q => absurd q (by decide)) (fun _ => ?_)
  refine lv_iload_n hx hb dX6_cutPower_9 rfl (lv_at hl 2 rfl) ?_
  refine x_callSi hE hK hI (c_X6_isPart l G o _ _ 0 ) mf_X6_isPart mw_544 rfl hl.1 rfl (Nat.le_of_ble_eq_true rfl) ⟨(Nat.le_of_ble_eq_true rfl), (Nat.le_of_ble_eq_true rfl)⟩ ⟨Nat.zero_le _, Nat.zero_le _⟩ dX6_cutPower_10 (fun H locs hI => ?_)
  refine lv_topi (fun z2 ez2 => ?_)
  obtain rfl : 1 = z2 := (ez2.trans (bI_t (by decide))).symm
  refine lv_if_ne (tgt := 20) hx hb dX6_cutPower_13 (by decide) (fun _ => ?_) (fun q => absurd q (by decide))
  refine lv_aload_n hx hb dX6_cutPower_20 rfl (lv_at hl 0 rfl) ?_
  refine lv_iload_n hx hb dX6_cutPower_21 rfl (lv_at hl 1 rfl) ?_
  refine x_callVv (k := 285) hE hK hI (c_X6_asCut_1 l G o _ _  ) mf_X6_asCut mw_581 (by decide) ((e_285 G o) _ _) rfl rfl hl.1 rfl (Nat.le_of_ble_eq_true rfl) ⟨(Nat.le_of_ble_eq_true rfl), (Nat.le_of_ble_eq_true rfl)⟩ ⟨Nat.zero_le _, Nat.zero_le _⟩ dX6_cutPower_22 (fun H locs hI => ?_)
  refine lv_aload_n hx hb dX6_cutPower_25 rfl (lv_at hl 0 rfl) ?_
  refine x_callVi (k := 285) hE hK hI (c_X6_layLoads l G o _ _  ) mf_X6_layLoads mw_551 (by decide) ((e_285 G o) _ _) rfl rfl hl.1 rfl (Nat.le_of_ble_eq_true rfl) ⟨(Nat.le_of_ble_eq_true rfl), (Nat.le_of_ble_eq_true rfl)⟩ ⟨Nat.zero_le _, Nat.zero_le _⟩ dX6_cutPower_26 (fun H locs hI => ?_)
  refine lv_if_eq (tgt := 47) hx hb dX6_cutPower_29 (by decide) (fun q => absurd q h) (fun _ => ?_)
  refine lv_aload_n hx hb dX6_cutPower_32 rfl (lv_at hl 0 rfl) ?_
  refine x_callVl (k := 285) hE hK hI (c_X6_powerOf l G o _ _  ) mf_X6_powerOf mw_572 (by decide) ((e_285 G o) _ _) rfl rfl hl.1 rfl (Nat.le_of_ble_eq_true rfl) ⟨(Nat.le_of_ble_eq_true rfl), (Nat.le_of_ble_eq_true rfl)⟩ ⟨Nat.zero_le _, Nat.zero_le _⟩ dX6_cutPower_33 (fun H locs hI => ?_)
  refine lv_aload_n hx hb dX6_cutPower_36 rfl (lv_at hl 0 rfl) ?_
  refine x_get (k := 285) hE hK hI (by decide) inG6 (e_285 G o _ _) rfl 5 (by decide) mw_485 rfl dX6_cutPower_37 ?_
  refine lv_iload_n hx hb dX6_cutPower_40 rfl (lv_at hl 2 rfl) ?_
  refine x_callSl hE hK hI (c_X6_part_0 l G o _ _ (pwrM (ac1X X) (llY (ac1X X) Y)) ((llY (ac1X X) Y) 285 5) hg0 hgk hg) mf_X6_part mw_556 rfl hl.1 rfl (Nat.le_of_ble_eq_true rfl) ⟨(Nat.le_of_ble_eq_true rfl), (Nat.le_of_ble_eq_true rfl)⟩ ⟨Nat.zero_le _, Nat.zero_le _⟩ dX6_cutPower_41 (fun H locs hI => ?_)
  refine lv_goto (tgt := 50) hx hb dX6_cutPower_44 (by decide) ?_
  exact x_lret hE hr hlocks hI rfl rfl rfl dX6_cutPower_50
set_option maxRecDepth 100000 in
set_option maxHeartbeats 4000000 in
theorem c_X6_cutPower_n1_1 (l : Launch) (G : GG) (o : Nat) (X : SX) (Y : SY) (h : llr (ac1X X) Y = 0) : Ct l yX6_cutPower cX6_cutPower 3 (some .long) 2 49 G o [.ref (o + 285), .int 1, .int 1] X Y (some (.long (-5))) (ac1X X) (llY (ac1X X) Y) := by
  refine Ct.mk (by decide +kernel) (Nat.le_of_ble_eq_true rfl) rfl ?_
  intro p9 e9 s9 m9 args9 below9 meth9 c9 hE hr hlocks hK hI ls hl
  have hx := hE.1
  have hb := hE.2.1
  have hl : lv_has ls 3 [(0, .ref (o + 285)), (1, .int 1), (2, .int 1)] := hl
  refine lv_iload_n hx hb dX6_cutPower_0 rfl (lv_at hl 1 rfl) ?_
  refine lv_iconst (v := 0) hx hb dX6_cutPower_1 (by decide) ?_
  refine lv_iconst (v := 4) hx hb dX6_cutPower_2 (by decide) ?_
  refine x_callSi hE hK hI (c_X6_in l G o _ _ 1 0 4 ) mf_X6_in mw_509 rfl hl.1 rfl (Nat.le_of_ble_eq_true rfl) ⟨(Nat.le_of_ble_eq_true rfl), (Nat.le_of_ble_eq_true rfl)⟩ ⟨Nat.zero_le _, Nat.zero_le _⟩ dX6_cutPower_3 (fun H locs hI => ?_)
  refine lv_topi (fun z1 ez1 => ?_)
  obtain rfl : 1 = z1 := (ez1.trans (bI_t (by decide))).symm
  refine lv_if_eq (tgt := 16) hx hb dX6_cutPower_6 (by decide) (fun q => absurd q (by decide)) (fun _ => ?_)
  refine lv_iload_n hx hb dX6_cutPower_9 rfl (lv_at hl 2 rfl) ?_
  refine x_callSi hE hK hI (c_X6_isPart l G o _ _ 1 ) mf_X6_isPart mw_544 rfl hl.1 rfl (Nat.le_of_ble_eq_true rfl) ⟨(Nat.le_of_ble_eq_true rfl), (Nat.le_of_ble_eq_true rfl)⟩ ⟨Nat.zero_le _, Nat.zero_le _⟩ dX6_cutPower_10 (fun H locs hI => ?_)
  refine lv_topi (fun z2 ez2 => ?_)
  obtain rfl : 1 = z2 := (ez2.trans (bI_t (by decide))).symm
  refine lv_if_ne (tgt := 20) hx hb dX6_cutPower_13 (by decide) (fun _ => ?_) (fun q => absurd q (by decide))
  refine lv_aload_n hx hb dX6_cutPower_20 rfl (lv_at hl 0 rfl) ?_
  refine lv_iload_n hx hb dX6_cutPower_21 rfl (lv_at hl 1 rfl) ?_
  refine x_callVv (k := 285) hE hK hI (c_X6_asCut_1 l G o _ _  ) mf_X6_asCut mw_581 (by decide) ((e_285 G o) _ _) rfl rfl hl.1 rfl (Nat.le_of_ble_eq_true rfl) ⟨(Nat.le_of_ble_eq_true rfl), (Nat.le_of_ble_eq_true rfl)⟩ ⟨Nat.zero_le _, Nat.zero_le _⟩ dX6_cutPower_22 (fun H locs hI => ?_)
  refine lv_aload_n hx hb dX6_cutPower_25 rfl (lv_at hl 0 rfl) ?_
  refine x_callVi (k := 285) hE hK hI (c_X6_layLoads l G o _ _  ) mf_X6_layLoads mw_551 (by decide) ((e_285 G o) _ _) rfl rfl hl.1 rfl (Nat.le_of_ble_eq_true rfl) ⟨(Nat.le_of_ble_eq_true rfl), (Nat.le_of_ble_eq_true rfl)⟩ ⟨Nat.zero_le _, Nat.zero_le _⟩ dX6_cutPower_26 (fun H locs hI => ?_)
  refine lv_if_eq (tgt := 47) hx hb dX6_cutPower_29 (by decide) (fun _ => ?_) (fun q => absurd h q)
  refine lv_ldc2 hx hb hE.2.2.2.1 (hE.2.2.2.2 _ mw_585) dX6_cutPower_47 ?_
  exact x_lret hE hr hlocks hI rfl rfl rfl dX6_cutPower_50
set_option maxRecDepth 100000 in
set_option maxHeartbeats 4000000 in
theorem c_X6_cutPower_y1_1 (l : Launch) (G : GG) (o : Nat) (X : SX) (Y : SY) (h : ¬ (llr (ac1X X) Y = 0)) (hg0 : 0 ≤ pwrM (ac1X X) (llY (ac1X X) Y)) (hgk : gok 100 (pwrM (ac1X X) (llY (ac1X X) Y)) ((llY (ac1X X) Y) 285 5)) (hg : ¬ (gcdL 100 (pwrM (ac1X X) (llY (ac1X X) Y)) ((llY (ac1X X) Y) 285 5) = 0)) : Ct l yX6_cutPower cX6_cutPower 3 (some .long) 2 49 G o [.ref (o + 285), .int 1, .int 1] X Y (some (.long (((llY (ac1X X) Y) 285 5) / gcdL 100 (pwrM (ac1X X) (llY (ac1X X) Y)) ((llY (ac1X X) Y) 285 5)))) (ac1X X) (llY (ac1X X) Y) := by
  refine Ct.mk (by decide +kernel) (Nat.le_of_ble_eq_true rfl) rfl ?_
  intro p9 e9 s9 m9 args9 below9 meth9 c9 hE hr hlocks hK hI ls hl
  have hx := hE.1
  have hb := hE.2.1
  have hl : lv_has ls 3 [(0, .ref (o + 285)), (1, .int 1), (2, .int 1)] := hl
  refine lv_iload_n hx hb dX6_cutPower_0 rfl (lv_at hl 1 rfl) ?_
  refine lv_iconst (v := 0) hx hb dX6_cutPower_1 (by decide) ?_
  refine lv_iconst (v := 4) hx hb dX6_cutPower_2 (by decide) ?_
  refine x_callSi hE hK hI (c_X6_in l G o _ _ 1 0 4 ) mf_X6_in mw_509 rfl hl.1 rfl (Nat.le_of_ble_eq_true rfl) ⟨(Nat.le_of_ble_eq_true rfl), (Nat.le_of_ble_eq_true rfl)⟩ ⟨Nat.zero_le _, Nat.zero_le _⟩ dX6_cutPower_3 (fun H locs hI => ?_)
  refine lv_topi (fun z1 ez1 => ?_)
  obtain rfl : 1 = z1 := (ez1.trans (bI_t (by decide))).symm
  refine lv_if_eq (tgt := 16) hx hb dX6_cutPower_6 (by decide) (fun q => absurd q (by decide)) (fun _ => ?_)
  refine lv_iload_n hx hb dX6_cutPower_9 rfl (lv_at hl 2 rfl) ?_
  refine x_callSi hE hK hI (c_X6_isPart l G o _ _ 1 ) mf_X6_isPart mw_544 rfl hl.1 rfl (Nat.le_of_ble_eq_true rfl) ⟨(Nat.le_of_ble_eq_true rfl), (Nat.le_of_ble_eq_true rfl)⟩ ⟨Nat.zero_le _, Nat.zero_le _⟩ dX6_cutPower_10 (fun H locs hI => ?_)
  refine lv_topi (fun z2 ez2 => ?_)
  obtain rfl : 1 = z2 := (ez2.trans (bI_t (by decide))).symm
  refine lv_if_ne (tgt := 20) hx hb dX6_cutPower_13 (by decide) (fun _ => ?_) (fun q => absurd q (by decide))
  refine lv_aload_n hx hb dX6_cutPower_20 rfl (lv_at hl 0 rfl) ?_
  refine lv_iload_n hx hb dX6_cutPower_21 rfl (lv_at hl 1 rfl) ?_
  refine x_callVv (k := 285) hE hK hI (c_X6_asCut_1 l G o _ _  ) mf_X6_asCut mw_581 (by decide) ((e_285 G o) _ _) rfl rfl hl.1 rfl (Nat.le_of_ble_eq_true rfl) ⟨(Nat.le_of_ble_eq_true rfl), (Nat.le_of_ble_eq_true rfl)⟩ ⟨Nat.zero_le _, Nat.zero_le _⟩ dX6_cutPower_22 (fun H locs hI => ?_)
  refine lv_aload_n hx hb dX6_cutPower_25 rfl (lv_at hl 0 rfl) ?_
  refine x_callVi (k := 285) hE hK hI (c_X6_layLoads l G o _ _  ) mf_X6_layLoads mw_551 (by decide) ((e_285 G o) _ _) rfl rfl hl.1 rfl (Nat.le_of_ble_eq_true rfl) ⟨(Nat.le_of_ble_eq_true rfl), (Nat.le_of_ble_eq_true rfl)⟩ ⟨Nat.zero_le _, Nat.zero_le _⟩ dX6_cutPower_26 (fun H locs hI => ?_)
  refine lv_if_eq (tgt := 47) hx hb dX6_cutPower_29 (by decide) (fun q => absurd q h) (fun _ => ?_)
  refine lv_aload_n hx hb dX6_cutPower_32 rfl (lv_at hl 0 rfl) ?_
  refine x_callVl (k := 285) hE hK hI (c_X6_powerOf l G o _ _  ) mf_X6_powerOf mw_572 (by decide) ((e_285 G o) _ _) rfl rfl hl.1 rfl (Nat.le_of_ble_eq_true rfl) ⟨(Nat.le_of_ble_eq_true rfl), (Nat.le_of_ble_eq_true rfl)⟩ ⟨Nat.zero_le _, Nat.zero_le _⟩ dX6_cutPower_33 (fun H locs hI => ?_)
  refine lv_aload_n hx hb dX6_cutPower_36 rfl (lv_at hl 0 rfl) ?_
  refine x_get (k := 285) hE hK hI (by decide) inG6 (e_285 G o _ _) rfl 5 (by decide) mw_485 rfl dX6_cutPower_37 ?_
  refine lv_iload_n hx hb dX6_cutPower_40 rfl (lv_at hl 2 rfl) ?_
  refine x_callSl hE hK hI (c_X6_part_1 l G o _ _ (pwrM (ac1X X) (llY (ac1X X) Y)) ((llY (ac1X X) Y) 285 5) hg0 hgk hg) mf_X6_part mw_556 rfl hl.1 rfl (Nat.le_of_ble_eq_true rfl) ⟨(Nat.le_of_ble_eq_true rfl), (Nat.le_of_ble_eq_true rfl)⟩ ⟨Nat.zero_le _, Nat.zero_le _⟩ dX6_cutPower_41 (fun H locs hI => ?_)
  refine lv_goto (tgt := 50) hx hb dX6_cutPower_44 (by decide) ?_
  exact x_lret hE hr hlocks hI rfl rfl rfl dX6_cutPower_50
set_option maxRecDepth 100000 in
set_option maxHeartbeats 4000000 in
theorem c_X6_cutPower_n0_2 (l : Launch) (G : GG) (o : Nat) (X : SX) (Y : SY) (h : llr (ac2X X) Y = 0) : Ct l yX6_cutPower cX6_cutPower 3 (some .long) 2 49 G o [.ref (o + 285), .int 2, .int 0] X Y (some (.long (-5))) (ac2X X) (llY (ac2X X) Y) := by
  refine Ct.mk (by decide +kernel) (Nat.le_of_ble_eq_true rfl) rfl ?_
  intro p9 e9 s9 m9 args9 below9 meth9 c9 hE hr hlocks hK hI ls hl
  have hx := hE.1
  have hb := hE.2.1
  have hl : lv_has ls 3 [(0, .ref (o + 285)), (1, .int 2), (2, .int 0)] := hl
  refine lv_iload_n hx hb dX6_cutPower_0 rfl (lv_at hl 1 rfl) ?_
  refine lv_iconst (v := 0) hx hb dX6_cutPower_1 (by decide) ?_
  refine lv_iconst (v := 4) hx hb dX6_cutPower_2 (by decide) ?_
  refine x_callSi hE hK hI (c_X6_in l G o _ _ 2 0 4 ) mf_X6_in mw_509 rfl hl.1 rfl (Nat.le_of_ble_eq_true rfl) ⟨(Nat.le_of_ble_eq_true rfl), (Nat.le_of_ble_eq_true rfl)⟩ ⟨Nat.zero_le _, Nat.zero_le _⟩ dX6_cutPower_3 (fun H locs hI => ?_)
  refine lv_topi (fun z1 ez1 => ?_)
  obtain rfl : 1 = z1 := (ez1.trans (bI_t (by decide))).symm
  refine lv_if_eq (tgt := 16) hx hb dX6_cutPower_6 (by decide) (fun q => absurd q (by decide)) (fun _ => ?_)
  refine lv_iload_n hx hb dX6_cutPower_9 rfl (lv_at hl 2 rfl) ?_
  refine x_callSi hE hK hI (c_X6_isPart l G o _ _ 0 ) mf_X6_isPart mw_544 rfl hl.1 rfl (Nat.le_of_ble_eq_true rfl) ⟨(Nat.le_of_ble_eq_true rfl), (Nat.le_of_ble_eq_true rfl)⟩ ⟨Nat.zero_le _, Nat.zero_le _⟩ dX6_cutPower_10 (fun H locs hI => ?_)
  refine lv_topi (fun z2 ez2 => ?_)
  obtain rfl : 1 = z2 := (ez2.trans (bI_t (by decide))).symm
  refine lv_if_ne (tgt := 20) hx hb dX6_cutPower_13 (by decide) (fun _ => ?_) (fun q => absurd q (by decide))
  refine lv_aload_n hx hb dX6_cutPower_20 rfl (lv_at hl 0 rfl) ?_
  refine lv_iload_n hx hb dX6_cutPower_21 rfl (lv_at hl 1 rfl) ?_
  refine x_callVv (k := 285) hE hK hI (c_X6_asCut_2 l G o _ _  ) mf_X6_asCut mw_581 (by decide) ((e_285 G o) _ _) rfl rfl hl.1 rfl (Nat.le_of_ble_eq_true rfl) ⟨(Nat.le_of_ble_eq_true rfl), (Nat.le_of_ble_eq_true rfl)⟩ ⟨Nat.zero_le _, Nat.zero_le _⟩ dX6_cutPower_22 (fun H locs hI => ?_)
  refine lv_aload_n hx hb dX6_cutPower_25 rfl (lv_at hl 0 rfl) ?_
  refine x_callVi (k := 285) hE hK hI (c_X6_layLoads l G o _ _  ) mf_X6_layLoads mw_551 (by decide) ((e_285 G o) _ _) rfl rfl hl.1 rfl (Nat.le_of_ble_eq_true rfl) ⟨(Nat.le_of_ble_eq_true rfl), (Nat.le_of_ble_eq_true rfl)⟩ ⟨Nat.zero_le _, Nat.zero_le _⟩ dX6_cutPower_26 (fun H locs hI => ?_)
  refine lv_if_eq (tgt := 47) hx hb dX6_cutPower_29 (by decide) (fun _ => ?_) (fun q => absurd h q)
  refine lv_ldc2 hx hb hE.2.2.2.1 (hE.2.2.2.2 _ mw_585) dX6_cutPower_47 ?_
  exact x_lret hE hr hlocks hI rfl rfl rfl dX6_cutPower_50
set_option maxRecDepth 100000 in
set_option maxHeartbeats 4000000 in
theorem c_X6_cutPower_y0_2 (l : Launch) (G : GG) (o : Nat) (X : SX) (Y : SY) (h : ¬ (llr (ac2X X) Y = 0)) (hg0 : 0 ≤ pwrM (ac2X X) (llY (ac2X X) Y)) (hgk : gok 100 (pwrM (ac2X X) (llY (ac2X X) Y)) ((llY (ac2X X) Y) 285 5)) (hg : ¬ (gcdL 100 (pwrM (ac2X X) (llY (ac2X X) Y)) ((llY (ac2X X) Y) 285 5) = 0)) : Ct l yX6_cutPower cX6_cutPower 3 (some .long) 2 49 G o [.ref (o + 285), .int 2, .int 0] X Y (some (.long ((pwrM (ac2X X) (llY (ac2X X) Y)) / gcdL 100 (pwrM (ac2X X) (llY (ac2X X) Y)) ((llY (ac2X X) Y) 285 5)))) (ac2X X) (llY (ac2X X) Y) := by
  refine Ct.mk (by decide +kernel) (Nat.le_of_ble_eq_true rfl) rfl ?_
  intro p9 e9 s9 m9 args9 below9 meth9 c9 hE hr hlocks hK hI ls hl
  have hx := hE.1
  have hb := hE.2.1
  have hl : lv_has ls 3 [(0, .ref (o + 285)), (1, .int 2), (2, .int 0)] := hl
  refine lv_iload_n hx hb dX6_cutPower_0 rfl (lv_at hl 1 rfl) ?_
  refine lv_iconst (v := 0) hx hb dX6_cutPower_1 (by decide) ?_
  refine lv_iconst (v := 4) hx hb dX6_cutPower_2 (by decide) ?_
  refine x_callSi hE hK hI (c_X6_in l G o _ _ 2 0 4 ) mf_X6_in mw_509 rfl hl.1 rfl (Nat.le_of_ble_eq_true rfl) ⟨(Nat.le_of_ble_eq_true rfl), (Nat.le_of_ble_eq_true rfl)⟩ ⟨Nat.zero_le _, Nat.zero_le _⟩ dX6_cutPower_3 (fun H locs hI => ?_)
  refine lv_topi (fun z1 ez1 => ?_)
  obtain rfl : 1 = z1 := (ez1.trans (bI_t (by decide))).symm
  refine lv_if_eq (tgt := 16) hx hb dX6_cutPower_6 (by decide) (fun q => absurd q (by decide)) (fun _ => ?_)
  refine lv_iload_n hx hb dX6_cutPower_9 rfl (lv_at hl 2 rfl) ?_
  refine x_callSi hE hK hI (c_X6_isPart l G o _ _ 0 ) mf_X6_isPart mw_544 rfl hl.1 rfl (Nat.le_of_ble_eq_true rfl) ⟨(Nat.le_of_ble_eq_true rfl), (Nat.le_of_ble_eq_true rfl)⟩ ⟨Nat.zero_le _, Nat.zero_le _⟩ dX6_cutPower_10 (fun H locs hI => ?_)
  refine lv_topi (fun z2 ez2 => ?_)
  obtain rfl : 1 = z2 := (ez2.trans (bI_t (by decide))).symm
  refine lv_if_ne (tgt := 20) hx hb dX6_cutPower_13 (by decide) (fun _ => ?_) (fun q => absurd q (by decide))
  refine lv_aload_n hx hb dX6_cutPower_20 rfl (lv_at hl 0 rfl) ?_
  refine lv_iload_n hx hb dX6_cutPower_21 rfl (lv_at hl 1 rfl) ?_
  refine x_callVv (k := 285) hE hK hI (c_X6_asCut_2 l G o _ _  ) mf_X6_asCut mw_581 (by decide) ((e_285 G o) _ _) rfl rfl hl.1 rfl (Nat.le_of_ble_eq_true rfl) ⟨(Nat.le_of_ble_eq_true rfl), (Nat.le_of_ble_eq_true rfl)⟩ ⟨Nat.zero_le _, Nat.zero_le _⟩ dX6_cutPower_22 (fun H locs hI => ?_)
  refine lv_aload_n hx hb dX6_cutPower_25 rfl (lv_at hl 0 rfl) ?_
  refine x_callVi (k := 285) hE hK hI (c_X6_layLoads l G o _ _  ) mf_X6_layLoads mw_551 (by decide) ((e_285 G o) _ _) rfl rfl hl.1 rfl (Nat.le_of_ble_eq_true rfl) ⟨(Nat.le_of_ble_eq_true rfl), (Nat.le_of_ble_eq_true rfl)⟩ ⟨Nat.zero_le _, Nat.zero_le _⟩ dX6_cutPower_26 (fun H locs hI => ?_)
  refine lv_if_eq (tgt := 47) hx hb dX6_cutPower_29 (by decide) (fun q => absurd q h) (fun _ => ?_)
  refine lv_aload_n hx hb dX6_cutPower_32 rfl (lv_at hl 0 rfl) ?_
  refine x_callVl (k := 285) hE hK hI (c_X6_powerOf l G o _ _  ) mf_X6_powerOf mw_572 (by decide) ((e_285 G o) _ _) rfl rfl hl.1 rfl (Nat.le_of_ble_eq_true rfl) ⟨(Nat.le_of_ble_eq_true rfl), (Nat.le_of_ble_eq_true rfl)⟩ ⟨Nat.zero_le _, Nat.zero_le _⟩ dX6_cutPower_33 (fun H locs hI => ?_)
  refine lv_aload_n hx hb dX6_cutPower_36 rfl (lv_at hl 0 rfl) ?_
  refine x_get (k := 285) hE hK hI (by decide) inG6 (e_285 G o _ _) rfl 5 (by decide) mw_485 rfl dX6_cutPower_37 ?_
  refine lv_iload_n hx hb dX6_cutPower_40 rfl (lv_at hl 2 rfl) ?_
  refine x_callSl hE hK hI (c_X6_part_0 l G o _ _ (pwrM (ac2X X) (llY (ac2X X) Y)) ((llY (ac2X X) Y) 285 5) hg0 hgk hg) mf_X6_part mw_556 rfl hl.1 rfl (Nat.le_of_ble_eq_true rfl) ⟨(Nat.le_of_ble_eq_true rfl), (Nat.le_of_ble_eq_true rfl)⟩ ⟨Nat.zero_le _, Nat.zero_le _⟩ dX6_cutPower_41 (fun H locs hI => ?_)
  refine lv_goto (tgt := 50) hx hb dX6_cutPower_44 (by decide) ?_
  exact x_lret hE hr hlocks hI rfl rfl rfl dX6_cutPower_50
set_option maxRecDepth 100000 in
set_option maxHeartbeats 4000000 in
theorem c_X6_cutPower_n1_2 (l : Launch) (G : GG) (o : Nat) (X : SX) (Y : SY) (h : llr (ac2X X) Y = 0) : Ct l yX6_cutPower cX6_cutPower 3 (some .long) 2 49 G o [.ref (o + 285), .int 2, .int 1] X Y (some (.long (-5))) (ac2X X) (llY (ac2X X) Y) := by
  refine Ct.mk (by decide +kernel) (Nat.le_of_ble_eq_true rfl) rfl ?_
  intro p9 e9 s9 m9 args9 below9 meth9 c9 hE hr hlocks hK hI ls hl
  have hx := hE.1
  have hb := hE.2.1
  have hl : lv_has ls 3 [(0, .ref (o + 285)), (1, .int 2), (2, .int 1)] := hl
  refine lv_iload_n hx hb dX6_cutPower_0 rfl (lv_at hl 1 rfl) ?_
  refine lv_iconst (v := 0) hx hb dX6_cutPower_1 (by decide) ?_
  refine lv_iconst (v := 4) hx hb dX6_cutPower_2 (by decide) ?_
  refine x_callSi hE hK hI (c_X6_in l G o _ _ 2 0 4 ) mf_X6_in mw_509 rfl hl.1 rfl (Nat.le_of_ble_eq_true rfl) ⟨(Nat.le_of_ble_eq_true rfl), (Nat.le_of_ble_eq_true rfl)⟩ ⟨Nat.zero_le _, Nat.zero_le _⟩ dX6_cutPower_3 (fun H locs hI => ?_)
  refine lv_topi (fun z1 ez1 => ?_)
  obtain rfl : 1 = z1 := (ez1.trans (bI_t (by decide))).symm
  refine lv_if_eq (tgt := 16) hx hb dX6_cutPower_6 (by decide) (fun q => absurd q (by decide)) (fun _ => ?_)
  refine lv_iload_n hx hb dX6_cutPower_9 rfl (lv_at hl 2 rfl) ?_
  refine x_callSi hE hK hI (c_X6_isPart l G o _ _ 1 ) mf_X6_isPart mw_544 rfl hl.1 rfl (Nat.le_of_ble_eq_true rfl) ⟨(Nat.le_of_ble_eq_true rfl), (Nat.le_of_ble_eq_true rfl)⟩ ⟨Nat.zero_le _, Nat.zero_le _⟩ dX6_cutPower_10 (fun H locs hI => ?_)
  refine lv_topi (fun z2 ez2 => ?_)
  obtain rfl : 1 = z2 := (ez2.trans (bI_t (by decide))).symm
  refine lv_if_ne (tgt := 20) hx hb dX6_cutPower_13 (by decide) (fun _ => ?_) (fun q => absurd q (by decide))
  refine lv_aload_n hx hb dX6_cutPower_20 rfl (lv_at hl 0 rfl) ?_
  refine lv_iload_n hx hb dX6_cutPower_21 rfl (lv_at hl 1 rfl) ?_
  refine x_callVv (k := 285) hE hK hI (c_X6_asCut_2 l G o _ _  ) mf_X6_asCut mw_581 (by decide) ((e_285 G o) _ _) rfl rfl hl.1 rfl (Nat.le_of_ble_eq_true rfl) ⟨(Nat.le_of_ble_eq_true rfl), (Nat.le_of_ble_eq_true rfl)⟩ ⟨Nat.zero_le _, Nat.zero_le _⟩ dX6_cutPower_22 (fun H locs hI => ?_)
  refine lv_aload_n hx hb dX6_cutPower_25 rfl (lv_at hl 0 rfl) ?_
  refine x_callVi (k := 285) hE hK hI (c_X6_layLoads l G o _ _  ) mf_X6_layLoads mw_551 (by decide) ((e_285 G o) _ _) rfl rfl hl.1 rfl (Nat.le_of_ble_eq_true rfl) ⟨(Nat.le_of_ble_eq_true rfl), (Nat.le_of_ble_eq_true rfl)⟩ ⟨Nat.zero_le _, Nat.zero_le _⟩ dX6_cutPower_26 (fun H locs hI => ?_)
  refine lv_if_eq (tgt := 47) hx hb dX6_cutPower_29 (by decide) (fun _ => ?_) (fun q => absurd h q)
  refine lv_ldc2 hx hb hE.2.2.2.1 (hE.2.2.2.2 _ mw_585) dX6_cutPower_47 ?_
  exact x_lret hE hr hlocks hI rfl rfl rfl dX6_cutPower_50
set_option maxRecDepth 100000 in
set_option maxHeartbeats 4000000 in
theorem c_X6_cutPower_y1_2 (l : Launch) (G : GG) (o : Nat) (X : SX) (Y : SY) (h : ¬ (llr (ac2X X) Y = 0)) (hg0 : 0 ≤ pwrM (ac2X X) (llY (ac2X X) Y)) (hgk : gok 100 (pwrM (ac2X X) (llY (ac2X X) Y)) ((llY (ac2X X) Y) 285 5)) (hg : ¬ (gcdL 100 (pwrM (ac2X X) (llY (ac2X X) Y)) ((llY (ac2X X) Y) 285 5) = 0)) : Ct l yX6_cutPower cX6_cutPower 3 (some .long) 2 49 G o [.ref (o + 285), .int 2, .int 1] X Y (some (.long (((llY (ac2X X) Y) 285 5) / gcdL 100 (pwrM (ac2X X) (llY (ac2X X) Y)) ((llY (ac2X X) Y) 285 5)))) (ac2X X) (llY (ac2X X) Y) := by
  refine Ct.mk (by decide +kernel) (Nat.le_of_ble_eq_true rfl) rfl ?_
  intro p9 e9 s9 m9 args9 below9 meth9 c9 hE hr hlocks hK hI ls hl
  have hx := hE.1
  have hb := hE.2.1
  have hl : lv_has ls 3 [(0, .ref (o + 285)), (1, .int 2), (2, .int 1)] := hl
  refine lv_iload_n hx hb dX6_cutPower_0 rfl (lv_at hl 1 rfl) ?_
  refine lv_iconst (v := 0) hx hb dX6_cutPower_1 (by decide) ?_
  refine lv_iconst (v := 4) hx hb dX6_cutPower_2 (by decide) ?_
  refine x_callSi hE hK hI (c_X6_in l G o _ _ 2 0 4 ) mf_X6_in mw_509 rfl hl.1 rfl (Nat.le_of_ble_eq_true rfl) ⟨(Nat.le_of_ble_eq_true rfl), (Nat.le_of_ble_eq_true rfl)⟩ ⟨Nat.zero_le _, Nat.zero_le _⟩ dX6_cutPower_3 (fun H locs hI => ?_)
  refine lv_topi (fun z1 ez1 => ?_)
  obtain rfl : 1 = z1 := (ez1.trans (bI_t (by decide))).symm
  refine lv_if_eq (tgt := 16) hx hb dX6_cutPower_6 (by decide) (fun q => absurd q (by decide)) (fun _ => ?_)
  refine lv_iload_n hx hb dX6_cutPower_9 rfl (lv_at hl 2 rfl) ?_
  refine x_callSi hE hK hI (c_X6_isPart l G o _ _ 1 ) mf_X6_isPart mw_544 rfl hl.1 rfl (Nat.le_of_ble_eq_true rfl) ⟨(Nat.le_of_ble_eq_true rfl), (Nat.le_of_ble_eq_true rfl)⟩ ⟨Nat.zero_le _, Nat.zero_le _⟩ dX6_cutPower_10 (fun H locs hI => ?_)
  refine lv_topi (fun z2 ez2 => ?_)
  obtain rfl : 1 = z2 := (ez2.trans (bI_t (by decide))).symm
  refine lv_if_ne (tgt := 20) hx hb dX6_cutPower_13 (by decide) (fun _ => ?_) (fun q => absurd q (by decide))
  refine lv_aload_n hx hb dX6_cutPower_20 rfl (lv_at hl 0 rfl) ?_
  refine lv_iload_n hx hb dX6_cutPower_21 rfl (lv_at hl 1 rfl) ?_
  refine x_callVv (k := 285) hE hK hI (c_X6_asCut_2 l G o _ _  ) mf_X6_asCut mw_581 (by decide) ((e_285 G o) _ _) rfl rfl hl.1 rfl (Nat.le_of_ble_eq_true rfl) ⟨(Nat.le_of_ble_eq_true rfl), (Nat.le_of_ble_eq_true rfl)⟩ ⟨Nat.zero_le _, Nat.zero_le _⟩ dX6_cutPower_22 (fun H locs hI => ?_)
  refine lv_aload_n hx hb dX6_cutPower_25 rfl (lv_at hl 0 rfl) ?_
  refine x_callVi (k := 285) hE hK hI (c_X6_layLoads l G o _ _  ) mf_X6_layLoads mw_551 (by decide) ((e_285 G o) _ _) rfl rfl hl.1 rfl (Nat.le_of_ble_eq_true rfl) ⟨(Nat.le_of_ble_eq_true rfl), (Nat.le_of_ble_eq_true rfl)⟩ ⟨Nat.zero_le _, Nat.zero_le _⟩ dX6_cutPower_26 (fun H locs hI => ?_)
  refine lv_if_eq (tgt := 47) hx hb dX6_cutPower_29 (by decide) (fun q => absurd q h) (fun _ => ?_)
  refine lv_aload_n hx hb dX6_cutPower_32 rfl (lv_at hl 0 rfl) ?_
  refine x_callVl (k := 285) hE hK hI (c_X6_powerOf l G o _ _  ) mf_X6_powerOf mw_572 (by decide) ((e_285 G o) _ _) rfl rfl hl.1 rfl (Nat.le_of_ble_eq_true rfl) ⟨(Nat.le_of_ble_eq_true rfl), (Nat.le_of_ble_eq_true rfl)⟩ ⟨Nat.zero_le _, Nat.zero_le _⟩ dX6_cutPower_33 (fun H locs hI => ?_)
  refine lv_aload_n hx hb dX6_cutPower_36 rfl (lv_at hl 0 rfl) ?_
  refine x_get (k := 285) hE hK hI (by decide) inG6 (e_285 G o _ _) rfl 5 (by decide) mw_485 rfl dX6_cutPower_37 ?_
  refine lv_iload_n hx hb dX6_cutPower_40 rfl (lv_at hl 2 rfl) ?_
  refine x_callSl hE hK hI (c_X6_part_1 l G o _ _ (pwrM (ac2X X) (llY (ac2X X) Y)) ((llY (ac2X X) Y) 285 5) hg0 hgk hg) mf_X6_part mw_556 rfl hl.1 rfl (Nat.le_of_ble_eq_true rfl) ⟨(Nat.le_of_ble_eq_true rfl), (Nat.le_of_ble_eq_true rfl)⟩ ⟨Nat.zero_le _, Nat.zero_le _⟩ dX6_cutPower_41 (fun H locs hI => ?_)
  refine lv_goto (tgt := 50) hx hb dX6_cutPower_44 (by decide) ?_
  exact x_lret hE hr hlocks hI rfl rfl rfl dX6_cutPower_50
set_option maxRecDepth 100000 in
set_option maxHeartbeats 4000000 in
theorem c_X6_cutPower_n0_3 (l : Launch) (G : GG) (o : Nat) (X : SX) (Y : SY) (h : llr (ac3X X) Y = 0) : Ct l yX6_cutPower cX6_cutPower 3 (some .long) 2 49 G o [.ref (o + 285), .int 3, .int 0] X Y (some (.long (-5))) (ac3X X) (llY (ac3X X) Y) := by
  refine Ct.mk (by decide +kernel) (Nat.le_of_ble_eq_true rfl) rfl ?_
  intro p9 e9 s9 m9 args9 below9 meth9 c9 hE hr hlocks hK hI ls hl
  have hx := hE.1
  have hb := hE.2.1
  have hl : lv_has ls 3 [(0, .ref (o + 285)), (1, .int 3), (2, .int 0)] := hl
  refine lv_iload_n hx hb dX6_cutPower_0 rfl (lv_at hl 1 rfl) ?_
  refine lv_iconst (v := 0) hx hb dX6_cutPower_1 (by decide) ?_
  refine lv_iconst (v := 4) hx hb dX6_cutPower_2 (by decide) ?_
  refine x_callSi hE hK hI (c_X6_in l G o _ _ 3 0 4 ) mf_X6_in mw_509 rfl hl.1 rfl (Nat.le_of_ble_eq_true rfl) ⟨(Nat.le_of_ble_eq_true rfl), (Nat.le_of_ble_eq_true rfl)⟩ ⟨Nat.zero_le _, Nat.zero_le _⟩ dX6_cutPower_3 (fun H locs hI => ?_)
  refine lv_topi (fun z1 ez1 => ?_)
  obtain rfl : 1 = z1 := (ez1.trans (bI_t (by decide))).symm
  refine lv_if_eq (tgt := 16) hx hb dX6_cutPower_6 (by decide) (fun q => absurd q (by decide)) (fun _ => ?_)
  refine lv_iload_n hx hb dX6_cutPower_9 rfl (lv_at hl 2 rfl) ?_
  refine x_callSi hE hK hI (c_X6_isPart l G o _ _ 0 ) mf_X6_isPart mw_544 rfl hl.1 rfl (Nat.le_of_ble_eq_true rfl) ⟨(Nat.le_of_ble_eq_true rfl), (Nat.le_of_ble_eq_true rfl)⟩ ⟨Nat.zero_le _, Nat.zero_le _⟩ dX6_cutPower_10 (fun H locs hI => ?_)
  refine lv_topi (fun z2 ez2 => ?_)
  obtain rfl : 1 = z2 := (ez2.trans (bI_t (by decide))).symm
  refine lv_if_ne (tgt := 20) hx hb dX6_cutPower_13 (by decide) (fun _ => ?_) (fun q => absurd q (by decide))
  refine lv_aload_n hx hb dX6_cutPower_20 rfl (lv_at hl 0 rfl) ?_
  refine lv_iload_n hx hb dX6_cutPower_21 rfl (lv_at hl 1 rfl) ?_
  refine x_callVv (k := 285) hE hK hI (c_X6_asCut_3 l G o _ _  ) mf_X6_asCut mw_581 (by decide) ((e_285 G o) _ _) rfl rfl hl.1 rfl (Nat.le_of_ble_eq_true rfl) ⟨(Nat.le_of_ble_eq_true rfl), (Nat.le_of_ble_eq_true rfl)⟩ ⟨Nat.zero_le _, Nat.zero_le _⟩ dX6_cutPower_22 (fun H locs hI => ?_)
  refine lv_aload_n hx hb dX6_cutPower_25 rfl (lv_at hl 0 rfl) ?_
  refine x_callVi (k := 285) hE hK hI (c_X6_layLoads l G o _ _  ) mf_X6_layLoads mw_551 (by decide) ((e_285 G o) _ _) rfl rfl hl.1 rfl (Nat.le_of_ble_eq_true rfl) ⟨(Nat.le_of_ble_eq_true rfl), (Nat.le_of_ble_eq_true rfl)⟩ ⟨Nat.zero_le _, Nat.zero_le _⟩ dX6_cutPower_26 (fun H locs hI => ?_)
  refine lv_if_eq (tgt := 47) hx hb dX6_cutPower_29 (by decide) (fun _ => ?_) (fun q => absurd h q)
  refine lv_ldc2 hx hb hE.2.2.2.1 (hE.2.2.2.2 _ mw_585) dX6_cutPower_47 ?_
  exact x_lret hE hr hlocks hI rfl rfl rfl dX6_cutPower_50
set_option maxRecDepth 100000 in
set_option maxHeartbeats 4000000 in
theorem c_X6_cutPower_y0_3 (l : Launch) (G : GG) (o : Nat) (X : SX) (Y : SY) (h : ¬ (llr (ac3X X) Y = 0)) (hg0 : 0 ≤ pwrM (ac3X X) (llY (ac3X X) Y)) (hgk : gok 100 (pwrM (ac3X X) (llY (ac3X X) Y)) ((llY (ac3X X) Y) 285 5)) (hg : ¬ (gcdL 100 (pwrM (ac3X X) (llY (ac3X X) Y)) ((llY (ac3X X) Y) 285 5) = 0)) : Ct l yX6_cutPower cX6_cutPower 3 (some .long) 2 49 G o [.ref (o + 285), .int 3, .int 0] X Y (some (.long ((pwrM (ac3X X) (llY (ac3X X) Y)) / gcdL 100 (pwrM (ac3X X) (llY (ac3X X) Y)) ((llY (ac3X X) Y) 285 5)))) (ac3X X) (llY (ac3X X) Y) := by
  refine Ct.mk (by decide +kernel) (Nat.le_of_ble_eq_true rfl) rfl ?_
  intro p9 e9 s9 m9 args9 below9 meth9 c9 hE hr hlocks hK hI ls hl
  have hx := hE.1
  have hb := hE.2.1
  have hl : lv_has ls 3 [(0, .ref (o + 285)), (1, .int 3), (2, .int 0)] := hl
  refine lv_iload_n hx hb dX6_cutPower_0 rfl (lv_at hl 1 rfl) ?_
  refine lv_iconst (v := 0) hx hb dX6_cutPower_1 (by decide) ?_
  refine lv_iconst (v := 4) hx hb dX6_cutPower_2 (by decide) ?_
  refine x_callSi hE hK hI (c_X6_in l G o _ _ 3 0 4 ) mf_X6_in mw_509 rfl hl.1 rfl (Nat.le_of_ble_eq_true rfl) ⟨(Nat.le_of_ble_eq_true rfl), (Nat.le_of_ble_eq_true rfl)⟩ ⟨Nat.zero_le _, Nat.zero_le _⟩ dX6_cutPower_3 (fun H locs hI => ?_)
  refine lv_topi (fun z1 ez1 => ?_)
  obtain rfl : 1 = z1 := (ez1.trans (bI_t (by decide))).symm
  refine lv_if_eq (tgt := 16) hx hb dX6_cutPower_6 (by decide) (fun q => absurd q (by decide)) (fun _ => ?_)
  refine lv_iload_n hx hb dX6_cutPower_9 rfl (lv_at hl 2 rfl) ?_
  refine x_callSi hE hK hI (c_X6_isPart l G o _ _ 0 ) mf_X6_isPart mw_544 rfl hl.1 rfl (Nat.le_of_ble_eq_true rfl) ⟨(Nat.le_of_ble_eq_true rfl), (Nat.le_of_ble_eq_true rfl)⟩ ⟨Nat.zero_le _, Nat.zero_le _⟩ dX6_cutPower_10 (fun H locs hI => ?_)
  refine lv_topi (fun z2 ez2 => ?_)
  obtain rfl : 1 = z2 := (ez2.trans (bI_t (by decide))).symm
  refine lv_if_ne (tgt := 20) hx hb dX6_cutPower_13 (by decide) (fun _ => ?_) (fun q => absurd q (by decide))
  refine lv_aload_n hx hb dX6_cutPower_20 rfl (lv_at hl 0 rfl) ?_
  refine lv_iload_n hx hb dX6_cutPower_21 rfl (lv_at hl 1 rfl) ?_
  refine x_callVv (k := 285) hE hK hI (c_X6_asCut_3 l G o _ _  ) mf_X6_asCut mw_581 (by decide) ((e_285 G o) _ _) rfl rfl hl.1 rfl (Nat.le_of_ble_eq_true rfl) ⟨(Nat.le_of_ble_eq_true rfl), (Nat.le_of_ble_eq_true rfl)⟩ ⟨Nat.zero_le _, Nat.zero_le _⟩ dX6_cutPower_22 (fun H locs hI => ?_)
  refine lv_aload_n hx hb dX6_cutPower_25 rfl (lv_at hl 0 rfl) ?_
  refine x_callVi (k := 285) hE hK hI (c_X6_layLoads l G o _ _  ) mf_X6_layLoads mw_551 (by decide) ((e_285 G o) _ _) rfl rfl hl.1 rfl (Nat.le_of_ble_eq_true rfl) ⟨(Nat.le_of_ble_eq_true rfl), (Nat.le_of_ble_eq_true rfl)⟩ ⟨Nat.zero_le _, Nat.zero_le _⟩ dX6_cutPower_26 (fun H locs hI => ?_)
  refine lv_if_eq (tgt := 47) hx hb dX6_cutPower_29 (by decide) (fun q => absurd q h) (fun _ => ?_)
  refine lv_aload_n hx hb dX6_cutPower_32 rfl (lv_at hl 0 rfl) ?_
  refine x_callVl (k := 285) hE hK hI (c_X6_powerOf l G o _ _  ) mf_X6_powerOf mw_572 (by decide) ((e_285 G o) _ _) rfl rfl hl.1 rfl (Nat.le_of_ble_eq_true rfl) ⟨(Nat.le_of_ble_eq_true rfl), (Nat.le_of_ble_eq_true rfl)⟩ ⟨Nat.zero_le _, Nat.zero_le _⟩ dX6_cutPower_33 (fun H locs hI => ?_)
  refine lv_aload_n hx hb dX6_cutPower_36 rfl (lv_at hl 0 rfl) ?_
  refine x_get (k := 285) hE hK hI (by decide) inG6 (e_285 G o _ _) rfl 5 (by decide) mw_485 rfl dX6_cutPower_37 ?_
  refine lv_iload_n hx hb dX6_cutPower_40 rfl (lv_at hl 2 rfl) ?_
  refine x_callSl hE hK hI (c_X6_part_0 l G o _ _ (pwrM (ac3X X) (llY (ac3X X) Y)) ((llY (ac3X X) Y) 285 5) hg0 hgk hg) mf_X6_part mw_556 rfl hl.1 rfl (Nat.le_of_ble_eq_true rfl) ⟨(Nat.le_of_ble_eq_true rfl), (Nat.le_of_ble_eq_true rfl)⟩ ⟨Nat.zero_le _, Nat.zero_le _⟩ dX6_cutPower_41 (fun H locs hI => ?_)
  refine lv_goto (tgt := 50) hx hb dX6_cutPower_44 (by decide) ?_
  exact x_lret hE hr hlocks hI rfl rfl rfl dX6_cutPower_50
set_option maxRecDepth 100000 in
set_option maxHeartbeats 4000000 in
theorem c_X6_cutPower_n1_3 (l : Launch) (G : GG) (o : Nat) (X : SX) (Y : SY) (h : llr (ac3X X) Y = 0) : Ct l yX6_cutPower cX6_cutPower 3 (some .long) 2 49 G o [.ref (o + 285), .int 3, .int 1] X Y (some (.long (-5))) (ac3X X) (llY (ac3X X) Y) := by
  refine Ct.mk (by decide +kernel) (Nat.le_of_ble_eq_true rfl) rfl ?_
  intro p9 e9 s9 m9 args9 below9 meth9 c9 hE hr hlocks hK hI ls hl
  have hx := hE.1
  have hb := hE.2.1
  have hl : lv_has ls 3 [(0, .ref (o + 285)), (1, .int 3), (2, .int 1)] := hl
  refine lv_iload_n hx hb dX6_cutPower_0 rfl (lv_at hl 1 rfl) ?_
  refine lv_iconst (v := 0) hx hb dX6_cutPower_1 (by decide) ?_
  refine lv_iconst (v := 4) hx hb dX6_cutPower_2 (by decide) ?_
  refine x_callSi hE hK hI (c_X6_in l G o _ _ 3 0 4 ) mf_X6_in mw_509 rfl hl.1 rfl (Nat.le_of_ble_eq_true rfl) ⟨(Nat.le_of_ble_eq_true rfl), (Nat.le_of_ble_eq_true rfl)⟩ ⟨Nat.zero_le _, Nat.zero_le _⟩ dX6_cutPower_3 (fun H locs hI => ?_)
  refine lv_topi (fun z1 ez1 => ?_)
  obtain rfl : 1 = z1 := (ez1.trans (bI_t (by decide))).symm
  refine lv_if_eq (tgt := 16) hx hb dX6_cutPower_6 (by decide) (fun q => absurd q (by decide)) (fun _ => ?_)
  refine lv_iload_n hx hb dX6_cutPower_9 rfl (lv_at hl 2 rfl) ?_
  refine x_callSi hE hK hI (c_X6_isPart l G o _ _ 1 ) mf_X6_isPart mw_544 rfl hl.1 rfl (Nat.le_of_ble_eq_true rfl) ⟨(Nat.le_of_ble_eq_true rfl), (Nat.le_of_ble_eq_true rfl)⟩ ⟨Nat.zero_le _, Nat.zero_le _⟩ dX6_cutPower_10 (fun H locs hI => ?_)
  refine lv_topi (fun z2 ez2 => ?_)
  obtain rfl : 1 = z2 := (ez2.trans (bI_t (by decide))).symm
  refine lv_if_ne (tgt := 20) hx hb dX6_cutPower_13 (by decide) (fun _ => ?_) (fun q => absurd q (by decide))
  refine lv_aload_n hx hb dX6_cutPower_20 rfl (lv_at hl 0 rfl) ?_
  refine lv_iload_n hx hb dX6_cutPower_21 rfl (lv_at hl 1 rfl) ?_
  refine x_callVv (k := 285) hE hK hI (c_X6_asCut_3 l G o _ _  ) mf_X6_asCut mw_581 (by decide) ((e_285 G o) _ _) rfl rfl hl.1 rfl (Nat.le_of_ble_eq_true rfl) ⟨(Nat.le_of_ble_eq_true rfl), (Nat.le_of_ble_eq_true rfl)⟩ ⟨Nat.zero_le _, Nat.zero_le _⟩ dX6_cutPower_22 (fun H locs hI => ?_)
  refine lv_aload_n hx hb dX6_cutPower_25 rfl (lv_at hl 0 rfl) ?_
  refine x_callVi (k := 285) hE hK hI (c_X6_layLoads l G o _ _  ) mf_X6_layLoads mw_551 (by decide) ((e_285 G o) _ _) rfl rfl hl.1 rfl (Nat.le_of_ble_eq_true rfl) ⟨(Nat.le_of_ble_eq_true rfl), (Nat.le_of_ble_eq_true rfl)⟩ ⟨Nat.zero_le _, Nat.zero_le _⟩ dX6_cutPower_26 (fun H locs hI => ?_)
  refine lv_if_eq (tgt := 47) hx hb dX6_cutPower_29 (by decide) (fun _ => ?_) (fun q => absurd h q)
  refine lv_ldc2 hx hb hE.2.2.2.1 (hE.2.2.2.2 _ mw_585) dX6_cutPower_47 ?_
  exact x_lret hE hr hlocks hI rfl rfl rfl dX6_cutPower_50
set_option maxRecDepth 100000 in
set_option maxHeartbeats 4000000 in
theorem c_X6_cutPower_y1_3 (l : Launch) (G : GG) (o : Nat) (X : SX) (Y : SY) (h : ¬ (llr (ac3X X) Y = 0)) (hg0 : 0 ≤ pwrM (ac3X X) (llY (ac3X X) Y)) (hgk : gok 100 (pwrM (ac3X X) (llY (ac3X X) Y)) ((llY (ac3X X) Y) 285 5)) (hg : ¬ (gcdL 100 (pwrM (ac3X X) (llY (ac3X X) Y)) ((llY (ac3X X) Y) 285 5) = 0)) : Ct l yX6_cutPower cX6_cutPower 3 (some .long) 2 49 G o [.ref (o + 285), .int 3, .int 1] X Y (some (.long (((llY (ac3X X) Y) 285 5) / gcdL 100 (pwrM (ac3X X) (llY (ac3X X) Y)) ((llY (ac3X X) Y) 285 5)))) (ac3X X) (llY (ac3X X) Y) := by
  refine Ct.mk (by decide +kernel) (Nat.le_of_ble_eq_true rfl) rfl ?_
  intro p9 e9 s9 m9 args9 below9 meth9 c9 hE hr hlocks hK hI ls hl
  have hx := hE.1
  have hb := hE.2.1
  have hl : lv_has ls 3 [(0, .ref (o + 285)), (1, .int 3), (2, .int 1)] := hl
  refine lv_iload_n hx hb dX6_cutPower_0 rfl (lv_at hl 1 rfl) ?_
  refine lv_iconst (v := 0) hx hb dX6_cutPower_1 (by decide) ?_
  refine lv_iconst (v := 4) hx hb dX6_cutPower_2 (by decide) ?_
  refine x_callSi hE hK hI (c_X6_in l G o _ _ 3 0 4 ) mf_X6_in mw_509 rfl hl.1 rfl (Nat.le_of_ble_eq_true rfl) ⟨(Nat.le_of_ble_eq_true rfl), (Nat.le_of_ble_eq_true rfl)⟩ ⟨Nat.zero_le _, Nat.zero_le _⟩ dX6_cutPower_3 (fun H locs hI => ?_)
  refine lv_topi (fun z1 ez1 => ?_)
  obtain rfl : 1 = z1 := (ez1.trans (bI_t (by decide))).symm
  refine lv_if_eq (tgt := 16) hx hb dX6_cutPower_6 (by decide) (fun q => absurd q (by decide)) (fun _ => ?_)
  refine lv_iload_n hx hb dX6_cutPower_9 rfl (lv_at hl 2 rfl) ?_
  refine x_callSi hE hK hI (c_X6_isPart l G o _ _ 1 ) mf_X6_isPart mw_544 rfl hl.1 rfl (Nat.le_of_ble_eq_true rfl) ⟨(Nat.le_of_ble_eq_true rfl), (Nat.le_of_ble_eq_true rfl)⟩ ⟨Nat.zero_le _, Nat.zero_le _⟩ dX6_cutPower_10 (fun H locs hI => ?_)
  refine lv_topi (fun z2 ez2 => ?_)
  obtain rfl : 1 = z2 := (ez2.trans (bI_t (by decide))).symm
  refine lv_if_ne (tgt := 20) hx hb dX6_cutPower_13 (by decide) (fun _ => ?_) (fun q => absurd q (by decide))
  refine lv_aload_n hx hb dX6_cutPower_20 rfl (lv_at hl 0 rfl) ?_
  refine lv_iload_n hx hb dX6_cutPower_21 rfl (lv_at hl 1 rfl) ?_
  refine x_callVv (k := 285) hE hK hI (c_X6_asCut_3 l G o _ _  ) mf_X6_asCut mw_581 (by decide) ((e_285 G o) _ _) rfl rfl hl.1 rfl (Nat.le_of_ble_eq_true rfl) ⟨(Nat.le_of_ble_eq_true rfl), (Nat.le_of_ble_eq_true rfl)⟩ ⟨Nat.zero_le _, Nat.zero_le _⟩ dX6_cutPower_22 (fun H locs hI => ?_)
  refine lv_aload_n hx hb dX6_cutPower_25 rfl (lv_at hl 0 rfl) ?_
  refine x_callVi (k := 285) hE hK hI (c_X6_layLoads l G o _ _  ) mf_X6_layLoads mw_551 (by decide) ((e_285 G o) _ _) rfl rfl hl.1 rfl (Nat.le_of_ble_eq_true rfl) ⟨(Nat.le_of_ble_eq_true rfl), (Nat.le_of_ble_eq_true rfl)⟩ ⟨Nat.zero_le _, Nat.zero_le _⟩ dX6_cutPower_26 (fun H locs hI => ?_)
  refine lv_if_eq (tgt := 47) hx hb dX6_cutPower_29 (by decide) (fun q => absurd q h) (fun _ => ?_)
  refine lv_aload_n hx hb dX6_cutPower_32 rfl (lv_at hl 0 rfl) ?_
  refine x_callVl (k := 285) hE hK hI (c_X6_powerOf l G o _ _  ) mf_X6_powerOf mw_572 (by decide) ((e_285 G o) _ _) rfl rfl hl.1 rfl (Nat.le_of_ble_eq_true rfl) ⟨(Nat.le_of_ble_eq_true rfl), (Nat.le_of_ble_eq_true rfl)⟩ ⟨Nat.zero_le _, Nat.zero_le _⟩ dX6_cutPower_33 (fun H locs hI => ?_)
  refine lv_aload_n hx hb dX6_cutPower_36 rfl (lv_at hl 0 rfl) ?_
  refine x_get (k := 285) hE hK hI (by decide) inG6 (e_285 G o _ _) rfl 5 (by decide) mw_485 rfl dX6_cutPower_37 ?_
  refine lv_iload_n hx hb dX6_cutPower_40 rfl (lv_at hl 2 rfl) ?_
  refine x_callSl hE hK hI (c_X6_part_1 l G o _ _ (pwrM (ac3X X) (llY (ac3X X) Y)) ((llY (ac3X X) Y) 285 5) hg0 hgk hg) mf_X6_part mw_556 rfl hl.1 rfl (Nat.le_of_ble_eq_true rfl) ⟨(Nat.le_of_ble_eq_true rfl), (Nat.le_of_ble_eq_true rfl)⟩ ⟨Nat.zero_le _, Nat.zero_le _⟩ dX6_cutPower_41 (fun H locs hI => ?_)
  refine lv_goto (tgt := 50) hx hb dX6_cutPower_44 (by decide) ?_
  exact x_lret hE hr hlocks hI rfl rfl rfl dX6_cutPower_50
set_option maxRecDepth 100000 in
set_option maxHeartbeats 4000000 in
theorem c_X6_cutPower_n0_4 (l : Launch) (G : GG) (o : Nat) (X : SX) (Y : SY) (h : llr (ac4X X) Y = 0) : Ct l yX6_cutPower cX6_cutPower 3 (some .long) 2 49 G o [.ref (o + 285), .int 4, .int 0] X Y (some (.long (-5))) (ac4X X) (llY (ac4X X) Y) := by
  refine Ct.mk (by decide +kernel) (Nat.le_of_ble_eq_true rfl) rfl ?_
  intro p9 e9 s9 m9 args9 below9 meth9 c9 hE hr hlocks hK hI ls hl
  have hx := hE.1
  have hb := hE.2.1
  have hl : lv_has ls 3 [(0, .ref (o + 285)), (1, .int 4), (2, .int 0)] := hl
  refine lv_iload_n hx hb dX6_cutPower_0 rfl (lv_at hl 1 rfl) ?_
  refine lv_iconst (v := 0) hx hb dX6_cutPower_1 (by decide) ?_
  refine lv_iconst (v := 4) hx hb dX6_cutPower_2 (by decide) ?_
  refine x_callSi hE hK hI (c_X6_in l G o _ _ 4 0 4 ) mf_X6_in mw_509 rfl hl.1 rfl (Nat.le_of_ble_eq_true rfl) ⟨(Nat.le_of_ble_eq_true rfl), (Nat.le_of_ble_eq_true rfl)⟩ ⟨Nat.zero_le _, Nat.zero_le _⟩ dX6_cutPower_3 (fun H locs hI => ?_)
  refine lv_topi (fun z1 ez1 => ?_)
  obtain rfl : 1 = z1 := (ez1.trans (bI_t (by decide))).symm
  refine lv_if_eq (tgt := 16) hx hb dX6_cutPower_6 (by decide) (fun q => absurd q (by decide)) (fun _ => ?_)
  refine lv_iload_n hx hb dX6_cutPower_9 rfl (lv_at hl 2 rfl) ?_
  refine x_callSi hE hK hI (c_X6_isPart l G o _ _ 0 ) mf_X6_isPart mw_544 rfl hl.1 rfl (Nat.le_of_ble_eq_true rfl) ⟨(Nat.le_of_ble_eq_true rfl), (Nat.le_of_ble_eq_true rfl)⟩ ⟨Nat.zero_le _, Nat.zero_le _⟩ dX6_cutPower_10 (fun H locs hI => ?_)
  refine lv_topi (fun z2 ez2 => ?_)
  obtain rfl : 1 = z2 := (ez2.trans (bI_t (by decide))).symm
  refine lv_if_ne (tgt := 20) hx hb dX6_cutPower_13 (by decide) (fun _ => ?_) (fun q => absurd q (by decide))
  refine lv_aload_n hx hb dX6_cutPower_20 rfl (lv_at hl 0 rfl) ?_
  refine lv_iload_n hx hb dX6_cutPower_21 rfl (lv_at hl 1 rfl) ?_
  refine x_callVv (k := 285) hE hK hI (c_X6_asCut_4 l G o _ _  ) mf_X6_asCut mw_581 (by decide) ((e_285 G o) _ _) rfl rfl hl.1 rfl (Nat.le_of_ble_eq_true rfl) ⟨(Nat.le_of_ble_eq_true rfl), (Nat.le_of_ble_eq_true rfl)⟩ ⟨Nat.zero_le _, Nat.zero_le _⟩ dX6_cutPower_22 (fun H locs hI => ?_)
  refine lv_aload_n hx hb dX6_cutPower_25 rfl (lv_at hl 0 rfl) ?_
  refine x_callVi (k := 285) hE hK hI (c_X6_layLoads l G o _ _  ) mf_X6_layLoads mw_551 (by decide) ((e_285 G o) _ _) rfl rfl hl.1 rfl (Nat.le_of_ble_eq_true rfl) ⟨(Nat.le_of_ble_eq_true rfl), (Nat.le_of_ble_eq_true rfl)⟩ ⟨Nat.zero_le _, Nat.zero_le _⟩ dX6_cutPower_26 (fun H locs hI => ?_)
  refine lv_if_eq (tgt := 47) hx hb dX6_cutPower_29 (by decide) (fun _ => ?_) (fun q => absurd h q)
  refine lv_ldc2 hx hb hE.2.2.2.1 (hE.2.2.2.2 _ mw_585) dX6_cutPower_47 ?_
  exact x_lret hE hr hlocks hI rfl rfl rfl dX6_cutPower_50
set_option maxRecDepth 100000 in
set_option maxHeartbeats 4000000 in
theorem c_X6_cutPower_y0_4 (l : Launch) (G : GG) (o : Nat) (X : SX) (Y : SY) (h : ¬ (llr (ac4X X) Y = 0)) (hg0 : 0 ≤ pwrM (ac4X X) (llY (ac4X X) Y)) (hgk : gok 100 (pwrM (ac4X X) (llY (ac4X X) Y)) ((llY (ac4X X) Y) 285 5)) (hg : ¬ (gcdL 100 (pwrM (ac4X X) (llY (ac4X X) Y)) ((llY (ac4X X) Y) 285 5) = 0)) : Ct l yX6_cutPower cX6_cutPower 3 (some .long) 2 49 G o [.ref (o + 285), .int 4, .int 0] X Y (some (.long ((pwrM (ac4X X) (llY (ac4X X) Y)) / gcdL 100 (pwrM (ac4X X) (llY (ac4X X) Y)) ((llY (ac4X X) Y) 285 5)))) (ac4X X) (llY (ac4X X) Y) := by
  refine Ct.mk (by decide +kernel) (Nat.le_of_ble_eq_true rfl) rfl ?_
  intro p9 e9 s9 m9 args9 below9 meth9 c9 hE hr hlocks hK hI ls hl
  have hx := hE.1
  have hb := hE.2.1
  have hl : lv_has ls 3 [(0, .ref (o + 285)), (1, .int 4), (2, .int 0)] := hl
  refine lv_iload_n hx hb dX6_cutPower_0 rfl (lv_at hl 1 rfl) ?_
  refine lv_iconst (v := 0) hx hb dX6_cutPower_1 (by decide) ?_
  refine lv_iconst (v := 4) hx hb dX6_cutPower_2 (by decide) ?_
  refine x_callSi hE hK hI (c_X6_in l G o _ _ 4 0 4 ) mf_X6_in mw_509 rfl hl.1 rfl (Nat.le_of_ble_eq_true rfl) ⟨(Nat.le_of_ble_eq_true rfl), (Nat.le_of_ble_eq_true rfl)⟩ ⟨Nat.zero_le _, Nat.zero_le _⟩ dX6_cutPower_3 (fun H locs hI => ?_)
  refine lv_topi (fun z1 ez1 => ?_)
  obtain rfl : 1 = z1 := (ez1.trans (bI_t (by decide))).symm
  refine lv_if_eq (tgt := 16) hx hb dX6_cutPower_6 (by decide) (fun q => absurd q (by decide)) (fun _ => ?_)
  refine lv_iload_n hx hb dX6_cutPower_9 rfl (lv_at hl 2 rfl) ?_
  refine x_callSi hE hK hI (c_X6_isPart l G o _ _ 0 ) mf_X6_isPart mw_544 rfl hl.1 rfl (Nat.le_of_ble_eq_true rfl) ⟨(Nat.le_of_ble_eq_true rfl), (Nat.le_of_ble_eq_true rfl)⟩ ⟨Nat.zero_le _, Nat.zero_le _⟩ dX6_cutPower_10 (fun H locs hI => ?_)
  refine lv_topi (fun z2 ez2 => ?_)
  obtain rfl : 1 = z2 := (ez2.trans (bI_t (by decide))).symm
  refine lv_if_ne (tgt := 20) hx hb dX6_cutPower_13 (by decide) (fun _ => ?_) (fun q => absurd q (by decide))
  refine lv_aload_n hx hb dX6_cutPower_20 rfl (lv_at hl 0 rfl) ?_
  refine lv_iload_n hx hb dX6_cutPower_21 rfl (lv_at hl 1 rfl) ?_
  refine x_callVv (k := 285) hE hK hI (c_X6_asCut_4 l G o _ _  ) mf_X6_asCut mw_581 (by decide) ((e_285 G o) _ _) rfl rfl hl.1 rfl (Nat.le_of_ble_eq_true rfl) ⟨(Nat.le_of_ble_eq_true rfl), (Nat.le_of_ble_eq_true rfl)⟩ ⟨Nat.zero_le _, Nat.zero_le _⟩ dX6_cutPower_22 (fun H locs hI => ?_)
  refine lv_aload_n hx hb dX6_cutPower_25 rfl (lv_at hl 0 rfl) ?_
  refine x_callVi (k := 285) hE hK hI (c_X6_layLoads l G o _ _  ) mf_X6_layLoads mw_551 (by decide) ((e_285 G o) _ _) rfl rfl hl.1 rfl (Nat.le_of_ble_eq_true rfl) ⟨(Nat.le_of_ble_eq_true rfl), (Nat.le_of_ble_eq_true rfl)⟩ ⟨Nat.zero_le _, Nat.zero_le _⟩ dX6_cutPower_26 (fun H locs hI => ?_)
  refine lv_if_eq (tgt := 47) hx hb dX6_cutPower_29 (by decide) (fun q => absurd q h) (fun _ => ?_)
  refine lv_aload_n hx hb dX6_cutPower_32 rfl (lv_at hl 0 rfl) ?_
  refine x_callVl (k := 285) hE hK hI (c_X6_powerOf l G o _ _  ) mf_X6_powerOf mw_572 (by decide) ((e_285 G o) _ _) rfl rfl hl.1 rfl (Nat.le_of_ble_eq_true rfl) ⟨(Nat.le_of_ble_eq_true rfl), (Nat.le_of_ble_eq_true rfl)⟩ ⟨Nat.zero_le _, Nat.zero_le _⟩ dX6_cutPower_33 (fun H locs hI => ?_)
  refine lv_aload_n hx hb dX6_cutPower_36 rfl (lv_at hl 0 rfl) ?_
  refine x_get (k := 285) hE hK hI (by decide) inG6 (e_285 G o _ _) rfl 5 (by decide) mw_485 rfl dX6_cutPower_37 ?_
  refine lv_iload_n hx hb dX6_cutPower_40 rfl (lv_at hl 2 rfl) ?_
  refine x_callSl hE hK hI (c_X6_part_0 l G o _ _ (pwrM (ac4X X) (llY (ac4X X) Y)) ((llY (ac4X X) Y) 285 5) hg0 hgk hg) mf_X6_part mw_556 rfl hl.1 rfl (Nat.le_of_ble_eq_true rfl) ⟨(Nat.le_of_ble_eq_true rfl), (Nat.le_of_ble_eq_true rfl)⟩ ⟨Nat.zero_le _, Nat.zero_le _⟩ dX6_cutPower_41 (fun H locs hI => ?_)
  refine lv_goto (tgt := 50) hx hb dX6_cutPower_44 (by decide) ?_
  exact x_lret hE hr hlocks hI rfl rfl rfl dX6_cutPower_50
set_option maxRecDepth 100000 in
set_option maxHeartbeats 4000000 in
theorem c_X6_cutPower_n1_4 (l : Launch) (G : GG) (o : Nat) (X : SX) (Y : SY) (h : llr (ac4X X) Y = 0) : Ct l yX6_cutPower cX6_cutPower 3 (some .long) 2 49 G o [.ref (o + 285), .int 4, .int 1] X Y (some (.long (-5))) (ac4X X) (llY (ac4X X) Y) := by
  refine Ct.mk (by decide +kernel) (Nat.le_of_ble_eq_true rfl) rfl ?_
  intro p9 e9 s9 m9 args9 below9 meth9 c9 hE hr hlocks hK hI ls hl
  have hx := hE.1
  have hb := hE.2.1
  have hl : lv_has ls 3 [(0, .ref (o + 285)), (1, .int 4), (2, .int 1)] := hl
  refine lv_iload_n hx hb dX6_cutPower_0 rfl (lv_at hl 1 rfl) ?_
  refine lv_iconst (v := 0) hx hb dX6_cutPower_1 (by decide) ?_
  refine lv_iconst (v := 4) hx hb dX6_cutPower_2 (by decide) ?_
  refine x_callSi hE hK hI (c_X6_in l G o _ _ 4 0 4 ) mf_X6_in mw_509 rfl hl.1 rfl (Nat.le_of_ble_eq_true rfl) ⟨(Nat.le_of_ble_eq_true rfl), (Nat.le_of_ble_eq_true rfl)⟩ ⟨Nat.zero_le _, Nat.zero_le _⟩ dX6_cutPower_3 (fun H locs hI => ?_)
  refine lv_topi (fun z1 ez1 => ?_)
  obtain rfl : 1 = z1 := (ez1.trans (bI_t (by decide))).symm
  refine lv_if_eq (tgt := 16) hx hb dX6_cutPower_6 (by decide) (fun q => absurd q (by decide)) (fun _ => ?_)
  refine lv_iload_n hx hb dX6_cutPower_9 rfl (lv_at hl 2 rfl) ?_
  refine x_callSi hE hK hI (c_X6_isPart l G o _ _ 1 ) mf_X6_isPart mw_544 rfl hl.1 rfl (Nat.le_of_ble_eq_true rfl) ⟨(Nat.le_of_ble_eq_true rfl), (Nat.le_of_ble_eq_true rfl)⟩ ⟨Nat.zero_le _, Nat.zero_le _⟩ dX6_cutPower_10 (fun H locs hI => ?_)
  refine lv_topi (fun z2 ez2 => ?_)
  obtain rfl : 1 = z2 := (ez2.trans (bI_t (by decide))).symm
  refine lv_if_ne (tgt := 20) hx hb dX6_cutPower_13 (by decide) (fun _ => ?_) (fun q => absurd q (by decide))
  refine lv_aload_n hx hb dX6_cutPower_20 rfl (lv_at hl 0 rfl) ?_
  refine lv_iload_n hx hb dX6_cutPower_21 rfl (lv_at hl 1 rfl) ?_
  refine x_callVv (k := 285) hE hK hI (c_X6_asCut_4 l G o _ _  ) mf_X6_asCut mw_581 (by decide) ((e_285 G o) _ _) rfl rfl hl.1 rfl (Nat.le_of_ble_eq_true rfl) ⟨(Nat.le_of_ble_eq_true rfl), (Nat.le_of_ble_eq_true rfl)⟩ ⟨Nat.zero_le _, Nat.zero_le _⟩ dX6_cutPower_22 (fun H locs hI => ?_)
  refine lv_aload_n hx hb dX6_cutPower_25 rfl (lv_at hl 0 rfl) ?_
  refine x_callVi (k := 285) hE hK hI (c_X6_layLoads l G o _ _  ) mf_X6_layLoads mw_551 (by decide) ((e_285 G o) _ _) rfl rfl hl.1 rfl (Nat.le_of_ble_eq_true rfl) ⟨(Nat.le_of_ble_eq_true rfl), (Nat.le_of_ble_eq_true rfl)⟩ ⟨Nat.zero_le _, Nat.zero_le _⟩ dX6_cutPower_26 (fun H locs hI => ?_)
  refine lv_if_eq (tgt := 47) hx hb dX6_cutPower_29 (by decide) (fun _ => ?_) (fun q => absurd h q)
  refine lv_ldc2 hx hb hE.2.2.2.1 (hE.2.2.2.2 _ mw_585) dX6_cutPower_47 ?_
  exact x_lret hE hr hlocks hI rfl rfl rfl dX6_cutPower_50
set_option maxRecDepth 100000 in
set_option maxHeartbeats 4000000 in
theorem c_X6_cutPower_y1_4 (l : Launch) (G : GG) (o : Nat) (X : SX) (Y : SY) (h : ¬ (llr (ac4X X) Y = 0)) (hg0 : 0 ≤ pwrM (ac4X X) (llY (ac4X X) Y)) (hgk : gok 100 (pwrM (ac4X X) (llY (ac4X X) Y)) ((llY (ac4X X) Y) 285 5)) (hg : ¬ (gcdL 100 (pwrM (ac4X X) (llY (ac4X X) Y)) ((llY (ac4X X) Y) 285 5) = 0)) : Ct l yX6_cutPower cX6_cutPower 3 (some .long) 2 49 G o [.ref (o + 285), .int 4, .int 1] X Y (some (.long (((llY (ac4X X) Y) 285 5) / gcdL 100 (pwrM (ac4X X) (llY (ac4X X) Y)) ((llY (ac4X X) Y) 285 5)))) (ac4X X) (llY (ac4X X) Y) := by
  refine Ct.mk (by decide +kernel) (Nat.le_of_ble_eq_true rfl) rfl ?_
  intro p9 e9 s9 m9 args9 below9 meth9 c9 hE hr hlocks hK hI ls hl
  have hx := hE.1
  have hb := hE.2.1
  have hl : lv_has ls 3 [(0, .ref (o + 285)), (1, .int 4), (2, .int 1)] := hl
  refine lv_iload_n hx hb dX6_cutPower_0 rfl (lv_at hl 1 rfl) ?_
  refine lv_iconst (v := 0) hx hb dX6_cutPower_1 (by decide) ?_
  refine lv_iconst (v := 4) hx hb dX6_cutPower_2 (by decide) ?_
  refine x_callSi hE hK hI (c_X6_in l G o _ _ 4 0 4 ) mf_X6_in mw_509 rfl hl.1 rfl (Nat.le_of_ble_eq_true rfl) ⟨(Nat.le_of_ble_eq_true rfl), (Nat.le_of_ble_eq_true rfl)⟩ ⟨Nat.zero_le _, Nat.zero_le _⟩ dX6_cutPower_3 (fun H locs hI => ?_)
  refine lv_topi (fun z1 ez1 => ?_)
  obtain rfl : 1 = z1 := (ez1.trans (bI_t (by decide))).symm
  refine lv_if_eq (tgt := 16) hx hb dX6_cutPower_6 (by decide) (fun q => absurd q (by decide)) (fun _ => ?_)
  refine lv_iload_n hx hb dX6_cutPower_9 rfl (lv_at hl 2 rfl) ?_
  refine x_callSi hE hK hI (c_X6_isPart l G o _ _ 1 ) mf_X6_isPart mw_544 rfl hl.1 rfl (Nat.le_of_ble_eq_true rfl) ⟨(Nat.le_of_ble_eq_true rfl), (Nat.le_of_ble_eq_true rfl)⟩ ⟨Nat.zero_le _, Nat.zero_le _⟩ dX6_cutPower_10 (fun H locs hI => ?_)
  refine lv_topi (fun z2 ez2 => ?_)
  obtain rfl : 1 = z2 := (ez2.trans (bI_t (by decide))).symm
  refine lv_if_ne (tgt := 20) hx hb dX6_cutPower_13 (by decide) (fun _ => ?_) (fun q => absurd q (by decide))
  refine lv_aload_n hx hb dX6_cutPower_20 rfl (lv_at hl 0 rfl) ?_
  refine lv_iload_n hx hb dX6_cutPower_21 rfl (lv_at hl 1 rfl) ?_
  refine x_callVv (k := 285) hE hK hI (c_X6_asCut_4 l G o _ _  ) mf_X6_asCut mw_581 (by decide) ((e_285 G o) _ _) rfl rfl hl.1 rfl (Nat.le_of_ble_eq_true rfl) ⟨(Nat.le_of_ble_eq_true rfl), (Nat.le_of_ble_eq_true rfl)⟩ ⟨Nat.zero_le _, Nat.zero_le _⟩ dX6_cutPower_22 (fun H locs hI => ?_)
  refine lv_aload_n hx hb dX6_cutPower_25 rfl (lv_at hl 0 rfl) ?_
  refine x_callVi (k := 285) hE hK hI (c_X6_layLoads l G o _ _  ) mf_X6_layLoads mw_551 (by decide) ((e_285 G o) _ _) rfl rfl hl.1 rfl (Nat.le_of_ble_eq_true rfl) ⟨(Nat.le_of_ble_eq_true rfl), (Nat.le_of_ble_eq_true rfl)⟩ ⟨Nat.zero_le _, Nat.zero_le _⟩ dX6_cutPower_26 (fun H locs hI => ?_)
  refine lv_if_eq (tgt := 47) hx hb dX6_cutPower_29 (by decide) (fun q => absurd q h) (fun _ => ?_)
  refine lv_aload_n hx hb dX6_cutPower_32 rfl (lv_at hl 0 rfl) ?_
  refine x_callVl (k := 285) hE hK hI (c_X6_powerOf l G o _ _  ) mf_X6_powerOf mw_572 (by decide) ((e_285 G o) _ _) rfl rfl hl.1 rfl (Nat.le_of_ble_eq_true rfl) ⟨(Nat.le_of_ble_eq_true rfl), (Nat.le_of_ble_eq_true rfl)⟩ ⟨Nat.zero_le _, Nat.zero_le _⟩ dX6_cutPower_33 (fun H locs hI => ?_)
  refine lv_aload_n hx hb dX6_cutPower_36 rfl (lv_at hl 0 rfl) ?_
  refine x_get (k := 285) hE hK hI (by decide) inG6 (e_285 G o _ _) rfl 5 (by decide) mw_485 rfl dX6_cutPower_37 ?_
  refine lv_iload_n hx hb dX6_cutPower_40 rfl (lv_at hl 2 rfl) ?_
  refine x_callSl hE hK hI (c_X6_part_1 l G o _ _ (pwrM (ac4X X) (llY (ac4X X) Y)) ((llY (ac4X X) Y) 285 5) hg0 hgk hg) mf_X6_part mw_556 rfl hl.1 rfl (Nat.le_of_ble_eq_true rfl) ⟨(Nat.le_of_ble_eq_true rfl), (Nat.le_of_ble_eq_true rfl)⟩ ⟨Nat.zero_le _, Nat.zero_le _⟩ dX6_cutPower_41 (fun H locs hI => ?_)
  refine lv_goto (tgt := 50) hx hb dX6_cutPower_44 (by decide) ?_
  exact x_lret hE hr hlocks hI rfl rfl rfl dX6_cutPower_50
def gcrM (v : Int32) (X : SX) (Y : SY) : Int32 := (-7)
def gcXM (v : Int32) (X : SX) (Y : SY) : SX := X
def gcYM (v : Int32) (X : SX) (Y : SY) : SY := Y
def gcr0 (v : Int32) (X : SX) (Y : SY) : Int32 := if llr (ac0X X) Y = 0 then gcrM v (ac0X X) (llY (ac0X X) Y) else if v.toInt64 * (llY (ac0X X) Y) 285 5 < pwrM (ac0X X) (llY (ac0X X) Y) then gcrM v (ac0X X) (llY (ac0X X) Y) else 0
def gcX0 (v : Int32) (X : SX) (Y : SY) : SX := if llr (ac0X X) Y = 0 then gcXM v (ac0X X) (llY (ac0X X) Y) else if v.toInt64 * (llY (ac0X X) Y) 285 5 < pwrM (ac0X X) (llY (ac0X X) Y) then gcXM v (ac0X X) (llY (ac0X X) Y) else (ac0X X)
def gcY0 (v : Int32) (X : SX) (Y : SY) : SY := if llr (ac0X X) Y = 0 then gcYM v (ac0X X) (llY (ac0X X) Y) else if v.toInt64 * (llY (ac0X X) Y) 285 5 < pwrM (ac0X X) (llY (ac0X X) Y) then gcYM v (ac0X X) (llY (ac0X X) Y) else (llY (ac0X X) Y)
def gcr1 (v : Int32) (X : SX) (Y : SY) : Int32 := if llr (ac1X X) Y = 0 then gcr0 v (ac1X X) (llY (ac1X X) Y) else if v.toInt64 * (llY (ac1X X) Y) 285 5 < pwrM (ac1X X) (llY (ac1X X) Y) then gcr0 v (ac1X X) (llY (ac1X X) Y) else 1
def gcX1 (v : Int32) (X : SX) (Y : SY) : SX := if llr (ac1X X) Y = 0 then gcX0 v (ac1X X) (llY (ac1X X) Y) else if v.toInt64 * (llY (ac1X X) Y) 285 5 < pwrM (ac1X X) (llY (ac1X X) Y) then gcX0 v (ac1X X) (llY (ac1X X) Y) else (ac1X X)
def gcY1 (v : Int32) (X : SX) (Y : SY) : SY := if llr (ac1X X) Y = 0 then gcY0 v (ac1X X) (llY (ac1X X) Y) else if v.toInt64 * (llY (ac1X X) Y) 285 5 < pwrM (ac1X X) (llY (ac1X X) Y) then gcY0 v (ac1X X) (llY (ac1X X) Y) else (llY (ac1X X) Y)
def gcr2 (v : Int32) (X : SX) (Y : SY) : Int32 := if llr (ac2X X) Y = 0 then gcr1 v (ac2X X) (llY (ac2X X) Y) else if v.toInt64 * (llY (ac2X X) Y) 285 5 < pwrM (ac2X X) (llY (ac2X X) Y) then gcr1 v (ac2X X) (llY (ac2X X) Y) else 2
def gcX2 (v : Int32) (X : SX) (Y : SY) : SX := if llr (ac2X X) Y = 0 then gcX1 v (ac2X X) (llY (ac2X X) Y) else if v.toInt64 * (llY (ac2X X) Y) 285 5 < pwrM (ac2X X) (llY (ac2X X) Y) then gcX1 v (ac2X X) (llY (ac2X X) Y) else (ac2X X)
def gcY2 (v : Int32) (X : SX) (Y : SY) : SY := if llr (ac2X X) Y = 0 then gcY1 v (ac2X X) (llY (ac2X X) Y) else if v.toInt64 * (llY (ac2X X) Y) 285 5 < pwrM (ac2X X) (llY (ac2X X) Y) then gcY1 v (ac2X X) (llY (ac2X X) Y) else (llY (ac2X X) Y)
def gcr3 (v : Int32) (X : SX) (Y : SY) : Int32 := if llr (ac3X X) Y = 0 then gcr2 v (ac3X X) (llY (ac3X X) Y) else if v.toInt64 * (llY (ac3X X) Y) 285 5 < pwrM (ac3X X) (llY (ac3X X) Y) then gcr2 v (ac3X X) (llY (ac3X X) Y) else 3
def gcX3 (v : Int32) (X : SX) (Y : SY) : SX := if llr (ac3X X) Y = 0 then gcX2 v (ac3X X) (llY (ac3X X) Y) else if v.toInt64 * (llY (ac3X X) Y) 285 5 < pwrM (ac3X X) (llY (ac3X X) Y) then gcX2 v (ac3X X) (llY (ac3X X) Y) else (ac3X X)
def gcY3 (v : Int32) (X : SX) (Y : SY) : SY := if llr (ac3X X) Y = 0 then gcY2 v (ac3X X) (llY (ac3X X) Y) else if v.toInt64 * (llY (ac3X X) Y) 285 5 < pwrM (ac3X X) (llY (ac3X X) Y) then gcY2 v (ac3X X) (llY (ac3X X) Y) else (llY (ac3X X) Y)
def gcr4 (v : Int32) (X : SX) (Y : SY) : Int32 := if llr (ac4X X) Y = 0 then gcr3 v (ac4X X) (llY (ac4X X) Y) else if v.toInt64 * (llY (ac4X X) Y) 285 5 < pwrM (ac4X X) (llY (ac4X X) Y) then gcr3 v (ac4X X) (llY (ac4X X) Y) else 4
def gcX4 (v : Int32) (X : SX) (Y : SY) : SX := if llr (ac4X X) Y = 0 then gcX3 v (ac4X X) (llY (ac4X X) Y) else if v.toInt64 * (llY (ac4X X) Y) 285 5 < pwrM (ac4X X) (llY (ac4X X) Y) then gcX3 v (ac4X X) (llY (ac4X X) Y) else (ac4X X)
def gcY4 (v : Int32) (X : SX) (Y : SY) : SY := if llr (ac4X X) Y = 0 then gcY3 v (ac4X X) (llY (ac4X X) Y) else if v.toInt64 * (llY (ac4X X) Y) 285 5 < pwrM (ac4X X) (llY (ac4X X) Y) then gcY3 v (ac4X X) (llY (ac4X X) Y) else (llY (ac4X X) Y)
set_option maxRecDepth 100000 in
set_option maxHeartbeats 4000000 in
theorem c_X6_finestCut_a (l : Launch) (G : GG) (o : Nat) (X : SX) (Y : SY) (v : Int32) (h : ¬ (Wi v 0 1000000000)) : Ct l yX6_finestCut cX6_finestCut 3 (some .int) 1 22 G o [.ref (o + 285), .int v] X Y (some (.int (-3))) X Y := by
  refine Ct.mk (by decide +kernel) (Nat.le_of_ble_eq_true rfl) rfl ?_
  intro p9 e9 s9 m9 args9 below9 meth9 c9 hE hr hlocks hK hI ls hl
  have hx := hE.1
  have hb := hE.2.1
  have hl : lv_has ls 3 [(0, .ref (o + 285)), (1, .int v)] := hl
  refine lv_iload_n hx hb dX6_finestCut_0 rfl (lv_at hl 1 rfl) ?_
  refine lv_iconst (v := 0) hx hb dX6_finestCut_1 (by decide) ?_
  refine lv_ldc hx hb hE.2.2.2.1 (hE.2.2.2.2 _ mw_590) dX6_finestCut_2 ?_
  refine x_callSi hE hK hI (c_X6_in l G o _ _ v 0 1000000000 ) mf_X6_in mw_509 rfl hl.1 rfl (Nat.le_of_ble_eq_true rfl) ⟨(Nat.le_of_ble_eq_true rfl), (Nat.le_of_ble_eq_true rfl)⟩ ⟨Nat.zero_le _, Nat.zero_le _⟩ dX6_finestCut_4 (fun H locs hI => ?_)
  refine lv_topi (fun z1 ez1 => ?_)
  obtain rfl : 0 = z1 := (ez1.trans (bI_f h)).symm
  refine lv_if_ne (tgt := 13) hx hb dX6_finestCut_7 (by decide) (fun q => absurd (by decide) q) (fun _ => ?_)
  refine lv_bipush (v := (-3)) hx hb dX6_finestCut_10 (by decide) ?_
  exact x_iret hE hr hlocks hI rfl rfl rfl dX6_finestCut_12
set_option maxRecDepth 100000 in
set_option maxHeartbeats 4000000 in
theorem hd_gcM (l : Launch) (G : GG) (o : Nat) (X : SX) (Y : SY) (v : Int32) {p9 : Program} {e9 : Env} {s9 : State} {m9 : MethodId} {args9 : Array Value} {below9 : List Frame} {meth9 : Method} {c9 : Code} (hE : gE p9 m9 c9 cX6_finestCut 3 s9 args9 yX6_finestCut.cls) (hr : meth9.sig.returnType = (some .int)) (hlocks : meth9.locks = false) (hK : KK G s9) (H : Heap) (locs : List Loc) (hI : In G o X Y s9.heap H locs) (ls : Array Slot) (hl : lv_has ls 3 [(0, .ref (o + 285)), (1, .int v), (2, .int (-1))]) :
    W p9 l e9 (Rm 2 49) s9 m9 args9 below9 meth9 c9 H locs 0 0 (MQ below9 (Qw G o (some (.int (gcrM v X Y))) (gcXM v X Y) (gcYM v X Y)) args9 s9 0 0 (rg o)) (F0 m9 15 ls []) := by
  have hx := hE.1
  have hb := hE.2.1
  refine lv_iload_n hx hb dX6_finestCut_15 rfl (lv_at hl 2 rfl) ?_
  refine lv_if_lt (tgt := 54) hx hb dX6_finestCut_16 (by decide) (fun _ => ?_) (fun q => absurd (by decide) q)
  refine lv_bipush (v := (-7)) hx hb dX6_finestCut_54 (by decide) ?_
  exact x_iret hE hr hlocks hI rfl rfl rfl dX6_finestCut_56
set_option maxRecDepth 100000 in
set_option maxHeartbeats 4000000 in
theorem hd_gc0 (l : Launch) (G : GG) (o : Nat) (X : SX) (Y : SY) (v : Int32) {p9 : Program} {e9 : Env} {s9 : State} {m9 : MethodId} {args9 : Array Value} {below9 : List Frame} {meth9 : Method} {c9 : Code} (hE : gE p9 m9 c9 cX6_finestCut 3 s9 args9 yX6_finestCut.cls) (hr : meth9.sig.returnType = (some .int)) (hlocks : meth9.locks = false) (hK : KK G s9) (H : Heap) (locs : List Loc) (hI : In G o X Y s9.heap H locs) (ls : Array Slot) (hl : lv_has ls 3 [(0, .ref (o + 285)), (1, .int v), (2, .int 0)]) :
    W p9 l e9 (Rm 2 49) s9 m9 args9 below9 meth9 c9 H locs 0 0 (MQ below9 (Qw G o (some (.int (gcr0 v X Y))) (gcX0 v X Y) (gcY0 v X Y)) args9 s9 0 0 (rg o)) (F0 m9 15 ls []) := by
  have hx := hE.1
  have hb := hE.2.1
  refine lv_iload_n hx hb dX6_finestCut_15 rfl (lv_at hl 2 rfl) ?_
  refine lv_if_lt (tgt := 54) hx hb dX6_finestCut_16 (by decide) (fun q => absurd q (by decide)) (fun _ => ?_)
  refine lv_aload_n hx hb dX6_finestCut_19 rfl (lv_at hl 0 rfl) ?_
  refine lv_iload_n hx hb dX6_finestCut_20 rfl (lv_at hl 2 rfl) ?_
  refine x_callVv (k := 285) hE hK hI (c_X6_asCut_0 l G o _ _  ) mf_X6_asCut mw_581 (by decide) ((e_285 G o) _ _) rfl rfl hl.1 rfl (Nat.le_of_ble_eq_true rfl) ⟨(Nat.le_of_ble_eq_true rfl), (Nat.le_of_ble_eq_true rfl)⟩ ⟨Nat.zero_le _, Nat.zero_le _⟩ dX6_finestCut_21 (fun H locs hI => ?_)
  refine lv_aload_n hx hb dX6_finestCut_24 rfl (lv_at hl 0 rfl) ?_
  refine x_callVi (k := 285) hE hK hI (c_X6_layLoads l G o _ _  ) mf_X6_layLoads mw_551 (by decide) ((e_285 G o) _ _) rfl rfl hl.1 rfl (Nat.le_of_ble_eq_true rfl) ⟨(Nat.le_of_ble_eq_true rfl), (Nat.le_of_ble_eq_true rfl)⟩ ⟨Nat.zero_le _, Nat.zero_le _⟩ dX6_finestCut_25 (fun H locs hI => ?_)
  refine lv_if_eq (tgt := 48) hx hb dX6_finestCut_28 (by decide) (fun c1 => ?_) (fun c1 => ?_)
  · refine lv_iinc (v := (-1)) (lv' := [(2, .int (-1)), (0, .ref (o + 285)), (1, .int v)]) hx hb dX6_finestCut_48 hl (k := 2) rfl (by decide) (by decide) rfl (fun ls hl => ?_)
    refine lv_goto (tgt := 15) hx hb dX6_finestCut_51 (by decide) ?_
    have e0 : gcr0 v X Y = gcrM v (ac0X X) (llY (ac0X X) Y) := if_pos c1
    have e1 : gcX0 v X Y = gcXM v (ac0X X) (llY (ac0X X) Y) := if_pos c1
    have e2 : gcY0 v X Y = gcYM v (ac0X X) (llY (ac0X X) Y) := if_pos c1
    rw [e0, e1, e2]
    exact hd_gcM l G o _ _ v hE hr hlocks hK H locs hI ls (lv_sub hl [1, 2, 0] rfl)
  · refine lv_aload_n hx hb dX6_finestCut_31 rfl (lv_at hl 0 rfl) ?_
    refine x_callVl (k := 285) hE hK hI (c_X6_powerOf l G o _ _  ) mf_X6_powerOf mw_572 (by decide) ((e_285 G o) _ _) rfl rfl hl.1 rfl (Nat.le_of_ble_eq_true rfl) ⟨(Nat.le_of_ble_eq_true rfl), (Nat.le_of_ble_eq_true rfl)⟩ ⟨Nat.zero_le _, Nat.zero_le _⟩ dX6_finestCut_32 (fun H locs hI => ?_)
    refine lv_iload_n hx hb dX6_finestCut_35 rfl (lv_at hl 1 rfl) ?_
    refine lv_i2l hx hb dX6_finestCut_36 rfl ?_
    refine lv_aload_n hx hb dX6_finestCut_37 rfl (lv_at hl 0 rfl) ?_
    refine x_get (k := 285) hE hK hI (by decide) inG6 (e_285 G o _ _) rfl 5 (by decide) mw_485 rfl dX6_finestCut_38 ?_
    refine lv_lmul hx hb dX6_finestCut_41 ?_
    refine W.lcmp hx hb dX6_finestCut_42 ?_
    refine lv_if_gt (tgt := 48) hx hb dX6_finestCut_43 (by decide) (fun c2 => ?_) (fun c2 => ?_)
    · have c2 := (lg_cmp_gt _ _).mp c2
      refine lv_iinc (v := (-1)) (lv' := [(2, .int (-1)), (0, .ref (o + 285)), (1, .int v)]) hx hb dX6_finestCut_48 hl (k := 2) rfl (by decide) (by decide) rfl (fun ls hl => ?_)
      refine lv_goto (tgt := 15) hx hb dX6_finestCut_51 (by decide) ?_
      have e0 : gcr0 v X Y = gcrM v (ac0X X) (llY (ac0X X) Y) := (if_neg c1).trans (if_pos c2)
      have e1 : gcX0 v X Y = gcXM v (ac0X X) (llY (ac0X X) Y) := (if_neg c1).trans (if_pos c2)
      have e2 : gcY0 v X Y = gcYM v (ac0X X) (llY (ac0X X) Y) := (if_neg c1).trans (if_pos c2)
      rw [e0, e1, e2]
      exact hd_gcM l G o _ _ v hE hr hlocks hK H locs hI ls (lv_sub hl [1, 2, 0] rfl)
    · have c2 := mt (lg_cmp_gt _ _).mpr c2
      refine lv_iload_n hx hb dX6_finestCut_46 rfl (lv_at hl 2 rfl) ?_
      exact x_iret hE hr hlocks hI (congrArg (fun q => some (Value.int q)) ((if_neg c1).trans (if_neg c2))) (((if_neg c1).trans (if_neg c2)).symm) (((if_neg c1).trans (if_neg c2)).symm) dX6_finestCut_47
set_option maxRecDepth 100000 in
set_option maxHeartbeats 4000000 in
theorem hd_gc1 (l : Launch) (G : GG) (o : Nat) (X : SX) (Y : SY) (v : Int32) {p9 : Program} {e9 : Env} {s9 : State} {m9 : MethodId} {args9 : Array Value} {below9 : List Frame} {meth9 : Method} {c9 : Code} (hE : gE p9 m9 c9 cX6_finestCut 3 s9 args9 yX6_finestCut.cls) (hr : meth9.sig.returnType = (some .int)) (hlocks : meth9.locks = false) (hK : KK G s9) (H : Heap) (locs : List Loc) (hI : In G o X Y s9.heap H locs) (ls : Array Slot) (hl : lv_has ls 3 [(0, .ref (o + 285)), (1, .int v), (2, .int 1)]) :
    W p9 l e9 (Rm 2 49) s9 m9 args9 below9 meth9 c9 H locs 0 0 (MQ below9 (Qw G o (some (.int (gcr1 v X Y))) (gcX1 v X Y) (gcY1 v X Y)) args9 s9 0 0 (rg o)) (F0 m9 15 ls []) := by
  have hx := hE.1
  have hb := hE.2.1
  refine lv_iload_n hx hb dX6_finestCut_15 rfl (lv_at hl 2 rfl) ?_
  refine lv_if_lt (tgt := 54) hx hb dX6_finestCut_16 (by decide) (fun q => absurd q (by decide)) (fun _ => ?_)
  refine lv_aload_n hx hb dX6_finestCut_19 rfl (lv_at hl 0 rfl) ?_
  refine lv_iload_n hx hb dX6_finestCut_20 rfl (lv_at hl 2 rfl) ?_
  refine x_callVv (k := 285) hE hK hI (c_X6_asCut_1 l G o _ _  ) mf_X6_asCut mw_581 (by decide) ((e_285 G o) _ _) rfl rfl hl.1 rfl (Nat.le_of_ble_eq_true rfl) ⟨(Nat.le_of_ble_eq_true rfl), (Nat.le_of_ble_eq_true rfl)⟩ ⟨Nat.zero_le _, Nat.zero_le _⟩ dX6_finestCut_21 (fun H locs hI => ?_)
  refine lv_aload_n hx hb dX6_finestCut_24 rfl (lv_at hl 0 rfl) ?_
  refine x_callVi (k := 285) hE hK hI (c_X6_layLoads l G o _ _  ) mf_X6_layLoads mw_551 (by decide) ((e_285 G o) _ _) rfl rfl hl.1 rfl (Nat.le_of_ble_eq_true rfl) ⟨(Nat.le_of_ble_eq_true rfl), (Nat.le_of_ble_eq_true rfl)⟩ ⟨Nat.zero_le _, Nat.zero_le _⟩ dX6_finestCut_25 (fun H locs hI => ?_)
  refine lv_if_eq (tgt := 48) hx hb dX6_finestCut_28 (by decide) (fun c1 => ?_) (fun c1 => ?_)
  · refine lv_iinc (v := 0) (lv' := [(2, .int 0), (0, .ref (o + 285)), (1, .int v)]) hx hb dX6_finestCut_48 hl (k := 2) rfl (by decide) (by decide) rfl (fun ls hl => ?_)
    refine lv_goto (tgt := 15) hx hb dX6_finestCut_51 (by decide) ?_
    have e0 : gcr1 v X Y = gcr0 v (ac1X X) (llY (ac1X X) Y) := if_pos c1
    have e1 : gcX1 v X Y = gcX0 v (ac1X X) (llY (ac1X X) Y) := if_pos c1
    have e2 : gcY1 v X Y = gcY0 v (ac1X X) (llY (ac1X X) Y) := if_pos c1
    rw [e0, e1, e2]
    exact hd_gc0 l G o _ _ v hE hr hlocks hK H locs hI ls (lv_sub hl [1, 2, 0] rfl)
  · refine lv_aload_n hx hb dX6_finestCut_31 rfl (lv_at hl 0 rfl) ?_
    refine x_callVl (k := 285) hE hK hI (c_X6_powerOf l G o _ _  ) mf_X6_powerOf mw_572 (by decide) ((e_285 G o) _ _) rfl rfl hl.1 rfl (Nat.le_of_ble_eq_true rfl) ⟨(Nat.le_of_ble_eq_true rfl), (Nat.le_of_ble_eq_true rfl)⟩ ⟨Nat.zero_le _, Nat.zero_le _⟩ dX6_finestCut_32 (fun H locs hI => ?_)
    refine lv_iload_n hx hb dX6_finestCut_35 rfl (lv_at hl 1 rfl) ?_
    refine lv_i2l hx hb dX6_finestCut_36 rfl ?_
    refine lv_aload_n hx hb dX6_finestCut_37 rfl (lv_at hl 0 rfl) ?_
    refine x_get (k := 285) hE hK hI (by decide) inG6 (e_285 G o _ _) rfl 5 (by decide) mw_485 rfl dX6_finestCut_38 ?_
    refine lv_lmul hx hb dX6_finestCut_41 ?_
    refine W.lcmp hx hb dX6_finestCut_42 ?_
    refine lv_if_gt (tgt := 48) hx hb dX6_finestCut_43 (by decide) (fun c2 => ?_) (fun c2 => ?_)
    · have c2 := (lg_cmp_gt _ _).mp c2
      refine lv_iinc (v := 0) (lv' := [(2, .int 0), (0, .ref (o + 285)), (1, .int v)]) hx hb dX6_finestCut_48 hl (k := 2) rfl (by decide) (by decide) rfl (fun ls hl => ?_)
      refine lv_goto (tgt := 15) hx hb dX6_finestCut_51 (by decide) ?_
      have e0 : gcr1 v X Y = gcr0 v (ac1X X) (llY (ac1X X) Y) := (if_neg c1).trans (if_pos c2)
      have e1 : gcX1 v X Y = gcX0 v (ac1X X) (llY (ac1X X) Y) := (if_neg c1).trans (if_pos c2)
      have e2 : gcY1 v X Y = gcY0 v (ac1X X) (llY (ac1X X) Y) := (if_neg c1).trans (if_pos c2)
      rw [e0, e1, e2]
      exact hd_gc0 l G o _ _ v hE hr hlocks hK H locs hI ls (lv_sub hl [1, 2, 0] rfl)
    · have c2 := mt (lg_cmp_gt _ _).mpr c2
      refine lv_iload_n hx hb dX6_finestCut_46 rfl (lv_at hl 2 rfl) ?_
      exact x_iret hE hr hlocks hI (congrArg (fun q => some (Value.int q)) ((if_neg c1).trans (if_neg c2))) (((if_neg c1).trans (if_neg c2)).symm) (((if_neg c1).trans (if_neg c2)).symm) dX6_finestCut_47
set_option maxRecDepth 100000 in
set_option maxHeartbeats 4000000 in
theorem hd_gc2 (l : Launch) (G : GG) (o : Nat) (X : SX) (Y : SY) (v : Int32) {p9 : Program} {e9 : Env} {s9 : State} {m9 : MethodId} {args9 : Array Value} {below9 : List Frame} {meth9 : Method} {c9 : Code} (hE : gE p9 m9 c9 cX6_finestCut 3 s9 args9 yX6_finestCut.cls) (hr : meth9.sig.returnType = (some .int)) (hlocks : meth9.locks = false) (hK : KK G s9) (H : Heap) (locs : List Loc) (hI : In G o X Y s9.heap H locs) (ls : Array Slot) (hl : lv_has ls 3 [(0, .ref (o + 285)), (1, .int v), (2, .int 2)]) :
    W p9 l e9 (Rm 2 49) s9 m9 args9 below9 meth9 c9 H locs 0 0 (MQ below9 (Qw G o (some (.int (gcr2 v X Y))) (gcX2 v X Y) (gcY2 v X Y)) args9 s9 0 0 (rg o)) (F0 m9 15 ls []) := by
  have hx := hE.1
  have hb := hE.2.1
  refine lv_iload_n hx hb dX6_finestCut_15 rfl (lv_at hl 2 rfl) ?_
  refine lv_if_lt (tgt := 54) hx hb dX6_finestCut_16 (by decide) (fun q => absurd q (by decide)) (fun _ => ?_)
  refine lv_aload_n hx hb dX6_finestCut_19 rfl (lv_at hl 0 rfl) ?_
  refine lv_iload_n hx hb dX6_finestCut_20 rfl (lv_at hl 2 rfl) ?_
  refine x_callVv (k := 285) hE hK hI (c_X6_asCut_2 l G o _ _  ) mf_X6_asCut mw_581 (by decide) ((e_285 G o) _ _) rfl rfl hl.1 rfl (Nat.le_of_ble_eq_true rfl) ⟨(Nat.le_of_ble_eq_true rfl), (Nat.le_of_ble_eq_true rfl)⟩ ⟨Nat.zero_le _, Nat.zero_le _⟩ dX6_finestCut_21 (fun H locs hI => ?_)
  refine lv_aload_n hx hb dX6_finestCut_24 rfl (lv_at hl 0 rfl) ?_
  refine x_callVi (k := 285) hE hK hI (c_X6_layLoads l G o _ _  ) mf_X6_layLoads mw_551 (by decide) ((e_285 G o) _ _) rfl rfl hl.1 rfl (Nat.le_of_ble_eq_true rfl) ⟨(Nat.le_of_ble_eq_true rfl), (Nat.le_of_ble_eq_true rfl)⟩ ⟨Nat.zero_le _, Nat.zero_le _⟩ dX6_finestCut_25 (fun H locs hI => ?_)
  refine lv_if_eq (tgt := 48) hx hb dX6_finestCut_28 (by decide) (fun c1 => ?_) (fun c1 => ?_)
  · refine lv_iinc (v := 1) (lv' := [(2, .int 1), (0, .ref (o + 285)), (1, .int v)]) hx hb dX6_finestCut_48 hl (k := 2) rfl (by decide) (by decide) rfl (fun ls hl => ?_)
    refine lv_goto (tgt := 15) hx hb dX6_finestCut_51 (by decide) ?_
    have e0 : gcr2 v X Y = gcr1 v (ac2X X) (llY (ac2X X) Y) := if_pos c1
    have e1 : gcX2 v X Y = gcX1 v (ac2X X) (llY (ac2X X) Y) := if_pos c1
    have e2 : gcY2 v X Y = gcY1 v (ac2X X) (llY (ac2X X) Y) := if_pos c1
    rw [e0, e1, e2]
    exact hd_gc1 l G o _ _ v hE hr hlocks hK H locs hI ls (lv_sub hl [1, 2, 0] rfl)
  · refine lv_aload_n hx hb dX6_finestCut_31 rfl (lv_at hl 0 rfl) ?_
    refine x_callVl (k := 285) hE hK hI (c_X6_powerOf l G o _ _  ) mf_X6_powerOf mw_572 (by decide) ((e_285 G o) _ _) rfl rfl hl.1 rfl (Nat.le_of_ble_eq_true rfl) ⟨(Nat.le_of_ble_eq_true rfl), (Nat.le_of_ble_eq_true rfl)⟩ ⟨Nat.zero_le _, Nat.zero_le _⟩ dX6_finestCut_32 (fun H locs hI => ?_)
    refine lv_iload_n hx hb dX6_finestCut_35 rfl (lv_at hl 1 rfl) ?_
    refine lv_i2l hx hb dX6_finestCut_36 rfl ?_
    refine lv_aload_n hx hb dX6_finestCut_37 rfl (lv_at hl 0 rfl) ?_
    refine x_get (k := 285) hE hK hI (by decide) inG6 (e_285 G o _ _) rfl 5 (by decide) mw_485 rfl dX6_finestCut_38 ?_
    refine lv_lmul hx hb dX6_finestCut_41 ?_
    refine W.lcmp hx hb dX6_finestCut_42 ?_
    refine lv_if_gt (tgt := 48) hx hb dX6_finestCut_43 (by decide) (fun c2 => ?_) (fun c2 => ?_)
    · have c2 := (lg_cmp_gt _ _).mp c2
      refine lv_iinc (v := 1) (lv' := [(2, .int 1), (0, .ref (o + 285)), (1, .int v)]) hx hb dX6_finestCut_48 hl (k := 2) rfl (by decide) (by decide) rfl (fun ls hl => ?_)
      refine lv_goto (tgt := 15) hx hb dX6_finestCut_51 (by decide) ?_
      have e0 : gcr2 v X Y = gcr1 v (ac2X X) (llY (ac2X X) Y) := (if_neg c1).trans (if_pos c2)
      have e1 : gcX2 v X Y = gcX1 v (ac2X X) (llY (ac2X X) Y) := (if_neg c1).trans (if_pos c2)
      have e2 : gcY2 v X Y = gcY1 v (ac2X X) (llY (ac2X X) Y) := (if_neg c1).trans (if_pos c2)
      rw [e0, e1, e2]
      exact hd_gc1 l G o _ _ v hE hr hlocks hK H locs hI ls (lv_sub hl [1, 2, 0] rfl)
    · have c2 := mt (lg_cmp_gt _ _).mpr c2
      refine lv_iload_n hx hb dX6_finestCut_46 rfl (lv_at hl 2 rfl) ?_
      exact x_iret hE hr hlocks hI (congrArg (fun q => some (Value.int q)) ((if_neg c1).trans (if_neg c2))) (((if_neg c1).trans (if_neg c2)).symm) (((if_neg c1).trans (if_neg c2)).symm) dX6_finestCut_47
set_option maxRecDepth 100000 in
set_option maxHeartbeats 4000000 in
theorem hd_gc3 (l : Launch) (G : GG) (o : Nat) (X : SX) (Y : SY) (v : Int32) {p9 : Program} {e9 : Env} {s9 : State} {m9 : MethodId} {args9 : Array Value} {below9 : List Frame} {meth9 : Method} {c9 : Code} (hE : gE p9 m9 c9 cX6_finestCut 3 s9 args9 yX6_finestCut.cls) (hr : meth9.sig.returnType = (some .int)) (hlocks : meth9.locks = false) (hK : KK G s9) (H : Heap) (locs : List Loc) (hI : In G o X Y s9.heap H locs) (ls : Array Slot) (hl : lv_has ls 3 [(0, .ref (o + 285)), (1, .int v), (2, .int 3)]) :
    W p9 l e9 (Rm 2 49) s9 m9 args9 below9 meth9 c9 H locs 0 0 (MQ below9 (Qw G o (some (.int (gcr3 v X Y))) (gcX3 v X Y) (gcY3 v X Y)) args9 s9 0 0 (rg o)) (F0 m9 15 ls []) := by
  have hx := hE.1
  have hb := hE.2.1
  refine lv_iload_n hx hb dX6_finestCut_15 rfl (lv_at hl 2 rfl) ?_
  refine lv_if_lt (tgt := 54) hx hb dX6_finestCut_16 (by decide) (fun q => absurd q (by decide)) (fun _ => ?_)
  refine lv_aload_n hx hb dX6_finestCut_19 rfl (lv_at hl 0 rfl) ?_
  refine lv_iload_n hx hb dX6_finestCut_20 rfl (lv_at hl 2 rfl) ?_
  refine x_callVv (k := 285) hE hK hI (c_X6_asCut_3 l G o _ _  ) mf_X6_asCut mw_581 (by decide) ((e_285 G o) _ _) rfl rfl hl.1 rfl (Nat.le_of_ble_eq_true rfl) ⟨(Nat.le_of_ble_eq_true rfl), (Nat.le_of_ble_eq_true rfl)⟩ ⟨Nat.zero_le _, Nat.zero_le _⟩ dX6_finestCut_21 (fun H locs hI => ?_)
  refine lv_aload_n hx hb dX6_finestCut_24 rfl (lv_at hl 0 rfl) ?_
  refine x_callVi (k := 285) hE hK hI (c_X6_layLoads l G o _ _  ) mf_X6_layLoads mw_551 (by decide) ((e_285 G o) _ _) rfl rfl hl.1 rfl (Nat.le_of_ble_eq_true rfl) ⟨(Nat.le_of_ble_eq_true rfl), (Nat.le_of_ble_eq_true rfl)⟩ ⟨Nat.zero_le _, Nat.zero_le _⟩ dX6_finestCut_25 (fun H locs hI => ?_)
  refine lv_if_eq (tgt := 48) hx hb dX6_finestCut_28 (by decide) (fun c1 => ?_) (fun c1 => ?_)
  · refine lv_iinc (v := 2) (lv' := [(2, .int 2), (0, .ref (o + 285)), (1, .int v)]) hx hb dX6_finestCut_48 hl (k := 2) rfl (by decide) (by decide) rfl (fun ls hl => ?_)
    refine lv_goto (tgt := 15) hx hb dX6_finestCut_51 (by decide) ?_
    have e0 : gcr3 v X Y = gcr2 v (ac3X X) (llY (ac3X X) Y) := if_pos c1
    have e1 : gcX3 v X Y = gcX2 v (ac3X X) (llY (ac3X X) Y) := if_pos c1
    have e2 : gcY3 v X Y = gcY2 v (ac3X X) (llY (ac3X X) Y) := if_pos c1
    rw [e0, e1, e2]
    exact hd_gc2 l G o _ _ v hE hr hlocks hK H locs hI ls (lv_sub hl [1, 2, 0] rfl)
  · refine lv_aload_n hx hb dX6_finestCut_31 rfl (lv_at hl 0 rfl) ?_
    refine x_callVl (k := 285) hE hK hI (c_X6_powerOf l G o _ _  ) mf_X6_powerOf mw_572 (by decide) ((e_285 G o) _ _) rfl rfl hl.1 rfl (Nat.le_of_ble_eq_true rfl) ⟨(Nat.le_of_ble_eq_true rfl), (Nat.le_of_ble_eq_true rfl)⟩ ⟨Nat.zero_le _, Nat.zero_le _⟩ dX6_finestCut_32 (fun H locs hI => ?_)
    refine lv_iload_n hx hb dX6_finestCut_35 rfl (lv_at hl 1 rfl) ?_
    refine lv_i2l hx hb dX6_finestCut_36 rfl ?_
    refine lv_aload_n hx hb dX6_finestCut_37 rfl (lv_at hl 0 rfl) ?_
    refine x_get (k := 285) hE hK hI (by decide) inG6 (e_285 G o _ _) rfl 5 (by decide) mw_485 rfl dX6_finestCut_38 ?_
    refine lv_lmul hx hb dX6_finestCut_41 ?_
    refine W.lcmp hx hb dX6_finestCut_42 ?_
    refine lv_if_gt (tgt := 48) hx hb dX6_finestCut_43 (by decide) (fun c2 => ?_) (fun c2 => ?_)
    · have c2 := (lg_cmp_gt _ _).mp c2
      refine lv_iinc (v := 2) (lv' := [(2, .int 2), (0, .ref (o + 285)), (1, .int v)]) hx hb dX6_finestCut_48 hl (k := 2) rfl (by decide) (by decide) rfl (fun ls hl => ?_)
      refine lv_goto (tgt := 15) hx hb dX6_finestCut_51 (by decide) ?_
      have e0 : gcr3 v X Y = gcr2 v (ac3X X) (llY (ac3X X) Y) := (if_neg c1).trans (if_pos c2)
      have e1 : gcX3 v X Y = gcX2 v (ac3X X) (llY (ac3X X) Y) := (if_neg c1).trans (if_pos c2)
      have e2 : gcY3 v X Y = gcY2 v (ac3X X) (llY (ac3X X) Y) := (if_neg c1).trans (if_pos c2)
      rw [e0, e1, e2]
      exact hd_gc2 l G o _ _ v hE hr hlocks hK H locs hI ls (lv_sub hl [1, 2, 0] rfl)
    · have c2 := mt (lg_cmp_gt _ _).mpr c2
      refine lv_iload_n hx hb dX6_finestCut_46 rfl (lv_at hl 2 rfl) ?_
      exact x_iret hE hr hlocks hI (congrArg (fun q => some (Value.int q)) ((if_neg c1).trans (if_neg c2))) (((if_neg c1).trans (if_neg c2)).symm) (((if_neg c1).trans (if_neg c2)).symm) dX6_finestCut_47
set_option maxRecDepth 100000 in
set_option maxHeartbeats 4000000 in
theorem hd_gc4 (l : Launch) (G : GG) (o : Nat) (X : SX) (Y : SY) (v : Int32) {p9 : Program} {e9 : Env} {s9 : State} {m9 : MethodId} {args9 : Array Value} {below9 : List Frame} {meth9 : Method} {c9 : Code} (hE : gE p9 m9 c9 cX6_finestCut 3 s9 args9 yX6_finestCut.cls) (hr : meth9.sig.returnType = (some .int)) (hlocks : meth9.locks = false) (hK : KK G s9) (H : Heap) (locs : List Loc) (hI : In G o X Y s9.heap H locs) (ls : Array Slot) (hl : lv_has ls 3 [(0, .ref (o + 285)), (1, .int v), (2, .int 4)]) :
    W p9 l e9 (Rm 2 49) s9 m9 args9 below9 meth9 c9 H locs 0 0 (MQ below9 (Qw G o (some (.int (gcr4 v X Y))) (gcX4 v X Y) (gcY4 v X Y)) args9 s9 0 0 (rg o)) (F0 m9 15 ls []) := by
  have hx := hE.1
  have hb := hE.2.1
  refine lv_iload_n hx hb dX6_finestCut_15 rfl (lv_at hl 2 rfl) ?_
  refine lv_if_lt (tgt := 54) hx hb dX6_finestCut_16 (by decide) (fun q => absurd q (by decide)) (fun _ => ?_)
  refine lv_aload_n hx hb dX6_finestCut_19 rfl (lv_at hl 0 rfl) ?_
  refine lv_iload_n hx hb dX6_finestCut_20 rfl (lv_at hl 2 rfl) ?_
  refine x_callVv (k := 285) hE hK hI (c_X6_asCut_4 l G o _ _  ) mf_X6_asCut mw_581 (by decide) ((e_285 G o) _ _) rfl rfl hl.1 rfl (Nat.le_of_ble_eq_true rfl) ⟨(Nat.le_of_ble_eq_true rfl), (Nat.le_of_ble_eq_true rfl)⟩ ⟨Nat.zero_le _, Nat.zero_le _⟩ dX6_finestCut_21 (fun H locs hI => ?_)
  refine lv_aload_n hx hb dX6_finestCut_24 rfl (lv_at hl 0 rfl) ?_
  refine x_callVi (k := 285) hE hK hI (c_X6_layLoads l G o _ _  ) mf_X6_layLoads mw_551 (by decide) ((e_285 G o) _ _) rfl rfl hl.1 rfl (Nat.le_of_ble_eq_true rfl) ⟨(Nat.le_of_ble_eq_true rfl), (Nat.le_of_ble_eq_true rfl)⟩ ⟨Nat.zero_le _, Nat.zero_le _⟩ dX6_finestCut_25 (fun H locs hI => ?_)
  refine lv_if_eq (tgt := 48) hx hb dX6_finestCut_28 (by decide) (fun c1 => ?_) (fun c1 => ?_)
  · refine lv_iinc (v := 3) (lv' := [(2, .int 3), (0, .ref (o + 285)), (1, .int v)]) hx hb dX6_finestCut_48 hl (k := 2) rfl (by decide) (by decide) rfl (fun ls hl => ?_)
    refine lv_goto (tgt := 15) hx hb dX6_finestCut_51 (by decide) ?_
    have e0 : gcr4 v X Y = gcr3 v (ac4X X) (llY (ac4X X) Y) := if_pos c1
    have e1 : gcX4 v X Y = gcX3 v (ac4X X) (llY (ac4X X) Y) := if_pos c1
    have e2 : gcY4 v X Y = gcY3 v (ac4X X) (llY (ac4X X) Y) := if_pos c1
    rw [e0, e1, e2]
    exact hd_gc3 l G o _ _ v hE hr hlocks hK H locs hI ls (lv_sub hl [1, 2, 0] rfl)
  · refine lv_aload_n hx hb dX6_finestCut_31 rfl (lv_at hl 0 rfl) ?_
    refine x_callVl (k := 285) hE hK hI (c_X6_powerOf l G o _ _  ) mf_X6_powerOf mw_572 (by decide) ((e_285 G o) _ _) rfl rfl hl.1 rfl (Nat.le_of_ble_eq_true rfl) ⟨(Nat.le_of_ble_eq_true rfl), (Nat.le_of_ble_eq_true rfl)⟩ ⟨Nat.zero_le _, Nat.zero_le _⟩ dX6_finestCut_32 (fun H locs hI => ?_)
    refine lv_iload_n hx hb dX6_finestCut_35 rfl (lv_at hl 1 rfl) ?_
    refine lv_i2l hx hb dX6_finestCut_36 rfl ?_
    refine lv_aload_n hx hb dX6_finestCut_37 rfl (lv_at hl 0 rfl) ?_
    refine x_get (k := 285) hE hK hI (by decide) inG6 (e_285 G o _ _) rfl 5 (by decide) mw_485 rfl dX6_finestCut_38 ?_
    refine lv_lmul hx hb dX6_finestCut_41 ?_
    refine W.lcmp hx hb dX6_finestCut_42 ?_
    refine lv_if_gt (tgt := 48) hx hb dX6_finestCut_43 (by decide) (fun c2 => ?_) (fun c2 => ?_)
    · have c2 := (lg_cmp_gt _ _).mp c2
      refine lv_iinc (v := 3) (lv' := [(2, .int 3), (0, .ref (o + 285)), (1, .int v)]) hx hb dX6_finestCut_48 hl (k := 2) rfl (by decide) (by decide) rfl (fun ls hl => ?_)
      refine lv_goto (tgt := 15) hx hb dX6_finestCut_51 (by decide) ?_
      have e0 : gcr4 v X Y = gcr3 v (ac4X X) (llY (ac4X X) Y) := (if_neg c1).trans (if_pos c2)
      have e1 : gcX4 v X Y = gcX3 v (ac4X X) (llY (ac4X X) Y) := (if_neg c1).trans (if_pos c2)
      have e2 : gcY4 v X Y = gcY3 v (ac4X X) (llY (ac4X X) Y) := (if_neg c1).trans (if_pos c2)
      rw [e0, e1, e2]
      exact hd_gc3 l G o _ _ v hE hr hlocks hK H locs hI ls (lv_sub hl [1, 2, 0] rfl)
    · have c2 := mt (lg_cmp_gt _ _).mpr c2
      refine lv_iload_n hx hb dX6_finestCut_46 rfl (lv_at hl 2 rfl) ?_
      exact x_iret hE hr hlocks hI (congrArg (fun q => some (Value.int q)) ((if_neg c1).trans (if_neg c2))) (((if_neg c1).trans (if_neg c2)).symm) (((if_neg c1).trans (if_neg c2)).symm) dX6_finestCut_47
set_option maxRecDepth 100000 in
set_option maxHeartbeats 4000000 in
theorem c_X6_finestCut_y (l : Launch) (G : GG) (o : Nat) (X : SX) (Y : SY) (v : Int32) (h : Wi v 0 1000000000) : Ct l yX6_finestCut cX6_finestCut 3 (some .int) 2 49 G o [.ref (o + 285), .int v] X Y (some (.int (gcr4 v X Y))) (gcX4 v X Y) (gcY4 v X Y) := by
  refine Ct.mk (by decide +kernel) (Nat.le_of_ble_eq_true rfl) rfl ?_
  intro p9 e9 s9 m9 args9 below9 meth9 c9 hE hr hlocks hK hI ls hl
  have hx := hE.1
  have hb := hE.2.1
  have hl : lv_has ls 3 [(0, .ref (o + 285)), (1, .int v)] := hl
  refine lv_iload_n hx hb dX6_finestCut_0 rfl (lv_at hl 1 rfl) ?_
  refine lv_iconst (v := 0) hx hb dX6_finestCut_1 (by decide) ?_
  refine lv_ldc hx hb hE.2.2.2.1 (hE.2.2.2.2 _ mw_590) dX6_finestCut_2 ?_
  refine x_callSi hE hK hI (c_X6_in l G o _ _ v 0 1000000000 ) mf_X6_in mw_509 rfl hl.1 rfl (Nat.le_of_ble_eq_true rfl) ⟨(Nat.le_of_ble_eq_true rfl), (Nat.le_of_ble_eq_true rfl)⟩ ⟨Nat.zero_le _, Nat.zero_le _⟩ dX6_finestCut_4 (fun H locs hI => ?_)
  refine lv_topi (fun z1 ez1 => ?_)
  obtain rfl : 1 = z1 := (ez1.trans (bI_t h)).symm
  refine lv_if_ne (tgt := 13) hx hb dX6_finestCut_7 (by decide) (fun _ => ?_) (fun q => absurd q (by decide))
  refine lv_iconst (v := 4) hx hb dX6_finestCut_13 (by decide) ?_
  refine lv_istore_n (lv' := [(2, .int 4), (0, .ref (o + 285)), (1, .int v)]) hx hb dX6_finestCut_14 rfl hl (by decide) rfl (fun ls hl => ?_)
  exact hd_gc4 l G o X Y v hE hr hlocks hK _ _ hI ls (lv_sub hl [1, 2, 0] rfl)
