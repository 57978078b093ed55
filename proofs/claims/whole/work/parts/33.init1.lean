/-! ===== 33: constructors without arrays of arrays ===== -/
theorem dfX0 : ∀ j, j < 5 → defaultValue (tyX0 j) = vp_V [.null, .int 0, .int 0, .int 0, .int 0] j := by
  intro j hj
  rcases (show j = 0 ∨ j = 1 ∨ j = 2 ∨ j = 3 ∨ j = 4 by omega) with rfl | rfl | rfl | rfl | rfl <;> rfl
theorem dfX1 : ∀ j, j < 2 → defaultValue (tyX1 j) = vp_V [.null, .null] j := by
  intro j hj
  rcases (show j = 0 ∨ j = 1 by omega) with rfl | rfl <;> rfl
theorem dfX2 : ∀ j, j < 6 → defaultValue (tyX2 j) = vp_V [.null, .null, .null, .null, .int 0, .int 0] j := by
  intro j hj
  rcases (show j = 0 ∨ j = 1 ∨ j = 2 ∨ j = 3 ∨ j = 4 ∨ j = 5 by omega) with rfl | rfl | rfl | rfl | rfl | rfl <;> rfl
theorem dfX3 : ∀ j, j < 9 → defaultValue (tyX3 j) = vp_V [.null, .null, .int 0, .int 0, .int 0, .int 0, .int 0, .int 0, .int 0] j := by
  intro j hj
  rcases (show j = 0 ∨ j = 1 ∨ j = 2 ∨ j = 3 ∨ j = 4 ∨ j = 5 ∨ j = 6 ∨ j = 7 ∨ j = 8 by omega) with rfl | rfl | rfl | rfl | rfl | rfl | rfl | rfl | rfl <;> rfl
theorem dfX4 : ∀ j, j < 4 → defaultValue (tyX4 j) = vp_V [.null, .null, .long 0, .int 0] j := by
  intro j hj
  rcases (show j = 0 ∨ j = 1 ∨ j = 2 ∨ j = 3 by omega) with rfl | rfl | rfl | rfl <;> rfl
theorem dfX5 : ∀ j, j < 4 → defaultValue (tyX5 j) = vp_V [.null, .null, .null, .null] j := by
  intro j hj
  rcases (show j = 0 ∨ j = 1 ∨ j = 2 ∨ j = 3 by omega) with rfl | rfl | rfl | rfl <;> rfl
theorem dfX6 : ∀ j, j < 7 → defaultValue (tyX6 j) = vp_V [.null, .null, .null, .null, .null, .long 0, .null] j := by
  intro j hj
  rcases (show j = 0 ∨ j = 1 ∨ j = 2 ∨ j = 3 ∨ j = 4 ∨ j = 5 ∨ j = 6 by omega) with rfl | rfl | rfl | rfl | rfl | rfl | rfl <;> rfl
def i4 (G : GG) (f : Nat → Int32) : va_E := .inl (G.2 0, 4, .inl f)
def z0 : Nat → Int32 := fun _ => 0
def FLot (G : GG) (o k : Nat) : Nat → va_E := fun j => if j = 0 then .inr (0, [.ref (o + (k + 1)), .int 0, .int 0, .int 0, .int 0]) else .inl (G.2 0, 4, .inl (fun _ => 0))
def FSte (G : GG) (o k : Nat) : Nat → va_E := fun j => if j = 0 then .inr (4, [.ref (o + (k + 1)), .ref (o + (k + 2)), .long 1, .int 1]) else if j = 1 then .inl (G.2 1, 4, .inr (.inl (fun _ => 0))) else .inl (G.2 0, 4, .inl (fun _ => 0))
def wk1 : Nat → Int32 := upd (upd (upd (upd (fun _ => 0) 0 1) 1 1) 2 1) 3 1
def FSet (G : GG) (o k : Nat) : Nat → va_E := fun j =>
  if j = 0 then .inr (2, [.ref (o + (k + 1)), .ref (o + (k + 6)), .ref (o + (k + 7)), .ref (o + (k + 8)), .int 10, .int 0])
  else if j = 1 then .inl (G.2 5, 4, .inr (.inr (.inr (.inr (fun i => if i < 4 then some (o + (k + (1 + 1 + i))) else none)))))
  else if j < 6 then .inl (G.2 0, 4, .inl (upd (fun _ => 0) (j - 2) 10))
  else if j = 7 then .inl (G.2 0, 4, .inl wk1)
  else .inl (G.2 0, 4, .inl (fun _ => 0))
def at0 : Nat → Int32 := upd (upd (upd (upd (upd (upd (upd (upd (upd (upd (fun _ => 0) 0 10) 20 1) 5 10) 21 1) 10 10) 22 1) 15 10) 23 1) 28 10) 35 (-7)
def FMod (G : GG) (o k : Nat) : Nat → va_E := fun j =>
  if j = 0 then .inr (6, [.ref (o + (k + 1)), .ref (o + (k + 2)), .ref (o + (k + 3)), .ref (o + (k + 4)), .ref (o + (k + 5)), .long 0, .ref (o + (k + 6))])
  else if j = 1 then .inl (G.2 0, 361, .inl at0)
  else if j = 2 then .inl (G.2 0, 722, .inl (fun _ => 0))
  else if j = 3 then .inl (G.2 2, 2, .inl (fun _ => 0))
  else if j = 5 then .inl (G.2 1, 4, .inr (.inl (fun _ => 0)))
  else .inl (G.2 0, 4, .inl (fun _ => 0))
set_option maxRecDepth 100000 in
set_option maxHeartbeats 4000000 in
theorem c_X0_init (l : Launch) (G : GG) (o k : Nat) (E : Nat → va_E) (hx0 : E k = .inr (0, [.null, .int 0, .int 0, .int 0, .int 0])) : Cn l yX0_init cX0_init 1 1 20 1 4 G o k 2 E (FLot G o k) := by
  refine Cn.mk (by decide +kernel) (by decide) rfl hx0 ?_
  intro p e s m args below meth c hE hr hlocks hin hK hsz hI ls hl
  have hx := hE.1
  have hb := hE.2.1
  refine lv_aload_n hx hb dX0_init_0 rfl (lv_at hl 0 rfl) ?_
  refine y_obj hE mw_77 hl.1 (Nat.le_of_ble_eq_true rfl) (Nat.le_of_ble_eq_true rfl) dX0_init_1 ?_
  refine lv_aload_n hx hb dX0_init_4 rfl (lv_at hl 0 rfl) ?_
  refine lv_iconst (v := 4) hx hb dX0_init_5 (by decide) ?_
  refine y_sz hI (by decide) (by omega) (fun hz => ?_)
  refine y_newi (N := 4) hE hK hI hz (by decide) (by decide) (Nat.le_of_ble_eq_true rfl) (Nat.le_of_ble_eq_true rfl) (Nat.le_of_ble_eq_true rfl) dX0_init_6 (fun H hI => ?_)
  refine y_putF (j := 0) (ci := 0) (fs := [.null, .int 0, .int 0, .int 0, .int 0]) (v := .ref (o + (k + 1))) (ty := .array .int) (C := RX0) (T := TX0) (N := 5) hE hK hI (by decide) inG0 tyX0 tyX0_ok nmX0 rfl rfl 0 (by decide) mw_78 rfl hin rfl (by decide +kernel) rfl rfl (Nat.le_of_ble_eq_true rfl) dX0_init_8 (fun H locs hI => ?_)
  refine y_ret hE hr hlocks hI rfl rfl rfl (fun j hj => ?_) dX0_init_11
  rcases (show j = 0 ∨ j = 1 by omega) with rfl | rfl <;> rfl
set_option maxRecDepth 100000 in
set_option maxHeartbeats 4000000 in
theorem c_X4_init (l : Launch) (G : GG) (o k : Nat) (E : Nat → va_E) (hx0 : E k = .inr (4, [.null, .null, .long 0, .int 0])) : Cn l yX4_init cX4_init 1 1 20 2 8 G o k 3 E (FSte G o k) := by
  refine Cn.mk (by decide +kernel) (by decide) rfl hx0 ?_
  intro p e s m args below meth c hE hr hlocks hin hK hsz hI ls hl
  have hx := hE.1
  have hb := hE.2.1
  refine lv_aload_n hx hb dX4_init_0 rfl (lv_at hl 0 rfl) ?_
  refine y_obj hE mw_153 hl.1 (Nat.le_of_ble_eq_true rfl) (Nat.le_of_ble_eq_true rfl) dX4_init_1 ?_
  refine lv_aload_n hx hb dX4_init_4 rfl (lv_at hl 0 rfl) ?_
  refine lv_iconst (v := 4) hx hb dX4_init_5 (by decide) ?_
  refine y_sz hI (by decide) (by omega) (fun hz => ?_)
  refine y_newl (N := 4) hE hK hI hz (by decide) (by decide) (Nat.le_of_ble_eq_true rfl) (Nat.le_of_ble_eq_true rfl) (Nat.le_of_ble_eq_true rfl) dX4_init_6 (fun H hI => ?_)
  refine y_putF (j := 0) (ci := 4) (fs := [.null, .null, .long 0, .int 0]) (v := .ref (o + (k + 1))) (ty := .array .long) (C := RX4) (T := TX4) (N := 4) hE hK hI (by decide) inG4 tyX4 tyX4_ok nmX4 rfl rfl 0 (by decide) mw_154 rfl hin rfl (by decide +kernel) rfl rfl (Nat.le_of_ble_eq_true rfl) dX4_init_8 (fun H locs hI => ?_)
  refine lv_aload_n hx hb dX4_init_11 rfl (lv_at hl 0 rfl) ?_
  refine lv_iconst (v := 4) hx hb dX4_init_12 (by decide) ?_
  refine y_sz hI (by decide) (by omega) (fun hz => ?_)
  refine y_newi (N := 4) hE hK hI hz (by decide) (by decide) (Nat.le_of_ble_eq_true rfl) (Nat.le_of_ble_eq_true rfl) (Nat.le_of_ble_eq_true rfl) dX4_init_13 (fun H hI => ?_)
  refine y_putF (j := 0) (ci := 4) (fs := [.ref (o + (k + 1)), .null, .long 0, .int 0]) (v := .ref (o + (k + 2))) (ty := .array .int) (C := RX4) (T := TX4) (N := 4) hE hK hI (by decide) inG4 tyX4 tyX4_ok nmX4 rfl rfl 1 (by decide) mw_156 rfl hin rfl (by decide +kernel) rfl rfl (Nat.le_of_ble_eq_true rfl) dX4_init_15 (fun H locs hI => ?_)
  refine lv_aload_n hx hb dX4_init_18 rfl (lv_at hl 0 rfl) ?_
  refine lv_lconst (v := 1) hx hb dX4_init_19 (by decide) ?_
  refine y_put (j := 0) (ci := 4) (fs := [.ref (o + (k + 1)), .ref (o + (k + 2)), .long 0, .int 0]) (v := .long 1) (ty := .long) (C := RX4) (T := TX4) (N := 4) hE hK hI (by decide) inG4 tyX4 tyX4_ok nmX4 rfl rfl 2 (by decide) mw_157 rfl (by decide +kernel) rfl rfl (Nat.le_of_ble_eq_true rfl) dX4_init_20 (fun H locs hI => ?_)
  refine lv_aload_n hx hb dX4_init_23 rfl (lv_at hl 0 rfl) ?_
  refine lv_iconst (v := 1) hx hb dX4_init_24 (by decide) ?_
  refine y_put (j := 0) (ci := 4) (fs := [.ref (o + (k + 1)), .ref (o + (k + 2)), .long 1, .int 0]) (v := .int 1) (ty := .boolean) (C := RX4) (T := TX4) (N := 4) hE hK hI (by decide) inG4 tyX4 tyX4_ok nmX4 rfl rfl 3 (by decide) mw_159 rfl (by decide +kernel) rfl rfl (Nat.le_of_ble_eq_true rfl) dX4_init_25 (fun H locs hI => ?_)
  refine y_ret hE hr hlocks hI rfl rfl rfl (fun j hj => ?_) dX4_init_28
  rcases (show j = 0 ∨ j = 1 ∨ j = 2 by omega) with rfl | rfl | rfl <;> rfl
set_option maxRecDepth 100000 in
set_option maxHeartbeats 4000000 in
theorem c_X6_init (l : Launch) (G : GG) (o k : Nat) (E : Nat → va_E) (hx0 : E k = .inr (6, [.null, .null, .null, .null, .null, .long 0, .null])) : Cn l yX6_init cX6_init 2 1 20 6 1097 G o k 7 E (FMod G o k) := by
  refine Cn.mk (by decide +kernel) (by decide) rfl hx0 ?_
  intro p e s m args below meth c hE hr hlocks hin hK hsz hI ls hl
  have hx := hE.1
  have hb := hE.2.1
  refine lv_aload_n hx hb dX6_init_0 rfl (lv_at hl 0 rfl) ?_
  refine y_obj hE mw_479 hl.1 (Nat.le_of_ble_eq_true rfl) (Nat.le_of_ble_eq_true rfl) dX6_init_1 ?_
  refine lv_aload_n hx hb dX6_init_4 rfl (lv_at hl 0 rfl) ?_
  refine lv_sipush (v := 361) hx hb dX6_init_5 (by decide) ?_
  refine y_sz hI (by decide) (by omega) (fun hz => ?_)
  refine y_newi (N := 361) hE hK hI hz (by decide) (by decide) (Nat.le_of_ble_eq_true rfl) (Nat.le_of_ble_eq_true rfl) (Nat.le_of_ble_eq_true rfl) dX6_init_8 (fun H hI => ?_)
  refine y_putF (j := 0) (ci := 6) (fs := [.null, .null, .null, .null, .null, .long 0, .null]) (v := .ref (o + (k + 1))) (ty := .array .int) (C := RX6) (T := TX6) (N := 7) hE hK hI (by decide) inG6 tyX6 tyX6_ok nmX6 rfl rfl 0 (by decide) mw_480 rfl hin rfl (by decide +kernel) rfl rfl (Nat.le_of_ble_eq_true rfl) dX6_init_10 (fun H locs hI => ?_)
  refine lv_aload_n hx hb dX6_init_13 rfl (lv_at hl 0 rfl) ?_
  refine lv_sipush (v := 722) hx hb dX6_init_14 (by decide) ?_
  refine y_sz hI (by decide) (by omega) (fun hz => ?_)
  refine y_newi (N := 722) hE hK hI hz (by decide) (by decide) (Nat.le_of_ble_eq_true rfl) (Nat.le_of_ble_eq_true rfl) (Nat.le_of_ble_eq_true rfl) dX6_init_17 (fun H hI => ?_)
  refine y_putF (j := 0) (ci := 6) (fs := [.ref (o + (k + 1)), .null, .null, .null, .null, .long 0, .null]) (v := .ref (o + (k + 2))) (ty := .array .int) (C := RX6) (T := TX6) (N := 7) hE hK hI (by decide) inG6 tyX6 tyX6_ok nmX6 rfl rfl 1 (by decide) mw_481 rfl hin rfl (by decide +kernel) rfl rfl (Nat.le_of_ble_eq_true rfl) dX6_init_19 (fun H locs hI => ?_)
  refine lv_aload_n hx hb dX6_init_22 rfl (lv_at hl 0 rfl) ?_
  refine lv_iconst (v := 2) hx hb dX6_init_23 (by decide) ?_
  refine y_sz hI (by decide) (by omega) (fun hz => ?_)
  refine y_newz (N := 2) hE hK hI hz (by decide) (by decide) (Nat.le_of_ble_eq_true rfl) (Nat.le_of_ble_eq_true rfl) (Nat.le_of_ble_eq_true rfl) dX6_init_24 (fun H hI => ?_)
  refine y_putF (j := 0) (ci := 6) (fs := [.ref (o + (k + 1)), .ref (o + (k + 2)), .null, .null, .null, .long 0, .null]) (v := .ref (o + (k + 3))) (ty := .array .boolean) (C := RX6) (T := TX6) (N := 7) hE hK hI (by decide) inG6 tyX6 tyX6_ok nmX6 rfl rfl 2 (by decide) mw_482 rfl hin rfl (by decide +kernel) rfl rfl (Nat.le_of_ble_eq_true rfl) dX6_init_26 (fun H locs hI => ?_)
  refine lv_aload_n hx hb dX6_init_29 rfl (lv_at hl 0 rfl) ?_
  refine lv_iconst (v := 4) hx hb dX6_init_30 (by decide) ?_
  refine y_sz hI (by decide) (by omega) (fun hz => ?_)
  refine y_newi (N := 4) hE hK hI hz (by decide) (by decide) (Nat.le_of_ble_eq_true rfl) (Nat.le_of_ble_eq_true rfl) (Nat.le_of_ble_eq_true rfl) dX6_init_31 (fun H hI => ?_)
  refine y_putF (j := 0) (ci := 6) (fs := [.ref (o + (k + 1)), .ref (o + (k + 2)), .ref (o + (k + 3)), .null, .null, .long 0, .null]) (v := .ref (o + (k + 4))) (ty := .array .int) (C := RX6) (T := TX6) (N := 7) hE hK hI (by decide) inG6 tyX6 tyX6_ok nmX6 rfl rfl 3 (by decide) mw_483 rfl hin rfl (by decide +kernel) rfl rfl (Nat.le_of_ble_eq_true rfl) dX6_init_33 (fun H locs hI => ?_)
  refine lv_aload_n hx hb dX6_init_36 rfl (lv_at hl 0 rfl) ?_
  refine lv_iconst (v := 4) hx hb dX6_init_37 (by decide) ?_
  refine y_sz hI (by decide) (by omega) (fun hz => ?_)
  refine y_newl (N := 4) hE hK hI hz (by decide) (by decide) (Nat.le_of_ble_eq_true rfl) (Nat.le_of_ble_eq_true rfl) (Nat.le_of_ble_eq_true rfl) dX6_init_38 (fun H hI => ?_)
  refine y_putF (j := 0) (ci := 6) (fs := [.ref (o + (k + 1)), .ref (o + (k + 2)), .ref (o + (k + 3)), .ref (o + (k + 4)), .null, .long 0, .null]) (v := .ref (o + (k + 5))) (ty := .array .long) (C := RX6) (T := TX6) (N := 7) hE hK hI (by decide) inG6 tyX6 tyX6_ok nmX6 rfl rfl 4 (by decide) mw_484 rfl hin rfl (by decide +kernel) rfl rfl (Nat.le_of_ble_eq_true rfl) dX6_init_40 (fun H locs hI => ?_)
  refine lv_aload_n hx hb dX6_init_43 rfl (lv_at hl 0 rfl) ?_
  refine lv_iconst (v := 4) hx hb dX6_init_44 (by decide) ?_
  refine y_sz hI (by decide) (by omega) (fun hz => ?_)
  refine y_newi (N := 4) hE hK hI hz (by decide) (by decide) (Nat.le_of_ble_eq_true rfl) (Nat.le_of_ble_eq_true rfl) (Nat.le_of_ble_eq_true rfl) dX6_init_45 (fun H hI => ?_)
  refine y_putF (j := 0) (ci := 6) (fs := [.ref (o + (k + 1)), .ref (o + (k + 2)), .ref (o + (k + 3)), .ref (o + (k + 4)), .ref (o + (k + 5)), .long 0, .null]) (v := .ref (o + (k + 6))) (ty := .array .int) (C := RX6) (T := TX6) (N := 7) hE hK hI (by decide) inG6 tyX6 tyX6_ok nmX6 rfl rfl 6 (by decide) mw_486 rfl hin rfl (by decide +kernel) rfl rfl (Nat.le_of_ble_eq_true rfl) dX6_init_47 (fun H locs hI => ?_)
  refine lv_iconst (v := 0) hx hb dX6_init_50 (by decide) ?_
  refine lv_istore_n (lv' := [(1, .int 0), (0, .ref (o + (k + 0)))]) hx hb dX6_init_51 rfl hl (by decide) rfl (fun ls hl => ?_)
  refine lv_iload_n hx hb dX6_init_52 rfl (lv_at hl 0 rfl) ?_
  refine lv_iconst (v := 4) hx hb dX6_init_53 (by decide) ?_
  refine lv_icmp_ge (tgt := 85) hx hb dX6_init_54 (by decide) (fun q => absurd q (by decide)) (fun _ => ?_)
  refine lv_aload_n hx hb dX6_init_57 rfl (lv_at hl 1 rfl) ?_
  refine y_get (j := 0) (fs := [.ref (o + (k + 1)), .ref (o + (k + 2)), .ref (o + (k + 3)), .ref (o + (k + 4)), .ref (o + (k + 5)), .long 0, .ref (o + (k + 6))]) (C := RX6) (T := TX6) (N := 7) hE hK hI (by decide) inG6 rfl rfl 0 (by decide) mw_480 rfl dX6_init_58 ?_
  refine lv_iconst (v := 0) hx hb dX6_init_61 (by decide) ?_
  refine lv_iconst (v := 5) hx hb dX6_init_62 (by decide) ?_
  refine lv_iload_n hx hb dX6_init_63 rfl (lv_at hl 0 rfl) ?_
  refine lv_imul hx hb dX6_init_64 ?_
  refine lv_iadd hx hb dX6_init_65 ?_
  refine lv_bipush (v := 10) hx hb dX6_init_66 (by decide) ?_
  refine y_iast (j := 1) (i := 0) (x := 10) (f := (fun _ => 0)) hE hK hI (by decide) rfl (by decide) (by decide) (by decide) dX6_init_68 (fun H locs hI => ?_)
  refine lv_aload_n hx hb dX6_init_69 rfl (lv_at hl 1 rfl) ?_
  refine y_get (j := 0) (fs := [.ref (o + (k + 1)), .ref (o + (k + 2)), .ref (o + (k + 3)), .ref (o + (k + 4)), .ref (o + (k + 5)), .long 0, .ref (o + (k + 6))]) (C := RX6) (T := TX6) (N := 7) hE hK hI (by decide) inG6 rfl rfl 0 (by decide) mw_480 rfl dX6_init_70 ?_
  refine lv_bipush (v := 20) hx hb dX6_init_73 (by decide) ?_
  refine lv_iload_n hx hb dX6_init_75 rfl (lv_at hl 0 rfl) ?_
  refine lv_iadd hx hb dX6_init_76 ?_
  refine lv_iconst (v := 1) hx hb dX6_init_77 (by decide) ?_
  refine y_iast (j := 1) (i := 20) (x := 1) (f := (upd (fun _ => 0) 0 10)) hE hK hI (by decide) rfl (by decide) (by decide) (by decide) dX6_init_78 (fun H locs hI => ?_)
  refine lv_iinc (v := 1) (lv' := [(1, .int 1), (0, .ref (o + (k + 0)))]) hx hb dX6_init_79 hl (k := 0) rfl (by decide) (by decide) rfl (fun ls hl => ?_)
  refine lv_goto (tgt := 52) hx hb dX6_init_82 (by decide) ?_
  refine lv_iload_n hx hb dX6_init_52 rfl (lv_at hl 0 rfl) ?_
  refine lv_iconst (v := 4) hx hb dX6_init_53 (by decide) ?_
  refine lv_icmp_ge (tgt := 85) hx hb dX6_init_54 (by decide) (fun q => absurd q (by decide)) (fun _ => ?_)
  refine lv_aload_n hx hb dX6_init_57 rfl (lv_at hl 1 rfl) ?_
  refine y_get (j := 0) (fs := [.ref (o + (k + 1)), .ref (o + (k + 2)), .ref (o + (k + 3)), .ref (o + (k + 4)), .ref (o + (k + 5)), .long 0, .ref (o + (k + 6))]) (C := RX6) (T := TX6) (N := 7) hE hK hI (by decide) inG6 rfl rfl 0 (by decide) mw_480 rfl dX6_init_58 ?_
  refine lv_iconst (v := 0) hx hb dX6_init_61 (by decide) ?_
  refine lv_iconst (v := 5) hx hb dX6_init_62 (by decide) ?_
  refine lv_iload_n hx hb dX6_init_63 rfl (lv_at hl 0 rfl) ?_
  refine lv_imul hx hb dX6_init_64 ?_
  refine lv_iadd hx hb dX6_init_65 ?_
  refine lv_bipush (v := 10) hx hb dX6_init_66 (by decide) ?_
  refine y_iast (j := 1) (i := 5) (x := 10) (f := (upd (upd (fun _ => 0) 0 10) 20 1)) hE hK hI (by decide) rfl (by decide) (by decide) (by decide) dX6_init_68 (fun H locs hI => ?_)
  refine lv_aload_n hx hb dX6_init_69 rfl (lv_at hl 1 rfl) ?_
  refine y_get (j := 0) (fs := [.ref (o + (k + 1)), .ref (o + (k + 2)), .ref (o + (k + 3)), .ref (o + (k + 4)), .ref (o + (k + 5)), .long 0, .ref (o + (k + 6))]) (C := RX6) (T := TX6) (N := 7) hE hK hI (by decide) inG6 rfl rfl 0 (by decide) mw_480 rfl dX6_init_70 ?_
  refine lv_bipush (v := 20) hx hb dX6_init_73 (by decide) ?_
  refine lv_iload_n hx hb dX6_init_75 rfl (lv_at hl 0 rfl) ?_
  refine lv_iadd hx hb dX6_init_76 ?_
  refine lv_iconst (v := 1) hx hb dX6_init_77 (by decide) ?_
  refine y_iast (j := 1) (i := 21) (x := 1) (f := (upd (upd (upd (fun _ => 0) 0 10) 20 1) 5 10)) hE hK hI (by decide) rfl (by decide) (by decide) (by decide) dX6_init_78 (fun H locs hI => ?_)
  refine lv_iinc (v := 2) (lv' := [(1, .int 2), (0, .ref (o + (k + 0)))]) hx hb dX6_init_79 hl (k := 0) rfl (by decide) (by decide) rfl (fun ls hl => ?_)
  refine lv_goto (tgt := 52) hx hb dX6_init_82 (by decide) ?_
  refine lv_iload_n hx hb dX6_init_52 rfl (lv_at hl 0 rfl) ?_
  refine lv_iconst (v := 4) hx hb dX6_init_53 (by decide) ?_
  refine lv_icmp_ge (tgt := 85) hx hb dX6_init_54 (by decide) (fun q => absurd q (by decide)) (fun _ => ?_)
  refine lv_aload_n hx hb dX6_init_57 rfl (lv_at hl 1 rfl) ?_
  refine y_get (j := 0) (fs := [.ref (o + (k + 1)), .ref (o + (k + 2)), .ref (o + (k + 3)), .ref (o + (k + 4)), .ref (o + (k + 5)), .long 0, .ref (o + (k + 6))]) (C := RX6) (T := TX6) (N := 7) hE hK hI (by decide) inG6 rfl rfl 0 (by decide) mw_480 rfl dX6_init_58 ?_
  refine lv_iconst (v := 0) hx hb dX6_init_61 (by decide) ?_
  refine lv_iconst (v := 5) hx hb dX6_init_62 (by decide) ?_
  refine lv_iload_n hx hb dX6_init_63 rfl (lv_at hl 0 rfl) ?_
  refine lv_imul hx hb dX6_init_64 ?_
  refine lv_iadd hx hb dX6_init_65 ?_
  refine lv_bipush (v := 10) hx hb dX6_init_66 (by decide) ?_
  refine y_iast (j := 1) (i := 10) (x := 10) (f := (upd (upd (upd (upd (fun _ => 0) 0 10) 20 1) 5 10) 21 1)) hE hK hI (by decide) rfl (by decide) (by decide) (by decide) dX6_init_68 (fun H locs hI => ?_)
  refine lv_aload_n hx hb dX6_init_69 rfl (lv_at hl 1 rfl) ?_
  refine y_get (j := 0) (fs := [.ref (o + (k + 1)), .ref (o + (k + 2)), .ref (o + (k + 3)), .ref (o + (k + 4)), .ref (o + (k + 5)), .long 0, .ref (o + (k + 6))]) (C := RX6) (T := TX6) (N := 7) hE hK hI (by decide) inG6 rfl rfl 0 (by decide) mw_480 rfl dX6_init_70 ?_
  refine lv_bipush (v := 20) hx hb dX6_init_73 (by decide) ?_
  refine lv_iload_n hx hb dX6_init_75 rfl (lv_at hl 0 rfl) ?_
  refine lv_iadd hx hb dX6_init_76 ?_
  refine lv_iconst (v := 1) hx hb dX6_init_77 (by decide) ?_
  refine y_iast (j := 1) (i := 22) (x := 1) (f := (upd (upd (upd (upd (upd (fun _ => 0) 0 10) 20 1) 5 10) 21 1) 10 10)) hE hK hI (by decide) rfl (by decide) (by decide) (by decide) dX6_init_78 (fun H locs hI => ?_)
  refine lv_iinc (v := 3) (lv' := [(1, .int 3), (0, .ref (o + (k + 0)))]) hx hb dX6_init_79 hl (k := 0) rfl (by decide) (by decide) rfl (fun ls hl => ?_)
  refine lv_goto (tgt := 52) hx hb dX6_init_82 (by decide) ?_
  refine lv_iload_n hx hb dX6_init_52 rfl (lv_at hl 0 rfl) ?_
  refine lv_iconst (v := 4) hx hb dX6_init_53 (by decide) ?_
  refine lv_icmp_ge (tgt := 85) hx hb dX6_init_54 (by decide) (fun q => absurd q (by decide)) (fun _ => ?_)
  refine lv_aload_n hx hb dX6_init_57 rfl (lv_at hl 1 rfl) ?_
  refine y_get (j := 0) (fs := [.ref (o + (k + 1)), .ref (o + (k + 2)), .ref (o + (k + 3)), .ref (o + (k + 4)), .ref (o + (k + 5)), .long 0, .ref (o + (k + 6))]) (C := RX6) (T := TX6) (N := 7) hE hK hI (by decide) inG6 rfl rfl 0 (by decide) mw_480 rfl dX6_init_58 ?_
  refine lv_iconst (v := 0) hx hb dX6_init_61 (by decide) ?_
  refine lv_iconst (v := 5) hx hb dX6_init_62 (by decide) ?_
  refine lv_iload_n hx hb dX6_init_63 rfl (lv_at hl 0 rfl) ?_
  refine lv_imul hx hb dX6_init_64 ?_
  refine lv_iadd hx hb dX6_init_65 ?_
  refine lv_bipush (v := 10) hx hb dX6_init_66 (by decide) ?_
  refine y_iast (j := 1) (i := 15) (x := 10) (f := (upd (upd (upd (upd (upd (upd (fun _ => 0) 0 10) 20 1) 5 10) 21 1) 10 10) 22 1)) hE hK hI (by decide) rfl (by decide) (by decide) (by decide) dX6_init_68 (fun H locs hI => ?_)
  refine lv_aload_n hx hb dX6_init_69 rfl (lv_at hl 1 rfl) ?_
  refine y_get (j := 0) (fs := [.ref (o + (k + 1)), .ref (o + (k + 2)), .ref (o + (k + 3)), .ref (o + (k + 4)), .ref (o + (k + 5)), .long 0, .ref (o + (k + 6))]) (C := RX6) (T := TX6) (N := 7) hE hK hI (by decide) inG6 rfl rfl 0 (by decide) mw_480 rfl dX6_init_70 ?_
  refine lv_bipush (v := 20) hx hb dX6_init_73 (by decide) ?_
  refine lv_iload_n hx hb dX6_init_75 rfl (lv_at hl 0 rfl) ?_
  refine lv_iadd hx hb dX6_init_76 ?_
  refine lv_iconst (v := 1) hx hb dX6_init_77 (by decide) ?_
  refine y_iast (j := 1) (i := 23) (x := 1) (f := (upd (upd (upd (upd (upd (upd (upd (fun _ => 0) 0 10) 20 1) 5 10) 21 1) 10 10) 22 1) 15 10)) hE hK hI (by decide) rfl (by decide) (by decide) (by decide) dX6_init_78 (fun H locs hI => ?_)
  refine lv_iinc (v := 4) (lv' := [(1, .int 4), (0, .ref (o + (k + 0)))]) hx hb dX6_init_79 hl (k := 0) rfl (by decide) (by decide) rfl (fun ls hl => ?_)
  refine lv_goto (tgt := 52) hx hb dX6_init_82 (by decide) ?_
  refine lv_iload_n hx hb dX6_init_52 rfl (lv_at hl 0 rfl) ?_
  refine lv_iconst (v := 4) hx hb dX6_init_53 (by decide) ?_
  refine lv_icmp_ge (tgt := 85) hx hb dX6_init_54 (by decide) (fun _ => ?_) (fun q => absurd (by decide) q)
  refine lv_aload_n hx hb dX6_init_85 rfl (lv_at hl 1 rfl) ?_
  refine y_get (j := 0) (fs := [.ref (o + (k + 1)), .ref (o + (k + 2)), .ref (o + (k + 3)), .ref (o + (k + 4)), .ref (o + (k + 5)), .long 0, .ref (o + (k + 6))]) (C := RX6) (T := TX6) (N := 7) hE hK hI (by decide) inG6 rfl rfl 0 (by decide) mw_480 rfl dX6_init_86 ?_
  refine lv_bipush (v := 28) hx hb dX6_init_89 (by decide) ?_
  refine lv_bipush (v := 10) hx hb dX6_init_91 (by decide) ?_
  refine y_iast (j := 1) (i := 28) (x := 10) (f := (upd (upd (upd (upd (upd (upd (upd (upd (fun _ => 0) 0 10) 20 1) 5 10) 21 1) 10 10) 22 1) 15 10) 23 1)) hE hK hI (by decide) rfl (by decide) (by decide) (by decide) dX6_init_93 (fun H locs hI => ?_)
  refine lv_aload_n hx hb dX6_init_94 rfl (lv_at hl 1 rfl) ?_
  refine y_get (j := 0) (fs := [.ref (o + (k + 1)), .ref (o + (k + 2)), .ref (o + (k + 3)), .ref (o + (k + 4)), .ref (o + (k + 5)), .long 0, .ref (o + (k + 6))]) (C := RX6) (T := TX6) (N := 7) hE hK hI (by decide) inG6 rfl rfl 0 (by decide) mw_480 rfl dX6_init_95 ?_
  refine lv_bipush (v := 35) hx hb dX6_init_98 (by decide) ?_
  refine lv_bipush (v := (-7)) hx hb dX6_init_100 (by decide) ?_
  refine y_iast (j := 1) (i := 35) (x := (-7)) (f := (upd (upd (upd (upd (upd (upd (upd (upd (upd (fun _ => 0) 0 10) 20 1) 5 10) 21 1) 10 10) 22 1) 15 10) 23 1) 28 10)) hE hK hI (by decide) rfl (by decide) (by decide) (by decide) dX6_init_102 (fun H locs hI => ?_)
  refine y_ret hE hr hlocks hI rfl rfl rfl (fun j hj => ?_) dX6_init_103
  rcases (show j = 0 ∨ j = 1 ∨ j = 2 ∨ j = 3 ∨ j = 4 ∨ j = 5 ∨ j = 6 by omega) with rfl | rfl | rfl | rfl | rfl | rfl | rfl <;> rfl
