/-! ===== 08: the steady state of the class; fractions ===== -/
def ent (X : SX) (Y : SY) (j : Nat) : Int64 := match j with
  | 0 => 0
  | 1 => 0 + Y 283 0 * (X 4 1).toInt64
  | 2 => 0 + Y 283 0 * (X 4 2).toInt64 + Y 283 1 * (X 5 2).toInt64
  | _ => 0 + Y 283 0 * (X 4 3).toInt64 + Y 283 1 * (X 5 3).toInt64 + Y 283 2 * (X 6 3).toInt64
/-- Euclid's steps, n of them at most -/
def gcdL : Nat → Int64 → Int64 → Int64
  | 0, a, _ => a
  | n + 1, a, b => if b = 0 then a else gcdL n b (a - a / b * b)
/-- they come to 0 within n steps -/
def gok : Nat → Int64 → Int64 → Prop
  | 0, _, b => b = 0
  | n + 1, a, b => b = 0 ∨ gok n b (a - a / b * b)
def pwr (X : SX) (Y : SY) : Int64 := 0 + (X 9 0).toInt64 * Y 283 0 + (X 9 1).toInt64 * Y 283 1 + (X 9 2).toInt64 * Y 283 2 + (X 9 3).toInt64 * Y 283 3
def sml (Y : SY) : Int64 := 0 + Y 283 0 + Y 283 1 + Y 283 2 + Y 283 3
set_option maxRecDepth 100000 in
set_option maxHeartbeats 4000000 in
theorem c_X4_brokenInto_0 (l : Launch) (G : GG) (o : Nat) (X : SX) (Y : SY) : Ct l yX4_brokenInto cX4_brokenInto 6 (some .long) 0 0 G o [.ref (o + 282), .ref (o + 2), .int 0] X Y (some (.long (ent X Y 0))) X Y := by
  refine Ct.mk (by decide +kernel) (Nat.le_of_ble_eq_true rfl) rfl ?_
  intro p9 e9 s9 m9 args9 below9 meth9 c9 hE hr hlocks hK hI ls hl
  have hx := hE.1
  have hb := hE.2.1
  have hl : lv_has ls 6 [(0, .ref (o + 282)), (1, .ref (o + 2)), (2, .int 0)] := hl
  refine lv_lconst (v := 0) hx hb dX4_brokenInto_0 (by decide) ?_
  refine lv_lstore_n (lv' := [(3, .long 0), (0, .ref (o + 282)), (1, .ref (o + 2)), (2, .int 0)]) hx hb dX4_brokenInto_1 rfl hl (by decide) rfl (fun ls hl => ?_)
  refine lv_iconst (v := 0) hx hb dX4_brokenInto_2 (by decide) ?_
  refine lv_istore (lv' := [(5, .int 0), (3, .long 0), (0, .ref (o + 282)), (1, .ref (o + 2)), (2, .int 0)]) hx hb dX4_brokenInto_3 hl (by decide) rfl (fun ls hl => ?_)
  refine lv_iload hx hb dX4_brokenInto_5 (lv_at hl 0 rfl) ?_
  refine lv_iload_n hx hb dX4_brokenInto_7 rfl (lv_at hl 4 rfl) ?_
  refine lv_icmp_ge (tgt := 38) hx hb dX4_brokenInto_8 (by decide) (fun _ => ?_) (fun q => absurd (by decide) q)
  refine lv_lload_n hx hb dX4_brokenInto_38 rfl (lv_at hl 1 rfl) ?_
  exact x_lret hE hr hlocks hI rfl rfl rfl dX4_brokenInto_39
set_option maxRecDepth 100000 in
set_option maxHeartbeats 4000000 in
theorem c_X4_brokenInto_1 (l : Launch) (G : GG) (o : Nat) (X : SX) (Y : SY) : Ct l yX4_brokenInto cX4_brokenInto 6 (some .long) 0 0 G o [.ref (o + 282), .ref (o + 2), .int 1] X Y (some (.long (ent X Y 1))) X Y := by
  refine Ct.mk (by decide +kernel) (Nat.le_of_ble_eq_true rfl) rfl ?_
  intro p9 e9 s9 m9 args9 below9 meth9 c9 hE hr hlocks hK hI ls hl
  have hx := hE.1
  have hb := hE.2.1
  have hl : lv_has ls 6 [(0, .ref (o + 282)), (1, .ref (o + 2)), (2, .int 1)] := hl
  refine lv_lconst (v := 0) hx hb dX4_brokenInto_0 (by decide) ?_
  refine lv_lstore_n (lv' := [(3, .long 0), (0, .ref (o + 282)), (1, .ref (o + 2)), (2, .int 1)]) hx hb dX4_brokenInto_1 rfl hl (by decide) rfl (fun ls hl => ?_)
  refine lv_iconst (v := 0) hx hb dX4_brokenInto_2 (by decide) ?_
  refine lv_istore (lv' := [(5, .int 0), (3, .long 0), (0, .ref (o + 282)), (1, .ref (o + 2)), (2, .int 1)]) hx hb dX4_brokenInto_3 hl (by decide) rfl (fun ls hl => ?_)
  refine lv_iload hx hb dX4_brokenInto_5 (lv_at hl 0 rfl) ?_
  refine lv_iload_n hx hb dX4_brokenInto_7 rfl (lv_at hl 4 rfl) ?_
  refine lv_icmp_ge (tgt := 38) hx hb dX4_brokenInto_8 (by decide) (fun q => absurd q (by decide)) (fun _ => ?_)
  refine lv_lload_n hx hb dX4_brokenInto_11 rfl (lv_at hl 1 rfl) ?_
  refine lv_aload_n hx hb dX4_brokenInto_12 rfl (lv_at hl 2 rfl) ?_
  refine x_get (k := 282) hE hK hI (by decide) inG4 (e_282 G o _ _) rfl 0 (by decide) mw_154 rfl dX4_brokenInto_13 ?_
  refine lv_iload hx hb dX4_brokenInto_16 (lv_at hl 0 rfl) ?_
  refine x_lald (k := 283) (j := 0) hE hK hI (by decide) (e_283 G o) (by decide) (by decide) rfl dX4_brokenInto_18 ?_
  refine lv_aload_n hx hb dX4_brokenInto_19 rfl (lv_at hl 3 rfl) ?_
  refine x_get (k := 2) hE hK hI (by decide) inG2 (e_2 G o _ _) rfl 0 (by decide) mw_34 rfl dX4_brokenInto_20 ?_
  refine lv_iload hx hb dX4_brokenInto_23 (lv_at hl 0 rfl) ?_
  refine x_aald (k := 3) (j := 0) (t0 := 5) (q := o + 4) hE hK hI (by decide) (e_3 G o) rfl rfl (by decide) (by decide) rfl rfl dX4_brokenInto_25 ?_
  refine lv_iload_n hx hb dX4_brokenInto_26 rfl (lv_at hl 4 rfl) ?_
  refine x_iald (k := 4) (j := 1) hE hK hI (by decide) (e_4 G o) (by decide) (by decide) rfl dX4_brokenInto_27 ?_
  refine lv_i2l hx hb dX4_brokenInto_28 rfl ?_
  refine lv_lmul hx hb dX4_brokenInto_29 ?_
  refine lv_ladd hx hb dX4_brokenInto_30 ?_
  refine lv_lstore_n (lv' := [(3, .long (0 + ((Y 283 0) * ((X 4 1).toInt64)))), (5, .int 0), (0, .ref (o + 282)), (1, .ref (o + 2)), (2, .int 1)]) hx hb dX4_brokenInto_31 rfl hl (by decide) rfl (fun ls hl => ?_)
  refine lv_iinc (v := 1) (lv' := [(5, .int 1), (3, .long (0 + ((Y 283 0) * ((X 4 1).toInt64)))), (0, .ref (o + 282)), (1, .ref (o + 2)), (2, .int 1)]) hx hb dX4_brokenInto_32 hl (k := 1) rfl (by decide) (by decide) rfl (fun ls hl => ?_)
  refine lv_goto (tgt := 5) hx hb dX4_brokenInto_35 (by decide) ?_
  refine lv_iload hx hb dX4_brokenInto_5 (lv_at hl 0 rfl) ?_
  refine lv_iload_n hx hb dX4_brokenInto_7 rfl (lv_at hl 4 rfl) ?_
  refine lv_icmp_ge (tgt := 38) hx hb dX4_brokenInto_8 (by decide) (fun _ => ?_) (fun q => absurd (by decide) q)
  refine lv_lload_n hx hb dX4_brokenInto_38 rfl (lv_at hl 1 rfl) ?_
  exact x_lret hE hr hlocks hI rfl rfl rfl dX4_brokenInto_39
set_option maxRecDepth 100000 in
set_option maxHeartbeats 4000000 in
theorem c_X4_brokenInto_2 (l : Launch) (G : GG) (o : Nat) (X : SX) (Y : SY) : Ct l yX4_brokenInto cX4_brokenInto 6 (some .long) 0 0 G o [.ref (o + 282), .ref (o + 2), .int 2] X Y (some (.long (ent X Y 2))) X Y := by
  refine Ct.mk (by decide +kernel) (Nat.le_of_ble_eq_true rfl) rfl ?_
  intro p9 e9 s9 m9 args9 below9 meth9 c9 hE hr hlocks hK hI ls hl
  have hx := hE.1
  have hb := hE.2.1
  have hl : lv_has ls 6 [(0, .ref (o + 282)), (1, .ref (o + 2)), (2, .int 2)] := hl
  refine lv_lconst (v := 0) hx hb dX4_brokenInto_0 (by decide) ?_
  refine lv_lstore_n (lv' := [(3, .long 0), (0, .ref (o + 282)), (1, .ref (o + 2)), (2, .int 2)]) hx hb dX4_brokenInto_1 rfl hl (by decide) rfl (fun ls hl => ?_)
  refine lv_iconst (v := 0) hx hb dX4_brokenInto_2 (by decide) ?_
  refine lv_istore (lv' := [(5, .int 0), (3, .long 0), (0, .ref (o + 282)), (1, .ref (o + 2)), (2, .int 2)]) hx hb dX4_brokenInto_3 hl (by decide) rfl (fun ls hl => ?_)
  refine lv_iload hx hb dX4_brokenInto_5 (lv_at hl 0 rfl) ?_
  refine lv_iload_n hx hb dX4_brokenInto_7 rfl (lv_at hl 4 rfl) ?_
  refine lv_icmp_ge (tgt := 38) hx hb dX4_brokenInto_8 (by decide) (fun q => absurd q (by decide)) (fun _ => ?_)
  refine lv_lload_n hx hb dX4_brokenInto_11 rfl (lv_at hl 1 rfl) ?_
  refine lv_aload_n hx hb dX4_brokenInto_12 rfl (lv_at hl 2 rfl) ?_
  refine x_get (k := 282) hE hK hI (by decide) inG4 (e_282 G o _ _) rfl 0 (by decide) mw_154 rfl dX4_brokenInto_13 ?_
  refine lv_iload hx hb dX4_brokenInto_16 (lv_at hl 0 rfl) ?_
  refine x_lald (k := 283) (j := 0) hE hK hI (by decide) (e_283 G o) (by decide) (by decide) rfl dX4_brokenInto_18 ?_
  refine lv_aload_n hx hb dX4_brokenInto_19 rfl (lv_at hl 3 rfl) ?_
  refine x_get (k := 2) hE hK hI (by decide) inG2 (e_2 G o _ _) rfl 0 (by decide) mw_34 rfl dX4_brokenInto_20 ?_
  refine lv_iload hx hb dX4_brokenInto_23 (lv_at hl 0 rfl) ?_
  refine x_aald (k := 3) (j := 0) (t0 := 5) (q := o + 4) hE hK hI (by decide) (e_3 G o) rfl rfl (by decide) (by decide) rfl rfl dX4_brokenInto_25 ?_
  refine lv_iload_n hx hb dX4_brokenInto_26 rfl (lv_at hl 4 rfl) ?_
  refine x_iald (k := 4) (j := 2) hE hK hI (by decide) (e_4 G o) (by decide) (by decide) rfl dX4_brokenInto_27 ?_
  refine lv_i2l hx hb dX4_brokenInto_28 rfl ?_
  refine lv_lmul hx hb dX4_brokenInto_29 ?_
  refine lv_ladd hx hb dX4_brokenInto_30 ?_
  refine lv_lstore_n (lv' := [(3, .long (0 + ((Y 283 0) * ((X 4 2).toInt64)))), (5, .int 0), (0, .ref (o + 282)), (1, .ref (o + 2)), (2, .int 2)]) hx hb dX4_brokenInto_31 rfl hl (by decide) rfl (fun ls hl => ?_)
  refine lv_iinc (v := 1) (lv' := [(5, .int 1), (3, .long (0 + ((Y 283 0) * ((X 4 2).toInt64)))), (0, .ref (o + 282)), (1, .ref (o + 2)), (2, .int 2)]) hx hb dX4_brokenInto_32 hl (k := 1) rfl (by decide) (by decide) rfl (fun ls hl => ?_)
  refine lv_goto (tgt := 5) hx hb dX4_brokenInto_35 (by decide) ?_
  refine lv_iload hx hb dX4_brokenInto_5 (lv_at hl 0 rfl) ?_
  refine lv_iload_n hx hb dX4_brokenInto_7 rfl (lv_at hl 4 rfl) ?_
  refine lv_icmp_ge (tgt := 38) hx hb dX4_brokenInto_8 (by decide) (fun q => absurd q (by decide)) (fun _ => ?_)
  refine lv_lload_n hx hb dX4_brokenInto_11 rfl (lv_at hl 1 rfl) ?_
  refine lv_aload_n hx hb dX4_brokenInto_12 rfl (lv_at hl 2 rfl) ?_
  refine x_get (k := 282) hE hK hI (by decide) inG4 (e_282 G o _ _) rfl 0 (by decide) mw_154 rfl dX4_brokenInto_13 ?_
  refine lv_iload hx hb dX4_brokenInto_16 (lv_at hl 0 rfl) ?_
  refine x_lald (k := 283) (j := 1) hE hK hI (by decide) (e_283 G o) (by decide) (by decide) rfl dX4_brokenInto_18 ?_
  refine lv_aload_n hx hb dX4_brokenInto_19 rfl (lv_at hl 3 rfl) ?_
  refine x_get (k := 2) hE hK hI (by decide) inG2 (e_2 G o _ _) rfl 0 (by decide) mw_34 rfl dX4_brokenInto_20 ?_
  refine lv_iload hx hb dX4_brokenInto_23 (lv_at hl 0 rfl) ?_
  refine x_aald (k := 3) (j := 1) (t0 := 5) (q := o + 5) hE hK hI (by decide) (e_3 G o) rfl rfl (by decide) (by decide) rfl rfl dX4_brokenInto_25 ?_
  refine lv_iload_n hx hb dX4_brokenInto_26 rfl (lv_at hl 4 rfl) ?_
  refine x_iald (k := 5) (j := 2) hE hK hI (by decide) (e_5 G o) (by decide) (by decide) rfl dX4_brokenInto_27 ?_
  refine lv_i2l hx hb dX4_brokenInto_28 rfl ?_
  refine lv_lmul hx hb dX4_brokenInto_29 ?_
  refine lv_ladd hx hb dX4_brokenInto_30 ?_
  refine lv_lstore_n (lv' := [(3, .long ((0 + ((Y 283 0) * ((X 4 2).toInt64))) + ((Y 283 1) * ((X 5 2).toInt64)))), (5, .int 1), (0, .ref (o + 282)), (1, .ref (o + 2)), (2, .int 2)]) hx hb dX4_brokenInto_31 rfl hl (by decide) rfl (fun ls hl => ?_)
  refine lv_iinc (v := 2) (lv' := [(5, .int 2), (3, .long ((0 + ((Y 283 0) * ((X 4 2).toInt64))) + ((Y 283 1) * ((X 5 2).toInt64)))), (0, .ref (o + 282)), (1, .ref (o + 2)), (2, .int 2)]) hx hb dX4_brokenInto_32 hl (k := 1) rfl (by decide) (by decide) rfl (fun ls hl => ?_)
  refine lv_goto (tgt := 5) hx hb dX4_brokenInto_35 (by decide) ?_
  refine lv_iload hx hb dX4_brokenInto_5 (lv_at hl 0 rfl) ?_
  refine lv_iload_n hx hb dX4_brokenInto_7 rfl (lv_at hl 4 rfl) ?_
  refine lv_icmp_ge (tgt := 38) hx hb dX4_brokenInto_8 (by decide) (fun _ => ?_) (fun q => absurd (by decide) q)
  refine lv_lload_n hx hb dX4_brokenInto_38 rfl (lv_at hl 1 rfl) ?_
  exact x_lret hE hr hlocks hI rfl rfl rfl dX4_brokenInto_39
set_option maxRecDepth 100000 in
set_option maxHeartbeats 4000000 in
theorem c_X4_brokenInto_3 (l : Launch) (G : GG) (o : Nat) (X : SX) (Y : SY) : Ct l yX4_brokenInto cX4_brokenInto 6 (some .long) 0 0 G o [.ref (o + 282), .ref (o + 2), .int 3] X Y (some (.long (ent X Y 3))) X Y := by
  refine Ct.mk (by decide +kernel) (Nat.le_of_ble_eq_true rfl) rfl ?_
  intro p9 e9 s9 m9 args9 below9 meth9 c9 hE hr hlocks hK hI ls hl
  have hx := hE.1
  have hb := hE.2.1
  have hl : lv_has ls 6 [(0, .ref (o + 282)), (1, .ref (o + 2)), (2, .int 3)] := hl
  refine lv_lconst (v := 0) hx hb dX4_brokenInto_0 (by decide) ?_
  refine lv_lstore_n (lv' := [(3, .long 0), (0, .ref (o + 282)), (1, .ref (o + 2)), (2, .int 3)]) hx hb dX4_brokenInto_1 rfl hl (by decide) rfl (fun ls hl => ?_)
  refine lv_iconst (v := 0) hx hb dX4_brokenInto_2 (by decide) ?_
  refine lv_istore (lv' := [(5, .int 0), (3, .long 0), (0, .ref (o + 282)), (1, .ref (o + 2)), (2, .int 3)]) hx hb dX4_brokenInto_3 hl (by decide) rfl (fun ls hl => ?_)
  refine lv_iload hx hb dX4_brokenInto_5 (lv_at hl 0 rfl) ?_
  refine lv_iload_n hx hb dX4_brokenInto_7 rfl (lv_at hl 4 rfl) ?_
  refine lv_icmp_ge (tgt := 38) hx hb dX4_brokenInto_8 (by decide) (fun q => absurd q (by decide)) (fun _ => ?_)
  refine lv_lload_n hx hb dX4_brokenInto_11 rfl (lv_at hl 1 rfl) ?_
  refine lv_aload_n hx hb dX4_brokenInto_12 rfl (lv_at hl 2 rfl) ?_
  refine x_get (k := 282) hE hK hI (by decide) inG4 (e_282 G o _ _) rfl 0 (by decide) mw_154 rfl dX4_brokenInto_13 ?_
  refine lv_iload hx hb dX4_brokenInto_16 (lv_at hl 0 rfl) ?_
  refine x_lald (k := 283) (j := 0) hE hK hI (by decide) (e_283 G o) (by decide) (by decide) rfl dX4_brokenInto_18 ?_
  refine lv_aload_n hx hb dX4_brokenInto_19 rfl (lv_at hl 3 rfl) ?_
  refine x_get (k := 2) hE hK hI (by decide) inG2 (e_2 G o _ _) rfl 0 (by decide) mw_34 rfl dX4_brokenInto_20 ?_
  refine lv_iload hx hb dX4_brokenInto_23 (lv_at hl 0 rfl) ?_
  refine x_aald (k := 3) (j := 0) (t0 := 5) (q := o + 4) hE hK hI (by decide) (e_3 G o) rfl rfl (by decide) (by decide) rfl rfl dX4_brokenInto_25 ?_
  refine lv_iload_n hx hb dX4_brokenInto_26 rfl (lv_at hl 4 rfl) ?_
  refine x_iald (k := 4) (j := 3) hE hK hI (by decide) (e_4 G o) (by decide) (by decide) rfl dX4_brokenInto_27 ?_
  refine lv_i2l hx hb dX4_brokenInto_28 rfl ?_
  refine lv_lmul hx hb dX4_brokenInto_29 ?_
  refine lv_ladd hx hb dX4_brokenInto_30 ?_
  refine lv_lstore_n (lv' := [(3, .long (0 + ((Y 283 0) * ((X 4 3).toInt64)))), (5, .int 0), (0, .ref (o + 282)), (1, .ref (o + 2)), (2, .int 3)]) hx hb dX4_brokenInto_31 rfl hl (by decide) rfl (fun ls hl => ?_)
  refine lv_iinc (v := 1) (lv' := [(5, .int 1), (3, .long (0 + ((Y 283 0) * ((X 4 3).toInt64)))), (0, .ref (o + 282)), (1, .ref (o + 2)), (2, .int 3)]) hx hb dX4_brokenInto_32 hl (k := 1) rfl (by decide) (by decide) rfl (fun ls hl => ?_)
  refine lv_goto (tgt := 5) hx hb dX4_brokenInto_35 (by decide) ?_
  refine lv_iload hx hb dX4_brokenInto_5 (lv_at hl 0 rfl) ?_
  refine lv_iload_n hx hb dX4_brokenInto_7 rfl (lv_at hl 4 rfl) ?_
  refine lv_icmp_ge (tgt := 38) hx hb dX4_brokenInto_8 (by decide) (fun q => absurd q (by decide)) (fun _ => ?_)
  refine lv_lload_n hx hb dX4_brokenInto_11 rfl (lv_at hl 1 rfl) ?_
  refine lv_aload_n hx hb dX4_brokenInto_12 rfl (lv_at hl 2 rfl) ?_
  refine x_get (k := 282) hE hK hI (by decide) inG4 (e_282 G o _ _) rfl 0 (by decide) mw_154 rfl dX4_brokenInto_13 ?_
  refine lv_iload hx hb dX4_brokenInto_16 (lv_at hl 0 rfl) ?_
  refine x_lald (k := 283) (j := 1) hE hK hI (by decide) (e_283 G o) (by decide) (by decide) rfl dX4_brokenInto_18 ?_
  refine lv_aload_n hx hb dX4_brokenInto_19 rfl (lv_at hl 3 rfl) ?_
  refine x_get (k := 2) hE hK hI (by decide) inG2 (e_2 G o _ _) rfl 0 (by decide) mw_34 rfl dX4_brokenInto_20 ?_
  refine lv_iload hx hb dX4_brokenInto_23 (lv_at hl 0 rfl) ?_
  refine x_aald (k := 3) (j := 1) (t0 := 5) (q := o + 5) hE hK hI (by decide) (e_3 G o) rfl rfl (by decide) (by decide) rfl rfl dX4_brokenInto_25 ?_
  refine lv_iload_n hx hb dX4_brokenInto_26 rfl (lv_at hl 4 rfl) ?_
  refine x_iald (k := 5) (j := 3) hE hK hI (by decide) (e_5 G o) (by decide) (by decide) rfl dX4_brokenInto_27 ?_
  refine lv_i2l hx hb dX4_brokenInto_28 rfl ?_
  refine lv_lmul hx hb dX4_brokenInto_29 ?_
  refine lv_ladd hx hb dX4_brokenInto_30 ?_
  refine lv_lstore_n (lv' := [(3, .long ((0 + ((Y 283 0) * ((X 4 3).toInt64))) + ((Y 283 1) * ((X 5 3).toInt64)))), (5, .int 1), (0, .ref (o + 282)), (1, .ref (o + 2)), (2, .int 3)]) hx hb dX4_brokenInto_31 rfl hl (by decide) rfl (fun ls hl => ?_)
  refine lv_iinc (v := 2) (lv' := [(5, .int 2), (3, .long ((0 + ((Y 283 0) * ((X 4 3).toInt64))) + ((Y 283 1) * ((X 5 3).toInt64)))), (0, .ref (o + 282)), (1, .ref (o + 2)), (2, .int 3)]) hx hb dX4_brokenInto_32 hl (k := 1) rfl (by decide) (by decide) rfl (fun ls hl => ?_)
  refine lv_goto (tgt := 5) hx hb dX4_brokenInto_35 (by decide) ?_
  refine lv_iload hx hb dX4_brokenInto_5 (lv_at hl 0 rfl) ?_
  refine lv_iload_n hx hb dX4_brokenInto_7 rfl (lv_at hl 4 rfl) ?_
  refine lv_icmp_ge (tgt := 38) hx hb dX4_brokenInto_8 (by decide) (fun q => absurd q (by decide)) (fun _ => ?_)
  refine lv_lload_n hx hb dX4_brokenInto_11 rfl (lv_at hl 1 rfl) ?_
  refine lv_aload_n hx hb dX4_brokenInto_12 rfl (lv_at hl 2 rfl) ?_
  refine x_get (k := 282) hE hK hI (by decide) inG4 (e_282 G o _ _) rfl 0 (by decide) mw_154 rfl dX4_brokenInto_13 ?_
  refine lv_iload hx hb dX4_brokenInto_16 (lv_at hl 0 rfl) ?_
  refine x_lald (k := 283) (j := 2) hE hK hI (by decide) (e_283 G o) (by decide) (by decide) rfl dX4_brokenInto_18 ?_
  refine lv_aload_n hx hb dX4_brokenInto_19 rfl (lv_at hl 3 rfl) ?_
  refine x_get (k := 2) hE hK hI (by decide) inG2 (e_2 G o _ _) rfl 0 (by decide) mw_34 rfl dX4_brokenInto_20 ?_
  refine lv_iload hx hb dX4_brokenInto_23 (lv_at hl 0 rfl) ?_
  refine x_aald (k := 3) (j := 2) (t0 := 5) (q := o + 6) hE hK hI (by decide) (e_3 G o) rfl rfl (by decide) (by decide) rfl rfl dX4_brokenInto_25 ?_
  refine lv_iload_n hx hb dX4_brokenInto_26 rfl (lv_at hl 4 rfl) ?_
  refine x_iald (k := 6) (j := 3) hE hK hI (by decide) (e_6 G o) (by decide) (by decide) rfl dX4_brokenInto_27 ?_
  refine lv_i2l hx hb dX4_brokenInto_28 rfl ?_
  refine lv_lmul hx hb dX4_brokenInto_29 ?_
  refine lv_ladd hx hb dX4_brokenInto_30 ?_
  refine lv_lstore_n (lv' := [(3, .long (((0 + ((Y 283 0) * ((X 4 3).toInt64))) + ((Y 283 1) * ((X 5 3).toInt64))) + ((Y 283 2) * ((X 6 3).toInt64)))), (5, .int 2), (0, .ref (o + 282)), (1, .ref (o + 2)), (2, .int 3)]) hx hb dX4_brokenInto_31 rfl hl (by decide) rfl (fun ls hl => ?_)
  refine lv_iinc (v := 3) (lv' := [(5, .int 3), (3, .long (((0 + ((Y 283 0) * ((X 4 3).toInt64))) + ((Y 283 1) * ((X 5 3).toInt64))) + ((Y 283 2) * ((X 6 3).toInt64)))), (0, .ref (o + 282)), (1, .ref (o + 2)), (2, .int 3)]) hx hb dX4_brokenInto_32 hl (k := 1) rfl (by decide) (by decide) rfl (fun ls hl => ?_)
  refine lv_goto (tgt := 5) hx hb dX4_brokenInto_35 (by decide) ?_
  refine lv_iload hx hb dX4_brokenInto_5 (lv_at hl 0 rfl) ?_
  refine lv_iload_n hx hb dX4_brokenInto_7 rfl (lv_at hl 4 rfl) ?_
  refine lv_icmp_ge (tgt := 38) hx hb dX4_brokenInto_8 (by decide) (fun _ => ?_) (fun q => absurd (by decide) q)
  refine lv_lload_n hx hb dX4_brokenInto_38 rfl (lv_at hl 1 rfl) ?_
  exact x_lret hE hr hlocks hI rfl rfl rfl dX4_brokenInto_39
def ss0X (X : SX) (Y : SY) (r : Int32) : SX := if 100 - (r * (X 4 0)) = 0 then (if X 282 3 = 0 then (sx X 282 3 0) else (if X 10 0 = 0 then (if ent X Y 0 = 0 then (sx X 282 3 1) else (sx X 282 3 0)) else (sx X 282 3 0))) else X
def ss0Y (X : SX) (Y : SY) (r : Int32) : SY := if 100 - (r * (X 4 0)) = 0 then (sy Y 283 0 0) else (sy (sy Y 283 0 ((((100 * (X 10 0)).toInt64) * (Y 282 2)) + (r.toInt64 * (ent X Y 0)))) 282 2 ((Y 282 2) * ((100 - (r * (X 4 0))).toInt64)))
set_option maxRecDepth 100000 in
set_option maxHeartbeats 4000000 in
theorem c_X4_solveSize_0 (l : Launch) (G : GG) (o : Nat) (X : SX) (Y : SY) (r : Int32) : Ct l yX4_solveSize cX4_solveSize 9 none 1 25 G o [.ref (o + 282), .ref (o + 2), .int 0, .int r] X Y none (ss0X X Y r) (ss0Y X Y r) := by
  refine Ct.mk (by decide +kernel) (Nat.le_of_ble_eq_true rfl) rfl ?_
  intro p9 e9 s9 m9 args9 below9 meth9 c9 hE hr hlocks hK hI ls hl
  have hx := hE.1
  have hb := hE.2.1
  have hl : lv_has ls 9 [(0, .ref (o + 282)), (1, .ref (o + 2)), (2, .int 0), (3, .int r)] := hl
  refine lv_aload_n hx hb dX4_solveSize_0 rfl (lv_at hl 0 rfl) ?_
  refine lv_aload_n hx hb dX4_solveSize_1 rfl (lv_at hl 1 rfl) ?_
  refine lv_iload_n hx hb dX4_solveSize_2 rfl (lv_at hl 2 rfl) ?_
  refine x_callVl (k := 282) hE hK hI (c_X4_brokenInto_0 l G o _ _  ) mf_X4_brokenInto mw_239 (by decide) ((e_282 G o) _ _) rfl rfl hl.1 rfl (Nat.le_of_ble_eq_true rfl) ⟨(Nat.le_of_ble_eq_true rfl), (Nat.le_of_ble_eq_true rfl)⟩ ⟨Nat.zero_le _, Nat.zero_le _⟩ dX4_solveSize_3 (fun H locs hI => ?_)
  refine lv_lstore (lv' := [(4, .long (ent X Y 0)), (0, .ref (o + 282)), (1, .ref (o + 2)), (2, .int 0), (3, .int r)]) hx hb dX4_solveSize_6 hl (by decide) rfl (fun ls hl => ?_)
  refine lv_aload_n hx hb dX4_solveSize_8 rfl (lv_at hl 2 rfl) ?_
  refine x_get (k := 2) hE hK hI (by decide) inG2 (e_2 G o _ _) rfl 3 (by decide) mw_43 rfl dX4_solveSize_9 ?_
  refine lv_iload_n hx hb dX4_solveSize_12 rfl (lv_at hl 3 rfl) ?_
  refine x_iald (k := 10) (j := 0) hE hK hI (by decide) (e_10 G o) (by decide) (by decide) rfl dX4_solveSize_13 ?_
  refine lv_istore (lv' := [(6, .int (X 10 0)), (4, .long (ent X Y 0)), (0, .ref (o + 282)), (1, .ref (o + 2)), (2, .int 0), (3, .int r)]) hx hb dX4_solveSize_14 hl (by decide) rfl (fun ls hl => ?_)
  refine lv_bipush (v := 100) hx hb dX4_solveSize_16 (by decide) ?_
  refine lv_iload_n hx hb dX4_solveSize_18 rfl (lv_at hl 5 rfl) ?_
  refine lv_aload_n hx hb dX4_solveSize_19 rfl (lv_at hl 3 rfl) ?_
  refine x_get (k := 2) hE hK hI (by decide) inG2 (e_2 G o _ _) rfl 0 (by decide) mw_34 rfl dX4_solveSize_20 ?_
  refine lv_iload_n hx hb dX4_solveSize_23 rfl (lv_at hl 4 rfl) ?_
  refine x_aald (k := 3) (j := 0) (t0 := 5) (q := o + 4) hE hK hI (by decide) (e_3 G o) rfl rfl (by decide) (by decide) rfl rfl dX4_solveSize_24 ?_
  refine lv_iload_n hx hb dX4_solveSize_25 rfl (lv_at hl 4 rfl) ?_
  refine x_iald (k := 4) (j := 0) hE hK hI (by decide) (e_4 G o) (by decide) (by decide) rfl dX4_solveSize_26 ?_
  refine lv_imul hx hb dX4_solveSize_27 ?_
  refine lv_isub hx hb dX4_solveSize_28 ?_
  refine lv_istore (lv' := [(7, .int (100 - (r * (X 4 0)))), (6, .int (X 10 0)), (4, .long (ent X Y 0)), (0, .ref (o + 282)), (1, .ref (o + 2)), (2, .int 0), (3, .int r)]) hx hb dX4_solveSize_29 hl (by decide) rfl (fun ls hl => ?_)
  refine lv_iload hx hb dX4_solveSize_31 (lv_at hl 0 rfl) ?_
  refine lv_if_ne (tgt := 72) hx hb dX4_solveSize_33 (by decide) (fun c1 => ?_) (fun c1 => ?_)
  · refine lv_aload_n hx hb dX4_solveSize_72 rfl (lv_at hl 3 rfl) ?_
    refine x_get (k := 282) hE hK hI (by decide) inG4 (e_282 G o _ _) rfl 0 (by decide) mw_154 rfl dX4_solveSize_73 ?_
    refine lv_iload_n hx hb dX4_solveSize_76 rfl (lv_at hl 5 rfl) ?_
    refine lv_bipush (v := 100) hx hb dX4_solveSize_77 (by decide) ?_
    refine lv_iload hx hb dX4_solveSize_79 (lv_at hl 1 rfl) ?_
    refine lv_imul hx hb dX4_solveSize_81 ?_
    refine lv_i2l hx hb dX4_solveSize_82 rfl ?_
    refine lv_aload_n hx hb dX4_solveSize_83 rfl (lv_at hl 3 rfl) ?_
    refine x_get (k := 282) hE hK hI (by decide) inG4 (e_282 G o _ _) rfl 2 (by decide) mw_157 rfl dX4_solveSize_84 ?_
    refine lv_lmul hx hb dX4_solveSize_87 ?_
    refine lv_iload_n hx hb dX4_solveSize_88 rfl (lv_at hl 6 rfl) ?_
    refine lv_i2l hx hb dX4_solveSize_89 rfl ?_
    refine lv_lload hx hb dX4_solveSize_90 (lv_at hl 2 rfl) ?_
    refine lv_lmul hx hb dX4_solveSize_92 ?_
    refine lv_ladd hx hb dX4_solveSize_93 ?_
    refine x_last (k := 283) (j := 0) hE hK hI (by decide) (e_283 G o) (by decide) (by decide) rfl dX4_solveSize_94 (fun H locs hI => ?_)
    refine lv_aload_n hx hb dX4_solveSize_95 rfl (lv_at hl 3 rfl) ?_
    refine lv_dup hx hb dX4_solveSize_96 rfl ?_
    refine x_get (k := 282) hE hK hI (by decide) inG4 (e_282 G o _ _) rfl 2 (by decide) mw_157 rfl dX4_solveSize_97 ?_
    refine lv_topl (fun z2 ez2 => ?_)
    obtain rfl : Y 282 2 = z2 := (ez2.trans ((sy_o (by decide)))).symm
    refine lv_iload hx hb dX4_solveSize_100 (lv_at hl 0 rfl) ?_
    refine lv_i2l hx hb dX4_solveSize_102 rfl ?_
    refine lv_lmul hx hb dX4_solveSize_103 ?_
    refine x_putl (k := 282) hE hK hI (by decide) inG4 tyX4 tyX4_ok nmX4 (e_282 G o) rfl 2 (by decide) mw_157 rfl (by decide +kernel) (by exact Nat.le_of_ble_eq_true rfl) rfl dX4_solveSize_104 (fun H locs hI => ?_)
    refine lv_iconst (v := 0) hx hb dX4_solveSize_107 (by decide) ?_
    refine lv_istore (lv' := [(8, .int 0), (7, .int (100 - (r * (X 4 0)))), (6, .int (X 10 0)), (4, .long (ent X Y 0)), (0, .ref (o + 282)), (1, .ref (o + 2)), (2, .int 0), (3, .int r)]) hx hb dX4_solveSize_108 hl (by decide) rfl (fun ls hl => ?_)
    refine lv_iload hx hb dX4_solveSize_110 (lv_at hl 0 rfl) ?_
    refine lv_iload_n hx hb dX4_solveSize_112 rfl (lv_at hl 6 rfl) ?_
    refine lv_icmp_ge (tgt := 135) hx hb dX4_solveSize_113 (by decide) (fun _ => ?_) (fun q => absurd (by decide) q)
    exact x_vret hE hr hlocks hI rfl ((if_neg c1).symm) ((if_neg c1).symm) dX4_solveSize_135
  · refine lv_aload_n hx hb dX4_solveSize_36 rfl (lv_at hl 3 rfl) ?_
    refine x_get (k := 282) hE hK hI (by decide) inG4 (e_282 G o _ _) rfl 0 (by decide) mw_154 rfl dX4_solveSize_37 ?_
    refine lv_iload_n hx hb dX4_solveSize_40 rfl (lv_at hl 5 rfl) ?_
    refine lv_lconst (v := 0) hx hb dX4_solveSize_41 (by decide) ?_
    refine x_last (k := 283) (j := 0) hE hK hI (by decide) (e_283 G o) (by decide) (by decide) rfl dX4_solveSize_42 (fun H locs hI => ?_)
    refine lv_aload_n hx hb dX4_solveSize_43 rfl (lv_at hl 3 rfl) ?_
    refine lv_aload_n hx hb dX4_solveSize_44 rfl (lv_at hl 3 rfl) ?_
    refine x_get (k := 282) hE hK hI (by decide) inG4 (e_282 G o _ _) rfl 3 (by decide) mw_159 rfl dX4_solveSize_45 ?_
    refine lv_if_eq (tgt := 67) hx hb dX4_solveSize_48 (by decide) (fun c3 => ?_) (fun c3 => ?_)
    · refine lv_iconst (v := 0) hx hb dX4_solveSize_67 (by decide) ?_
      refine x_putz (k := 282) hE hK hI (by decide) inG4 tyX4 tyX4_ok nmX4 (e_282 G o) rfl 3 (by decide) mw_159 rfl (by decide +kernel) (by exact Nat.le_of_ble_eq_true rfl) (by decide) rfl dX4_solveSize_68 (fun H locs hI => ?_)
      exact x_vret hE hr hlocks hI rfl (((if_pos c1).trans (if_pos c3)).symm) ((if_pos c1).symm) dX4_solveSize_71
    · refine lv_iload hx hb dX4_solveSize_51 (lv_at hl 1 rfl) ?_
      refine lv_if_ne (tgt := 67) hx hb dX4_solveSize_53 (by decide) (fun c4 => ?_) (fun c4 => ?_)
      · refine lv_iconst (v := 0) hx hb dX4_solveSize_67 (by decide) ?_
        refine x_putz (k := 282) hE hK hI (by decide) inG4 tyX4 tyX4_ok nmX4 (e_282 G o) rfl 3 (by decide) mw_159 rfl (by decide +kernel) (by exact Nat.le_of_ble_eq_true rfl) (by decide) rfl dX4_solveSize_68 (fun H locs hI => ?_)
        exact x_vret hE hr hlocks hI rfl (((if_pos c1).trans ((if_neg c3).trans (if_neg c4))).symm) ((if_pos c1).symm) dX4_solveSize_71
      · refine lv_lload hx hb dX4_solveSize_56 (lv_at hl 2 rfl) ?_
        refine lv_lconst (v := 0) hx hb dX4_solveSize_58 (by decide) ?_
        refine W.lcmp hx hb dX4_solveSize_59 ?_
        refine lv_if_ne (tgt := 67) hx hb dX4_solveSize_60 (by decide) (fun c5 => ?_) (fun c5 => ?_)
        · have c5 := mt (lg_cmp_eq _ _).mpr c5
          refine lv_iconst (v := 0) hx hb dX4_solveSize_67 (by decide) ?_
          refine x_putz (k := 282) hE hK hI (by decide) inG4 tyX4 tyX4_ok nmX4 (e_282 G o) rfl 3 (by decide) mw_159 rfl (by decide +kernel) (by exact Nat.le_of_ble_eq_true rfl) (by decide) rfl dX4_solveSize_68 (fun H locs hI => ?_)
          exact x_vret hE hr hlocks hI rfl (((if_pos c1).trans ((if_neg c3).trans ((if_pos c4).trans (if_neg c5)))).symm) ((if_pos c1).symm) dX4_solveSize_71
        · have c5 := (lg_cmp_eq _ _).mp c5
          refine lv_iconst (v := 1) hx hb dX4_solveSize_63 (by decide) ?_
          refine lv_goto (tgt := 68) hx hb dX4_solveSize_64 (by decide) ?_
          refine x_putz (k := 282) hE hK hI (by decide) inG4 tyX4 tyX4_ok nmX4 (e_282 G o) rfl 3 (by decide) mw_159 rfl (by decide +kernel) (by exact Nat.le_of_ble_eq_true rfl) (by decide) rfl dX4_solveSize_68 (fun H locs hI => ?_)
          exact x_vret hE hr hlocks hI rfl (((if_pos c1).trans ((if_neg c3).trans ((if_pos c4).trans (if_pos c5)))).symm) ((if_pos c1).symm) dX4_solveSize_71
theorem ss0X_o {X : SX} {Y : SY} {r : Int32} {k i : Nat} (h : k ≠ 282) : ss0X X Y r k i = X k i := by
  unfold ss0X
  repeat' split
  all_goals first | rfl | exact sx_o (fun q => h q.1)
def ss1X (X : SX) (Y : SY) (r : Int32) : SX := if 100 - (r * (X 5 1)) = 0 then (if X 282 3 = 0 then (sx X 282 3 0) else (if X 10 1 = 0 then (if ent X Y 1 = 0 then (sx X 282 3 1) else (sx X 282 3 0)) else (sx X 282 3 0))) else X
def ss1Y (X : SX) (Y : SY) (r : Int32) : SY := if 100 - (r * (X 5 1)) = 0 then (sy Y 283 1 0) else (sy (sy (sy Y 283 1 ((((100 * (X 10 1)).toInt64) * (Y 282 2)) + (r.toInt64 * (ent X Y 1)))) 282 2 ((Y 282 2) * ((100 - (r * (X 5 1))).toInt64))) 283 0 ((Y 283 0) * ((100 - (r * (X 5 1))).toInt64)))
set_option maxRecDepth 100000 in
set_option maxHeartbeats 4000000 in
theorem c_X4_solveSize_1 (l : Launch) (G : GG) (o : Nat) (X : SX) (Y : SY) (r : Int32) : Ct l yX4_solveSize cX4_solveSize 9 none 1 25 G o [.ref (o + 282), .ref (o + 2), .int 1, .int r] X Y none (ss1X X Y r) (ss1Y X Y r) := by
  refine Ct.mk (by decide +kernel) (Nat.le_of_ble_eq_true rfl) rfl ?_
  intro p9 e9 s9 m9 args9 below9 meth9 c9 hE hr hlocks hK hI ls hl
  have hx := hE.1
  have hb := hE.2.1
  have hl : lv_has ls 9 [(0, .ref (o + 282)), (1, .ref (o + 2)), (2, .int 1), (3, .int r)] := hl
  refine lv_aload_n hx hb dX4_solveSize_0 rfl (lv_at hl 0 rfl) ?_
  refine lv_aload_n hx hb dX4_solveSize_1 rfl (lv_at hl 1 rfl) ?_
  refine lv_iload_n hx hb dX4_solveSize_2 rfl (lv_at hl 2 rfl) ?_
  refine x_callVl (k := 282) hE hK hI (c_X4_brokenInto_1 l G o _ _  ) mf_X4_brokenInto mw_239 (by decide) ((e_282 G o) _ _) rfl rfl hl.1 rfl (Nat.le_of_ble_eq_true rfl) ⟨(Nat.le_of_ble_eq_true rfl), (Nat.le_of_ble_eq_true rfl)⟩ ⟨Nat.zero_le _, Nat.zero_le _⟩ dX4_solveSize_3 (fun H locs hI => ?_)
  refine lv_lstore (lv' := [(4, .long (ent X Y 1)), (0, .ref (o + 282)), (1, .ref (o + 2)), (2, .int 1), (3, .int r)]) hx hb dX4_solveSize_6 hl (by decide) rfl (fun ls hl => ?_)
  refine lv_aload_n hx hb dX4_solveSize_8 rfl (lv_at hl 2 rfl) ?_
  refine x_get (k := 2) hE hK hI (by decide) inG2 (e_2 G o _ _) rfl 3 (by decide) mw_43 rfl dX4_solveSize_9 ?_
  refine lv_iload_n hx hb dX4_solveSize_12 rfl (lv_at hl 3 rfl) ?_
  refine x_iald (k := 10) (j := 1) hE hK hI (by decide) (e_10 G o) (by decide) (by decide) rfl dX4_solveSize_13 ?_
  refine lv_istore (lv' := [(6, .int (X 10 1)), (4, .long (ent X Y 1)), (0, .ref (o + 282)), (1, .ref (o + 2)), (2, .int 1), (3, .int r)]) hx hb dX4_solveSize_14 hl (by decide) rfl (fun ls hl => ?_)
  refine lv_bipush (v := 100) hx hb dX4_solveSize_16 (by decide) ?_
  refine lv_iload_n hx hb dX4_solveSize_18 rfl (lv_at hl 5 rfl) ?_
  refine lv_aload_n hx hb dX4_solveSize_19 rfl (lv_at hl 3 rfl) ?_
  refine x_get (k := 2) hE hK hI (by decide) inG2 (e_2 G o _ _) rfl 0 (by decide) mw_34 rfl dX4_solveSize_20 ?_
  refine lv_iload_n hx hb dX4_solveSize_23 rfl (lv_at hl 4 rfl) ?_
  refine x_aald (k := 3) (j := 1) (t0 := 5) (q := o + 5) hE hK hI (by decide) (e_3 G o) rfl rfl (by decide) (by decide) rfl rfl dX4_solveSize_24 ?_
  refine lv_iload_n hx hb dX4_solveSize_25 rfl (lv_at hl 4 rfl) ?_
  refine x_iald (k := 5) (j := 1) hE hK hI (by decide) (e_5 G o) (by decide) (by decide) rfl dX4_solveSize_26 ?_
  refine lv_imul hx hb dX4_solveSize_27 ?_
  refine lv_isub hx hb dX4_solveSize_28 ?_
  refine lv_istore (lv' := [(7, .int (100 - (r * (X 5 1)))), (6, .int (X 10 1)), (4, .long (ent X Y 1)), (0, .ref (o + 282)), (1, .ref (o + 2)), (2, .int 1), (3, .int r)]) hx hb dX4_solveSize_29 hl (by decide) rfl (fun ls hl => ?_)
  refine lv_iload hx hb dX4_solveSize_31 (lv_at hl 0 rfl) ?_
  refine lv_if_ne (tgt := 72) hx hb dX4_solveSize_33 (by decide) (fun c1 => ?_) (fun c1 => ?_)
  · refine lv_aload_n hx hb dX4_solveSize_72 rfl (lv_at hl 3 rfl) ?_
    refine x_get (k := 282) hE hK hI (by decide) inG4 (e_282 G o _ _) rfl 0 (by decide) mw_154 rfl dX4_solveSize_73 ?_
    refine lv_iload_n hx hb dX4_solveSize_76 rfl (lv_at hl 5 rfl) ?_
    refine lv_bipush (v := 100) hx hb dX4_solveSize_77 (by decide) ?_
    refine lv_iload hx hb dX4_solveSize_79 (lv_at hl 1 rfl) ?_
    refine lv_imul hx hb dX4_solveSize_81 ?_
    refine lv_i2l hx hb dX4_solveSize_82 rfl ?_
    refine lv_aload_n hx hb dX4_solveSize_83 rfl (lv_at hl 3 rfl) ?_
    refine x_get (k := 282) hE hK hI (by decide) inG4 (e_282 G o _ _) rfl 2 (by decide) mw_157 rfl dX4_solveSize_84 ?_
    refine lv_lmul hx hb dX4_solveSize_87 ?_
    refine lv_iload_n hx hb dX4_solveSize_88 rfl (lv_at hl 6 rfl) ?_
    refine lv_i2l hx hb dX4_solveSize_89 rfl ?_
    refine lv_lload hx hb dX4_solveSize_90 (lv_at hl 2 rfl) ?_
    refine lv_lmul hx hb dX4_solveSize_92 ?_
    refine lv_ladd hx hb dX4_solveSize_93 ?_
    refine x_last (k := 283) (j := 1) hE hK hI (by decide) (e_283 G o) (by decide) (by decide) rfl dX4_solveSize_94 (fun H locs hI => ?_)
    refine lv_aload_n hx hb dX4_solveSize_95 rfl (lv_at hl 3 rfl) ?_
    refine lv_dup hx hb dX4_solveSize_96 rfl ?_
    refine x_get (k := 282) hE hK hI (by decide) inG4 (e_282 G o _ _) rfl 2 (by decide) mw_157 rfl dX4_solveSize_97 ?_
    refine lv_topl (fun z2 ez2 => ?_)
    obtain rfl : Y 282 2 = z2 := (ez2.trans ((sy_o (by decide)))).symm
    refine lv_iload hx hb dX4_solveSize_100 (lv_at hl 0 rfl) ?_
    refine lv_i2l hx hb dX4_solveSize_102 rfl ?_
    refine lv_lmul hx hb dX4_solveSize_103 ?_
    refine x_putl (k := 282) hE hK hI (by decide) inG4 tyX4 tyX4_ok nmX4 (e_282 G o) rfl 2 (by decide) mw_157 rfl (by decide +kernel) (by exact Nat.le_of_ble_eq_true rfl) rfl dX4_solveSize_104 (fun H locs hI => ?_)
    refine lv_iconst (v := 0) hx hb dX4_solveSize_107 (by decide) ?_
    refine lv_istore (lv' := [(8, .int 0), (7, .int (100 - (r * (X 5 1)))), (6, .int (X 10 1)), (4, .long (ent X Y 1)), (0, .ref (o + 282)), (1, .ref (o + 2)), (2, .int 1), (3, .int r)]) hx hb dX4_solveSize_108 hl (by decide) rfl (fun ls hl => ?_)
    refine lv_iload hx hb dX4_solveSize_110 (lv_at hl 0 rfl) ?_
    refine lv_iload_n hx hb dX4_solveSize_112 rfl (lv_at hl 6 rfl) ?_
    refine lv_icmp_ge (tgt := 135) hx hb dX4_solveSize_113 (by decide) (fun q => absurd q (by decide)) (fun _ => ?_)
    refine lv_aload_n hx hb dX4_solveSize_116 rfl (lv_at hl 4 rfl) ?_
    refine x_get (k := 282) hE hK hI (by decide) inG4 (e_282 G o _ _) rfl 0 (by decide) mw_154 rfl dX4_solveSize_117 ?_
    refine lv_iload hx hb dX4_solveSize_120 (lv_at hl 0 rfl) ?_
    refine lv_dup2_11 hx hb dX4_solveSize_122 rfl rfl ?_
    refine x_lald (k := 283) (j := 0) hE hK hI (by decide) (e_283 G o) (by decide) (by decide) rfl dX4_solveSize_123 ?_
    refine lv_topl (fun z3 ez3 => ?_)
    obtain rfl : Y 283 0 = z3 := (ez3.trans ((sy_o (by decide)).trans ((sy_o (by decide))))).symm
    refine lv_iload hx hb dX4_solveSize_124 (lv_at hl 1 rfl) ?_
    refine lv_i2l hx hb dX4_solveSize_126 rfl ?_
    refine lv_lmul hx hb dX4_solveSize_127 ?_
    refine x_last (k := 283) (j := 0) hE hK hI (by decide) (e_283 G o) (by decide) (by decide) rfl dX4_solveSize_128 (fun H locs hI => ?_)
    refine lv_iinc (v := 1) (lv' := [(8, .int 1), (7, .int (100 - (r * (X 5 1)))), (6, .int (X 10 1)), (4, .long (ent X Y 1)), (0, .ref (o + 282)), (1, .ref (o + 2)), (2, .int 1), (3, .int r)]) hx hb dX4_solveSize_129 hl (k := 0) rfl (by decide) (by decide) rfl (fun ls hl => ?_)
    refine lv_goto (tgt := 110) hx hb dX4_solveSize_132 (by decide) ?_
    refine lv_iload hx hb dX4_solveSize_110 (lv_at hl 0 rfl) ?_
    refine lv_iload_n hx hb dX4_solveSize_112 rfl (lv_at hl 6 rfl) ?_
    refine lv_icmp_ge (tgt := 135) hx hb dX4_solveSize_113 (by decide) (fun _ => ?_) (fun q => absurd (by decide) q)
    exact x_vret hE hr hlocks hI rfl ((if_neg c1).symm) ((if_neg c1).symm) dX4_solveSize_135
  · refine lv_aload_n hx hb dX4_solveSize_36 rfl (lv_at hl 3 rfl) ?_
    refine x_get (k := 282) hE hK hI (by decide) inG4 (e_282 G o _ _) rfl 0 (by decide) mw_154 rfl dX4_solveSize_37 ?_
    refine lv_iload_n hx hb dX4_solveSize_40 rfl (lv_at hl 5 rfl) ?_
    refine lv_lconst (v := 0) hx hb dX4_solveSize_41 (by decide) ?_
    refine x_last (k := 283) (j := 1) hE hK hI (by decide) (e_283 G o) (by decide) (by decide) rfl dX4_solveSize_42 (fun H locs hI => ?_)
    refine lv_aload_n hx hb dX4_solveSize_43 rfl (lv_at hl 3 rfl) ?_
    refine lv_aload_n hx hb dX4_solveSize_44 rfl (lv_at hl 3 rfl) ?_
    refine x_get (k := 282) hE hK hI (by decide) inG4 (e_282 G o _ _) rfl 3 (by decide) mw_159 rfl dX4_solveSize_45 ?_
    refine lv_if_eq (tgt := 67) hx hb dX4_solveSize_48 (by decide) (fun c4 => ?_) (fun c4 => ?_)
    · refine lv_iconst (v := 0) hx hb dX4_solveSize_67 (by decide) ?_
      refine x_putz (k := 282) hE hK hI (by decide) inG4 tyX4 tyX4_ok nmX4 (e_282 G o) rfl 3 (by decide) mw_159 rfl (by decide +kernel) (by exact Nat.le_of_ble_eq_true rfl) (by decide) rfl dX4_solveSize_68 (fun H locs hI => ?_)
      exact x_vret hE hr hlocks hI rfl (((if_pos c1).trans (if_pos c4)).symm) ((if_pos c1).symm) dX4_solveSize_71
    · refine lv_iload hx hb dX4_solveSize_51 (lv_at hl 1 rfl) ?_
      refine lv_if_ne (tgt := 67) hx hb dX4_solveSize_53 (by decide) (fun c5 => ?_) (fun c5 => ?_)
      · refine lv_iconst (v := 0) hx hb dX4_solveSize_67 (by decide) ?_
        refine x_putz (k := 282) hE hK hI (by decide) inG4 tyX4 tyX4_ok nmX4 (e_282 G o) rfl 3 (by decide) mw_159 rfl (by decide +kernel) (by exact Nat.le_of_ble_eq_true rfl) (by decide) rfl dX4_solveSize_68 (fun H locs hI => ?_)
        exact x_vret hE hr hlocks hI rfl (((if_pos c1).trans ((if_neg c4).trans (if_neg c5))).symm) ((if_pos c1).symm) dX4_solveSize_71
      · refine lv_lload hx hb dX4_solveSize_56 (lv_at hl 2 rfl) ?_
        refine lv_lconst (v := 0) hx hb dX4_solveSize_58 (by decide) ?_
        refine W.lcmp hx hb dX4_solveSize_59 ?_
        refine lv_if_ne (tgt := 67) hx hb dX4_solveSize_60 (by decide) (fun c6 => ?_) (fun c6 => ?_)
        · have c6 := mt (lg_cmp_eq _ _).mpr c6
          refine lv_iconst (v := 0) hx hb dX4_solveSize_67 (by decide) ?_
          refine x_putz (k := 282) hE hK hI (by decide) inG4 tyX4 tyX4_ok nmX4 (e_282 G o) rfl 3 (by decide) mw_159 rfl (by decide +kernel) (by exact Nat.le_of_ble_eq_true rfl) (by decide) rfl dX4_solveSize_68 (fun H locs hI => ?_)
          exact x_vret hE hr hlocks hI rfl (((if_pos c1).trans ((if_neg c4).trans ((if_pos c5).trans (if_neg c6)))).symm) ((if_pos c1).symm) dX4_solveSize_71
        · have c6 := (lg_cmp_eq _ _).mp c6
          refine lv_iconst (v := 1) hx hb dX4_solveSize_63 (by decide) ?_
          refine lv_goto (tgt := 68) hx hb dX4_solveSize_64 (by decide) ?_
          refine x_putz (k := 282) hE hK hI (by decide) inG4 tyX4 tyX4_ok nmX4 (e_282 G o) rfl 3 (by decide) mw_159 rfl (by decide +kernel) (by exact Nat.le_of_ble_eq_true rfl) (by decide) rfl dX4_solveSize_68 (fun H locs hI => ?_)
          exact x_vret hE hr hlocks hI rfl (((if_pos c1).trans ((if_neg c4).trans ((if_pos c5).trans (if_pos c6)))).symm) ((if_pos c1).symm) dX4_solveSize_71
theorem ss1X_o {X : SX} {Y : SY} {r : Int32} {k i : Nat} (h : k ≠ 282) : ss1X X Y r k i = X k i := by
  unfold ss1X
  repeat' split
  all_goals first | rfl | exact sx_o (fun q => h q.1)
def ss2X (X : SX) (Y : SY) (r : Int32) : SX := if 100 - (r * (X 6 2)) = 0 then (if X 282 3 = 0 then (sx X 282 3 0) else (if X 10 2 = 0 then (if ent X Y 2 = 0 then (sx X 282 3 1) else (sx X 282 3 0)) else (sx X 282 3 0))) else X
def ss2Y (X : SX) (Y : SY) (r : Int32) : SY := if 100 - (r * (X 6 2)) = 0 then (sy Y 283 2 0) else (sy (sy (sy (sy Y 283 2 ((((100 * (X 10 2)).toInt64) * (Y 282 2)) + (r.toInt64 * (ent X Y 2)))) 282 2 ((Y 282 2) * ((100 - (r * (X 6 2))).toInt64))) 283 0 ((Y 283 0) * ((100 - (r * (X 6 2))).toInt64))) 283 1 ((Y 283 1) * ((100 - (r * (X 6 2))).toInt64)))
set_option maxRecDepth 100000 in
set_option maxHeartbeats 4000000 in
theorem c_X4_solveSize_2 (l : Launch) (G : GG) (o : Nat) (X : SX) (Y : SY) (r : Int32) : Ct l yX4_solveSize cX4_solveSize 9 none 1 25 G o [.ref (o + 282), .ref (o + 2), .int 2, .int r] X Y none (ss2X X Y r) (ss2Y X Y r) := by
  refine Ct.mk (by decide +kernel) (Nat.le_of_ble_eq_true rfl) rfl ?_
  intro p9 e9 s9 m9 args9 below9 meth9 c9 hE hr hlocks hK hI ls hl
  have hx := hE.1
  have hb := hE.2.1
  have hl : lv_has ls 9 [(0, .ref (o + 282)), (1, .ref (o + 2)), (2, .int 2), (3, .int r)] := hl
  refine lv_aload_n hx hb dX4_solveSize_0 rfl (lv_at hl 0 rfl) ?_
  refine lv_aload_n hx hb dX4_solveSize_1 rfl (lv_at hl 1 rfl) ?_
  refine lv_iload_n hx hb dX4_solveSize_2 rfl (lv_at hl 2 rfl) ?_
  refine x_callVl (k := 282) hE hK hI (c_X4_brokenInto_2 l G o _ _  ) mf_X4_brokenInto mw_239 (by decide) ((e_282 G o) _ _) rfl rfl hl.1 rfl (Nat.le_of_ble_eq_true rfl) ⟨(Nat.le_of_ble_eq_true rfl), (Nat.le_of_ble_eq_true rfl)⟩ ⟨Nat.zero_le _, Nat.zero_le _⟩ dX4_solveSize_3 (fun H locs hI => ?_)
  refine lv_lstore (lv' := [(4, .long (ent X Y 2)), (0, .ref (o + 282)), (1, .ref (o + 2)), (2, .int 2), (3, .int r)]) hx hb dX4_solveSize_6 hl (by decide) rfl (fun ls hl => ?_)
  refine lv_aload_n hx hb dX4_solveSize_8 rfl (lv_at hl 2 rfl) ?_
  refine x_get (k := 2) hE hK hI (by decide) inG2 (e_2 G o _ _) rfl 3 (by decide) mw_43 rfl dX4_solveSize_9 ?_
  refine lv_iload_n hx hb dX4_solveSize_12 rfl (lv_at hl 3 rfl) ?_
  refine x_iald (k := 10) (j := 2) hE hK hI (by decide) (e_10 G o) (by decide) (by decide) rfl dX4_solveSize_13 ?_
  refine lv_istore (lv' := [(6, .int (X 10 2)), (4, .long (ent X Y 2)), (0, .ref (o + 282)), (1, .ref (o + 2)), (2, .int 2), (3, .int r)]) hx hb dX4_solveSize_14 hl (by decide) rfl (fun ls hl => ?_)
  refine lv_bipush (v := 100) hx hb dX4_solveSize_16 (by decide) ?_
  refine lv_iload_n hx hb dX4_solveSize_18 rfl (lv_at hl 5 rfl) ?_
  refine lv_aload_n hx hb dX4_solveSize_19 rfl (lv_at hl 3 rfl) ?_
  refine x_get (k := 2) hE hK hI (by decide) inG2 (e_2 G o _ _) rfl 0 (by decide) mw_34 rfl dX4_solveSize_20 ?_
  refine lv_iload_n hx hb dX4_solveSize_23 rfl (lv_at hl 4 rfl) ?_
  refine x_aald (k := 3) (j := 2) (t0 := 5) (q := o + 6) hE hK hI (by decide) (e_3 G o) rfl rfl (by decide) (by decide) rfl rfl dX4_solveSize_24 ?_
  refine lv_iload_n hx hb dX4_solveSize_25 rfl (lv_at hl 4 rfl) ?_
  refine x_iald (k := 6) (j := 2) hE hK hI (by decide) (e_6 G o) (by decide) (by decide) rfl dX4_solveSize_26 ?_
  refine lv_imul hx hb dX4_solveSize_27 ?_
  refine lv_isub hx hb dX4_solveSize_28 ?_
  refine lv_istore (lv' := [(7, .int (100 - (r * (X 6 2)))), (6, .int (X 10 2)), (4, .long (ent X Y 2)), (0, .ref (o + 282)), (1, .ref (o + 2)), (2, .int 2), (3, .int r)]) hx hb dX4_solveSize_29 hl (by decide) rfl (fun ls hl => ?_)
  refine lv_iload hx hb dX4_solveSize_31 (lv_at hl 0 rfl) ?_
  refine lv_if_ne (tgt := 72) hx hb dX4_solveSize_33 (by decide) (fun c1 => ?_) (fun c1 => ?_)
  · refine lv_aload_n hx hb dX4_solveSize_72 rfl (lv_at hl 3 rfl) ?_
    refine x_get (k := 282) hE hK hI (by decide) inG4 (e_282 G o _ _) rfl 0 (by decide) mw_154 rfl dX4_solveSize_73 ?_
    refine lv_iload_n hx hb dX4_solveSize_76 rfl (lv_at hl 5 rfl) ?_
    refine lv_bipush (v := 100) hx hb dX4_solveSize_77 (by decide) ?_
    refine lv_iload hx hb dX4_solveSize_79 (lv_at hl 1 rfl) ?_
    refine lv_imul hx hb dX4_solveSize_81 ?_
    refine lv_i2l hx hb dX4_solveSize_82 rfl ?_
    refine lv_aload_n hx hb dX4_solveSize_83 rfl (lv_at hl 3 rfl) ?_
    refine x_get (k := 282) hE hK hI (by decide) inG4 (e_282 G o _ _) rfl 2 (by decide) mw_157 rfl dX4_solveSize_84 ?_
    refine lv_lmul hx hb dX4_solveSize_87 ?_
    refine lv_iload_n hx hb dX4_solveSize_88 rfl (lv_at hl 6 rfl) ?_
    refine lv_i2l hx hb dX4_solveSize_89 rfl ?_
    refine lv_lload hx hb dX4_solveSize_90 (lv_at hl 2 rfl) ?_
    refine lv_lmul hx hb dX4_solveSize_92 ?_
    refine lv_ladd hx hb dX4_solveSize_93 ?_
    refine x_last (k := 283) (j := 2) hE hK hI (by decide) (e_283 G o) (by decide) (by decide) rfl dX4_solveSize_94 (fun H locs hI => ?_)
    refine lv_aload_n hx hb dX4_solveSize_95 rfl (lv_at hl 3 rfl) ?_
    refine lv_dup hx hb dX4_solveSize_96 rfl ?_
    refine x_get (k := 282) hE hK hI (by decide) inG4 (e_282 G o _ _) rfl 2 (by decide) mw_157 rfl dX4_solveSize_97 ?_
    refine lv_topl (fun z2 ez2 => ?_)
    obtain rfl : Y 282 2 = z2 := (ez2.trans ((sy_o (by decide)))).symm
    refine lv_iload hx hb dX4_solveSize_100 (lv_at hl 0 rfl) ?_
    refine lv_i2l hx hb dX4_solveSize_102 rfl ?_
    refine lv_lmul hx hb dX4_solveSize_103 ?_
    refine x_putl (k := 282) hE hK hI (by decide) inG4 tyX4 tyX4_ok nmX4 (e_282 G o) rfl 2 (by decide) mw_157 rfl (by decide +kernel) (by exact Nat.le_of_ble_eq_true rfl) rfl dX4_solveSize_104 (fun H locs hI => ?_)
    refine lv_iconst (v := 0) hx hb dX4_solveSize_107 (by decide) ?_
    refine lv_istore (lv' := [(8, .int 0), (7, .int (100 - (r * (X 6 2)))), (6, .int (X 10 2)), (4, .long (ent X Y 2)), (0, .ref (o + 282)), (1, .ref (o + 2)), (2, .int 2), (3, .int r)]) hx hb dX4_solveSize_108 hl (by decide) rfl (fun ls hl => ?_)
    refine lv_iload hx hb dX4_solveSize_110 (lv_at hl 0 rfl) ?_
    refine lv_iload_n hx hb dX4_solveSize_112 rfl (lv_at hl 6 rfl) ?_
    refine lv_icmp_ge (tgt := 135) hx hb dX4_solveSize_113 (by decide) (fun q => absurd q (by decide)) (fun _ => ?_)
    refine lv_aload_n hx hb dX4_solveSize_116 rfl (lv_at hl 4 rfl) ?_
    refine x_get (k := 282) hE hK hI (by decide) inG4 (e_282 G o _ _) rfl 0 (by decide) mw_154 rfl dX4_solveSize_117 ?_
    refine lv_iload hx hb dX4_solveSize_120 (lv_at hl 0 rfl) ?_
    refine lv_dup2_11 hx hb dX4_solveSize_122 rfl rfl ?_
    refine x_lald (k := 283) (j := 0) hE hK hI (by decide) (e_283 G o) (by decide) (by decide) rfl dX4_solveSize_123 ?_
    refine lv_topl (fun z3 ez3 => ?_)
    obtain rfl : Y 283 0 = z3 := (ez3.trans ((sy_o (by decide)).trans ((sy_o (by decide))))).symm
    refine lv_iload hx hb dX4_solveSize_124 (lv_at hl 1 rfl) ?_
    refine lv_i2l hx hb dX4_solveSize_126 rfl ?_
    refine lv_lmul hx hb dX4_solveSize_127 ?_
    refine x_last (k := 283) (j := 0) hE hK hI (by decide) (e_283 G o) (by decide) (by decide) rfl dX4_solveSize_128 (fun H locs hI => ?_)
    refine lv_iinc (v := 1) (lv' := [(8, .int 1), (7, .int (100 - (r * (X 6 2)))), (6, .int (X 10 2)), (4, .long (ent X Y 2)), (0, .ref (o + 282)), (1, .ref (o + 2)), (2, .int 2), (3, .int r)]) hx hb dX4_solveSize_129 hl (k := 0) rfl (by decide) (by decide) rfl (fun ls hl => ?_)
    refine lv_goto (tgt := 110) hx hb dX4_solveSize_132 (by decide) ?_
    refine lv_iload hx hb dX4_solveSize_110 (lv_at hl 0 rfl) ?_
    refine lv_iload_n hx hb dX4_solveSize_112 rfl (lv_at hl 6 rfl) ?_
    refine lv_icmp_ge (tgt := 135) hx hb dX4_solveSize_113 (by decide) (fun q => absurd q (by decide)) (fun _ => ?_)
    refine lv_aload_n hx hb dX4_solveSize_116 rfl (lv_at hl 4 rfl) ?_
    refine x_get (k := 282) hE hK hI (by decide) inG4 (e_282 G o _ _) rfl 0 (by decide) mw_154 rfl dX4_solveSize_117 ?_
    refine lv_iload hx hb dX4_solveSize_120 (lv_at hl 0 rfl) ?_
    refine lv_dup2_11 hx hb dX4_solveSize_122 rfl rfl ?_
    refine x_lald (k := 283) (j := 1) hE hK hI (by decide) (e_283 G o) (by decide) (by decide) rfl dX4_solveSize_123 ?_
    refine lv_topl (fun z4 ez4 => ?_)
    obtain rfl : Y 283 1 = z4 := (ez4.trans ((sy_o (by decide)).trans ((sy_o (by decide)).trans ((sy_o (by decide)))))).symm
    refine lv_iload hx hb dX4_solveSize_124 (lv_at hl 1 rfl) ?_
    refine lv_i2l hx hb dX4_solveSize_126 rfl ?_
    refine lv_lmul hx hb dX4_solveSize_127 ?_
    refine x_last (k := 283) (j := 1) hE hK hI (by decide) (e_283 G o) (by decide) (by decide) rfl dX4_solveSize_128 (fun H locs hI => ?_)
    refine lv_iinc (v := 2) (lv' := [(8, .int 2), (7, .int (100 - (r * (X 6 2)))), (6, .int (X 10 2)), (4, .long (ent X Y 2)), (0, .ref (o + 282)), (1, .ref (o + 2)), (2, .int 2), (3, .int r)]) hx hb dX4_solveSize_129 hl (k := 0) rfl (by decide) (by decide) rfl (fun ls hl => ?_)
    refine lv_goto (tgt := 110) hx hb dX4_solveSize_132 (by decide) ?_
    refine lv_iload hx hb dX4_solveSize_110 (lv_at hl 0 rfl) ?_
    refine lv_iload_n hx hb dX4_solveSize_112 rfl (lv_at hl 6 rfl) ?_
    refine lv_icmp_ge (tgt := 135) hx hb dX4_solveSize_113 (by decide) (fun _ => ?_) (fun q => absurd (by decide) q)
    exact x_vret hE hr hlocks hI rfl ((if_neg c1).symm) ((if_neg c1).symm) dX4_solveSize_135
  · refine lv_aload_n hx hb dX4_solveSize_36 rfl (lv_at hl 3 rfl) ?_
    refine x_get (k := 282) hE hK hI (by decide) inG4 (e_282 G o _ _) rfl 0 (by decide) mw_154 rfl dX4_solveSize_37 ?_
    refine lv_iload_n hx hb dX4_solveSize_40 rfl (lv_at hl 5 rfl) ?_
    refine lv_lconst (v := 0) hx hb dX4_solveSize_41 (by decide) ?_
    refine x_last (k := 283) (j := 2) hE hK hI (by decide) (e_283 G o) (by decide) (by decide) rfl dX4_solveSize_42 (fun H locs hI => ?_)
    refine lv_aload_n hx hb dX4_solveSize_43 rfl (lv_at hl 3 rfl) ?_
    refine lv_aload_n hx hb dX4_solveSize_44 rfl (lv_at hl 3 rfl) ?_
    refine x_get (k := 282) hE hK hI (by decide) inG4 (e_282 G o _ _) rfl 3 (by decide) mw_159 rfl dX4_solveSize_45 ?_
    refine lv_if_eq (tgt := 67) hx hb dX4_solveSize_48 (by decide) (fun c5 => ?_) (fun c5 => ?_)
    · refine lv_iconst (v := 0) hx hb dX4_solveSize_67 (by decide) ?_
      refine x_putz (k := 282) hE hK hI (by decide) inG4 tyX4 tyX4_ok nmX4 (e_282 G o) rfl 3 (by decide) mw_159 rfl (by decide +kernel) (by exact Nat.le_of_ble_eq_true rfl) (by decide) rfl dX4_solveSize_68 (fun H locs hI => ?_)
      exact x_vret hE hr hlocks hI rfl (((if_pos c1).trans (if_pos c5)).symm) ((if_pos c1).symm) dX4_solveSize_71
    · refine lv_iload hx hb dX4_solveSize_51 (lv_at hl 1 rfl) ?_
      refine lv_if_ne (tgt := 67) hx hb dX4_solveSize_53 (by decide) (fun c6 => ?_) (fun c6 => ?_)
      · refine lv_iconst (v := 0) hx hb dX4_solveSize_67 (by decide) ?_
        refine x_putz (k := 282) hE hK hI (by decide) inG4 tyX4 tyX4_ok nmX4 (e_282 G o) rfl 3 (by decide) mw_159 rfl (by decide +kernel) (by exact Nat.le_of_ble_eq_true rfl) (by decide) rfl dX4_solveSize_68 (fun H locs hI => ?_)
        exact x_vret hE hr hlocks hI rfl (((if_pos c1).trans ((if_neg c5).trans (if_neg c6))).symm) ((if_pos c1).symm) dX4_solveSize_71
      · refine lv_lload hx hb dX4_solveSize_56 (lv_at hl 2 rfl) ?_
        refine lv_lconst (v := 0) hx hb dX4_solveSize_58 (by decide) ?_
        refine W.lcmp hx hb dX4_solveSize_59 ?_
        refine lv_if_ne (tgt := 67) hx hb dX4_solveSize_60 (by decide) (fun c7 => ?_) (fun c7 => ?_)
        · have c7 := mt (lg_cmp_eq _ _).mpr c7
          refine lv_iconst (v := 0) hx hb dX4_solveSize_67 (by decide) ?_
          refine x_putz (k := 282) hE hK hI (by decide) inG4 tyX4 tyX4_ok nmX4 (e_282 G o) rfl 3 (by decide) mw_159 rfl (by decide +kernel) (by exact Nat.le_of_ble_eq_true rfl) (by decide) rfl dX4_solveSize_68 (fun H locs hI => ?_)
          exact x_vret hE hr hlocks hI rfl (((if_pos c1).trans ((if_neg c5).trans ((if_pos c6).trans (if_neg c7)))).symm) ((if_pos c1).symm) dX4_solveSize_71
        · have c7 := (lg_cmp_eq _ _).mp c7
          refine lv_iconst (v := 1) hx hb dX4_solveSize_63 (by decide) ?_
          refine lv_goto (tgt := 68) hx hb dX4_solveSize_64 (by decide) ?_
          refine x_putz (k := 282) hE hK hI (by decide) inG4 tyX4 tyX4_ok nmX4 (e_282 G o) rfl 3 (by decide) mw_159 rfl (by decide +kernel) (by exact Nat.le_of_ble_eq_true rfl) (by decide) rfl dX4_solveSize_68 (fun H locs hI => ?_)
          exact x_vret hE hr hlocks hI rfl (((if_pos c1).trans ((if_neg c5).trans ((if_pos c6).trans (if_pos c7)))).symm) ((if_pos c1).symm) dX4_solveSize_71
theorem ss2X_o {X : SX} {Y : SY} {r : Int32} {k i : Nat} (h : k ≠ 282) : ss2X X Y r k i = X k i := by
  unfold ss2X
  repeat' split
  all_goals first | rfl | exact sx_o (fun q => h q.1)
def ss3X (X : SX) (Y : SY) (r : Int32) : SX := if 100 - (r * (X 7 3)) = 0 then (if X 282 3 = 0 then (sx X 282 3 0) else (if X 10 3 = 0 then (if ent X Y 3 = 0 then (sx X 282 3 1) else (sx X 282 3 0)) else (sx X 282 3 0))) else X
def ss3Y (X : SX) (Y : SY) (r : Int32) : SY := if 100 - (r * (X 7 3)) = 0 then (sy Y 283 3 0) else (sy (sy (sy (sy (sy Y 283 3 ((((100 * (X 10 3)).toInt64) * (Y 282 2)) + (r.toInt64 * (ent X Y 3)))) 282 2 ((Y 282 2) * ((100 - (r * (X 7 3))).toInt64))) 283 0 ((Y 283 0) * ((100 - (r * (X 7 3))).toInt64))) 283 1 ((Y 283 1) * ((100 - (r * (X 7 3))).toInt64))) 283 2 ((Y 283 2) * ((100 - (r * (X 7 3))).toInt64)))
set_option maxRecDepth 100000 in
set_option maxHeartbeats 4000000 in
theorem c_X4_solveSize_3 (l : Launch) (G : GG) (o : Nat) (X : SX) (Y : SY) (r : Int32) : Ct l yX4_solveSize cX4_solveSize 9 none 1 25 G o [.ref (o + 282), .ref (o + 2), .int 3, .int r] X Y none (ss3X X Y r) (ss3Y X Y r) := by
  refine Ct.mk (by decide +kernel) (Nat.le_of_ble_eq_true rfl) rfl ?_
  intro p9 e9 s9 m9 args9 below9 meth9 c9 hE hr hlocks hK hI ls hl
  have hx := hE.1
  have hb := hE.2.1
  have hl : lv_has ls 9 [(0, .ref (o + 282)), (1, .ref (o + 2)), (2, .int 3), (3, .int r)] := hl
  refine lv_aload_n hx hb dX4_solveSize_0 rfl (lv_at hl 0 rfl) ?_
  refine lv_aload_n hx hb dX4_solveSize_1 rfl (lv_at hl 1 rfl) ?_
  refine lv_iload_n hx hb dX4_solveSize_2 rfl (lv_at hl 2 rfl) ?_
  refine x_callVl (k := 282) hE hK hI (c_X4_brokenInto_3 l G o _ _  ) mf_X4_brokenInto mw_239 (by decide) ((e_282 G o) _ _) rfl rfl hl.1 rfl (Nat.le_of_ble_eq_true rfl) ⟨(Nat.le_of_ble_eq_true rfl), (Nat.le_of_ble_eq_true rfl)⟩ ⟨Nat.zero_le _, Nat.zero_le _⟩ dX4_solveSize_3 (fun H locs hI => ?_)
  refine lv_lstore (lv' := [(4, .long (ent X Y 3)), (0, .ref (o + 282)), (1, .ref (o + 2)), (2, .int 3), (3, .int r)]) hx hb dX4_solveSize_6 hl (by decide) rfl (fun ls hl => ?_)
  refine lv_aload_n hx hb dX4_solveSize_8 rfl (lv_at hl 2 rfl) ?_
  refine x_get (k := 2) hE hK hI (by decide) inG2 (e_2 G o _ _) rfl 3 (by decide) mw_43 rfl dX4_solveSize_9 ?_
  refine lv_iload_n hx hb dX4_solveSize_12 rfl (lv_at hl 3 rfl) ?_
  refine x_iald (k := 10) (j := 3) hE hK hI (by decide) (e_10 G o) (by decide) (by decide) rfl dX4_solveSize_13 ?_
  refine lv_istore (lv' := [(6, .int (X 10 3)), (4, .long (ent X Y 3)), (0, .ref (o + 282)), (1, .ref (o + 2)), (2, .int 3), (3, .int r)]) hx hb dX4_solveSize_14 hl (by decide) rfl (fun ls hl => ?_)
  refine lv_bipush (v := 100) hx hb dX4_solveSize_16 (by decide) ?_
  refine lv_iload_n hx hb dX4_solveSize_18 rfl (lv_at hl 5 rfl) ?_
  refine lv_aload_n hx hb dX4_solveSize_19 rfl (lv_at hl 3 rfl) ?_
  refine x_get (k := 2) hE hK hI (by decide) inG2 (e_2 G o _ _) rfl 0 (by decide) mw_34 rfl dX4_solveSize_20 ?_
  refine lv_iload_n hx hb dX4_solveSize_23 rfl (lv_at hl 4 rfl) ?_
  refine x_aald (k := 3) (j := 3) (t0 := 5) (q := o + 7) hE hK hI (by decide) (e_3 G o) rfl rfl (by decide) (by decide) rfl rfl dX4_solveSize_24 ?_
  refine lv_iload_n hx hb dX4_solveSize_25 rfl (lv_at hl 4 rfl) ?_
  refine x_iald (k := 7) (j := 3) hE hK hI (by decide) (e_7 G o) (by decide) (by decide) rfl dX4_solveSize_26 ?_
  refine lv_imul hx hb dX4_solveSize_27 ?_
  refine lv_isub hx hb dX4_solveSize_28 ?_
  refine lv_istore (lv' := [(7, .int (100 - (r * (X 7 3)))), (6, .int (X 10 3)), (4, .long (ent X Y 3)), (0, .ref (o + 282)), (1, .ref (o + 2)), (2, .int 3), (3, .int r)]) hx hb dX4_solveSize_29 hl (by decide) rfl (fun ls hl => ?_)
  refine lv_iload hx hb dX4_solveSize_31 (lv_at hl 0 rfl) ?_
  refine lv_if_ne (tgt := 72) hx hb dX4_solveSize_33 (by decide) (fun c1 => ?_) (fun c1 => ?_)
  · refine lv_aload_n hx hb dX4_solveSize_72 rfl (lv_at hl 3 rfl) ?_
    refine x_get (k := 282) hE hK hI (by decide) inG4 (e_282 G o _ _) rfl 0 (by decide) mw_154 rfl dX4_solveSize_73 ?_
    refine lv_iload_n hx hb dX4_solveSize_76 rfl (lv_at hl 5 rfl) ?_
    refine lv_bipush (v := 100) hx hb dX4_solveSize_77 (by decide) ?_
    refine lv_iload hx hb dX4_solveSize_79 (lv_at hl 1 rfl) ?_
    refine lv_imul hx hb dX4_solveSize_81 ?_
    refine lv_i2l hx hb dX4_solveSize_82 rfl ?_
    refine lv_aload_n hx hb dX4_solveSize_83 rfl (lv_at hl 3 rfl) ?_
    refine x_get (k := 282) hE hK hI (by decide) inG4 (e_282 G o _ _) rfl 2 (by decide) mw_157 rfl dX4_solveSize_84 ?_
    refine lv_lmul hx hb dX4_solveSize_87 ?_
    refine lv_iload_n hx hb dX4_solveSize_88 rfl (lv_at hl 6 rfl) ?_
    refine lv_i2l hx hb dX4_solveSize_89 rfl ?_
    refine lv_lload hx hb dX4_solveSize_90 (lv_at hl 2 rfl) ?_
    refine lv_lmul hx hb dX4_solveSize_92 ?_
    refine lv_ladd hx hb dX4_solveSize_93 ?_
    refine x_last (k := 283) (j := 3) hE hK hI (by decide) (e_283 G o) (by decide) (by decide) rfl dX4_solveSize_94 (fun H locs hI => ?_)
    refine lv_aload_n hx hb dX4_solveSize_95 rfl (lv_at hl 3 rfl) ?_
    refine lv_dup hx hb dX4_solveSize_96 rfl ?_
    refine x_get (k := 282) hE hK hI (by decide) inG4 (e_282 G o _ _) rfl 2 (by decide) mw_157 rfl dX4_solveSize_97 ?_
    refine lv_topl (fun z2 ez2 => ?_)
    obtain rfl : Y 282 2 = z2 := (ez2.trans ((sy_o (by decide)))).symm
    refine lv_iload hx hb dX4_solveSize_100 (lv_at hl 0 rfl) ?_
    refine lv_i2l hx hb dX4_solveSize_102 rfl ?_
    refine lv_lmul hx hb dX4_solveSize_103 ?_
    refine x_putl (k := 282) hE hK hI (by decide) inG4 tyX4 tyX4_ok nmX4 (e_282 G o) rfl 2 (by decide) mw_157 rfl (by decide +kernel) (by exact Nat.le_of_ble_eq_true rfl) rfl dX4_solveSize_104 (fun H locs hI => ?_)
    refine lv_iconst (v := 0) hx hb dX4_solveSize_107 (by decide) ?_
    refine lv_istore (lv' := [(8, .int 0), (7, .int (100 - (r * (X 7 3)))), (6, .int (X 10 3)), (4, .long (ent X Y 3)), (0, .ref (o + 282)), (1, .ref (o + 2)), (2, .int 3), (3, .int r)]) hx hb dX4_solveSize_108 hl (by decide) rfl (fun ls hl => ?_)
    refine lv_iload hx hb dX4_solveSize_110 (lv_at hl 0 rfl) ?_
    refine lv_iload_n hx hb dX4_solveSize_112 rfl (lv_at hl 6 rfl) ?_
    refine lv_icmp_ge (tgt := 135) hx hb dX4_solveSize_113 (by decide) (fun q => absurd q (by decide)) (fun _ => ?_)
    refine lv_aload_n hx hb dX4_solveSize_116 rfl (lv_at hl 4 rfl) ?_
    refine x_get (k := 282) hE hK hI (by decide) inG4 (e_282 G o _ _) rfl 0 (by decide) mw_154 rfl dX4_solveSize_117 ?_
    refine lv_iload hx hb dX4_solveSize_120 (lv_at hl 0 rfl) ?_
    refine lv_dup2_11 hx hb dX4_solveSize_122 rfl rfl ?_
    refine x_lald (k := 283) (j := 0) hE hK hI (by decide) (e_283 G o) (by decide) (by decide) rfl dX4_solveSize_123 ?_
    refine lv_topl (fun z3 ez3 => ?_)
    obtain rfl : Y 283 0 = z3 := (ez3.trans ((sy_o (by decide)).trans ((sy_o (by decide))))).symm
    refine lv_iload hx hb dX4_solveSize_124 (lv_at hl 1 rfl) ?_
    refine lv_i2l hx hb dX4_solveSize_126 rfl ?_
    refine lv_lmul hx hb dX4_solveSize_127 ?_
    refine x_last (k := 283) (j := 0) hE hK hI (by decide) (e_283 G o) (by decide) (by decide) rfl dX4_solveSize_128 (fun H locs hI => ?_)
    refine lv_iinc (v := 1) (lv' := [(8, .int 1), (7, .int (100 - (r * (X 7 3)))), (6, .int (X 10 3)), (4, .long (ent X Y 3)), (0, .ref (o + 282)), (1, .ref (o + 2)), (2, .int 3), (3, .int r)]) hx hb dX4_solveSize_129 hl (k := 0) rfl (by decide) (by decide) rfl (fun ls hl => ?_)
    refine lv_goto (tgt := 110) hx hb dX4_solveSize_132 (by decide) ?_
    refine lv_iload hx hb dX4_solveSize_110 (lv_at hl 0 rfl) ?_
    refine lv_iload_n hx hb dX4_solveSize_112 rfl (lv_at hl 6 rfl) ?_
    refine lv_icmp_ge (tgt := 135) hx hb dX4_solveSize_113 (by decide) (fun q => absurd q (by decide)) (fun _ => ?_)
    refine lv_aload_n hx hb dX4_solveSize_116 rfl (lv_at hl 4 rfl) ?_
    refine x_get (k := 282) hE hK hI (by decide) inG4 (e_282 G o _ _) rfl 0 (by decide) mw_154 rfl dX4_solveSize_117 ?_
    refine lv_iload hx hb dX4_solveSize_120 (lv_at hl 0 rfl) ?_
    refine lv_dup2_11 hx hb dX4_solveSize_122 rfl rfl ?_
    refine x_lald (k := 283) (j := 1) hE hK hI (by decide) (e_283 G o) (by decide) (by decide) rfl dX4_solveSize_123 ?_
    refine lv_topl (fun z4 ez4 => ?_)
    obtain rfl : Y 283 1 = z4 := (ez4.trans ((sy_o (by decide)).trans ((sy_o (by decide)).trans ((sy_o (by decide)))))).symm
    refine lv_iload hx hb dX4_solveSize_124 (lv_at hl 1 rfl) ?_
    refine lv_i2l hx hb dX4_solveSize_126 rfl ?_
    refine lv_lmul hx hb dX4_solveSize_127 ?_
    refine x_last (k := 283) (j := 1) hE hK hI (by decide) (e_283 G o) (by decide) (by decide) rfl dX4_solveSize_128 (fun H locs hI => ?_)
    refine lv_iinc (v := 2) (lv' := [(8, .int 2), (7, .int (100 - (r * (X 7 3)))), (6, .int (X 10 3)), (4, .long (ent X Y 3)), (0, .ref (o + 282)), (1, .ref (o + 2)), (2, .int 3), (3, .int r)]) hx hb dX4_solveSize_129 hl (k := 0) rfl (by decide) (by decide) rfl (fun ls hl => ?_)
    refine lv_goto (tgt := 110) hx hb dX4_solveSize_132 (by decide) ?_
    refine lv_iload hx hb dX4_solveSize_110 (lv_at hl 0 rfl) ?_
    refine lv_iload_n hx hb dX4_solveSize_112 rfl (lv_at hl 6 rfl) ?_
    refine lv_icmp_ge (tgt := 135) hx hb dX4_solveSize_113 (by decide) (fun q => absurd q (by decide)) (fun _ => ?_)
    refine lv_aload_n hx hb dX4_solveSize_116 rfl (lv_at hl 4 rfl) ?_
    refine x_get (k := 282) hE hK hI (by decide) inG4 (e_282 G o _ _) rfl 0 (by decide) mw_154 rfl dX4_solveSize_117 ?_
    refine lv_iload hx hb dX4_solveSize_120 (lv_at hl 0 rfl) ?_
    refine lv_dup2_11 hx hb dX4_solveSize_122 rfl rfl ?_
    refine x_lald (k := 283) (j := 2) hE hK hI (by decide) (e_283 G o) (by decide) (by decide) rfl dX4_solveSize_123 ?_
    refine lv_topl (fun z5 ez5 => ?_)
    obtain rfl : Y 283 2 = z5 := (ez5.trans ((sy_o (by decide)).trans ((sy_o (by decide)).trans ((sy_o (by decide)).trans ((sy_o (by decide))))))).symm
    refine lv_iload hx hb dX4_solveSize_124 (lv_at hl 1 rfl) ?_
    refine lv_i2l hx hb dX4_solveSize_126 rfl ?_
    refine lv_lmul hx hb dX4_solveSize_127 ?_
    refine x_last (k := 283) (j := 2) hE hK hI (by decide) (e_283 G o) (by decide) (by decide) rfl dX4_solveSize_128 (fun H locs hI => ?_)
    refine lv_iinc (v := 3) (lv' := [(8, .int 3), (7, .int (100 - (r * (X 7 3)))), (6, .int (X 10 3)), (4, .long (ent X Y 3)), (0, .ref (o + 282)), (1, .ref (o + 2)), (2, .int 3), (3, .int r)]) hx hb dX4_solveSize_129 hl (k := 0) rfl (by decide) (by decide) rfl (fun ls hl => ?_)
    refine lv_goto (tgt := 110) hx hb dX4_solveSize_132 (by decide) ?_
    refine lv_iload hx hb dX4_solveSize_110 (lv_at hl 0 rfl) ?_
    refine lv_iload_n hx hb dX4_solveSize_112 rfl (lv_at hl 6 rfl) ?_
    refine lv_icmp_ge (tgt := 135) hx hb dX4_solveSize_113 (by decide) (fun _ => ?_) (fun q => absurd (by decide) q)
    exact x_vret hE hr hlocks hI rfl ((if_neg c1).symm) ((if_neg c1).symm) dX4_solveSize_135
  · refine lv_aload_n hx hb dX4_solveSize_36 rfl (lv_at hl 3 rfl) ?_
    refine x_get (k := 282) hE hK hI (by decide) inG4 (e_282 G o _ _) rfl 0 (by decide) mw_154 rfl dX4_solveSize_37 ?_
    refine lv_iload_n hx hb dX4_solveSize_40 rfl (lv_at hl 5 rfl) ?_
    refine lv_lconst (v := 0) hx hb dX4_solveSize_41 (by decide) ?_
    refine x_last (k := 283) (j := 3) hE hK hI (by decide) (e_283 G o) (by decide) (by decide) rfl dX4_solveSize_42 (fun H locs hI => ?_)
    refine lv_aload_n hx hb dX4_solveSize_43 rfl (lv_at hl 3 rfl) ?_
    refine lv_aload_n hx hb dX4_solveSize_44 rfl (lv_at hl 3 rfl) ?_
    refine x_get (k := 282) hE hK hI (by decide) inG4 (e_282 G o _ _) rfl 3 (by decide) mw_159 rfl dX4_solveSize_45 ?_
    refine lv_if_eq (tgt := 67) hx hb dX4_solveSize_48 (by decide) (fun c6 => ?_) (fun c6 => ?_)
    · refine lv_iconst (v := 0) hx hb dX4_solveSize_67 (by decide) ?_
      refine x_putz (k := 282) hE hK hI (by decide) inG4 tyX4 tyX4_ok nmX4 (e_282 G o) rfl 3 (by decide) mw_159 rfl (by decide +kernel) (by exact Nat.le_of_ble_eq_true rfl) (by decide) rfl dX4_solveSize_68 (fun H locs hI => ?_)
      exact x_vret hE hr hlocks hI rfl (((if_pos c1).trans (if_pos c6)).symm) ((if_pos c1).symm) dX4_solveSize_71
    · refine lv_iload hx hb dX4_solveSize_51 (lv_at hl 1 rfl) ?_
      refine lv_if_ne (tgt := 67) hx hb dX4_solveSize_53 (by decide) (fun c7 => ?_) (fun c7 => ?_)
      · refine lv_iconst (v := 0) hx hb dX4_solveSize_67 (by decide) ?_
        refine x_putz (k := 282) hE hK hI (by decide) inG4 tyX4 tyX4_ok nmX4 (e_282 G o) rfl 3 (by decide) mw_159 rfl (by decide +kernel) (by exact Nat.le_of_ble_eq_true rfl) (by decide) rfl dX4_solveSize_68 (fun H locs hI => ?_)
        exact x_vret hE hr hlocks hI rfl (((if_pos c1).trans ((if_neg c6).trans (if_neg c7))).symm) ((if_pos c1).symm) dX4_solveSize_71
      · refine lv_lload hx hb dX4_solveSize_56 (lv_at hl 2 rfl) ?_
        refine lv_lconst (v := 0) hx hb dX4_solveSize_58 (by decide) ?_
        refine W.lcmp hx hb dX4_solveSize_59 ?_
        refine lv_if_ne (tgt := 67) hx hb dX4_solveSize_60 (by decide) (fun c8 => ?_) (fun c8 => ?_)
        · have c8 := mt (lg_cmp_eq _ _).mpr c8
          refine lv_iconst (v := 0) hx hb dX4_solveSize_67 (by decide) ?_
          refine x_putz (k := 282) hE hK hI (by decide) inG4 tyX4 tyX4_ok nmX4 (e_282 G o) rfl 3 (by decide) mw_159 rfl (by decide +kernel) (by exact Nat.le_of_ble_eq_true rfl) (by decide) rfl dX4_solveSize_68 (fun H locs hI => ?_)
          exact x_vret hE hr hlocks hI rfl (((if_pos c1).trans ((if_neg c6).trans ((if_pos c7).trans (if_neg c8)))).symm) ((if_pos c1).symm) dX4_solveSize_71
        · have c8 := (lg_cmp_eq _ _).mp c8
          refine lv_iconst (v := 1) hx hb dX4_solveSize_63 (by decide) ?_
          refine lv_goto (tgt := 68) hx hb dX4_solveSize_64 (by decide) ?_
          refine x_putz (k := 282) hE hK hI (by decide) inG4 tyX4 tyX4_ok nmX4 (e_282 G o) rfl 3 (by decide) mw_159 rfl (by decide +kernel) (by exact Nat.le_of_ble_eq_true rfl) (by decide) rfl dX4_solveSize_68 (fun H locs hI => ?_)
          exact x_vret hE hr hlocks hI rfl (((if_pos c1).trans ((if_neg c6).trans ((if_pos c7).trans (if_pos c8)))).symm) ((if_pos c1).symm) dX4_solveSize_71
theorem ss3X_o {X : SX} {Y : SY} {r : Int32} {k i : Nat} (h : k ≠ 282) : ss3X X Y r k i = X k i := by
  unfold ss3X
  repeat' split
  all_goals first | rfl | exact sx_o (fun q => h q.1)
def solX (X : SX) (Y : SY) (r0 : Int32) (r1 : Int32) (r2 : Int32) (r3 : Int32) : SX := ss3X (ss2X (ss1X (ss0X (sx X 282 3 1) (sy Y 282 2 1) r0) (ss0Y (sx X 282 3 1) (sy Y 282 2 1) r0) r1) (ss1Y (ss0X (sx X 282 3 1) (sy Y 282 2 1) r0) (ss0Y (sx X 282 3 1) (sy Y 282 2 1) r0) r1) r2) (ss2Y (ss1X (ss0X (sx X 282 3 1) (sy Y 282 2 1) r0) (ss0Y (sx X 282 3 1) (sy Y 282 2 1) r0) r1) (ss1Y (ss0X (sx X 282 3 1) (sy Y 282 2 1) r0) (ss0Y (sx X 282 3 1) (sy Y 282 2 1) r0) r1) r2) r3
def solY (X : SX) (Y : SY) (r0 : Int32) (r1 : Int32) (r2 : Int32) (r3 : Int32) : SY := ss3Y (ss2X (ss1X (ss0X (sx X 282 3 1) (sy Y 282 2 1) r0) (ss0Y (sx X 282 3 1) (sy Y 282 2 1) r0) r1) (ss1Y (ss0X (sx X 282 3 1) (sy Y 282 2 1) r0) (ss0Y (sx X 282 3 1) (sy Y 282 2 1) r0) r1) r2) (ss2Y (ss1X (ss0X (sx X 282 3 1) (sy Y 282 2 1) r0) (ss0Y (sx X 282 3 1) (sy Y 282 2 1) r0) r1) (ss1Y (ss0X (sx X 282 3 1) (sy Y 282 2 1) r0) (ss0Y (sx X 282 3 1) (sy Y 282 2 1) r0) r1) r2) r3
set_option maxRecDepth 100000 in
set_option maxHeartbeats 4000000 in
theorem c_X4_solve_8 (l : Launch) (G : GG) (o : Nat) (X : SX) (Y : SY) (r0 : Int32) (r1 : Int32) (r2 : Int32) (r3 : Int32) (hr0 : X 8 0 = r0) (hr1 : X 8 1 = r1) (hr2 : X 8 2 = r2) (hr3 : X 8 3 = r3) : Ct l yX4_solve cX4_solve 4 none 2 53 G o [.ref (o + 282), .ref (o + 2), .ref (o + 8)] X Y none (solX X Y r0 r1 r2 r3) (solY X Y r0 r1 r2 r3) := by
  refine Ct.mk (by decide +kernel) (Nat.le_of_ble_eq_true rfl) rfl ?_
  intro p9 e9 s9 m9 args9 below9 meth9 c9 hE hr hlocks hK hI ls hl
  have hx := hE.1
  have hb := hE.2.1
  have hl : lv_has ls 4 [(0, .ref (o + 282)), (1, .ref (o + 2)), (2, .ref (o + 8))] := hl
  refine lv_aload_n hx hb dX4_solve_0 rfl (lv_at hl 0 rfl) ?_
  refine lv_lconst (v := 1) hx hb dX4_solve_1 (by decide) ?_
  refine x_putl (k := 282) hE hK hI (by decide) inG4 tyX4 tyX4_ok nmX4 (e_282 G o) rfl 2 (by decide) mw_157 rfl (by decide +kernel) (by exact Nat.le_of_ble_eq_true rfl) rfl dX4_solve_2 (fun H locs hI => ?_)
  refine lv_aload_n hx hb dX4_solve_5 rfl (lv_at hl 0 rfl) ?_
  refine lv_iconst (v := 1) hx hb dX4_solve_6 (by decide) ?_
  refine x_putz (k := 282) hE hK hI (by decide) inG4 tyX4 tyX4_ok nmX4 (e_282 G o) rfl 3 (by decide) mw_159 rfl (by decide +kernel) (by exact Nat.le_of_ble_eq_true rfl) (by decide) rfl dX4_solve_7 (fun H locs hI => ?_)
  refine lv_iconst (v := 0) hx hb dX4_solve_10 (by decide) ?_
  refine lv_istore_n (lv' := [(3, .int 0), (0, .ref (o + 282)), (1, .ref (o + 2)), (2, .ref (o + 8))]) hx hb dX4_solve_11 rfl hl (by decide) rfl (fun ls hl => ?_)
  refine lv_iload_n hx hb dX4_solve_12 rfl (lv_at hl 0 rfl) ?_
  refine lv_iconst (v := 4) hx hb dX4_solve_13 (by decide) ?_
  refine lv_icmp_ge (tgt := 32) hx hb dX4_solve_14 (by decide) (fun q => absurd q (by decide)) (fun _ => ?_)
  refine lv_aload_n hx hb dX4_solve_17 rfl (lv_at hl 1 rfl) ?_
  refine lv_aload_n hx hb dX4_solve_18 rfl (lv_at hl 2 rfl) ?_
  refine lv_iload_n hx hb dX4_solve_19 rfl (lv_at hl 0 rfl) ?_
  refine lv_aload_n hx hb dX4_solve_20 rfl (lv_at hl 3 rfl) ?_
  refine lv_iload_n hx hb dX4_solve_21 rfl (lv_at hl 0 rfl) ?_
  refine x_iald (k := 8) (j := 0) hE hK hI (by decide) (e_8 G o) (by decide) (by decide) rfl dX4_solve_22 ?_
  refine lv_topi (fun z1 ez1 => ?_)
  obtain rfl : r0 = z1 := (ez1.trans ((sx_o (by decide)).trans (hr0))).symm
  refine x_callVv (k := 282) hE hK hI (c_X4_solveSize_0 l G o _ _ r0 ) mf_X4_solveSize mw_235 (by decide) ((e_282 G o) _ _) rfl rfl hl.1 rfl (Nat.le_of_ble_eq_true rfl) ⟨(Nat.le_of_ble_eq_true rfl), (Nat.le_of_ble_eq_true rfl)⟩ ⟨Nat.zero_le _, Nat.zero_le _⟩ dX4_solve_23 (fun H locs hI => ?_)
  refine lv_iinc (v := 1) (lv' := [(3, .int 1), (0, .ref (o + 282)), (1, .ref (o + 2)), (2, .ref (o + 8))]) hx hb dX4_solve_26 hl (k := 0) rfl (by decide) (by decide) rfl (fun ls hl => ?_)
  refine lv_goto (tgt := 12) hx hb dX4_solve_29 (by decide) ?_
  refine lv_iload_n hx hb dX4_solve_12 rfl (lv_at hl 0 rfl) ?_
  refine lv_iconst (v := 4) hx hb dX4_solve_13 (by decide) ?_
  refine lv_icmp_ge (tgt := 32) hx hb dX4_solve_14 (by decide) (fun q => absurd q (by decide)) (fun _ => ?_)
  refine lv_aload_n hx hb dX4_solve_17 rfl (lv_at hl 1 rfl) ?_
  refine lv_aload_n hx hb dX4_solve_18 rfl (lv_at hl 2 rfl) ?_
  refine lv_iload_n hx hb dX4_solve_19 rfl (lv_at hl 0 rfl) ?_
  refine lv_aload_n hx hb dX4_solve_20 rfl (lv_at hl 3 rfl) ?_
  refine lv_iload_n hx hb dX4_solve_21 rfl (lv_at hl 0 rfl) ?_
  refine x_iald (k := 8) (j := 1) hE hK hI (by decide) (e_8 G o) (by decide) (by decide) rfl dX4_solve_22 ?_
  refine lv_topi (fun z2 ez2 => ?_)
  obtain rfl : r1 = z2 := (ez2.trans (((ss0X_o (by decide)).trans ((sx_o (by decide)).trans hr1)))).symm
  refine x_callVv (k := 282) hE hK hI (c_X4_solveSize_1 l G o _ _ r1 ) mf_X4_solveSize mw_235 (by decide) ((e_282 G o) _ _) rfl rfl hl.1 rfl (Nat.le_of_ble_eq_true rfl) ⟨(Nat.le_of_ble_eq_true rfl), (Nat.le_of_ble_eq_true rfl)⟩ ⟨Nat.zero_le _, Nat.zero_le _⟩ dX4_solve_23 (fun H locs hI => ?_)
  refine lv_iinc (v := 2) (lv' := [(3, .int 2), (0, .ref (o + 282)), (1, .ref (o + 2)), (2, .ref (o + 8))]) hx hb dX4_solve_26 hl (k := 0) rfl (by decide) (by decide) rfl (fun ls hl => ?_)
  refine lv_goto (tgt := 12) hx hb dX4_solve_29 (by decide) ?_
  refine lv_iload_n hx hb dX4_solve_12 rfl (lv_at hl 0 rfl) ?_
  refine lv_iconst (v := 4) hx hb dX4_solve_13 (by decide) ?_
  refine lv_icmp_ge (tgt := 32) hx hb dX4_solve_14 (by decide) (fun q => absurd q (by decide)) (fun _ => ?_)
  refine lv_aload_n hx hb dX4_solve_17 rfl (lv_at hl 1 rfl) ?_
  refine lv_aload_n hx hb dX4_solve_18 rfl (lv_at hl 2 rfl) ?_
  refine lv_iload_n hx hb dX4_solve_19 rfl (lv_at hl 0 rfl) ?_
  refine lv_aload_n hx hb dX4_solve_20 rfl (lv_at hl 3 rfl) ?_
  refine lv_iload_n hx hb dX4_solve_21 rfl (lv_at hl 0 rfl) ?_
  refine x_iald (k := 8) (j := 2) hE hK hI (by decide) (e_8 G o) (by decide) (by decide) rfl dX4_solve_22 ?_
  refine lv_topi (fun z3 ez3 => ?_)
  obtain rfl : r2 = z3 := (ez3.trans (((ss1X_o (by decide)).trans ((ss0X_o (by decide)).trans ((sx_o (by decide)).trans hr2))))).symm
  refine x_callVv (k := 282) hE hK hI (c_X4_solveSize_2 l G o _ _ r2 ) mf_X4_solveSize mw_235 (by decide) ((e_282 G o) _ _) rfl rfl hl.1 rfl (Nat.le_of_ble_eq_true rfl) ⟨(Nat.le_of_ble_eq_true rfl), (Nat.le_of_ble_eq_true rfl)⟩ ⟨Nat.zero_le _, Nat.zero_le _⟩ dX4_solve_23 (fun H locs hI => ?_)
  refine lv_iinc (v := 3) (lv' := [(3, .int 3), (0, .ref (o + 282)), (1, .ref (o + 2)), (2, .ref (o + 8))]) hx hb dX4_solve_26 hl (k := 0) rfl (by decide) (by decide) rfl (fun ls hl => ?_)
  refine lv_goto (tgt := 12) hx hb dX4_solve_29 (by decide) ?_
  refine lv_iload_n hx hb dX4_solve_12 rfl (lv_at hl 0 rfl) ?_
  refine lv_iconst (v := 4) hx hb dX4_solve_13 (by decide) ?_
  refine lv_icmp_ge (tgt := 32) hx hb dX4_solve_14 (by decide) (fun q => absurd q (by decide)) (fun _ => ?_)
  refine lv_aload_n hx hb dX4_solve_17 rfl (lv_at hl 1 rfl) ?_
  refine lv_aload_n hx hb dX4_solve_18 rfl (lv_at hl 2 rfl) ?_
  refine lv_iload_n hx hb dX4_solve_19 rfl (lv_at hl 0 rfl) ?_
  refine lv_aload_n hx hb dX4_solve_20 rfl (lv_at hl 3 rfl) ?_
  refine lv_iload_n hx hb dX4_solve_21 rfl (lv_at hl 0 rfl) ?_
  refine x_iald (k := 8) (j := 3) hE hK hI (by decide) (e_8 G o) (by decide) (by decide) rfl dX4_solve_22 ?_
  refine lv_topi (fun z4 ez4 => ?_)
  obtain rfl : r3 = z4 := (ez4.trans (((ss2X_o (by decide)).trans ((ss1X_o (by decide)).trans ((ss0X_o (by decide)).trans ((sx_o (by decide)).trans hr3)))))).symm
  refine x_callVv (k := 282) hE hK hI (c_X4_solveSize_3 l G o _ _ r3 ) mf_X4_solveSize mw_235 (by decide) ((e_282 G o) _ _) rfl rfl hl.1 rfl (Nat.le_of_ble_eq_true rfl) ⟨(Nat.le_of_ble_eq_true rfl), (Nat.le_of_ble_eq_true rfl)⟩ ⟨Nat.zero_le _, Nat.zero_le _⟩ dX4_solve_23 (fun H locs hI => ?_)
  refine lv_iinc (v := 4) (lv' := [(3, .int 4), (0, .ref (o + 282)), (1, .ref (o + 2)), (2, .ref (o + 8))]) hx hb dX4_solve_26 hl (k := 0) rfl (by decide) (by decide) rfl (fun ls hl => ?_)
  refine lv_goto (tgt := 12) hx hb dX4_solve_29 (by decide) ?_
  refine lv_iload_n hx hb dX4_solve_12 rfl (lv_at hl 0 rfl) ?_
  refine lv_iconst (v := 4) hx hb dX4_solve_13 (by decide) ?_
  refine lv_icmp_ge (tgt := 32) hx hb dX4_solve_14 (by decide) (fun _ => ?_) (fun q => absurd (by decide) q)
  exact x_vret hE hr hlocks hI rfl rfl rfl dX4_solve_32
set_option maxRecDepth 100000 in
set_option maxHeartbeats 4000000 in
theorem c_X4_solve_284 (l : Launch) (G : GG) (o : Nat) (X : SX) (Y : SY) (r0 : Int32) (r1 : Int32) (r2 : Int32) (r3 : Int32) (hr0 : X 284 0 = r0) (hr1 : X 284 1 = r1) (hr2 : X 284 2 = r2) (hr3 : X 284 3 = r3) : Ct l yX4_solve cX4_solve 4 none 2 53 G o [.ref (o + 282), .ref (o + 2), .ref (o + 284)] X Y none (solX X Y r0 r1 r2 r3) (solY X Y r0 r1 r2 r3) := by
  refine Ct.mk (by decide +kernel) (Nat.le_of_ble_eq_true rfl) rfl ?_
  intro p9 e9 s9 m9 args9 below9 meth9 c9 hE hr hlocks hK hI ls hl
  have hx := hE.1
  have hb := hE.2.1
  have hl : lv_has ls 4 [(0, .ref (o + 282)), (1, .ref (o + 2)), (2, .ref (o + 284))] := hl
  refine lv_aload_n hx hb dX4_solve_0 rfl (lv_at hl 0 rfl) ?_
  refine lv_lconst (v := 1) hx hb dX4_solve_1 (by decide) ?_
  refine x_putl (k := 282) hE hK hI (by decide) inG4 tyX4 tyX4_ok nmX4 (e_282 G o) rfl 2 (by decide) mw_157 rfl (by decide +kernel) (by exact Nat.le_of_ble_eq_true rfl) rfl dX4_solve_2 (fun H locs hI => ?_)
  refine lv_aload_n hx hb dX4_solve_5 rfl (lv_at hl 0 rfl) ?_
  refine lv_iconst (v := 1) hx hb dX4_solve_6 (by decide) ?_
  refine x_putz (k := 282) hE hK hI (by decide) inG4 tyX4 tyX4_ok nmX4 (e_282 G o) rfl 3 (by decide) mw_159 rfl (by decide +kernel) (by exact Nat.le_of_ble_eq_true rfl) (by decide) rfl dX4_solve_7 (fun H locs hI => ?_)
  refine lv_iconst (v := 0) hx hb dX4_solve_10 (by decide) ?_
  refine lv_istore_n (lv' := [(3, .int 0), (0, .ref (o + 282)), (1, .ref (o + 2)), (2, .ref (o + 284))]) hx hb dX4_solve_11 rfl hl (by decide) rfl (fun ls hl => ?_)
  refine lv_iload_n hx hb dX4_solve_12 rfl (lv_at hl 0 rfl) ?_
  refine lv_iconst (v := 4) hx hb dX4_solve_13 (by decide) ?_
  refine lv_icmp_ge (tgt := 32) hx hb dX4_solve_14 (by decide) (fun q => absurd q (by decide)) (fun _ => ?_)
  refine lv_aload_n hx hb dX4_solve_17 rfl (lv_at hl 1 rfl) ?_
  refine lv_aload_n hx hb dX4_solve_18 rfl (lv_at hl 2 rfl) ?_
  refine lv_iload_n hx hb dX4_solve_19 rfl (lv_at hl 0 rfl) ?_
  refine lv_aload_n hx hb dX4_solve_20 rfl (lv_at hl 3 rfl) ?_
  refine lv_iload_n hx hb dX4_solve_21 rfl (lv_at hl 0 rfl) ?_
  refine x_iald (k := 284) (j := 0) hE hK hI (by decide) (e_284 G o) (by decide) (by decide) rfl dX4_solve_22 ?_
  refine lv_topi (fun z1 ez1 => ?_)
  obtain rfl : r0 = z1 := (ez1.trans ((sx_o (by decide)).trans (hr0))).symm
  refine x_callVv (k := 282) hE hK hI (c_X4_solveSize_0 l G o _ _ r0 ) mf_X4_solveSize mw_235 (by decide) ((e_282 G o) _ _) rfl rfl hl.1 rfl (Nat.le_of_ble_eq_true rfl) ⟨(Nat.le_of_ble_eq_true rfl), (Nat.le_of_ble_eq_true rfl)⟩ ⟨Nat.zero_le _, Nat.zero_le _⟩ dX4_solve_23 (fun H locs hI => ?_)
  refine lv_iinc (v := 1) (lv' := [(3, .int 1), (0, .ref (o + 282)), (1, .ref (o + 2)), (2, .ref (o + 284))]) hx hb dX4_solve_26 hl (k := 0) rfl (by decide) (by decide) rfl (fun ls hl => ?_)
  refine lv_goto (tgt := 12) hx hb dX4_solve_29 (by decide) ?_
  refine lv_iload_n hx hb dX4_solve_12 rfl (lv_at hl 0 rfl) ?_
  refine lv_iconst (v := 4) hx hb dX4_solve_13 (by decide) ?_
  refine lv_icmp_ge (tgt := 32) hx hb dX4_solve_14 (by decide) (fun q => absurd q (by decide)) (fun _ => ?_)
  refine lv_aload_n hx hb dX4_solve_17 rfl (lv_at hl 1 rfl) ?_
  refine lv_aload_n hx hb dX4_solve_18 rfl (lv_at hl 2 rfl) ?_
  refine lv_iload_n hx hb dX4_solve_19 rfl (lv_at hl 0 rfl) ?_
  refine lv_aload_n hx hb dX4_solve_20 rfl (lv_at hl 3 rfl) ?_
  refine lv_iload_n hx hb dX4_solve_21 rfl (lv_at hl 0 rfl) ?_
  refine x_iald (k := 284) (j := 1) hE hK hI (by decide) (e_284 G o) (by decide) (by decide) rfl dX4_solve_22 ?_
  refine lv_topi (fun z2 ez2 => ?_)
  obtain rfl : r1 = z2 := (ez2.trans (((ss0X_o (by decide)).trans ((sx_o (by decide)).trans hr1)))).symm
  refine x_callVv (k := 282) hE hK hI (c_X4_solveSize_1 l G o _ _ r1 ) mf_X4_solveSize mw_235 (by decide) ((e_282 G o) _ _) rfl rfl hl.1 rfl (Nat.le_of_ble_eq_true rfl) ⟨(Nat.le_of_ble_eq_true rfl), (Nat.le_of_ble_eq_true rfl)⟩ ⟨Nat.zero_le _, Nat.zero_le _⟩ dX4_solve_23 (fun H locs hI => ?_)
  refine lv_iinc (v := 2) (lv' := [(3, .int 2), (0, .ref (o + 282)), (1, .ref (o + 2)), (2, .ref (o + 284))]) hx hb dX4_solve_26 hl (k := 0) rfl (by decide) (by decide) rfl (fun ls hl => ?_)
  refine lv_goto (tgt := 12) hx hb dX4_solve_29 (by decide) ?_
  refine lv_iload_n hx hb dX4_solve_12 rfl (lv_at hl 0 rfl) ?_
  refine lv_iconst (v := 4) hx hb dX4_solve_13 (by decide) ?_
  refine lv_icmp_ge (tgt := 32) hx hb dX4_solve_14 (by decide) (fun q => absurd q (by decide)) (fun _ => ?_)
  refine lv_aload_n hx hb dX4_solve_17 rfl (lv_at hl 1 rfl) ?_
  refine lv_aload_n hx hb dX4_solve_18 rfl (lv_at hl 2 rfl) ?_
  refine lv_iload_n hx hb dX4_solve_19 rfl (lv_at hl 0 rfl) ?_
  refine lv_aload_n hx hb dX4_solve_20 rfl (lv_at hl 3 rfl) ?_
  refine lv_iload_n hx hb dX4_solve_21 rfl (lv_at hl 0 rfl) ?_
  refine x_iald (k := 284) (j := 2) hE hK hI (by decide) (e_284 G o) (by decide) (by decide) rfl dX4_solve_22 ?_
  refine lv_topi (fun z3 ez3 => ?_)
  obtain rfl : r2 = z3 := (ez3.trans (((ss1X_o (by decide)).trans ((ss0X_o (by decide)).trans ((sx_o (by decide)).trans hr2))))).symm
  refine x_callVv (k := 282) hE hK hI (c_X4_solveSize_2 l G o _ _ r2 ) mf_X4_solveSize mw_235 (by decide) ((e_282 G o) _ _) rfl rfl hl.1 rfl (Nat.le_of_ble_eq_true rfl) ⟨(Nat.le_of_ble_eq_true rfl), (Nat.le_of_ble_eq_true rfl)⟩ ⟨Nat.zero_le _, Nat.zero_le _⟩ dX4_solve_23 (fun H locs hI => ?_)
  refine lv_iinc (v := 3) (lv' := [(3, .int 3), (0, .ref (o + 282)), (1, .ref (o + 2)), (2, .ref (o + 284))]) hx hb dX4_solve_26 hl (k := 0) rfl (by decide) (by decide) rfl (fun ls hl => ?_)
  refine lv_goto (tgt := 12) hx hb dX4_solve_29 (by decide) ?_
  refine lv_iload_n hx hb dX4_solve_12 rfl (lv_at hl 0 rfl) ?_
  refine lv_iconst (v := 4) hx hb dX4_solve_13 (by decide) ?_
  refine lv_icmp_ge (tgt := 32) hx hb dX4_solve_14 (by decide) (fun q => absurd q (by decide)) (fun _ => ?_)
  refine lv_aload_n hx hb dX4_solve_17 rfl (lv_at hl 1 rfl) ?_
  refine lv_aload_n hx hb dX4_solve_18 rfl (lv_at hl 2 rfl) ?_
  refine lv_iload_n hx hb dX4_solve_19 rfl (lv_at hl 0 rfl) ?_
  refine lv_aload_n hx hb dX4_solve_20 rfl (lv_at hl 3 rfl) ?_
  refine lv_iload_n hx hb dX4_solve_21 rfl (lv_at hl 0 rfl) ?_
  refine x_iald (k := 284) (j := 3) hE hK hI (by decide) (e_284 G o) (by decide) (by decide) rfl dX4_solve_22 ?_
  refine lv_topi (fun z4 ez4 => ?_)
  obtain rfl : r3 = z4 := (ez4.trans (((ss2X_o (by decide)).trans ((ss1X_o (by decide)).trans ((ss0X_o (by decide)).trans ((sx_o (by decide)).trans hr3)))))).symm
  refine x_callVv (k := 282) hE hK hI (c_X4_solveSize_3 l G o _ _ r3 ) mf_X4_solveSize mw_235 (by decide) ((e_282 G o) _ _) rfl rfl hl.1 rfl (Nat.le_of_ble_eq_true rfl) ⟨(Nat.le_of_ble_eq_true rfl), (Nat.le_of_ble_eq_true rfl)⟩ ⟨Nat.zero_le _, Nat.zero_le _⟩ dX4_solve_23 (fun H locs hI => ?_)
  refine lv_iinc (v := 4) (lv' := [(3, .int 4), (0, .ref (o + 282)), (1, .ref (o + 2)), (2, .ref (o + 284))]) hx hb dX4_solve_26 hl (k := 0) rfl (by decide) (by decide) rfl (fun ls hl => ?_)
  refine lv_goto (tgt := 12) hx hb dX4_solve_29 (by decide) ?_
  refine lv_iload_n hx hb dX4_solve_12 rfl (lv_at hl 0 rfl) ?_
  refine lv_iconst (v := 4) hx hb dX4_solve_13 (by decide) ?_
  refine lv_icmp_ge (tgt := 32) hx hb dX4_solve_14 (by decide) (fun _ => ?_) (fun q => absurd (by decide) q)
  exact x_vret hE hr hlocks hI rfl rfl rfl dX4_solve_32
def cu0X (X : SX) (Y : SY) : SX := solX (sx (sx (sx (sx X 284 0 0) 284 1 0) 284 2 0) 284 3 0) Y 0 0 0 0
def cu0Y (X : SX) (Y : SY) : SY := solY (sx (sx (sx (sx X 284 0 0) 284 1 0) 284 2 0) 284 3 0) Y 0 0 0 0
set_option maxRecDepth 100000 in
set_option maxHeartbeats 4000000 in
theorem c_X4_solveCut_0 (l : Launch) (G : GG) (o : Nat) (X : SX) (Y : SY) : Ct l yX4_solveCut cX4_solveCut 4 none 3 76 G o [.ref (o + 282), .ref (o + 2), .int 0] X Y none (cu0X X Y) (cu0Y X Y) := by
  refine Ct.mk (by decide +kernel) (Nat.le_of_ble_eq_true rfl) rfl ?_
  intro p9 e9 s9 m9 args9 below9 meth9 c9 hE hr hlocks hK hI ls hl
  have hx := hE.1
  have hb := hE.2.1
  have hl : lv_has ls 4 [(0, .ref (o + 282)), (1, .ref (o + 2)), (2, .int 0)] := hl
  refine lv_iconst (v := 0) hx hb dX4_solveCut_0 (by decide) ?_
  refine lv_istore_n (lv' := [(3, .int 0), (0, .ref (o + 282)), (1, .ref (o + 2)), (2, .int 0)]) hx hb dX4_solveCut_1 rfl hl (by decide) rfl (fun ls hl => ?_)
  refine lv_iload_n hx hb dX4_solveCut_2 rfl (lv_at hl 0 rfl) ?_
  refine lv_iconst (v := 4) hx hb dX4_solveCut_3 (by decide) ?_
  refine lv_icmp_ge (tgt := 30) hx hb dX4_solveCut_4 (by decide) (fun q => absurd q (by decide)) (fun _ => ?_)
  refine lv_aload_n hx hb dX4_solveCut_7 rfl (lv_at hl 1 rfl) ?_
  refine x_get (k := 282) hE hK hI (by decide) inG4 (e_282 G o _ _) rfl 1 (by decide) mw_156 rfl dX4_solveCut_8 ?_
  refine lv_iload_n hx hb dX4_solveCut_11 rfl (lv_at hl 0 rfl) ?_
  refine lv_iload_n hx hb dX4_solveCut_12 rfl (lv_at hl 0 rfl) ?_
  refine lv_iload_n hx hb dX4_solveCut_13 rfl (lv_at hl 3 rfl) ?_
  refine lv_icmp_ge (tgt := 22) hx hb dX4_solveCut_14 (by decide) (fun _ => ?_) (fun q => absurd (by decide) q)
  refine lv_iconst (v := 0) hx hb dX4_solveCut_22 (by decide) ?_
  refine x_iast (k := 284) (j := 0) hE hK hI (by decide) (e_284 G o) (by decide) (by decide) rfl dX4_solveCut_23 (fun H locs hI => ?_)
  refine lv_iinc (v := 1) (lv' := [(3, .int 1), (0, .ref (o + 282)), (1, .ref (o + 2)), (2, .int 0)]) hx hb dX4_solveCut_24 hl (k := 0) rfl (by decide) (by decide) rfl (fun ls hl => ?_)
  refine lv_goto (tgt := 2) hx hb dX4_solveCut_27 (by decide) ?_
  refine lv_iload_n hx hb dX4_solveCut_2 rfl (lv_at hl 0 rfl) ?_
  refine lv_iconst (v := 4) hx hb dX4_solveCut_3 (by decide) ?_
  refine lv_icmp_ge (tgt := 30) hx hb dX4_solveCut_4 (by decide) (fun q => absurd q (by decide)) (fun _ => ?_)
  refine lv_aload_n hx hb dX4_solveCut_7 rfl (lv_at hl 1 rfl) ?_
  refine x_get (k := 282) hE hK hI (by decide) inG4 (e_282 G o _ _) rfl 1 (by decide) mw_156 rfl dX4_solveCut_8 ?_
  refine lv_iload_n hx hb dX4_solveCut_11 rfl (lv_at hl 0 rfl) ?_
  refine lv_iload_n hx hb dX4_solveCut_12 rfl (lv_at hl 0 rfl) ?_
  refine lv_iload_n hx hb dX4_solveCut_13 rfl (lv_at hl 3 rfl) ?_
  refine lv_icmp_ge (tgt := 22) hx hb dX4_solveCut_14 (by decide) (fun _ => ?_) (fun q => absurd (by decide) q)
  refine lv_iconst (v := 0) hx hb dX4_solveCut_22 (by decide) ?_
  refine x_iast (k := 284) (j := 1) hE hK hI (by decide) (e_284 G o) (by decide) (by decide) rfl dX4_solveCut_23 (fun H locs hI => ?_)
  refine lv_iinc (v := 2) (lv' := [(3, .int 2), (0, .ref (o + 282)), (1, .ref (o + 2)), (2, .int 0)]) hx hb dX4_solveCut_24 hl (k := 0) rfl (by decide) (by decide) rfl (fun ls hl => ?_)
  refine lv_goto (tgt := 2) hx hb dX4_solveCut_27 (by decide) ?_
  refine lv_iload_n hx hb dX4_solveCut_2 rfl (lv_at hl 0 rfl) ?_
  refine lv_iconst (v := 4) hx hb dX4_solveCut_3 (by decide) ?_
  refine lv_icmp_ge (tgt := 30) hx hb dX4_solveCut_4 (by decide) (fun q => absurd q (by decide)) (fun _ => ?_)
  refine lv_aload_n hx hb dX4_solveCut_7 rfl (lv_at hl 1 rfl) ?_
  refine x_get (k := 282) hE hK hI (by decide) inG4 (e_282 G o _ _) rfl 1 (by decide) mw_156 rfl dX4_solveCut_8 ?_
  refine lv_iload_n hx hb dX4_solveCut_11 rfl (lv_at hl 0 rfl) ?_
  refine lv_iload_n hx hb dX4_solveCut_12 rfl (lv_at hl 0 rfl) ?_
  refine lv_iload_n hx hb dX4_solveCut_13 rfl (lv_at hl 3 rfl) ?_
  refine lv_icmp_ge (tgt := 22) hx hb dX4_solveCut_14 (by decide) (fun _ => ?_) (fun q => absurd (by decide) q)
  refine lv_iconst (v := 0) hx hb dX4_solveCut_22 (by decide) ?_
  refine x_iast (k := 284) (j := 2) hE hK hI (by decide) (e_284 G o) (by decide) (by decide) rfl dX4_solveCut_23 (fun H locs hI => ?_)
  refine lv_iinc (v := 3) (lv' := [(3, .int 3), (0, .ref (o + 282)), (1, .ref (o + 2)), (2, .int 0)]) hx hb dX4_solveCut_24 hl (k := 0) rfl (by decide) (by decide) rfl (fun ls hl => ?_)
  refine lv_goto (tgt := 2) hx hb dX4_solveCut_27 (by decide) ?_
  refine lv_iload_n hx hb dX4_solveCut_2 rfl (lv_at hl 0 rfl) ?_
  refine lv_iconst (v := 4) hx hb dX4_solveCut_3 (by decide) ?_
  refine lv_icmp_ge (tgt := 30) hx hb dX4_solveCut_4 (by decide) (fun q => absurd q (by decide)) (fun _ => ?_)
  refine lv_aload_n hx hb dX4_solveCut_7 rfl (lv_at hl 1 rfl) ?_
  refine x_get (k := 282) hE hK hI (by decide) inG4 (e_282 G o _ _) rfl 1 (by decide) mw_156 rfl dX4_solveCut_8 ?_
  refine lv_iload_n hx hb dX4_solveCut_11 rfl (lv_at hl 0 rfl) ?_
  refine lv_iload_n hx hb dX4_solveCut_12 rfl (lv_at hl 0 rfl) ?_
  refine lv_iload_n hx hb dX4_solveCut_13 rfl (lv_at hl 3 rfl) ?_
  refine lv_icmp_ge (tgt := 22) hx hb dX4_solveCut_14 (by decide) (fun _ => ?_) (fun q => absurd (by decide) q)
  refine lv_iconst (v := 0) hx hb dX4_solveCut_22 (by decide) ?_
  refine x_iast (k := 284) (j := 3) hE hK hI (by decide) (e_284 G o) (by decide) (by decide) rfl dX4_solveCut_23 (fun H locs hI => ?_)
  refine lv_iinc (v := 4) (lv' := [(3, .int 4), (0, .ref (o + 282)), (1, .ref (o + 2)), (2, .int 0)]) hx hb dX4_solveCut_24 hl (k := 0) rfl (by decide) (by decide) rfl (fun ls hl => ?_)
  refine lv_goto (tgt := 2) hx hb dX4_solveCut_27 (by decide) ?_
  refine lv_iload_n hx hb dX4_solveCut_2 rfl (lv_at hl 0 rfl) ?_
  refine lv_iconst (v := 4) hx hb dX4_solveCut_3 (by decide) ?_
  refine lv_icmp_ge (tgt := 30) hx hb dX4_solveCut_4 (by decide) (fun _ => ?_) (fun q => absurd (by decide) q)
  refine lv_aload_n hx hb dX4_solveCut_30 rfl (lv_at hl 1 rfl) ?_
  refine lv_aload_n hx hb dX4_solveCut_31 rfl (lv_at hl 2 rfl) ?_
  refine lv_aload_n hx hb dX4_solveCut_32 rfl (lv_at hl 1 rfl) ?_
  refine x_get (k := 282) hE hK hI (by decide) inG4 (e_282 G o _ _) rfl 1 (by decide) mw_156 rfl dX4_solveCut_33 ?_
  refine x_callVv (k := 282) hE hK hI (c_X4_solve_284 l G o _ _ 0 0 0 0 ((sx_o (by decide)).trans ((sx_o (by decide)).trans ((sx_o (by decide)).trans (sx_e)))) ((sx_o (by decide)).trans ((sx_o (by decide)).trans (sx_e))) ((sx_o (by decide)).trans (sx_e)) sx_e) mf_X4_solve mw_287 (by decide) ((e_282 G o) _ _) rfl rfl hl.1 rfl (Nat.le_of_ble_eq_true rfl) ⟨(Nat.le_of_ble_eq_true rfl), (Nat.le_of_ble_eq_true rfl)⟩ ⟨Nat.zero_le _, Nat.zero_le _⟩ dX4_solveCut_36 (fun H locs hI => ?_)
  exact x_vret hE hr hlocks hI rfl rfl rfl dX4_solveCut_39
def cu1X (X : SX) (Y : SY) : SX := solX (sx (sx (sx (sx X 284 0 10) 284 1 0) 284 2 0) 284 3 0) Y 10 0 0 0
def cu1Y (X : SX) (Y : SY) : SY := solY (sx (sx (sx (sx X 284 0 10) 284 1 0) 284 2 0) 284 3 0) Y 10 0 0 0
set_option maxRecDepth 100000 in
set_option maxHeartbeats 4000000 in
theorem c_X4_solveCut_1 (l : Launch) (G : GG) (o : Nat) (X : SX) (Y : SY) : Ct l yX4_solveCut cX4_solveCut 4 none 3 76 G o [.ref (o + 282), .ref (o + 2), .int 1] X Y none (cu1X X Y) (cu1Y X Y) := by
  refine Ct.mk (by decide +kernel) (Nat.le_of_ble_eq_true rfl) rfl ?_
  intro p9 e9 s9 m9 args9 below9 meth9 c9 hE hr hlocks hK hI ls hl
  have hx := hE.1
  have hb := hE.2.1
  have hl : lv_has ls 4 [(0, .ref (o + 282)), (1, .ref (o + 2)), (2, .int 1)] := hl
  refine lv_iconst (v := 0) hx hb dX4_solveCut_0 (by decide) ?_
  refine lv_istore_n (lv' := [(3, .int 0), (0, .ref (o + 282)), (1, .ref (o + 2)), (2, .int 1)]) hx hb dX4_solveCut_1 rfl hl (by decide) rfl (fun ls hl => ?_)
  refine lv_iload_n hx hb dX4_solveCut_2 rfl (lv_at hl 0 rfl) ?_
  refine lv_iconst (v := 4) hx hb dX4_solveCut_3 (by decide) ?_
  refine lv_icmp_ge (tgt := 30) hx hb dX4_solveCut_4 (by decide) (fun q => absurd q (by decide)) (fun _ => ?_)
  refine lv_aload_n hx hb dX4_solveCut_7 rfl (lv_at hl 1 rfl) ?_
  refine x_get (k := 282) hE hK hI (by decide) inG4 (e_282 G o _ _) rfl 1 (by decide) mw_156 rfl dX4_solveCut_8 ?_
  refine lv_iload_n hx hb dX4_solveCut_11 rfl (lv_at hl 0 rfl) ?_
  refine lv_iload_n hx hb dX4_solveCut_12 rfl (lv_at hl 0 rfl) ?_
  refine lv_iload_n hx hb dX4_solveCut_13 rfl (lv_at hl 3 rfl) ?_
  refine lv_icmp_ge (tgt := 22) hx hb dX4_solveCut_14 (by decide) (fun q => absurd q (by decide)) (fun _ => ?_)
  refine lv_bipush (v := 10) hx hb dX4_solveCut_17 (by decide) ?_
  refine lv_goto (tgt := 23) hx hb dX4_solveCut_19 (by decide) ?_
  refine x_iast (k := 284) (j := 0) hE hK hI (by decide) (e_284 G o) (by decide) (by decide) rfl dX4_solveCut_23 (fun H locs hI => ?_)
  refine lv_iinc (v := 1) (lv' := [(3, .int 1), (0, .ref (o + 282)), (1, .ref (o + 2)), (2, .int 1)]) hx hb dX4_solveCut_24 hl (k := 0) rfl (by decide) (by decide) rfl (fun ls hl => ?_)
  refine lv_goto (tgt := 2) hx hb dX4_solveCut_27 (by decide) ?_
  refine lv_iload_n hx hb dX4_solveCut_2 rfl (lv_at hl 0 rfl) ?_
  refine lv_iconst (v := 4) hx hb dX4_solveCut_3 (by decide) ?_
  refine lv_icmp_ge (tgt := 30) hx hb dX4_solveCut_4 (by decide) (fun q => absurd q (by decide)) (fun _ => ?_)
  refine lv_aload_n hx hb dX4_solveCut_7 rfl (lv_at hl 1 rfl) ?_
  refine x_get (k := 282) hE hK hI (by decide) inG4 (e_282 G o _ _) rfl 1 (by decide) mw_156 rfl dX4_solveCut_8 ?_
  refine lv_iload_n hx hb dX4_solveCut_11 rfl (lv_at hl 0 rfl) ?_
  refine lv_iload_n hx hb dX4_solveCut_12 rfl (lv_at hl 0 rfl) ?_
  refine lv_iload_n hx hb dX4_solveCut_13 rfl (lv_at hl 3 rfl) ?_
  refine lv_icmp_ge (tgt := 22) hx hb dX4_solveCut_14 (by decide) (fun _ => ?_) (fun q => absurd (by decide) q)
  refine lv_iconst (v := 0) hx hb dX4_solveCut_22 (by decide) ?_
  refine x_iast (k := 284) (j := 1) hE hK hI (by decide) (e_284 G o) (by decide) (by decide) rfl dX4_solveCut_23 (fun H locs hI => ?_)
  refine lv_iinc (v := 2) (lv' := [(3, .int 2), (0, .ref (o + 282)), (1, .ref (o + 2)), (2, .int 1)]) hx hb dX4_solveCut_24 hl (k := 0) rfl (by decide) (by decide) rfl (fun ls hl => ?_)
  refine lv_goto (tgt := 2) hx hb dX4_solveCut_27 (by decide) ?_
  refine lv_iload_n hx hb dX4_solveCut_2 rfl (lv_at hl 0 rfl) ?_
  refine lv_iconst (v := 4) hx hb dX4_solveCut_3 (by decide) ?_
  refine lv_icmp_ge (tgt := 30) hx hb dX4_solveCut_4 (by decide) (fun q => absurd q (by decide)) (fun _ => ?_)
  refine lv_aload_n hx hb dX4_solveCut_7 rfl (lv_at hl 1 rfl) ?_
  refine x_get (k := 282) hE hK hI (by decide) inG4 (e_282 G o _ _) rfl 1 (by decide) mw_156 rfl dX4_solveCut_8 ?_
  refine lv_iload_n hx hb dX4_solveCut_11 rfl (lv_at hl 0 rfl) ?_
  refine lv_iload_n hx hb dX4_solveCut_12 rfl (lv_at hl 0 rfl) ?_
  refine lv_iload_n hx hb dX4_solveCut_13 rfl (lv_at hl 3 rfl) ?_
  refine lv_icmp_ge (tgt := 22) hx hb dX4_solveCut_14 (by decide) (fun _ => ?_) (fun q => absurd (by decide) q)
  refine lv_iconst (v := 0) hx hb dX4_solveCut_22 (by decide) ?_
  refine x_iast (k := 284) (j := 2) hE hK hI (by decide) (e_284 G o) (by decide) (by decide) rfl dX4_solveCut_23 (fun H locs hI => ?_)
  refine lv_iinc (v := 3) (lv' := [(3, .int 3), (0, .ref (o + 282)), (1, .ref (o + 2)), (2, .int 1)]) hx hb dX4_solveCut_24 hl (k := 0) rfl (by decide) (by decide) rfl (fun ls hl => ?_)
  refine lv_goto (tgt := 2) hx hb dX4_solveCut_27 (by decide) ?_
  refine lv_iload_n hx hb dX4_solveCut_2 rfl (lv_at hl 0 rfl) ?_
  refine lv_iconst (v := 4) hx hb dX4_solveCut_3 (by decide) ?_
  refine lv_icmp_ge (tgt := 30) hx hb dX4_solveCut_4 (by decide) (fun q => absurd q (by decide)) (fun _ => ?_)
  refine lv_aload_n hx hb dX4_solveCut_7 rfl (lv_at hl 1 rfl) ?_
  refine x_get (k := 282) hE hK hI (by decide) inG4 (e_282 G o _ _) rfl 1 (by decide) mw_156 rfl dX4_solveCut_8 ?_
  refine lv_iload_n hx hb dX4_solveCut_11 rfl (lv_at hl 0 rfl) ?_
  refine lv_iload_n hx hb dX4_solveCut_12 rfl (lv_at hl 0 rfl) ?_
  refine lv_iload_n hx hb dX4_solveCut_13 rfl (lv_at hl 3 rfl) ?_
  refine lv_icmp_ge (tgt := 22) hx hb dX4_solveCut_14 (by decide) (fun _ => ?_) (fun q => absurd (by decide) q)
  refine lv_iconst (v := 0) hx hb dX4_solveCut_22 (by decide) ?_
  refine x_iast (k := 284) (j := 3) hE hK hI (by decide) (e_284 G o) (by decide) (by decide) rfl dX4_solveCut_23 (fun H locs hI => ?_)
  refine lv_iinc (v := 4) (lv' := [(3, .int 4), (0, .ref (o + 282)), (1, .ref (o + 2)), (2, .int 1)]) hx hb dX4_solveCut_24 hl (k := 0) rfl (by decide) (by decide) rfl (fun ls hl => ?_)
  refine lv_goto (tgt := 2) hx hb dX4_solveCut_27 (by decide) ?_
  refine lv_iload_n hx hb dX4_solveCut_2 rfl (lv_at hl 0 rfl) ?_
  refine lv_iconst (v := 4) hx hb dX4_solveCut_3 (by decide) ?_
  refine lv_icmp_ge (tgt := 30) hx hb dX4_solveCut_4 (by decide) (fun _ => ?_) (fun q => absurd (by decide) q)
  refine lv_aload_n hx hb dX4_solveCut_30 rfl (lv_at hl 1 rfl) ?_
  refine lv_aload_n hx hb dX4_solveCut_31 rfl (lv_at hl 2 rfl) ?_
  refine lv_aload_n hx hb dX4_solveCut_32 rfl (lv_at hl 1 rfl) ?_
  refine x_get (k := 282) hE hK hI (by decide) inG4 (e_282 G o _ _) rfl 1 (by decide) mw_156 rfl dX4_solveCut_33 ?_
  refine x_callVv (k := 282) hE hK hI (c_X4_solve_284 l G o _ _ 10 0 0 0 ((sx_o (by decide)).trans ((sx_o (by decide)).trans ((sx_o (by decide)).trans (sx_e)))) ((sx_o (by decide)).trans ((sx_o (by decide)).trans (sx_e))) ((sx_o (by decide)).trans (sx_e)) sx_e) mf_X4_solve mw_287 (by decide) ((e_282 G o) _ _) rfl rfl hl.1 rfl (Nat.le_of_ble_eq_true rfl) ⟨(Nat.le_of_ble_eq_true rfl), (Nat.le_of_ble_eq_true rfl)⟩ ⟨Nat.zero_le _, Nat.zero_le _⟩ dX4_solveCut_36 (fun H locs hI => ?_)
  exact x_vret hE hr hlocks hI rfl rfl rfl dX4_solveCut_39
def cu2X (X : SX) (Y : SY) : SX := solX (sx (sx (sx (sx X 284 0 10) 284 1 10) 284 2 0) 284 3 0) Y 10 10 0 0
def cu2Y (X : SX) (Y : SY) : SY := solY (sx (sx (sx (sx X 284 0 10) 284 1 10) 284 2 0) 284 3 0) Y 10 10 0 0
set_option maxRecDepth 100000 in
set_option maxHeartbeats 4000000 in
theorem c_X4_solveCut_2 (l : Launch) (G : GG) (o : Nat) (X : SX) (Y : SY) : Ct l yX4_solveCut cX4_solveCut 4 none 3 76 G o [.ref (o + 282), .ref (o + 2), .int 2] X Y none (cu2X X Y) (cu2Y X Y) := by
  refine Ct.mk (by decide +kernel) (Nat.le_of_ble_eq_true rfl) rfl ?_
  intro p9 e9 s9 m9 args9 below9 meth9 c9 hE hr hlocks hK hI ls hl
  have hx := hE.1
  have hb := hE.2.1
  have hl : lv_has ls 4 [(0, .ref (o + 282)), (1, .ref (o + 2)), (2, .int 2)] := hl
  refine lv_iconst (v := 0) hx hb dX4_solveCut_0 (by decide) ?_
  refine lv_istore_n (lv' := [(3, .int 0), (0, .ref (o + 282)), (1, .ref (o + 2)), (2, .int 2)]) hx hb dX4_solveCut_1 rfl hl (by decide) rfl (fun ls hl => ?_)
  refine lv_iload_n hx hb dX4_solveCut_2 rfl (lv_at hl 0 rfl) ?_
  refine lv_iconst (v := 4) hx hb dX4_solveCut_3 (by decide) ?_
  refine lv_icmp_ge (tgt := 30) hx hb dX4_solveCut_4 (by decide) (fun q => absurd q (by decide)) (fun _ => ?_)
  refine lv_aload_n hx hb dX4_solveCut_7 rfl (lv_at hl 1 rfl) ?_
  refine x_get (k := 282) hE hK hI (by decide) inG4 (e_282 G o _ _) rfl 1 (by decide) mw_156 rfl dX4_solveCut_8 ?_
  refine lv_iload_n hx hb dX4_solveCut_11 rfl (lv_at hl 0 rfl) ?_
  refine lv_iload_n hx hb dX4_solveCut_12 rfl (lv_at hl 0 rfl) ?_
  refine lv_iload_n hx hb dX4_solveCut_13 rfl (lv_at hl 3 rfl) ?_
  refine lv_icmp_ge (tgt := 22) hx hb dX4_solveCut_14 (by decide) (fun q => absurd q (by decide)) (fun _ => ?_)
  refine lv_bipush (v := 10) hx hb dX4_solveCut_17 (by decide) ?_
  refine lv_goto (tgt := 23) hx hb dX4_solveCut_19 (by decide) ?_
  refine x_iast (k := 284) (j := 0) hE hK hI (by decide) (e_284 G o) (by decide) (by decide) rfl dX4_solveCut_23 (fun H locs hI => ?_)
  refine lv_iinc (v := 1) (lv' := [(3, .int 1), (0, .ref (o + 282)), (1, .ref (o + 2)), (2, .int 2)]) hx hb dX4_solveCut_24 hl (k := 0) rfl (by decide) (by decide) rfl (fun ls hl => ?_)
  refine lv_goto (tgt := 2) hx hb dX4_solveCut_27 (by decide) ?_
  refine lv_iload_n hx hb dX4_solveCut_2 rfl (lv_at hl 0 rfl) ?_
  refine lv_iconst (v := 4) hx hb dX4_solveCut_3 (by decide) ?_
  refine lv_icmp_ge (tgt := 30) hx hb dX4_solveCut_4 (by decide) (fun q => absurd q (by decide)) (fun _ => ?_)
  refine lv_aload_n hx hb dX4_solveCut_7 rfl (lv_at hl 1 rfl) ?_
  refine x_get (k := 282) hE hK hI (by decide) inG4 (e_282 G o _ _) rfl 1 (by decide) mw_156 rfl dX4_solveCut_8 ?_
  refine lv_iload_n hx hb dX4_solveCut_11 rfl (lv_at hl 0 rfl) ?_
  refine lv_iload_n hx hb dX4_solveCut_12 rfl (lv_at hl 0 rfl) ?_
  refine lv_iload_n hx hb dX4_solveCut_13 rfl (lv_at hl 3 rfl) ?_
  refine lv_icmp_ge (tgt := 22) hx hb dX4_solveCut_14 (by decide) (fun q => absurd q (by decide)) (fun _ => ?_)
  refine lv_bipush (v := 10) hx hb dX4_solveCut_17 (by decide) ?_
  refine lv_goto (tgt := 23) hx hb dX4_solveCut_19 (by decide) ?_
  refine x_iast (k := 284) (j := 1) hE hK hI (by decide) (e_284 G o) (by decide) (by decide) rfl dX4_solveCut_23 (fun H locs hI => ?_)
  refine lv_iinc (v := 2) (lv' := [(3, .int 2), (0, .ref (o + 282)), (1, .ref (o + 2)), (2, .int 2)]) hx hb dX4_solveCut_24 hl (k := 0) rfl (by decide) (by decide) rfl (fun ls hl => ?_)
  refine lv_goto (tgt := 2) hx hb dX4_solveCut_27 (by decide) ?_
  refine lv_iload_n hx hb dX4_solveCut_2 rfl (lv_at hl 0 rfl) ?_
  refine lv_iconst (v := 4) hx hb dX4_solveCut_3 (by decide) ?_
  refine lv_icmp_ge (tgt := 30) hx hb dX4_solveCut_4 (by decide) (fun q => absurd q (by decide)) (fun _ => ?_)
  refine lv_aload_n hx hb dX4_solveCut_7 rfl (lv_at hl 1 rfl) ?_
  refine x_get (k := 282) hE hK hI (by decide) inG4 (e_282 G o _ _) rfl 1 (by decide) mw_156 rfl dX4_solveCut_8 ?_
  refine lv_iload_n hx hb dX4_solveCut_11 rfl (lv_at hl 0 rfl) ?_
  refine lv_iload_n hx hb dX4_solveCut_12 rfl (lv_at hl 0 rfl) ?_
  refine lv_iload_n hx hb dX4_solveCut_13 rfl (lv_at hl 3 rfl) ?_
  refine lv_icmp_ge (tgt := 22) hx hb dX4_solveCut_14 (by decide) (fun _ => ?_) (fun q => absurd (by decide) q)
  refine lv_iconst (v := 0) hx hb dX4_solveCut_22 (by decide) ?_
  refine x_iast (k := 284) (j := 2) hE hK hI (by decide) (e_284 G o) (by decide) (by decide) rfl dX4_solveCut_23 (fun H locs hI => ?_)
  refine lv_iinc (v := 3) (lv' := [(3, .int 3), (0, .ref (o + 282)), (1, .ref (o + 2)), (2, .int 2)]) hx hb dX4_solveCut_24 hl (k := 0) rfl (by decide) (by decide) rfl (fun ls hl => ?_)
  refine lv_goto (tgt := 2) hx hb dX4_solveCut_27 (by decide) ?_
  refine lv_iload_n hx hb dX4_solveCut_2 rfl (lv_at hl 0 rfl) ?_
  refine lv_iconst (v := 4) hx hb dX4_solveCut_3 (by decide) ?_
  refine lv_icmp_ge (tgt := 30) hx hb dX4_solveCut_4 (by decide) (fun q => absurd q (by decide)) (fun _ => ?_)
  refine lv_aload_n hx hb dX4_solveCut_7 rfl (lv_at hl 1 rfl) ?_
  refine x_get (k := 282) hE hK hI (by decide) inG4 (e_282 G o _ _) rfl 1 (by decide) mw_156 rfl dX4_solveCut_8 ?_
  refine lv_iload_n hx hb dX4_solveCut_11 rfl (lv_at hl 0 rfl) ?_
  refine lv_iload_n hx hb dX4_solveCut_12 rfl (lv_at hl 0 rfl) ?_
  refine lv_iload_n hx hb dX4_solveCut_13 rfl (lv_at hl 3 rfl) ?_
  refine lv_icmp_ge (tgt := 22) hx hb dX4_solveCut_14 (by decide) (fun _ => ?_) (fun q => absurd (by decide) q)
  refine lv_iconst (v := 0) hx hb dX4_solveCut_22 (by decide) ?_
  refine x_iast (k := 284) (j := 3) hE hK hI (by decide) (e_284 G o) (by decide) (by decide) rfl dX4_solveCut_23 (fun H locs hI => ?_)
  refine lv_iinc (v := 4) (lv' := [(3, .int 4), (0, .ref (o + 282)), (1, .ref (o + 2)), (2, .int 2)]) hx hb dX4_solveCut_24 hl (k := 0) rfl (by decide) (by decide) rfl (fun ls hl => ?_)
  refine lv_goto (tgt := 2) hx hb dX4_solveCut_27 (by decide) ?_
  refine lv_iload_n hx hb dX4_solveCut_2 rfl (lv_at hl 0 rfl) ?_
  refine lv_iconst (v := 4) hx hb dX4_solveCut_3 (by decide) ?_
  refine lv_icmp_ge (tgt := 30) hx hb dX4_solveCut_4 (by decide) (fun _ => ?_) (fun q => absurd (by decide) q)
  refine lv_aload_n hx hb dX4_solveCut_30 rfl (lv_at hl 1 rfl) ?_
  refine lv_aload_n hx hb dX4_solveCut_31 rfl (lv_at hl 2 rfl) ?_
  refine lv_aload_n hx hb dX4_solveCut_32 rfl (lv_at hl 1 rfl) ?_
  refine x_get (k := 282) hE hK hI (by decide) inG4 (e_282 G o _ _) rfl 1 (by decide) mw_156 rfl dX4_solveCut_33 ?_
  refine x_callVv (k := 282) hE hK hI (c_X4_solve_284 l G o _ _ 10 10 0 0 ((sx_o (by decide)).trans ((sx_o (by decide)).trans ((sx_o (by decide)).trans (sx_e)))) ((sx_o (by decide)).trans ((sx_o (by decide)).trans (sx_e))) ((sx_o (by decide)).trans (sx_e)) sx_e) mf_X4_solve mw_287 (by decide) ((e_282 G o) _ _) rfl rfl hl.1 rfl (Nat.le_of_ble_eq_true rfl) ⟨(Nat.le_of_ble_eq_true rfl), (Nat.le_of_ble_eq_true rfl)⟩ ⟨Nat.zero_le _, Nat.zero_le _⟩ dX4_solveCut_36 (fun H locs hI => ?_)
  exact x_vret hE hr hlocks hI rfl rfl rfl dX4_solveCut_39
def cu3X (X : SX) (Y : SY) : SX := solX (sx (sx (sx (sx X 284 0 10) 284 1 10) 284 2 10) 284 3 0) Y 10 10 10 0
def cu3Y (X : SX) (Y : SY) : SY := solY (sx (sx (sx (sx X 284 0 10) 284 1 10) 284 2 10) 284 3 0) Y 10 10 10 0
set_option maxRecDepth 100000 in
set_option maxHeartbeats 4000000 in
theorem c_X4_solveCut_3 (l : Launch) (G : GG) (o : Nat) (X : SX) (Y : SY) : Ct l yX4_solveCut cX4_solveCut 4 none 3 76 G o [.ref (o + 282), .ref (o + 2), .int 3] X Y none (cu3X X Y) (cu3Y X Y) := by
  refine Ct.mk (by decide +kernel) (Nat.le_of_ble_eq_true rfl) rfl ?_
  intro p9 e9 s9 m9 args9 below9 meth9 c9 hE hr hlocks hK hI ls hl
  have hx := hE.1
  have hb := hE.2.1
  have hl : lv_has ls 4 [(0, .ref (o + 282)), (1, .ref (o + 2)), (2, .int 3)] := hl
  refine lv_iconst (v := 0) hx hb dX4_solveCut_0 (by decide) ?_
  refine lv_istore_n (lv' := [(3, .int 0), (0, .ref (o + 282)), (1, .ref (o + 2)), (2, .int 3)]) hx hb dX4_solveCut_1 rfl hl (by decide) rfl (fun ls hl => ?_)
  refine lv_iload_n hx hb dX4_solveCut_2 rfl (lv_at hl 0 rfl) ?_
  refine lv_iconst (v := 4) hx hb dX4_solveCut_3 (by decide) ?_
  refine lv_icmp_ge (tgt := 30) hx hb dX4_solveCut_4 (by decide) (fun q => absurd q (by decide)) (fun _ => ?_)
  refine lv_aload_n hx hb dX4_solveCut_7 rfl (lv_at hl 1 rfl) ?_
  refine x_get (k := 282) hE hK hI (by decide) inG4 (e_282 G o _ _) rfl 1 (by decide) mw_156 rfl dX4_solveCut_8 ?_
  refine lv_iload_n hx hb dX4_solveCut_11 rfl (lv_at hl 0 rfl) ?_
  refine lv_iload_n hx hb dX4_solveCut_12 rfl (lv_at hl 0 rfl) ?_
  refine lv_iload_n hx hb dX4_solveCut_13 rfl (lv_at hl 3 rfl) ?_
  refine lv_icmp_ge (tgt := 22) hx hb dX4_solveCut_14 (by decide) (fun q => absurd q (by decide)) (fun _ => ?_)
  refine lv_bipush (v := 10) hx hb dX4_solveCut_17 (by decide) ?_
  refine lv_goto (tgt := 23) hx hb dX4_solveCut_19 (by decide) ?_
  refine x_iast (k := 284) (j := 0) hE hK hI (by decide) (e_284 G o) (by decide) (by decide) rfl dX4_solveCut_23 (fun H locs hI => ?_)
  refine lv_iinc (v := 1) (lv' := [(3, .int 1), (0, .ref (o + 282)), (1, .ref (o + 2)), (2, .int 3)]) hx hb dX4_solveCut_24 hl (k := 0) rfl (by decide) (by decide) rfl (fun ls hl => ?_)
  refine lv_goto (tgt := 2) hx hb dX4_solveCut_27 (by decide) ?_
  refine lv_iload_n hx hb dX4_solveCut_2 rfl (lv_at hl 0 rfl) ?_
  refine lv_iconst (v := 4) hx hb dX4_solveCut_3 (by decide) ?_
  refine lv_icmp_ge (tgt := 30) hx hb dX4_solveCut_4 (by decide) (fun q => absurd q (by decide)) (fun _ => ?_)
  refine lv_aload_n hx hb dX4_solveCut_7 rfl (lv_at hl 1 rfl) ?_
  refine x_get (k := 282) hE hK hI (by decide) inG4 (e_282 G o _ _) rfl 1 (by decide) mw_156 rfl dX4_solveCut_8 ?_
  refine lv_iload_n hx hb dX4_solveCut_11 rfl (lv_at hl 0 rfl) ?_
  refine lv_iload_n hx hb dX4_solveCut_12 rfl (lv_at hl 0 rfl) ?_
  refine lv_iload_n hx hb dX4_solveCut_13 rfl (lv_at hl 3 rfl) ?_
  refine lv_icmp_ge (tgt := 22) hx hb dX4_solveCut_14 (by decide) (fun q => absurd q (by decide)) (fun _ => ?_)
  refine lv_bipush (v := 10) hx hb dX4_solveCut_17 (by decide) ?_
  refine lv_goto (tgt := 23) hx hb dX4_solveCut_19 (by decide) ?_
  refine x_iast (k := 284) (j := 1) hE hK hI (by decide) (e_284 G o) (by decide) (by decide) rfl dX4_solveCut_23 (fun H locs hI => ?_)
  refine lv_iinc (v := 2) (lv' := [(3, .int 2), (0, .ref (o + 282)), (1, .ref (o + 2)), (2, .int 3)]) hx hb dX4_solveCut_24 hl (k := 0) rfl (by decide) (by decide) rfl (fun ls hl => ?_)
  refine lv_goto (tgt := 2) hx hb dX4_solveCut_27 (by decide) ?_
  refine lv_iload_n hx hb dX4_solveCut_2 rfl (lv_at hl 0 rfl) ?_
  refine lv_iconst (v := 4) hx hb dX4_solveCut_3 (by decide) ?_
  refine lv_icmp_ge (tgt := 30) hx hb dX4_solveCut_4 (by decide) (fun q => absurd q (by decide)) (fun _ => ?_)
  refine lv_aload_n hx hb dX4_solveCut_7 rfl (lv_at hl 1 rfl) ?_
  refine x_get (k := 282) hE hK hI (by decide) inG4 (e_282 G o _ _) rfl 1 (by decide) mw_156 rfl dX4_solveCut_8 ?_
  refine lv_iload_n hx hb dX4_solveCut_11 rfl (lv_at hl 0 rfl) ?_
  refine lv_iload_n hx hb dX4_solveCut_12 rfl (lv_at hl 0 rfl) ?_
  refine lv_iload_n hx hb dX4_solveCut_13 rfl (lv_at hl 3 rfl) ?_
  refine lv_icmp_ge (tgt := 22) hx hb dX4_solveCut_14 (by decide) (fun q => absurd q (by decide)) (fun _ => ?_)
  refine lv_bipush (v := 10) hx hb dX4_solveCut_17 (by decide) ?_
  refine lv_goto (tgt := 23) hx hb dX4_solveCut_19 (by decide) ?_
  refine x_iast (k := 284) (j := 2) hE hK hI (by decide) (e_284 G o) (by decide) (by decide) rfl dX4_solveCut_23 (fun H locs hI => ?_)
  refine lv_iinc (v := 3) (lv' := [(3, .int 3), (0, .ref (o + 282)), (1, .ref (o + 2)), (2, .int 3)]) hx hb dX4_solveCut_24 hl (k := 0) rfl (by decide) (by decide) rfl (fun ls hl => ?_)
  refine lv_goto (tgt := 2) hx hb dX4_solveCut_27 (by decide) ?_
  refine lv_iload_n hx hb dX4_solveCut_2 rfl (lv_at hl 0 rfl) ?_
  refine lv_iconst (v := 4) hx hb dX4_solveCut_3 (by decide) ?_
  refine lv_icmp_ge (tgt := 30) hx hb dX4_solveCut_4 (by decide) (fun q => absurd q (by decide)) (fun _ => ?_)
  refine lv_aload_n hx hb dX4_solveCut_7 rfl (lv_at hl 1 rfl) ?_
  refine x_get (k := 282) hE hK hI (by decide) inG4 (e_282 G o _ _) rfl 1 (by decide) mw_156 rfl dX4_solveCut_8 ?_
  refine lv_iload_n hx hb dX4_solveCut_11 rfl (lv_at hl 0 rfl) ?_
  refine lv_iload_n hx hb dX4_solveCut_12 rfl (lv_at hl 0 rfl) ?_
  refine lv_iload_n hx hb dX4_solveCut_13 rfl (lv_at hl 3 rfl) ?_
  refine lv_icmp_ge (tgt := 22) hx hb dX4_solveCut_14 (by decide) (fun _ => ?_) (fun q => absurd (by decide) q)
  refine lv_iconst (v := 0) hx hb dX4_solveCut_22 (by decide) ?_
  refine x_iast (k := 284) (j := 3) hE hK hI (by decide) (e_284 G o) (by decide) (by decide) rfl dX4_solveCut_23 (fun H locs hI => ?_)
  refine lv_iinc (v := 4) (lv' := [(3, .int 4), (0, .ref (o + 282)), (1, .ref (o + 2)), (2, .int 3)]) hx hb dX4_solveCut_24 hl (k := 0) rfl (by decide) (by decide) rfl (fun ls hl => ?_)
  refine lv_goto (tgt := 2) hx hb dX4_solveCut_27 (by decide) ?_
  refine lv_iload_n hx hb dX4_solveCut_2 rfl (lv_at hl 0 rfl) ?_
  refine lv_iconst (v := 4) hx hb dX4_solveCut_3 (by decide) ?_
  refine lv_icmp_ge (tgt := 30) hx hb dX4_solveCut_4 (by decide) (fun _ => ?_) (fun q => absurd (by decide) q)
  refine lv_aload_n hx hb dX4_solveCut_30 rfl (lv_at hl 1 rfl) ?_
  refine lv_aload_n hx hb dX4_solveCut_31 rfl (lv_at hl 2 rfl) ?_
  refine lv_aload_n hx hb dX4_solveCut_32 rfl (lv_at hl 1 rfl) ?_
  refine x_get (k := 282) hE hK hI (by decide) inG4 (e_282 G o _ _) rfl 1 (by decide) mw_156 rfl dX4_solveCut_33 ?_
  refine x_callVv (k := 282) hE hK hI (c_X4_solve_284 l G o _ _ 10 10 10 0 ((sx_o (by decide)).trans ((sx_o (by decide)).trans ((sx_o (by decide)).trans (sx_e)))) ((sx_o (by decide)).trans ((sx_o (by decide)).trans (sx_e))) ((sx_o (by decide)).trans (sx_e)) sx_e) mf_X4_solve mw_287 (by decide) ((e_282 G o) _ _) rfl rfl hl.1 rfl (Nat.le_of_ble_eq_true rfl) ⟨(Nat.le_of_ble_eq_true rfl), (Nat.le_of_ble_eq_true rfl)⟩ ⟨Nat.zero_le _, Nat.zero_le _⟩ dX4_solveCut_36 (fun H locs hI => ?_)
  exact x_vret hE hr hlocks hI rfl rfl rfl dX4_solveCut_39
def cu4X (X : SX) (Y : SY) : SX := solX (sx (sx (sx (sx X 284 0 10) 284 1 10) 284 2 10) 284 3 10) Y 10 10 10 10
def cu4Y (X : SX) (Y : SY) : SY := solY (sx (sx (sx (sx X 284 0 10) 284 1 10) 284 2 10) 284 3 10) Y 10 10 10 10
set_option maxRecDepth 100000 in
set_option maxHeartbeats 4000000 in
theorem c_X4_solveCut_4 (l : Launch) (G : GG) (o : Nat) (X : SX) (Y : SY) : Ct l yX4_solveCut cX4_solveCut 4 none 3 76 G o [.ref (o + 282), .ref (o + 2), .int 4] X Y none (cu4X X Y) (cu4Y X Y) := by
  refine Ct.mk (by decide +kernel) (Nat.le_of_ble_eq_true rfl) rfl ?_
  intro p9 e9 s9 m9 args9 below9 meth9 c9 hE hr hlocks hK hI ls hl
  have hx := hE.1
  have hb := hE.2.1
  have hl : lv_has ls 4 [(0, .ref (o + 282)), (1, .ref (o + 2)), (2, .int 4)] := hl
  refine lv_iconst (v := 0) hx hb dX4_solveCut_0 (by decide) ?_
  refine lv_istore_n (lv' := [(3, .int 0), (0, .ref (o + 282)), (1, .ref (o + 2)), (2, .int 4)]) hx hb dX4_solveCut_1 rfl hl (by decide) rfl (fun ls hl => ?_)
  refine lv_iload_n hx hb dX4_solveCut_2 rfl (lv_at hl 0 rfl) ?_
  refine lv_iconst (v := 4) hx hb dX4_solveCut_3 (by decide) ?_
  refine lv_icmp_ge (tgt := 30) hx hb dX4_solveCut_4 (by decide) (fun q => absurd q (by decide)) (fun _ => ?_)
  refine lv_aload_n hx hb dX4_solveCut_7 rfl (lv_at hl 1 rfl) ?_
  refine x_get (k := 282) hE hK hI (by decide) inG4 (e_282 G o _ _) rfl 1 (by decide) mw_156 rfl dX4_solveCut_8 ?_
  refine lv_iload_n hx hb dX4_solveCut_11 rfl (lv_at hl 0 rfl) ?_
  refine lv_iload_n hx hb dX4_solveCut_12 rfl (lv_at hl 0 rfl) ?_
  refine lv_iload_n hx hb dX4_solveCut_13 rfl (lv_at hl 3 rfl) ?_
  refine lv_icmp_ge (tgt := 22) hx hb dX4_solveCut_14 (by decide) (fun q => absurd q (by decide)) (fun _ => ?_)
  refine lv_bipush (v := 10) hx hb dX4_solveCut_17 (by decide) ?_
  refine lv_goto (tgt := 23) hx hb dX4_solveCut_19 (by decide) ?_
  refine x_iast (k := 284) (j := 0) hE hK hI (by decide) (e_284 G o) (by decide) (by decide) rfl dX4_solveCut_23 (fun H locs hI => ?_)
  refine lv_iinc (v := 1) (lv' := [(3, .int 1), (0, .ref (o + 282)), (1, .ref (o + 2)), (2, .int 4)]) hx hb dX4_solveCut_24 hl (k := 0) rfl (by decide) (by decide) rfl (fun ls hl => ?_)
  refine lv_goto (tgt := 2) hx hb dX4_solveCut_27 (by decide) ?_
  refine lv_iload_n hx hb dX4_solveCut_2 rfl (lv_at hl 0 rfl) ?_
  refine lv_iconst (v := 4) hx hb dX4_solveCut_3 (by decide) ?_
  refine lv_icmp_ge (tgt := 30) hx hb dX4_solveCut_4 (by decide) (fun q => absurd q (by decide)) (fun _ => ?_)
  refine lv_aload_n hx hb dX4_solveCut_7 rfl (lv_at hl 1 rfl) ?_
  refine x_get (k := 282) hE hK hI (by decide) inG4 (e_282 G o _ _) rfl 1 (by decide) mw_156 rfl dX4_solveCut_8 ?_
  refine lv_iload_n hx hb dX4_solveCut_11 rfl (lv_at hl 0 rfl) ?_
  refine lv_iload_n hx hb dX4_solveCut_12 rfl (lv_at hl 0 rfl) ?_
  refine lv_iload_n hx hb dX4_solveCut_13 rfl (lv_at hl 3 rfl) ?_
  refine lv_icmp_ge (tgt := 22) hx hb dX4_solveCut_14 (by decide) (fun q => absurd q (by decide)) (fun _ => ?_)
  refine lv_bipush (v := 10) hx hb dX4_solveCut_17 (by decide) ?_
  refine lv_goto (tgt := 23) hx hb dX4_solveCut_19 (by decide) ?_
  refine x_iast (k := 284) (j := 1) hE hK hI (by decide) (e_284 G o) (by decide) (by decide) rfl dX4_solveCut_23 (fun H locs hI => ?_)
  refine lv_iinc (v := 2) (lv' := [(3, .int 2), (0, .ref (o + 282)), (1, .ref (o + 2)), (2, .int 4)]) hx hb dX4_solveCut_24 hl (k := 0) rfl (by decide) (by decide) rfl (fun ls hl => ?_)
  refine lv_goto (tgt := 2) hx hb dX4_solveCut_27 (by decide) ?_
  refine lv_iload_n hx hb dX4_solveCut_2 rfl (lv_at hl 0 rfl) ?_
  refine lv_iconst (v := 4) hx hb dX4_solveCut_3 (by decide) ?_
  refine lv_icmp_ge (tgt := 30) hx hb dX4_solveCut_4 (by decide) (fun q => absurd q (by decide)) (fun _ => ?_)
  refine lv_aload_n hx hb dX4_solveCut_7 rfl (lv_at hl 1 rfl) ?_
  refine x_get (k := 282) hE hK hI (by decide) inG4 (e_282 G o _ _) rfl 1 (by decide) mw_156 rfl dX4_solveCut_8 ?_
  refine lv_iload_n hx hb dX4_solveCut_11 rfl (lv_at hl 0 rfl) ?_
  refine lv_iload_n hx hb dX4_solveCut_12 rfl (lv_at hl 0 rfl) ?_
  refine lv_iload_n hx hb dX4_solveCut_13 rfl (lv_at hl 3 rfl) ?_
  refine lv_icmp_ge (tgt := 22) hx hb dX4_solveCut_14 (by decide) (fun q => absurd q (by decide)) (fun _ => ?_)
  refine lv_bipush (v := 10) hx hb dX4_solveCut_17 (by decide) ?_
  refine lv_goto (tgt := 23) hx hb dX4_solveCut_19 (by decide) ?_
  refine x_iast (k := 284) (j := 2) hE hK hI (by decide) (e_284 G o) (by decide) (by decide) rfl dX4_solveCut_23 (fun H locs hI => ?_)
  refine lv_iinc (v := 3) (lv' := [(3, .int 3), (0, .ref (o + 282)), (1, .ref (o + 2)), (2, .int 4)]) hx hb dX4_solveCut_24 hl (k := 0) rfl (by decide) (by decide) rfl (fun ls hl => ?_)
  refine lv_goto (tgt := 2) hx hb dX4_solveCut_27 (by decide) ?_
  refine lv_iload_n hx hb dX4_solveCut_2 rfl (lv_at hl 0 rfl) ?_
  refine lv_iconst (v := 4) hx hb dX4_solveCut_3 (by decide) ?_
  refine lv_icmp_ge (tgt := 30) hx hb dX4_solveCut_4 (by decide) (fun q => absurd q (by decide)) (fun _ => ?_)
  refine lv_aload_n hx hb dX4_solveCut_7 rfl (lv_at hl 1 rfl) ?_
  refine x_get (k := 282) hE hK hI (by decide) inG4 (e_282 G o _ _) rfl 1 (by decide) mw_156 rfl dX4_solveCut_8 ?_
  refine lv_iload_n hx hb dX4_solveCut_11 rfl (lv_at hl 0 rfl) ?_
  refine lv_iload_n hx hb dX4_solveCut_12 rfl (lv_at hl 0 rfl) ?_
  refine lv_iload_n hx hb dX4_solveCut_13 rfl (lv_at hl 3 rfl) ?_
  refine lv_icmp_ge (tgt := 22) hx hb dX4_solveCut_14 (by decide) (fun q => absurd q (by decide)) (fun _ => ?_)
  refine lv_bipush (v := 10) hx hb dX4_solveCut_17 (by decide) ?_
  refine lv_goto (tgt := 23) hx hb dX4_solveCut_19 (by decide) ?_
  refine x_iast (k := 284) (j := 3) hE hK hI (by decide) (e_284 G o) (by decide) (by decide) rfl dX4_solveCut_23 (fun H locs hI => ?_)
  refine lv_iinc (v := 4) (lv' := [(3, .int 4), (0, .ref (o + 282)), (1, .ref (o + 2)), (2, .int 4)]) hx hb dX4_solveCut_24 hl (k := 0) rfl (by decide) (by decide) rfl (fun ls hl => ?_)
  refine lv_goto (tgt := 2) hx hb dX4_solveCut_27 (by decide) ?_
  refine lv_iload_n hx hb dX4_solveCut_2 rfl (lv_at hl 0 rfl) ?_
  refine lv_iconst (v := 4) hx hb dX4_solveCut_3 (by decide) ?_
  refine lv_icmp_ge (tgt := 30) hx hb dX4_solveCut_4 (by decide) (fun _ => ?_) (fun q => absurd (by decide) q)
  refine lv_aload_n hx hb dX4_solveCut_30 rfl (lv_at hl 1 rfl) ?_
  refine lv_aload_n hx hb dX4_solveCut_31 rfl (lv_at hl 2 rfl) ?_
  refine lv_aload_n hx hb dX4_solveCut_32 rfl (lv_at hl 1 rfl) ?_
  refine x_get (k := 282) hE hK hI (by decide) inG4 (e_282 G o _ _) rfl 1 (by decide) mw_156 rfl dX4_solveCut_33 ?_
  refine x_callVv (k := 282) hE hK hI (c_X4_solve_284 l G o _ _ 10 10 10 10 ((sx_o (by decide)).trans ((sx_o (by decide)).trans ((sx_o (by decide)).trans (sx_e)))) ((sx_o (by decide)).trans ((sx_o (by decide)).trans (sx_e))) ((sx_o (by decide)).trans (sx_e)) sx_e) mf_X4_solve mw_287 (by decide) ((e_282 G o) _ _) rfl rfl hl.1 rfl (Nat.le_of_ble_eq_true rfl) ⟨(Nat.le_of_ble_eq_true rfl), (Nat.le_of_ble_eq_true rfl)⟩ ⟨Nat.zero_le _, Nat.zero_le _⟩ dX4_solveCut_36 (fun H locs hI => ?_)
  exact x_vret hE hr hlocks hI rfl rfl rfl dX4_solveCut_39
set_option maxRecDepth 100000 in
set_option maxHeartbeats 4000000 in
theorem c_X4_sumOfLoads (l : Launch) (G : GG) (o : Nat) (X : SX) (Y : SY) : Ct l yX4_sumOfLoads cX4_sumOfLoads 8 (some .long) 0 0 G o [.ref (o + 282)] X Y (some (.long (sml Y))) X Y := by
  refine Ct.mk (by decide +kernel) (Nat.le_of_ble_eq_true rfl) rfl ?_
  intro p9 e9 s9 m9 args9 below9 meth9 c9 hE hr hlocks hK hI ls hl
  have hx := hE.1
  have hb := hE.2.1
  have hl : lv_has ls 8 [(0, .ref (o + 282))] := hl
  refine lv_lconst (v := 0) hx hb dX4_sumOfLoads_0 (by decide) ?_
  refine lv_lstore_n (lv' := [(1, .long 0), (0, .ref (o + 282))]) hx hb dX4_sumOfLoads_1 rfl hl (by decide) rfl (fun ls hl => ?_)
  refine lv_aload_n hx hb dX4_sumOfLoads_2 rfl (lv_at hl 1 rfl) ?_
  refine x_get (k := 282) hE hK hI (by decide) inG4 (e_282 G o _ _) rfl 0 (by decide) mw_154 rfl dX4_sumOfLoads_3 ?_
  refine lv_astore_n (lv' := [(3, .ref (o + 283)), (1, .long 0), (0, .ref (o + 282))]) hx hb dX4_sumOfLoads_6 rfl hl (by decide) rfl (fun ls hl => ?_)
  refine lv_aload_n hx hb dX4_sumOfLoads_7 rfl (lv_at hl 0 rfl) ?_
  refine x_alen (k := 283) (t0 := 1) (v := 4) hE hK hI (by decide) ((e_283 G o) _ _) rfl rfl dX4_sumOfLoads_8 ?_
  refine lv_istore (lv' := [(4, .int 4), (3, .ref (o + 283)), (1, .long 0), (0, .ref (o + 282))]) hx hb dX4_sumOfLoads_9 hl (by decide) rfl (fun ls hl => ?_)
  refine lv_iconst (v := 0) hx hb dX4_sumOfLoads_11 (by decide) ?_
  refine lv_istore (lv' := [(5, .int 0), (4, .int 4), (3, .ref (o + 283)), (1, .long 0), (0, .ref (o + 282))]) hx hb dX4_sumOfLoads_12 hl (by decide) rfl (fun ls hl => ?_)
  refine lv_iload hx hb dX4_sumOfLoads_14 (lv_at hl 0 rfl) ?_
  refine lv_iload hx hb dX4_sumOfLoads_16 (lv_at hl 1 rfl) ?_
  refine lv_icmp_ge (tgt := 38) hx hb dX4_sumOfLoads_18 (by decide) (fun q => absurd q (by decide)) (fun _ => ?_)
  refine lv_aload_n hx hb dX4_sumOfLoads_21 rfl (lv_at hl 2 rfl) ?_
  refine lv_iload hx hb dX4_sumOfLoads_22 (lv_at hl 0 rfl) ?_
  refine x_lald (k := 283) (j := 0) hE hK hI (by decide) (e_283 G o) (by decide) (by decide) rfl dX4_sumOfLoads_24 ?_
  refine lv_lstore (lv' := [(6, .long (Y 283 0)), (5, .int 0), (4, .int 4), (3, .ref (o + 283)), (1, .long 0), (0, .ref (o + 282))]) hx hb dX4_sumOfLoads_25 hl (by decide) rfl (fun ls hl => ?_)
  refine lv_lload_n hx hb dX4_sumOfLoads_27 rfl (lv_at hl 4 rfl) ?_
  refine lv_lload hx hb dX4_sumOfLoads_28 (lv_at hl 0 rfl) ?_
  refine lv_ladd hx hb dX4_sumOfLoads_30 ?_
  refine lv_lstore_n (lv' := [(1, .long (0 + (Y 283 0))), (6, .long (Y 283 0)), (5, .int 0), (4, .int 4), (3, .ref (o + 283)), (0, .ref (o + 282))]) hx hb dX4_sumOfLoads_31 rfl hl (by decide) rfl (fun ls hl => ?_)
  refine lv_iinc (v := 1) (lv' := [(5, .int 1), (1, .long (0 + (Y 283 0))), (6, .long (Y 283 0)), (4, .int 4), (3, .ref (o + 283)), (0, .ref (o + 282))]) hx hb dX4_sumOfLoads_32 hl (k := 2) rfl (by decide) (by decide) rfl (fun ls hl => ?_)
  refine lv_goto (tgt := 14) hx hb dX4_sumOfLoads_35 (by decide) ?_
  refine lv_iload hx hb dX4_sumOfLoads_14 (lv_at hl 0 rfl) ?_
  refine lv_iload hx hb dX4_sumOfLoads_16 (lv_at hl 3 rfl) ?_
  refine lv_icmp_ge (tgt := 38) hx hb dX4_sumOfLoads_18 (by decide) (fun q => absurd q (by decide)) (fun _ => ?_)
  refine lv_aload_n hx hb dX4_sumOfLoads_21 rfl (lv_at hl 4 rfl) ?_
  refine lv_iload hx hb dX4_sumOfLoads_22 (lv_at hl 0 rfl) ?_
  refine x_lald (k := 283) (j := 1) hE hK hI (by decide) (e_283 G o) (by decide) (by decide) rfl dX4_sumOfLoads_24 ?_
  refine lv_lstore (lv' := [(6, .long (Y 283 1)), (5, .int 1), (1, .long (0 + (Y 283 0))), (4, .int 4), (3, .ref (o + 283)), (0, .ref (o + 282))]) hx hb dX4_sumOfLoads_25 hl (by decide) rfl (fun ls hl => ?_)
  refine lv_lload_n hx hb dX4_sumOfLoads_27 rfl (lv_at hl 2 rfl) ?_
  refine lv_lload hx hb dX4_sumOfLoads_28 (lv_at hl 0 rfl) ?_
  refine lv_ladd hx hb dX4_sumOfLoads_30 ?_
  refine lv_lstore_n (lv' := [(1, .long ((0 + (Y 283 0)) + (Y 283 1))), (6, .long (Y 283 1)), (5, .int 1), (4, .int 4), (3, .ref (o + 283)), (0, .ref (o + 282))]) hx hb dX4_sumOfLoads_31 rfl hl (by decide) rfl (fun ls hl => ?_)
  refine lv_iinc (v := 2) (lv' := [(5, .int 2), (1, .long ((0 + (Y 283 0)) + (Y 283 1))), (6, .long (Y 283 1)), (4, .int 4), (3, .ref (o + 283)), (0, .ref (o + 282))]) hx hb dX4_sumOfLoads_32 hl (k := 2) rfl (by decide) (by decide) rfl (fun ls hl => ?_)
  refine lv_goto (tgt := 14) hx hb dX4_sumOfLoads_35 (by decide) ?_
  refine lv_iload hx hb dX4_sumOfLoads_14 (lv_at hl 0 rfl) ?_
  refine lv_iload hx hb dX4_sumOfLoads_16 (lv_at hl 3 rfl) ?_
  refine lv_icmp_ge (tgt := 38) hx hb dX4_sumOfLoads_18 (by decide) (fun q => absurd q (by decide)) (fun _ => ?_)
  refine lv_aload_n hx hb dX4_sumOfLoads_21 rfl (lv_at hl 4 rfl) ?_
  refine lv_iload hx hb dX4_sumOfLoads_22 (lv_at hl 0 rfl) ?_
  refine x_lald (k := 283) (j := 2) hE hK hI (by decide) (e_283 G o) (by decide) (by decide) rfl dX4_sumOfLoads_24 ?_
  refine lv_lstore (lv' := [(6, .long (Y 283 2)), (5, .int 2), (1, .long ((0 + (Y 283 0)) + (Y 283 1))), (4, .int 4), (3, .ref (o + 283)), (0, .ref (o + 282))]) hx hb dX4_sumOfLoads_25 hl (by decide) rfl (fun ls hl => ?_)
  refine lv_lload_n hx hb dX4_sumOfLoads_27 rfl (lv_at hl 2 rfl) ?_
  refine lv_lload hx hb dX4_sumOfLoads_28 (lv_at hl 0 rfl) ?_
  refine lv_ladd hx hb dX4_sumOfLoads_30 ?_
  refine lv_lstore_n (lv' := [(1, .long (((0 + (Y 283 0)) + (Y 283 1)) + (Y 283 2))), (6, .long (Y 283 2)), (5, .int 2), (4, .int 4), (3, .ref (o + 283)), (0, .ref (o + 282))]) hx hb dX4_sumOfLoads_31 rfl hl (by decide) rfl (fun ls hl => ?_)
  refine lv_iinc (v := 3) (lv' := [(5, .int 3), (1, .long (((0 + (Y 283 0)) + (Y 283 1)) + (Y 283 2))), (6, .long (Y 283 2)), (4, .int 4), (3, .ref (o + 283)), (0, .ref (o + 282))]) hx hb dX4_sumOfLoads_32 hl (k := 2) rfl (by decide) (by decide) rfl (fun ls hl => ?_)
  refine lv_goto (tgt := 14) hx hb dX4_sumOfLoads_35 (by decide) ?_
  refine lv_iload hx hb dX4_sumOfLoads_14 (lv_at hl 0 rfl) ?_
  refine lv_iload hx hb dX4_sumOfLoads_16 (lv_at hl 3 rfl) ?_
  refine lv_icmp_ge (tgt := 38) hx hb dX4_sumOfLoads_18 (by decide) (fun q => absurd q (by decide)) (fun _ => ?_)
  refine lv_aload_n hx hb dX4_sumOfLoads_21 rfl (lv_at hl 4 rfl) ?_
  refine lv_iload hx hb dX4_sumOfLoads_22 (lv_at hl 0 rfl) ?_
  refine x_lald (k := 283) (j := 3) hE hK hI (by decide) (e_283 G o) (by decide) (by decide) rfl dX4_sumOfLoads_24 ?_
  refine lv_lstore (lv' := [(6, .long (Y 283 3)), (5, .int 3), (1, .long (((0 + (Y 283 0)) + (Y 283 1)) + (Y 283 2))), (4, .int 4), (3, .ref (o + 283)), (0, .ref (o + 282))]) hx hb dX4_sumOfLoads_25 hl (by decide) rfl (fun ls hl => ?_)
  refine lv_lload_n hx hb dX4_sumOfLoads_27 rfl (lv_at hl 2 rfl) ?_
  refine lv_lload hx hb dX4_sumOfLoads_28 (lv_at hl 0 rfl) ?_
  refine lv_ladd hx hb dX4_sumOfLoads_30 ?_
  refine lv_lstore_n (lv' := [(1, .long ((((0 + (Y 283 0)) + (Y 283 1)) + (Y 283 2)) + (Y 283 3))), (6, .long (Y 283 3)), (5, .int 3), (4, .int 4), (3, .ref (o + 283)), (0, .ref (o + 282))]) hx hb dX4_sumOfLoads_31 rfl hl (by decide) rfl (fun ls hl => ?_)
  refine lv_iinc (v := 4) (lv' := [(5, .int 4), (1, .long ((((0 + (Y 283 0)) + (Y 283 1)) + (Y 283 2)) + (Y 283 3))), (6, .long (Y 283 3)), (4, .int 4), (3, .ref (o + 283)), (0, .ref (o + 282))]) hx hb dX4_sumOfLoads_32 hl (k := 2) rfl (by decide) (by decide) rfl (fun ls hl => ?_)
  refine lv_goto (tgt := 14) hx hb dX4_sumOfLoads_35 (by decide) ?_
  refine lv_iload hx hb dX4_sumOfLoads_14 (lv_at hl 0 rfl) ?_
  refine lv_iload hx hb dX4_sumOfLoads_16 (lv_at hl 3 rfl) ?_
  refine lv_icmp_ge (tgt := 38) hx hb dX4_sumOfLoads_18 (by decide) (fun _ => ?_) (fun q => absurd (by decide) q)
  refine lv_lload_n hx hb dX4_sumOfLoads_38 rfl (lv_at hl 1 rfl) ?_
  exact x_lret hE hr hlocks hI rfl rfl rfl dX4_sumOfLoads_39
set_option maxRecDepth 100000 in
set_option maxHeartbeats 4000000 in
theorem c_X4_scaledPower (l : Launch) (G : GG) (o : Nat) (X : SX) (Y : SY) : Ct l yX4_scaledPower cX4_scaledPower 5 (some .long) 0 0 G o [.ref (o + 282), .ref (o + 9)] X Y (some (.long (pwr X Y))) X Y := by
  refine Ct.mk (by decide +kernel) (Nat.le_of_ble_eq_true rfl) rfl ?_
  intro p9 e9 s9 m9 args9 below9 meth9 c9 hE hr hlocks hK hI ls hl
  have hx := hE.1
  have hb := hE.2.1
  have hl : lv_has ls 5 [(0, .ref (o + 282)), (1, .ref (o + 9))] := hl
  refine lv_lconst (v := 0) hx hb dX4_scaledPower_0 (by decide) ?_
  refine lv_lstore_n (lv' := [(2, .long 0), (0, .ref (o + 282)), (1, .ref (o + 9))]) hx hb dX4_scaledPower_1 rfl hl (by decide) rfl (fun ls hl => ?_)
  refine lv_iconst (v := 0) hx hb dX4_scaledPower_2 (by decide) ?_
  refine lv_istore (lv' := [(4, .int 0), (2, .long 0), (0, .ref (o + 282)), (1, .ref (o + 9))]) hx hb dX4_scaledPower_3 hl (by decide) rfl (fun ls hl => ?_)
  refine lv_iload hx hb dX4_scaledPower_5 (lv_at hl 0 rfl) ?_
  refine lv_iconst (v := 4) hx hb dX4_scaledPower_7 (by decide) ?_
  refine lv_icmp_ge (tgt := 33) hx hb dX4_scaledPower_8 (by decide) (fun q => absurd q (by decide)) (fun _ => ?_)
  refine lv_lload_n hx hb dX4_scaledPower_11 rfl (lv_at hl 1 rfl) ?_
  refine lv_aload_n hx hb dX4_scaledPower_12 rfl (lv_at hl 3 rfl) ?_
  refine lv_iload hx hb dX4_scaledPower_13 (lv_at hl 0 rfl) ?_
  refine x_iald (k := 9) (j := 0) hE hK hI (by decide) (e_9 G o) (by decide) (by decide) rfl dX4_scaledPower_15 ?_
  refine lv_i2l hx hb dX4_scaledPower_16 rfl ?_
  refine lv_aload_n hx hb dX4_scaledPower_17 rfl (lv_at hl 2 rfl) ?_
  refine x_get (k := 282) hE hK hI (by decide) inG4 (e_282 G o _ _) rfl 0 (by decide) mw_154 rfl dX4_scaledPower_18 ?_
  refine lv_iload hx hb dX4_scaledPower_21 (lv_at hl 0 rfl) ?_
  refine x_lald (k := 283) (j := 0) hE hK hI (by decide) (e_283 G o) (by decide) (by decide) rfl dX4_scaledPower_23 ?_
  refine lv_lmul hx hb dX4_scaledPower_24 ?_
  refine lv_ladd hx hb dX4_scaledPower_25 ?_
  refine lv_lstore_n (lv' := [(2, .long (0 + (((X 9 0).toInt64) * (Y 283 0)))), (4, .int 0), (0, .ref (o + 282)), (1, .ref (o + 9))]) hx hb dX4_scaledPower_26 rfl hl (by decide) rfl (fun ls hl => ?_)
  refine lv_iinc (v := 1) (lv' := [(4, .int 1), (2, .long (0 + (((X 9 0).toInt64) * (Y 283 0)))), (0, .ref (o + 282)), (1, .ref (o + 9))]) hx hb dX4_scaledPower_27 hl (k := 1) rfl (by decide) (by decide) rfl (fun ls hl => ?_)
  refine lv_goto (tgt := 5) hx hb dX4_scaledPower_30 (by decide) ?_
  refine lv_iload hx hb dX4_scaledPower_5 (lv_at hl 0 rfl) ?_
  refine lv_iconst (v := 4) hx hb dX4_scaledPower_7 (by decide) ?_
  refine lv_icmp_ge (tgt := 33) hx hb dX4_scaledPower_8 (by decide) (fun q => absurd q (by decide)) (fun _ => ?_)
  refine lv_lload_n hx hb dX4_scaledPower_11 rfl (lv_at hl 1 rfl) ?_
  refine lv_aload_n hx hb dX4_scaledPower_12 rfl (lv_at hl 3 rfl) ?_
  refine lv_iload hx hb dX4_scaledPower_13 (lv_at hl 0 rfl) ?_
  refine x_iald (k := 9) (j := 1) hE hK hI (by decide) (e_9 G o) (by decide) (by decide) rfl dX4_scaledPower_15 ?_
  refine lv_i2l hx hb dX4_scaledPower_16 rfl ?_
  refine lv_aload_n hx hb dX4_scaledPower_17 rfl (lv_at hl 2 rfl) ?_
  refine x_get (k := 282) hE hK hI (by decide) inG4 (e_282 G o _ _) rfl 0 (by decide) mw_154 rfl dX4_scaledPower_18 ?_
  refine lv_iload hx hb dX4_scaledPower_21 (lv_at hl 0 rfl) ?_
  refine x_lald (k := 283) (j := 1) hE hK hI (by decide) (e_283 G o) (by decide) (by decide) rfl dX4_scaledPower_23 ?_
  refine lv_lmul hx hb dX4_scaledPower_24 ?_
  refine lv_ladd hx hb dX4_scaledPower_25 ?_
  refine lv_lstore_n (lv' := [(2, .long ((0 + (((X 9 0).toInt64) * (Y 283 0))) + (((X 9 1).toInt64) * (Y 283 1)))), (4, .int 1), (0, .ref (o + 282)), (1, .ref (o + 9))]) hx hb dX4_scaledPower_26 rfl hl (by decide) rfl (fun ls hl => ?_)
  refine lv_iinc (v := 2) (lv' := [(4, .int 2), (2, .long ((0 + (((X 9 0).toInt64) * (Y 283 0))) + (((X 9 1).toInt64) * (Y 283 1)))), (0, .ref (o + 282)), (1, .ref (o + 9))]) hx hb dX4_scaledPower_27 hl (k := 1) rfl (by decide) (by decide) rfl (fun ls hl => ?_)
  refine lv_goto (tgt := 5) hx hb dX4_scaledPower_30 (by decide) ?_
  refine lv_iload hx hb dX4_scaledPower_5 (lv_at hl 0 rfl) ?_
  refine lv_iconst (v := 4) hx hb dX4_scaledPower_7 (by decide) ?_
  refine lv_icmp_ge (tgt := 33) hx hb dX4_scaledPower_8 (by decide) (fun q => absurd q (by decide)) (fun _ => ?_)
  refine lv_lload_n hx hb dX4_scaledPower_11 rfl (lv_at hl 1 rfl) ?_
  refine lv_aload_n hx hb dX4_scaledPower_12 rfl (lv_at hl 3 rfl) ?_
  refine lv_iload hx hb dX4_scaledPower_13 (lv_at hl 0 rfl) ?_
  refine x_iald (k := 9) (j := 2) hE hK hI (by decide) (e_9 G o) (by decide) (by decide) rfl dX4_scaledPower_15 ?_
  refine lv_i2l hx hb dX4_scaledPower_16 rfl ?_
  refine lv_aload_n hx hb dX4_scaledPower_17 rfl (lv_at hl 2 rfl) ?_
  refine x_get (k := 282) hE hK hI (by decide) inG4 (e_282 G o _ _) rfl 0 (by decide) mw_154 rfl dX4_scaledPower_18 ?_
  refine lv_iload hx hb dX4_scaledPower_21 (lv_at hl 0 rfl) ?_
  refine x_lald (k := 283) (j := 2) hE hK hI (by decide) (e_283 G o) (by decide) (by decide) rfl dX4_scaledPower_23 ?_
  refine lv_lmul hx hb dX4_scaledPower_24 ?_
  refine lv_ladd hx hb dX4_scaledPower_25 ?_
  refine lv_lstore_n (lv' := [(2, .long (((0 + (((X 9 0).toInt64) * (Y 283 0))) + (((X 9 1).toInt64) * (Y 283 1))) + (((X 9 2).toInt64) * (Y 283 2)))), (4, .int 2), (0, .ref (o + 282)), (1, .ref (o + 9))]) hx hb dX4_scaledPower_26 rfl hl (by decide) rfl (fun ls hl => ?_)
  refine lv_iinc (v := 3) (lv' := [(4, .int 3), (2, .long (((0 + (((X 9 0).toInt64) * (Y 283 0))) + (((X 9 1).toInt64) * (Y 283 1))) + (((X 9 2).toInt64) * (Y 283 2)))), (0, .ref (o + 282)), (1, .ref (o + 9))]) hx hb dX4_scaledPower_27 hl (k := 1) rfl (by decide) (by decide) rfl (fun ls hl => ?_)
  refine lv_goto (tgt := 5) hx hb dX4_scaledPower_30 (by decide) ?_
  refine lv_iload hx hb dX4_scaledPower_5 (lv_at hl 0 rfl) ?_
  refine lv_iconst (v := 4) hx hb dX4_scaledPower_7 (by decide) ?_
  refine lv_icmp_ge (tgt := 33) hx hb dX4_scaledPower_8 (by decide) (fun q => absurd q (by decide)) (fun _ => ?_)
  refine lv_lload_n hx hb dX4_scaledPower_11 rfl (lv_at hl 1 rfl) ?_
  refine lv_aload_n hx hb dX4_scaledPower_12 rfl (lv_at hl 3 rfl) ?_
  refine lv_iload hx hb dX4_scaledPower_13 (lv_at hl 0 rfl) ?_
  refine x_iald (k := 9) (j := 3) hE hK hI (by decide) (e_9 G o) (by decide) (by decide) rfl dX4_scaledPower_15 ?_
  refine lv_i2l hx hb dX4_scaledPower_16 rfl ?_
  refine lv_aload_n hx hb dX4_scaledPower_17 rfl (lv_at hl 2 rfl) ?_
  refine x_get (k := 282) hE hK hI (by decide) inG4 (e_282 G o _ _) rfl 0 (by decide) mw_154 rfl dX4_scaledPower_18 ?_
  refine lv_iload hx hb dX4_scaledPower_21 (lv_at hl 0 rfl) ?_
  refine x_lald (k := 283) (j := 3) hE hK hI (by decide) (e_283 G o) (by decide) (by decide) rfl dX4_scaledPower_23 ?_
  refine lv_lmul hx hb dX4_scaledPower_24 ?_
  refine lv_ladd hx hb dX4_scaledPower_25 ?_
  refine lv_lstore_n (lv' := [(2, .long ((((0 + (((X 9 0).toInt64) * (Y 283 0))) + (((X 9 1).toInt64) * (Y 283 1))) + (((X 9 2).toInt64) * (Y 283 2))) + (((X 9 3).toInt64) * (Y 283 3)))), (4, .int 3), (0, .ref (o + 282)), (1, .ref (o + 9))]) hx hb dX4_scaledPower_26 rfl hl (by decide) rfl (fun ls hl => ?_)
  refine lv_iinc (v := 4) (lv' := [(4, .int 4), (2, .long ((((0 + (((X 9 0).toInt64) * (Y 283 0))) + (((X 9 1).toInt64) * (Y 283 1))) + (((X 9 2).toInt64) * (Y 283 2))) + (((X 9 3).toInt64) * (Y 283 3)))), (0, .ref (o + 282)), (1, .ref (o + 9))]) hx hb dX4_scaledPower_27 hl (k := 1) rfl (by decide) (by decide) rfl (fun ls hl => ?_)
  refine lv_goto (tgt := 5) hx hb dX4_scaledPower_30 (by decide) ?_
  refine lv_iload hx hb dX4_scaledPower_5 (lv_at hl 0 rfl) ?_
  refine lv_iconst (v := 4) hx hb dX4_scaledPower_7 (by decide) ?_
  refine lv_icmp_ge (tgt := 33) hx hb dX4_scaledPower_8 (by decide) (fun _ => ?_) (fun q => absurd (by decide) q)
  refine lv_lload_n hx hb dX4_scaledPower_33 rfl (lv_at hl 1 rfl) ?_
  exact x_lret hE hr hlocks hI rfl rfl rfl dX4_scaledPower_34
set_option maxRecDepth 100000 in
set_option maxHeartbeats 4000000 in
theorem lp_X5_commonDivisor (l : Launch) (G : GG) (o : Nat) (X : SX) (Y : SY) (a0 : Int64) (b0 : Int64) {p9 : Program} {e9 : Env} {s9 : State} {m9 : MethodId} {args9 : Array Value} {below9 : List Frame} {meth9 : Method} {c9 : Code} (hE : gE p9 m9 c9 cX5_commonDivisor 11 s9 args9 yX5_commonDivisor.cls) (hr : meth9.sig.returnType = (some .long)) (hlocks : meth9.locks = false) (hK : KK G s9) :
    ∀ (n : Nat) (i : Nat) (a : Int64) (b : Int64), i + n = 100 → ∀ (H : Heap) (locs : List Loc), In G o X Y s9.heap H locs → ∀ ls : Array Slot, lv_has ls 11 [(0, .long a0), (2, .long b0), (4, .long a), (6, .long b), (8, .int (nI i))] → W p9 l e9 (Rm 0 0) s9 m9 args9 below9 meth9 c9 H locs 0 0 (MQ below9 (Qw G o (some (.long (gcdL n a b))) X Y) args9 s9 0 0 (rg o)) (F0 m9 9 ls []) := by
  have hx := hE.1
  have hb := hE.2.1
  intro n
  induction n with
  | zero =>
    intro i a b hi H locs hI ls hl
    refine lv_iload hx hb dX5_commonDivisor_9 (lv_at hl 4 rfl) ?_
    refine lv_bipush (v := 100) hx hb dX5_commonDivisor_11 (by decide) ?_
    refine lv_icmp_ge (tgt := 44) hx hb dX5_commonDivisor_13 (by decide) (fun _ => ?_) (fun q => absurd (nI_le (a := 100) (by omega) (by omega)) q)
    refine lv_lload hx hb dX5_commonDivisor_44 (lv_at hl 2 rfl) ?_
    exact x_lret hE hr hlocks hI rfl rfl rfl dX5_commonDivisor_46
  | succ n ih =>
    intro i a b hi H locs hI ls hl
    refine lv_iload hx hb dX5_commonDivisor_9 (lv_at hl 4 rfl) ?_
    refine lv_bipush (v := 100) hx hb dX5_commonDivisor_11 (by decide) ?_
    refine lv_icmp_ge (tgt := 44) hx hb dX5_commonDivisor_13 (by decide) (fun q => absurd q (nI_ge (b := 100) (by omega) (by omega))) (fun _ => ?_)
    refine lv_lload hx hb dX5_commonDivisor_16 (lv_at hl 3 rfl) ?_
    refine lv_lconst (v := 0) hx hb dX5_commonDivisor_18 (by decide) ?_
    refine W.lcmp hx hb dX5_commonDivisor_19 ?_
    refine lv_if_eq (tgt := 44) hx hb dX5_commonDivisor_20 (by decide) (fun c1 => ?_) (fun c1 => ?_)
    · have c1 := (lg_cmp_eq _ _).mp c1
      refine lv_lload hx hb dX5_commonDivisor_44 (lv_at hl 2 rfl) ?_
      exact x_lret hE hr hlocks hI (congrArg (fun q => some (Value.long q)) (if_pos c1)) rfl rfl dX5_commonDivisor_46
    · have c1 := mt (lg_cmp_eq _ _).mpr c1
      refine lv_lload hx hb dX5_commonDivisor_23 (lv_at hl 2 rfl) ?_
      refine lv_lload hx hb dX5_commonDivisor_25 (lv_at hl 3 rfl) ?_
      refine lv_lrem hx hb dX5_commonDivisor_27 c1 ?_
      refine lv_lstore (lv' := [(9, .long (a - a / b * b)), (0, .long a0), (2, .long b0), (4, .long a), (6, .long b), (8, .int (nI i))]) hx hb dX5_commonDivisor_28 hl (by decide) rfl (fun ls hl => ?_)
      refine lv_lload hx hb dX5_commonDivisor_30 (lv_at hl 4 rfl) ?_
      refine lv_lstore (lv' := [(4, .long b), (9, .long (a - a / b * b)), (0, .long a0), (2, .long b0), (6, .long b), (8, .int (nI i))]) hx hb dX5_commonDivisor_32 hl (by decide) rfl (fun ls hl => ?_)
      refine lv_lload hx hb dX5_commonDivisor_34 (lv_at hl 1 rfl) ?_
      refine lv_lstore (lv' := [(6, .long (a - a / b * b)), (4, .long b), (9, .long (a - a / b * b)), (0, .long a0), (2, .long b0), (8, .int (nI i))]) hx hb dX5_commonDivisor_36 hl (by decide) rfl (fun ls hl => ?_)
      refine lv_iinc (v := nI (i + 1)) (lv' := [(8, .int (nI (i + 1))), (6, .long (a - a / b * b)), (4, .long b), (9, .long (a - a / b * b)), (0, .long a0), (2, .long b0)]) hx hb dX5_commonDivisor_38 hl (k := 5) rfl (nI_add i 1) (by decide) rfl (fun ls hl => ?_)
      refine lv_goto (tgt := 9) hx hb dX5_commonDivisor_41 (by decide) ?_
      have ih' := ih (i + 1) b (a - a / b * b) (by omega) H locs hI ls (lv_sub hl [4, 5, 2, 1, 0] rfl)
      rw [← show gcdL (n + 1) a b = gcdL n b (a - a / b * b) from if_neg c1] at ih'
      exact ih'
set_option maxRecDepth 100000 in
set_option maxHeartbeats 4000000 in
theorem c_X5_commonDivisor (l : Launch) (G : GG) (o : Nat) (X : SX) (Y : SY) (a0 : Int64) (b0 : Int64) : Ct l yX5_commonDivisor cX5_commonDivisor 11 (some .long) 0 0 G o [.long a0, .long b0] X Y (some (.long (gcdL 100 a0 b0))) X Y := by
  refine Ct.mk (by decide +kernel) (Nat.le_of_ble_eq_true rfl) rfl ?_
  intro p9 e9 s9 m9 args9 below9 meth9 c9 hE hr hlocks hK hI ls hl
  have hx := hE.1
  have hb := hE.2.1
  have hl : lv_has ls 11 [(0, .long a0), (2, .long b0)] := hl
  refine lv_lload_n hx hb dX5_commonDivisor_0 rfl (lv_at hl 0 rfl) ?_
  refine lv_lstore (lv' := [(4, .long a0), (0, .long a0), (2, .long b0)]) hx hb dX5_commonDivisor_1 hl (by decide) rfl (fun ls hl => ?_)
  refine lv_lload_n hx hb dX5_commonDivisor_3 rfl (lv_at hl 2 rfl) ?_
  refine lv_lstore (lv' := [(6, .long b0), (4, .long a0), (0, .long a0), (2, .long b0)]) hx hb dX5_commonDivisor_4 hl (by decide) rfl (fun ls hl => ?_)
  refine lv_iconst (v := 0) hx hb dX5_commonDivisor_6 (by decide) ?_
  refine lv_istore (lv' := [(8, .int 0), (6, .long b0), (4, .long a0), (0, .long a0), (2, .long b0)]) hx hb dX5_commonDivisor_7 hl (by decide) rfl (fun ls hl => ?_)
  exact lp_X5_commonDivisor l G o X Y a0 b0 hE hr hlocks hK 100 0 a0 b0 (by omega) _ _ hI ls (lv_sub hl [3, 4, 2, 1, 0] rfl)
set_option maxRecDepth 100000 in
set_option maxHeartbeats 4000000 in
theorem c_X5_partOf_0 (l : Launch) (G : GG) (o : Nat) (X : SX) (Y : SY) (a0 : Int64) (b0 : Int64) (hg : 1 ≤ gcdL 100 a0 b0) : Ct l yX5_partOf cX5_partOf 7 (some .long) 1 30 G o [.long a0, .long b0, .int 0] X Y (some (.long (a0 / (gcdL 100 a0 b0)))) X Y := by
  refine Ct.mk (by decide +kernel) (Nat.le_of_ble_eq_true rfl) rfl ?_
  intro p9 e9 s9 m9 args9 below9 meth9 c9 hE hr hlocks hK hI ls hl
  have hx := hE.1
  have hb := hE.2.1
  have hl : lv_has ls 7 [(0, .long a0), (2, .long b0), (4, .int 0)] := hl
  refine lv_lconst (v := 1) hx hb dX5_partOf_0 (by decide) ?_
  refine lv_lload_n hx hb dX5_partOf_1 rfl (lv_at hl 0 rfl) ?_
  refine lv_lload_n hx hb dX5_partOf_2 rfl (lv_at hl 1 rfl) ?_
  refine x_callSl hE hK hI (c_X5_commonDivisor l G o _ _ a0 b0 ) mf_X5_commonDivisor mw_247 rfl hl.1 rfl (Nat.le_of_ble_eq_true rfl) ⟨(Nat.le_of_ble_eq_true rfl), (Nat.le_of_ble_eq_true rfl)⟩ ⟨Nat.zero_le _, Nat.zero_le _⟩ dX5_partOf_3 (fun H locs hI => ?_)
  refine va_mmax_long hx hb (hE.2.2.1.trans hl.1.symm) hE.2.2.2.1 (hE.2.2.2.2 _ mw_250) (hE.2.2.2.2 _ mw_251) (hE.2.2.2.2 _ mw_8) (hE.2.2.2.2 _ mw_252) (Nat.le_of_ble_eq_true rfl) (Nat.le_of_ble_eq_true rfl) (Nat.le_of_ble_eq_true rfl) (Nat.le_of_ble_eq_true rfl) dX5_partOf_6 ?_
  refine lv_topl (fun z1 ez1 => ?_)
  obtain rfl : gcdL 100 a0 b0 = z1 := (ez1.trans (i64_max hg)).symm
  refine lv_lstore (lv' := [(5, .long (gcdL 100 a0 b0)), (0, .long a0), (2, .long b0), (4, .int 0)]) hx hb dX5_partOf_9 hl (by decide) rfl (fun ls hl => ?_)
  refine lv_iload hx hb dX5_partOf_11 (lv_at hl 3 rfl) ?_
  refine lv_if_ne (tgt := 20) hx hb dX5_partOf_13 (by decide) (fun q => absurd (by decide) q) (fun _ => ?_)
  refine lv_lload_n hx hb dX5_partOf_16 rfl (lv_at hl 1 rfl) ?_
  refine lv_goto (tgt := 21) hx hb dX5_partOf_17 (by decide) ?_
  refine lv_lload hx hb dX5_partOf_21 (lv_at hl 0 rfl) ?_
  refine lv_ldiv hx hb dX5_partOf_23 (i64_n0 hg) ?_
  exact x_lret hE hr hlocks hI rfl rfl rfl dX5_partOf_24
set_option maxRecDepth 100000 in
set_option maxHeartbeats 4000000 in
theorem c_X5_partOf_1 (l : Launch) (G : GG) (o : Nat) (X : SX) (Y : SY) (a0 : Int64) (b0 : Int64) (hg : 1 ≤ gcdL 100 a0 b0) : Ct l yX5_partOf cX5_partOf 7 (some .long) 1 30 G o [.long a0, .long b0, .int 1] X Y (some (.long (b0 / (gcdL 100 a0 b0)))) X Y := by
  refine Ct.mk (by decide +kernel) (Nat.le_of_ble_eq_true rfl) rfl ?_
  intro p9 e9 s9 m9 args9 below9 meth9 c9 hE hr hlocks hK hI ls hl
  have hx := hE.1
  have hb := hE.2.1
  have hl : lv_has ls 7 [(0, .long a0), (2, .long b0), (4, .int 1)] := hl
  refine lv_lconst (v := 1) hx hb dX5_partOf_0 (by decide) ?_
  refine lv_lload_n hx hb dX5_partOf_1 rfl (lv_at hl 0 rfl) ?_
  refine lv_lload_n hx hb dX5_partOf_2 rfl (lv_at hl 1 rfl) ?_
  refine x_callSl hE hK hI (c_X5_commonDivisor l G o _ _ a0 b0 ) mf_X5_commonDivisor mw_247 rfl hl.1 rfl (Nat.le_of_ble_eq_true rfl) ⟨(Nat.le_of_ble_eq_true rfl), (Nat.le_of_ble_eq_true rfl)⟩ ⟨Nat.zero_le _, Nat.zero_le _⟩ dX5_partOf_3 (fun H locs hI => ?_)
  refine va_mmax_long hx hb (hE.2.2.1.trans hl.1.symm) hE.2.2.2.1 (hE.2.2.2.2 _ mw_250) (hE.2.2.2.2 _ mw_251) (hE.2.2.2.2 _ mw_8) (hE.2.2.2.2 _ mw_252) (Nat.le_of_ble_eq_true rfl) (Nat.le_of_ble_eq_true rfl) (Nat.le_of_ble_eq_true rfl) (Nat.le_of_ble_eq_true rfl) dX5_partOf_6 ?_
  refine lv_topl (fun z1 ez1 => ?_)
  obtain rfl : gcdL 100 a0 b0 = z1 := (ez1.trans (i64_max hg)).symm
  refine lv_lstore (lv' := [(5, .long (gcdL 100 a0 b0)), (0, .long a0), (2, .long b0), (4, .int 1)]) hx hb dX5_partOf_9 hl (by decide) rfl (fun ls hl => ?_)
  refine lv_iload hx hb dX5_partOf_11 (lv_at hl 3 rfl) ?_
  refine lv_if_ne (tgt := 20) hx hb dX5_partOf_13 (by decide) (fun _ => ?_) (fun q => absurd q (by decide))
  refine lv_lload_n hx hb dX5_partOf_20 rfl (lv_at hl 2 rfl) ?_
  refine lv_lload hx hb dX5_partOf_21 (lv_at hl 0 rfl) ?_
  refine lv_ldiv hx hb dX5_partOf_23 (i64_n0 hg) ?_
  exact x_lret hE hr hlocks hI rfl rfl rfl dX5_partOf_24
set_option maxRecDepth 100000 in
set_option maxHeartbeats 4000000 in
theorem lp_X6_part_0 (l : Launch) (G : GG) (o : Nat) (X : SX) (Y : SY) (a0 : Int64) (b0 : Int64) {p9 : Program} {e9 : Env} {s9 : State} {m9 : MethodId} {args9 : Array Value} {below9 : List Frame} {meth9 : Method} {c9 : Code} (hE : gE p9 m9 c9 cX6_part 11 s9 args9 yX6_part.cls) (hr : meth9.sig.returnType = (some .long)) (hlocks : meth9.locks = false) (hK : KK G s9) :
    ∀ (n : Nat) (a : Int64) (b : Int64), gok n a b → ¬ gcdL n a b = 0 → ∀ (H : Heap) (locs : List Loc), In G o X Y s9.heap H locs → ∀ ls : Array Slot, lv_has ls 11 [(0, .long a0), (2, .long b0), (4, .int 0), (5, .long a), (7, .long b)] → W p9 l e9 (Rm 0 0) s9 m9 args9 below9 meth9 c9 H locs 0 0 (MQ below9 (Qw G o (some (.long (a0 / gcdL n a b))) X Y) args9 s9 0 0 (rg o)) (F0 m9 17 ls []) := by
  have hx := hE.1
  have hb := hE.2.1
  intro n
  induction n with
  | zero =>
    intro a b hi hnz H locs hI ls hl
    have hb0 : b = 0 := hi
    have hnz : ¬ a = 0 := hnz
    refine lv_lload hx hb dX6_part_17 (lv_at hl 4 rfl) ?_
    refine lv_lconst (v := 0) hx hb dX6_part_19 (by decide) ?_
    refine W.lcmp hx hb dX6_part_20 ?_
    refine lv_if_eq (tgt := 42) hx hb dX6_part_21 (by decide) (fun _ => ?_) (fun q => absurd ((lg_cmp_eq _ _).mpr hb0) q)
    refine lv_iload hx hb dX6_part_42 (lv_at hl 2 rfl) ?_
    refine lv_if_ne (tgt := 54) hx hb dX6_part_44 (by decide) (fun q => absurd (by decide) q) (fun _ => ?_)
    refine lv_lload_n hx hb dX6_part_47 rfl (lv_at hl 0 rfl) ?_
    refine lv_lload hx hb dX6_part_48 (lv_at hl 3 rfl) ?_
    refine lv_ldiv hx hb dX6_part_50 hnz ?_
    refine lv_goto (tgt := 58) hx hb dX6_part_51 (by decide) ?_
    exact x_lret hE hr hlocks hI rfl rfl rfl dX6_part_58
  | succ n ih =>
    intro a b hi hnz H locs hI ls hl
    refine lv_lload hx hb dX6_part_17 (lv_at hl 4 rfl) ?_
    refine lv_lconst (v := 0) hx hb dX6_part_19 (by decide) ?_
    refine W.lcmp hx hb dX6_part_20 ?_
    refine lv_if_eq (tgt := 42) hx hb dX6_part_21 (by decide) (fun c1 => ?_) (fun c1 => ?_)
    · have c1 := (lg_cmp_eq _ _).mp c1
      refine lv_iload hx hb dX6_part_42 (lv_at hl 2 rfl) ?_
      refine lv_if_ne (tgt := 54) hx hb dX6_part_44 (by decide) (fun q => absurd (by decide) q) (fun _ => ?_)
      refine lv_lload_n hx hb dX6_part_47 rfl (lv_at hl 0 rfl) ?_
      refine lv_lload hx hb dX6_part_48 (lv_at hl 3 rfl) ?_
      refine lv_ldiv hx hb dX6_part_50 (fun q => hnz ((if_pos c1).trans q)) ?_
      refine lv_goto (tgt := 58) hx hb dX6_part_51 (by decide) ?_
      exact x_lret hE hr hlocks hI (congrArg (fun q => some (Value.long (a0 / q))) (if_pos c1)) rfl rfl dX6_part_58
    · have c1 := mt (lg_cmp_eq _ _).mpr c1
      refine lv_lload hx hb dX6_part_24 (lv_at hl 3 rfl) ?_
      refine lv_lload hx hb dX6_part_26 (lv_at hl 4 rfl) ?_
      refine lv_lrem hx hb dX6_part_28 c1 ?_
      refine lv_lstore (lv' := [(9, .long (a - a / b * b)), (0, .long a0), (2, .long b0), (4, .int 0), (5, .long a), (7, .long b)]) hx hb dX6_part_29 hl (by decide) rfl (fun ls hl => ?_)
      refine lv_lload hx hb dX6_part_31 (lv_at hl 5 rfl) ?_
      refine lv_lstore (lv' := [(5, .long b), (9, .long (a - a / b * b)), (0, .long a0), (2, .long b0), (4, .int 0), (7, .long b)]) hx hb dX6_part_33 hl (by decide) rfl (fun ls hl => ?_)
      refine lv_lload hx hb dX6_part_35 (lv_at hl 1 rfl) ?_
      refine lv_lstore (lv' := [(7, .long (a - a / b * b)), (5, .long b), (9, .long (a - a / b * b)), (0, .long a0), (2, .long b0), (4, .int 0)]) hx hb dX6_part_37 hl (by decide) rfl (fun ls hl => ?_)
      refine lv_goto (tgt := 17) hx hb dX6_part_39 (by decide) ?_
      have hg2 : gcdL (n + 1) a b = gcdL n b (a - a / b * b) := if_neg c1
      have ih' := ih b (a - a / b * b) (hi.resolve_left c1) (hg2 ▸ hnz) H locs hI ls (lv_sub hl [3, 4, 5, 1, 0] rfl)
      rw [← hg2] at ih'
      exact ih'
set_option maxRecDepth 100000 in
set_option maxHeartbeats 4000000 in
theorem c_X6_part_0 (l : Launch) (G : GG) (o : Nat) (X : SX) (Y : SY) (a0 : Int64) (b0 : Int64) (h0 : 0 ≤ a0) (hk : gok 100 a0 b0) (hg : ¬ (gcdL 100 a0 b0 = 0)) : Ct l yX6_part cX6_part 11 (some .long) 0 0 G o [.long a0, .long b0, .int 0] X Y (some (.long (a0 / gcdL 100 a0 b0))) X Y := by
  refine Ct.mk (by decide +kernel) (Nat.le_of_ble_eq_true rfl) rfl ?_
  intro p9 e9 s9 m9 args9 below9 meth9 c9 hE hr hlocks hK hI ls hl
  have hx := hE.1
  have hb := hE.2.1
  have hl : lv_has ls 11 [(0, .long a0), (2, .long b0), (4, .int 0)] := hl
  refine lv_lload_n hx hb dX6_part_0 rfl (lv_at hl 0 rfl) ?_
  refine lv_lconst (v := 0) hx hb dX6_part_1 (by decide) ?_
  refine W.lcmp hx hb dX6_part_2 ?_
  refine lv_if_ge (tgt := 11) hx hb dX6_part_3 (by decide) (fun _ => ?_) (fun q => absurd ((lg_cmp_ge _ _).mpr h0) q)
  refine lv_lload_n hx hb dX6_part_11 rfl (lv_at hl 0 rfl) ?_
  refine lv_lstore (lv' := [(5, .long a0), (0, .long a0), (2, .long b0), (4, .int 0)]) hx hb dX6_part_12 hl (by decide) rfl (fun ls hl => ?_)
  refine lv_lload_n hx hb dX6_part_14 rfl (lv_at hl 2 rfl) ?_
  refine lv_lstore (lv' := [(7, .long b0), (5, .long a0), (0, .long a0), (2, .long b0), (4, .int 0)]) hx hb dX6_part_15 hl (by decide) rfl (fun ls hl => ?_)
  exact lp_X6_part_0 l G o X Y a0 b0 hE hr hlocks hK 100 a0 b0 hk hg _ _ hI ls (lv_sub hl [2, 3, 4, 1, 0] rfl)
set_option maxRecDepth 100000 in
set_option maxHeartbeats 4000000 in
theorem lp_X6_part_1 (l : Launch) (G : GG) (o : Nat) (X : SX) (Y : SY) (a0 : Int64) (b0 : Int64) {p9 : Program} {e9 : Env} {s9 : State} {m9 : MethodId} {args9 : Array Value} {below9 : List Frame} {meth9 : Method} {c9 : Code} (hE : gE p9 m9 c9 cX6_part 11 s9 args9 yX6_part.cls) (hr : meth9.sig.returnType = (some .long)) (hlocks : meth9.locks = false) (hK : KK G s9) :
    ∀ (n : Nat) (a : Int64) (b : Int64), gok n a b → ¬ gcdL n a b = 0 → ∀ (H : Heap) (locs : List Loc), In G o X Y s9.heap H locs → ∀ ls : Array Slot, lv_has ls 11 [(0, .long a0), (2, .long b0), (4, .int 1), (5, .long a), (7, .long b)] → W p9 l e9 (Rm 0 0) s9 m9 args9 below9 meth9 c9 H locs 0 0 (MQ below9 (Qw G o (some (.long (b0 / gcdL n a b))) X Y) args9 s9 0 0 (rg o)) (F0 m9 17 ls []) := by
  have hx := hE.1
  have hb := hE.2.1
  intro n
  induction n with
  | zero =>
    intro a b hi hnz H locs hI ls hl
    have hb0 : b = 0 := hi
    have hnz : ¬ a = 0 := hnz
    refine lv_lload hx hb dX6_part_17 (lv_at hl 4 rfl) ?_
    refine lv_lconst (v := 0) hx hb dX6_part_19 (by decide) ?_
    refine W.lcmp hx hb dX6_part_20 ?_
    refine lv_if_eq (tgt := 42) hx hb dX6_part_21 (by decide) (fun _ => ?_) (fun q => absurd ((lg_cmp_eq _ _).mpr hb0) q)
    refine lv_iload hx hb dX6_part_42 (lv_at hl 2 rfl) ?_
    refine lv_if_ne (tgt := 54) hx hb dX6_part_44 (by decide) (fun _ => ?_) (fun q => absurd q (by decide))
    refine lv_lload_n hx hb dX6_part_54 rfl (lv_at hl 1 rfl) ?_
    refine lv_lload hx hb dX6_part_55 (lv_at hl 3 rfl) ?_
    refine lv_ldiv hx hb dX6_part_57 hnz ?_
    exact x_lret hE hr hlocks hI rfl rfl rfl dX6_part_58
  | succ n ih =>
    intro a b hi hnz H locs hI ls hl
    refine lv_lload hx hb dX6_part_17 (lv_at hl 4 rfl) ?_
    refine lv_lconst (v := 0) hx hb dX6_part_19 (by decide) ?_
    refine W.lcmp hx hb dX6_part_20 ?_
    refine lv_if_eq (tgt := 42) hx hb dX6_part_21 (by decide) (fun c1 => ?_) (fun c1 => ?_)
    · have c1 := (lg_cmp_eq _ _).mp c1
      refine lv_iload hx hb dX6_part_42 (lv_at hl 2 rfl) ?_
      refine lv_if_ne (tgt := 54) hx hb dX6_part_44 (by decide) (fun _ => ?_) (fun q => absurd q (by decide))
      refine lv_lload_n hx hb dX6_part_54 rfl (lv_at hl 1 rfl) ?_
      refine lv_lload hx hb dX6_part_55 (lv_at hl 3 rfl) ?_
      refine lv_ldiv hx hb dX6_part_57 (fun q => hnz ((if_pos c1).trans q)) ?_
      exact x_lret hE hr hlocks hI (congrArg (fun q => some (Value.long (b0 / q))) (if_pos c1)) rfl rfl dX6_part_58
    · have c1 := mt (lg_cmp_eq _ _).mpr c1
      refine lv_lload hx hb dX6_part_24 (lv_at hl 3 rfl) ?_
      refine lv_lload hx hb dX6_part_26 (lv_at hl 4 rfl) ?_
      refine lv_lrem hx hb dX6_part_28 c1 ?_
      refine lv_lstore (lv' := [(9, .long (a - a / b * b)), (0, .long a0), (2, .long b0), (4, .int 1), (5, .long a), (7, .long b)]) hx hb dX6_part_29 hl (by decide) rfl (fun ls hl => ?_)
      refine lv_lload hx hb dX6_part_31 (lv_at hl 5 rfl) ?_
      refine lv_lstore (lv' := [(5, .long b), (9, .long (a - a / b * b)), (0, .long a0), (2, .long b0), (4, .int 1), (7, .long b)]) hx hb dX6_part_33 hl (by decide) rfl (fun ls hl => ?_)
      refine lv_lload hx hb dX6_part_35 (lv_at hl 1 rfl) ?_
      refine lv_lstore (lv' := [(7, .long (a - a / b * b)), (5, .long b), (9, .long (a - a / b * b)), (0, .long a0), (2, .long b0), (4, .int 1)]) hx hb dX6_part_37 hl (by decide) rfl (fun ls hl => ?_)
      refine lv_goto (tgt := 17) hx hb dX6_part_39 (by decide) ?_
      have hg2 : gcdL (n + 1) a b = gcdL n b (a - a / b * b) := if_neg c1
      have ih' := ih b (a - a / b * b) (hi.resolve_left c1) (hg2 ▸ hnz) H locs hI ls (lv_sub hl [3, 4, 5, 1, 0] rfl)
      rw [← hg2] at ih'
      exact ih'
set_option maxRecDepth 100000 in
set_option maxHeartbeats 4000000 in
theorem c_X6_part_1 (l : Launch) (G : GG) (o : Nat) (X : SX) (Y : SY) (a0 : Int64) (b0 : Int64) (h0 : 0 ≤ a0) (hk : gok 100 a0 b0) (hg : ¬ (gcdL 100 a0 b0 = 0)) : Ct l yX6_part cX6_part 11 (some .long) 0 0 G o [.long a0, .long b0, .int 1] X Y (some (.long (b0 / gcdL 100 a0 b0))) X Y := by
  refine Ct.mk (by decide +kernel) (Nat.le_of_ble_eq_true rfl) rfl ?_
  intro p9 e9 s9 m9 args9 below9 meth9 c9 hE hr hlocks hK hI ls hl
  have hx := hE.1
  have hb := hE.2.1
  have hl : lv_has ls 11 [(0, .long a0), (2, .long b0), (4, .int 1)] := hl
  refine lv_lload_n hx hb dX6_part_0 rfl (lv_at hl 0 rfl) ?_
  refine lv_lconst (v := 0) hx hb dX6_part_1 (by decide) ?_
  refine W.lcmp hx hb dX6_part_2 ?_
  refine lv_if_ge (tgt := 11) hx hb dX6_part_3 (by decide) (fun _ => ?_) (fun q => absurd ((lg_cmp_ge _ _).mpr h0) q)
  refine lv_lload_n hx hb dX6_part_11 rfl (lv_at hl 0 rfl) ?_
  refine lv_lstore (lv' := [(5, .long a0), (0, .long a0), (2, .long b0), (4, .int 1)]) hx hb dX6_part_12 hl (by decide) rfl (fun ls hl => ?_)
  refine lv_lload_n hx hb dX6_part_14 rfl (lv_at hl 2 rfl) ?_
  refine lv_lstore (lv' := [(7, .long b0), (5, .long a0), (0, .long a0), (2, .long b0), (4, .int 1)]) hx hb dX6_part_15 hl (by decide) rfl (fun ls hl => ?_)
  exact lp_X6_part_1 l G o X Y a0 b0 hE hr hlocks hK 100 a0 b0 hk hg _ _ hI ls (lv_sub hl [2, 3, 4, 1, 0] rfl)
