/-! ===== 06: lots ===== -/
/-- by how much one lot is coarser than another -/
def crs (m m' : Nat → Int32) : Int32 := if m 0 = m' 0 then (if m 1 = m' 1 then (if m 2 = m' 2 then (if m 3 = m' 3 then 0 else m 3 - m' 3) else m 2 - m' 2) else m 1 - m' 1) else m 0 - m' 0
def dif (rule : Int32) (m m' : Nat → Int32) : Int32 := if rule = 1 then sum4 m - sum4 m' else if rule = 2 then crs m m' else 0
/-- a lot stands before another, by the rule, the masses and the arrivals -/
abbrev bef (rule : Int32) (m : Nat → Int32) (a : Int32) (m' : Nat → Int32) (a' : Int32) : Prop := if dif rule m m' = 0 then a < a' else 0 < dif rule m m'
def engy (w m : Nat → Int32) : Int32 := 0 + w 0 * m 0 + w 1 * m 1 + w 2 * m 2 + w 3 * m 3
set_option maxRecDepth 100000 in
set_option maxHeartbeats 4000000 in
theorem c_X0_coarserBy (l : Launch) (G : GG) (o : Nat) (X : SX) (Y : SY) (i : Nat) (j : Nat) (h_i : i < 40) (h_j : j < 40) : Ct l yX0_coarserBy cX0_coarserBy 3 (some .int) 0 0 G o [.ref (o + (14 + 2 * i)), .ref (o + (14 + 2 * j))] X Y (some (.int (crs (X (15 + 2 * i)) (X (15 + 2 * j))))) X Y := by
  refine Ct.mk (by decide +kernel) (Nat.le_of_ble_eq_true rfl) rfl ?_
  intro p9 e9 s9 m9 args9 below9 meth9 c9 hE hr hlocks hK hI ls hl
  have hx := hE.1
  have hb := hE.2.1
  have hl : lv_has ls 3 [(0, .ref (o + (14 + 2 * i))), (1, .ref (o + (14 + 2 * j)))] := hl
  refine lv_iconst (v := 0) hx hb dX0_coarserBy_0 (by decide) ?_
  refine lv_istore_n (lv' := [(2, .int 0), (0, .ref (o + (14 + 2 * i))), (1, .ref (o + (14 + 2 * j)))]) hx hb dX0_coarserBy_1 rfl hl (by decide) rfl (fun ls hl => ?_)
  refine lv_iload_n hx hb dX0_coarserBy_2 rfl (lv_at hl 0 rfl) ?_
  refine lv_iconst (v := 4) hx hb dX0_coarserBy_3 (by decide) ?_
  refine lv_icmp_ge (tgt := 42) hx hb dX0_coarserBy_4 (by decide) (fun q => absurd q (by decide)) (fun _ => ?_)
  refine lv_aload_n hx hb dX0_coarserBy_7 rfl (lv_at hl 1 rfl) ?_
  refine x_get (k := (14 + 2 * i)) hE hK hI (by have := h_i; omega) inG0 (el_14 G o h_i _ _) rfl 0 (by decide) mw_78 rfl dX0_coarserBy_8 ?_
  refine lv_iload_n hx hb dX0_coarserBy_11 rfl (lv_at hl 0 rfl) ?_
  refine x_iald (k := (15 + 2 * i)) (j := 0) hE hK hI (by have := h_i; omega) (em_14 G o h_i) (by decide) (by decide) rfl dX0_coarserBy_12 ?_
  refine lv_aload_n hx hb dX0_coarserBy_13 rfl (lv_at hl 2 rfl) ?_
  refine x_get (k := (14 + 2 * j)) hE hK hI (by have := h_j; omega) inG0 (el_14 G o h_j _ _) rfl 0 (by decide) mw_78 rfl dX0_coarserBy_14 ?_
  refine lv_iload_n hx hb dX0_coarserBy_17 rfl (lv_at hl 0 rfl) ?_
  refine x_iald (k := (15 + 2 * j)) (j := 0) hE hK hI (by have := h_j; omega) (em_14 G o h_j) (by decide) (by decide) rfl dX0_coarserBy_18 ?_
  refine lv_icmp_eq (tgt := 36) hx hb dX0_coarserBy_19 (by decide) (fun c1 => ?_) (fun c1 => ?_)
  · refine lv_iinc (v := 1) (lv' := [(2, .int 1), (0, .ref (o + (14 + 2 * i))), (1, .ref (o + (14 + 2 * j)))]) hx hb dX0_coarserBy_36 hl (k := 0) rfl (by decide) (by decide) rfl (fun ls hl => ?_)
    refine lv_goto (tgt := 2) hx hb dX0_coarserBy_39 (by decide) ?_
    refine lv_iload_n hx hb dX0_coarserBy_2 rfl (lv_at hl 0 rfl) ?_
    refine lv_iconst (v := 4) hx hb dX0_coarserBy_3 (by decide) ?_
    refine lv_icmp_ge (tgt := 42) hx hb dX0_coarserBy_4 (by decide) (fun q => absurd q (by decide)) (fun _ => ?_)
    refine lv_aload_n hx hb dX0_coarserBy_7 rfl (lv_at hl 1 rfl) ?_
    refine x_get (k := (14 + 2 * i)) hE hK hI (by have := h_i; omega) inG0 (el_14 G o h_i _ _) rfl 0 (by decide) mw_78 rfl dX0_coarserBy_8 ?_
    refine lv_iload_n hx hb dX0_coarserBy_11 rfl (lv_at hl 0 rfl) ?_
    refine x_iald (k := (15 + 2 * i)) (j := 1) hE hK hI (by have := h_i; omega) (em_14 G o h_i) (by decide) (by decide) rfl dX0_coarserBy_12 ?_
    refine lv_aload_n hx hb dX0_coarserBy_13 rfl (lv_at hl 2 rfl) ?_
    refine x_get (k := (14 + 2 * j)) hE hK hI (by have := h_j; omega) inG0 (el_14 G o h_j _ _) rfl 0 (by decide) mw_78 rfl dX0_coarserBy_14 ?_
    refine lv_iload_n hx hb dX0_coarserBy_17 rfl (lv_at hl 0 rfl) ?_
    refine x_iald (k := (15 + 2 * j)) (j := 1) hE hK hI (by have := h_j; omega) (em_14 G o h_j) (by decide) (by decide) rfl dX0_coarserBy_18 ?_
    refine lv_icmp_eq (tgt := 36) hx hb dX0_coarserBy_19 (by decide) (fun c2 => ?_) (fun c2 => ?_)
    · refine lv_iinc (v := 2) (lv' := [(2, .int 2), (0, .ref (o + (14 + 2 * i))), (1, .ref (o + (14 + 2 * j)))]) hx hb dX0_coarserBy_36 hl (k := 0) rfl (by decide) (by decide) rfl (fun ls hl => ?_)
      refine lv_goto (tgt := 2) hx hb dX0_coarserBy_39 (by decide) ?_
      refine lv_iload_n hx hb dX0_coarserBy_2 rfl (lv_at hl 0 rfl) ?_
      refine lv_iconst (v := 4) hx hb dX0_coarserBy_3 (by decide) ?_
      refine lv_icmp_ge (tgt := 42) hx hb dX0_coarserBy_4 (by decide) (fun q => absurd q (by decide)) (fun _ => ?_)
      refine lv_aload_n hx hb dX0_coarserBy_7 rfl (lv_at hl 1 rfl) ?_
      refine x_get (k := (14 + 2 * i)) hE hK hI (by have := h_i; omega) inG0 (el_14 G o h_i _ _) rfl 0 (by decide) mw_78 rfl dX0_coarserBy_8 ?_
      refine lv_iload_n hx hb dX0_coarserBy_11 rfl (lv_at hl 0 rfl) ?_
      refine x_iald (k := (15 + 2 * i)) (j := 2) hE hK hI (by have := h_i; omega) (em_14 G o h_i) (by decide) (by decide) rfl dX0_coarserBy_12 ?_
      refine lv_aload_n hx hb dX0_coarserBy_13 rfl (lv_at hl 2 rfl) ?_
      refine x_get (k := (14 + 2 * j)) hE hK hI (by have := h_j; omega) inG0 (el_14 G o h_j _ _) rfl 0 (by decide) mw_78 rfl dX0_coarserBy_14 ?_
      refine lv_iload_n hx hb dX0_coarserBy_17 rfl (lv_at hl 0 rfl) ?_
      refine x_iald (k := (15 + 2 * j)) (j := 2) hE hK hI (by have := h_j; omega) (em_14 G o h_j) (by decide) (by decide) rfl dX0_coarserBy_18 ?_
      refine lv_icmp_eq (tgt := 36) hx hb dX0_coarserBy_19 (by decide) (fun c3 => ?_) (fun c3 => ?_)
      · refine lv_iinc (v := 3) (lv' := [(2, .int 3), (0, .ref (o + (14 + 2 * i))), (1, .ref (o + (14 + 2 * j)))]) hx hb dX0_coarserBy_36 hl (k := 0) rfl (by decide) (by decide) rfl (fun ls hl => ?_)
        refine lv_goto (tgt := 2) hx hb dX0_coarserBy_39 (by decide) ?_
        refine lv_iload_n hx hb dX0_coarserBy_2 rfl (lv_at hl 0 rfl) ?_
        refine lv_iconst (v := 4) hx hb dX0_coarserBy_3 (by decide) ?_
        refine lv_icmp_ge (tgt := 42) hx hb dX0_coarserBy_4 (by decide) (fun q => absurd q (by decide)) (fun _ => ?_)
        refine lv_aload_n hx hb dX0_coarserBy_7 rfl (lv_at hl 1 rfl) ?_
        refine x_get (k := (14 + 2 * i)) hE hK hI (by have := h_i; omega) inG0 (el_14 G o h_i _ _) rfl 0 (by decide) mw_78 rfl dX0_coarserBy_8 ?_
        refine lv_iload_n hx hb dX0_coarserBy_11 rfl (lv_at hl 0 rfl) ?_
        refine x_iald (k := (15 + 2 * i)) (j := 3) hE hK hI (by have := h_i; omega) (em_14 G o h_i) (by decide) (by decide) rfl dX0_coarserBy_12 ?_
        refine lv_aload_n hx hb dX0_coarserBy_13 rfl (lv_at hl 2 rfl) ?_
        refine x_get (k := (14 + 2 * j)) hE hK hI (by have := h_j; omega) inG0 (el_14 G o h_j _ _) rfl 0 (by decide) mw_78 rfl dX0_coarserBy_14 ?_
        refine lv_iload_n hx hb dX0_coarserBy_17 rfl (lv_at hl 0 rfl) ?_
        refine x_iald (k := (15 + 2 * j)) (j := 3) hE hK hI (by have := h_j; omega) (em_14 G o h_j) (by decide) (by decide) rfl dX0_coarserBy_18 ?_
        refine lv_icmp_eq (tgt := 36) hx hb dX0_coarserBy_19 (by decide) (fun c4 => ?_) (fun c4 => ?_)
        · refine lv_iinc (v := 4) (lv' := [(2, .int 4), (0, .ref (o + (14 + 2 * i))), (1, .ref (o + (14 + 2 * j)))]) hx hb dX0_coarserBy_36 hl (k := 0) rfl (by decide) (by decide) rfl (fun ls hl => ?_)
          refine lv_goto (tgt := 2) hx hb dX0_coarserBy_39 (by decide) ?_
          refine lv_iload_n hx hb dX0_coarserBy_2 rfl (lv_at hl 0 rfl) ?_
          refine lv_iconst (v := 4) hx hb dX0_coarserBy_3 (by decide) ?_
          refine lv_icmp_ge (tgt := 42) hx hb dX0_coarserBy_4 (by decide) (fun _ => ?_) (fun q => absurd (by decide) q)
          refine lv_iconst (v := 0) hx hb dX0_coarserBy_42 (by decide) ?_
          exact x_iret hE hr hlocks hI (congrArg (fun q => some (Value.int q)) ((if_pos c1).trans ((if_pos c2).trans ((if_pos c3).trans (if_pos c4))))) rfl rfl dX0_coarserBy_43
        · refine lv_aload_n hx hb dX0_coarserBy_22 rfl (lv_at hl 1 rfl) ?_
          refine x_get (k := (14 + 2 * i)) hE hK hI (by have := h_i; omega) inG0 (el_14 G o h_i _ _) rfl 0 (by decide) mw_78 rfl dX0_coarserBy_23 ?_
          refine lv_iload_n hx hb dX0_coarserBy_26 rfl (lv_at hl 0 rfl) ?_
          refine x_iald (k := (15 + 2 * i)) (j := 3) hE hK hI (by have := h_i; omega) (em_14 G o h_i) (by decide) (by decide) rfl dX0_coarserBy_27 ?_
          refine lv_aload_n hx hb dX0_coarserBy_28 rfl (lv_at hl 2 rfl) ?_
          refine x_get (k := (14 + 2 * j)) hE hK hI (by have := h_j; omega) inG0 (el_14 G o h_j _ _) rfl 0 (by decide) mw_78 rfl dX0_coarserBy_29 ?_
          refine lv_iload_n hx hb dX0_coarserBy_32 rfl (lv_at hl 0 rfl) ?_
          refine x_iald (k := (15 + 2 * j)) (j := 3) hE hK hI (by have := h_j; omega) (em_14 G o h_j) (by decide) (by decide) rfl dX0_coarserBy_33 ?_
          refine lv_isub hx hb dX0_coarserBy_34 ?_
          exact x_iret hE hr hlocks hI (congrArg (fun q => some (Value.int q)) ((if_pos c1).trans ((if_pos c2).trans ((if_pos c3).trans (if_neg c4))))) rfl rfl dX0_coarserBy_35
      · refine lv_aload_n hx hb dX0_coarserBy_22 rfl (lv_at hl 1 rfl) ?_
        refine x_get (k := (14 + 2 * i)) hE hK hI (by have := h_i; omega) inG0 (el_14 G o h_i _ _) rfl 0 (by decide) mw_78 rfl dX0_coarserBy_23 ?_
        refine lv_iload_n hx hb dX0_coarserBy_26 rfl (lv_at hl 0 rfl) ?_
        refine x_iald (k := (15 + 2 * i)) (j := 2) hE hK hI (by have := h_i; omega) (em_14 G o h_i) (by decide) (by decide) rfl dX0_coarserBy_27 ?_
        refine lv_aload_n hx hb dX0_coarserBy_28 rfl (lv_at hl 2 rfl) ?_
        refine x_get (k := (14 + 2 * j)) hE hK hI (by have := h_j; omega) inG0 (el_14 G o h_j _ _) rfl 0 (by decide) mw_78 rfl dX0_coarserBy_29 ?_
        refine lv_iload_n hx hb dX0_coarserBy_32 rfl (lv_at hl 0 rfl) ?_
        refine x_iald (k := (15 + 2 * j)) (j := 2) hE hK hI (by have := h_j; omega) (em_14 G o h_j) (by decide) (by decide) rfl dX0_coarserBy_33 ?_
        refine lv_isub hx hb dX0_coarserBy_34 ?_
        exact x_iret hE hr hlocks hI (congrArg (fun q => some (Value.int q)) ((if_pos c1).trans ((if_pos c2).trans (if_neg c3)))) rfl rfl dX0_coarserBy_35
    · refine lv_aload_n hx hb dX0_coarserBy_22 rfl (lv_at hl 1 rfl) ?_
      refine x_get (k := (14 + 2 * i)) hE hK hI (by have := h_i; omega) inG0 (el_14 G o h_i _ _) rfl 0 (by decide) mw_78 rfl dX0_coarserBy_23 ?_
      refine lv_iload_n hx hb dX0_coarserBy_26 rfl (lv_at hl 0 rfl) ?_
      refine x_iald (k := (15 + 2 * i)) (j := 1) hE hK hI (by have := h_i; omega) (em_14 G o h_i) (by decide) (by decide) rfl dX0_coarserBy_27 ?_
      refine lv_aload_n hx hb dX0_coarserBy_28 rfl (lv_at hl 2 rfl) ?_
      refine x_get (k := (14 + 2 * j)) hE hK hI (by have := h_j; omega) inG0 (el_14 G o h_j _ _) rfl 0 (by decide) mw_78 rfl dX0_coarserBy_29 ?_
      refine lv_iload_n hx hb dX0_coarserBy_32 rfl (lv_at hl 0 rfl) ?_
      refine x_iald (k := (15 + 2 * j)) (j := 1) hE hK hI (by have := h_j; omega) (em_14 G o h_j) (by decide) (by decide) rfl dX0_coarserBy_33 ?_
      refine lv_isub hx hb dX0_coarserBy_34 ?_
      exact x_iret hE hr hlocks hI (congrArg (fun q => some (Value.int q)) ((if_pos c1).trans (if_neg c2))) rfl rfl dX0_coarserBy_35
  · refine lv_aload_n hx hb dX0_coarserBy_22 rfl (lv_at hl 1 rfl) ?_
    refine x_get (k := (14 + 2 * i)) hE hK hI (by have := h_i; omega) inG0 (el_14 G o h_i _ _) rfl 0 (by decide) mw_78 rfl dX0_coarserBy_23 ?_
    refine lv_iload_n hx hb dX0_coarserBy_26 rfl (lv_at hl 0 rfl) ?_
    refine x_iald (k := (15 + 2 * i)) (j := 0) hE hK hI (by have := h_i; omega) (em_14 G o h_i) (by decide) (by decide) rfl dX0_coarserBy_27 ?_
    refine lv_aload_n hx hb dX0_coarserBy_28 rfl (lv_at hl 2 rfl) ?_
    refine x_get (k := (14 + 2 * j)) hE hK hI (by have := h_j; omega) inG0 (el_14 G o h_j _ _) rfl 0 (by decide) mw_78 rfl dX0_coarserBy_29 ?_
    refine lv_iload_n hx hb dX0_coarserBy_32 rfl (lv_at hl 0 rfl) ?_
    refine x_iald (k := (15 + 2 * j)) (j := 0) hE hK hI (by have := h_j; omega) (em_14 G o h_j) (by decide) (by decide) rfl dX0_coarserBy_33 ?_
    refine lv_isub hx hb dX0_coarserBy_34 ?_
    exact x_iret hE hr hlocks hI (congrArg (fun q => some (Value.int q)) (if_neg c1)) rfl rfl dX0_coarserBy_35
set_option maxRecDepth 100000 in
set_option maxHeartbeats 4000000 in
theorem c_X0_standsBefore (l : Launch) (G : GG) (o : Nat) (X : SX) (Y : SY) (i : Nat) (j : Nat) (r : Int32) (h_i : i < 40) (h_j : j < 40) : Ct l yX0_standsBefore cX0_standsBefore 4 (some .boolean) 1 25 G o [.ref (o + (14 + 2 * i)), .ref (o + (14 + 2 * j)), .int r] X Y (some (.int (bI (bef r (X (15 + 2 * i)) (X (14 + 2 * i) 3) (X (15 + 2 * j)) (X (14 + 2 * j) 3))))) X Y := by
  refine Ct.mk (by decide +kernel) (Nat.le_of_ble_eq_true rfl) rfl ?_
  intro p9 e9 s9 m9 args9 below9 meth9 c9 hE hr hlocks hK hI ls hl
  have hx := hE.1
  have hb := hE.2.1
  have hl : lv_has ls 4 [(0, .ref (o + (14 + 2 * i))), (1, .ref (o + (14 + 2 * j))), (2, .int r)] := hl
  refine lv_iconst (v := 0) hx hb dX0_standsBefore_0 (by decide) ?_
  refine lv_istore_n (lv' := [(3, .int 0), (0, .ref (o + (14 + 2 * i))), (1, .ref (o + (14 + 2 * j))), (2, .int r)]) hx hb dX0_standsBefore_1 rfl hl (by decide) rfl (fun ls hl => ?_)
  refine lv_iload_n hx hb dX0_standsBefore_2 rfl (lv_at hl 3 rfl) ?_
  refine lv_iconst (v := 1) hx hb dX0_standsBefore_3 (by decide) ?_
  refine lv_icmp_ne (tgt := 26) hx hb dX0_standsBefore_4 (by decide) (fun c1 => ?_) (fun c1 => ?_)
  · refine lv_iload_n hx hb dX0_standsBefore_26 rfl (lv_at hl 3 rfl) ?_
    refine lv_iconst (v := 2) hx hb dX0_standsBefore_27 (by decide) ?_
    refine lv_icmp_ne (tgt := 37) hx hb dX0_standsBefore_28 (by decide) (fun c2 => ?_) (fun c2 => ?_)
    · refine lv_iload_n hx hb dX0_standsBefore_37 rfl (lv_at hl 0 rfl) ?_
      refine lv_if_ne (tgt := 60) hx hb dX0_standsBefore_38 (by decide) (fun q => absurd (by decide) q) (fun _ => ?_)
      refine lv_aload_n hx hb dX0_standsBefore_41 rfl (lv_at hl 1 rfl) ?_
      refine x_get (k := (14 + 2 * i)) hE hK hI (by have := h_i; omega) inG0 (el_14 G o h_i _ _) rfl 3 (by decide) mw_86 rfl dX0_standsBefore_42 ?_
      refine lv_aload_n hx hb dX0_standsBefore_45 rfl (lv_at hl 2 rfl) ?_
      refine x_get (k := (14 + 2 * j)) hE hK hI (by have := h_j; omega) inG0 (el_14 G o h_j _ _) rfl 3 (by decide) mw_86 rfl dX0_standsBefore_46 ?_
      refine lv_icmp_ge (tgt := 56) hx hb dX0_standsBefore_49 (by decide) (fun c3 => ?_) (fun c3 => ?_)
      · refine lv_iconst (v := 0) hx hb dX0_standsBefore_56 (by decide) ?_
        refine lv_goto (tgt := 69) hx hb dX0_standsBefore_57 (by decide) ?_
        exact x_zret hE hr hlocks hI (by decide) (rI0 (by have hd : dif r (X (15 + 2 * i)) (X (15 + 2 * j)) = _ := ((if_neg c1).trans (if_neg c2)); unfold bef; rw [hd]; simp [Int32.not_lt.mpr c3])) rfl rfl dX0_standsBefore_69
      · refine lv_iconst (v := 1) hx hb dX0_standsBefore_52 (by decide) ?_
        refine lv_goto (tgt := 69) hx hb dX0_standsBefore_53 (by decide) ?_
        exact x_zret hE hr hlocks hI (by decide) (rI1 (by have hd : dif r (X (15 + 2 * i)) (X (15 + 2 * j)) = _ := ((if_neg c1).trans (if_neg c2)); unfold bef; rw [hd]; simp [Int32.not_le.mp c3])) rfl rfl dX0_standsBefore_69
    · refine lv_aload_n hx hb dX0_standsBefore_31 rfl (lv_at hl 1 rfl) ?_
      refine lv_aload_n hx hb dX0_standsBefore_32 rfl (lv_at hl 2 rfl) ?_
      refine x_callVi (k := (14 + 2 * i)) hE hK hI (c_X0_coarserBy l G o _ _ i j h_i h_j) mf_X0_coarserBy mw_333 (by have := h_i; omega) ((el_14 G o h_i) _ _) rfl rfl hl.1 rfl (Nat.le_of_ble_eq_true rfl) ⟨(Nat.le_of_ble_eq_true rfl), (Nat.le_of_ble_eq_true rfl)⟩ ⟨Nat.zero_le _, Nat.zero_le _⟩ dX0_standsBefore_33 (fun H locs hI => ?_)
      refine lv_istore_n (lv' := [(3, .int (crs (X (15 + 2 * i)) (X (15 + 2 * j)))), (0, .ref (o + (14 + 2 * i))), (1, .ref (o + (14 + 2 * j))), (2, .int r)]) hx hb dX0_standsBefore_36 rfl hl (by decide) rfl (fun ls hl => ?_)
      refine lv_iload_n hx hb dX0_standsBefore_37 rfl (lv_at hl 0 rfl) ?_
      refine lv_if_ne (tgt := 60) hx hb dX0_standsBefore_38 (by decide) (fun c4 => ?_) (fun c4 => ?_)
      · refine lv_iload_n hx hb dX0_standsBefore_60 rfl (lv_at hl 0 rfl) ?_
        refine lv_if_le (tgt := 68) hx hb dX0_standsBefore_61 (by decide) (fun c5 => ?_) (fun c5 => ?_)
        · refine lv_iconst (v := 0) hx hb dX0_standsBefore_68 (by decide) ?_
          exact x_zret hE hr hlocks hI (by decide) (rI0 (by have hd : dif r (X (15 + 2 * i)) (X (15 + 2 * j)) = _ := ((if_neg c1).trans (if_pos c2)); unfold bef; rw [hd]; simp [c4, Int32.not_lt.mpr c5])) rfl rfl dX0_standsBefore_69
        · refine lv_iconst (v := 1) hx hb dX0_standsBefore_64 (by decide) ?_
          refine lv_goto (tgt := 69) hx hb dX0_standsBefore_65 (by decide) ?_
          exact x_zret hE hr hlocks hI (by decide) (rI1 (by have hd : dif r (X (15 + 2 * i)) (X (15 + 2 * j)) = _ := ((if_neg c1).trans (if_pos c2)); unfold bef; rw [hd]; simp [c4, Int32.not_le.mp c5])) rfl rfl dX0_standsBefore_69
      · refine lv_aload_n hx hb dX0_standsBefore_41 rfl (lv_at hl 1 rfl) ?_
        refine x_get (k := (14 + 2 * i)) hE hK hI (by have := h_i; omega) inG0 (el_14 G o h_i _ _) rfl 3 (by decide) mw_86 rfl dX0_standsBefore_42 ?_
        refine lv_aload_n hx hb dX0_standsBefore_45 rfl (lv_at hl 2 rfl) ?_
        refine x_get (k := (14 + 2 * j)) hE hK hI (by have := h_j; omega) inG0 (el_14 G o h_j _ _) rfl 3 (by decide) mw_86 rfl dX0_standsBefore_46 ?_
        refine lv_icmp_ge (tgt := 56) hx hb dX0_standsBefore_49 (by decide) (fun c6 => ?_) (fun c6 => ?_)
        · refine lv_iconst (v := 0) hx hb dX0_standsBefore_56 (by decide) ?_
          refine lv_goto (tgt := 69) hx hb dX0_standsBefore_57 (by decide) ?_
          exact x_zret hE hr hlocks hI (by decide) (rI0 (by have hd : dif r (X (15 + 2 * i)) (X (15 + 2 * j)) = _ := ((if_neg c1).trans (if_pos c2)); unfold bef; rw [hd]; simp [c4, Int32.not_lt.mpr c6])) rfl rfl dX0_standsBefore_69
        · refine lv_iconst (v := 1) hx hb dX0_standsBefore_52 (by decide) ?_
          refine lv_goto (tgt := 69) hx hb dX0_standsBefore_53 (by decide) ?_
          exact x_zret hE hr hlocks hI (by decide) (rI1 (by have hd : dif r (X (15 + 2 * i)) (X (15 + 2 * j)) = _ := ((if_neg c1).trans (if_pos c2)); unfold bef; rw [hd]; simp [c4, Int32.not_le.mp c6])) rfl rfl dX0_standsBefore_69
  · refine lv_aload_n hx hb dX0_standsBefore_7 rfl (lv_at hl 1 rfl) ?_
    refine x_get (k := (14 + 2 * i)) hE hK hI (by have := h_i; omega) inG0 (el_14 G o h_i _ _) rfl 0 (by decide) mw_78 rfl dX0_standsBefore_8 ?_
    refine x_callNi hE hK hI (c_X5_sum l G o _ _ (15 + 2 * i) (em_14 G o h_i) (by have := h_i; omega)) mf_X5_sum hK.2.2.1 rfl hl.1 rfl (Nat.le_of_ble_eq_true rfl) ⟨(Nat.le_of_ble_eq_true rfl), (Nat.le_of_ble_eq_true rfl)⟩ ⟨Nat.zero_le _, Nat.zero_le _⟩ dX0_standsBefore_11 (fun H locs hI => ?_)
    refine lv_aload_n hx hb dX0_standsBefore_14 rfl (lv_at hl 2 rfl) ?_
    refine x_get (k := (14 + 2 * j)) hE hK hI (by have := h_j; omega) inG0 (el_14 G o h_j _ _) rfl 0 (by decide) mw_78 rfl dX0_standsBefore_15 ?_
    refine x_callNi hE hK hI (c_X5_sum l G o _ _ (15 + 2 * j) (em_14 G o h_j) (by have := h_j; omega)) mf_X5_sum hK.2.2.1 rfl hl.1 rfl (Nat.le_of_ble_eq_true rfl) ⟨(Nat.le_of_ble_eq_true rfl), (Nat.le_of_ble_eq_true rfl)⟩ ⟨Nat.zero_le _, Nat.zero_le _⟩ dX0_standsBefore_18 (fun H locs hI => ?_)
    refine lv_isub hx hb dX0_standsBefore_21 ?_
    refine lv_istore_n (lv' := [(3, .int ((sum4 (X (15 + 2 * i))) - (sum4 (X (15 + 2 * j))))), (0, .ref (o + (14 + 2 * i))), (1, .ref (o + (14 + 2 * j))), (2, .int r)]) hx hb dX0_standsBefore_22 rfl hl (by decide) rfl (fun ls hl => ?_)
    refine lv_goto (tgt := 37) hx hb dX0_standsBefore_23 (by decide) ?_
    refine lv_iload_n hx hb dX0_standsBefore_37 rfl (lv_at hl 0 rfl) ?_
    refine lv_if_ne (tgt := 60) hx hb dX0_standsBefore_38 (by decide) (fun c7 => ?_) (fun c7 => ?_)
    · refine lv_iload_n hx hb dX0_standsBefore_60 rfl (lv_at hl 0 rfl) ?_
      refine lv_if_le (tgt := 68) hx hb dX0_standsBefore_61 (by decide) (fun c8 => ?_) (fun c8 => ?_)
      · refine lv_iconst (v := 0) hx hb dX0_standsBefore_68 (by decide) ?_
        exact x_zret hE hr hlocks hI (by decide) (rI0 (by have hd : dif r (X (15 + 2 * i)) (X (15 + 2 * j)) = _ := (if_pos c1); unfold bef; rw [hd]; simp [c7, Int32.not_lt.mpr c8])) rfl rfl dX0_standsBefore_69
      · refine lv_iconst (v := 1) hx hb dX0_standsBefore_64 (by decide) ?_
        refine lv_goto (tgt := 69) hx hb dX0_standsBefore_65 (by decide) ?_
        exact x_zret hE hr hlocks hI (by decide) (rI1 (by have hd : dif r (X (15 + 2 * i)) (X (15 + 2 * j)) = _ := (if_pos c1); unfold bef; rw [hd]; simp [c7, Int32.not_le.mp c8])) rfl rfl dX0_standsBefore_69
    · refine lv_aload_n hx hb dX0_standsBefore_41 rfl (lv_at hl 1 rfl) ?_
      refine x_get (k := (14 + 2 * i)) hE hK hI (by have := h_i; omega) inG0 (el_14 G o h_i _ _) rfl 3 (by decide) mw_86 rfl dX0_standsBefore_42 ?_
      refine lv_aload_n hx hb dX0_standsBefore_45 rfl (lv_at hl 2 rfl) ?_
      refine x_get (k := (14 + 2 * j)) hE hK hI (by have := h_j; omega) inG0 (el_14 G o h_j _ _) rfl 3 (by decide) mw_86 rfl dX0_standsBefore_46 ?_
      refine lv_icmp_ge (tgt := 56) hx hb dX0_standsBefore_49 (by decide) (fun c9 => ?_) (fun c9 => ?_)
      · refine lv_iconst (v := 0) hx hb dX0_standsBefore_56 (by decide) ?_
        refine lv_goto (tgt := 69) hx hb dX0_standsBefore_57 (by decide) ?_
        exact x_zret hE hr hlocks hI (by decide) (rI0 (by have hd : dif r (X (15 + 2 * i)) (X (15 + 2 * j)) = _ := (if_pos c1); unfold bef; rw [hd]; simp [c7, Int32.not_lt.mpr c9])) rfl rfl dX0_standsBefore_69
      · refine lv_iconst (v := 1) hx hb dX0_standsBefore_52 (by decide) ?_
        refine lv_goto (tgt := 69) hx hb dX0_standsBefore_53 (by decide) ?_
        exact x_zret hE hr hlocks hI (by decide) (rI1 (by have hd : dif r (X (15 + 2 * i)) (X (15 + 2 * j)) = _ := (if_pos c1); unfold bef; rw [hd]; simp [c7, Int32.not_le.mp c9])) rfl rfl dX0_standsBefore_69
set_option maxRecDepth 100000 in
set_option maxHeartbeats 4000000 in
theorem c_X0_energyToGrind (l : Launch) (G : GG) (o : Nat) (X : SX) (Y : SY) (i : Nat) (h_i : i < 40) : Ct l yX0_energyToGrind cX0_energyToGrind 4 (some .int) 0 0 G o [.ref (o + (14 + 2 * i)), .ref (o + 9)] X Y (some (.int (engy (X 9) (X (15 + 2 * i))))) X Y := by
  refine Ct.mk (by decide +kernel) (Nat.le_of_ble_eq_true rfl) rfl ?_
  intro p9 e9 s9 m9 args9 below9 meth9 c9 hE hr hlocks hK hI ls hl
  have hx := hE.1
  have hb := hE.2.1
  have hl : lv_has ls 4 [(0, .ref (o + (14 + 2 * i))), (1, .ref (o + 9))] := hl
  refine lv_iconst (v := 0) hx hb dX0_energyToGrind_0 (by decide) ?_
  refine lv_istore_n (lv' := [(2, .int 0), (0, .ref (o + (14 + 2 * i))), (1, .ref (o + 9))]) hx hb dX0_energyToGrind_1 rfl hl (by decide) rfl (fun ls hl => ?_)
  refine lv_iconst (v := 0) hx hb dX0_energyToGrind_2 (by decide) ?_
  refine lv_istore_n (lv' := [(3, .int 0), (2, .int 0), (0, .ref (o + (14 + 2 * i))), (1, .ref (o + 9))]) hx hb dX0_energyToGrind_3 rfl hl (by decide) rfl (fun ls hl => ?_)
  refine lv_iload_n hx hb dX0_energyToGrind_4 rfl (lv_at hl 0 rfl) ?_
  refine lv_iconst (v := 4) hx hb dX0_energyToGrind_5 (by decide) ?_
  refine lv_icmp_ge (tgt := 28) hx hb dX0_energyToGrind_6 (by decide) (fun q => absurd q (by decide)) (fun _ => ?_)
  refine lv_iload_n hx hb dX0_energyToGrind_9 rfl (lv_at hl 1 rfl) ?_
  refine lv_aload_n hx hb dX0_energyToGrind_10 rfl (lv_at hl 3 rfl) ?_
  refine lv_iload_n hx hb dX0_energyToGrind_11 rfl (lv_at hl 0 rfl) ?_
  refine x_iald (k := 9) (j := 0) hE hK hI (by decide) (e_9 G o) (by decide) (by decide) rfl dX0_energyToGrind_12 ?_
  refine lv_aload_n hx hb dX0_energyToGrind_13 rfl (lv_at hl 2 rfl) ?_
  refine x_get (k := (14 + 2 * i)) hE hK hI (by have := h_i; omega) inG0 (el_14 G o h_i _ _) rfl 0 (by decide) mw_78 rfl dX0_energyToGrind_14 ?_
  refine lv_iload_n hx hb dX0_energyToGrind_17 rfl (lv_at hl 0 rfl) ?_
  refine x_iald (k := (15 + 2 * i)) (j := 0) hE hK hI (by have := h_i; omega) (em_14 G o h_i) (by decide) (by decide) rfl dX0_energyToGrind_18 ?_
  refine lv_imul hx hb dX0_energyToGrind_19 ?_
  refine lv_iadd hx hb dX0_energyToGrind_20 ?_
  refine lv_istore_n (lv' := [(2, .int (0 + ((X 9 0) * (X (15 + 2 * i) 0)))), (3, .int 0), (0, .ref (o + (14 + 2 * i))), (1, .ref (o + 9))]) hx hb dX0_energyToGrind_21 rfl hl (by decide) rfl (fun ls hl => ?_)
  refine lv_iinc (v := 1) (lv' := [(3, .int 1), (2, .int (0 + ((X 9 0) * (X (15 + 2 * i) 0)))), (0, .ref (o + (14 + 2 * i))), (1, .ref (o + 9))]) hx hb dX0_energyToGrind_22 hl (k := 1) rfl (by decide) (by decide) rfl (fun ls hl => ?_)
  refine lv_goto (tgt := 4) hx hb dX0_energyToGrind_25 (by decide) ?_
  refine lv_iload_n hx hb dX0_energyToGrind_4 rfl (lv_at hl 0 rfl) ?_
  refine lv_iconst (v := 4) hx hb dX0_energyToGrind_5 (by decide) ?_
  refine lv_icmp_ge (tgt := 28) hx hb dX0_energyToGrind_6 (by decide) (fun q => absurd q (by decide)) (fun _ => ?_)
  refine lv_iload_n hx hb dX0_energyToGrind_9 rfl (lv_at hl 1 rfl) ?_
  refine lv_aload_n hx hb dX0_energyToGrind_10 rfl (lv_at hl 3 rfl) ?_
  refine lv_iload_n hx hb dX0_energyToGrind_11 rfl (lv_at hl 0 rfl) ?_
  refine x_iald (k := 9) (j := 1) hE hK hI (by decide) (e_9 G o) (by decide) (by decide) rfl dX0_energyToGrind_12 ?_
  refine lv_aload_n hx hb dX0_energyToGrind_13 rfl (lv_at hl 2 rfl) ?_
  refine x_get (k := (14 + 2 * i)) hE hK hI (by have := h_i; omega) inG0 (el_14 G o h_i _ _) rfl 0 (by decide) mw_78 rfl dX0_energyToGrind_14 ?_
  refine lv_iload_n hx hb dX0_energyToGrind_17 rfl (lv_at hl 0 rfl) ?_
  refine x_iald (k := (15 + 2 * i)) (j := 1) hE hK hI (by have := h_i; omega) (em_14 G o h_i) (by decide) (by decide) rfl dX0_energyToGrind_18 ?_
  refine lv_imul hx hb dX0_energyToGrind_19 ?_
  refine lv_iadd hx hb dX0_energyToGrind_20 ?_
  refine lv_istore_n (lv' := [(2, .int ((0 + ((X 9 0) * (X (15 + 2 * i) 0))) + ((X 9 1) * (X (15 + 2 * i) 1)))), (3, .int 1), (0, .ref (o + (14 + 2 * i))), (1, .ref (o + 9))]) hx hb dX0_energyToGrind_21 rfl hl (by decide) rfl (fun ls hl => ?_)
  refine lv_iinc (v := 2) (lv' := [(3, .int 2), (2, .int ((0 + ((X 9 0) * (X (15 + 2 * i) 0))) + ((X 9 1) * (X (15 + 2 * i) 1)))), (0, .ref (o + (14 + 2 * i))), (1, .ref (o + 9))]) hx hb dX0_energyToGrind_22 hl (k := 1) rfl (by decide) (by decide) rfl (fun ls hl => ?_)
  refine lv_goto (tgt := 4) hx hb dX0_energyToGrind_25 (by decide) ?_
  refine lv_iload_n hx hb dX0_energyToGrind_4 rfl (lv_at hl 0 rfl) ?_
  refine lv_iconst (v := 4) hx hb dX0_energyToGrind_5 (by decide) ?_
  refine lv_icmp_ge (tgt := 28) hx hb dX0_energyToGrind_6 (by decide) (fun q => absurd q (by decide)) (fun _ => ?_)
  refine lv_iload_n hx hb dX0_energyToGrind_9 rfl (lv_at hl 1 rfl) ?_
  refine lv_aload_n hx hb dX0_energyToGrind_10 rfl (lv_at hl 3 rfl) ?_
  refine lv_iload_n hx hb dX0_energyToGrind_11 rfl (lv_at hl 0 rfl) ?_
  refine x_iald (k := 9) (j := 2) hE hK hI (by decide) (e_9 G o) (by decide) (by decide) rfl dX0_energyToGrind_12 ?_
  refine lv_aload_n hx hb dX0_energyToGrind_13 rfl (lv_at hl 2 rfl) ?_
  refine x_get (k := (14 + 2 * i)) hE hK hI (by have := h_i; omega) inG0 (el_14 G o h_i _ _) rfl 0 (by decide) mw_78 rfl dX0_energyToGrind_14 ?_
  refine lv_iload_n hx hb dX0_energyToGrind_17 rfl (lv_at hl 0 rfl) ?_
  refine x_iald (k := (15 + 2 * i)) (j := 2) hE hK hI (by have := h_i; omega) (em_14 G o h_i) (by decide) (by decide) rfl dX0_energyToGrind_18 ?_
  refine lv_imul hx hb dX0_energyToGrind_19 ?_
  refine lv_iadd hx hb dX0_energyToGrind_20 ?_
  refine lv_istore_n (lv' := [(2, .int (((0 + ((X 9 0) * (X (15 + 2 * i) 0))) + ((X 9 1) * (X (15 + 2 * i) 1))) + ((X 9 2) * (X (15 + 2 * i) 2)))), (3, .int 2), (0, .ref (o + (14 + 2 * i))), (1, .ref (o + 9))]) hx hb dX0_energyToGrind_21 rfl hl (by decide) rfl (fun ls hl => ?_)
  refine lv_iinc (v := 3) (lv' := [(3, .int 3), (2, .int (((0 + ((X 9 0) * (X (15 + 2 * i) 0))) + ((X 9 1) * (X (15 + 2 * i) 1))) + ((X 9 2) * (X (15 + 2 * i) 2)))), (0, .ref (o + (14 + 2 * i))), (1, .ref (o + 9))]) hx hb dX0_energyToGrind_22 hl (k := 1) rfl (by decide) (by decide) rfl (fun ls hl => ?_)
  refine lv_goto (tgt := 4) hx hb dX0_energyToGrind_25 (by decide) ?_
  refine lv_iload_n hx hb dX0_energyToGrind_4 rfl (lv_at hl 0 rfl) ?_
  refine lv_iconst (v := 4) hx hb dX0_energyToGrind_5 (by decide) ?_
  refine lv_icmp_ge (tgt := 28) hx hb dX0_energyToGrind_6 (by decide) (fun q => absurd q (by decide)) (fun _ => ?_)
  refine lv_iload_n hx hb dX0_energyToGrind_9 rfl (lv_at hl 1 rfl) ?_
  refine lv_aload_n hx hb dX0_energyToGrind_10 rfl (lv_at hl 3 rfl) ?_
  refine lv_iload_n hx hb dX0_energyToGrind_11 rfl (lv_at hl 0 rfl) ?_
  refine x_iald (k := 9) (j := 3) hE hK hI (by decide) (e_9 G o) (by decide) (by decide) rfl dX0_energyToGrind_12 ?_
  refine lv_aload_n hx hb dX0_energyToGrind_13 rfl (lv_at hl 2 rfl) ?_
  refine x_get (k := (14 + 2 * i)) hE hK hI (by have := h_i; omega) inG0 (el_14 G o h_i _ _) rfl 0 (by decide) mw_78 rfl dX0_energyToGrind_14 ?_
  refine lv_iload_n hx hb dX0_energyToGrind_17 rfl (lv_at hl 0 rfl) ?_
  refine x_iald (k := (15 + 2 * i)) (j := 3) hE hK hI (by have := h_i; omega) (em_14 G o h_i) (by decide) (by decide) rfl dX0_energyToGrind_18 ?_
  refine lv_imul hx hb dX0_energyToGrind_19 ?_
  refine lv_iadd hx hb dX0_energyToGrind_20 ?_
  refine lv_istore_n (lv' := [(2, .int ((((0 + ((X 9 0) * (X (15 + 2 * i) 0))) + ((X 9 1) * (X (15 + 2 * i) 1))) + ((X 9 2) * (X (15 + 2 * i) 2))) + ((X 9 3) * (X (15 + 2 * i) 3)))), (3, .int 3), (0, .ref (o + (14 + 2 * i))), (1, .ref (o + 9))]) hx hb dX0_energyToGrind_21 rfl hl (by decide) rfl (fun ls hl => ?_)
  refine lv_iinc (v := 4) (lv' := [(3, .int 4), (2, .int ((((0 + ((X 9 0) * (X (15 + 2 * i) 0))) + ((X 9 1) * (X (15 + 2 * i) 1))) + ((X 9 2) * (X (15 + 2 * i) 2))) + ((X 9 3) * (X (15 + 2 * i) 3)))), (0, .ref (o + (14 + 2 * i))), (1, .ref (o + 9))]) hx hb dX0_energyToGrind_22 hl (k := 1) rfl (by decide) (by decide) rfl (fun ls hl => ?_)
  refine lv_goto (tgt := 4) hx hb dX0_energyToGrind_25 (by decide) ?_
  refine lv_iload_n hx hb dX0_energyToGrind_4 rfl (lv_at hl 0 rfl) ?_
  refine lv_iconst (v := 4) hx hb dX0_energyToGrind_5 (by decide) ?_
  refine lv_icmp_ge (tgt := 28) hx hb dX0_energyToGrind_6 (by decide) (fun _ => ?_) (fun q => absurd (by decide) q)
  refine lv_iload_n hx hb dX0_energyToGrind_28 rfl (lv_at hl 1 rfl) ?_
  exact x_iret hE hr hlocks hI rfl rfl rfl dX0_energyToGrind_29
def brkX (X : SX) (i : Nat) : SX := sx (sx (sx (sx (sx (sx (sx (sx (sx (sx (sx (sx X (15 + 2 * i) 3 ((X (15 + 2 * i) 3) + (((X (15 + 2 * i) 2) * (X 6 3)) / 10))) (15 + 2 * i) 2 ((X (15 + 2 * i) 2) - (((X (15 + 2 * i) 2) * (X 6 3)) / 10))) (15 + 2 * i) 2 (((X (15 + 2 * i) 2) - (((X (15 + 2 * i) 2) * (X 6 3)) / 10)) + (((X (15 + 2 * i) 1) * (X 5 2)) / 10))) (15 + 2 * i) 1 ((X (15 + 2 * i) 1) - (((X (15 + 2 * i) 1) * (X 5 2)) / 10))) (15 + 2 * i) 3 (((X (15 + 2 * i) 3) + (((X (15 + 2 * i) 2) * (X 6 3)) / 10)) + (((X (15 + 2 * i) 1) * (X 5 3)) / 10))) (15 + 2 * i) 1 (((X (15 + 2 * i) 1) - (((X (15 + 2 * i) 1) * (X 5 2)) / 10)) - (((X (15 + 2 * i) 1) * (X 5 3)) / 10))) (15 + 2 * i) 1 ((((X (15 + 2 * i) 1) - (((X (15 + 2 * i) 1) * (X 5 2)) / 10)) - (((X (15 + 2 * i) 1) * (X 5 3)) / 10)) + (((X (15 + 2 * i) 0) * (X 4 1)) / 10))) (15 + 2 * i) 0 ((X (15 + 2 * i) 0) - (((X (15 + 2 * i) 0) * (X 4 1)) / 10))) (15 + 2 * i) 2 ((((X (15 + 2 * i) 2) - (((X (15 + 2 * i) 2) * (X 6 3)) / 10)) + (((X (15 + 2 * i) 1) * (X 5 2)) / 10)) + (((X (15 + 2 * i) 0) * (X 4 2)) / 10))) (15 + 2 * i) 0 (((X (15 + 2 * i) 0) - (((X (15 + 2 * i) 0) * (X 4 1)) / 10)) - (((X (15 + 2 * i) 0) * (X 4 2)) / 10))) (15 + 2 * i) 3 ((((X (15 + 2 * i) 3) + (((X (15 + 2 * i) 2) * (X 6 3)) / 10)) + (((X (15 + 2 * i) 1) * (X 5 3)) / 10)) + (((X (15 + 2 * i) 0) * (X 4 3)) / 10))) (15 + 2 * i) 0 ((((X (15 + 2 * i) 0) - (((X (15 + 2 * i) 0) * (X 4 1)) / 10)) - (((X (15 + 2 * i) 0) * (X 4 2)) / 10)) - (((X (15 + 2 * i) 0) * (X 4 3)) / 10))
set_option maxRecDepth 100000 in
set_option maxHeartbeats 4000000 in
theorem c_X0_breakOre (l : Launch) (G : GG) (o : Nat) (X : SX) (Y : SY) (i : Nat) (h_i : i < 40) : Ct l yX0_breakOre cX0_breakOre 6 none 0 0 G o [.ref (o + (14 + 2 * i)), .ref (o + 3)] X Y none (brkX X i) Y := by
  refine Ct.mk (by decide +kernel) (Nat.le_of_ble_eq_true rfl) rfl ?_
  intro p9 e9 s9 m9 args9 below9 meth9 c9 hE hr hlocks hK hI ls hl
  have hx := hE.1
  have hb := hE.2.1
  have hl : lv_has ls 6 [(0, .ref (o + (14 + 2 * i))), (1, .ref (o + 3))] := hl
  refine lv_iconst (v := 3) hx hb dX0_breakOre_0 (by decide) ?_
  refine lv_istore_n (lv' := [(2, .int 3), (0, .ref (o + (14 + 2 * i))), (1, .ref (o + 3))]) hx hb dX0_breakOre_1 rfl hl (by decide) rfl (fun ls hl => ?_)
  refine lv_iload_n hx hb dX0_breakOre_2 rfl (lv_at hl 0 rfl) ?_
  refine lv_if_lt (tgt := 72) hx hb dX0_breakOre_3 (by decide) (fun q => absurd q (by decide)) (fun _ => ?_)
  refine lv_aload_n hx hb dX0_breakOre_6 rfl (lv_at hl 1 rfl) ?_
  refine x_get (k := (14 + 2 * i)) hE hK hI (by have := h_i; omega) inG0 (el_14 G o h_i _ _) rfl 0 (by decide) mw_78 rfl dX0_breakOre_7 ?_
  refine lv_iload_n hx hb dX0_breakOre_10 rfl (lv_at hl 0 rfl) ?_
  refine x_iald (k := (15 + 2 * i)) (j := 3) hE hK hI (by have := h_i; omega) (em_14 G o h_i) (by decide) (by decide) rfl dX0_breakOre_11 ?_
  refine lv_istore_n (lv' := [(3, .int (X (15 + 2 * i) 3)), (2, .int 3), (0, .ref (o + (14 + 2 * i))), (1, .ref (o + 3))]) hx hb dX0_breakOre_12 rfl hl (by decide) rfl (fun ls hl => ?_)
  refine lv_iload_n hx hb dX0_breakOre_13 rfl (lv_at hl 1 rfl) ?_
  refine lv_iconst (v := 1) hx hb dX0_breakOre_14 (by decide) ?_
  refine lv_iadd hx hb dX0_breakOre_15 ?_
  refine lv_topi (fun z1 ez1 => ?_)
  obtain rfl : 4 = z1 := (ez1.trans (by decide)).symm
  refine lv_istore (lv' := [(4, .int 4), (3, .int (X (15 + 2 * i) 3)), (2, .int 3), (0, .ref (o + (14 + 2 * i))), (1, .ref (o + 3))]) hx hb dX0_breakOre_16 hl (by decide) rfl (fun ls hl => ?_)
  refine lv_iload hx hb dX0_breakOre_18 (lv_at hl 0 rfl) ?_
  refine lv_iconst (v := 4) hx hb dX0_breakOre_20 (by decide) ?_
  refine lv_icmp_ge (tgt := 66) hx hb dX0_breakOre_21 (by decide) (fun _ => ?_) (fun q => absurd (by decide) q)
  refine lv_iinc (v := 2) (lv' := [(2, .int 2), (4, .int 4), (3, .int (X (15 + 2 * i) 3)), (0, .ref (o + (14 + 2 * i))), (1, .ref (o + 3))]) hx hb dX0_breakOre_66 hl (k := 2) rfl (by decide) (by decide) rfl (fun ls hl => ?_)
  refine lv_goto (tgt := 2) hx hb dX0_breakOre_69 (by decide) ?_
  refine lv_iload_n hx hb dX0_breakOre_2 rfl (lv_at hl 0 rfl) ?_
  refine lv_if_lt (tgt := 72) hx hb dX0_breakOre_3 (by decide) (fun q => absurd q (by decide)) (fun _ => ?_)
  refine lv_aload_n hx hb dX0_breakOre_6 rfl (lv_at hl 3 rfl) ?_
  refine x_get (k := (14 + 2 * i)) hE hK hI (by have := h_i; omega) inG0 (el_14 G o h_i _ _) rfl 0 (by decide) mw_78 rfl dX0_breakOre_7 ?_
  refine lv_iload_n hx hb dX0_breakOre_10 rfl (lv_at hl 0 rfl) ?_
  refine x_iald (k := (15 + 2 * i)) (j := 2) hE hK hI (by have := h_i; omega) (em_14 G o h_i) (by decide) (by decide) rfl dX0_breakOre_11 ?_
  refine lv_istore_n (lv' := [(3, .int (X (15 + 2 * i) 2)), (2, .int 2), (4, .int 4), (0, .ref (o + (14 + 2 * i))), (1, .ref (o + 3))]) hx hb dX0_breakOre_12 rfl hl (by decide) rfl (fun ls hl => ?_)
  refine lv_iload_n hx hb dX0_breakOre_13 rfl (lv_at hl 1 rfl) ?_
  refine lv_iconst (v := 1) hx hb dX0_breakOre_14 (by decide) ?_
  refine lv_iadd hx hb dX0_breakOre_15 ?_
  refine lv_topi (fun z2 ez2 => ?_)
  obtain rfl : 3 = z2 := (ez2.trans (by decide)).symm
  refine lv_istore (lv' := [(4, .int 3), (3, .int (X (15 + 2 * i) 2)), (2, .int 2), (0, .ref (o + (14 + 2 * i))), (1, .ref (o + 3))]) hx hb dX0_breakOre_16 hl (by decide) rfl (fun ls hl => ?_)
  refine lv_iload hx hb dX0_breakOre_18 (lv_at hl 0 rfl) ?_
  refine lv_iconst (v := 4) hx hb dX0_breakOre_20 (by decide) ?_
  refine lv_icmp_ge (tgt := 66) hx hb dX0_breakOre_21 (by decide) (fun q => absurd q (by decide)) (fun _ => ?_)
  refine lv_iload_n hx hb dX0_breakOre_24 rfl (lv_at hl 1 rfl) ?_
  refine lv_aload_n hx hb dX0_breakOre_25 rfl (lv_at hl 4 rfl) ?_
  refine lv_iload_n hx hb dX0_breakOre_26 rfl (lv_at hl 2 rfl) ?_
  refine x_aald (k := 3) (j := 2) (t0 := 5) (q := o + 6) hE hK hI (by decide) (e_3 G o) rfl rfl (by decide) (by decide) rfl rfl dX0_breakOre_27 ?_
  refine lv_iload hx hb dX0_breakOre_28 (lv_at hl 0 rfl) ?_
  refine x_iald (k := 6) (j := 3) hE hK hI (by decide) (e_6 G o) (by decide) (by decide) rfl dX0_breakOre_30 ?_
  refine lv_imul hx hb dX0_breakOre_31 ?_
  refine lv_bipush (v := 10) hx hb dX0_breakOre_32 (by decide) ?_
  refine lv_idiv hx hb dX0_breakOre_34 (by decide) ?_
  refine lv_istore (lv' := [(5, .int (((X (15 + 2 * i) 2) * (X 6 3)) / 10)), (4, .int 3), (3, .int (X (15 + 2 * i) 2)), (2, .int 2), (0, .ref (o + (14 + 2 * i))), (1, .ref (o + 3))]) hx hb dX0_breakOre_35 hl (by decide) rfl (fun ls hl => ?_)
  refine lv_aload_n hx hb dX0_breakOre_37 rfl (lv_at hl 4 rfl) ?_
  refine x_get (k := (14 + 2 * i)) hE hK hI (by have := h_i; omega) inG0 (el_14 G o h_i _ _) rfl 0 (by decide) mw_78 rfl dX0_breakOre_38 ?_
  refine lv_iload hx hb dX0_breakOre_41 (lv_at hl 1 rfl) ?_
  refine lv_dup2_11 hx hb dX0_breakOre_43 rfl rfl ?_
  refine x_iald (k := (15 + 2 * i)) (j := 3) hE hK hI (by have := h_i; omega) (em_14 G o h_i) (by decide) (by decide) rfl dX0_breakOre_44 ?_
  refine lv_iload hx hb dX0_breakOre_45 (lv_at hl 0 rfl) ?_
  refine lv_iadd hx hb dX0_breakOre_47 ?_
  refine x_iast (k := (15 + 2 * i)) (j := 3) hE hK hI (by have := h_i; omega) (em_14 G o h_i) (by decide) (by decide) rfl dX0_breakOre_48 (fun H locs hI => ?_)
  refine lv_aload_n hx hb dX0_breakOre_49 rfl (lv_at hl 4 rfl) ?_
  refine x_get (k := (14 + 2 * i)) hE hK hI (by have := h_i; omega) inG0 (el_14 G o h_i _ _) rfl 0 (by decide) mw_78 rfl dX0_breakOre_50 ?_
  refine lv_iload_n hx hb dX0_breakOre_53 rfl (lv_at hl 3 rfl) ?_
  refine lv_dup2_11 hx hb dX0_breakOre_54 rfl rfl ?_
  refine x_iald (k := (15 + 2 * i)) (j := 2) hE hK hI (by have := h_i; omega) (em_14 G o h_i) (by decide) (by decide) rfl dX0_breakOre_55 ?_
  refine lv_topi (fun z3 ez3 => ?_)
  obtain rfl : X (15 + 2 * i) 2 = z3 := (ez3.trans ((sx_o (by omega)))).symm
  refine lv_iload hx hb dX0_breakOre_56 (lv_at hl 0 rfl) ?_
  refine lv_isub hx hb dX0_breakOre_58 ?_
  refine x_iast (k := (15 + 2 * i)) (j := 2) hE hK hI (by have := h_i; omega) (em_14 G o h_i) (by decide) (by decide) rfl dX0_breakOre_59 (fun H locs hI => ?_)
  refine lv_iinc (v := 4) (lv' := [(4, .int 4), (5, .int (((X (15 + 2 * i) 2) * (X 6 3)) / 10)), (3, .int (X (15 + 2 * i) 2)), (2, .int 2), (0, .ref (o + (14 + 2 * i))), (1, .ref (o + 3))]) hx hb dX0_breakOre_60 hl (k := 1) rfl (by decide) (by decide) rfl (fun ls hl => ?_)
  refine lv_goto (tgt := 18) hx hb dX0_breakOre_63 (by decide) ?_
  refine lv_iload hx hb dX0_breakOre_18 (lv_at hl 0 rfl) ?_
  refine lv_iconst (v := 4) hx hb dX0_breakOre_20 (by decide) ?_
  refine lv_icmp_ge (tgt := 66) hx hb dX0_breakOre_21 (by decide) (fun _ => ?_) (fun q => absurd (by decide) q)
  refine lv_iinc (v := 1) (lv' := [(2, .int 1), (4, .int 4), (5, .int (((X (15 + 2 * i) 2) * (X 6 3)) / 10)), (3, .int (X (15 + 2 * i) 2)), (0, .ref (o + (14 + 2 * i))), (1, .ref (o + 3))]) hx hb dX0_breakOre_66 hl (k := 3) rfl (by decide) (by decide) rfl (fun ls hl => ?_)
  refine lv_goto (tgt := 2) hx hb dX0_breakOre_69 (by decide) ?_
  refine lv_iload_n hx hb dX0_breakOre_2 rfl (lv_at hl 0 rfl) ?_
  refine lv_if_lt (tgt := 72) hx hb dX0_breakOre_3 (by decide) (fun q => absurd q (by decide)) (fun _ => ?_)
  refine lv_aload_n hx hb dX0_breakOre_6 rfl (lv_at hl 4 rfl) ?_
  refine x_get (k := (14 + 2 * i)) hE hK hI (by have := h_i; omega) inG0 (el_14 G o h_i _ _) rfl 0 (by decide) mw_78 rfl dX0_breakOre_7 ?_
  refine lv_iload_n hx hb dX0_breakOre_10 rfl (lv_at hl 0 rfl) ?_
  refine x_iald (k := (15 + 2 * i)) (j := 1) hE hK hI (by have := h_i; omega) (em_14 G o h_i) (by decide) (by decide) rfl dX0_breakOre_11 ?_
  refine lv_topi (fun z4 ez4 => ?_)
  obtain rfl : X (15 + 2 * i) 1 = z4 := (ez4.trans ((sx_o (by omega)).trans ((sx_o (by omega))))).symm
  refine lv_istore_n (lv' := [(3, .int (X (15 + 2 * i) 1)), (2, .int 1), (4, .int 4), (5, .int (((X (15 + 2 * i) 2) * (X 6 3)) / 10)), (0, .ref (o + (14 + 2 * i))), (1, .ref (o + 3))]) hx hb dX0_breakOre_12 rfl hl (by decide) rfl (fun ls hl => ?_)
  refine lv_iload_n hx hb dX0_breakOre_13 rfl (lv_at hl 1 rfl) ?_
  refine lv_iconst (v := 1) hx hb dX0_breakOre_14 (by decide) ?_
  refine lv_iadd hx hb dX0_breakOre_15 ?_
  refine lv_topi (fun z5 ez5 => ?_)
  obtain rfl : 2 = z5 := (ez5.trans (by decide)).symm
  refine lv_istore (lv' := [(4, .int 2), (3, .int (X (15 + 2 * i) 1)), (2, .int 1), (5, .int (((X (15 + 2 * i) 2) * (X 6 3)) / 10)), (0, .ref (o + (14 + 2 * i))), (1, .ref (o + 3))]) hx hb dX0_breakOre_16 hl (by decide) rfl (fun ls hl => ?_)
  refine lv_iload hx hb dX0_breakOre_18 (lv_at hl 0 rfl) ?_
  refine lv_iconst (v := 4) hx hb dX0_breakOre_20 (by decide) ?_
  refine lv_icmp_ge (tgt := 66) hx hb dX0_breakOre_21 (by decide) (fun q => absurd q (by decide)) (fun _ => ?_)
  refine lv_iload_n hx hb dX0_breakOre_24 rfl (lv_at hl 1 rfl) ?_
  refine lv_aload_n hx hb dX0_breakOre_25 rfl (lv_at hl 5 rfl) ?_
  refine lv_iload_n hx hb dX0_breakOre_26 rfl (lv_at hl 2 rfl) ?_
  refine x_aald (k := 3) (j := 1) (t0 := 5) (q := o + 5) hE hK hI (by decide) (e_3 G o) rfl rfl (by decide) (by decide) rfl rfl dX0_breakOre_27 ?_
  refine lv_iload hx hb dX0_breakOre_28 (lv_at hl 0 rfl) ?_
  refine x_iald (k := 5) (j := 2) hE hK hI (by decide) (e_5 G o) (by decide) (by decide) rfl dX0_breakOre_30 ?_
  refine lv_topi (fun z6 ez6 => ?_)
  obtain rfl : X 5 2 = z6 := (ez6.trans ((sx_o (by omega)).trans ((sx_o (by omega))))).symm
  refine lv_imul hx hb dX0_breakOre_31 ?_
  refine lv_bipush (v := 10) hx hb dX0_breakOre_32 (by decide) ?_
  refine lv_idiv hx hb dX0_breakOre_34 (by decide) ?_
  refine lv_istore (lv' := [(5, .int (((X (15 + 2 * i) 1) * (X 5 2)) / 10)), (4, .int 2), (3, .int (X (15 + 2 * i) 1)), (2, .int 1), (0, .ref (o + (14 + 2 * i))), (1, .ref (o + 3))]) hx hb dX0_breakOre_35 hl (by decide) rfl (fun ls hl => ?_)
  refine lv_aload_n hx hb dX0_breakOre_37 rfl (lv_at hl 4 rfl) ?_
  refine x_get (k := (14 + 2 * i)) hE hK hI (by have := h_i; omega) inG0 (el_14 G o h_i _ _) rfl 0 (by decide) mw_78 rfl dX0_breakOre_38 ?_
  refine lv_iload hx hb dX0_breakOre_41 (lv_at hl 1 rfl) ?_
  refine lv_dup2_11 hx hb dX0_breakOre_43 rfl rfl ?_
  refine x_iald (k := (15 + 2 * i)) (j := 2) hE hK hI (by have := h_i; omega) (em_14 G o h_i) (by decide) (by decide) rfl dX0_breakOre_44 ?_
  refine lv_topi (fun z7 ez7 => ?_)
  obtain rfl : (X (15 + 2 * i) 2) - (((X (15 + 2 * i) 2) * (X 6 3)) / 10) = z7 := (ez7.trans (sx_e)).symm
  refine lv_iload hx hb dX0_breakOre_45 (lv_at hl 0 rfl) ?_
  refine lv_iadd hx hb dX0_breakOre_47 ?_
  refine x_iast (k := (15 + 2 * i)) (j := 2) hE hK hI (by have := h_i; omega) (em_14 G o h_i) (by decide) (by decide) rfl dX0_breakOre_48 (fun H locs hI => ?_)
  refine lv_aload_n hx hb dX0_breakOre_49 rfl (lv_at hl 4 rfl) ?_
  refine x_get (k := (14 + 2 * i)) hE hK hI (by have := h_i; omega) inG0 (el_14 G o h_i _ _) rfl 0 (by decide) mw_78 rfl dX0_breakOre_50 ?_
  refine lv_iload_n hx hb dX0_breakOre_53 rfl (lv_at hl 3 rfl) ?_
  refine lv_dup2_11 hx hb dX0_breakOre_54 rfl rfl ?_
  refine x_iald (k := (15 + 2 * i)) (j := 1) hE hK hI (by have := h_i; omega) (em_14 G o h_i) (by decide) (by decide) rfl dX0_breakOre_55 ?_
  refine lv_topi (fun z8 ez8 => ?_)
  obtain rfl : X (15 + 2 * i) 1 = z8 := (ez8.trans ((sx_o (by omega)).trans ((sx_o (by omega)).trans ((sx_o (by omega)))))).symm
  refine lv_iload hx hb dX0_breakOre_56 (lv_at hl 0 rfl) ?_
  refine lv_isub hx hb dX0_breakOre_58 ?_
  refine x_iast (k := (15 + 2 * i)) (j := 1) hE hK hI (by have := h_i; omega) (em_14 G o h_i) (by decide) (by decide) rfl dX0_breakOre_59 (fun H locs hI => ?_)
  refine lv_iinc (v := 3) (lv' := [(4, .int 3), (5, .int (((X (15 + 2 * i) 1) * (X 5 2)) / 10)), (3, .int (X (15 + 2 * i) 1)), (2, .int 1), (0, .ref (o + (14 + 2 * i))), (1, .ref (o + 3))]) hx hb dX0_breakOre_60 hl (k := 1) rfl (by decide) (by decide) rfl (fun ls hl => ?_)
  refine lv_goto (tgt := 18) hx hb dX0_breakOre_63 (by decide) ?_
  refine lv_iload hx hb dX0_breakOre_18 (lv_at hl 0 rfl) ?_
  refine lv_iconst (v := 4) hx hb dX0_breakOre_20 (by decide) ?_
  refine lv_icmp_ge (tgt := 66) hx hb dX0_breakOre_21 (by decide) (fun q => absurd q (by decide)) (fun _ => ?_)
  refine lv_iload_n hx hb dX0_breakOre_24 rfl (lv_at hl 2 rfl) ?_
  refine lv_aload_n hx hb dX0_breakOre_25 rfl (lv_at hl 5 rfl) ?_
  refine lv_iload_n hx hb dX0_breakOre_26 rfl (lv_at hl 3 rfl) ?_
  refine x_aald (k := 3) (j := 1) (t0 := 5) (q := o + 5) hE hK hI (by decide) (e_3 G o) rfl rfl (by decide) (by decide) rfl rfl dX0_breakOre_27 ?_
  refine lv_iload hx hb dX0_breakOre_28 (lv_at hl 0 rfl) ?_
  refine x_iald (k := 5) (j := 3) hE hK hI (by decide) (e_5 G o) (by decide) (by decide) rfl dX0_breakOre_30 ?_
  refine lv_topi (fun z9 ez9 => ?_)
  obtain rfl : X 5 3 = z9 := (ez9.trans ((sx_o (by omega)).trans ((sx_o (by omega)).trans ((sx_o (by omega)).trans ((sx_o (by omega))))))).symm
  refine lv_imul hx hb dX0_breakOre_31 ?_
  refine lv_bipush (v := 10) hx hb dX0_breakOre_32 (by decide) ?_
  refine lv_idiv hx hb dX0_breakOre_34 (by decide) ?_
  refine lv_istore (lv' := [(5, .int (((X (15 + 2 * i) 1) * (X 5 3)) / 10)), (4, .int 3), (3, .int (X (15 + 2 * i) 1)), (2, .int 1), (0, .ref (o + (14 + 2 * i))), (1, .ref (o + 3))]) hx hb dX0_breakOre_35 hl (by decide) rfl (fun ls hl => ?_)
  refine lv_aload_n hx hb dX0_breakOre_37 rfl (lv_at hl 4 rfl) ?_
  refine x_get (k := (14 + 2 * i)) hE hK hI (by have := h_i; omega) inG0 (el_14 G o h_i _ _) rfl 0 (by decide) mw_78 rfl dX0_breakOre_38 ?_
  refine lv_iload hx hb dX0_breakOre_41 (lv_at hl 1 rfl) ?_
  refine lv_dup2_11 hx hb dX0_breakOre_43 rfl rfl ?_
  refine x_iald (k := (15 + 2 * i)) (j := 3) hE hK hI (by have := h_i; omega) (em_14 G o h_i) (by decide) (by decide) rfl dX0_breakOre_44 ?_
  refine lv_topi (fun z10 ez10 => ?_)
  obtain rfl : (X (15 + 2 * i) 3) + (((X (15 + 2 * i) 2) * (X 6 3)) / 10) = z10 := (ez10.trans ((sx_o (by omega)).trans ((sx_o (by omega)).trans ((sx_o (by omega)).trans (sx_e))))).symm
  refine lv_iload hx hb dX0_breakOre_45 (lv_at hl 0 rfl) ?_
  refine lv_iadd hx hb dX0_breakOre_47 ?_
  refine x_iast (k := (15 + 2 * i)) (j := 3) hE hK hI (by have := h_i; omega) (em_14 G o h_i) (by decide) (by decide) rfl dX0_breakOre_48 (fun H locs hI => ?_)
  refine lv_aload_n hx hb dX0_breakOre_49 rfl (lv_at hl 4 rfl) ?_
  refine x_get (k := (14 + 2 * i)) hE hK hI (by have := h_i; omega) inG0 (el_14 G o h_i _ _) rfl 0 (by decide) mw_78 rfl dX0_breakOre_50 ?_
  refine lv_iload_n hx hb dX0_breakOre_53 rfl (lv_at hl 3 rfl) ?_
  refine lv_dup2_11 hx hb dX0_breakOre_54 rfl rfl ?_
  refine x_iald (k := (15 + 2 * i)) (j := 1) hE hK hI (by have := h_i; omega) (em_14 G o h_i) (by decide) (by decide) rfl dX0_breakOre_55 ?_
  refine lv_topi (fun z11 ez11 => ?_)
  obtain rfl : (X (15 + 2 * i) 1) - (((X (15 + 2 * i) 1) * (X 5 2)) / 10) = z11 := (ez11.trans ((sx_o (by omega)).trans (sx_e))).symm
  refine lv_iload hx hb dX0_breakOre_56 (lv_at hl 0 rfl) ?_
  refine lv_isub hx hb dX0_breakOre_58 ?_
  refine x_iast (k := (15 + 2 * i)) (j := 1) hE hK hI (by have := h_i; omega) (em_14 G o h_i) (by decide) (by decide) rfl dX0_breakOre_59 (fun H locs hI => ?_)
  refine lv_iinc (v := 4) (lv' := [(4, .int 4), (5, .int (((X (15 + 2 * i) 1) * (X 5 3)) / 10)), (3, .int (X (15 + 2 * i) 1)), (2, .int 1), (0, .ref (o + (14 + 2 * i))), (1, .ref (o + 3))]) hx hb dX0_breakOre_60 hl (k := 1) rfl (by decide) (by decide) rfl (fun ls hl => ?_)
  refine lv_goto (tgt := 18) hx hb dX0_breakOre_63 (by decide) ?_
  refine lv_iload hx hb dX0_breakOre_18 (lv_at hl 0 rfl) ?_
  refine lv_iconst (v := 4) hx hb dX0_breakOre_20 (by decide) ?_
  refine lv_icmp_ge (tgt := 66) hx hb dX0_breakOre_21 (by decide) (fun _ => ?_) (fun q => absurd (by decide) q)
  refine lv_iinc (v := 0) (lv' := [(2, .int 0), (4, .int 4), (5, .int (((X (15 + 2 * i) 1) * (X 5 3)) / 10)), (3, .int (X (15 + 2 * i) 1)), (0, .ref (o + (14 + 2 * i))), (1, .ref (o + 3))]) hx hb dX0_breakOre_66 hl (k := 3) rfl (by decide) (by decide) rfl (fun ls hl => ?_)
  refine lv_goto (tgt := 2) hx hb dX0_breakOre_69 (by decide) ?_
  refine lv_iload_n hx hb dX0_breakOre_2 rfl (lv_at hl 0 rfl) ?_
  refine lv_if_lt (tgt := 72) hx hb dX0_breakOre_3 (by decide) (fun q => absurd q (by decide)) (fun _ => ?_)
  refine lv_aload_n hx hb dX0_breakOre_6 rfl (lv_at hl 4 rfl) ?_
  refine x_get (k := (14 + 2 * i)) hE hK hI (by have := h_i; omega) inG0 (el_14 G o h_i _ _) rfl 0 (by decide) mw_78 rfl dX0_breakOre_7 ?_
  refine lv_iload_n hx hb dX0_breakOre_10 rfl (lv_at hl 0 rfl) ?_
  refine x_iald (k := (15 + 2 * i)) (j := 0) hE hK hI (by have := h_i; omega) (em_14 G o h_i) (by decide) (by decide) rfl dX0_breakOre_11 ?_
  refine lv_topi (fun z12 ez12 => ?_)
  obtain rfl : X (15 + 2 * i) 0 = z12 := (ez12.trans ((sx_o (by omega)).trans ((sx_o (by omega)).trans ((sx_o (by omega)).trans ((sx_o (by omega)).trans ((sx_o (by omega)).trans ((sx_o (by omega))))))))).symm
  refine lv_istore_n (lv' := [(3, .int (X (15 + 2 * i) 0)), (2, .int 0), (4, .int 4), (5, .int (((X (15 + 2 * i) 1) * (X 5 3)) / 10)), (0, .ref (o + (14 + 2 * i))), (1, .ref (o + 3))]) hx hb dX0_breakOre_12 rfl hl (by decide) rfl (fun ls hl => ?_)
  refine lv_iload_n hx hb dX0_breakOre_13 rfl (lv_at hl 1 rfl) ?_
  refine lv_iconst (v := 1) hx hb dX0_breakOre_14 (by decide) ?_
  refine lv_iadd hx hb dX0_breakOre_15 ?_
  refine lv_topi (fun z13 ez13 => ?_)
  obtain rfl : 1 = z13 := (ez13.trans (by decide)).symm
  refine lv_istore (lv' := [(4, .int 1), (3, .int (X (15 + 2 * i) 0)), (2, .int 0), (5, .int (((X (15 + 2 * i) 1) * (X 5 3)) / 10)), (0, .ref (o + (14 + 2 * i))), (1, .ref (o + 3))]) hx hb dX0_breakOre_16 hl (by decide) rfl (fun ls hl => ?_)
  refine lv_iload hx hb dX0_breakOre_18 (lv_at hl 0 rfl) ?_
  refine lv_iconst (v := 4) hx hb dX0_breakOre_20 (by decide) ?_
  refine lv_icmp_ge (tgt := 66) hx hb dX0_breakOre_21 (by decide) (fun q => absurd q (by decide)) (fun _ => ?_)
  refine lv_iload_n hx hb dX0_breakOre_24 rfl (lv_at hl 1 rfl) ?_
  refine lv_aload_n hx hb dX0_breakOre_25 rfl (lv_at hl 5 rfl) ?_
  refine lv_iload_n hx hb dX0_breakOre_26 rfl (lv_at hl 2 rfl) ?_
  refine x_aald (k := 3) (j := 0) (t0 := 5) (q := o + 4) hE hK hI (by decide) (e_3 G o) rfl rfl (by decide) (by decide) rfl rfl dX0_breakOre_27 ?_
  refine lv_iload hx hb dX0_breakOre_28 (lv_at hl 0 rfl) ?_
  refine x_iald (k := 4) (j := 1) hE hK hI (by decide) (e_4 G o) (by decide) (by decide) rfl dX0_breakOre_30 ?_
  refine lv_topi (fun z14 ez14 => ?_)
  obtain rfl : X 4 1 = z14 := (ez14.trans ((sx_o (by omega)).trans ((sx_o (by omega)).trans ((sx_o (by omega)).trans ((sx_o (by omega)).trans ((sx_o (by omega)).trans ((sx_o (by omega))))))))).symm
  refine lv_imul hx hb dX0_breakOre_31 ?_
  refine lv_bipush (v := 10) hx hb dX0_breakOre_32 (by decide) ?_
  refine lv_idiv hx hb dX0_breakOre_34 (by decide) ?_
  refine lv_istore (lv' := [(5, .int (((X (15 + 2 * i) 0) * (X 4 1)) / 10)), (4, .int 1), (3, .int (X (15 + 2 * i) 0)), (2, .int 0), (0, .ref (o + (14 + 2 * i))), (1, .ref (o + 3))]) hx hb dX0_breakOre_35 hl (by decide) rfl (fun ls hl => ?_)
  refine lv_aload_n hx hb dX0_breakOre_37 rfl (lv_at hl 4 rfl) ?_
  refine x_get (k := (14 + 2 * i)) hE hK hI (by have := h_i; omega) inG0 (el_14 G o h_i _ _) rfl 0 (by decide) mw_78 rfl dX0_breakOre_38 ?_
  refine lv_iload hx hb dX0_breakOre_41 (lv_at hl 1 rfl) ?_
  refine lv_dup2_11 hx hb dX0_breakOre_43 rfl rfl ?_
  refine x_iald (k := (15 + 2 * i)) (j := 1) hE hK hI (by have := h_i; omega) (em_14 G o h_i) (by decide) (by decide) rfl dX0_breakOre_44 ?_
  refine lv_topi (fun z15 ez15 => ?_)
  obtain rfl : ((X (15 + 2 * i) 1) - (((X (15 + 2 * i) 1) * (X 5 2)) / 10)) - (((X (15 + 2 * i) 1) * (X 5 3)) / 10) = z15 := (ez15.trans (sx_e)).symm
  refine lv_iload hx hb dX0_breakOre_45 (lv_at hl 0 rfl) ?_
  refine lv_iadd hx hb dX0_breakOre_47 ?_
  refine x_iast (k := (15 + 2 * i)) (j := 1) hE hK hI (by have := h_i; omega) (em_14 G o h_i) (by decide) (by decide) rfl dX0_breakOre_48 (fun H locs hI => ?_)
  refine lv_aload_n hx hb dX0_breakOre_49 rfl (lv_at hl 4 rfl) ?_
  refine x_get (k := (14 + 2 * i)) hE hK hI (by have := h_i; omega) inG0 (el_14 G o h_i _ _) rfl 0 (by decide) mw_78 rfl dX0_breakOre_50 ?_
  refine lv_iload_n hx hb dX0_breakOre_53 rfl (lv_at hl 3 rfl) ?_
  refine lv_dup2_11 hx hb dX0_breakOre_54 rfl rfl ?_
  refine x_iald (k := (15 + 2 * i)) (j := 0) hE hK hI (by have := h_i; omega) (em_14 G o h_i) (by decide) (by decide) rfl dX0_breakOre_55 ?_
  refine lv_topi (fun z16 ez16 => ?_)
  obtain rfl : X (15 + 2 * i) 0 = z16 := (ez16.trans ((sx_o (by omega)).trans ((sx_o (by omega)).trans ((sx_o (by omega)).trans ((sx_o (by omega)).trans ((sx_o (by omega)).trans ((sx_o (by omega)).trans ((sx_o (by omega)))))))))).symm
  refine lv_iload hx hb dX0_breakOre_56 (lv_at hl 0 rfl) ?_
  refine lv_isub hx hb dX0_breakOre_58 ?_
  refine x_iast (k := (15 + 2 * i)) (j := 0) hE hK hI (by have := h_i; omega) (em_14 G o h_i) (by decide) (by decide) rfl dX0_breakOre_59 (fun H locs hI => ?_)
  refine lv_iinc (v := 2) (lv' := [(4, .int 2), (5, .int (((X (15 + 2 * i) 0) * (X 4 1)) / 10)), (3, .int (X (15 + 2 * i) 0)), (2, .int 0), (0, .ref (o + (14 + 2 * i))), (1, .ref (o + 3))]) hx hb dX0_breakOre_60 hl (k := 1) rfl (by decide) (by decide) rfl (fun ls hl => ?_)
  refine lv_goto (tgt := 18) hx hb dX0_breakOre_63 (by decide) ?_
  refine lv_iload hx hb dX0_breakOre_18 (lv_at hl 0 rfl) ?_
  refine lv_iconst (v := 4) hx hb dX0_breakOre_20 (by decide) ?_
  refine lv_icmp_ge (tgt := 66) hx hb dX0_breakOre_21 (by decide) (fun q => absurd q (by decide)) (fun _ => ?_)
  refine lv_iload_n hx hb dX0_breakOre_24 rfl (lv_at hl 2 rfl) ?_
  refine lv_aload_n hx hb dX0_breakOre_25 rfl (lv_at hl 5 rfl) ?_
  refine lv_iload_n hx hb dX0_breakOre_26 rfl (lv_at hl 3 rfl) ?_
  refine x_aald (k := 3) (j := 0) (t0 := 5) (q := o + 4) hE hK hI (by decide) (e_3 G o) rfl rfl (by decide) (by decide) rfl rfl dX0_breakOre_27 ?_
  refine lv_iload hx hb dX0_breakOre_28 (lv_at hl 0 rfl) ?_
  refine x_iald (k := 4) (j := 2) hE hK hI (by decide) (e_4 G o) (by decide) (by decide) rfl dX0_breakOre_30 ?_
  refine lv_topi (fun z17 ez17 => ?_)
  obtain rfl : X 4 2 = z17 := (ez17.trans ((sx_o (by omega)).trans ((sx_o (by omega)).trans ((sx_o (by omega)).trans ((sx_o (by omega)).trans ((sx_o (by omega)).trans ((sx_o (by omega)).trans ((sx_o (by omega)).trans ((sx_o (by omega))))))))))).symm
  refine lv_imul hx hb dX0_breakOre_31 ?_
  refine lv_bipush (v := 10) hx hb dX0_breakOre_32 (by decide) ?_
  refine lv_idiv hx hb dX0_breakOre_34 (by decide) ?_
  refine lv_istore (lv' := [(5, .int (((X (15 + 2 * i) 0) * (X 4 2)) / 10)), (4, .int 2), (3, .int (X (15 + 2 * i) 0)), (2, .int 0), (0, .ref (o + (14 + 2 * i))), (1, .ref (o + 3))]) hx hb dX0_breakOre_35 hl (by decide) rfl (fun ls hl => ?_)
  refine lv_aload_n hx hb dX0_breakOre_37 rfl (lv_at hl 4 rfl) ?_
  refine x_get (k := (14 + 2 * i)) hE hK hI (by have := h_i; omega) inG0 (el_14 G o h_i _ _) rfl 0 (by decide) mw_78 rfl dX0_breakOre_38 ?_
  refine lv_iload hx hb dX0_breakOre_41 (lv_at hl 1 rfl) ?_
  refine lv_dup2_11 hx hb dX0_breakOre_43 rfl rfl ?_
  refine x_iald (k := (15 + 2 * i)) (j := 2) hE hK hI (by have := h_i; omega) (em_14 G o h_i) (by decide) (by decide) rfl dX0_breakOre_44 ?_
  refine lv_topi (fun z18 ez18 => ?_)
  obtain rfl : ((X (15 + 2 * i) 2) - (((X (15 + 2 * i) 2) * (X 6 3)) / 10)) + (((X (15 + 2 * i) 1) * (X 5 2)) / 10) = z18 := (ez18.trans ((sx_o (by omega)).trans ((sx_o (by omega)).trans ((sx_o (by omega)).trans ((sx_o (by omega)).trans ((sx_o (by omega)).trans (sx_e))))))).symm
  refine lv_iload hx hb dX0_breakOre_45 (lv_at hl 0 rfl) ?_
  refine lv_iadd hx hb dX0_breakOre_47 ?_
  refine x_iast (k := (15 + 2 * i)) (j := 2) hE hK hI (by have := h_i; omega) (em_14 G o h_i) (by decide) (by decide) rfl dX0_breakOre_48 (fun H locs hI => ?_)
  refine lv_aload_n hx hb dX0_breakOre_49 rfl (lv_at hl 4 rfl) ?_
  refine x_get (k := (14 + 2 * i)) hE hK hI (by have := h_i; omega) inG0 (el_14 G o h_i _ _) rfl 0 (by decide) mw_78 rfl dX0_breakOre_50 ?_
  refine lv_iload_n hx hb dX0_breakOre_53 rfl (lv_at hl 3 rfl) ?_
  refine lv_dup2_11 hx hb dX0_breakOre_54 rfl rfl ?_
  refine x_iald (k := (15 + 2 * i)) (j := 0) hE hK hI (by have := h_i; omega) (em_14 G o h_i) (by decide) (by decide) rfl dX0_breakOre_55 ?_
  refine lv_topi (fun z19 ez19 => ?_)
  obtain rfl : (X (15 + 2 * i) 0) - (((X (15 + 2 * i) 0) * (X 4 1)) / 10) = z19 := (ez19.trans ((sx_o (by omega)).trans (sx_e))).symm
  refine lv_iload hx hb dX0_breakOre_56 (lv_at hl 0 rfl) ?_
  refine lv_isub hx hb dX0_breakOre_58 ?_
  refine x_iast (k := (15 + 2 * i)) (j := 0) hE hK hI (by have := h_i; omega) (em_14 G o h_i) (by decide) (by decide) rfl dX0_breakOre_59 (fun H locs hI => ?_)
  refine lv_iinc (v := 3) (lv' := [(4, .int 3), (5, .int (((X (15 + 2 * i) 0) * (X 4 2)) / 10)), (3, .int (X (15 + 2 * i) 0)), (2, .int 0), (0, .ref (o + (14 + 2 * i))), (1, .ref (o + 3))]) hx hb dX0_breakOre_60 hl (k := 1) rfl (by decide) (by decide) rfl (fun ls hl => ?_)
  refine lv_goto (tgt := 18) hx hb dX0_breakOre_63 (by decide) ?_
  refine lv_iload hx hb dX0_breakOre_18 (lv_at hl 0 rfl) ?_
  refine lv_iconst (v := 4) hx hb dX0_breakOre_20 (by decide) ?_
  refine lv_icmp_ge (tgt := 66) hx hb dX0_breakOre_21 (by decide) (fun q => absurd q (by decide)) (fun _ => ?_)
  refine lv_iload_n hx hb dX0_breakOre_24 rfl (lv_at hl 2 rfl) ?_
  refine lv_aload_n hx hb dX0_breakOre_25 rfl (lv_at hl 5 rfl) ?_
  refine lv_iload_n hx hb dX0_breakOre_26 rfl (lv_at hl 3 rfl) ?_
  refine x_aald (k := 3) (j := 0) (t0 := 5) (q := o + 4) hE hK hI (by decide) (e_3 G o) rfl rfl (by decide) (by decide) rfl rfl dX0_breakOre_27 ?_
  refine lv_iload hx hb dX0_breakOre_28 (lv_at hl 0 rfl) ?_
  refine x_iald (k := 4) (j := 3) hE hK hI (by decide) (e_4 G o) (by decide) (by decide) rfl dX0_breakOre_30 ?_
  refine lv_topi (fun z20 ez20 => ?_)
  obtain rfl : X 4 3 = z20 := (ez20.trans ((sx_o (by omega)).trans ((sx_o (by omega)).trans ((sx_o (by omega)).trans ((sx_o (by omega)).trans ((sx_o (by omega)).trans ((sx_o (by omega)).trans ((sx_o (by omega)).trans ((sx_o (by omega)).trans ((sx_o (by omega)).trans ((sx_o (by omega))))))))))))).symm
  refine lv_imul hx hb dX0_breakOre_31 ?_
  refine lv_bipush (v := 10) hx hb dX0_breakOre_32 (by decide) ?_
  refine lv_idiv hx hb dX0_breakOre_34 (by decide) ?_
  refine lv_istore (lv' := [(5, .int (((X (15 + 2 * i) 0) * (X 4 3)) / 10)), (4, .int 3), (3, .int (X (15 + 2 * i) 0)), (2, .int 0), (0, .ref (o + (14 + 2 * i))), (1, .ref (o + 3))]) hx hb dX0_breakOre_35 hl (by decide) rfl (fun ls hl => ?_)
  refine lv_aload_n hx hb dX0_breakOre_37 rfl (lv_at hl 4 rfl) ?_
  refine x_get (k := (14 + 2 * i)) hE hK hI (by have := h_i; omega) inG0 (el_14 G o h_i _ _) rfl 0 (by decide) mw_78 rfl dX0_breakOre_38 ?_
  refine lv_iload hx hb dX0_breakOre_41 (lv_at hl 1 rfl) ?_
  refine lv_dup2_11 hx hb dX0_breakOre_43 rfl rfl ?_
  refine x_iald (k := (15 + 2 * i)) (j := 3) hE hK hI (by have := h_i; omega) (em_14 G o h_i) (by decide) (by decide) rfl dX0_breakOre_44 ?_
  refine lv_topi (fun z21 ez21 => ?_)
  obtain rfl : ((X (15 + 2 * i) 3) + (((X (15 + 2 * i) 2) * (X 6 3)) / 10)) + (((X (15 + 2 * i) 1) * (X 5 3)) / 10) = z21 := (ez21.trans ((sx_o (by omega)).trans ((sx_o (by omega)).trans ((sx_o (by omega)).trans ((sx_o (by omega)).trans ((sx_o (by omega)).trans (sx_e))))))).symm
  refine lv_iload hx hb dX0_breakOre_45 (lv_at hl 0 rfl) ?_
  refine lv_iadd hx hb dX0_breakOre_47 ?_
  refine x_iast (k := (15 + 2 * i)) (j := 3) hE hK hI (by have := h_i; omega) (em_14 G o h_i) (by decide) (by decide) rfl dX0_breakOre_48 (fun H locs hI => ?_)
  refine lv_aload_n hx hb dX0_breakOre_49 rfl (lv_at hl 4 rfl) ?_
  refine x_get (k := (14 + 2 * i)) hE hK hI (by have := h_i; omega) inG0 (el_14 G o h_i _ _) rfl 0 (by decide) mw_78 rfl dX0_breakOre_50 ?_
  refine lv_iload_n hx hb dX0_breakOre_53 rfl (lv_at hl 3 rfl) ?_
  refine lv_dup2_11 hx hb dX0_breakOre_54 rfl rfl ?_
  refine x_iald (k := (15 + 2 * i)) (j := 0) hE hK hI (by have := h_i; omega) (em_14 G o h_i) (by decide) (by decide) rfl dX0_breakOre_55 ?_
  refine lv_topi (fun z22 ez22 => ?_)
  obtain rfl : ((X (15 + 2 * i) 0) - (((X (15 + 2 * i) 0) * (X 4 1)) / 10)) - (((X (15 + 2 * i) 0) * (X 4 2)) / 10) = z22 := (ez22.trans ((sx_o (by omega)).trans (sx_e))).symm
  refine lv_iload hx hb dX0_breakOre_56 (lv_at hl 0 rfl) ?_
  refine lv_isub hx hb dX0_breakOre_58 ?_
  refine x_iast (k := (15 + 2 * i)) (j := 0) hE hK hI (by have := h_i; omega) (em_14 G o h_i) (by decide) (by decide) rfl dX0_breakOre_59 (fun H locs hI => ?_)
  refine lv_iinc (v := 4) (lv' := [(4, .int 4), (5, .int (((X (15 + 2 * i) 0) * (X 4 3)) / 10)), (3, .int (X (15 + 2 * i) 0)), (2, .int 0), (0, .ref (o + (14 + 2 * i))), (1, .ref (o + 3))]) hx hb dX0_breakOre_60 hl (k := 1) rfl (by decide) (by decide) rfl (fun ls hl => ?_)
  refine lv_goto (tgt := 18) hx hb dX0_breakOre_63 (by decide) ?_
  refine lv_iload hx hb dX0_breakOre_18 (lv_at hl 0 rfl) ?_
  refine lv_iconst (v := 4) hx hb dX0_breakOre_20 (by decide) ?_
  refine lv_icmp_ge (tgt := 66) hx hb dX0_breakOre_21 (by decide) (fun _ => ?_) (fun q => absurd (by decide) q)
  refine lv_iinc (v := (-1)) (lv' := [(2, .int (-1)), (4, .int 4), (5, .int (((X (15 + 2 * i) 0) * (X 4 3)) / 10)), (3, .int (X (15 + 2 * i) 0)), (0, .ref (o + (14 + 2 * i))), (1, .ref (o + 3))]) hx hb dX0_breakOre_66 hl (k := 3) rfl (by decide) (by decide) rfl (fun ls hl => ?_)
  refine lv_goto (tgt := 2) hx hb dX0_breakOre_69 (by decide) ?_
  refine lv_iload_n hx hb dX0_breakOre_2 rfl (lv_at hl 0 rfl) ?_
  refine lv_if_lt (tgt := 72) hx hb dX0_breakOre_3 (by decide) (fun _ => ?_) (fun q => absurd (by decide) q)
  exact x_vret hE hr hlocks hI rfl rfl rfl dX0_breakOre_72
def clsX (X : SX) (i : Nat) : SX := sx (sx (sx (sx (sx (sx (sx (sx X 13 0 ((X 13 0) + ((X (15 + 2 * i) 0) - (((X (15 + 2 * i) 0) * (X 8 0)) / 10)))) (15 + 2 * i) 0 (((X (15 + 2 * i) 0) * (X 8 0)) / 10)) 13 1 ((X 13 1) + ((X (15 + 2 * i) 1) - (((X (15 + 2 * i) 1) * (X 8 1)) / 10)))) (15 + 2 * i) 1 (((X (15 + 2 * i) 1) * (X 8 1)) / 10)) 13 2 ((X 13 2) + ((X (15 + 2 * i) 2) - (((X (15 + 2 * i) 2) * (X 8 2)) / 10)))) (15 + 2 * i) 2 (((X (15 + 2 * i) 2) * (X 8 2)) / 10)) 13 3 ((X 13 3) + ((X (15 + 2 * i) 3) - (((X (15 + 2 * i) 3) * (X 8 3)) / 10)))) (15 + 2 * i) 3 (((X (15 + 2 * i) 3) * (X 8 3)) / 10)
set_option maxRecDepth 100000 in
set_option maxHeartbeats 4000000 in
theorem c_X0_classify (l : Launch) (G : GG) (o : Nat) (X : SX) (Y : SY) (i : Nat) (h_i : i < 40) : Ct l yX0_classify cX0_classify 5 none 0 0 G o [.ref (o + (14 + 2 * i)), .ref (o + 8), .ref (o + 13)] X Y none (clsX X i) Y := by
  refine Ct.mk (by decide +kernel) (Nat.le_of_ble_eq_true rfl) rfl ?_
  intro p9 e9 s9 m9 args9 below9 meth9 c9 hE hr hlocks hK hI ls hl
  have hx := hE.1
  have hb := hE.2.1
  have hl : lv_has ls 5 [(0, .ref (o + (14 + 2 * i))), (1, .ref (o + 8)), (2, .ref (o + 13))] := hl
  refine lv_iconst (v := 0) hx hb dX0_classify_0 (by decide) ?_
  refine lv_istore_n (lv' := [(3, .int 0), (0, .ref (o + (14 + 2 * i))), (1, .ref (o + 8)), (2, .ref (o + 13))]) hx hb dX0_classify_1 rfl hl (by decide) rfl (fun ls hl => ?_)
  refine lv_iload_n hx hb dX0_classify_2 rfl (lv_at hl 0 rfl) ?_
  refine lv_iconst (v := 4) hx hb dX0_classify_3 (by decide) ?_
  refine lv_icmp_ge (tgt := 51) hx hb dX0_classify_4 (by decide) (fun q => absurd q (by decide)) (fun _ => ?_)
  refine lv_aload_n hx hb dX0_classify_7 rfl (lv_at hl 1 rfl) ?_
  refine x_get (k := (14 + 2 * i)) hE hK hI (by have := h_i; omega) inG0 (el_14 G o h_i _ _) rfl 0 (by decide) mw_78 rfl dX0_classify_8 ?_
  refine lv_iload_n hx hb dX0_classify_11 rfl (lv_at hl 0 rfl) ?_
  refine x_iald (k := (15 + 2 * i)) (j := 0) hE hK hI (by have := h_i; omega) (em_14 G o h_i) (by decide) (by decide) rfl dX0_classify_12 ?_
  refine lv_aload_n hx hb dX0_classify_13 rfl (lv_at hl 2 rfl) ?_
  refine lv_iload_n hx hb dX0_classify_14 rfl (lv_at hl 0 rfl) ?_
  refine x_iald (k := 8) (j := 0) hE hK hI (by decide) (e_8 G o) (by decide) (by decide) rfl dX0_classify_15 ?_
  refine lv_imul hx hb dX0_classify_16 ?_
  refine lv_bipush (v := 10) hx hb dX0_classify_17 (by decide) ?_
  refine lv_idiv hx hb dX0_classify_19 (by decide) ?_
  refine lv_istore (lv' := [(4, .int (((X (15 + 2 * i) 0) * (X 8 0)) / 10)), (3, .int 0), (0, .ref (o + (14 + 2 * i))), (1, .ref (o + 8)), (2, .ref (o + 13))]) hx hb dX0_classify_20 hl (by decide) rfl (fun ls hl => ?_)
  refine lv_aload_n hx hb dX0_classify_22 rfl (lv_at hl 4 rfl) ?_
  refine lv_iload_n hx hb dX0_classify_23 rfl (lv_at hl 1 rfl) ?_
  refine lv_dup2_11 hx hb dX0_classify_24 rfl rfl ?_
  refine x_iald (k := 13) (j := 0) hE hK hI (by decide) (e_13 G o) (by decide) (by decide) rfl dX0_classify_25 ?_
  refine lv_aload_n hx hb dX0_classify_26 rfl (lv_at hl 2 rfl) ?_
  refine x_get (k := (14 + 2 * i)) hE hK hI (by have := h_i; omega) inG0 (el_14 G o h_i _ _) rfl 0 (by decide) mw_78 rfl dX0_classify_27 ?_
  refine lv_iload_n hx hb dX0_classify_30 rfl (lv_at hl 1 rfl) ?_
  refine x_iald (k := (15 + 2 * i)) (j := 0) hE hK hI (by have := h_i; omega) (em_14 G o h_i) (by decide) (by decide) rfl dX0_classify_31 ?_
  refine lv_iload hx hb dX0_classify_32 (lv_at hl 0 rfl) ?_
  refine lv_isub hx hb dX0_classify_34 ?_
  refine lv_iadd hx hb dX0_classify_35 ?_
  refine x_iast (k := 13) (j := 0) hE hK hI (by decide) (e_13 G o) (by decide) (by decide) rfl dX0_classify_36 (fun H locs hI => ?_)
  refine lv_aload_n hx hb dX0_classify_37 rfl (lv_at hl 2 rfl) ?_
  refine x_get (k := (14 + 2 * i)) hE hK hI (by have := h_i; omega) inG0 (el_14 G o h_i _ _) rfl 0 (by decide) mw_78 rfl dX0_classify_38 ?_
  refine lv_iload_n hx hb dX0_classify_41 rfl (lv_at hl 1 rfl) ?_
  refine lv_iload hx hb dX0_classify_42 (lv_at hl 0 rfl) ?_
  refine x_iast (k := (15 + 2 * i)) (j := 0) hE hK hI (by have := h_i; omega) (em_14 G o h_i) (by decide) (by decide) rfl dX0_classify_44 (fun H locs hI => ?_)
  refine lv_iinc (v := 1) (lv' := [(3, .int 1), (4, .int (((X (15 + 2 * i) 0) * (X 8 0)) / 10)), (0, .ref (o + (14 + 2 * i))), (1, .ref (o + 8)), (2, .ref (o + 13))]) hx hb dX0_classify_45 hl (k := 1) rfl (by decide) (by decide) rfl (fun ls hl => ?_)
  refine lv_goto (tgt := 2) hx hb dX0_classify_48 (by decide) ?_
  refine lv_iload_n hx hb dX0_classify_2 rfl (lv_at hl 0 rfl) ?_
  refine lv_iconst (v := 4) hx hb dX0_classify_3 (by decide) ?_
  refine lv_icmp_ge (tgt := 51) hx hb dX0_classify_4 (by decide) (fun q => absurd q (by decide)) (fun _ => ?_)
  refine lv_aload_n hx hb dX0_classify_7 rfl (lv_at hl 2 rfl) ?_
  refine x_get (k := (14 + 2 * i)) hE hK hI (by have := h_i; omega) inG0 (el_14 G o h_i _ _) rfl 0 (by decide) mw_78 rfl dX0_classify_8 ?_
  refine lv_iload_n hx hb dX0_classify_11 rfl (lv_at hl 0 rfl) ?_
  refine x_iald (k := (15 + 2 * i)) (j := 1) hE hK hI (by have := h_i; omega) (em_14 G o h_i) (by decide) (by decide) rfl dX0_classify_12 ?_
  refine lv_topi (fun z1 ez1 => ?_)
  obtain rfl : X (15 + 2 * i) 1 = z1 := (ez1.trans ((sx_o (by omega)).trans ((sx_o (by omega))))).symm
  refine lv_aload_n hx hb dX0_classify_13 rfl (lv_at hl 3 rfl) ?_
  refine lv_iload_n hx hb dX0_classify_14 rfl (lv_at hl 0 rfl) ?_
  refine x_iald (k := 8) (j := 1) hE hK hI (by decide) (e_8 G o) (by decide) (by decide) rfl dX0_classify_15 ?_
  refine lv_topi (fun z2 ez2 => ?_)
  obtain rfl : X 8 1 = z2 := (ez2.trans ((sx_o (by omega)).trans ((sx_o (by decide))))).symm
  refine lv_imul hx hb dX0_classify_16 ?_
  refine lv_bipush (v := 10) hx hb dX0_classify_17 (by decide) ?_
  refine lv_idiv hx hb dX0_classify_19 (by decide) ?_
  refine lv_istore (lv' := [(4, .int (((X (15 + 2 * i) 1) * (X 8 1)) / 10)), (3, .int 1), (0, .ref (o + (14 + 2 * i))), (1, .ref (o + 8)), (2, .ref (o + 13))]) hx hb dX0_classify_20 hl (by decide) rfl (fun ls hl => ?_)
  refine lv_aload_n hx hb dX0_classify_22 rfl (lv_at hl 4 rfl) ?_
  refine lv_iload_n hx hb dX0_classify_23 rfl (lv_at hl 1 rfl) ?_
  refine lv_dup2_11 hx hb dX0_classify_24 rfl rfl ?_
  refine x_iald (k := 13) (j := 1) hE hK hI (by decide) (e_13 G o) (by decide) (by decide) rfl dX0_classify_25 ?_
  refine lv_topi (fun z3 ez3 => ?_)
  obtain rfl : X 13 1 = z3 := (ez3.trans ((sx_o (by omega)).trans ((sx_o (by decide))))).symm
  refine lv_aload_n hx hb dX0_classify_26 rfl (lv_at hl 2 rfl) ?_
  refine x_get (k := (14 + 2 * i)) hE hK hI (by have := h_i; omega) inG0 (el_14 G o h_i _ _) rfl 0 (by decide) mw_78 rfl dX0_classify_27 ?_
  refine lv_iload_n hx hb dX0_classify_30 rfl (lv_at hl 1 rfl) ?_
  refine x_iald (k := (15 + 2 * i)) (j := 1) hE hK hI (by have := h_i; omega) (em_14 G o h_i) (by decide) (by decide) rfl dX0_classify_31 ?_
  refine lv_topi (fun z4 ez4 => ?_)
  obtain rfl : X (15 + 2 * i) 1 = z4 := (ez4.trans ((sx_o (by omega)).trans ((sx_o (by omega))))).symm
  refine lv_iload hx hb dX0_classify_32 (lv_at hl 0 rfl) ?_
  refine lv_isub hx hb dX0_classify_34 ?_
  refine lv_iadd hx hb dX0_classify_35 ?_
  refine x_iast (k := 13) (j := 1) hE hK hI (by decide) (e_13 G o) (by decide) (by decide) rfl dX0_classify_36 (fun H locs hI => ?_)
  refine lv_aload_n hx hb dX0_classify_37 rfl (lv_at hl 2 rfl) ?_
  refine x_get (k := (14 + 2 * i)) hE hK hI (by have := h_i; omega) inG0 (el_14 G o h_i _ _) rfl 0 (by decide) mw_78 rfl dX0_classify_38 ?_
  refine lv_iload_n hx hb dX0_classify_41 rfl (lv_at hl 1 rfl) ?_
  refine lv_iload hx hb dX0_classify_42 (lv_at hl 0 rfl) ?_
  refine x_iast (k := (15 + 2 * i)) (j := 1) hE hK hI (by have := h_i; omega) (em_14 G o h_i) (by decide) (by decide) rfl dX0_classify_44 (fun H locs hI => ?_)
  refine lv_iinc (v := 2) (lv' := [(3, .int 2), (4, .int (((X (15 + 2 * i) 1) * (X 8 1)) / 10)), (0, .ref (o + (14 + 2 * i))), (1, .ref (o + 8)), (2, .ref (o + 13))]) hx hb dX0_classify_45 hl (k := 1) rfl (by decide) (by decide) rfl (fun ls hl => ?_)
  refine lv_goto (tgt := 2) hx hb dX0_classify_48 (by decide) ?_
  refine lv_iload_n hx hb dX0_classify_2 rfl (lv_at hl 0 rfl) ?_
  refine lv_iconst (v := 4) hx hb dX0_classify_3 (by decide) ?_
  refine lv_icmp_ge (tgt := 51) hx hb dX0_classify_4 (by decide) (fun q => absurd q (by decide)) (fun _ => ?_)
  refine lv_aload_n hx hb dX0_classify_7 rfl (lv_at hl 2 rfl) ?_
  refine x_get (k := (14 + 2 * i)) hE hK hI (by have := h_i; omega) inG0 (el_14 G o h_i _ _) rfl 0 (by decide) mw_78 rfl dX0_classify_8 ?_
  refine lv_iload_n hx hb dX0_classify_11 rfl (lv_at hl 0 rfl) ?_
  refine x_iald (k := (15 + 2 * i)) (j := 2) hE hK hI (by have := h_i; omega) (em_14 G o h_i) (by decide) (by decide) rfl dX0_classify_12 ?_
  refine lv_topi (fun z5 ez5 => ?_)
  obtain rfl : X (15 + 2 * i) 2 = z5 := (ez5.trans ((sx_o (by omega)).trans ((sx_o (by omega)).trans ((sx_o (by omega)).trans ((sx_o (by omega))))))).symm
  refine lv_aload_n hx hb dX0_classify_13 rfl (lv_at hl 3 rfl) ?_
  refine lv_iload_n hx hb dX0_classify_14 rfl (lv_at hl 0 rfl) ?_
  refine x_iald (k := 8) (j := 2) hE hK hI (by decide) (e_8 G o) (by decide) (by decide) rfl dX0_classify_15 ?_
  refine lv_topi (fun z6 ez6 => ?_)
  obtain rfl : X 8 2 = z6 := (ez6.trans ((sx_o (by omega)).trans ((sx_o (by decide)).trans ((sx_o (by omega)).trans ((sx_o (by decide))))))).symm
  refine lv_imul hx hb dX0_classify_16 ?_
  refine lv_bipush (v := 10) hx hb dX0_classify_17 (by decide) ?_
  refine lv_idiv hx hb dX0_classify_19 (by decide) ?_
  refine lv_istore (lv' := [(4, .int (((X (15 + 2 * i) 2) * (X 8 2)) / 10)), (3, .int 2), (0, .ref (o + (14 + 2 * i))), (1, .ref (o + 8)), (2, .ref (o + 13))]) hx hb dX0_classify_20 hl (by decide) rfl (fun ls hl => ?_)
  refine lv_aload_n hx hb dX0_classify_22 rfl (lv_at hl 4 rfl) ?_
  refine lv_iload_n hx hb dX0_classify_23 rfl (lv_at hl 1 rfl) ?_
  refine lv_dup2_11 hx hb dX0_classify_24 rfl rfl ?_
  refine x_iald (k := 13) (j := 2) hE hK hI (by decide) (e_13 G o) (by decide) (by decide) rfl dX0_classify_25 ?_
  refine lv_topi (fun z7 ez7 => ?_)
  obtain rfl : X 13 2 = z7 := (ez7.trans ((sx_o (by omega)).trans ((sx_o (by decide)).trans ((sx_o (by omega)).trans ((sx_o (by decide))))))).symm
  refine lv_aload_n hx hb dX0_classify_26 rfl (lv_at hl 2 rfl) ?_
  refine x_get (k := (14 + 2 * i)) hE hK hI (by have := h_i; omega) inG0 (el_14 G o h_i _ _) rfl 0 (by decide) mw_78 rfl dX0_classify_27 ?_
  refine lv_iload_n hx hb dX0_classify_30 rfl (lv_at hl 1 rfl) ?_
  refine x_iald (k := (15 + 2 * i)) (j := 2) hE hK hI (by have := h_i; omega) (em_14 G o h_i) (by decide) (by decide) rfl dX0_classify_31 ?_
  refine lv_topi (fun z8 ez8 => ?_)
  obtain rfl : X (15 + 2 * i) 2 = z8 := (ez8.trans ((sx_o (by omega)).trans ((sx_o (by omega)).trans ((sx_o (by omega)).trans ((sx_o (by omega))))))).symm
  refine lv_iload hx hb dX0_classify_32 (lv_at hl 0 rfl) ?_
  refine lv_isub hx hb dX0_classify_34 ?_
  refine lv_iadd hx hb dX0_classify_35 ?_
  refine x_iast (k := 13) (j := 2) hE hK hI (by decide) (e_13 G o) (by decide) (by decide) rfl dX0_classify_36 (fun H locs hI => ?_)
  refine lv_aload_n hx hb dX0_classify_37 rfl (lv_at hl 2 rfl) ?_
  refine x_get (k := (14 + 2 * i)) hE hK hI (by have := h_i; omega) inG0 (el_14 G o h_i _ _) rfl 0 (by decide) mw_78 rfl dX0_classify_38 ?_
  refine lv_iload_n hx hb dX0_classify_41 rfl (lv_at hl 1 rfl) ?_
  refine lv_iload hx hb dX0_classify_42 (lv_at hl 0 rfl) ?_
  refine x_iast (k := (15 + 2 * i)) (j := 2) hE hK hI (by have := h_i; omega) (em_14 G o h_i) (by decide) (by decide) rfl dX0_classify_44 (fun H locs hI => ?_)
  refine lv_iinc (v := 3) (lv' := [(3, .int 3), (4, .int (((X (15 + 2 * i) 2) * (X 8 2)) / 10)), (0, .ref (o + (14 + 2 * i))), (1, .ref (o + 8)), (2, .ref (o + 13))]) hx hb dX0_classify_45 hl (k := 1) rfl (by decide) (by decide) rfl (fun ls hl => ?_)
  refine lv_goto (tgt := 2) hx hb dX0_classify_48 (by decide) ?_
  refine lv_iload_n hx hb dX0_classify_2 rfl (lv_at hl 0 rfl) ?_
  refine lv_iconst (v := 4) hx hb dX0_classify_3 (by decide) ?_
  refine lv_icmp_ge (tgt := 51) hx hb dX0_classify_4 (by decide) (fun q => absurd q (by decide)) (fun _ => ?_)
  refine lv_aload_n hx hb dX0_classify_7 rfl (lv_at hl 2 rfl) ?_
  refine x_get (k := (14 + 2 * i)) hE hK hI (by have := h_i; omega) inG0 (el_14 G o h_i _ _) rfl 0 (by decide) mw_78 rfl dX0_classify_8 ?_
  refine lv_iload_n hx hb dX0_classify_11 rfl (lv_at hl 0 rfl) ?_
  refine x_iald (k := (15 + 2 * i)) (j := 3) hE hK hI (by have := h_i; omega) (em_14 G o h_i) (by decide) (by decide) rfl dX0_classify_12 ?_
  refine lv_topi (fun z9 ez9 => ?_)
  obtain rfl : X (15 + 2 * i) 3 = z9 := (ez9.trans ((sx_o (by omega)).trans ((sx_o (by omega)).trans ((sx_o (by omega)).trans ((sx_o (by omega)).trans ((sx_o (by omega)).trans ((sx_o (by omega))))))))).symm
  refine lv_aload_n hx hb dX0_classify_13 rfl (lv_at hl 3 rfl) ?_
  refine lv_iload_n hx hb dX0_classify_14 rfl (lv_at hl 0 rfl) ?_
  refine x_iald (k := 8) (j := 3) hE hK hI (by decide) (e_8 G o) (by decide) (by decide) rfl dX0_classify_15 ?_
  refine lv_topi (fun z10 ez10 => ?_)
  obtain rfl : X 8 3 = z10 := (ez10.trans ((sx_o (by omega)).trans ((sx_o (by decide)).trans ((sx_o (by omega)).trans ((sx_o (by decide)).trans ((sx_o (by omega)).trans ((sx_o (by decide))))))))).symm
  refine lv_imul hx hb dX0_classify_16 ?_
  refine lv_bipush (v := 10) hx hb dX0_classify_17 (by decide) ?_
  refine lv_idiv hx hb dX0_classify_19 (by decide) ?_
  refine lv_istore (lv' := [(4, .int (((X (15 + 2 * i) 3) * (X 8 3)) / 10)), (3, .int 3), (0, .ref (o + (14 + 2 * i))), (1, .ref (o + 8)), (2, .ref (o + 13))]) hx hb dX0_classify_20 hl (by decide) rfl (fun ls hl => ?_)
  refine lv_aload_n hx hb dX0_classify_22 rfl (lv_at hl 4 rfl) ?_
  refine lv_iload_n hx hb dX0_classify_23 rfl (lv_at hl 1 rfl) ?_
  refine lv_dup2_11 hx hb dX0_classify_24 rfl rfl ?_
  refine x_iald (k := 13) (j := 3) hE hK hI (by decide) (e_13 G o) (by decide) (by decide) rfl dX0_classify_25 ?_
  refine lv_topi (fun z11 ez11 => ?_)
  obtain rfl : X 13 3 = z11 := (ez11.trans ((sx_o (by omega)).trans ((sx_o (by decide)).trans ((sx_o (by omega)).trans ((sx_o (by decide)).trans ((sx_o (by omega)).trans ((sx_o (by decide))))))))).symm
  refine lv_aload_n hx hb dX0_classify_26 rfl (lv_at hl 2 rfl) ?_
  refine x_get (k := (14 + 2 * i)) hE hK hI (by have := h_i; omega) inG0 (el_14 G o h_i _ _) rfl 0 (by decide) mw_78 rfl dX0_classify_27 ?_
  refine lv_iload_n hx hb dX0_classify_30 rfl (lv_at hl 1 rfl) ?_
  refine x_iald (k := (15 + 2 * i)) (j := 3) hE hK hI (by have := h_i; omega) (em_14 G o h_i) (by decide) (by decide) rfl dX0_classify_31 ?_
  refine lv_topi (fun z12 ez12 => ?_)
  obtain rfl : X (15 + 2 * i) 3 = z12 := (ez12.trans ((sx_o (by omega)).trans ((sx_o (by omega)).trans ((sx_o (by omega)).trans ((sx_o (by omega)).trans ((sx_o (by omega)).trans ((sx_o (by omega))))))))).symm
  refine lv_iload hx hb dX0_classify_32 (lv_at hl 0 rfl) ?_
  refine lv_isub hx hb dX0_classify_34 ?_
  refine lv_iadd hx hb dX0_classify_35 ?_
  refine x_iast (k := 13) (j := 3) hE hK hI (by decide) (e_13 G o) (by decide) (by decide) rfl dX0_classify_36 (fun H locs hI => ?_)
  refine lv_aload_n hx hb dX0_classify_37 rfl (lv_at hl 2 rfl) ?_
  refine x_get (k := (14 + 2 * i)) hE hK hI (by have := h_i; omega) inG0 (el_14 G o h_i _ _) rfl 0 (by decide) mw_78 rfl dX0_classify_38 ?_
  refine lv_iload_n hx hb dX0_classify_41 rfl (lv_at hl 1 rfl) ?_
  refine lv_iload hx hb dX0_classify_42 (lv_at hl 0 rfl) ?_
  refine x_iast (k := (15 + 2 * i)) (j := 3) hE hK hI (by have := h_i; omega) (em_14 G o h_i) (by decide) (by decide) rfl dX0_classify_44 (fun H locs hI => ?_)
  refine lv_iinc (v := 4) (lv' := [(3, .int 4), (4, .int (((X (15 + 2 * i) 3) * (X 8 3)) / 10)), (0, .ref (o + (14 + 2 * i))), (1, .ref (o + 8)), (2, .ref (o + 13))]) hx hb dX0_classify_45 hl (k := 1) rfl (by decide) (by decide) rfl (fun ls hl => ?_)
  refine lv_goto (tgt := 2) hx hb dX0_classify_48 (by decide) ?_
  refine lv_iload_n hx hb dX0_classify_2 rfl (lv_at hl 0 rfl) ?_
  refine lv_iconst (v := 4) hx hb dX0_classify_3 (by decide) ?_
  refine lv_icmp_ge (tgt := 51) hx hb dX0_classify_4 (by decide) (fun _ => ?_) (fun q => absurd (by decide) q)
  exact x_vret hE hr hlocks hI rfl rfl rfl dX0_classify_51
def lc_14_108_X (X : SX) (i : Nat) : SX := sx (sx (sx (sx (cx X (109 + 2 * i) (15 + 2 * i)) (14 + 2 * i) 1 (X (108 + 2 * i) 1)) (14 + 2 * i) 2 (X (108 + 2 * i) 2)) (14 + 2 * i) 3 (X (108 + 2 * i) 3)) (14 + 2 * i) 4 (X (108 + 2 * i) 4)
set_option maxRecDepth 100000 in
set_option maxHeartbeats 4000000 in
theorem c_X0_copyFrom_14_108 (l : Launch) (G : GG) (o : Nat) (X : SX) (Y : SY) (i : Nat) (h_i : i < 40) : Ct l yX0_copyFrom cX0_copyFrom 2 none 1 60 G o [.ref (o + (14 + 2 * i)), .ref (o + (108 + 2 * i))] X Y none (lc_14_108_X X i) Y := by
  refine Ct.mk (by decide +kernel) (Nat.le_of_ble_eq_true rfl) rfl ?_
  intro p9 e9 s9 m9 args9 below9 meth9 c9 hE hr hlocks hK hI ls hl
  have hx := hE.1
  have hb := hE.2.1
  have hl : lv_has ls 2 [(0, .ref (o + (14 + 2 * i))), (1, .ref (o + (108 + 2 * i)))] := hl
  refine lv_aload_n hx hb dX0_copyFrom_0 rfl (lv_at hl 1 rfl) ?_
  refine x_get (k := (108 + 2 * i)) hE hK hI (by have := h_i; omega) inG0 (el_108 G o h_i _ _) rfl 0 (by decide) mw_78 rfl dX0_copyFrom_1 ?_
  refine lv_iconst (v := 0) hx hb dX0_copyFrom_4 (by decide) ?_
  refine lv_aload_n hx hb dX0_copyFrom_5 rfl (lv_at hl 0 rfl) ?_
  refine x_get (k := (14 + 2 * i)) hE hK hI (by have := h_i; omega) inG0 (el_14 G o h_i _ _) rfl 0 (by decide) mw_78 rfl dX0_copyFrom_6 ?_
  refine lv_iconst (v := 0) hx hb dX0_copyFrom_9 (by decide) ?_
  refine lv_iconst (v := 4) hx hb dX0_copyFrom_10 (by decide) ?_
  refine x_copy (k0 := (109 + 2 * i)) (k := (15 + 2 * i)) hE hK hI (by have := h_i; omega) (by have := h_i; omega) (em_108 G o h_i) (em_14 G o h_i) (hE.2.2.1.trans hl.1.symm) mw_468 (Nat.le_of_ble_eq_true rfl) (by decide +kernel) dX0_copyFrom_11 (fun H locs hI => ?_)
  refine lv_aload_n hx hb dX0_copyFrom_14 rfl (lv_at hl 0 rfl) ?_
  refine lv_aload_n hx hb dX0_copyFrom_15 rfl (lv_at hl 1 rfl) ?_
  refine x_get (k := (108 + 2 * i)) hE hK hI (by have := h_i; omega) inG0 (el_108 G o h_i _ _) rfl 1 (by decide) mw_81 rfl dX0_copyFrom_16 ?_
  refine lv_topi (fun z1 ez1 => ?_)
  obtain rfl : X (108 + 2 * i) 1 = z1 := (ez1.trans ((cx_o (by omega)))).symm
  refine x_puti (k := (14 + 2 * i)) hE hK hI (by have := h_i; omega) inG0 tyX0 tyX0_ok nmX0 (el_14 G o h_i) rfl 1 (by decide) mw_81 rfl (by decide +kernel) (by exact Nat.le_of_ble_eq_true rfl) rfl dX0_copyFrom_19 (fun H locs hI => ?_)
  refine lv_aload_n hx hb dX0_copyFrom_22 rfl (lv_at hl 0 rfl) ?_
  refine lv_aload_n hx hb dX0_copyFrom_23 rfl (lv_at hl 1 rfl) ?_
  refine x_get (k := (108 + 2 * i)) hE hK hI (by have := h_i; omega) inG0 (el_108 G o h_i _ _) rfl 2 (by decide) mw_84 rfl dX0_copyFrom_24 ?_
  refine lv_topi (fun z2 ez2 => ?_)
  obtain rfl : X (108 + 2 * i) 2 = z2 := (ez2.trans ((sx_o (by omega)).trans ((cx_o (by omega))))).symm
  refine x_puti (k := (14 + 2 * i)) hE hK hI (by have := h_i; omega) inG0 tyX0 tyX0_ok nmX0 (el_14 G o h_i) rfl 2 (by decide) mw_84 rfl (by decide +kernel) (by exact Nat.le_of_ble_eq_true rfl) rfl dX0_copyFrom_27 (fun H locs hI => ?_)
  refine lv_aload_n hx hb dX0_copyFrom_30 rfl (lv_at hl 0 rfl) ?_
  refine lv_aload_n hx hb dX0_copyFrom_31 rfl (lv_at hl 1 rfl) ?_
  refine x_get (k := (108 + 2 * i)) hE hK hI (by have := h_i; omega) inG0 (el_108 G o h_i _ _) rfl 3 (by decide) mw_86 rfl dX0_copyFrom_32 ?_
  refine lv_topi (fun z3 ez3 => ?_)
  obtain rfl : X (108 + 2 * i) 3 = z3 := (ez3.trans ((sx_o (by omega)).trans ((sx_o (by omega)).trans ((cx_o (by omega)))))).symm
  refine x_puti (k := (14 + 2 * i)) hE hK hI (by have := h_i; omega) inG0 tyX0 tyX0_ok nmX0 (el_14 G o h_i) rfl 3 (by decide) mw_86 rfl (by decide +kernel) (by exact Nat.le_of_ble_eq_true rfl) rfl dX0_copyFrom_35 (fun H locs hI => ?_)
  refine lv_aload_n hx hb dX0_copyFrom_38 rfl (lv_at hl 0 rfl) ?_
  refine lv_aload_n hx hb dX0_copyFrom_39 rfl (lv_at hl 1 rfl) ?_
  refine x_get (k := (108 + 2 * i)) hE hK hI (by have := h_i; omega) inG0 (el_108 G o h_i _ _) rfl 4 (by decide) mw_88 rfl dX0_copyFrom_40 ?_
  refine lv_topi (fun z4 ez4 => ?_)
  obtain rfl : X (108 + 2 * i) 4 = z4 := (ez4.trans ((sx_o (by omega)).trans ((sx_o (by omega)).trans ((sx_o (by omega)).trans ((cx_o (by omega))))))).symm
  refine x_puti (k := (14 + 2 * i)) hE hK hI (by have := h_i; omega) inG0 tyX0 tyX0_ok nmX0 (el_14 G o h_i) rfl 4 (by decide) mw_88 rfl (by decide +kernel) (by exact Nat.le_of_ble_eq_true rfl) rfl dX0_copyFrom_43 (fun H locs hI => ?_)
  exact x_vret hE hr hlocks hI rfl rfl rfl dX0_copyFrom_46
def lc_14_201_X (X : SX) (i : Nat) : SX := sx (sx (sx (sx (cx X (202 + 2 * i) (15 + 2 * i)) (14 + 2 * i) 1 (X (201 + 2 * i) 1)) (14 + 2 * i) 2 (X (201 + 2 * i) 2)) (14 + 2 * i) 3 (X (201 + 2 * i) 3)) (14 + 2 * i) 4 (X (201 + 2 * i) 4)
set_option maxRecDepth 100000 in
set_option maxHeartbeats 4000000 in
theorem c_X0_copyFrom_14_201 (l : Launch) (G : GG) (o : Nat) (X : SX) (Y : SY) (i : Nat) (h_i : i < 40) : Ct l yX0_copyFrom cX0_copyFrom 2 none 1 60 G o [.ref (o + (14 + 2 * i)), .ref (o + (201 + 2 * i))] X Y none (lc_14_201_X X i) Y := by
  refine Ct.mk (by decide +kernel) (Nat.le_of_ble_eq_true rfl) rfl ?_
  intro p9 e9 s9 m9 args9 below9 meth9 c9 hE hr hlocks hK hI ls hl
  have hx := hE.1
  have hb := hE.2.1
  have hl : lv_has ls 2 [(0, .ref (o + (14 + 2 * i))), (1, .ref (o + (201 + 2 * i)))] := hl
  refine lv_aload_n hx hb dX0_copyFrom_0 rfl (lv_at hl 1 rfl) ?_
  refine x_get (k := (201 + 2 * i)) hE hK hI (by have := h_i; omega) inG0 (el_201 G o h_i _ _) rfl 0 (by decide) mw_78 rfl dX0_copyFrom_1 ?_
  refine lv_iconst (v := 0) hx hb dX0_copyFrom_4 (by decide) ?_
  refine lv_aload_n hx hb dX0_copyFrom_5 rfl (lv_at hl 0 rfl) ?_
  refine x_get (k := (14 + 2 * i)) hE hK hI (by have := h_i; omega) inG0 (el_14 G o h_i _ _) rfl 0 (by decide) mw_78 rfl dX0_copyFrom_6 ?_
  refine lv_iconst (v := 0) hx hb dX0_copyFrom_9 (by decide) ?_
  refine lv_iconst (v := 4) hx hb dX0_copyFrom_10 (by decide) ?_
  refine x_copy (k0 := (202 + 2 * i)) (k := (15 + 2 * i)) hE hK hI (by have := h_i; omega) (by have := h_i; omega) (em_201 G o h_i) (em_14 G o h_i) (hE.2.2.1.trans hl.1.symm) mw_468 (Nat.le_of_ble_eq_true rfl) (by decide +kernel) dX0_copyFrom_11 (fun H locs hI => ?_)
  refine lv_aload_n hx hb dX0_copyFrom_14 rfl (lv_at hl 0 rfl) ?_
  refine lv_aload_n hx hb dX0_copyFrom_15 rfl (lv_at hl 1 rfl) ?_
  refine x_get (k := (201 + 2 * i)) hE hK hI (by have := h_i; omega) inG0 (el_201 G o h_i _ _) rfl 1 (by decide) mw_81 rfl dX0_copyFrom_16 ?_
  refine lv_topi (fun z1 ez1 => ?_)
  obtain rfl : X (201 + 2 * i) 1 = z1 := (ez1.trans ((cx_o (by omega)))).symm
  refine x_puti (k := (14 + 2 * i)) hE hK hI (by have := h_i; omega) inG0 tyX0 tyX0_ok nmX0 (el_14 G o h_i) rfl 1 (by decide) mw_81 rfl (by decide +kernel) (by exact Nat.le_of_ble_eq_true rfl) rfl dX0_copyFrom_19 (fun H locs hI => ?_)
  refine lv_aload_n hx hb dX0_copyFrom_22 rfl (lv_at hl 0 rfl) ?_
  refine lv_aload_n hx hb dX0_copyFrom_23 rfl (lv_at hl 1 rfl) ?_
  refine x_get (k := (201 + 2 * i)) hE hK hI (by have := h_i; omega) inG0 (el_201 G o h_i _ _) rfl 2 (by decide) mw_84 rfl dX0_copyFrom_24 ?_
  refine lv_topi (fun z2 ez2 => ?_)
  obtain rfl : X (201 + 2 * i) 2 = z2 := (ez2.trans ((sx_o (by omega)).trans ((cx_o (by omega))))).symm
  refine x_puti (k := (14 + 2 * i)) hE hK hI (by have := h_i; omega) inG0 tyX0 tyX0_ok nmX0 (el_14 G o h_i) rfl 2 (by decide) mw_84 rfl (by decide +kernel) (by exact Nat.le_of_ble_eq_true rfl) rfl dX0_copyFrom_27 (fun H locs hI => ?_)
  refine lv_aload_n hx hb dX0_copyFrom_30 rfl (lv_at hl 0 rfl) ?_
  refine lv_aload_n hx hb dX0_copyFrom_31 rfl (lv_at hl 1 rfl) ?_
  refine x_get (k := (201 + 2 * i)) hE hK hI (by have := h_i; omega) inG0 (el_201 G o h_i _ _) rfl 3 (by decide) mw_86 rfl dX0_copyFrom_32 ?_
  refine lv_topi (fun z3 ez3 => ?_)
  obtain rfl : X (201 + 2 * i) 3 = z3 := (ez3.trans ((sx_o (by omega)).trans ((sx_o (by omega)).trans ((cx_o (by omega)))))).symm
  refine x_puti (k := (14 + 2 * i)) hE hK hI (by have := h_i; omega) inG0 tyX0 tyX0_ok nmX0 (el_14 G o h_i) rfl 3 (by decide) mw_86 rfl (by decide +kernel) (by exact Nat.le_of_ble_eq_true rfl) rfl dX0_copyFrom_35 (fun H locs hI => ?_)
  refine lv_aload_n hx hb dX0_copyFrom_38 rfl (lv_at hl 0 rfl) ?_
  refine lv_aload_n hx hb dX0_copyFrom_39 rfl (lv_at hl 1 rfl) ?_
  refine x_get (k := (201 + 2 * i)) hE hK hI (by have := h_i; omega) inG0 (el_201 G o h_i _ _) rfl 4 (by decide) mw_88 rfl dX0_copyFrom_40 ?_
  refine lv_topi (fun z4 ez4 => ?_)
  obtain rfl : X (201 + 2 * i) 4 = z4 := (ez4.trans ((sx_o (by omega)).trans ((sx_o (by omega)).trans ((sx_o (by omega)).trans ((cx_o (by omega))))))).symm
  refine x_puti (k := (14 + 2 * i)) hE hK hI (by have := h_i; omega) inG0 tyX0 tyX0_ok nmX0 (el_14 G o h_i) rfl 4 (by decide) mw_88 rfl (by decide +kernel) (by exact Nat.le_of_ble_eq_true rfl) rfl dX0_copyFrom_43 (fun H locs hI => ?_)
  exact x_vret hE hr hlocks hI rfl rfl rfl dX0_copyFrom_46
def lc_108_14_X (X : SX) (i : Nat) : SX := sx (sx (sx (sx (cx X (15 + 2 * i) (109 + 2 * i)) (108 + 2 * i) 1 (X (14 + 2 * i) 1)) (108 + 2 * i) 2 (X (14 + 2 * i) 2)) (108 + 2 * i) 3 (X (14 + 2 * i) 3)) (108 + 2 * i) 4 (X (14 + 2 * i) 4)
set_option maxRecDepth 100000 in
set_option maxHeartbeats 4000000 in
theorem c_X0_copyFrom_108_14 (l : Launch) (G : GG) (o : Nat) (X : SX) (Y : SY) (i : Nat) (h_i : i < 40) : Ct l yX0_copyFrom cX0_copyFrom 2 none 1 60 G o [.ref (o + (108 + 2 * i)), .ref (o + (14 + 2 * i))] X Y none (lc_108_14_X X i) Y := by
  refine Ct.mk (by decide +kernel) (Nat.le_of_ble_eq_true rfl) rfl ?_
  intro p9 e9 s9 m9 args9 below9 meth9 c9 hE hr hlocks hK hI ls hl
  have hx := hE.1
  have hb := hE.2.1
  have hl : lv_has ls 2 [(0, .ref (o + (108 + 2 * i))), (1, .ref (o + (14 + 2 * i)))] := hl
  refine lv_aload_n hx hb dX0_copyFrom_0 rfl (lv_at hl 1 rfl) ?_
  refine x_get (k := (14 + 2 * i)) hE hK hI (by have := h_i; omega) inG0 (el_14 G o h_i _ _) rfl 0 (by decide) mw_78 rfl dX0_copyFrom_1 ?_
  refine lv_iconst (v := 0) hx hb dX0_copyFrom_4 (by decide) ?_
  refine lv_aload_n hx hb dX0_copyFrom_5 rfl (lv_at hl 0 rfl) ?_
  refine x_get (k := (108 + 2 * i)) hE hK hI (by have := h_i; omega) inG0 (el_108 G o h_i _ _) rfl 0 (by decide) mw_78 rfl dX0_copyFrom_6 ?_
  refine lv_iconst (v := 0) hx hb dX0_copyFrom_9 (by decide) ?_
  refine lv_iconst (v := 4) hx hb dX0_copyFrom_10 (by decide) ?_
  refine x_copy (k0 := (15 + 2 * i)) (k := (109 + 2 * i)) hE hK hI (by have := h_i; omega) (by have := h_i; omega) (em_14 G o h_i) (em_108 G o h_i) (hE.2.2.1.trans hl.1.symm) mw_468 (Nat.le_of_ble_eq_true rfl) (by decide +kernel) dX0_copyFrom_11 (fun H locs hI => ?_)
  refine lv_aload_n hx hb dX0_copyFrom_14 rfl (lv_at hl 0 rfl) ?_
  refine lv_aload_n hx hb dX0_copyFrom_15 rfl (lv_at hl 1 rfl) ?_
  refine x_get (k := (14 + 2 * i)) hE hK hI (by have := h_i; omega) inG0 (el_14 G o h_i _ _) rfl 1 (by decide) mw_81 rfl dX0_copyFrom_16 ?_
  refine lv_topi (fun z1 ez1 => ?_)
  obtain rfl : X (14 + 2 * i) 1 = z1 := (ez1.trans ((cx_o (by omega)))).symm
  refine x_puti (k := (108 + 2 * i)) hE hK hI (by have := h_i; omega) inG0 tyX0 tyX0_ok nmX0 (el_108 G o h_i) rfl 1 (by decide) mw_81 rfl (by decide +kernel) (by exact Nat.le_of_ble_eq_true rfl) rfl dX0_copyFrom_19 (fun H locs hI => ?_)
  refine lv_aload_n hx hb dX0_copyFrom_22 rfl (lv_at hl 0 rfl) ?_
  refine lv_aload_n hx hb dX0_copyFrom_23 rfl (lv_at hl 1 rfl) ?_
  refine x_get (k := (14 + 2 * i)) hE hK hI (by have := h_i; omega) inG0 (el_14 G o h_i _ _) rfl 2 (by decide) mw_84 rfl dX0_copyFrom_24 ?_
  refine lv_topi (fun z2 ez2 => ?_)
  obtain rfl : X (14 + 2 * i) 2 = z2 := (ez2.trans ((sx_o (by omega)).trans ((cx_o (by omega))))).symm
  refine x_puti (k := (108 + 2 * i)) hE hK hI (by have := h_i; omega) inG0 tyX0 tyX0_ok nmX0 (el_108 G o h_i) rfl 2 (by decide) mw_84 rfl (by decide +kernel) (by exact Nat.le_of_ble_eq_true rfl) rfl dX0_copyFrom_27 (fun H locs hI => ?_)
  refine lv_aload_n hx hb dX0_copyFrom_30 rfl (lv_at hl 0 rfl) ?_
  refine lv_aload_n hx hb dX0_copyFrom_31 rfl (lv_at hl 1 rfl) ?_
  refine x_get (k := (14 + 2 * i)) hE hK hI (by have := h_i; omega) inG0 (el_14 G o h_i _ _) rfl 3 (by decide) mw_86 rfl dX0_copyFrom_32 ?_
  refine lv_topi (fun z3 ez3 => ?_)
  obtain rfl : X (14 + 2 * i) 3 = z3 := (ez3.trans ((sx_o (by omega)).trans ((sx_o (by omega)).trans ((cx_o (by omega)))))).symm
  refine x_puti (k := (108 + 2 * i)) hE hK hI (by have := h_i; omega) inG0 tyX0 tyX0_ok nmX0 (el_108 G o h_i) rfl 3 (by decide) mw_86 rfl (by decide +kernel) (by exact Nat.le_of_ble_eq_true rfl) rfl dX0_copyFrom_35 (fun H locs hI => ?_)
  refine lv_aload_n hx hb dX0_copyFrom_38 rfl (lv_at hl 0 rfl) ?_
  refine lv_aload_n hx hb dX0_copyFrom_39 rfl (lv_at hl 1 rfl) ?_
  refine x_get (k := (14 + 2 * i)) hE hK hI (by have := h_i; omega) inG0 (el_14 G o h_i _ _) rfl 4 (by decide) mw_88 rfl dX0_copyFrom_40 ?_
  refine lv_topi (fun z4 ez4 => ?_)
  obtain rfl : X (14 + 2 * i) 4 = z4 := (ez4.trans ((sx_o (by omega)).trans ((sx_o (by omega)).trans ((sx_o (by omega)).trans ((cx_o (by omega))))))).symm
  refine x_puti (k := (108 + 2 * i)) hE hK hI (by have := h_i; omega) inG0 tyX0 tyX0_ok nmX0 (el_108 G o h_i) rfl 4 (by decide) mw_88 rfl (by decide +kernel) (by exact Nat.le_of_ble_eq_true rfl) rfl dX0_copyFrom_43 (fun H locs hI => ?_)
  exact x_vret hE hr hlocks hI rfl rfl rfl dX0_copyFrom_46
def lc_201_14_X (X : SX) (i : Nat) : SX := sx (sx (sx (sx (cx X (15 + 2 * i) (202 + 2 * i)) (201 + 2 * i) 1 (X (14 + 2 * i) 1)) (201 + 2 * i) 2 (X (14 + 2 * i) 2)) (201 + 2 * i) 3 (X (14 + 2 * i) 3)) (201 + 2 * i) 4 (X (14 + 2 * i) 4)
set_option maxRecDepth 100000 in
set_option maxHeartbeats 4000000 in
theorem c_X0_copyFrom_201_14 (l : Launch) (G : GG) (o : Nat) (X : SX) (Y : SY) (i : Nat) (h_i : i < 40) : Ct l yX0_copyFrom cX0_copyFrom 2 none 1 60 G o [.ref (o + (201 + 2 * i)), .ref (o + (14 + 2 * i))] X Y none (lc_201_14_X X i) Y := by
  refine Ct.mk (by decide +kernel) (Nat.le_of_ble_eq_true rfl) rfl ?_
  intro p9 e9 s9 m9 args9 below9 meth9 c9 hE hr hlocks hK hI ls hl
  have hx := hE.1
  have hb := hE.2.1
  have hl : lv_has ls 2 [(0, .ref (o + (201 + 2 * i))), (1, .ref (o + (14 + 2 * i)))] := hl
  refine lv_aload_n hx hb dX0_copyFrom_0 rfl (lv_at hl 1 rfl) ?_
  refine x_get (k := (14 + 2 * i)) hE hK hI (by have := h_i; omega) inG0 (el_14 G o h_i _ _) rfl 0 (by decide) mw_78 rfl dX0_copyFrom_1 ?_
  refine lv_iconst (v := 0) hx hb dX0_copyFrom_4 (by decide) ?_
  refine lv_aload_n hx hb dX0_copyFrom_5 rfl (lv_at hl 0 rfl) ?_
  refine x_get (k := (201 + 2 * i)) hE hK hI (by have := h_i; omega) inG0 (el_201 G o h_i _ _) rfl 0 (by decide) mw_78 rfl dX0_copyFrom_6 ?_
  refine lv_iconst (v := 0) hx hb dX0_copyFrom_9 (by decide) ?_
  refine lv_iconst (v := 4) hx hb dX0_copyFrom_10 (by decide) ?_
  refine x_copy (k0 := (15 + 2 * i)) (k := (202 + 2 * i)) hE hK hI (by have := h_i; omega) (by have := h_i; omega) (em_14 G o h_i) (em_201 G o h_i) (hE.2.2.1.trans hl.1.symm) mw_468 (Nat.le_of_ble_eq_true rfl) (by decide +kernel) dX0_copyFrom_11 (fun H locs hI => ?_)
  refine lv_aload_n hx hb dX0_copyFrom_14 rfl (lv_at hl 0 rfl) ?_
  refine lv_aload_n hx hb dX0_copyFrom_15 rfl (lv_at hl 1 rfl) ?_
  refine x_get (k := (14 + 2 * i)) hE hK hI (by have := h_i; omega) inG0 (el_14 G o h_i _ _) rfl 1 (by decide) mw_81 rfl dX0_copyFrom_16 ?_
  refine lv_topi (fun z1 ez1 => ?_)
  obtain rfl : X (14 + 2 * i) 1 = z1 := (ez1.trans ((cx_o (by omega)))).symm
  refine x_puti (k := (201 + 2 * i)) hE hK hI (by have := h_i; omega) inG0 tyX0 tyX0_ok nmX0 (el_201 G o h_i) rfl 1 (by decide) mw_81 rfl (by decide +kernel) (by exact Nat.le_of_ble_eq_true rfl) rfl dX0_copyFrom_19 (fun H locs hI => ?_)
  refine lv_aload_n hx hb dX0_copyFrom_22 rfl (lv_at hl 0 rfl) ?_
  refine lv_aload_n hx hb dX0_copyFrom_23 rfl (lv_at hl 1 rfl) ?_
  refine x_get (k := (14 + 2 * i)) hE hK hI (by have := h_i; omega) inG0 (el_14 G o h_i _ _) rfl 2 (by decide) mw_84 rfl dX0_copyFrom_24 ?_
  refine lv_topi (fun z2 ez2 => ?_)
  obtain rfl : X (14 + 2 * i) 2 = z2 := (ez2.trans ((sx_o (by omega)).trans ((cx_o (by omega))))).symm
  refine x_puti (k := (201 + 2 * i)) hE hK hI (by have := h_i; omega) inG0 tyX0 tyX0_ok nmX0 (el_201 G o h_i) rfl 2 (by decide) mw_84 rfl (by decide +kernel) (by exact Nat.le_of_ble_eq_true rfl) rfl dX0_copyFrom_27 (fun H locs hI => ?_)
  refine lv_aload_n hx hb dX0_copyFrom_30 rfl (lv_at hl 0 rfl) ?_
  refine lv_aload_n hx hb dX0_copyFrom_31 rfl (lv_at hl 1 rfl) ?_
  refine x_get (k := (14 + 2 * i)) hE hK hI (by have := h_i; omega) inG0 (el_14 G o h_i _ _) rfl 3 (by decide) mw_86 rfl dX0_copyFrom_32 ?_
  refine lv_topi (fun z3 ez3 => ?_)
  obtain rfl : X (14 + 2 * i) 3 = z3 := (ez3.trans ((sx_o (by omega)).trans ((sx_o (by omega)).trans ((cx_o (by omega)))))).symm
  refine x_puti (k := (201 + 2 * i)) hE hK hI (by have := h_i; omega) inG0 tyX0 tyX0_ok nmX0 (el_201 G o h_i) rfl 3 (by decide) mw_86 rfl (by decide +kernel) (by exact Nat.le_of_ble_eq_true rfl) rfl dX0_copyFrom_35 (fun H locs hI => ?_)
  refine lv_aload_n hx hb dX0_copyFrom_38 rfl (lv_at hl 0 rfl) ?_
  refine lv_aload_n hx hb dX0_copyFrom_39 rfl (lv_at hl 1 rfl) ?_
  refine x_get (k := (14 + 2 * i)) hE hK hI (by have := h_i; omega) inG0 (el_14 G o h_i _ _) rfl 4 (by decide) mw_88 rfl dX0_copyFrom_40 ?_
  refine lv_topi (fun z4 ez4 => ?_)
  obtain rfl : X (14 + 2 * i) 4 = z4 := (ez4.trans ((sx_o (by omega)).trans ((sx_o (by omega)).trans ((sx_o (by omega)).trans ((cx_o (by omega))))))).symm
  refine x_puti (k := (201 + 2 * i)) hE hK hI (by have := h_i; omega) inG0 tyX0 tyX0_ok nmX0 (el_201 G o h_i) rfl 4 (by decide) mw_88 rfl (by decide +kernel) (by exact Nat.le_of_ble_eq_true rfl) rfl dX0_copyFrom_43 (fun H locs hI => ?_)
  exact x_vret hE hr hlocks hI rfl rfl rfl dX0_copyFrom_46
