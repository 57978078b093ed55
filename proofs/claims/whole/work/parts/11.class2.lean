/-! ===== 11: the class's other public methods ===== -/
theorem SimInv.pb {X : SX} {cnt i : Nat} (h : SimInv X cnt) : SimInv (pbX X i) cnt := by
  unfold SimInv
  rw [pbX_o (by omega) (by omega), pbX_o (by omega) (by omega), pbX_o (by omega) (by omega)]
  exact h
theorem SimInv.cr {X : SX} {n : Nat} {a b c d : Int32} (h : SimInv X n) (hn : n < 40) : SimInv (crX X a b c d n) (n + 1) := by
  unfold SimInv crX
  simp (disch := omega) only [sx_o, sx_e]
  refine ⟨trivial, by omega, ?_, h.2.2.2⟩
  rcases h.2.2.1 with q | ⟨i, q1, q2⟩
  · exact Or.inl q
  · exact Or.inr ⟨i, by omega, q2⟩
theorem lot_new {X : SX} {a b c d : Int32} {n : Nat} (h : n < 40) : 0 ≤ nI n ∧ nI n < crX X a b c d n 11 2 := lot_ok (n := n + 1) (by unfold crX; exact sx_e) (by omega) (by omega)
def fcrM (v : Int32) (X : SX) (Y : SY) : Int32 := (-7)
def fcXM (v : Int32) (X : SX) (Y : SY) : SX := X
def fcYM (v : Int32) (X : SX) (Y : SY) : SY := Y
def fcr0 (v : Int32) (X : SX) (Y : SY) : Int32 := if (cu0X X Y) 282 3 = 0 then fcrM v (cu0X X Y) (cu0Y X Y) else if v.toInt64 * (cu0Y X Y) 282 2 < pwr (cu0X X Y) (cu0Y X Y) then fcrM v (cu0X X Y) (cu0Y X Y) else 0
def fcX0 (v : Int32) (X : SX) (Y : SY) : SX := if (cu0X X Y) 282 3 = 0 then fcXM v (cu0X X Y) (cu0Y X Y) else if v.toInt64 * (cu0Y X Y) 282 2 < pwr (cu0X X Y) (cu0Y X Y) then fcXM v (cu0X X Y) (cu0Y X Y) else (cu0X X Y)
def fcY0 (v : Int32) (X : SX) (Y : SY) : SY := if (cu0X X Y) 282 3 = 0 then fcYM v (cu0X X Y) (cu0Y X Y) else if v.toInt64 * (cu0Y X Y) 282 2 < pwr (cu0X X Y) (cu0Y X Y) then fcYM v (cu0X X Y) (cu0Y X Y) else (cu0Y X Y)
def fcr1 (v : Int32) (X : SX) (Y : SY) : Int32 := if (cu1X X Y) 282 3 = 0 then fcr0 v (cu1X X Y) (cu1Y X Y) else if v.toInt64 * (cu1Y X Y) 282 2 < pwr (cu1X X Y) (cu1Y X Y) then fcr0 v (cu1X X Y) (cu1Y X Y) else 1
def fcX1 (v : Int32) (X : SX) (Y : SY) : SX := if (cu1X X Y) 282 3 = 0 then fcX0 v (cu1X X Y) (cu1Y X Y) else if v.toInt64 * (cu1Y X Y) 282 2 < pwr (cu1X X Y) (cu1Y X Y) then fcX0 v (cu1X X Y) (cu1Y X Y) else (cu1X X Y)
def fcY1 (v : Int32) (X : SX) (Y : SY) : SY := if (cu1X X Y) 282 3 = 0 then fcY0 v (cu1X X Y) (cu1Y X Y) else if v.toInt64 * (cu1Y X Y) 282 2 < pwr (cu1X X Y) (cu1Y X Y) then fcY0 v (cu1X X Y) (cu1Y X Y) else (cu1Y X Y)
def fcr2 (v : Int32) (X : SX) (Y : SY) : Int32 := if (cu2X X Y) 282 3 = 0 then fcr1 v (cu2X X Y) (cu2Y X Y) else if v.toInt64 * (cu2Y X Y) 282 2 < pwr (cu2X X Y) (cu2Y X Y) then fcr1 v (cu2X X Y) (cu2Y X Y) else 2
def fcX2 (v : Int32) (X : SX) (Y : SY) : SX := if (cu2X X Y) 282 3 = 0 then fcX1 v (cu2X X Y) (cu2Y X Y) else if v.toInt64 * (cu2Y X Y) 282 2 < pwr (cu2X X Y) (cu2Y X Y) then fcX1 v (cu2X X Y) (cu2Y X Y) else (cu2X X Y)
def fcY2 (v : Int32) (X : SX) (Y : SY) : SY := if (cu2X X Y) 282 3 = 0 then fcY1 v (cu2X X Y) (cu2Y X Y) else if v.toInt64 * (cu2Y X Y) 282 2 < pwr (cu2X X Y) (cu2Y X Y) then fcY1 v (cu2X X Y) (cu2Y X Y) else (cu2Y X Y)
def fcr3 (v : Int32) (X : SX) (Y : SY) : Int32 := if (cu3X X Y) 282 3 = 0 then fcr2 v (cu3X X Y) (cu3Y X Y) else if v.toInt64 * (cu3Y X Y) 282 2 < pwr (cu3X X Y) (cu3Y X Y) then fcr2 v (cu3X X Y) (cu3Y X Y) else 3
def fcX3 (v : Int32) (X : SX) (Y : SY) : SX := if (cu3X X Y) 282 3 = 0 then fcX2 v (cu3X X Y) (cu3Y X Y) else if v.toInt64 * (cu3Y X Y) 282 2 < pwr (cu3X X Y) (cu3Y X Y) then fcX2 v (cu3X X Y) (cu3Y X Y) else (cu3X X Y)
def fcY3 (v : Int32) (X : SX) (Y : SY) : SY := if (cu3X X Y) 282 3 = 0 then fcY2 v (cu3X X Y) (cu3Y X Y) else if v.toInt64 * (cu3Y X Y) 282 2 < pwr (cu3X X Y) (cu3Y X Y) then fcY2 v (cu3X X Y) (cu3Y X Y) else (cu3Y X Y)
def fcr4 (v : Int32) (X : SX) (Y : SY) : Int32 := if (cu4X X Y) 282 3 = 0 then fcr3 v (cu4X X Y) (cu4Y X Y) else if v.toInt64 * (cu4Y X Y) 282 2 < pwr (cu4X X Y) (cu4Y X Y) then fcr3 v (cu4X X Y) (cu4Y X Y) else 4
def fcX4 (v : Int32) (X : SX) (Y : SY) : SX := if (cu4X X Y) 282 3 = 0 then fcX3 v (cu4X X Y) (cu4Y X Y) else if v.toInt64 * (cu4Y X Y) 282 2 < pwr (cu4X X Y) (cu4Y X Y) then fcX3 v (cu4X X Y) (cu4Y X Y) else (cu4X X Y)
def fcY4 (v : Int32) (X : SX) (Y : SY) : SY := if (cu4X X Y) 282 3 = 0 then fcY3 v (cu4X X Y) (cu4Y X Y) else if v.toInt64 * (cu4Y X Y) 282 2 < pwr (cu4X X Y) (cu4Y X Y) then fcY3 v (cu4X X Y) (cu4Y X Y) else (cu4Y X Y)
set_option maxRecDepth 100000 in
set_option maxHeartbeats 4000000 in
theorem c_X5_finestCut_a (l : Launch) (G : GG) (o : Nat) (X : SX) (Y : SY) (v : Int32) (h : ¬ (Wi v 0 1000000000)) : Ct l yX5_finestCut cX5_finestCut 3 (some .int) 1 22 G o [.ref (o + 0), .int v] X Y (some (.int (-3))) X Y := by
  refine Ct.mk (by decide +kernel) (Nat.le_of_ble_eq_true rfl) rfl ?_
  intro p9 e9 s9 m9 args9 below9 meth9 c9 hE hr hlocks hK hI ls hl
  have hx := hE.1
  have hb := hE.2.1
  have hl : lv_has ls 3 [(0, .ref (o + 0)), (1, .int v)] := hl
  refine lv_iload_n hx hb dX5_finestCut_0 rfl (lv_at hl 1 rfl) ?_
  refine lv_iconst (v := 0) hx hb dX5_finestCut_1 (by decide) ?_
  refine lv_ldc hx hb hE.2.2.2.1 (hE.2.2.2.2 _ mw_292) dX5_finestCut_2 ?_
  refine x_callSi hE hK hI (c_X5_isWithin l G o _ _ v 0 1000000000 ) mf_X5_isWithin mw_192 rfl hl.1 rfl (Nat.le_of_ble_eq_true rfl) ⟨(Nat.le_of_ble_eq_true rfl), (Nat.le_of_ble_eq_true rfl)⟩ ⟨Nat.zero_le _, Nat.zero_le _⟩ dX5_finestCut_4 (fun H locs hI => ?_)
  refine lv_topi (fun z1 ez1 => ?_)
  obtain rfl : 0 = z1 := (ez1.trans (bI_f h)).symm
  refine lv_if_ne (tgt := 13) hx hb dX5_finestCut_7 (by decide) (fun q => absurd (by decide) q) (fun _ => ?_)
  refine lv_bipush (v := (-3)) hx hb dX5_finestCut_10 (by decide) ?_
  exact x_iret hE hr hlocks hI rfl rfl rfl dX5_finestCut_12
set_option maxRecDepth 100000 in
set_option maxHeartbeats 4000000 in
theorem hd_fcM (l : Launch) (G : GG) (o : Nat) (X : SX) (Y : SY) (v : Int32) {p9 : Program} {e9 : Env} {s9 : State} {m9 : MethodId} {args9 : Array Value} {below9 : List Frame} {meth9 : Method} {c9 : Code} (hE : gE p9 m9 c9 cX5_finestCut 3 s9 args9 yX5_finestCut.cls) (hr : meth9.sig.returnType = (some .int)) (hlocks : meth9.locks = false) (hK : KK G s9) (H : Heap) (locs : List Loc) (hI : In G o X Y s9.heap H locs) (ls : Array Slot) (hl : lv_has ls 3 [(0, .ref (o + 0)), (1, .int v), (2, .int (-1))]) :
    W p9 l e9 (Rm 4 99) s9 m9 args9 below9 meth9 c9 H locs 0 0 (MQ below9 (Qw G o (some (.int (fcrM v X Y))) (fcXM v X Y) (fcYM v X Y)) args9 s9 0 0 (rg o)) (F0 m9 15 ls []) := by
  have hx := hE.1
  have hb := hE.2.1
  refine lv_iload_n hx hb dX5_finestCut_15 rfl (lv_at hl 2 rfl) ?_
  refine lv_if_lt (tgt := 83) hx hb dX5_finestCut_16 (by decide) (fun _ => ?_) (fun q => absurd (by decide) q)
  refine lv_bipush (v := (-7)) hx hb dX5_finestCut_83 (by decide) ?_
  exact x_iret hE hr hlocks hI rfl rfl rfl dX5_finestCut_85
set_option maxRecDepth 100000 in
set_option maxHeartbeats 4000000 in
theorem hd_fc0 (l : Launch) (G : GG) (o : Nat) (X : SX) (Y : SY) (v : Int32) {p9 : Program} {e9 : Env} {s9 : State} {m9 : MethodId} {args9 : Array Value} {below9 : List Frame} {meth9 : Method} {c9 : Code} (hE : gE p9 m9 c9 cX5_finestCut 3 s9 args9 yX5_finestCut.cls) (hr : meth9.sig.returnType = (some .int)) (hlocks : meth9.locks = false) (hK : KK G s9) (H : Heap) (locs : List Loc) (hI : In G o X Y s9.heap H locs) (ls : Array Slot) (hl : lv_has ls 3 [(0, .ref (o + 0)), (1, .int v), (2, .int 0)]) :
    W p9 l e9 (Rm 4 99) s9 m9 args9 below9 meth9 c9 H locs 0 0 (MQ below9 (Qw G o (some (.int (fcr0 v X Y))) (fcX0 v X Y) (fcY0 v X Y)) args9 s9 0 0 (rg o)) (F0 m9 15 ls []) := by
  have hx := hE.1
  have hb := hE.2.1
  refine lv_iload_n hx hb dX5_finestCut_15 rfl (lv_at hl 2 rfl) ?_
  refine lv_if_lt (tgt := 83) hx hb dX5_finestCut_16 (by decide) (fun q => absurd q (by decide)) (fun _ => ?_)
  refine lv_aload_n hx hb dX5_finestCut_19 rfl (lv_at hl 0 rfl) ?_
  refine x_get (k := 0) hE hK hI (by decide) inG5 (e_0 G o _ _) rfl 3 (by decide) mw_175 rfl dX5_finestCut_20 ?_
  refine lv_aload_n hx hb dX5_finestCut_23 rfl (lv_at hl 0 rfl) ?_
  refine x_get (k := 0) hE hK hI (by decide) inG5 (e_0 G o _ _) rfl 0 (by decide) mw_172 rfl dX5_finestCut_24 ?_
  refine x_get (k := 1) hE hK hI (by decide) inG1 (e_1 G o _ _) rfl 0 (by decide) mw_139 rfl dX5_finestCut_27 ?_
  refine lv_iload_n hx hb dX5_finestCut_30 rfl (lv_at hl 2 rfl) ?_
  refine x_callVv (k := 282) hE hK hI (c_X4_solveCut_0 l G o _ _  ) mf_X4_solveCut mw_283 (by decide) ((e_282 G o) _ _) rfl rfl hl.1 rfl (Nat.le_of_ble_eq_true rfl) ⟨(Nat.le_of_ble_eq_true rfl), (Nat.le_of_ble_eq_true rfl)⟩ ⟨Nat.zero_le _, Nat.zero_le _⟩ dX5_finestCut_31 (fun H locs hI => ?_)
  refine lv_aload_n hx hb dX5_finestCut_34 rfl (lv_at hl 0 rfl) ?_
  refine x_get (k := 0) hE hK hI (by decide) inG5 (e_0 G o _ _) rfl 3 (by decide) mw_175 rfl dX5_finestCut_35 ?_
  refine x_get (k := 282) hE hK hI (by decide) inG4 (e_282 G o _ _) rfl 3 (by decide) mw_160 rfl dX5_finestCut_38 ?_
  refine lv_if_eq (tgt := 77) hx hb dX5_finestCut_41 (by decide) (fun c1 => ?_) (fun c1 => ?_)
  · refine lv_iinc (v := (-1)) (lv' := [(2, .int (-1)), (0, .ref (o + 0)), (1, .int v)]) hx hb dX5_finestCut_77 hl (k := 2) rfl (by decide) (by decide) rfl (fun ls hl => ?_)
    refine lv_goto (tgt := 15) hx hb dX5_finestCut_80 (by decide) ?_
    have e1 : fcr0 v X Y = fcrM v (cu0X X Y) (cu0Y X Y) := if_pos c1
    have e2 : fcX0 v X Y = fcXM v (cu0X X Y) (cu0Y X Y) := if_pos c1
    have e3 : fcY0 v X Y = fcYM v (cu0X X Y) (cu0Y X Y) := if_pos c1
    rw [e1, e2, e3]
    exact hd_fcM l G o _ _ v hE hr hlocks hK H locs hI ls (lv_sub hl [1, 2, 0] rfl)
  · refine lv_aload_n hx hb dX5_finestCut_44 rfl (lv_at hl 0 rfl) ?_
    refine x_get (k := 0) hE hK hI (by decide) inG5 (e_0 G o _ _) rfl 3 (by decide) mw_175 rfl dX5_finestCut_45 ?_
    refine lv_aload_n hx hb dX5_finestCut_48 rfl (lv_at hl 0 rfl) ?_
    refine x_get (k := 0) hE hK hI (by decide) inG5 (e_0 G o _ _) rfl 0 (by decide) mw_172 rfl dX5_finestCut_49 ?_
    refine x_get (k := 1) hE hK hI (by decide) inG1 (e_1 G o _ _) rfl 0 (by decide) mw_139 rfl dX5_finestCut_52 ?_
    refine x_get (k := 2) hE hK hI (by decide) inG2 (e_2 G o _ _) rfl 2 (by decide) mw_40 rfl dX5_finestCut_55 ?_
    refine x_callVl (k := 282) hE hK hI (c_X4_scaledPower l G o _ _  ) mf_X4_scaledPower mw_275 (by decide) ((e_282 G o) _ _) rfl rfl hl.1 rfl (Nat.le_of_ble_eq_true rfl) ⟨(Nat.le_of_ble_eq_true rfl), (Nat.le_of_ble_eq_true rfl)⟩ ⟨Nat.zero_le _, Nat.zero_le _⟩ dX5_finestCut_58 (fun H locs hI => ?_)
    refine lv_iload_n hx hb dX5_finestCut_61 rfl (lv_at hl 1 rfl) ?_
    refine lv_i2l hx hb dX5_finestCut_62 rfl ?_
    refine lv_aload_n hx hb dX5_finestCut_63 rfl (lv_at hl 0 rfl) ?_
    refine x_get (k := 0) hE hK hI (by decide) inG5 (e_0 G o _ _) rfl 3 (by decide) mw_175 rfl dX5_finestCut_64 ?_
    refine x_get (k := 282) hE hK hI (by decide) inG4 (e_282 G o _ _) rfl 2 (by decide) mw_158 rfl dX5_finestCut_67 ?_
    refine lv_lmul hx hb dX5_finestCut_70 ?_
    refine W.lcmp hx hb dX5_finestCut_71 ?_
    refine lv_if_gt (tgt := 77) hx hb dX5_finestCut_72 (by decide) (fun c2 => ?_) (fun c2 => ?_)
    · have c2 := (lg_cmp_gt _ _).mp c2
      refine lv_iinc (v := (-1)) (lv' := [(2, .int (-1)), (0, .ref (o + 0)), (1, .int v)]) hx hb dX5_finestCut_77 hl (k := 2) rfl (by decide) (by decide) rfl (fun ls hl => ?_)
      refine lv_goto (tgt := 15) hx hb dX5_finestCut_80 (by decide) ?_
      have e1 : fcr0 v X Y = fcrM v (cu0X X Y) (cu0Y X Y) := (if_neg c1).trans (if_pos c2)
      have e2 : fcX0 v X Y = fcXM v (cu0X X Y) (cu0Y X Y) := (if_neg c1).trans (if_pos c2)
      have e3 : fcY0 v X Y = fcYM v (cu0X X Y) (cu0Y X Y) := (if_neg c1).trans (if_pos c2)
      rw [e1, e2, e3]
      exact hd_fcM l G o _ _ v hE hr hlocks hK H locs hI ls (lv_sub hl [1, 2, 0] rfl)
    · have c2 := mt (lg_cmp_gt _ _).mpr c2
      refine lv_iload_n hx hb dX5_finestCut_75 rfl (lv_at hl 2 rfl) ?_
      exact x_iret hE hr hlocks hI (congrArg (fun q => some (Value.int q)) ((if_neg c1).trans (if_neg c2))) (((if_neg c1).trans (if_neg c2)).symm) (((if_neg c1).trans (if_neg c2)).symm) dX5_finestCut_76
set_option maxRecDepth 100000 in
set_option maxHeartbeats 4000000 in
theorem hd_fc1 (l : Launch) (G : GG) (o : Nat) (X : SX) (Y : SY) (v : Int32) {p9 : Program} {e9 : Env} {s9 : State} {m9 : MethodId} {args9 : Array Value} {below9 : List Frame} {meth9 : Method} {c9 : Code} (hE : gE p9 m9 c9 cX5_finestCut 3 s9 args9 yX5_finestCut.cls) (hr : meth9.sig.returnType = (some .int)) (hlocks : meth9.locks = false) (hK : KK G s9) (H : Heap) (locs : List Loc) (hI : In G o X Y s9.heap H locs) (ls : Array Slot) (hl : lv_has ls 3 [(0, .ref (o + 0)), (1, .int v), (2, .int 1)]) :
    W p9 l e9 (Rm 4 99) s9 m9 args9 below9 meth9 c9 H locs 0 0 (MQ below9 (Qw G o (some (.int (fcr1 v X Y))) (fcX1 v X Y) (fcY1 v X Y)) args9 s9 0 0 (rg o)) (F0 m9 15 ls []) := by
  have hx := hE.1
  have hb := hE.2.1
  refine lv_iload_n hx hb dX5_finestCut_15 rfl (lv_at hl 2 rfl) ?_
  refine lv_if_lt (tgt := 83) hx hb dX5_finestCut_16 (by decide) (fun q => absurd q (by decide)) (fun _ => ?_)
  refine lv_aload_n hx hb dX5_finestCut_19 rfl (lv_at hl 0 rfl) ?_
  refine x_get (k := 0) hE hK hI (by decide) inG5 (e_0 G o _ _) rfl 3 (by decide) mw_175 rfl dX5_finestCut_20 ?_
  refine lv_aload_n hx hb dX5_finestCut_23 rfl (lv_at hl 0 rfl) ?_
  refine x_get (k := 0) hE hK hI (by decide) inG5 (e_0 G o _ _) rfl 0 (by decide) mw_172 rfl dX5_finestCut_24 ?_
  refine x_get (k := 1) hE hK hI (by decide) inG1 (e_1 G o _ _) rfl 0 (by decide) mw_139 rfl dX5_finestCut_27 ?_
  refine lv_iload_n hx hb dX5_finestCut_30 rfl (lv_at hl 2 rfl) ?_
  refine x_callVv (k := 282) hE hK hI (c_X4_solveCut_1 l G o _ _  ) mf_X4_solveCut mw_283 (by decide) ((e_282 G o) _ _) rfl rfl hl.1 rfl (Nat.le_of_ble_eq_true rfl) ⟨(Nat.le_of_ble_eq_true rfl), (Nat.le_of_ble_eq_true rfl)⟩ ⟨Nat.zero_le _, Nat.zero_le _⟩ dX5_finestCut_31 (fun H locs hI => ?_)
  refine lv_aload_n hx hb dX5_finestCut_34 rfl (lv_at hl 0 rfl) ?_
  refine x_get (k := 0) hE hK hI (by decide) inG5 (e_0 G o _ _) rfl 3 (by decide) mw_175 rfl dX5_finestCut_35 ?_
  refine x_get (k := 282) hE hK hI (by decide) inG4 (e_282 G o _ _) rfl 3 (by decide) mw_160 rfl dX5_finestCut_38 ?_
  refine lv_if_eq (tgt := 77) hx hb dX5_finestCut_41 (by decide) (fun c1 => ?_) (fun c1 => ?_)
  · refine lv_iinc (v := 0) (lv' := [(2, .int 0), (0, .ref (o + 0)), (1, .int v)]) hx hb dX5_finestCut_77 hl (k := 2) rfl (by decide) (by decide) rfl (fun ls hl => ?_)
    refine lv_goto (tgt := 15) hx hb dX5_finestCut_80 (by decide) ?_
    have e1 : fcr1 v X Y = fcr0 v (cu1X X Y) (cu1Y X Y) := if_pos c1
    have e2 : fcX1 v X Y = fcX0 v (cu1X X Y) (cu1Y X Y) := if_pos c1
    have e3 : fcY1 v X Y = fcY0 v (cu1X X Y) (cu1Y X Y) := if_pos c1
    rw [e1, e2, e3]
    exact hd_fc0 l G o _ _ v hE hr hlocks hK H locs hI ls (lv_sub hl [1, 2, 0] rfl)
  · refine lv_aload_n hx hb dX5_finestCut_44 rfl (lv_at hl 0 rfl) ?_
    refine x_get (k := 0) hE hK hI (by decide) inG5 (e_0 G o _ _) rfl 3 (by decide) mw_175 rfl dX5_finestCut_45 ?_
    refine lv_aload_n hx hb dX5_finestCut_48 rfl (lv_at hl 0 rfl) ?_
    refine x_get (k := 0) hE hK hI (by decide) inG5 (e_0 G o _ _) rfl 0 (by decide) mw_172 rfl dX5_finestCut_49 ?_
    refine x_get (k := 1) hE hK hI (by decide) inG1 (e_1 G o _ _) rfl 0 (by decide) mw_139 rfl dX5_finestCut_52 ?_
    refine x_get (k := 2) hE hK hI (by decide) inG2 (e_2 G o _ _) rfl 2 (by decide) mw_40 rfl dX5_finestCut_55 ?_
    refine x_callVl (k := 282) hE hK hI (c_X4_scaledPower l G o _ _  ) mf_X4_scaledPower mw_275 (by decide) ((e_282 G o) _ _) rfl rfl hl.1 rfl (Nat.le_of_ble_eq_true rfl) ⟨(Nat.le_of_ble_eq_true rfl), (Nat.le_of_ble_eq_true rfl)⟩ ⟨Nat.zero_le _, Nat.zero_le _⟩ dX5_finestCut_58 (fun H locs hI => ?_)
    refine lv_iload_n hx hb dX5_finestCut_61 rfl (lv_at hl 1 rfl) ?_
    refine lv_i2l hx hb dX5_finestCut_62 rfl ?_
    refine lv_aload_n hx hb dX5_finestCut_63 rfl (lv_at hl 0 rfl) ?_
    refine x_get (k := 0) hE hK hI (by decide) inG5 (e_0 G o _ _) rfl 3 (by decide) mw_175 rfl dX5_finestCut_64 ?_
    refine x_get (k := 282) hE hK hI (by decide) inG4 (e_282 G o _ _) rfl 2 (by decide) mw_158 rfl dX5_finestCut_67 ?_
    refine lv_lmul hx hb dX5_finestCut_70 ?_
    refine W.lcmp hx hb dX5_finestCut_71 ?_
    refine lv_if_gt (tgt := 77) hx hb dX5_finestCut_72 (by decide) (fun c2 => ?_) (fun c2 => ?_)
    · have c2 := (lg_cmp_gt _ _).mp c2
      refine lv_iinc (v := 0) (lv' := [(2, .int 0), (0, .ref (o + 0)), (1, .int v)]) hx hb dX5_finestCut_77 hl (k := 2) rfl (by decide) (by decide) rfl (fun ls hl => ?_)
      refine lv_goto (tgt := 15) hx hb dX5_finestCut_80 (by decide) ?_
      have e1 : fcr1 v X Y = fcr0 v (cu1X X Y) (cu1Y X Y) := (if_neg c1).trans (if_pos c2)
      have e2 : fcX1 v X Y = fcX0 v (cu1X X Y) (cu1Y X Y) := (if_neg c1).trans (if_pos c2)
      have e3 : fcY1 v X Y = fcY0 v (cu1X X Y) (cu1Y X Y) := (if_neg c1).trans (if_pos c2)
      rw [e1, e2, e3]
      exact hd_fc0 l G o _ _ v hE hr hlocks hK H locs hI ls (lv_sub hl [1, 2, 0] rfl)
    · have c2 := mt (lg_cmp_gt _ _).mpr c2
      refine lv_iload_n hx hb dX5_finestCut_75 rfl (lv_at hl 2 rfl) ?_
      exact x_iret hE hr hlocks hI (congrArg (fun q => some (Value.int q)) ((if_neg c1).trans (if_neg c2))) (((if_neg c1).trans (if_neg c2)).symm) (((if_neg c1).trans (if_neg c2)).symm) dX5_finestCut_76
set_option maxRecDepth 100000 in
set_option maxHeartbeats 4000000 in
theorem hd_fc2 (l : Launch) (G : GG) (o : Nat) (X : SX) (Y : SY) (v : Int32) {p9 : Program} {e9 : Env} {s9 : State} {m9 : MethodId} {args9 : Array Value} {below9 : List Frame} {meth9 : Method} {c9 : Code} (hE : gE p9 m9 c9 cX5_finestCut 3 s9 args9 yX5_finestCut.cls) (hr : meth9.sig.returnType = (some .int)) (hlocks : meth9.locks = false) (hK : KK G s9) (H : Heap) (locs : List Loc) (hI : In G o X Y s9.heap H locs) (ls : Array Slot) (hl : lv_has ls 3 [(0, .ref (o + 0)), (1, .int v), (2, .int 2)]) :
    W p9 l e9 (Rm 4 99) s9 m9 args9 below9 meth9 c9 H locs 0 0 (MQ below9 (Qw G o (some (.int (fcr2 v X Y))) (fcX2 v X Y) (fcY2 v X Y)) args9 s9 0 0 (rg o)) (F0 m9 15 ls []) := by
  have hx := hE.1
  have hb := hE.2.1
  refine lv_iload_n hx hb dX5_finestCut_15 rfl (lv_at hl 2 rfl) ?_
  refine lv_if_lt (tgt := 83) hx hb dX5_finestCut_16 (by decide) (fun q => absurd q (by decide)) (fun _ => ?_)
  refine lv_aload_n hx hb dX5_finestCut_19 rfl (lv_at hl 0 rfl) ?_
  refine x_get (k := 0) hE hK hI (by decide) inG5 (e_0 G o _ _) rfl 3 (by decide) mw_175 rfl dX5_finestCut_20 ?_
  refine lv_aload_n hx hb dX5_finestCut_23 rfl (lv_at hl 0 rfl) ?_
  refine x_get (k := 0) hE hK hI (by decide) inG5 (e_0 G o _ _) rfl 0 (by decide) mw_172 rfl dX5_finestCut_24 ?_
  refine x_get (k := 1) hE hK hI (by decide) inG1 (e_1 G o _ _) rfl 0 (by decide) mw_139 rfl dX5_finestCut_27 ?_
  refine lv_iload_n hx hb dX5_finestCut_30 rfl (lv_at hl 2 rfl) ?_
  refine x_callVv (k := 282) hE hK hI (c_X4_solveCut_2 l G o _ _  ) mf_X4_solveCut mw_283 (by decide) ((e_282 G o) _ _) rfl rfl hl.1 rfl (Nat.le_of_ble_eq_true rfl) ⟨(Nat.le_of_ble_eq_true rfl), (Nat.le_of_ble_eq_true rfl)⟩ ⟨Nat.zero_le _, Nat.zero_le _⟩ dX5_finestCut_31 (fun H locs hI => ?_)
  refine lv_aload_n hx hb dX5_finestCut_34 rfl (lv_at hl 0 rfl) ?_
  refine x_get (k := 0) hE hK hI (by decide) inG5 (e_0 G o _ _) rfl 3 (by decide) mw_175 rfl dX5_finestCut_35 ?_
  refine x_get (k := 282) hE hK hI (by decide) inG4 (e_282 G o _ _) rfl 3 (by decide) mw_160 rfl dX5_finestCut_38 ?_
  refine lv_if_eq (tgt := 77) hx hb dX5_finestCut_41 (by decide) (fun c1 => ?_) (fun c1 => ?_)
  · refine lv_iinc (v := 1) (lv' := [(2, .int 1), (0, .ref (o + 0)), (1, .int v)]) hx hb dX5_finestCut_77 hl (k := 2) rfl (by decide) (by decide) rfl (fun ls hl => ?_)
    refine lv_goto (tgt := 15) hx hb dX5_finestCut_80 (by decide) ?_
    have e1 : fcr2 v X Y = fcr1 v (cu2X X Y) (cu2Y X Y) := if_pos c1
    have e2 : fcX2 v X Y = fcX1 v (cu2X X Y) (cu2Y X Y) := if_pos c1
    have e3 : fcY2 v X Y = fcY1 v (cu2X X Y) (cu2Y X Y) := if_pos c1
    rw [e1, e2, e3]
    exact hd_fc1 l G o _ _ v hE hr hlocks hK H locs hI ls (lv_sub hl [1, 2, 0] rfl)
  · refine lv_aload_n hx hb dX5_finestCut_44 rfl (lv_at hl 0 rfl) ?_
    refine x_get (k := 0) hE hK hI (by decide) inG5 (e_0 G o _ _) rfl 3 (by decide) mw_175 rfl dX5_finestCut_45 ?_
    refine lv_aload_n hx hb dX5_finestCut_48 rfl (lv_at hl 0 rfl) ?_
    refine x_get (k := 0) hE hK hI (by decide) inG5 (e_0 G o _ _) rfl 0 (by decide) mw_172 rfl dX5_finestCut_49 ?_
    refine x_get (k := 1) hE hK hI (by decide) inG1 (e_1 G o _ _) rfl 0 (by decide) mw_139 rfl dX5_finestCut_52 ?_
    refine x_get (k := 2) hE hK hI (by decide) inG2 (e_2 G o _ _) rfl 2 (by decide) mw_40 rfl dX5_finestCut_55 ?_
    refine x_callVl (k := 282) hE hK hI (c_X4_scaledPower l G o _ _  ) mf_X4_scaledPower mw_275 (by decide) ((e_282 G o) _ _) rfl rfl hl.1 rfl (Nat.le_of_ble_eq_true rfl) ⟨(Nat.le_of_ble_eq_true rfl), (Nat.le_of_ble_eq_true rfl)⟩ ⟨Nat.zero_le _, Nat.zero_le _⟩ dX5_finestCut_58 (fun H locs hI => ?_)
    refine lv_iload_n hx hb dX5_finestCut_61 rfl (lv_at hl 1 rfl) ?_
    refine lv_i2l hx hb dX5_finestCut_62 rfl ?_
    refine lv_aload_n hx hb dX5_finestCut_63 rfl (lv_at hl 0 rfl) ?_
    refine x_get (k := 0) hE hK hI (by decide) inG5 (e_0 G o _ _) rfl 3 (by decide) mw_175 rfl dX5_finestCut_64 ?_
    refine x_get (k := 282) hE hK hI (by decide) inG4 (e_282 G o _ _) rfl 2 (by decide) mw_158 rfl dX5_finestCut_67 ?_
    refine lv_lmul hx hb dX5_finestCut_70 ?_
    refine W.lcmp hx hb dX5_finestCut_71 ?_
    refine lv_if_gt (tgt := 77) hx hb dX5_finestCut_72 (by decide) (fun c2 => ?_) (fun c2 => ?_)
    · have c2 := (lg_cmp_gt _ _).mp c2
      refine lv_iinc (v := 1) (lv' := [(2, .int 1), (0, .ref (o + 0)), (1, .int v)]) hx hb dX5_finestCut_77 hl (k := 2) rfl (by decide) (by decide) rfl (fun ls hl => ?_)
      refine lv_goto (tgt := 15) hx hb dX5_finestCut_80 (by decide) ?_
      have e1 : fcr2 v X Y = fcr1 v (cu2X X Y) (cu2Y X Y) := (if_neg c1).trans (if_pos c2)
      have e2 : fcX2 v X Y = fcX1 v (cu2X X Y) (cu2Y X Y) := (if_neg c1).trans (if_pos c2)
      have e3 : fcY2 v X Y = fcY1 v (cu2X X Y) (cu2Y X Y) := (if_neg c1).trans (if_pos c2)
      rw [e1, e2, e3]
      exact hd_fc1 l G o _ _ v hE hr hlocks hK H locs hI ls (lv_sub hl [1, 2, 0] rfl)
    · have c2 := mt (lg_cmp_gt _ _).mpr c2
      refine lv_iload_n hx hb dX5_finestCut_75 rfl (lv_at hl 2 rfl) ?_
      exact x_iret hE hr hlocks hI (congrArg (fun q => some (Value.int q)) ((if_neg c1).trans (if_neg c2))) (((if_neg c1).trans (if_neg c2)).symm) (((if_neg c1).trans (if_neg c2)).symm) dX5_finestCut_76
set_option maxRecDepth 100000 in
set_option maxHeartbeats 4000000 in
theorem hd_fc3 (l : Launch) (G : GG) (o : Nat) (X : SX) (Y : SY) (v : Int32) {p9 : Program} {e9 : Env} {s9 : State} {m9 : MethodId} {args9 : Array Value} {below9 : List Frame} {meth9 : Method} {c9 : Code} (hE : gE p9 m9 c9 cX5_finestCut 3 s9 args9 yX5_finestCut.cls) (hr : meth9.sig.returnType = (some .int)) (hlocks : meth9.locks = false) (hK : KK G s9) (H : Heap) (locs : List Loc) (hI : In G o X Y s9.heap H locs) (ls : Array Slot) (hl : lv_has ls 3 [(0, .ref (o + 0)), (1, .int v), (2, .int 3)]) :
    W p9 l e9 (Rm 4 99) s9 m9 args9 below9 meth9 c9 H locs 0 0 (MQ below9 (Qw G o (some (.int (fcr3 v X Y))) (fcX3 v X Y) (fcY3 v X Y)) args9 s9 0 0 (rg o)) (F0 m9 15 ls []) := by
  have hx := hE.1
  have hb := hE.2.1
  refine lv_iload_n hx hb dX5_finestCut_15 rfl (lv_at hl 2 rfl) ?_
  refine lv_if_lt (tgt := 83) hx hb dX5_finestCut_16 (by decide) (fun q => absurd q (by decide)) (fun _ => ?_)
  refine lv_aload_n hx hb dX5_finestCut_19 rfl (lv_at hl 0 rfl) ?_
  refine x_get (k := 0) hE hK hI (by decide) inG5 (e_0 G o _ _) rfl 3 (by decide) mw_175 rfl dX5_finestCut_20 ?_
  refine lv_aload_n hx hb dX5_finestCut_23 rfl (lv_at hl 0 rfl) ?_
  refine x_get (k := 0) hE hK hI (by decide) inG5 (e_0 G o _ _) rfl 0 (by decide) mw_172 rfl dX5_finestCut_24 ?_
  refine x_get (k := 1) hE hK hI (by decide) inG1 (e_1 G o _ _) rfl 0 (by decide) mw_139 rfl dX5_finestCut_27 ?_
  refine lv_iload_n hx hb dX5_finestCut_30 rfl (lv_at hl 2 rfl) ?_
  refine x_callVv (k := 282) hE hK hI (c_X4_solveCut_3 l G o _ _  ) mf_X4_solveCut mw_283 (by decide) ((e_282 G o) _ _) rfl rfl hl.1 rfl (Nat.le_of_ble_eq_true rfl) ⟨(Nat.le_of_ble_eq_true rfl), (Nat.le_of_ble_eq_true rfl)⟩ ⟨Nat.zero_le _, Nat.zero_le _⟩ dX5_finestCut_31 (fun H locs hI => ?_)
  refine lv_aload_n hx hb dX5_finestCut_34 rfl (lv_at hl 0 rfl) ?_
  refine x_get (k := 0) hE hK hI (by decide) inG5 (e_0 G o _ _) rfl 3 (by decide) mw_175 rfl dX5_finestCut_35 ?_
  refine x_get (k := 282) hE hK hI (by decide) inG4 (e_282 G o _ _) rfl 3 (by decide) mw_160 rfl dX5_finestCut_38 ?_
  refine lv_if_eq (tgt := 77) hx hb dX5_finestCut_41 (by decide) (fun c1 => ?_) (fun c1 => ?_)
  · refine lv_iinc (v := 2) (lv' := [(2, .int 2), (0, .ref (o + 0)), (1, .int v)]) hx hb dX5_finestCut_77 hl (k := 2) rfl (by decide) (by decide) rfl (fun ls hl => ?_)
    refine lv_goto (tgt := 15) hx hb dX5_finestCut_80 (by decide) ?_
    have e1 : fcr3 v X Y = fcr2 v (cu3X X Y) (cu3Y X Y) := if_pos c1
    have e2 : fcX3 v X Y = fcX2 v (cu3X X Y) (cu3Y X Y) := if_pos c1
    have e3 : fcY3 v X Y = fcY2 v (cu3X X Y) (cu3Y X Y) := if_pos c1
    rw [e1, e2, e3]
    exact hd_fc2 l G o _ _ v hE hr hlocks hK H locs hI ls (lv_sub hl [1, 2, 0] rfl)
  · refine lv_aload_n hx hb dX5_finestCut_44 rfl (lv_at hl 0 rfl) ?_
    refine x_get (k := 0) hE hK hI (by decide) inG5 (e_0 G o _ _) rfl 3 (by decide) mw_175 rfl dX5_finestCut_45 ?_
    refine lv_aload_n hx hb dX5_finestCut_48 rfl (lv_at hl 0 rfl) ?_
    refine x_get (k := 0) hE hK hI (by decide) inG5 (e_0 G o _ _) rfl 0 (by decide) mw_172 rfl dX5_finestCut_49 ?_
    refine x_get (k := 1) hE hK hI (by decide) inG1 (e_1 G o _ _) rfl 0 (by decide) mw_139 rfl dX5_finestCut_52 ?_
    refine x_get (k := 2) hE hK hI (by decide) inG2 (e_2 G o _ _) rfl 2 (by decide) mw_40 rfl dX5_finestCut_55 ?_
    refine x_callVl (k := 282) hE hK hI (c_X4_scaledPower l G o _ _  ) mf_X4_scaledPower mw_275 (by decide) ((e_282 G o) _ _) rfl rfl hl.1 rfl (Nat.le_of_ble_eq_true rfl) ⟨(Nat.le_of_ble_eq_true rfl), (Nat.le_of_ble_eq_true rfl)⟩ ⟨Nat.zero_le _, Nat.zero_le _⟩ dX5_finestCut_58 (fun H locs hI => ?_)
    refine lv_iload_n hx hb dX5_finestCut_61 rfl (lv_at hl 1 rfl) ?_
    refine lv_i2l hx hb dX5_finestCut_62 rfl ?_
    refine lv_aload_n hx hb dX5_finestCut_63 rfl (lv_at hl 0 rfl) ?_
    refine x_get (k := 0) hE hK hI (by decide) inG5 (e_0 G o _ _) rfl 3 (by decide) mw_175 rfl dX5_finestCut_64 ?_
    refine x_get (k := 282) hE hK hI (by decide) inG4 (e_282 G o _ _) rfl 2 (by decide) mw_158 rfl dX5_finestCut_67 ?_
    refine lv_lmul hx hb dX5_finestCut_70 ?_
    refine W.lcmp hx hb dX5_finestCut_71 ?_
    refine lv_if_gt (tgt := 77) hx hb dX5_finestCut_72 (by decide) (fun c2 => ?_) (fun c2 => ?_)
    · have c2 := (lg_cmp_gt _ _).mp c2
      refine lv_iinc (v := 2) (lv' := [(2, .int 2), (0, .ref (o + 0)), (1, .int v)]) hx hb dX5_finestCut_77 hl (k := 2) rfl (by decide) (by decide) rfl (fun ls hl => ?_)
      refine lv_goto (tgt := 15) hx hb dX5_finestCut_80 (by decide) ?_
      have e1 : fcr3 v X Y = fcr2 v (cu3X X Y) (cu3Y X Y) := (if_neg c1).trans (if_pos c2)
      have e2 : fcX3 v X Y = fcX2 v (cu3X X Y) (cu3Y X Y) := (if_neg c1).trans (if_pos c2)
      have e3 : fcY3 v X Y = fcY2 v (cu3X X Y) (cu3Y X Y) := (if_neg c1).trans (if_pos c2)
      rw [e1, e2, e3]
      exact hd_fc2 l G o _ _ v hE hr hlocks hK H locs hI ls (lv_sub hl [1, 2, 0] rfl)
    · have c2 := mt (lg_cmp_gt _ _).mpr c2
      refine lv_iload_n hx hb dX5_finestCut_75 rfl (lv_at hl 2 rfl) ?_
      exact x_iret hE hr hlocks hI (congrArg (fun q => some (Value.int q)) ((if_neg c1).trans (if_neg c2))) (((if_neg c1).trans (if_neg c2)).symm) (((if_neg c1).trans (if_neg c2)).symm) dX5_finestCut_76
set_option maxRecDepth 100000 in
set_option maxHeartbeats 4000000 in
theorem hd_fc4 (l : Launch) (G : GG) (o : Nat) (X : SX) (Y : SY) (v : Int32) {p9 : Program} {e9 : Env} {s9 : State} {m9 : MethodId} {args9 : Array Value} {below9 : List Frame} {meth9 : Method} {c9 : Code} (hE : gE p9 m9 c9 cX5_finestCut 3 s9 args9 yX5_finestCut.cls) (hr : meth9.sig.returnType = (some .int)) (hlocks : meth9.locks = false) (hK : KK G s9) (H : Heap) (locs : List Loc) (hI : In G o X Y s9.heap H locs) (ls : Array Slot) (hl : lv_has ls 3 [(0, .ref (o + 0)), (1, .int v), (2, .int 4)]) :
    W p9 l e9 (Rm 4 99) s9 m9 args9 below9 meth9 c9 H locs 0 0 (MQ below9 (Qw G o (some (.int (fcr4 v X Y))) (fcX4 v X Y) (fcY4 v X Y)) args9 s9 0 0 (rg o)) (F0 m9 15 ls []) := by
  have hx := hE.1
  have hb := hE.2.1
  refine lv_iload_n hx hb dX5_finestCut_15 rfl (lv_at hl 2 rfl) ?_
  refine lv_if_lt (tgt := 83) hx hb dX5_finestCut_16 (by decide) (fun q => absurd q (by decide)) (fun _ => ?_)
  refine lv_aload_n hx hb dX5_finestCut_19 rfl (lv_at hl 0 rfl) ?_
  refine x_get (k := 0) hE hK hI (by decide) inG5 (e_0 G o _ _) rfl 3 (by decide) mw_175 rfl dX5_finestCut_20 ?_
  refine lv_aload_n hx hb dX5_finestCut_23 rfl (lv_at hl 0 rfl) ?_
  refine x_get (k := 0) hE hK hI (by decide) inG5 (e_0 G o _ _) rfl 0 (by decide) mw_172 rfl dX5_finestCut_24 ?_
  refine x_get (k := 1) hE hK hI (by decide) inG1 (e_1 G o _ _) rfl 0 (by decide) mw_139 rfl dX5_finestCut_27 ?_
  refine lv_iload_n hx hb dX5_finestCut_30 rfl (lv_at hl 2 rfl) ?_
  refine x_callVv (k := 282) hE hK hI (c_X4_solveCut_4 l G o _ _  ) mf_X4_solveCut mw_283 (by decide) ((e_282 G o) _ _) rfl rfl hl.1 rfl (Nat.le_of_ble_eq_true rfl) ⟨(Nat.le_of_ble_eq_true rfl), (Nat.le_of_ble_eq_true rfl)⟩ ⟨Nat.zero_le _, Nat.zero_le _⟩ dX5_finestCut_31 (fun H locs hI => ?_)
  refine lv_aload_n hx hb dX5_finestCut_34 rfl (lv_at hl 0 rfl) ?_
  refine x_get (k := 0) hE hK hI (by decide) inG5 (e_0 G o _ _) rfl 3 (by decide) mw_175 rfl dX5_finestCut_35 ?_
  refine x_get (k := 282) hE hK hI (by decide) inG4 (e_282 G o _ _) rfl 3 (by decide) mw_160 rfl dX5_finestCut_38 ?_
  refine lv_if_eq (tgt := 77) hx hb dX5_finestCut_41 (by decide) (fun c1 => ?_) (fun c1 => ?_)
  · refine lv_iinc (v := 3) (lv' := [(2, .int 3), (0, .ref (o + 0)), (1, .int v)]) hx hb dX5_finestCut_77 hl (k := 2) rfl (by decide) (by decide) rfl (fun ls hl => ?_)
    refine lv_goto (tgt := 15) hx hb dX5_finestCut_80 (by decide) ?_
    have e1 : fcr4 v X Y = fcr3 v (cu4X X Y) (cu4Y X Y) := if_pos c1
    have e2 : fcX4 v X Y = fcX3 v (cu4X X Y) (cu4Y X Y) := if_pos c1
    have e3 : fcY4 v X Y = fcY3 v (cu4X X Y) (cu4Y X Y) := if_pos c1
    rw [e1, e2, e3]
    exact hd_fc3 l G o _ _ v hE hr hlocks hK H locs hI ls (lv_sub hl [1, 2, 0] rfl)
  · refine lv_aload_n hx hb dX5_finestCut_44 rfl (lv_at hl 0 rfl) ?_
    refine x_get (k := 0) hE hK hI (by decide) inG5 (e_0 G o _ _) rfl 3 (by decide) mw_175 rfl dX5_finestCut_45 ?_
    refine lv_aload_n hx hb dX5_finestCut_48 rfl (lv_at hl 0 rfl) ?_
    refine x_get (k := 0) hE hK hI (by decide) inG5 (e_0 G o _ _) rfl 0 (by decide) mw_172 rfl dX5_finestCut_49 ?_
    refine x_get (k := 1) hE hK hI (by decide) inG1 (e_1 G o _ _) rfl 0 (by decide) mw_139 rfl dX5_finestCut_52 ?_
    refine x_get (k := 2) hE hK hI (by decide) inG2 (e_2 G o _ _) rfl 2 (by decide) mw_40 rfl dX5_finestCut_55 ?_
    refine x_callVl (k := 282) hE hK hI (c_X4_scaledPower l G o _ _  ) mf_X4_scaledPower mw_275 (by decide) ((e_282 G o) _ _) rfl rfl hl.1 rfl (Nat.le_of_ble_eq_true rfl) ⟨(Nat.le_of_ble_eq_true rfl), (Nat.le_of_ble_eq_true rfl)⟩ ⟨Nat.zero_le _, Nat.zero_le _⟩ dX5_finestCut_58 (fun H locs hI => ?_)
    refine lv_iload_n hx hb dX5_finestCut_61 rfl (lv_at hl 1 rfl) ?_
    refine lv_i2l hx hb dX5_finestCut_62 rfl ?_
    refine lv_aload_n hx hb dX5_finestCut_63 rfl (lv_at hl 0 rfl) ?_
    refine x_get (k := 0) hE hK hI (by decide) inG5 (e_0 G o _ _) rfl 3 (by decide) mw_175 rfl dX5_finestCut_64 ?_
    refine x_get (k := 282) hE hK hI (by decide) inG4 (e_282 G o _ _) rfl 2 (by decide) mw_158 rfl dX5_finestCut_67 ?_
    refine lv_lmul hx hb dX5_finestCut_70 ?_
    refine W.lcmp hx hb dX5_finestCut_71 ?_
    refine lv_if_gt (tgt := 77) hx hb dX5_finestCut_72 (by decide) (fun c2 => ?_) (fun c2 => ?_)
    · have c2 := (lg_cmp_gt _ _).mp c2
      refine lv_iinc (v := 3) (lv' := [(2, .int 3), (0, .ref (o + 0)), (1, .int v)]) hx hb dX5_finestCut_77 hl (k := 2) rfl (by decide) (by decide) rfl (fun ls hl => ?_)
      refine lv_goto (tgt := 15) hx hb dX5_finestCut_80 (by decide) ?_
      have e1 : fcr4 v X Y = fcr3 v (cu4X X Y) (cu4Y X Y) := (if_neg c1).trans (if_pos c2)
      have e2 : fcX4 v X Y = fcX3 v (cu4X X Y) (cu4Y X Y) := (if_neg c1).trans (if_pos c2)
      have e3 : fcY4 v X Y = fcY3 v (cu4X X Y) (cu4Y X Y) := (if_neg c1).trans (if_pos c2)
      rw [e1, e2, e3]
      exact hd_fc3 l G o _ _ v hE hr hlocks hK H locs hI ls (lv_sub hl [1, 2, 0] rfl)
    · have c2 := mt (lg_cmp_gt _ _).mpr c2
      refine lv_iload_n hx hb dX5_finestCut_75 rfl (lv_at hl 2 rfl) ?_
      exact x_iret hE hr hlocks hI (congrArg (fun q => some (Value.int q)) ((if_neg c1).trans (if_neg c2))) (((if_neg c1).trans (if_neg c2)).symm) (((if_neg c1).trans (if_neg c2)).symm) dX5_finestCut_76
set_option maxRecDepth 100000 in
set_option maxHeartbeats 4000000 in
theorem c_X5_finestCut_y (l : Launch) (G : GG) (o : Nat) (X : SX) (Y : SY) (v : Int32) (h : Wi v 0 1000000000) : Ct l yX5_finestCut cX5_finestCut 3 (some .int) 4 99 G o [.ref (o + 0), .int v] X Y (some (.int (fcr4 v X Y))) (fcX4 v X Y) (fcY4 v X Y) := by
  refine Ct.mk (by decide +kernel) (Nat.le_of_ble_eq_true rfl) rfl ?_
  intro p9 e9 s9 m9 args9 below9 meth9 c9 hE hr hlocks hK hI ls hl
  have hx := hE.1
  have hb := hE.2.1
  have hl : lv_has ls 3 [(0, .ref (o + 0)), (1, .int v)] := hl
  refine lv_iload_n hx hb dX5_finestCut_0 rfl (lv_at hl 1 rfl) ?_
  refine lv_iconst (v := 0) hx hb dX5_finestCut_1 (by decide) ?_
  refine lv_ldc hx hb hE.2.2.2.1 (hE.2.2.2.2 _ mw_292) dX5_finestCut_2 ?_
  refine x_callSi hE hK hI (c_X5_isWithin l G o _ _ v 0 1000000000 ) mf_X5_isWithin mw_192 rfl hl.1 rfl (Nat.le_of_ble_eq_true rfl) ⟨(Nat.le_of_ble_eq_true rfl), (Nat.le_of_ble_eq_true rfl)⟩ ⟨Nat.zero_le _, Nat.zero_le _⟩ dX5_finestCut_4 (fun H locs hI => ?_)
  refine lv_topi (fun z1 ez1 => ?_)
  obtain rfl : 1 = z1 := (ez1.trans (bI_t h)).symm
  refine lv_if_ne (tgt := 13) hx hb dX5_finestCut_7 (by decide) (fun _ => ?_) (fun q => absurd q (by decide))
  refine lv_iconst (v := 4) hx hb dX5_finestCut_13 (by decide) ?_
  refine lv_istore_n (lv' := [(2, .int 4), (0, .ref (o + 0)), (1, .int v)]) hx hb dX5_finestCut_14 rfl hl (by decide) rfl (fun ls hl => ?_)
  exact hd_fc4 l G o X Y v hE hr hlocks hK _ _ hI ls (lv_sub hl [1, 2, 0] rfl)
set_option maxRecDepth 100000 in
set_option maxHeartbeats 4000000 in
theorem c_X5_addLot_a (l : Launch) (G : GG) (o : Nat) (X : SX) (Y : SY) (a : Int32) (b : Int32) (c : Int32) (d : Int32) (h : ¬ (MassOK a b c d)) : Ct l yX5_addLot cX5_addLot 7 (some .int) 3 65 G o [.ref (o + 0), .int a, .int b, .int c, .int d] X Y (some (.int (-3))) X Y := by
  refine Ct.mk (by decide +kernel) (Nat.le_of_ble_eq_true rfl) rfl ?_
  intro p9 e9 s9 m9 args9 below9 meth9 c9 hE hr hlocks hK hI ls hl
  have hx := hE.1
  have hb := hE.2.1
  have hl : lv_has ls 7 [(0, .ref (o + 0)), (1, .int a), (2, .int b), (3, .int c), (4, .int d)] := hl
  refine lv_iload_n hx hb dX5_addLot_0 rfl (lv_at hl 1 rfl) ?_
  refine lv_iload_n hx hb dX5_addLot_1 rfl (lv_at hl 2 rfl) ?_
  refine lv_iload_n hx hb dX5_addLot_2 rfl (lv_at hl 3 rfl) ?_
  refine lv_iload hx hb dX5_addLot_3 (lv_at hl 4 rfl) ?_
  refine x_callSi hE hK hI (c_X5_areLotMasses l G o _ _ a b c d ) mf_X5_areLotMasses mw_297 rfl hl.1 rfl (Nat.le_of_ble_eq_true rfl) ⟨(Nat.le_of_ble_eq_true rfl), (Nat.le_of_ble_eq_true rfl)⟩ ⟨Nat.zero_le _, Nat.zero_le _⟩ dX5_addLot_5 (fun H locs hI => ?_)
  refine lv_topi (fun z1 ez1 => ?_)
  obtain rfl : 0 = z1 := (ez1.trans (bI_f h)).symm
  refine lv_if_ne (tgt := 14) hx hb dX5_addLot_8 (by decide) (fun q => absurd (by decide) q) (fun _ => ?_)
  refine lv_bipush (v := (-3)) hx hb dX5_addLot_11 (by decide) ?_
  exact x_iret hE hr hlocks hI rfl rfl rfl dX5_addLot_13
set_option maxRecDepth 100000 in
set_option maxHeartbeats 4000000 in
theorem c_X5_addLot_f (l : Launch) (G : GG) (o : Nat) (X : SX) (Y : SY) (a : Int32) (b : Int32) (c : Int32) (d : Int32) (h : MassOK a b c d) (h2 : 40 ≤ X 11 2) : Ct l yX5_addLot cX5_addLot 7 (some .int) 3 65 G o [.ref (o + 0), .int a, .int b, .int c, .int d] X Y (some (.int (-4))) X Y := by
  refine Ct.mk (by decide +kernel) (Nat.le_of_ble_eq_true rfl) rfl ?_
  intro p9 e9 s9 m9 args9 below9 meth9 c9 hE hr hlocks hK hI ls hl
  have hx := hE.1
  have hb := hE.2.1
  have hl : lv_has ls 7 [(0, .ref (o + 0)), (1, .int a), (2, .int b), (3, .int c), (4, .int d)] := hl
  refine lv_iload_n hx hb dX5_addLot_0 rfl (lv_at hl 1 rfl) ?_
  refine lv_iload_n hx hb dX5_addLot_1 rfl (lv_at hl 2 rfl) ?_
  refine lv_iload_n hx hb dX5_addLot_2 rfl (lv_at hl 3 rfl) ?_
  refine lv_iload hx hb dX5_addLot_3 (lv_at hl 4 rfl) ?_
  refine x_callSi hE hK hI (c_X5_areLotMasses l G o _ _ a b c d ) mf_X5_areLotMasses mw_297 rfl hl.1 rfl (Nat.le_of_ble_eq_true rfl) ⟨(Nat.le_of_ble_eq_true rfl), (Nat.le_of_ble_eq_true rfl)⟩ ⟨Nat.zero_le _, Nat.zero_le _⟩ dX5_addLot_5 (fun H locs hI => ?_)
  refine lv_topi (fun z1 ez1 => ?_)
  obtain rfl : 1 = z1 := (ez1.trans (bI_t h)).symm
  refine lv_if_ne (tgt := 14) hx hb dX5_addLot_8 (by decide) (fun _ => ?_) (fun q => absurd q (by decide))
  refine lv_aload_n hx hb dX5_addLot_14 rfl (lv_at hl 0 rfl) ?_
  refine x_get (k := 0) hE hK hI (by decide) inG5 (e_0 G o _ _) rfl 0 (by decide) mw_172 rfl dX5_addLot_15 ?_
  refine x_get (k := 1) hE hK hI (by decide) inG1 (e_1 G o _ _) rfl 1 (by decide) mw_141 rfl dX5_addLot_18 ?_
  refine lv_astore (lv' := [(5, .ref (o + 11)), (0, .ref (o + 0)), (1, .int a), (2, .int b), (3, .int c), (4, .int d)]) hx hb dX5_addLot_21 hl (by decide) rfl (fun ls hl => ?_)
  refine lv_aload hx hb dX5_addLot_23 (lv_at hl 0 rfl) ?_
  refine lv_iload_n hx hb dX5_addLot_25 rfl (lv_at hl 2 rfl) ?_
  refine lv_iload_n hx hb dX5_addLot_26 rfl (lv_at hl 3 rfl) ?_
  refine lv_iload_n hx hb dX5_addLot_27 rfl (lv_at hl 4 rfl) ?_
  refine lv_iload hx hb dX5_addLot_28 (lv_at hl 5 rfl) ?_
  refine x_callVi (k := 11) hE hK hI (c_X3_create_f l G o _ _ a b c d h2) mf_X3_create mw_303 (by decide) ((e_11 G o) _ _) rfl rfl hl.1 rfl (Nat.le_of_ble_eq_true rfl) ⟨(Nat.le_of_ble_eq_true rfl), (Nat.le_of_ble_eq_true rfl)⟩ ⟨Nat.zero_le _, Nat.zero_le _⟩ dX5_addLot_30 (fun H locs hI => ?_)
  refine lv_istore (lv' := [(6, .int (-1)), (5, .ref (o + 11)), (0, .ref (o + 0)), (1, .int a), (2, .int b), (3, .int c), (4, .int d)]) hx hb dX5_addLot_33 hl (by decide) rfl (fun ls hl => ?_)
  refine lv_aload hx hb dX5_addLot_35 (lv_at hl 1 rfl) ?_
  refine lv_iload hx hb dX5_addLot_37 (lv_at hl 0 rfl) ?_
  refine x_callVi (k := 11) hE hK hI (c_X3_hasLot l G o _ _ (-1) ) mf_X3_hasLot mw_307 (by decide) ((e_11 G o) _ _) rfl rfl hl.1 rfl (Nat.le_of_ble_eq_true rfl) ⟨(Nat.le_of_ble_eq_true rfl), (Nat.le_of_ble_eq_true rfl)⟩ ⟨Nat.zero_le _, Nat.zero_le _⟩ dX5_addLot_39 (fun H locs hI => ?_)
  refine lv_topi (fun z2 ez2 => ?_)
  obtain rfl : 0 = z2 := (ez2.trans (bI_f lot_no)).symm
  refine lv_if_ne (tgt := 48) hx hb dX5_addLot_42 (by decide) (fun q => absurd (by decide) q) (fun _ => ?_)
  refine lv_bipush (v := (-4)) hx hb dX5_addLot_45 (by decide) ?_
  exact x_iret hE hr hlocks hI rfl rfl rfl dX5_addLot_47
set_option maxRecDepth 100000 in
set_option maxHeartbeats 4000000 in
theorem c_X5_addLot_y (l : Launch) (G : GG) (o : Nat) (X : SX) (Y : SY) (a : Int32) (b : Int32) (c : Int32) (d : Int32) (n : Nat) (h : MassOK a b c d) (h2 : ¬ (40 ≤ X 11 2)) (hS : SimInv X n) (h_n : n < 40) : Ct l yX5_addLot cX5_addLot 7 (some .int) 4 95 G o [.ref (o + 0), .int a, .int b, .int c, .int d] X Y (some (.int (nI n))) (stF (pbX (crX X a b c d n) n) (n + 1)) Y := by
  refine Ct.mk (by decide +kernel) (Nat.le_of_ble_eq_true rfl) rfl ?_
  intro p9 e9 s9 m9 args9 below9 meth9 c9 hE hr hlocks hK hI ls hl
  have hx := hE.1
  have hb := hE.2.1
  have hl : lv_has ls 7 [(0, .ref (o + 0)), (1, .int a), (2, .int b), (3, .int c), (4, .int d)] := hl
  refine lv_iload_n hx hb dX5_addLot_0 rfl (lv_at hl 1 rfl) ?_
  refine lv_iload_n hx hb dX5_addLot_1 rfl (lv_at hl 2 rfl) ?_
  refine lv_iload_n hx hb dX5_addLot_2 rfl (lv_at hl 3 rfl) ?_
  refine lv_iload hx hb dX5_addLot_3 (lv_at hl 4 rfl) ?_
  refine x_callSi hE hK hI (c_X5_areLotMasses l G o _ _ a b c d ) mf_X5_areLotMasses mw_297 rfl hl.1 rfl (Nat.le_of_ble_eq_true rfl) ⟨(Nat.le_of_ble_eq_true rfl), (Nat.le_of_ble_eq_true rfl)⟩ ⟨Nat.zero_le _, Nat.zero_le _⟩ dX5_addLot_5 (fun H locs hI => ?_)
  refine lv_topi (fun z1 ez1 => ?_)
  obtain rfl : 1 = z1 := (ez1.trans (bI_t h)).symm
  refine lv_if_ne (tgt := 14) hx hb dX5_addLot_8 (by decide) (fun _ => ?_) (fun q => absurd q (by decide))
  refine lv_aload_n hx hb dX5_addLot_14 rfl (lv_at hl 0 rfl) ?_
  refine x_get (k := 0) hE hK hI (by decide) inG5 (e_0 G o _ _) rfl 0 (by decide) mw_172 rfl dX5_addLot_15 ?_
  refine x_get (k := 1) hE hK hI (by decide) inG1 (e_1 G o _ _) rfl 1 (by decide) mw_141 rfl dX5_addLot_18 ?_
  refine lv_astore (lv' := [(5, .ref (o + 11)), (0, .ref (o + 0)), (1, .int a), (2, .int b), (3, .int c), (4, .int d)]) hx hb dX5_addLot_21 hl (by decide) rfl (fun ls hl => ?_)
  refine lv_aload hx hb dX5_addLot_23 (lv_at hl 0 rfl) ?_
  refine lv_iload_n hx hb dX5_addLot_25 rfl (lv_at hl 2 rfl) ?_
  refine lv_iload_n hx hb dX5_addLot_26 rfl (lv_at hl 3 rfl) ?_
  refine lv_iload_n hx hb dX5_addLot_27 rfl (lv_at hl 4 rfl) ?_
  refine lv_iload hx hb dX5_addLot_28 (lv_at hl 5 rfl) ?_
  refine x_callVi (k := 11) hE hK hI (c_X3_create l G o _ _ a b c d n hS.1 h_n) mf_X3_create mw_303 (by decide) ((e_11 G o) _ _) rfl rfl hl.1 rfl (Nat.le_of_ble_eq_true rfl) ⟨(Nat.le_of_ble_eq_true rfl), (Nat.le_of_ble_eq_true rfl)⟩ ⟨Nat.zero_le _, Nat.zero_le _⟩ dX5_addLot_30 (fun H locs hI => ?_)
  refine lv_istore (lv' := [(6, .int (nI n)), (5, .ref (o + 11)), (0, .ref (o + 0)), (1, .int a), (2, .int b), (3, .int c), (4, .int d)]) hx hb dX5_addLot_33 hl (by decide) rfl (fun ls hl => ?_)
  refine lv_aload hx hb dX5_addLot_35 (lv_at hl 1 rfl) ?_
  refine lv_iload hx hb dX5_addLot_37 (lv_at hl 0 rfl) ?_
  refine x_callVi (k := 11) hE hK hI (c_X3_hasLot l G o _ _ (nI n) ) mf_X3_hasLot mw_307 (by decide) ((e_11 G o) _ _) rfl rfl hl.1 rfl (Nat.le_of_ble_eq_true rfl) ⟨(Nat.le_of_ble_eq_true rfl), (Nat.le_of_ble_eq_true rfl)⟩ ⟨Nat.zero_le _, Nat.zero_le _⟩ dX5_addLot_39 (fun H locs hI => ?_)
  refine lv_topi (fun z2 ez2 => ?_)
  obtain rfl : 1 = z2 := (ez2.trans (bI_t (lot_new h_n))).symm
  refine lv_if_ne (tgt := 48) hx hb dX5_addLot_42 (by decide) (fun _ => ?_) (fun q => absurd q (by decide))
  refine lv_aload hx hb dX5_addLot_48 (lv_at hl 1 rfl) ?_
  refine lv_aload hx hb dX5_addLot_50 (lv_at hl 1 rfl) ?_
  refine x_get (k := 11) hE hK hI (by decide) inG3 (e_11 G o _ _) rfl 0 (by decide) mw_103 rfl dX5_addLot_52 ?_
  refine lv_iload hx hb dX5_addLot_55 (lv_at hl 0 rfl) ?_
  refine x_aald (k := 12) (j := n) (t0 := 3) (q := o + (14 + 2 * n)) hE hK hI (by decide) (e_12 G o) rfl rfl h_n (by decide) rfl (ql_14 h_n) dX5_addLot_57 ?_
  refine x_callVv (k := 11) hE hK hI (c_X3_putIntoBin l G o _ _ n h_n) mf_X3_putIntoBin mw_311 (by decide) ((e_11 G o) _ _) rfl rfl hl.1 rfl (Nat.le_of_ble_eq_true rfl) ⟨(Nat.le_of_ble_eq_true rfl), (Nat.le_of_ble_eq_true rfl)⟩ ⟨Nat.zero_le _, Nat.zero_le _⟩ dX5_addLot_58 (fun H locs hI => ?_)
  refine lv_aload hx hb dX5_addLot_61 (lv_at hl 1 rfl) ?_
  refine lv_aload_n hx hb dX5_addLot_63 rfl (lv_at hl 2 rfl) ?_
  refine x_get (k := 0) hE hK hI (by decide) inG5 (e_0 G o _ _) rfl 0 (by decide) mw_172 rfl dX5_addLot_64 ?_
  refine x_get (k := 1) hE hK hI (by decide) inG1 (e_1 G o _ _) rfl 0 (by decide) mw_139 rfl dX5_addLot_67 ?_
  refine x_callVv (k := 11) hE hK hI (c_X3_startIfIdle l G o _ _ (n + 1) ((hS.cr h_n).pb)) mf_X3_startIfIdle mw_315 (by decide) ((e_11 G o) _ _) rfl rfl hl.1 rfl (Nat.le_of_ble_eq_true rfl) ⟨(Nat.le_of_ble_eq_true rfl), (Nat.le_of_ble_eq_true rfl)⟩ ⟨Nat.zero_le _, Nat.zero_le _⟩ dX5_addLot_70 (fun H locs hI => ?_)
  refine lv_iload hx hb dX5_addLot_73 (lv_at hl 0 rfl) ?_
  exact x_iret hE hr hlocks hI rfl rfl rfl dX5_addLot_75
set_option maxRecDepth 100000 in
set_option maxHeartbeats 4000000 in
theorem c_X5_planLot_a (l : Launch) (G : GG) (o : Nat) (X : SX) (Y : SY) (w : Int32) (a : Int32) (b : Int32) (c : Int32) (d : Int32) (h : ¬ (Wi w 1 1000)) : Ct l yX5_planLot cX5_planLot 8 (some .int) 1 22 G o [.ref (o + 0), .int w, .int a, .int b, .int c, .int d] X Y (some (.int (-3))) X Y := by
  refine Ct.mk (by decide +kernel) (Nat.le_of_ble_eq_true rfl) rfl ?_
  intro p9 e9 s9 m9 args9 below9 meth9 c9 hE hr hlocks hK hI ls hl
  have hx := hE.1
  have hb := hE.2.1
  have hl : lv_has ls 8 [(0, .ref (o + 0)), (1, .int w), (2, .int a), (3, .int b), (4, .int c), (5, .int d)] := hl
  refine lv_iload_n hx hb dX5_planLot_0 rfl (lv_at hl 1 rfl) ?_
  refine lv_iconst (v := 1) hx hb dX5_planLot_1 (by decide) ?_
  refine lv_sipush (v := 1000) hx hb dX5_planLot_2 (by decide) ?_
  refine x_callSi hE hK hI (c_X5_isWithin l G o _ _ w 1 1000 ) mf_X5_isWithin mw_192 rfl hl.1 rfl (Nat.le_of_ble_eq_true rfl) ⟨(Nat.le_of_ble_eq_true rfl), (Nat.le_of_ble_eq_true rfl)⟩ ⟨Nat.zero_le _, Nat.zero_le _⟩ dX5_planLot_5 (fun H locs hI => ?_)
  refine lv_topi (fun z1 ez1 => ?_)
  obtain rfl : 0 = z1 := (ez1.trans (bI_f h)).symm
  refine lv_if_eq (tgt := 23) hx hb dX5_planLot_8 (by decide) (fun _ => ?_) (fun q => absurd (by decide) q)
  refine lv_bipush (v := (-3)) hx hb dX5_planLot_23 (by decide) ?_
  exact x_iret hE hr hlocks hI rfl rfl rfl dX5_planLot_25
set_option maxRecDepth 100000 in
set_option maxHeartbeats 4000000 in
theorem c_X5_planLot_b (l : Launch) (G : GG) (o : Nat) (X : SX) (Y : SY) (w : Int32) (a : Int32) (b : Int32) (c : Int32) (d : Int32) (h1 : Wi w 1 1000) (h : ¬ (MassOK a b c d)) : Ct l yX5_planLot cX5_planLot 8 (some .int) 3 65 G o [.ref (o + 0), .int w, .int a, .int b, .int c, .int d] X Y (some (.int (-3))) X Y := by
  refine Ct.mk (by decide +kernel) (Nat.le_of_ble_eq_true rfl) rfl ?_
  intro p9 e9 s9 m9 args9 below9 meth9 c9 hE hr hlocks hK hI ls hl
  have hx := hE.1
  have hb := hE.2.1
  have hl : lv_has ls 8 [(0, .ref (o + 0)), (1, .int w), (2, .int a), (3, .int b), (4, .int c), (5, .int d)] := hl
  refine lv_iload_n hx hb dX5_planLot_0 rfl (lv_at hl 1 rfl) ?_
  refine lv_iconst (v := 1) hx hb dX5_planLot_1 (by decide) ?_
  refine lv_sipush (v := 1000) hx hb dX5_planLot_2 (by decide) ?_
  refine x_callSi hE hK hI (c_X5_isWithin l G o _ _ w 1 1000 ) mf_X5_isWithin mw_192 rfl hl.1 rfl (Nat.le_of_ble_eq_true rfl) ⟨(Nat.le_of_ble_eq_true rfl), (Nat.le_of_ble_eq_true rfl)⟩ ⟨Nat.zero_le _, Nat.zero_le _⟩ dX5_planLot_5 (fun H locs hI => ?_)
  refine lv_topi (fun z1 ez1 => ?_)
  obtain rfl : 1 = z1 := (ez1.trans (bI_t h1)).symm
  refine lv_if_eq (tgt := 23) hx hb dX5_planLot_8 (by decide) (fun q => absurd q (by decide)) (fun _ => ?_)
  refine lv_iload_n hx hb dX5_planLot_11 rfl (lv_at hl 2 rfl) ?_
  refine lv_iload_n hx hb dX5_planLot_12 rfl (lv_at hl 3 rfl) ?_
  refine lv_iload hx hb dX5_planLot_13 (lv_at hl 4 rfl) ?_
  refine lv_iload hx hb dX5_planLot_15 (lv_at hl 5 rfl) ?_
  refine x_callSi hE hK hI (c_X5_areLotMasses l G o _ _ a b c d ) mf_X5_areLotMasses mw_297 rfl hl.1 rfl (Nat.le_of_ble_eq_true rfl) ⟨(Nat.le_of_ble_eq_true rfl), (Nat.le_of_ble_eq_true rfl)⟩ ⟨Nat.zero_le _, Nat.zero_le _⟩ dX5_planLot_17 (fun H locs hI => ?_)
  refine lv_topi (fun z2 ez2 => ?_)
  obtain rfl : 0 = z2 := (ez2.trans (bI_f h)).symm
  refine lv_if_ne (tgt := 26) hx hb dX5_planLot_20 (by decide) (fun q => absurd (by decide) q) (fun _ => ?_)
  refine lv_bipush (v := (-3)) hx hb dX5_planLot_23 (by decide) ?_
  exact x_iret hE hr hlocks hI rfl rfl rfl dX5_planLot_25
set_option maxRecDepth 100000 in
set_option maxHeartbeats 4000000 in
theorem c_X5_planLot_f (l : Launch) (G : GG) (o : Nat) (X : SX) (Y : SY) (w : Int32) (a : Int32) (b : Int32) (c : Int32) (d : Int32) (h1 : Wi w 1 1000) (h : MassOK a b c d) (h2 : 40 ≤ X 11 2) : Ct l yX5_planLot cX5_planLot 8 (some .int) 3 65 G o [.ref (o + 0), .int w, .int a, .int b, .int c, .int d] X Y (some (.int (-4))) X Y := by
  refine Ct.mk (by decide +kernel) (Nat.le_of_ble_eq_true rfl) rfl ?_
  intro p9 e9 s9 m9 args9 below9 meth9 c9 hE hr hlocks hK hI ls hl
  have hx := hE.1
  have hb := hE.2.1
  have hl : lv_has ls 8 [(0, .ref (o + 0)), (1, .int w), (2, .int a), (3, .int b), (4, .int c), (5, .int d)] := hl
  refine lv_iload_n hx hb dX5_planLot_0 rfl (lv_at hl 1 rfl) ?_
  refine lv_iconst (v := 1) hx hb dX5_planLot_1 (by decide) ?_
  refine lv_sipush (v := 1000) hx hb dX5_planLot_2 (by decide) ?_
  refine x_callSi hE hK hI (c_X5_isWithin l G o _ _ w 1 1000 ) mf_X5_isWithin mw_192 rfl hl.1 rfl (Nat.le_of_ble_eq_true rfl) ⟨(Nat.le_of_ble_eq_true rfl), (Nat.le_of_ble_eq_true rfl)⟩ ⟨Nat.zero_le _, Nat.zero_le _⟩ dX5_planLot_5 (fun H locs hI => ?_)
  refine lv_topi (fun z1 ez1 => ?_)
  obtain rfl : 1 = z1 := (ez1.trans (bI_t h1)).symm
  refine lv_if_eq (tgt := 23) hx hb dX5_planLot_8 (by decide) (fun q => absurd q (by decide)) (fun _ => ?_)
  refine lv_iload_n hx hb dX5_planLot_11 rfl (lv_at hl 2 rfl) ?_
  refine lv_iload_n hx hb dX5_planLot_12 rfl (lv_at hl 3 rfl) ?_
  refine lv_iload hx hb dX5_planLot_13 (lv_at hl 4 rfl) ?_
  refine lv_iload hx hb dX5_planLot_15 (lv_at hl 5 rfl) ?_
  refine x_callSi hE hK hI (c_X5_areLotMasses l G o _ _ a b c d ) mf_X5_areLotMasses mw_297 rfl hl.1 rfl (Nat.le_of_ble_eq_true rfl) ⟨(Nat.le_of_ble_eq_true rfl), (Nat.le_of_ble_eq_true rfl)⟩ ⟨Nat.zero_le _, Nat.zero_le _⟩ dX5_planLot_17 (fun H locs hI => ?_)
  refine lv_topi (fun z2 ez2 => ?_)
  obtain rfl : 1 = z2 := (ez2.trans (bI_t h)).symm
  refine lv_if_ne (tgt := 26) hx hb dX5_planLot_20 (by decide) (fun _ => ?_) (fun q => absurd q (by decide))
  refine lv_aload_n hx hb dX5_planLot_26 rfl (lv_at hl 0 rfl) ?_
  refine x_get (k := 0) hE hK hI (by decide) inG5 (e_0 G o _ _) rfl 0 (by decide) mw_172 rfl dX5_planLot_27 ?_
  refine x_get (k := 1) hE hK hI (by decide) inG1 (e_1 G o _ _) rfl 1 (by decide) mw_141 rfl dX5_planLot_30 ?_
  refine lv_astore (lv' := [(6, .ref (o + 11)), (0, .ref (o + 0)), (1, .int w), (2, .int a), (3, .int b), (4, .int c), (5, .int d)]) hx hb dX5_planLot_33 hl (by decide) rfl (fun ls hl => ?_)
  refine lv_aload hx hb dX5_planLot_35 (lv_at hl 0 rfl) ?_
  refine lv_iload_n hx hb dX5_planLot_37 rfl (lv_at hl 3 rfl) ?_
  refine lv_iload_n hx hb dX5_planLot_38 rfl (lv_at hl 4 rfl) ?_
  refine lv_iload hx hb dX5_planLot_39 (lv_at hl 5 rfl) ?_
  refine lv_iload hx hb dX5_planLot_41 (lv_at hl 6 rfl) ?_
  refine x_callVi (k := 11) hE hK hI (c_X3_create_f l G o _ _ a b c d h2) mf_X3_create mw_303 (by decide) ((e_11 G o) _ _) rfl rfl hl.1 rfl (Nat.le_of_ble_eq_true rfl) ⟨(Nat.le_of_ble_eq_true rfl), (Nat.le_of_ble_eq_true rfl)⟩ ⟨Nat.zero_le _, Nat.zero_le _⟩ dX5_planLot_43 (fun H locs hI => ?_)
  refine lv_istore (lv' := [(7, .int (-1)), (6, .ref (o + 11)), (0, .ref (o + 0)), (1, .int w), (2, .int a), (3, .int b), (4, .int c), (5, .int d)]) hx hb dX5_planLot_46 hl (by decide) rfl (fun ls hl => ?_)
  refine lv_aload hx hb dX5_planLot_48 (lv_at hl 1 rfl) ?_
  refine lv_iload hx hb dX5_planLot_50 (lv_at hl 0 rfl) ?_
  refine x_callVi (k := 11) hE hK hI (c_X3_hasLot l G o _ _ (-1) ) mf_X3_hasLot mw_307 (by decide) ((e_11 G o) _ _) rfl rfl hl.1 rfl (Nat.le_of_ble_eq_true rfl) ⟨(Nat.le_of_ble_eq_true rfl), (Nat.le_of_ble_eq_true rfl)⟩ ⟨Nat.zero_le _, Nat.zero_le _⟩ dX5_planLot_52 (fun H locs hI => ?_)
  refine lv_topi (fun z3 ez3 => ?_)
  obtain rfl : 0 = z3 := (ez3.trans (bI_f lot_no)).symm
  refine lv_if_ne (tgt := 61) hx hb dX5_planLot_55 (by decide) (fun q => absurd (by decide) q) (fun _ => ?_)
  refine lv_bipush (v := (-4)) hx hb dX5_planLot_58 (by decide) ?_
  exact x_iret hE hr hlocks hI rfl rfl rfl dX5_planLot_60
set_option maxRecDepth 100000 in
set_option maxHeartbeats 4000000 in
theorem c_X5_planLot_y (l : Launch) (G : GG) (o : Nat) (X : SX) (Y : SY) (w : Int32) (a : Int32) (b : Int32) (c : Int32) (d : Int32) (n : Nat) (h1 : Wi w 1 1000) (h : MassOK a b c d) (h2 : ¬ (40 ≤ X 11 2)) (hc : X 11 2 = nI n) (h_n : n < 40) : Ct l yX5_planLot cX5_planLot 8 (some .int) 3 65 G o [.ref (o + 0), .int w, .int a, .int b, .int c, .int d] X Y (some (.int (nI n))) (sx (sx (crX X a b c d n) (14 + 2 * n) 1 0) (14 + 2 * n) 2 (((crX X a b c d n) 11 3) + w)) Y := by
  refine Ct.mk (by decide +kernel) (Nat.le_of_ble_eq_true rfl) rfl ?_
  intro p9 e9 s9 m9 args9 below9 meth9 c9 hE hr hlocks hK hI ls hl
  have hx := hE.1
  have hb := hE.2.1
  have hl : lv_has ls 8 [(0, .ref (o + 0)), (1, .int w), (2, .int a), (3, .int b), (4, .int c), (5, .int d)] := hl
  refine lv_iload_n hx hb dX5_planLot_0 rfl (lv_at hl 1 rfl) ?_
  refine lv_iconst (v := 1) hx hb dX5_planLot_1 (by decide) ?_
  refine lv_sipush (v := 1000) hx hb dX5_planLot_2 (by decide) ?_
  refine x_callSi hE hK hI (c_X5_isWithin l G o _ _ w 1 1000 ) mf_X5_isWithin mw_192 rfl hl.1 rfl (Nat.le_of_ble_eq_true rfl) ⟨(Nat.le_of_ble_eq_true rfl), (Nat.le_of_ble_eq_true rfl)⟩ ⟨Nat.zero_le _, Nat.zero_le _⟩ dX5_planLot_5 (fun H locs hI => ?_)
  refine lv_topi (fun z1 ez1 => ?_)
  obtain rfl : 1 = z1 := (ez1.trans (bI_t h1)).symm
  refine lv_if_eq (tgt := 23) hx hb dX5_planLot_8 (by decide) (fun q => absurd q (by decide)) (fun _ => ?_)
  refine lv_iload_n hx hb dX5_planLot_11 rfl (lv_at hl 2 rfl) ?_
  refine lv_iload_n hx hb dX5_planLot_12 rfl (lv_at hl 3 rfl) ?_
  refine lv_iload hx hb dX5_planLot_13 (lv_at hl 4 rfl) ?_
  refine lv_iload hx hb dX5_planLot_15 (lv_at hl 5 rfl) ?_
  refine x_callSi hE hK hI (c_X5_areLotMasses l G o _ _ a b c d ) mf_X5_areLotMasses mw_297 rfl hl.1 rfl (Nat.le_of_ble_eq_true rfl) ⟨(Nat.le_of_ble_eq_true rfl), (Nat.le_of_ble_eq_true rfl)⟩ ⟨Nat.zero_le _, Nat.zero_le _⟩ dX5_planLot_17 (fun H locs hI => ?_)
  refine lv_topi (fun z2 ez2 => ?_)
  obtain rfl : 1 = z2 := (ez2.trans (bI_t h)).symm
  refine lv_if_ne (tgt := 26) hx hb dX5_planLot_20 (by decide) (fun _ => ?_) (fun q => absurd q (by decide))
  refine lv_aload_n hx hb dX5_planLot_26 rfl (lv_at hl 0 rfl) ?_
  refine x_get (k := 0) hE hK hI (by decide) inG5 (e_0 G o _ _) rfl 0 (by decide) mw_172 rfl dX5_planLot_27 ?_
  refine x_get (k := 1) hE hK hI (by decide) inG1 (e_1 G o _ _) rfl 1 (by decide) mw_141 rfl dX5_planLot_30 ?_
  refine lv_astore (lv' := [(6, .ref (o + 11)), (0, .ref (o + 0)), (1, .int w), (2, .int a), (3, .int b), (4, .int c), (5, .int d)]) hx hb dX5_planLot_33 hl (by decide) rfl (fun ls hl => ?_)
  refine lv_aload hx hb dX5_planLot_35 (lv_at hl 0 rfl) ?_
  refine lv_iload_n hx hb dX5_planLot_37 rfl (lv_at hl 3 rfl) ?_
  refine lv_iload_n hx hb dX5_planLot_38 rfl (lv_at hl 4 rfl) ?_
  refine lv_iload hx hb dX5_planLot_39 (lv_at hl 5 rfl) ?_
  refine lv_iload hx hb dX5_planLot_41 (lv_at hl 6 rfl) ?_
  refine x_callVi (k := 11) hE hK hI (c_X3_create l G o _ _ a b c d n hc h_n) mf_X3_create mw_303 (by decide) ((e_11 G o) _ _) rfl rfl hl.1 rfl (Nat.le_of_ble_eq_true rfl) ⟨(Nat.le_of_ble_eq_true rfl), (Nat.le_of_ble_eq_true rfl)⟩ ⟨Nat.zero_le _, Nat.zero_le _⟩ dX5_planLot_43 (fun H locs hI => ?_)
  refine lv_istore (lv' := [(7, .int (nI n)), (6, .ref (o + 11)), (0, .ref (o + 0)), (1, .int w), (2, .int a), (3, .int b), (4, .int c), (5, .int d)]) hx hb dX5_planLot_46 hl (by decide) rfl (fun ls hl => ?_)
  refine lv_aload hx hb dX5_planLot_48 (lv_at hl 1 rfl) ?_
  refine lv_iload hx hb dX5_planLot_50 (lv_at hl 0 rfl) ?_
  refine x_callVi (k := 11) hE hK hI (c_X3_hasLot l G o _ _ (nI n) ) mf_X3_hasLot mw_307 (by decide) ((e_11 G o) _ _) rfl rfl hl.1 rfl (Nat.le_of_ble_eq_true rfl) ⟨(Nat.le_of_ble_eq_true rfl), (Nat.le_of_ble_eq_true rfl)⟩ ⟨Nat.zero_le _, Nat.zero_le _⟩ dX5_planLot_52 (fun H locs hI => ?_)
  refine lv_topi (fun z3 ez3 => ?_)
  obtain rfl : 1 = z3 := (ez3.trans (bI_t (lot_new h_n))).symm
  refine lv_if_ne (tgt := 61) hx hb dX5_planLot_55 (by decide) (fun _ => ?_) (fun q => absurd q (by decide))
  refine lv_aload hx hb dX5_planLot_61 (lv_at hl 1 rfl) ?_
  refine lv_aload hx hb dX5_planLot_63 (lv_at hl 1 rfl) ?_
  refine x_get (k := 11) hE hK hI (by decide) inG3 (e_11 G o _ _) rfl 0 (by decide) mw_103 rfl dX5_planLot_65 ?_
  refine lv_iload hx hb dX5_planLot_68 (lv_at hl 0 rfl) ?_
  refine x_aald (k := 12) (j := n) (t0 := 3) (q := o + (14 + 2 * n)) hE hK hI (by decide) (e_12 G o) rfl rfl h_n (by decide) rfl (ql_14 h_n) dX5_planLot_70 ?_
  refine lv_iload_n hx hb dX5_planLot_71 rfl (lv_at hl 3 rfl) ?_
  refine x_callVv (k := 11) hE hK hI (c_X3_plan l G o _ _ n w h_n) mf_X3_plan mw_348 (by decide) ((e_11 G o) _ _) rfl rfl hl.1 rfl (Nat.le_of_ble_eq_true rfl) ⟨(Nat.le_of_ble_eq_true rfl), (Nat.le_of_ble_eq_true rfl)⟩ ⟨Nat.zero_le _, Nat.zero_le _⟩ dX5_planLot_72 (fun H locs hI => ?_)
  refine lv_iload hx hb dX5_planLot_75 (lv_at hl 0 rfl) ?_
  exact x_iret hE hr hlocks hI rfl rfl rfl dX5_planLot_77
set_option maxRecDepth 100000 in
set_option maxHeartbeats 4000000 in
theorem c_X5_advance_a (l : Launch) (G : GG) (o : Nat) (X : SX) (Y : SY) (v : Int32) (h : ¬ (Wi v 1 500)) : Ct l yX5_advance cX5_advance 2 (some .int) 1 22 G o [.ref (o + 0), .int v] X Y (some (.int (-3))) X Y := by
  refine Ct.mk (by decide +kernel) (Nat.le_of_ble_eq_true rfl) rfl ?_
  intro p9 e9 s9 m9 args9 below9 meth9 c9 hE hr hlocks hK hI ls hl
  have hx := hE.1
  have hb := hE.2.1
  have hl : lv_has ls 2 [(0, .ref (o + 0)), (1, .int v)] := hl
  refine lv_iload_n hx hb dX5_advance_0 rfl (lv_at hl 1 rfl) ?_
  refine lv_iconst (v := 1) hx hb dX5_advance_1 (by decide) ?_
  refine lv_sipush (v := 500) hx hb dX5_advance_2 (by decide) ?_
  refine x_callSi hE hK hI (c_X5_isWithin l G o _ _ v 1 500 ) mf_X5_isWithin mw_192 rfl hl.1 rfl (Nat.le_of_ble_eq_true rfl) ⟨(Nat.le_of_ble_eq_true rfl), (Nat.le_of_ble_eq_true rfl)⟩ ⟨Nat.zero_le _, Nat.zero_le _⟩ dX5_advance_5 (fun H locs hI => ?_)
  refine lv_topi (fun z1 ez1 => ?_)
  obtain rfl : 0 = z1 := (ez1.trans (bI_f h)).symm
  refine lv_if_ne (tgt := 14) hx hb dX5_advance_8 (by decide) (fun q => absurd (by decide) q) (fun _ => ?_)
  refine lv_bipush (v := (-3)) hx hb dX5_advance_11 (by decide) ?_
  exact x_iret hE hr hlocks hI rfl rfl rfl dX5_advance_13
set_option maxRecDepth 100000 in
set_option maxHeartbeats 4000000 in
theorem c_X5_advance_y (l : Launch) (G : GG) (o : Nat) (X : SX) (Y : SY) (mm : Nat) (cnt : Nat) (h : Wi (nI mm) 1 500) (hm : mm < 2 ^ 31) (hS : SimInv X cnt) : Ct l yX5_advance cX5_advance 2 (some .int) 5 120 G o [.ref (o + 0), .int (nI mm)] X Y (some (.int ((rnX (X 11 3 + nI mm) cnt mm X) 11 3))) (rnX (X 11 3 + nI mm) cnt mm X) Y := by
  refine Ct.mk (by decide +kernel) (Nat.le_of_ble_eq_true rfl) rfl ?_
  intro p9 e9 s9 m9 args9 below9 meth9 c9 hE hr hlocks hK hI ls hl
  have hx := hE.1
  have hb := hE.2.1
  have hl : lv_has ls 2 [(0, .ref (o + 0)), (1, .int (nI mm))] := hl
  refine lv_iload_n hx hb dX5_advance_0 rfl (lv_at hl 1 rfl) ?_
  refine lv_iconst (v := 1) hx hb dX5_advance_1 (by decide) ?_
  refine lv_sipush (v := 500) hx hb dX5_advance_2 (by decide) ?_
  refine x_callSi hE hK hI (c_X5_isWithin l G o _ _ (nI mm) 1 500 ) mf_X5_isWithin mw_192 rfl hl.1 rfl (Nat.le_of_ble_eq_true rfl) ⟨(Nat.le_of_ble_eq_true rfl), (Nat.le_of_ble_eq_true rfl)⟩ ⟨Nat.zero_le _, Nat.zero_le _⟩ dX5_advance_5 (fun H locs hI => ?_)
  refine lv_topi (fun z1 ez1 => ?_)
  obtain rfl : 1 = z1 := (ez1.trans (bI_t h)).symm
  refine lv_if_ne (tgt := 14) hx hb dX5_advance_8 (by decide) (fun _ => ?_) (fun q => absurd q (by decide))
  refine lv_aload_n hx hb dX5_advance_14 rfl (lv_at hl 0 rfl) ?_
  refine x_get (k := 0) hE hK hI (by decide) inG5 (e_0 G o _ _) rfl 0 (by decide) mw_172 rfl dX5_advance_15 ?_
  refine x_get (k := 1) hE hK hI (by decide) inG1 (e_1 G o _ _) rfl 1 (by decide) mw_141 rfl dX5_advance_18 ?_
  refine lv_iload_n hx hb dX5_advance_21 rfl (lv_at hl 1 rfl) ?_
  refine lv_aload_n hx hb dX5_advance_22 rfl (lv_at hl 0 rfl) ?_
  refine x_get (k := 0) hE hK hI (by decide) inG5 (e_0 G o _ _) rfl 0 (by decide) mw_172 rfl dX5_advance_23 ?_
  refine x_get (k := 1) hE hK hI (by decide) inG1 (e_1 G o _ _) rfl 0 (by decide) mw_139 rfl dX5_advance_26 ?_
  refine x_callVv (k := 11) hE hK hI (c_X3_run l G o _ _ mm cnt hm hS) mf_X3_run mw_356 (by decide) ((e_11 G o) _ _) rfl rfl hl.1 rfl (Nat.le_of_ble_eq_true rfl) ⟨(Nat.le_of_ble_eq_true rfl), (Nat.le_of_ble_eq_true rfl)⟩ ⟨Nat.zero_le _, Nat.zero_le _⟩ dX5_advance_29 (fun H locs hI => ?_)
  refine lv_aload_n hx hb dX5_advance_32 rfl (lv_at hl 0 rfl) ?_
  refine x_get (k := 0) hE hK hI (by decide) inG5 (e_0 G o _ _) rfl 0 (by decide) mw_172 rfl dX5_advance_33 ?_
  refine x_get (k := 1) hE hK hI (by decide) inG1 (e_1 G o _ _) rfl 1 (by decide) mw_141 rfl dX5_advance_36 ?_
  refine x_get (k := 11) hE hK hI (by decide) inG3 (e_11 G o _ _) rfl 3 (by decide) mw_109 rfl dX5_advance_39 ?_
  exact x_iret hE hr hlocks hI rfl rfl rfl dX5_advance_42
set_option maxRecDepth 100000 in
set_option maxHeartbeats 4000000 in
theorem c_X5_setRate_a (l : Launch) (G : GG) (o : Nat) (X : SX) (Y : SY) (v : Int32) (h : ¬ (Wi v 1 100)) : Ct l yX5_setRate cX5_setRate 3 (some .int) 1 22 G o [.ref (o + 0), .int v] X Y (some (.int (-3))) X Y := by
  refine Ct.mk (by decide +kernel) (Nat.le_of_ble_eq_true rfl) rfl ?_
  intro p9 e9 s9 m9 args9 below9 meth9 c9 hE hr hlocks hK hI ls hl
  have hx := hE.1
  have hb := hE.2.1
  have hl : lv_has ls 3 [(0, .ref (o + 0)), (1, .int v)] := hl
  refine lv_iload_n hx hb dX5_setRate_0 rfl (lv_at hl 1 rfl) ?_
  refine lv_iconst (v := 1) hx hb dX5_setRate_1 (by decide) ?_
  refine lv_bipush (v := 100) hx hb dX5_setRate_2 (by decide) ?_
  refine x_callSi hE hK hI (c_X5_isWithin l G o _ _ v 1 100 ) mf_X5_isWithin mw_192 rfl hl.1 rfl (Nat.le_of_ble_eq_true rfl) ⟨(Nat.le_of_ble_eq_true rfl), (Nat.le_of_ble_eq_true rfl)⟩ ⟨Nat.zero_le _, Nat.zero_le _⟩ dX5_setRate_4 (fun H locs hI => ?_)
  refine lv_topi (fun z1 ez1 => ?_)
  obtain rfl : 0 = z1 := (ez1.trans (bI_f h)).symm
  refine lv_if_ne (tgt := 13) hx hb dX5_setRate_7 (by decide) (fun q => absurd (by decide) q) (fun _ => ?_)
  refine lv_bipush (v := (-3)) hx hb dX5_setRate_10 (by decide) ?_
  exact x_iret hE hr hlocks hI rfl rfl rfl dX5_setRate_12
set_option maxRecDepth 100000 in
set_option maxHeartbeats 4000000 in
theorem c_X5_setRate_y (l : Launch) (G : GG) (o : Nat) (X : SX) (Y : SY) (v : Int32) (h : Wi v 1 100) : Ct l yX5_setRate cX5_setRate 3 (some .int) 1 22 G o [.ref (o + 0), .int v] X Y (some (.int (X 2 4))) (sx X 2 4 v) Y := by
  refine Ct.mk (by decide +kernel) (Nat.le_of_ble_eq_true rfl) rfl ?_
  intro p9 e9 s9 m9 args9 below9 meth9 c9 hE hr hlocks hK hI ls hl
  have hx := hE.1
  have hb := hE.2.1
  have hl : lv_has ls 3 [(0, .ref (o + 0)), (1, .int v)] := hl
  refine lv_iload_n hx hb dX5_setRate_0 rfl (lv_at hl 1 rfl) ?_
  refine lv_iconst (v := 1) hx hb dX5_setRate_1 (by decide) ?_
  refine lv_bipush (v := 100) hx hb dX5_setRate_2 (by decide) ?_
  refine x_callSi hE hK hI (c_X5_isWithin l G o _ _ v 1 100 ) mf_X5_isWithin mw_192 rfl hl.1 rfl (Nat.le_of_ble_eq_true rfl) ⟨(Nat.le_of_ble_eq_true rfl), (Nat.le_of_ble_eq_true rfl)⟩ ⟨Nat.zero_le _, Nat.zero_le _⟩ dX5_setRate_4 (fun H locs hI => ?_)
  refine lv_topi (fun z1 ez1 => ?_)
  obtain rfl : 1 = z1 := (ez1.trans (bI_t h)).symm
  refine lv_if_ne (tgt := 13) hx hb dX5_setRate_7 (by decide) (fun _ => ?_) (fun q => absurd q (by decide))
  refine lv_aload_n hx hb dX5_setRate_13 rfl (lv_at hl 0 rfl) ?_
  refine x_get (k := 0) hE hK hI (by decide) inG5 (e_0 G o _ _) rfl 0 (by decide) mw_172 rfl dX5_setRate_14 ?_
  refine x_get (k := 1) hE hK hI (by decide) inG1 (e_1 G o _ _) rfl 0 (by decide) mw_139 rfl dX5_setRate_17 ?_
  refine x_get (k := 2) hE hK hI (by decide) inG2 (e_2 G o _ _) rfl 4 (by decide) mw_47 rfl dX5_setRate_20 ?_
  refine lv_istore_n (lv' := [(2, .int (X 2 4)), (0, .ref (o + 0)), (1, .int v)]) hx hb dX5_setRate_23 rfl hl (by decide) rfl (fun ls hl => ?_)
  refine lv_aload_n hx hb dX5_setRate_24 rfl (lv_at hl 1 rfl) ?_
  refine x_get (k := 0) hE hK hI (by decide) inG5 (e_0 G o _ _) rfl 0 (by decide) mw_172 rfl dX5_setRate_25 ?_
  refine x_get (k := 1) hE hK hI (by decide) inG1 (e_1 G o _ _) rfl 0 (by decide) mw_139 rfl dX5_setRate_28 ?_
  refine lv_iload_n hx hb dX5_setRate_31 rfl (lv_at hl 2 rfl) ?_
  refine x_puti (k := 2) hE hK hI (by decide) inG2 tyX2 tyX2_ok nmX2 (e_2 G o) rfl 4 (by decide) mw_47 rfl (by decide +kernel) (by exact Nat.le_of_ble_eq_true rfl) rfl dX5_setRate_32 (fun H locs hI => ?_)
  refine lv_iload_n hx hb dX5_setRate_35 rfl (lv_at hl 0 rfl) ?_
  exact x_iret hE hr hlocks hI rfl rfl rfl dX5_setRate_36
set_option maxRecDepth 100000 in
set_option maxHeartbeats 4000000 in
theorem c_X5_setRule_a (l : Launch) (G : GG) (o : Nat) (X : SX) (Y : SY) (v : Int32) (h : ¬ (Wi v 0 2)) : Ct l yX5_setRule cX5_setRule 3 (some .int) 1 22 G o [.ref (o + 0), .int v] X Y (some (.int (-3))) X Y := by
  refine Ct.mk (by decide +kernel) (Nat.le_of_ble_eq_true rfl) rfl ?_
  intro p9 e9 s9 m9 args9 below9 meth9 c9 hE hr hlocks hK hI ls hl
  have hx := hE.1
  have hb := hE.2.1
  have hl : lv_has ls 3 [(0, .ref (o + 0)), (1, .int v)] := hl
  refine lv_iload_n hx hb dX5_setRule_0 rfl (lv_at hl 1 rfl) ?_
  refine lv_iconst (v := 0) hx hb dX5_setRule_1 (by decide) ?_
  refine lv_iconst (v := 2) hx hb dX5_setRule_2 (by decide) ?_
  refine x_callSi hE hK hI (c_X5_isWithin l G o _ _ v 0 2 ) mf_X5_isWithin mw_192 rfl hl.1 rfl (Nat.le_of_ble_eq_true rfl) ⟨(Nat.le_of_ble_eq_true rfl), (Nat.le_of_ble_eq_true rfl)⟩ ⟨Nat.zero_le _, Nat.zero_le _⟩ dX5_setRule_3 (fun H locs hI => ?_)
  refine lv_topi (fun z1 ez1 => ?_)
  obtain rfl : 0 = z1 := (ez1.trans (bI_f h)).symm
  refine lv_if_ne (tgt := 12) hx hb dX5_setRule_6 (by decide) (fun q => absurd (by decide) q) (fun _ => ?_)
  refine lv_bipush (v := (-3)) hx hb dX5_setRule_9 (by decide) ?_
  exact x_iret hE hr hlocks hI rfl rfl rfl dX5_setRule_11
set_option maxRecDepth 100000 in
set_option maxHeartbeats 4000000 in
theorem c_X5_setRule_y (l : Launch) (G : GG) (o : Nat) (X : SX) (Y : SY) (v : Int32) (h : Wi v 0 2) : Ct l yX5_setRule cX5_setRule 3 (some .int) 1 22 G o [.ref (o + 0), .int v] X Y (some (.int (X 2 5))) (sx X 2 5 v) Y := by
  refine Ct.mk (by decide +kernel) (Nat.le_of_ble_eq_true rfl) rfl ?_
  intro p9 e9 s9 m9 args9 below9 meth9 c9 hE hr hlocks hK hI ls hl
  have hx := hE.1
  have hb := hE.2.1
  have hl : lv_has ls 3 [(0, .ref (o + 0)), (1, .int v)] := hl
  refine lv_iload_n hx hb dX5_setRule_0 rfl (lv_at hl 1 rfl) ?_
  refine lv_iconst (v := 0) hx hb dX5_setRule_1 (by decide) ?_
  refine lv_iconst (v := 2) hx hb dX5_setRule_2 (by decide) ?_
  refine x_callSi hE hK hI (c_X5_isWithin l G o _ _ v 0 2 ) mf_X5_isWithin mw_192 rfl hl.1 rfl (Nat.le_of_ble_eq_true rfl) ⟨(Nat.le_of_ble_eq_true rfl), (Nat.le_of_ble_eq_true rfl)⟩ ⟨Nat.zero_le _, Nat.zero_le _⟩ dX5_setRule_3 (fun H locs hI => ?_)
  refine lv_topi (fun z1 ez1 => ?_)
  obtain rfl : 1 = z1 := (ez1.trans (bI_t h)).symm
  refine lv_if_ne (tgt := 12) hx hb dX5_setRule_6 (by decide) (fun _ => ?_) (fun q => absurd q (by decide))
  refine lv_aload_n hx hb dX5_setRule_12 rfl (lv_at hl 0 rfl) ?_
  refine x_get (k := 0) hE hK hI (by decide) inG5 (e_0 G o _ _) rfl 0 (by decide) mw_172 rfl dX5_setRule_13 ?_
  refine x_get (k := 1) hE hK hI (by decide) inG1 (e_1 G o _ _) rfl 0 (by decide) mw_139 rfl dX5_setRule_16 ?_
  refine x_get (k := 2) hE hK hI (by decide) inG2 (e_2 G o _ _) rfl 5 (by decide) mw_50 rfl dX5_setRule_19 ?_
  refine lv_istore_n (lv' := [(2, .int (X 2 5)), (0, .ref (o + 0)), (1, .int v)]) hx hb dX5_setRule_22 rfl hl (by decide) rfl (fun ls hl => ?_)
  refine lv_aload_n hx hb dX5_setRule_23 rfl (lv_at hl 1 rfl) ?_
  refine x_get (k := 0) hE hK hI (by decide) inG5 (e_0 G o _ _) rfl 0 (by decide) mw_172 rfl dX5_setRule_24 ?_
  refine x_get (k := 1) hE hK hI (by decide) inG1 (e_1 G o _ _) rfl 0 (by decide) mw_139 rfl dX5_setRule_27 ?_
  refine lv_iload_n hx hb dX5_setRule_30 rfl (lv_at hl 2 rfl) ?_
  refine x_puti (k := 2) hE hK hI (by decide) inG2 tyX2 tyX2_ok nmX2 (e_2 G o) rfl 5 (by decide) mw_50 rfl (by decide +kernel) (by exact Nat.le_of_ble_eq_true rfl) rfl dX5_setRule_31 (fun H locs hI => ?_)
  refine lv_iload_n hx hb dX5_setRule_34 rfl (lv_at hl 0 rfl) ?_
  exact x_iret hE hr hlocks hI rfl rfl rfl dX5_setRule_35
set_option maxRecDepth 100000 in
set_option maxHeartbeats 4000000 in
theorem c_X5_bin_c (l : Launch) (G : GG) (o : Nat) (X : SX) (Y : SY) (cnt : Nat) (hc : X 11 2 = nI cnt) (h40 : cnt ≤ 40) : Ct l yX5_bin cX5_bin 3 (some .int) 1 22 G o [.ref (o + 0), .int (-1)] X Y (some (.int (nI (cntP (pB X) cnt)))) X Y := by
  refine Ct.mk (by decide +kernel) (Nat.le_of_ble_eq_true rfl) rfl ?_
  intro p9 e9 s9 m9 args9 below9 meth9 c9 hE hr hlocks hK hI ls hl
  have hx := hE.1
  have hb := hE.2.1
  have hl : lv_has ls 3 [(0, .ref (o + 0)), (1, .int (-1))] := hl
  refine lv_iload_n hx hb dX5_bin_0 rfl (lv_at hl 1 rfl) ?_
  refine lv_iconst (v := (-1)) hx hb dX5_bin_1 (by decide) ?_
  refine lv_icmp_ne (tgt := 16) hx hb dX5_bin_2 (by decide) (fun q => absurd (by decide) q) (fun _ => ?_)
  refine lv_aload_n hx hb dX5_bin_5 rfl (lv_at hl 0 rfl) ?_
  refine x_get (k := 0) hE hK hI (by decide) inG5 (e_0 G o _ _) rfl 0 (by decide) mw_172 rfl dX5_bin_6 ?_
  refine x_get (k := 1) hE hK hI (by decide) inG1 (e_1 G o _ _) rfl 1 (by decide) mw_141 rfl dX5_bin_9 ?_
  refine x_callVi (k := 11) hE hK hI (c_X3_countBin l G o _ _ cnt hc h40) mf_X3_countBin mw_402 (by decide) ((e_11 G o) _ _) rfl rfl hl.1 rfl (Nat.le_of_ble_eq_true rfl) ⟨(Nat.le_of_ble_eq_true rfl), (Nat.le_of_ble_eq_true rfl)⟩ ⟨Nat.zero_le _, Nat.zero_le _⟩ dX5_bin_12 (fun H locs hI => ?_)
  exact x_iret hE hr hlocks hI rfl rfl rfl dX5_bin_15
set_option maxRecDepth 100000 in
set_option maxHeartbeats 4000000 in
theorem c_X5_bin_n (l : Launch) (G : GG) (o : Nat) (X : SX) (Y : SY) (v : Int32) (cnt : Nat) (hc : X 11 2 = nI cnt) (h40 : cnt ≤ 40) (h1 : ¬ (v = (-1))) (hq : fndP (fun a => pB X a ∧ nI (cntP (fun q => pB X q ∧ bfX X (X 2 5) q a) cnt) = v) cnt 0 = none) : Ct l yX5_bin cX5_bin 3 (some .int) 4 97 G o [.ref (o + 0), .int v] X Y (some (.int (-7))) X Y := by
  refine Ct.mk (by decide +kernel) (Nat.le_of_ble_eq_true rfl) rfl ?_
  intro p9 e9 s9 m9 args9 below9 meth9 c9 hE hr hlocks hK hI ls hl
  have hx := hE.1
  have hb := hE.2.1
  have hl : lv_has ls 3 [(0, .ref (o + 0)), (1, .int v)] := hl
  refine lv_iload_n hx hb dX5_bin_0 rfl (lv_at hl 1 rfl) ?_
  refine lv_iconst (v := (-1)) hx hb dX5_bin_1 (by decide) ?_
  refine lv_icmp_ne (tgt := 16) hx hb dX5_bin_2 (by decide) (fun _ => ?_) (fun q => absurd q h1)
  refine lv_aload_n hx hb dX5_bin_16 rfl (lv_at hl 0 rfl) ?_
  refine x_get (k := 0) hE hK hI (by decide) inG5 (e_0 G o _ _) rfl 0 (by decide) mw_172 rfl dX5_bin_17 ?_
  refine x_get (k := 1) hE hK hI (by decide) inG1 (e_1 G o _ _) rfl 1 (by decide) mw_141 rfl dX5_bin_20 ?_
  refine lv_iload_n hx hb dX5_bin_23 rfl (lv_at hl 1 rfl) ?_
  refine lv_aload_n hx hb dX5_bin_24 rfl (lv_at hl 0 rfl) ?_
  refine x_get (k := 0) hE hK hI (by decide) inG5 (e_0 G o _ _) rfl 0 (by decide) mw_172 rfl dX5_bin_25 ?_
  refine x_get (k := 1) hE hK hI (by decide) inG1 (e_1 G o _ _) rfl 0 (by decide) mw_139 rfl dX5_bin_28 ?_
  refine x_get (k := 2) hE hK hI (by decide) inG2 (e_2 G o _ _) rfl 5 (by decide) mw_50 rfl dX5_bin_31 ?_
  refine x_callVi (k := 11) hE hK hI (c_X3_lotAt l G o _ _ v (X 2 5) cnt hc h40) mf_X3_lotAt mw_406 (by decide) ((e_11 G o) _ _) rfl rfl hl.1 rfl (Nat.le_of_ble_eq_true rfl) ⟨(Nat.le_of_ble_eq_true rfl), (Nat.le_of_ble_eq_true rfl)⟩ ⟨Nat.zero_le _, Nat.zero_le _⟩ dX5_bin_34 (fun H locs hI => ?_)
  refine lv_topi (fun z1 ez1 => ?_)
  obtain rfl : (-1) = z1 := (ez1.trans (congrArg (oI (-1)) hq)).symm
  refine lv_istore_n (lv' := [(2, .int (-1)), (0, .ref (o + 0)), (1, .int v)]) hx hb dX5_bin_37 rfl hl (by decide) rfl (fun ls hl => ?_)
  refine lv_iload_n hx hb dX5_bin_38 rfl (lv_at hl 0 rfl) ?_
  refine lv_iconst (v := (-1)) hx hb dX5_bin_39 (by decide) ?_
  refine lv_icmp_ne (tgt := 48) hx hb dX5_bin_40 (by decide) (fun q => absurd (by decide) q) (fun _ => ?_)
  refine lv_bipush (v := (-7)) hx hb dX5_bin_43 (by decide) ?_
  refine lv_goto (tgt := 49) hx hb dX5_bin_45 (by decide) ?_
  exact x_iret hE hr hlocks hI rfl rfl rfl dX5_bin_49
set_option maxRecDepth 100000 in
set_option maxHeartbeats 4000000 in
theorem c_X5_bin_y (l : Launch) (G : GG) (o : Nat) (X : SX) (Y : SY) (v : Int32) (cnt : Nat) (j : Nat) (hc : X 11 2 = nI cnt) (h40 : cnt ≤ 40) (h1 : ¬ (v = (-1))) (hq : fndP (fun a => pB X a ∧ nI (cntP (fun q => pB X q ∧ bfX X (X 2 5) q a) cnt) = v) cnt 0 = some j) (h_j : j < 40) : Ct l yX5_bin cX5_bin 3 (some .int) 4 97 G o [.ref (o + 0), .int v] X Y (some (.int (nI j))) X Y := by
  refine Ct.mk (by decide +kernel) (Nat.le_of_ble_eq_true rfl) rfl ?_
  intro p9 e9 s9 m9 args9 below9 meth9 c9 hE hr hlocks hK hI ls hl
  have hx := hE.1
  have hb := hE.2.1
  have hl : lv_has ls 3 [(0, .ref (o + 0)), (1, .int v)] := hl
  refine lv_iload_n hx hb dX5_bin_0 rfl (lv_at hl 1 rfl) ?_
  refine lv_iconst (v := (-1)) hx hb dX5_bin_1 (by decide) ?_
  refine lv_icmp_ne (tgt := 16) hx hb dX5_bin_2 (by decide) (fun _ => ?_) (fun q => absurd q h1)
  refine lv_aload_n hx hb dX5_bin_16 rfl (lv_at hl 0 rfl) ?_
  refine x_get (k := 0) hE hK hI (by decide) inG5 (e_0 G o _ _) rfl 0 (by decide) mw_172 rfl dX5_bin_17 ?_
  refine x_get (k := 1) hE hK hI (by decide) inG1 (e_1 G o _ _) rfl 1 (by decide) mw_141 rfl dX5_bin_20 ?_
  refine lv_iload_n hx hb dX5_bin_23 rfl (lv_at hl 1 rfl) ?_
  refine lv_aload_n hx hb dX5_bin_24 rfl (lv_at hl 0 rfl) ?_
  refine x_get (k := 0) hE hK hI (by decide) inG5 (e_0 G o _ _) rfl 0 (by decide) mw_172 rfl dX5_bin_25 ?_
  refine x_get (k := 1) hE hK hI (by decide) inG1 (e_1 G o _ _) rfl 0 (by decide) mw_139 rfl dX5_bin_28 ?_
  refine x_get (k := 2) hE hK hI (by decide) inG2 (e_2 G o _ _) rfl 5 (by decide) mw_50 rfl dX5_bin_31 ?_
  refine x_callVi (k := 11) hE hK hI (c_X3_lotAt l G o _ _ v (X 2 5) cnt hc h40) mf_X3_lotAt mw_406 (by decide) ((e_11 G o) _ _) rfl rfl hl.1 rfl (Nat.le_of_ble_eq_true rfl) ⟨(Nat.le_of_ble_eq_true rfl), (Nat.le_of_ble_eq_true rfl)⟩ ⟨Nat.zero_le _, Nat.zero_le _⟩ dX5_bin_34 (fun H locs hI => ?_)
  refine lv_topi (fun z1 ez1 => ?_)
  obtain rfl : nI j = z1 := (ez1.trans (congrArg (oI (-1)) hq)).symm
  refine lv_istore_n (lv' := [(2, .int (nI j)), (0, .ref (o + 0)), (1, .int v)]) hx hb dX5_bin_37 rfl hl (by decide) rfl (fun ls hl => ?_)
  refine lv_iload_n hx hb dX5_bin_38 rfl (lv_at hl 0 rfl) ?_
  refine lv_iconst (v := (-1)) hx hb dX5_bin_39 (by decide) ?_
  refine lv_icmp_ne (tgt := 48) hx hb dX5_bin_40 (by decide) (fun _ => ?_) (fun q => absurd q (nI_nm1 (Nat.lt_trans h_j (by decide))))
  refine lv_iload_n hx hb dX5_bin_48 rfl (lv_at hl 0 rfl) ?_
  exact x_iret hE hr hlocks hI rfl rfl rfl dX5_bin_49
set_option maxRecDepth 100000 in
set_option maxHeartbeats 4000000 in
theorem c_X5_mill_a (l : Launch) (G : GG) (o : Nat) (X : SX) (Y : SY) (v : Int32) (h : ¬ (v = 0 ∨ v = 1)) : Ct l yX5_mill cX5_mill 3 (some .int) 1 20 G o [.ref (o + 0), .int v] X Y (some (.int (-3))) X Y := by
  refine Ct.mk (by decide +kernel) (Nat.le_of_ble_eq_true rfl) rfl ?_
  intro p9 e9 s9 m9 args9 below9 meth9 c9 hE hr hlocks hK hI ls hl
  have hx := hE.1
  have hb := hE.2.1
  have hl : lv_has ls 3 [(0, .ref (o + 0)), (1, .int v)] := hl
  refine lv_iload_n hx hb dX5_mill_0 rfl (lv_at hl 1 rfl) ?_
  refine x_callSi hE hK hI (c_X5_isZeroOrOne l G o _ _ v ) mf_X5_isZeroOrOne mw_227 rfl hl.1 rfl (Nat.le_of_ble_eq_true rfl) ⟨(Nat.le_of_ble_eq_true rfl), (Nat.le_of_ble_eq_true rfl)⟩ ⟨Nat.zero_le _, Nat.zero_le _⟩ dX5_mill_1 (fun H locs hI => ?_)
  refine lv_topi (fun z1 ez1 => ?_)
  obtain rfl : 0 = z1 := (ez1.trans (bI_f h)).symm
  refine lv_if_ne (tgt := 10) hx hb dX5_mill_4 (by decide) (fun q => absurd (by decide) q) (fun _ => ?_)
  refine lv_bipush (v := (-3)) hx hb dX5_mill_7 (by decide) ?_
  exact x_iret hE hr hlocks hI rfl rfl rfl dX5_mill_9
set_option maxRecDepth 100000 in
set_option maxHeartbeats 4000000 in
theorem c_X5_mill_i0 (l : Launch) (G : GG) (o : Nat) (X : SX) (Y : SY) (hG : GrI X) (h : X 11 5 = (-1)) : Ct l yX5_mill cX5_mill 3 (some .int) 2 41 G o [.ref (o + 0), .int 0] X Y (some (.int (-7))) X Y := by
  refine Ct.mk (by decide +kernel) (Nat.le_of_ble_eq_true rfl) rfl ?_
  intro p9 e9 s9 m9 args9 below9 meth9 c9 hE hr hlocks hK hI ls hl
  have hx := hE.1
  have hb := hE.2.1
  have hl : lv_has ls 3 [(0, .ref (o + 0)), (1, .int 0)] := hl
  refine lv_iload_n hx hb dX5_mill_0 rfl (lv_at hl 1 rfl) ?_
  refine x_callSi hE hK hI (c_X5_isZeroOrOne l G o _ _ 0 ) mf_X5_isZeroOrOne mw_227 rfl hl.1 rfl (Nat.le_of_ble_eq_true rfl) ⟨(Nat.le_of_ble_eq_true rfl), (Nat.le_of_ble_eq_true rfl)⟩ ⟨Nat.zero_le _, Nat.zero_le _⟩ dX5_mill_1 (fun H locs hI => ?_)
  refine lv_topi (fun z1 ez1 => ?_)
  obtain rfl : 1 = z1 := (ez1.trans (bI_t (by decide))).symm
  refine lv_if_ne (tgt := 10) hx hb dX5_mill_4 (by decide) (fun _ => ?_) (fun q => absurd q (by decide))
  refine lv_aload_n hx hb dX5_mill_10 rfl (lv_at hl 0 rfl) ?_
  refine x_get (k := 0) hE hK hI (by decide) inG5 (e_0 G o _ _) rfl 0 (by decide) mw_172 rfl dX5_mill_11 ?_
  refine x_get (k := 1) hE hK hI (by decide) inG1 (e_1 G o _ _) rfl 1 (by decide) mw_141 rfl dX5_mill_14 ?_
  refine lv_astore_n (lv' := [(2, .ref (o + 11)), (0, .ref (o + 0)), (1, .int 0)]) hx hb dX5_mill_17 rfl hl (by decide) rfl (fun ls hl => ?_)
  refine lv_aload_n hx hb dX5_mill_18 rfl (lv_at hl 0 rfl) ?_
  refine x_callVi (k := 11) hE hK hI (c_X3_isIdle l G o _ _  hG) mf_X3_isIdle mw_418 (by decide) ((e_11 G o) _ _) rfl rfl hl.1 rfl (Nat.le_of_ble_eq_true rfl) ⟨(Nat.le_of_ble_eq_true rfl), (Nat.le_of_ble_eq_true rfl)⟩ ⟨Nat.zero_le _, Nat.zero_le _⟩ dX5_mill_19 (fun H locs hI => ?_)
  refine lv_topi (fun z2 ez2 => ?_)
  obtain rfl : 1 = z2 := (ez2.trans (bI_t h)).symm
  refine lv_if_eq (tgt := 28) hx hb dX5_mill_22 (by decide) (fun q => absurd q (by decide)) (fun _ => ?_)
  refine lv_bipush (v := (-7)) hx hb dX5_mill_25 (by decide) ?_
  exact x_iret hE hr hlocks hI rfl rfl rfl dX5_mill_27
set_option maxRecDepth 100000 in
set_option maxHeartbeats 4000000 in
theorem c_X5_mill_y0 (l : Launch) (G : GG) (o : Nat) (X : SX) (Y : SY) (hG : GrI X) (h : ¬ (X 11 5 = (-1))) : Ct l yX5_mill cX5_mill 3 (some .int) 2 41 G o [.ref (o + 0), .int 0] X Y (some (.int (X 11 5))) X Y := by
  refine Ct.mk (by decide +kernel) (Nat.le_of_ble_eq_true rfl) rfl ?_
  intro p9 e9 s9 m9 args9 below9 meth9 c9 hE hr hlocks hK hI ls hl
  have hx := hE.1
  have hb := hE.2.1
  have hl : lv_has ls 3 [(0, .ref (o + 0)), (1, .int 0)] := hl
  refine lv_iload_n hx hb dX5_mill_0 rfl (lv_at hl 1 rfl) ?_
  refine x_callSi hE hK hI (c_X5_isZeroOrOne l G o _ _ 0 ) mf_X5_isZeroOrOne mw_227 rfl hl.1 rfl (Nat.le_of_ble_eq_true rfl) ⟨(Nat.le_of_ble_eq_true rfl), (Nat.le_of_ble_eq_true rfl)⟩ ⟨Nat.zero_le _, Nat.zero_le _⟩ dX5_mill_1 (fun H locs hI => ?_)
  refine lv_topi (fun z1 ez1 => ?_)
  obtain rfl : 1 = z1 := (ez1.trans (bI_t (by decide))).symm
  refine lv_if_ne (tgt := 10) hx hb dX5_mill_4 (by decide) (fun _ => ?_) (fun q => absurd q (by decide))
  refine lv_aload_n hx hb dX5_mill_10 rfl (lv_at hl 0 rfl) ?_
  refine x_get (k := 0) hE hK hI (by decide) inG5 (e_0 G o _ _) rfl 0 (by decide) mw_172 rfl dX5_mill_11 ?_
  refine x_get (k := 1) hE hK hI (by decide) inG1 (e_1 G o _ _) rfl 1 (by decide) mw_141 rfl dX5_mill_14 ?_
  refine lv_astore_n (lv' := [(2, .ref (o + 11)), (0, .ref (o + 0)), (1, .int 0)]) hx hb dX5_mill_17 rfl hl (by decide) rfl (fun ls hl => ?_)
  refine lv_aload_n hx hb dX5_mill_18 rfl (lv_at hl 0 rfl) ?_
  refine x_callVi (k := 11) hE hK hI (c_X3_isIdle l G o _ _  hG) mf_X3_isIdle mw_418 (by decide) ((e_11 G o) _ _) rfl rfl hl.1 rfl (Nat.le_of_ble_eq_true rfl) ⟨(Nat.le_of_ble_eq_true rfl), (Nat.le_of_ble_eq_true rfl)⟩ ⟨Nat.zero_le _, Nat.zero_le _⟩ dX5_mill_19 (fun H locs hI => ?_)
  refine lv_topi (fun z2 ez2 => ?_)
  obtain rfl : 0 = z2 := (ez2.trans (bI_f h)).symm
  refine lv_if_eq (tgt := 28) hx hb dX5_mill_22 (by decide) (fun _ => ?_) (fun q => absurd (by decide) q)
  refine lv_iload_n hx hb dX5_mill_28 rfl (lv_at hl 2 rfl) ?_
  refine lv_if_ne (tgt := 39) hx hb dX5_mill_29 (by decide) (fun q => absurd (by decide) q) (fun _ => ?_)
  refine lv_aload_n hx hb dX5_mill_32 rfl (lv_at hl 0 rfl) ?_
  refine x_get (k := 11) hE hK hI (by decide) inG3 (e_11 G o _ _) rfl 5 (by decide) mw_112 rfl dX5_mill_33 ?_
  refine lv_goto (tgt := 48) hx hb dX5_mill_36 (by decide) ?_
  exact x_iret hE hr hlocks hI rfl rfl rfl dX5_mill_48
set_option maxRecDepth 100000 in
set_option maxHeartbeats 4000000 in
theorem c_X5_mill_i1 (l : Launch) (G : GG) (o : Nat) (X : SX) (Y : SY) (hG : GrI X) (h : X 11 5 = (-1)) : Ct l yX5_mill cX5_mill 3 (some .int) 2 41 G o [.ref (o + 0), .int 1] X Y (some (.int (-7))) X Y := by
  refine Ct.mk (by decide +kernel) (Nat.le_of_ble_eq_true rfl) rfl ?_
  intro p9 e9 s9 m9 args9 below9 meth9 c9 hE hr hlocks hK hI ls hl
  have hx := hE.1
  have hb := hE.2.1
  have hl : lv_has ls 3 [(0, .ref (o + 0)), (1, .int 1)] := hl
  refine lv_iload_n hx hb dX5_mill_0 rfl (lv_at hl 1 rfl) ?_
  refine x_callSi hE hK hI (c_X5_isZeroOrOne l G o _ _ 1 ) mf_X5_isZeroOrOne mw_227 rfl hl.1 rfl (Nat.le_of_ble_eq_true rfl) ⟨(Nat.le_of_ble_eq_true rfl), (Nat.le_of_ble_eq_true rfl)⟩ ⟨Nat.zero_le _, Nat.zero_le _⟩ dX5_mill_1 (fun H locs hI => ?_)
  refine lv_topi (fun z1 ez1 => ?_)
  obtain rfl : 1 = z1 := (ez1.trans (bI_t (by decide))).symm
  refine lv_if_ne (tgt := 10) hx hb dX5_mill_4 (by decide) (fun _ => ?_) (fun q => absurd q (by decide))
  refine lv_aload_n hx hb dX5_mill_10 rfl (lv_at hl 0 rfl) ?_
  refine x_get (k := 0) hE hK hI (by decide) inG5 (e_0 G o _ _) rfl 0 (by decide) mw_172 rfl dX5_mill_11 ?_
  refine x_get (k := 1) hE hK hI (by decide) inG1 (e_1 G o _ _) rfl 1 (by decide) mw_141 rfl dX5_mill_14 ?_
  refine lv_astore_n (lv' := [(2, .ref (o + 11)), (0, .ref (o + 0)), (1, .int 1)]) hx hb dX5_mill_17 rfl hl (by decide) rfl (fun ls hl => ?_)
  refine lv_aload_n hx hb dX5_mill_18 rfl (lv_at hl 0 rfl) ?_
  refine x_callVi (k := 11) hE hK hI (c_X3_isIdle l G o _ _  hG) mf_X3_isIdle mw_418 (by decide) ((e_11 G o) _ _) rfl rfl hl.1 rfl (Nat.le_of_ble_eq_true rfl) ⟨(Nat.le_of_ble_eq_true rfl), (Nat.le_of_ble_eq_true rfl)⟩ ⟨Nat.zero_le _, Nat.zero_le _⟩ dX5_mill_19 (fun H locs hI => ?_)
  refine lv_topi (fun z2 ez2 => ?_)
  obtain rfl : 1 = z2 := (ez2.trans (bI_t h)).symm
  refine lv_if_eq (tgt := 28) hx hb dX5_mill_22 (by decide) (fun q => absurd q (by decide)) (fun _ => ?_)
  refine lv_bipush (v := (-7)) hx hb dX5_mill_25 (by decide) ?_
  exact x_iret hE hr hlocks hI rfl rfl rfl dX5_mill_27
set_option maxRecDepth 100000 in
set_option maxHeartbeats 4000000 in
theorem c_X5_mill_y1 (l : Launch) (G : GG) (o : Nat) (X : SX) (Y : SY) (hG : GrI X) (h : ¬ (X 11 5 = (-1))) : Ct l yX5_mill cX5_mill 3 (some .int) 2 41 G o [.ref (o + 0), .int 1] X Y (some (.int ((X 11 6) - (X 11 3)))) X Y := by
  refine Ct.mk (by decide +kernel) (Nat.le_of_ble_eq_true rfl) rfl ?_
  intro p9 e9 s9 m9 args9 below9 meth9 c9 hE hr hlocks hK hI ls hl
  have hx := hE.1
  have hb := hE.2.1
  have hl : lv_has ls 3 [(0, .ref (o + 0)), (1, .int 1)] := hl
  refine lv_iload_n hx hb dX5_mill_0 rfl (lv_at hl 1 rfl) ?_
  refine x_callSi hE hK hI (c_X5_isZeroOrOne l G o _ _ 1 ) mf_X5_isZeroOrOne mw_227 rfl hl.1 rfl (Nat.le_of_ble_eq_true rfl) ⟨(Nat.le_of_ble_eq_true rfl), (Nat.le_of_ble_eq_true rfl)⟩ ⟨Nat.zero_le _, Nat.zero_le _⟩ dX5_mill_1 (fun H locs hI => ?_)
  refine lv_topi (fun z1 ez1 => ?_)
  obtain rfl : 1 = z1 := (ez1.trans (bI_t (by decide))).symm
  refine lv_if_ne (tgt := 10) hx hb dX5_mill_4 (by decide) (fun _ => ?_) (fun q => absurd q (by decide))
  refine lv_aload_n hx hb dX5_mill_10 rfl (lv_at hl 0 rfl) ?_
  refine x_get (k := 0) hE hK hI (by decide) inG5 (e_0 G o _ _) rfl 0 (by decide) mw_172 rfl dX5_mill_11 ?_
  refine x_get (k := 1) hE hK hI (by decide) inG1 (e_1 G o _ _) rfl 1 (by decide) mw_141 rfl dX5_mill_14 ?_
  refine lv_astore_n (lv' := [(2, .ref (o + 11)), (0, .ref (o + 0)), (1, .int 1)]) hx hb dX5_mill_17 rfl hl (by decide) rfl (fun ls hl => ?_)
  refine lv_aload_n hx hb dX5_mill_18 rfl (lv_at hl 0 rfl) ?_
  refine x_callVi (k := 11) hE hK hI (c_X3_isIdle l G o _ _  hG) mf_X3_isIdle mw_418 (by decide) ((e_11 G o) _ _) rfl rfl hl.1 rfl (Nat.le_of_ble_eq_true rfl) ⟨(Nat.le_of_ble_eq_true rfl), (Nat.le_of_ble_eq_true rfl)⟩ ⟨Nat.zero_le _, Nat.zero_le _⟩ dX5_mill_19 (fun H locs hI => ?_)
  refine lv_topi (fun z2 ez2 => ?_)
  obtain rfl : 0 = z2 := (ez2.trans (bI_f h)).symm
  refine lv_if_eq (tgt := 28) hx hb dX5_mill_22 (by decide) (fun _ => ?_) (fun q => absurd (by decide) q)
  refine lv_iload_n hx hb dX5_mill_28 rfl (lv_at hl 2 rfl) ?_
  refine lv_if_ne (tgt := 39) hx hb dX5_mill_29 (by decide) (fun _ => ?_) (fun q => absurd q (by decide))
  refine lv_aload_n hx hb dX5_mill_39 rfl (lv_at hl 0 rfl) ?_
  refine x_get (k := 11) hE hK hI (by decide) inG3 (e_11 G o _ _) rfl 6 (by decide) mw_114 rfl dX5_mill_40 ?_
  refine lv_aload_n hx hb dX5_mill_43 rfl (lv_at hl 0 rfl) ?_
  refine x_get (k := 11) hE hK hI (by decide) inG3 (e_11 G o _ _) rfl 3 (by decide) mw_109 rfl dX5_mill_44 ?_
  refine lv_isub hx hb dX5_mill_47 ?_
  exact x_iret hE hr hlocks hI rfl rfl rfl dX5_mill_48
set_option maxRecDepth 100000 in
set_option maxHeartbeats 4000000 in
theorem c_X5_state_a (l : Launch) (G : GG) (o : Nat) (X : SX) (Y : SY) (u : Int32) (h : ¬ (0 ≤ u ∧ u < X 11 2)) : Ct l yX5_state cX5_state 2 (some .int) 1 21 G o [.ref (o + 0), .int u] X Y (some (.int (-2))) X Y := by
  refine Ct.mk (by decide +kernel) (Nat.le_of_ble_eq_true rfl) rfl ?_
  intro p9 e9 s9 m9 args9 below9 meth9 c9 hE hr hlocks hK hI ls hl
  have hx := hE.1
  have hb := hE.2.1
  have hl : lv_has ls 2 [(0, .ref (o + 0)), (1, .int u)] := hl
  refine lv_aload_n hx hb dX5_state_0 rfl (lv_at hl 0 rfl) ?_
  refine x_get (k := 0) hE hK hI (by decide) inG5 (e_0 G o _ _) rfl 0 (by decide) mw_172 rfl dX5_state_1 ?_
  refine x_get (k := 1) hE hK hI (by decide) inG1 (e_1 G o _ _) rfl 1 (by decide) mw_141 rfl dX5_state_4 ?_
  refine lv_iload_n hx hb dX5_state_7 rfl (lv_at hl 1 rfl) ?_
  refine x_callVi (k := 11) hE hK hI (c_X3_hasLot l G o _ _ u ) mf_X3_hasLot mw_307 (by decide) ((e_11 G o) _ _) rfl rfl hl.1 rfl (Nat.le_of_ble_eq_true rfl) ⟨(Nat.le_of_ble_eq_true rfl), (Nat.le_of_ble_eq_true rfl)⟩ ⟨Nat.zero_le _, Nat.zero_le _⟩ dX5_state_8 (fun H locs hI => ?_)
  refine lv_topi (fun z1 ez1 => ?_)
  obtain rfl : 0 = z1 := (ez1.trans (bI_f h)).symm
  refine lv_if_ne (tgt := 17) hx hb dX5_state_11 (by decide) (fun q => absurd (by decide) q) (fun _ => ?_)
  refine lv_bipush (v := (-2)) hx hb dX5_state_14 (by decide) ?_
  exact x_iret hE hr hlocks hI rfl rfl rfl dX5_state_16
set_option maxRecDepth 100000 in
set_option maxHeartbeats 4000000 in
theorem c_X5_state_y (l : Launch) (G : GG) (o : Nat) (X : SX) (Y : SY) (i : Nat) (h_i : i < 40) (h : 0 ≤ nI i ∧ nI i < X 11 2) : Ct l yX5_state cX5_state 2 (some .int) 1 21 G o [.ref (o + 0), .int (nI i)] X Y (some (.int (X (14 + 2 * i) 1))) X Y := by
  refine Ct.mk (by decide +kernel) (Nat.le_of_ble_eq_true rfl) rfl ?_
  intro p9 e9 s9 m9 args9 below9 meth9 c9 hE hr hlocks hK hI ls hl
  have hx := hE.1
  have hb := hE.2.1
  have hl : lv_has ls 2 [(0, .ref (o + 0)), (1, .int (nI i))] := hl
  refine lv_aload_n hx hb dX5_state_0 rfl (lv_at hl 0 rfl) ?_
  refine x_get (k := 0) hE hK hI (by decide) inG5 (e_0 G o _ _) rfl 0 (by decide) mw_172 rfl dX5_state_1 ?_
  refine x_get (k := 1) hE hK hI (by decide) inG1 (e_1 G o _ _) rfl 1 (by decide) mw_141 rfl dX5_state_4 ?_
  refine lv_iload_n hx hb dX5_state_7 rfl (lv_at hl 1 rfl) ?_
  refine x_callVi (k := 11) hE hK hI (c_X3_hasLot l G o _ _ (nI i) ) mf_X3_hasLot mw_307 (by decide) ((e_11 G o) _ _) rfl rfl hl.1 rfl (Nat.le_of_ble_eq_true rfl) ⟨(Nat.le_of_ble_eq_true rfl), (Nat.le_of_ble_eq_true rfl)⟩ ⟨Nat.zero_le _, Nat.zero_le _⟩ dX5_state_8 (fun H locs hI => ?_)
  refine lv_topi (fun z1 ez1 => ?_)
  obtain rfl : 1 = z1 := (ez1.trans (bI_t h)).symm
  refine lv_if_ne (tgt := 17) hx hb dX5_state_11 (by decide) (fun _ => ?_) (fun q => absurd q (by decide))
  refine lv_aload_n hx hb dX5_state_17 rfl (lv_at hl 0 rfl) ?_
  refine x_get (k := 0) hE hK hI (by decide) inG5 (e_0 G o _ _) rfl 0 (by decide) mw_172 rfl dX5_state_18 ?_
  refine x_get (k := 1) hE hK hI (by decide) inG1 (e_1 G o _ _) rfl 1 (by decide) mw_141 rfl dX5_state_21 ?_
  refine x_get (k := 11) hE hK hI (by decide) inG3 (e_11 G o _ _) rfl 0 (by decide) mw_103 rfl dX5_state_24 ?_
  refine lv_iload_n hx hb dX5_state_27 rfl (lv_at hl 1 rfl) ?_
  refine x_aald (k := 12) (j := i) (t0 := 3) (q := o + (14 + 2 * i)) hE hK hI (by decide) (e_12 G o) rfl rfl h_i (by decide) rfl (ql_14 h_i) dX5_state_28 ?_
  refine x_get (k := (14 + 2 * i)) hE hK hI (by have := h_i; omega) inG0 (el_14 G o h_i _ _) rfl 1 (by decide) mw_83 rfl dX5_state_29 ?_
  exact x_iret hE hr hlocks hI rfl rfl rfl dX5_state_32
set_option maxRecDepth 100000 in
set_option maxHeartbeats 4000000 in
theorem c_X5_passes_a (l : Launch) (G : GG) (o : Nat) (X : SX) (Y : SY) (u : Int32) (h : ¬ (0 ≤ u ∧ u < X 11 2)) : Ct l yX5_passes cX5_passes 2 (some .int) 1 21 G o [.ref (o + 0), .int u] X Y (some (.int (-2))) X Y := by
  refine Ct.mk (by decide +kernel) (Nat.le_of_ble_eq_true rfl) rfl ?_
  intro p9 e9 s9 m9 args9 below9 meth9 c9 hE hr hlocks hK hI ls hl
  have hx := hE.1
  have hb := hE.2.1
  have hl : lv_has ls 2 [(0, .ref (o + 0)), (1, .int u)] := hl
  refine lv_aload_n hx hb dX5_passes_0 rfl (lv_at hl 0 rfl) ?_
  refine x_get (k := 0) hE hK hI (by decide) inG5 (e_0 G o _ _) rfl 0 (by decide) mw_172 rfl dX5_passes_1 ?_
  refine x_get (k := 1) hE hK hI (by decide) inG1 (e_1 G o _ _) rfl 1 (by decide) mw_141 rfl dX5_passes_4 ?_
  refine lv_iload_n hx hb dX5_passes_7 rfl (lv_at hl 1 rfl) ?_
  refine x_callVi (k := 11) hE hK hI (c_X3_hasLot l G o _ _ u ) mf_X3_hasLot mw_307 (by decide) ((e_11 G o) _ _) rfl rfl hl.1 rfl (Nat.le_of_ble_eq_true rfl) ⟨(Nat.le_of_ble_eq_true rfl), (Nat.le_of_ble_eq_true rfl)⟩ ⟨Nat.zero_le _, Nat.zero_le _⟩ dX5_passes_8 (fun H locs hI => ?_)
  refine lv_topi (fun z1 ez1 => ?_)
  obtain rfl : 0 = z1 := (ez1.trans (bI_f h)).symm
  refine lv_if_ne (tgt := 17) hx hb dX5_passes_11 (by decide) (fun q => absurd (by decide) q) (fun _ => ?_)
  refine lv_bipush (v := (-2)) hx hb dX5_passes_14 (by decide) ?_
  exact x_iret hE hr hlocks hI rfl rfl rfl dX5_passes_16
set_option maxRecDepth 100000 in
set_option maxHeartbeats 4000000 in
theorem c_X5_passes_y (l : Launch) (G : GG) (o : Nat) (X : SX) (Y : SY) (i : Nat) (h_i : i < 40) (h : 0 ≤ nI i ∧ nI i < X 11 2) : Ct l yX5_passes cX5_passes 2 (some .int) 1 21 G o [.ref (o + 0), .int (nI i)] X Y (some (.int (X (14 + 2 * i) 4))) X Y := by
  refine Ct.mk (by decide +kernel) (Nat.le_of_ble_eq_true rfl) rfl ?_
  intro p9 e9 s9 m9 args9 below9 meth9 c9 hE hr hlocks hK hI ls hl
  have hx := hE.1
  have hb := hE.2.1
  have hl : lv_has ls 2 [(0, .ref (o + 0)), (1, .int (nI i))] := hl
  refine lv_aload_n hx hb dX5_passes_0 rfl (lv_at hl 0 rfl) ?_
  refine x_get (k := 0) hE hK hI (by decide) inG5 (e_0 G o _ _) rfl 0 (by decide) mw_172 rfl dX5_passes_1 ?_
  refine x_get (k := 1) hE hK hI (by decide) inG1 (e_1 G o _ _) rfl 1 (by decide) mw_141 rfl dX5_passes_4 ?_
  refine lv_iload_n hx hb dX5_passes_7 rfl (lv_at hl 1 rfl) ?_
  refine x_callVi (k := 11) hE hK hI (c_X3_hasLot l G o _ _ (nI i) ) mf_X3_hasLot mw_307 (by decide) ((e_11 G o) _ _) rfl rfl hl.1 rfl (Nat.le_of_ble_eq_true rfl) ⟨(Nat.le_of_ble_eq_true rfl), (Nat.le_of_ble_eq_true rfl)⟩ ⟨Nat.zero_le _, Nat.zero_le _⟩ dX5_passes_8 (fun H locs hI => ?_)
  refine lv_topi (fun z1 ez1 => ?_)
  obtain rfl : 1 = z1 := (ez1.trans (bI_t h)).symm
  refine lv_if_ne (tgt := 17) hx hb dX5_passes_11 (by decide) (fun _ => ?_) (fun q => absurd q (by decide))
  refine lv_aload_n hx hb dX5_passes_17 rfl (lv_at hl 0 rfl) ?_
  refine x_get (k := 0) hE hK hI (by decide) inG5 (e_0 G o _ _) rfl 0 (by decide) mw_172 rfl dX5_passes_18 ?_
  refine x_get (k := 1) hE hK hI (by decide) inG1 (e_1 G o _ _) rfl 1 (by decide) mw_141 rfl dX5_passes_21 ?_
  refine x_get (k := 11) hE hK hI (by decide) inG3 (e_11 G o _ _) rfl 0 (by decide) mw_103 rfl dX5_passes_24 ?_
  refine lv_iload_n hx hb dX5_passes_27 rfl (lv_at hl 1 rfl) ?_
  refine x_aald (k := 12) (j := i) (t0 := 3) (q := o + (14 + 2 * i)) hE hK hI (by decide) (e_12 G o) rfl rfl h_i (by decide) rfl (ql_14 h_i) dX5_passes_28 ?_
  refine x_get (k := (14 + 2 * i)) hE hK hI (by have := h_i; omega) inG0 (el_14 G o h_i _ _) rfl 4 (by decide) mw_90 rfl dX5_passes_29 ?_
  exact x_iret hE hr hlocks hI rfl rfl rfl dX5_passes_32
set_option maxRecDepth 100000 in
set_option maxHeartbeats 4000000 in
theorem c_X5_sizeOrAll_m (l : Launch) (G : GG) (o : Nat) (X : SX) (Y : SY) (k : Nat) (hs : ∀ (f : Nat → Int32) (g : Nat → Int64), shp G o k f g = .inl (G.2 0, 4, .inl f)) (hk : k < 292) : Ct l yX5_sizeOrAll cX5_sizeOrAll 2 (some .int) 1 25 G o [.ref (o + k), .int (-1)] X Y (some (.int (sum4 (X k)))) X Y := by
  refine Ct.mk (by decide +kernel) (Nat.le_of_ble_eq_true rfl) rfl ?_
  intro p9 e9 s9 m9 args9 below9 meth9 c9 hE hr hlocks hK hI ls hl
  have hx := hE.1
  have hb := hE.2.1
  have hl : lv_has ls 2 [(0, .ref (o + k)), (1, .int (-1))] := hl
  refine lv_iload_n hx hb dX5_sizeOrAll_0 rfl (lv_at hl 1 rfl) ?_
  refine lv_iconst (v := (-1)) hx hb dX5_sizeOrAll_1 (by decide) ?_
  refine lv_icmp_ne (tgt := 10) hx hb dX5_sizeOrAll_2 (by decide) (fun q => absurd (by decide) q) (fun _ => ?_)
  refine lv_aload_n hx hb dX5_sizeOrAll_5 rfl (lv_at hl 0 rfl) ?_
  refine x_callSi hE hK hI (c_X5_sum l G o _ _ k hs hk) mf_X5_sum mw_263 rfl hl.1 rfl (Nat.le_of_ble_eq_true rfl) ⟨(Nat.le_of_ble_eq_true rfl), (Nat.le_of_ble_eq_true rfl)⟩ ⟨Nat.zero_le _, Nat.zero_le _⟩ dX5_sizeOrAll_6 (fun H locs hI => ?_)
  exact x_iret hE hr hlocks hI rfl rfl rfl dX5_sizeOrAll_9
set_option maxRecDepth 100000 in
set_option maxHeartbeats 4000000 in
theorem c_X5_sizeOrAll_y (l : Launch) (G : GG) (o : Nat) (X : SX) (Y : SY) (k : Nat) (t : Nat) (hs : ∀ (f : Nat → Int32) (g : Nat → Int64), shp G o k f g = .inl (G.2 0, 4, .inl f)) (hk : k < 292) (h0 : t < 4) (h1 : Wi (nI t) 0 3) (h2 : ¬ (nI t = (-1))) : Ct l yX5_sizeOrAll cX5_sizeOrAll 2 (some .int) 2 42 G o [.ref (o + k), .int (nI t)] X Y (some (.int (X k t))) X Y := by
  refine Ct.mk (by decide +kernel) (Nat.le_of_ble_eq_true rfl) rfl ?_
  intro p9 e9 s9 m9 args9 below9 meth9 c9 hE hr hlocks hK hI ls hl
  have hx := hE.1
  have hb := hE.2.1
  have hl : lv_has ls 2 [(0, .ref (o + k)), (1, .int (nI t))] := hl
  refine lv_iload_n hx hb dX5_sizeOrAll_0 rfl (lv_at hl 1 rfl) ?_
  refine lv_iconst (v := (-1)) hx hb dX5_sizeOrAll_1 (by decide) ?_
  refine lv_icmp_ne (tgt := 10) hx hb dX5_sizeOrAll_2 (by decide) (fun _ => ?_) (fun q => absurd q h2)
  refine lv_iload_n hx hb dX5_sizeOrAll_10 rfl (lv_at hl 1 rfl) ?_
  refine x_callSi hE hK hI (c_X5_isSize l G o _ _ (nI t) ) mf_X5_isSize mw_189 rfl hl.1 rfl (Nat.le_of_ble_eq_true rfl) ⟨(Nat.le_of_ble_eq_true rfl), (Nat.le_of_ble_eq_true rfl)⟩ ⟨Nat.zero_le _, Nat.zero_le _⟩ dX5_sizeOrAll_11 (fun H locs hI => ?_)
  refine lv_topi (fun z1 ez1 => ?_)
  obtain rfl : 1 = z1 := (ez1.trans (bI_t h1)).symm
  refine lv_if_eq (tgt := 23) hx hb dX5_sizeOrAll_14 (by decide) (fun q => absurd q (by decide)) (fun _ => ?_)
  refine lv_aload_n hx hb dX5_sizeOrAll_17 rfl (lv_at hl 0 rfl) ?_
  refine lv_iload_n hx hb dX5_sizeOrAll_18 rfl (lv_at hl 1 rfl) ?_
  refine x_iald (k := k) (j := t) hE hK hI hk hs h0 (by decide) rfl dX5_sizeOrAll_19 ?_
  refine lv_goto (tgt := 24) hx hb dX5_sizeOrAll_20 (by decide) ?_
  exact x_iret hE hr hlocks hI rfl rfl rfl dX5_sizeOrAll_24
set_option maxRecDepth 100000 in
set_option maxHeartbeats 4000000 in
theorem c_X5_sizeOrAll_a (l : Launch) (G : GG) (o : Nat) (X : SX) (Y : SY) (k : Nat) (v : Int32) (hs : ∀ (f : Nat → Int32) (g : Nat → Int64), shp G o k f g = .inl (G.2 0, 4, .inl f)) (hk : k < 292) (h1 : ¬ (Wi v 0 3)) (h2 : ¬ (v = (-1))) : Ct l yX5_sizeOrAll cX5_sizeOrAll 2 (some .int) 2 42 G o [.ref (o + k), .int v] X Y (some (.int (-1))) X Y := by
  refine Ct.mk (by decide +kernel) (Nat.le_of_ble_eq_true rfl) rfl ?_
  intro p9 e9 s9 m9 args9 below9 meth9 c9 hE hr hlocks hK hI ls hl
  have hx := hE.1
  have hb := hE.2.1
  have hl : lv_has ls 2 [(0, .ref (o + k)), (1, .int v)] := hl
  refine lv_iload_n hx hb dX5_sizeOrAll_0 rfl (lv_at hl 1 rfl) ?_
  refine lv_iconst (v := (-1)) hx hb dX5_sizeOrAll_1 (by decide) ?_
  refine lv_icmp_ne (tgt := 10) hx hb dX5_sizeOrAll_2 (by decide) (fun _ => ?_) (fun q => absurd q h2)
  refine lv_iload_n hx hb dX5_sizeOrAll_10 rfl (lv_at hl 1 rfl) ?_
  refine x_callSi hE hK hI (c_X5_isSize l G o _ _ v ) mf_X5_isSize mw_189 rfl hl.1 rfl (Nat.le_of_ble_eq_true rfl) ⟨(Nat.le_of_ble_eq_true rfl), (Nat.le_of_ble_eq_true rfl)⟩ ⟨Nat.zero_le _, Nat.zero_le _⟩ dX5_sizeOrAll_11 (fun H locs hI => ?_)
  refine lv_topi (fun z1 ez1 => ?_)
  obtain rfl : 0 = z1 := (ez1.trans (bI_f h1)).symm
  refine lv_if_eq (tgt := 23) hx hb dX5_sizeOrAll_14 (by decide) (fun _ => ?_) (fun q => absurd (by decide) q)
  refine lv_iconst (v := (-1)) hx hb dX5_sizeOrAll_23 (by decide) ?_
  exact x_iret hE hr hlocks hI rfl rfl rfl dX5_sizeOrAll_24
set_option maxRecDepth 100000 in
set_option maxHeartbeats 4000000 in
theorem c_X5_mass_a (l : Launch) (G : GG) (o : Nat) (X : SX) (Y : SY) (u : Int32) (v : Int32) (h : ¬ (0 ≤ u ∧ u < X 11 2)) : Ct l yX5_mass cX5_mass 3 (some .int) 1 21 G o [.ref (o + 0), .int u, .int v] X Y (some (.int (-2))) X Y := by
  refine Ct.mk (by decide +kernel) (Nat.le_of_ble_eq_true rfl) rfl ?_
  intro p9 e9 s9 m9 args9 below9 meth9 c9 hE hr hlocks hK hI ls hl
  have hx := hE.1
  have hb := hE.2.1
  have hl : lv_has ls 3 [(0, .ref (o + 0)), (1, .int u), (2, .int v)] := hl
  refine lv_aload_n hx hb dX5_mass_0 rfl (lv_at hl 0 rfl) ?_
  refine x_get (k := 0) hE hK hI (by decide) inG5 (e_0 G o _ _) rfl 0 (by decide) mw_172 rfl dX5_mass_1 ?_
  refine x_get (k := 1) hE hK hI (by decide) inG1 (e_1 G o _ _) rfl 1 (by decide) mw_141 rfl dX5_mass_4 ?_
  refine lv_iload_n hx hb dX5_mass_7 rfl (lv_at hl 1 rfl) ?_
  refine x_callVi (k := 11) hE hK hI (c_X3_hasLot l G o _ _ u ) mf_X3_hasLot mw_307 (by decide) ((e_11 G o) _ _) rfl rfl hl.1 rfl (Nat.le_of_ble_eq_true rfl) ⟨(Nat.le_of_ble_eq_true rfl), (Nat.le_of_ble_eq_true rfl)⟩ ⟨Nat.zero_le _, Nat.zero_le _⟩ dX5_mass_8 (fun H locs hI => ?_)
  refine lv_topi (fun z1 ez1 => ?_)
  obtain rfl : 0 = z1 := (ez1.trans (bI_f h)).symm
  refine lv_if_ne (tgt := 17) hx hb dX5_mass_11 (by decide) (fun q => absurd (by decide) q) (fun _ => ?_)
  refine lv_bipush (v := (-2)) hx hb dX5_mass_14 (by decide) ?_
  exact x_iret hE hr hlocks hI rfl rfl rfl dX5_mass_16
set_option maxRecDepth 100000 in
set_option maxHeartbeats 4000000 in
theorem c_X5_mass_m (l : Launch) (G : GG) (o : Nat) (X : SX) (Y : SY) (i : Nat) (h_i : i < 40) (h : 0 ≤ nI i ∧ nI i < X 11 2) : Ct l yX5_mass cX5_mass 3 (some .int) 2 46 G o [.ref (o + 0), .int (nI i), .int (-1)] X Y (some (.int (sum4 (X (15 + 2 * i))))) X Y := by
  refine Ct.mk (by decide +kernel) (Nat.le_of_ble_eq_true rfl) rfl ?_
  intro p9 e9 s9 m9 args9 below9 meth9 c9 hE hr hlocks hK hI ls hl
  have hx := hE.1
  have hb := hE.2.1
  have hl : lv_has ls 3 [(0, .ref (o + 0)), (1, .int (nI i)), (2, .int (-1))] := hl
  refine lv_aload_n hx hb dX5_mass_0 rfl (lv_at hl 0 rfl) ?_
  refine x_get (k := 0) hE hK hI (by decide) inG5 (e_0 G o _ _) rfl 0 (by decide) mw_172 rfl dX5_mass_1 ?_
  refine x_get (k := 1) hE hK hI (by decide) inG1 (e_1 G o _ _) rfl 1 (by decide) mw_141 rfl dX5_mass_4 ?_
  refine lv_iload_n hx hb dX5_mass_7 rfl (lv_at hl 1 rfl) ?_
  refine x_callVi (k := 11) hE hK hI (c_X3_hasLot l G o _ _ (nI i) ) mf_X3_hasLot mw_307 (by decide) ((e_11 G o) _ _) rfl rfl hl.1 rfl (Nat.le_of_ble_eq_true rfl) ⟨(Nat.le_of_ble_eq_true rfl), (Nat.le_of_ble_eq_true rfl)⟩ ⟨Nat.zero_le _, Nat.zero_le _⟩ dX5_mass_8 (fun H locs hI => ?_)
  refine lv_topi (fun z1 ez1 => ?_)
  obtain rfl : 1 = z1 := (ez1.trans (bI_t h)).symm
  refine lv_if_ne (tgt := 17) hx hb dX5_mass_11 (by decide) (fun _ => ?_) (fun q => absurd q (by decide))
  refine lv_aload_n hx hb dX5_mass_17 rfl (lv_at hl 0 rfl) ?_
  refine x_get (k := 0) hE hK hI (by decide) inG5 (e_0 G o _ _) rfl 0 (by decide) mw_172 rfl dX5_mass_18 ?_
  refine x_get (k := 1) hE hK hI (by decide) inG1 (e_1 G o _ _) rfl 1 (by decide) mw_141 rfl dX5_mass_21 ?_
  refine x_get (k := 11) hE hK hI (by decide) inG3 (e_11 G o _ _) rfl 0 (by decide) mw_103 rfl dX5_mass_24 ?_
  refine lv_iload_n hx hb dX5_mass_27 rfl (lv_at hl 1 rfl) ?_
  refine x_aald (k := 12) (j := i) (t0 := 3) (q := o + (14 + 2 * i)) hE hK hI (by decide) (e_12 G o) rfl rfl h_i (by decide) rfl (ql_14 h_i) dX5_mass_28 ?_
  refine x_get (k := (14 + 2 * i)) hE hK hI (by have := h_i; omega) inG0 (el_14 G o h_i _ _) rfl 0 (by decide) mw_80 rfl dX5_mass_29 ?_
  refine lv_iload_n hx hb dX5_mass_32 rfl (lv_at hl 2 rfl) ?_
  refine x_callSi hE hK hI (c_X5_sizeOrAll_m l G o _ _ (15 + 2 * i) (em_14 G o h_i) (by have := h_i; omega)) mf_X5_sizeOrAll mw_427 rfl hl.1 rfl (Nat.le_of_ble_eq_true rfl) ⟨(Nat.le_of_ble_eq_true rfl), (Nat.le_of_ble_eq_true rfl)⟩ ⟨Nat.zero_le _, Nat.zero_le _⟩ dX5_mass_33 (fun H locs hI => ?_)
  exact x_iret hE hr hlocks hI rfl rfl rfl dX5_mass_36
set_option maxRecDepth 100000 in
set_option maxHeartbeats 4000000 in
theorem c_X5_mass_y (l : Launch) (G : GG) (o : Nat) (X : SX) (Y : SY) (i : Nat) (t : Nat) (h_i : i < 40) (h : 0 ≤ nI i ∧ nI i < X 11 2) (h0 : t < 4) (h1 : Wi (nI t) 0 3) (h2 : ¬ (nI t = (-1))) : Ct l yX5_mass cX5_mass 3 (some .int) 3 63 G o [.ref (o + 0), .int (nI i), .int (nI t)] X Y (some (.int (X (15 + 2 * i) t))) X Y := by
  refine Ct.mk (by decide +kernel) (Nat.le_of_ble_eq_true rfl) rfl ?_
  intro p9 e9 s9 m9 args9 below9 meth9 c9 hE hr hlocks hK hI ls hl
  have hx := hE.1
  have hb := hE.2.1
  have hl : lv_has ls 3 [(0, .ref (o + 0)), (1, .int (nI i)), (2, .int (nI t))] := hl
  refine lv_aload_n hx hb dX5_mass_0 rfl (lv_at hl 0 rfl) ?_
  refine x_get (k := 0) hE hK hI (by decide) inG5 (e_0 G o _ _) rfl 0 (by decide) mw_172 rfl dX5_mass_1 ?_
  refine x_get (k := 1) hE hK hI (by decide) inG1 (e_1 G o _ _) rfl 1 (by decide) mw_141 rfl dX5_mass_4 ?_
  refine lv_iload_n hx hb dX5_mass_7 rfl (lv_at hl 1 rfl) ?_
  refine x_callVi (k := 11) hE hK hI (c_X3_hasLot l G o _ _ (nI i) ) mf_X3_hasLot mw_307 (by decide) ((e_11 G o) _ _) rfl rfl hl.1 rfl (Nat.le_of_ble_eq_true rfl) ⟨(Nat.le_of_ble_eq_true rfl), (Nat.le_of_ble_eq_true rfl)⟩ ⟨Nat.zero_le _, Nat.zero_le _⟩ dX5_mass_8 (fun H locs hI => ?_)
  refine lv_topi (fun z1 ez1 => ?_)
  obtain rfl : 1 = z1 := (ez1.trans (bI_t h)).symm
  refine lv_if_ne (tgt := 17) hx hb dX5_mass_11 (by decide) (fun _ => ?_) (fun q => absurd q (by decide))
  refine lv_aload_n hx hb dX5_mass_17 rfl (lv_at hl 0 rfl) ?_
  refine x_get (k := 0) hE hK hI (by decide) inG5 (e_0 G o _ _) rfl 0 (by decide) mw_172 rfl dX5_mass_18 ?_
  refine x_get (k := 1) hE hK hI (by decide) inG1 (e_1 G o _ _) rfl 1 (by decide) mw_141 rfl dX5_mass_21 ?_
  refine x_get (k := 11) hE hK hI (by decide) inG3 (e_11 G o _ _) rfl 0 (by decide) mw_103 rfl dX5_mass_24 ?_
  refine lv_iload_n hx hb dX5_mass_27 rfl (lv_at hl 1 rfl) ?_
  refine x_aald (k := 12) (j := i) (t0 := 3) (q := o + (14 + 2 * i)) hE hK hI (by decide) (e_12 G o) rfl rfl h_i (by decide) rfl (ql_14 h_i) dX5_mass_28 ?_
  refine x_get (k := (14 + 2 * i)) hE hK hI (by have := h_i; omega) inG0 (el_14 G o h_i _ _) rfl 0 (by decide) mw_80 rfl dX5_mass_29 ?_
  refine lv_iload_n hx hb dX5_mass_32 rfl (lv_at hl 2 rfl) ?_
  refine x_callSi hE hK hI (c_X5_sizeOrAll_y l G o _ _ (15 + 2 * i) t (em_14 G o h_i) (by have := h_i; omega) h0 h1 h2) mf_X5_sizeOrAll mw_427 rfl hl.1 rfl (Nat.le_of_ble_eq_true rfl) ⟨(Nat.le_of_ble_eq_true rfl), (Nat.le_of_ble_eq_true rfl)⟩ ⟨Nat.zero_le _, Nat.zero_le _⟩ dX5_mass_33 (fun H locs hI => ?_)
  exact x_iret hE hr hlocks hI rfl rfl rfl dX5_mass_36
set_option maxRecDepth 100000 in
set_option maxHeartbeats 4000000 in
theorem c_X5_mass_s (l : Launch) (G : GG) (o : Nat) (X : SX) (Y : SY) (i : Nat) (v : Int32) (h_i : i < 40) (h : 0 ≤ nI i ∧ nI i < X 11 2) (h1 : ¬ (Wi v 0 3)) (h2 : ¬ (v = (-1))) : Ct l yX5_mass cX5_mass 3 (some .int) 3 63 G o [.ref (o + 0), .int (nI i), .int v] X Y (some (.int (-1))) X Y := by
  refine Ct.mk (by decide +kernel) (Nat.le_of_ble_eq_true rfl) rfl ?_
  intro p9 e9 s9 m9 args9 below9 meth9 c9 hE hr hlocks hK hI ls hl
  have hx := hE.1
  have hb := hE.2.1
  have hl : lv_has ls 3 [(0, .ref (o + 0)), (1, .int (nI i)), (2, .int v)] := hl
  refine lv_aload_n hx hb dX5_mass_0 rfl (lv_at hl 0 rfl) ?_
  refine x_get (k := 0) hE hK hI (by decide) inG5 (e_0 G o _ _) rfl 0 (by decide) mw_172 rfl dX5_mass_1 ?_
  refine x_get (k := 1) hE hK hI (by decide) inG1 (e_1 G o _ _) rfl 1 (by decide) mw_141 rfl dX5_mass_4 ?_
  refine lv_iload_n hx hb dX5_mass_7 rfl (lv_at hl 1 rfl) ?_
  refine x_callVi (k := 11) hE hK hI (c_X3_hasLot l G o _ _ (nI i) ) mf_X3_hasLot mw_307 (by decide) ((e_11 G o) _ _) rfl rfl hl.1 rfl (Nat.le_of_ble_eq_true rfl) ⟨(Nat.le_of_ble_eq_true rfl), (Nat.le_of_ble_eq_true rfl)⟩ ⟨Nat.zero_le _, Nat.zero_le _⟩ dX5_mass_8 (fun H locs hI => ?_)
  refine lv_topi (fun z1 ez1 => ?_)
  obtain rfl : 1 = z1 := (ez1.trans (bI_t h)).symm
  refine lv_if_ne (tgt := 17) hx hb dX5_mass_11 (by decide) (fun _ => ?_) (fun q => absurd q (by decide))
  refine lv_aload_n hx hb dX5_mass_17 rfl (lv_at hl 0 rfl) ?_
  refine x_get (k := 0) hE hK hI (by decide) inG5 (e_0 G o _ _) rfl 0 (by decide) mw_172 rfl dX5_mass_18 ?_
  refine x_get (k := 1) hE hK hI (by decide) inG1 (e_1 G o _ _) rfl 1 (by decide) mw_141 rfl dX5_mass_21 ?_
  refine x_get (k := 11) hE hK hI (by decide) inG3 (e_11 G o _ _) rfl 0 (by decide) mw_103 rfl dX5_mass_24 ?_
  refine lv_iload_n hx hb dX5_mass_27 rfl (lv_at hl 1 rfl) ?_
  refine x_aald (k := 12) (j := i) (t0 := 3) (q := o + (14 + 2 * i)) hE hK hI (by decide) (e_12 G o) rfl rfl h_i (by decide) rfl (ql_14 h_i) dX5_mass_28 ?_
  refine x_get (k := (14 + 2 * i)) hE hK hI (by have := h_i; omega) inG0 (el_14 G o h_i _ _) rfl 0 (by decide) mw_80 rfl dX5_mass_29 ?_
  refine lv_iload_n hx hb dX5_mass_32 rfl (lv_at hl 2 rfl) ?_
  refine x_callSi hE hK hI (c_X5_sizeOrAll_a l G o _ _ (15 + 2 * i) v (em_14 G o h_i) (by have := h_i; omega) h1 h2) mf_X5_sizeOrAll mw_427 rfl hl.1 rfl (Nat.le_of_ble_eq_true rfl) ⟨(Nat.le_of_ble_eq_true rfl), (Nat.le_of_ble_eq_true rfl)⟩ ⟨Nat.zero_le _, Nat.zero_le _⟩ dX5_mass_33 (fun H locs hI => ?_)
  exact x_iret hE hr hlocks hI rfl rfl rfl dX5_mass_36
set_option maxRecDepth 100000 in
set_option maxHeartbeats 4000000 in
theorem c_X5_produced_m (l : Launch) (G : GG) (o : Nat) (X : SX) (Y : SY) : Ct l yX5_produced cX5_produced 2 (some .int) 2 46 G o [.ref (o + 0), .int (-1)] X Y (some (.int (sum4 (X 13)))) X Y := by
  refine Ct.mk (by decide +kernel) (Nat.le_of_ble_eq_true rfl) rfl ?_
  intro p9 e9 s9 m9 args9 below9 meth9 c9 hE hr hlocks hK hI ls hl
  have hx := hE.1
  have hb := hE.2.1
  have hl : lv_has ls 2 [(0, .ref (o + 0)), (1, .int (-1))] := hl
  refine lv_aload_n hx hb dX5_produced_0 rfl (lv_at hl 0 rfl) ?_
  refine x_get (k := 0) hE hK hI (by decide) inG5 (e_0 G o _ _) rfl 0 (by decide) mw_172 rfl dX5_produced_1 ?_
  refine x_get (k := 1) hE hK hI (by decide) inG1 (e_1 G o _ _) rfl 1 (by decide) mw_141 rfl dX5_produced_4 ?_
  refine x_get (k := 11) hE hK hI (by decide) inG3 (e_11 G o _ _) rfl 1 (by decide) mw_105 rfl dX5_produced_7 ?_
  refine lv_iload_n hx hb dX5_produced_10 rfl (lv_at hl 1 rfl) ?_
  refine x_callSi hE hK hI (c_X5_sizeOrAll_m l G o _ _ 13 (e_13 G o) (by decide)) mf_X5_sizeOrAll mw_427 rfl hl.1 rfl (Nat.le_of_ble_eq_true rfl) ⟨(Nat.le_of_ble_eq_true rfl), (Nat.le_of_ble_eq_true rfl)⟩ ⟨Nat.zero_le _, Nat.zero_le _⟩ dX5_produced_11 (fun H locs hI => ?_)
  exact x_iret hE hr hlocks hI rfl rfl rfl dX5_produced_14
set_option maxRecDepth 100000 in
set_option maxHeartbeats 4000000 in
theorem c_X5_produced_y (l : Launch) (G : GG) (o : Nat) (X : SX) (Y : SY) (t : Nat) (h0 : t < 4) (h1 : Wi (nI t) 0 3) (h2 : ¬ (nI t = (-1))) : Ct l yX5_produced cX5_produced 2 (some .int) 3 63 G o [.ref (o + 0), .int (nI t)] X Y (some (.int (X 13 t))) X Y := by
  refine Ct.mk (by decide +kernel) (Nat.le_of_ble_eq_true rfl) rfl ?_
  intro p9 e9 s9 m9 args9 below9 meth9 c9 hE hr hlocks hK hI ls hl
  have hx := hE.1
  have hb := hE.2.1
  have hl : lv_has ls 2 [(0, .ref (o + 0)), (1, .int (nI t))] := hl
  refine lv_aload_n hx hb dX5_produced_0 rfl (lv_at hl 0 rfl) ?_
  refine x_get (k := 0) hE hK hI (by decide) inG5 (e_0 G o _ _) rfl 0 (by decide) mw_172 rfl dX5_produced_1 ?_
  refine x_get (k := 1) hE hK hI (by decide) inG1 (e_1 G o _ _) rfl 1 (by decide) mw_141 rfl dX5_produced_4 ?_
  refine x_get (k := 11) hE hK hI (by decide) inG3 (e_11 G o _ _) rfl 1 (by decide) mw_105 rfl dX5_produced_7 ?_
  refine lv_iload_n hx hb dX5_produced_10 rfl (lv_at hl 1 rfl) ?_
  refine x_callSi hE hK hI (c_X5_sizeOrAll_y l G o _ _ 13 t (e_13 G o) (by decide) h0 h1 h2) mf_X5_sizeOrAll mw_427 rfl hl.1 rfl (Nat.le_of_ble_eq_true rfl) ⟨(Nat.le_of_ble_eq_true rfl), (Nat.le_of_ble_eq_true rfl)⟩ ⟨Nat.zero_le _, Nat.zero_le _⟩ dX5_produced_11 (fun H locs hI => ?_)
  exact x_iret hE hr hlocks hI rfl rfl rfl dX5_produced_14
set_option maxRecDepth 100000 in
set_option maxHeartbeats 4000000 in
theorem c_X5_produced_a (l : Launch) (G : GG) (o : Nat) (X : SX) (Y : SY) (v : Int32) (h1 : ¬ (Wi v 0 3)) (h2 : ¬ (v = (-1))) : Ct l yX5_produced cX5_produced 2 (some .int) 3 63 G o [.ref (o + 0), .int v] X Y (some (.int (-1))) X Y := by
  refine Ct.mk (by decide +kernel) (Nat.le_of_ble_eq_true rfl) rfl ?_
  intro p9 e9 s9 m9 args9 below9 meth9 c9 hE hr hlocks hK hI ls hl
  have hx := hE.1
  have hb := hE.2.1
  have hl : lv_has ls 2 [(0, .ref (o + 0)), (1, .int v)] := hl
  refine lv_aload_n hx hb dX5_produced_0 rfl (lv_at hl 0 rfl) ?_
  refine x_get (k := 0) hE hK hI (by decide) inG5 (e_0 G o _ _) rfl 0 (by decide) mw_172 rfl dX5_produced_1 ?_
  refine x_get (k := 1) hE hK hI (by decide) inG1 (e_1 G o _ _) rfl 1 (by decide) mw_141 rfl dX5_produced_4 ?_
  refine x_get (k := 11) hE hK hI (by decide) inG3 (e_11 G o _ _) rfl 1 (by decide) mw_105 rfl dX5_produced_7 ?_
  refine lv_iload_n hx hb dX5_produced_10 rfl (lv_at hl 1 rfl) ?_
  refine x_callSi hE hK hI (c_X5_sizeOrAll_a l G o _ _ 13 v (e_13 G o) (by decide) h1 h2) mf_X5_sizeOrAll mw_427 rfl hl.1 rfl (Nat.le_of_ble_eq_true rfl) ⟨(Nat.le_of_ble_eq_true rfl), (Nat.le_of_ble_eq_true rfl)⟩ ⟨Nat.zero_le _, Nat.zero_le _⟩ dX5_produced_11 (fun H locs hI => ?_)
  exact x_iret hE hr hlocks hI rfl rfl rfl dX5_produced_14
set_option maxRecDepth 100000 in
set_option maxHeartbeats 4000000 in
theorem c_X5_total_0 (l : Launch) (G : GG) (o : Nat) (X : SX) (Y : SY) : Ct l yX5_total cX5_total 3 (some .int) 0 0 G o [.ref (o + 0), .int 0] X Y (some (.int (X 11 3))) X Y := by
  refine Ct.mk (by decide +kernel) (Nat.le_of_ble_eq_true rfl) rfl ?_
  intro p9 e9 s9 m9 args9 below9 meth9 c9 hE hr hlocks hK hI ls hl
  have hx := hE.1
  have hb := hE.2.1
  have hl : lv_has ls 3 [(0, .ref (o + 0)), (1, .int 0)] := hl
  refine lv_aload_n hx hb dX5_total_0 rfl (lv_at hl 0 rfl) ?_
  refine x_get (k := 0) hE hK hI (by decide) inG5 (e_0 G o _ _) rfl 0 (by decide) mw_172 rfl dX5_total_1 ?_
  refine x_get (k := 1) hE hK hI (by decide) inG1 (e_1 G o _ _) rfl 1 (by decide) mw_141 rfl dX5_total_4 ?_
  refine lv_astore_n (lv' := [(2, .ref (o + 11)), (0, .ref (o + 0)), (1, .int 0)]) hx hb dX5_total_7 rfl hl (by decide) rfl (fun ls hl => ?_)
  refine lv_iload_n hx hb dX5_total_8 rfl (lv_at hl 2 rfl) ?_
  refine lv_tableIn (tgt := 40) (off := 31) hx hb dX5_total_9 (by decide) (by decide) (by decide) (by decide) ?_
  refine lv_aload_n hx hb dX5_total_40 rfl (lv_at hl 0 rfl) ?_
  refine x_get (k := 11) hE hK hI (by decide) inG3 (e_11 G o _ _) rfl 3 (by decide) mw_109 rfl dX5_total_41 ?_
  exact x_iret hE hr hlocks hI rfl rfl rfl dX5_total_44
set_option maxRecDepth 100000 in
set_option maxHeartbeats 4000000 in
theorem c_X5_total_1 (l : Launch) (G : GG) (o : Nat) (X : SX) (Y : SY) : Ct l yX5_total cX5_total 3 (some .int) 0 0 G o [.ref (o + 0), .int 1] X Y (some (.int (X 11 2))) X Y := by
  refine Ct.mk (by decide +kernel) (Nat.le_of_ble_eq_true rfl) rfl ?_
  intro p9 e9 s9 m9 args9 below9 meth9 c9 hE hr hlocks hK hI ls hl
  have hx := hE.1
  have hb := hE.2.1
  have hl : lv_has ls 3 [(0, .ref (o + 0)), (1, .int 1)] := hl
  refine lv_aload_n hx hb dX5_total_0 rfl (lv_at hl 0 rfl) ?_
  refine x_get (k := 0) hE hK hI (by decide) inG5 (e_0 G o _ _) rfl 0 (by decide) mw_172 rfl dX5_total_1 ?_
  refine x_get (k := 1) hE hK hI (by decide) inG1 (e_1 G o _ _) rfl 1 (by decide) mw_141 rfl dX5_total_4 ?_
  refine lv_astore_n (lv' := [(2, .ref (o + 11)), (0, .ref (o + 0)), (1, .int 1)]) hx hb dX5_total_7 rfl hl (by decide) rfl (fun ls hl => ?_)
  refine lv_iload_n hx hb dX5_total_8 rfl (lv_at hl 2 rfl) ?_
  refine lv_tableIn (tgt := 45) (off := 36) hx hb dX5_total_9 (by decide) (by decide) (by decide) (by decide) ?_
  refine lv_aload_n hx hb dX5_total_45 rfl (lv_at hl 0 rfl) ?_
  refine x_get (k := 11) hE hK hI (by decide) inG3 (e_11 G o _ _) rfl 2 (by decide) mw_107 rfl dX5_total_46 ?_
  exact x_iret hE hr hlocks hI rfl rfl rfl dX5_total_49
set_option maxRecDepth 100000 in
set_option maxHeartbeats 4000000 in
theorem c_X5_total_2 (l : Launch) (G : GG) (o : Nat) (X : SX) (Y : SY) : Ct l yX5_total cX5_total 3 (some .int) 0 0 G o [.ref (o + 0), .int 2] X Y (some (.int (X 11 7))) X Y := by
  refine Ct.mk (by decide +kernel) (Nat.le_of_ble_eq_true rfl) rfl ?_
  intro p9 e9 s9 m9 args9 below9 meth9 c9 hE hr hlocks hK hI ls hl
  have hx := hE.1
  have hb := hE.2.1
  have hl : lv_has ls 3 [(0, .ref (o + 0)), (1, .int 2)] := hl
  refine lv_aload_n hx hb dX5_total_0 rfl (lv_at hl 0 rfl) ?_
  refine x_get (k := 0) hE hK hI (by decide) inG5 (e_0 G o _ _) rfl 0 (by decide) mw_172 rfl dX5_total_1 ?_
  refine x_get (k := 1) hE hK hI (by decide) inG1 (e_1 G o _ _) rfl 1 (by decide) mw_141 rfl dX5_total_4 ?_
  refine lv_astore_n (lv' := [(2, .ref (o + 11)), (0, .ref (o + 0)), (1, .int 2)]) hx hb dX5_total_7 rfl hl (by decide) rfl (fun ls hl => ?_)
  refine lv_iload_n hx hb dX5_total_8 rfl (lv_at hl 2 rfl) ?_
  refine lv_tableIn (tgt := 50) (off := 41) hx hb dX5_total_9 (by decide) (by decide) (by decide) (by decide) ?_
  refine lv_aload_n hx hb dX5_total_50 rfl (lv_at hl 0 rfl) ?_
  refine x_get (k := 11) hE hK hI (by decide) inG3 (e_11 G o _ _) rfl 7 (by decide) mw_116 rfl dX5_total_51 ?_
  exact x_iret hE hr hlocks hI rfl rfl rfl dX5_total_54
set_option maxRecDepth 100000 in
set_option maxHeartbeats 4000000 in
theorem c_X5_total_3 (l : Launch) (G : GG) (o : Nat) (X : SX) (Y : SY) : Ct l yX5_total cX5_total 3 (some .int) 0 0 G o [.ref (o + 0), .int 3] X Y (some (.int (X 11 8))) X Y := by
  refine Ct.mk (by decide +kernel) (Nat.le_of_ble_eq_true rfl) rfl ?_
  intro p9 e9 s9 m9 args9 below9 meth9 c9 hE hr hlocks hK hI ls hl
  have hx := hE.1
  have hb := hE.2.1
  have hl : lv_has ls 3 [(0, .ref (o + 0)), (1, .int 3)] := hl
  refine lv_aload_n hx hb dX5_total_0 rfl (lv_at hl 0 rfl) ?_
  refine x_get (k := 0) hE hK hI (by decide) inG5 (e_0 G o _ _) rfl 0 (by decide) mw_172 rfl dX5_total_1 ?_
  refine x_get (k := 1) hE hK hI (by decide) inG1 (e_1 G o _ _) rfl 1 (by decide) mw_141 rfl dX5_total_4 ?_
  refine lv_astore_n (lv' := [(2, .ref (o + 11)), (0, .ref (o + 0)), (1, .int 3)]) hx hb dX5_total_7 rfl hl (by decide) rfl (fun ls hl => ?_)
  refine lv_iload_n hx hb dX5_total_8 rfl (lv_at hl 2 rfl) ?_
  refine lv_tableIn (tgt := 55) (off := 46) hx hb dX5_total_9 (by decide) (by decide) (by decide) (by decide) ?_
  refine lv_aload_n hx hb dX5_total_55 rfl (lv_at hl 0 rfl) ?_
  refine x_get (k := 11) hE hK hI (by decide) inG3 (e_11 G o _ _) rfl 8 (by decide) mw_118 rfl dX5_total_56 ?_
  exact x_iret hE hr hlocks hI rfl rfl rfl dX5_total_59
set_option maxRecDepth 100000 in
set_option maxHeartbeats 4000000 in
theorem c_X5_total_a (l : Launch) (G : GG) (o : Nat) (X : SX) (Y : SY) (v : Int32) (h : v.toInt < 0 ∨ 3 < v.toInt) : Ct l yX5_total cX5_total 3 (some .int) 0 0 G o [.ref (o + 0), .int v] X Y (some (.int (-3))) X Y := by
  refine Ct.mk (by decide +kernel) (Nat.le_of_ble_eq_true rfl) rfl ?_
  intro p9 e9 s9 m9 args9 below9 meth9 c9 hE hr hlocks hK hI ls hl
  have hx := hE.1
  have hb := hE.2.1
  have hl : lv_has ls 3 [(0, .ref (o + 0)), (1, .int v)] := hl
  refine lv_aload_n hx hb dX5_total_0 rfl (lv_at hl 0 rfl) ?_
  refine x_get (k := 0) hE hK hI (by decide) inG5 (e_0 G o _ _) rfl 0 (by decide) mw_172 rfl dX5_total_1 ?_
  refine x_get (k := 1) hE hK hI (by decide) inG1 (e_1 G o _ _) rfl 1 (by decide) mw_141 rfl dX5_total_4 ?_
  refine lv_astore_n (lv' := [(2, .ref (o + 11)), (0, .ref (o + 0)), (1, .int v)]) hx hb dX5_total_7 rfl hl (by decide) rfl (fun ls hl => ?_)
  refine lv_iload_n hx hb dX5_total_8 rfl (lv_at hl 2 rfl) ?_
  refine lv_tableOut (tgt := 60) hx hb dX5_total_9 h (by decide) ?_
  refine lv_bipush (v := (-3)) hx hb dX5_total_60 (by decide) ?_
  exact x_iret hE hr hlocks hI rfl rfl rfl dX5_total_62
