/-! ===== 09: the run of the simulation ===== -/
theorem brkX_o {X : SX} {i k j : Nat} (h : k ≠ 15 + 2 * i) : brkX X i k j = X k j := by
  unfold brkX
  simp (disch := omega) only [sx_o]
theorem clsX_o {X : SX} {i k j : Nat} (h : k ≠ 15 + 2 * i) (h2 : k ≠ 13) : clsX X i k j = X k j := by
  unfold clsX
  simp (disch := omega) only [sx_o]
theorem finX_o {X : SX} {i k j : Nat} (h : k ≠ 15 + 2 * i) (h2 : k ≠ 13) (h3 : ¬ (k = 14 + 2 * i ∧ (j = 1 ∨ j = 3 ∨ j = 4))) (h4 : ¬ (k = 11 ∧ (j = 4 ∨ j = 5 ∨ j = 7 ∨ j = 8))) : finX X i k j = X k j := by
  unfold finX
  split
  · simp (disch := omega) only [sx_o, clsX_o, brkX_o]
  · simp (disch := omega) only [sx_o, pbX_o, clsX_o, brkX_o]
theorem finX_g {X : SX} {i : Nat} : finX X i 11 5 = (-1) := by
  unfold finX
  split
  · simp (disch := omega) only [sx_o, clsX_o, brkX_o, sx_e]
  · simp (disch := omega) only [sx_o, pbX_o, clsX_o, brkX_o, sx_e]
theorem tkX_o {X : SX} {k j : Nat} (h : ∀ i, ¬ (k = 14 + 2 * i ∧ (j = 1 ∨ j = 3))) (h2 : ¬ (k = 11 ∧ j = 4)) : ∀ n : Nat, tkX X n k j = X k j
  | 0 => rfl
  | n + 1 => by
    have ih := tkX_o (X := X) h h2 n
    unfold tkX
    split
    · split
      · rw [pbX_o (h n) h2]; exact ih
      · exact ih
    · exact ih
theorem staX_o {X : SX} {c i k j : Nat} (h : ¬ (k = 14 + 2 * i ∧ j = 1)) (h2 : ¬ (k = 11 ∧ (j = 5 ∨ j = 6))) : staX X c i k j = X k j := by
  unfold staX
  simp (disch := omega) only [sx_o]
theorem SimInv.tm {X : SX} {cnt : Nat} {v : Int32} (h : SimInv X cnt) : SimInv (sx X 11 3 v) cnt := by
  unfold SimInv
  simp (disch := omega) only [sx_o]
  exact h
theorem SimInv.fi {X : SX} {cnt : Nat} (h : SimInv X cnt) : SimInv (fiF X) cnt := by
  unfold fiF
  split
  · exact h
  · split
    · unfold SimInv
      rw [finX_g, finX_o (by omega) (by omega) (by omega) (by omega), finX_o (by omega) (by omega) (by omega) (by omega)]
      exact ⟨h.1, h.2.1, Or.inl rfl, h.2.2.2⟩
    · exact h
theorem SimInv.tk {X : SX} {cnt : Nat} (h : SimInv X cnt) (n : Nat) : SimInv (tkX X n) cnt := by
  unfold SimInv
  rw [tkX_o (fun i => by omega) (by omega), tkX_o (fun i => by omega) (by omega), tkX_o (fun i => by omega) (by omega)]
  exact h
theorem SimInv.st {X : SX} {cnt : Nat} (h : SimInv X cnt) : SimInv (stF X cnt) cnt := by
  unfold stF
  split
  · split
    · exact h
    · rename_i j hq
      unfold SimInv
      rw [show staX X cnt j 11 5 = nI j by unfold staX; simp (disch := omega) only [sx_o, sx_e], staX_o (k := 11) (by omega) (by omega), staX_o (k := 2) (by omega) (by omega)]
      exact ⟨h.1, h.2.1, Or.inr ⟨j, fstN_lt _ _ hq, rfl⟩, h.2.2.2⟩
  · exact h
/-- one event -/
def evX (X : SX) (cnt : Nat) : SX := stF (tkX (fiF (sx X 11 3 (nxE X cnt))) cnt) cnt
theorem SimInv.ev {X : SX} {cnt : Nat} (h : SimInv X cnt) : SimInv (evX X cnt) cnt := ((h.tm.fi).tk cnt).st
def rnX (e : Int32) (cnt : Nat) : Nat → SX → SX
  | 0, Z => sx Z 11 3 e
  | n + 1, Z => if nxE Z cnt ≤ e then rnX e cnt n (evX Z cnt) else sx Z 11 3 e
theorem SimInv.rn {e : Int32} {cnt : Nat} : ∀ (n : Nat) {X : SX}, SimInv X cnt → SimInv (rnX e cnt n X) cnt
  | 0, _, h => h.tm
  | n + 1, _, h => by
    unfold rnX
    split
    · exact SimInv.rn n h.ev
    · exact h.tm
set_option maxRecDepth 100000 in
set_option maxHeartbeats 4000000 in
theorem lp_X3_run (l : Launch) (G : GG) (o : Nat) (X : SX) (Y : SY) (mm : Nat) (cnt : Nat) (w : Int32) (hm : mm < 2 ^ 31) {p9 : Program} {e9 : Env} {s9 : State} {m9 : MethodId} {args9 : Array Value} {below9 : List Frame} {meth9 : Method} {c9 : Code} (hE : gE p9 m9 c9 cX3_run 6 s9 args9 yX3_run.cls) (hr : meth9.sig.returnType = none) (hlocks : meth9.locks = false) (hK : KK G s9) :
    ∀ (n : Nat) (i : Nat) (Z : SX), i + n = mm ∧ SimInv Z cnt → ∀ (H : Heap) (locs : List Loc), In G o Z Y s9.heap H locs → ∀ ls : Array Slot, lv_has ls 6 [(0, .ref (o + 11)), (1, .int (nI mm)), (2, .ref (o + 2)), (3, .int w), (4, .int (nI i))] → W p9 l e9 (Rm 4 95) s9 m9 args9 below9 meth9 c9 H locs 0 0 (MQ below9 (Qw G o none (rnX w cnt n Z) Y) args9 s9 0 0 (rg o)) (F0 m9 10 ls []) := by
  have hx := hE.1
  have hb := hE.2.1
  intro n
  induction n with
  | zero =>
    intro i Z hi H locs hI ls hl
    refine lv_iload hx hb dX3_run_10 (lv_at hl 4 rfl) ?_
    refine lv_iload_n hx hb dX3_run_12 rfl (lv_at hl 1 rfl) ?_
    refine lv_icmp_ge (tgt := 57) hx hb dX3_run_13 (by decide) (fun _ => ?_) (fun q => absurd (nI_le (by omega) (by omega)) q)
    refine lv_aload_n hx hb dX3_run_57 rfl (lv_at hl 0 rfl) ?_
    refine lv_iload_n hx hb dX3_run_58 rfl (lv_at hl 3 rfl) ?_
    refine x_puti (k := 11) hE hK hI (by decide) inG3 tyX3 tyX3_ok nmX3 (e_11 G o) rfl 3 (by decide) mw_108 rfl (by decide +kernel) (by exact Nat.le_of_ble_eq_true rfl) rfl dX3_run_59 (fun H locs hI => ?_)
    exact x_vret hE hr hlocks hI rfl rfl rfl dX3_run_62
  | succ n ih =>
    intro i Z hi H locs hI ls hl
    refine lv_iload hx hb dX3_run_10 (lv_at hl 4 rfl) ?_
    refine lv_iload_n hx hb dX3_run_12 rfl (lv_at hl 1 rfl) ?_
    refine lv_icmp_ge (tgt := 57) hx hb dX3_run_13 (by decide) (fun q => absurd q (nI_ge (by omega) (by omega))) (fun _ => ?_)
    refine lv_aload_n hx hb dX3_run_16 rfl (lv_at hl 0 rfl) ?_
    refine x_callVi (k := 11) hE hK hI (c_X3_nextEvent l G o _ _ cnt hi.2.1 hi.2.2.1 (SimInv.gr hi.2)) mf_X3_nextEvent mw_360 (by decide) ((e_11 G o) _ _) rfl rfl hl.1 rfl (Nat.le_of_ble_eq_true rfl) ⟨(Nat.le_of_ble_eq_true rfl), (Nat.le_of_ble_eq_true rfl)⟩ ⟨Nat.zero_le _, Nat.zero_le _⟩ dX3_run_17 (fun H locs hI => ?_)
    refine lv_istore (lv' := [(5, .int (nxE Z cnt)), (0, .ref (o + 11)), (1, .int (nI mm)), (2, .ref (o + 2)), (3, .int w), (4, .int (nI i))]) hx hb dX3_run_20 hl (by decide) rfl (fun ls hl => ?_)
    refine lv_iload hx hb dX3_run_22 (lv_at hl 0 rfl) ?_
    refine lv_iload_n hx hb dX3_run_24 rfl (lv_at hl 4 rfl) ?_
    refine lv_icmp_le (tgt := 31) hx hb dX3_run_25 (by decide) (fun c1 => ?_) (fun c1 => ?_)
    · refine lv_aload_n hx hb dX3_run_31 rfl (lv_at hl 1 rfl) ?_
      refine lv_iload hx hb dX3_run_32 (lv_at hl 0 rfl) ?_
      refine x_puti (k := 11) hE hK hI (by decide) inG3 tyX3 tyX3_ok nmX3 (e_11 G o) rfl 3 (by decide) mw_108 rfl (by decide +kernel) (by exact Nat.le_of_ble_eq_true rfl) rfl dX3_run_34 (fun H locs hI => ?_)
      refine lv_aload_n hx hb dX3_run_37 rfl (lv_at hl 1 rfl) ?_
      refine lv_aload_n hx hb dX3_run_38 rfl (lv_at hl 3 rfl) ?_
      refine x_callVv (k := 11) hE hK hI (c_X3_finishIfDue l G o _ _ cnt (SimInv.tm hi.2)) mf_X3_finishIfDue mw_368 (by decide) ((e_11 G o) _ _) rfl rfl hl.1 rfl (Nat.le_of_ble_eq_true rfl) ⟨(Nat.le_of_ble_eq_true rfl), (Nat.le_of_ble_eq_true rfl)⟩ ⟨Nat.zero_le _, Nat.zero_le _⟩ dX3_run_39 (fun H locs hI => ?_)
      refine lv_aload_n hx hb dX3_run_42 rfl (lv_at hl 1 rfl) ?_
      refine x_callVv (k := 11) hE hK hI (c_X3_take l G o _ _ cnt (SimInv.fi (SimInv.tm hi.2))) mf_X3_takePlannedLots mw_385 (by decide) ((e_11 G o) _ _) rfl rfl hl.1 rfl (Nat.le_of_ble_eq_true rfl) ⟨(Nat.le_of_ble_eq_true rfl), (Nat.le_of_ble_eq_true rfl)⟩ ⟨Nat.zero_le _, Nat.zero_le _⟩ dX3_run_43 (fun H locs hI => ?_)
      refine lv_aload_n hx hb dX3_run_46 rfl (lv_at hl 1 rfl) ?_
      refine lv_aload_n hx hb dX3_run_47 rfl (lv_at hl 3 rfl) ?_
      refine x_callVv (k := 11) hE hK hI (c_X3_startIfIdle l G o _ _ cnt (SimInv.tk (SimInv.fi (SimInv.tm hi.2)) cnt)) mf_X3_startIfIdle mw_389 (by decide) ((e_11 G o) _ _) rfl rfl hl.1 rfl (Nat.le_of_ble_eq_true rfl) ⟨(Nat.le_of_ble_eq_true rfl), (Nat.le_of_ble_eq_true rfl)⟩ ⟨Nat.zero_le _, Nat.zero_le _⟩ dX3_run_48 (fun H locs hI => ?_)
      refine lv_iinc (v := nI (i + 1)) (lv' := [(4, .int (nI (i + 1))), (5, .int (nxE Z cnt)), (0, .ref (o + 11)), (1, .int (nI mm)), (2, .ref (o + 2)), (3, .int w)]) hx hb dX3_run_51 hl (k := 5) rfl (nI_add i 1) (by decide) rfl (fun ls hl => ?_)
      refine lv_goto (tgt := 10) hx hb dX3_run_54 (by decide) ?_
      have ih' := ih (i + 1) (evX Z cnt) ⟨by omega, hi.2.ev⟩ H locs hI ls (lv_sub hl [2, 3, 4, 5, 0] rfl)
      rw [← show rnX w cnt (n + 1) Z = rnX w cnt n (evX Z cnt) from if_pos c1] at ih'
      exact ih'
    · refine lv_goto (tgt := 57) hx hb dX3_run_28 (by decide) ?_
      refine lv_aload_n hx hb dX3_run_57 rfl (lv_at hl 1 rfl) ?_
      refine lv_iload_n hx hb dX3_run_58 rfl (lv_at hl 4 rfl) ?_
      refine x_puti (k := 11) hE hK hI (by decide) inG3 tyX3 tyX3_ok nmX3 (e_11 G o) rfl 3 (by decide) mw_108 rfl (by decide +kernel) (by exact Nat.le_of_ble_eq_true rfl) rfl dX3_run_59 (fun H locs hI => ?_)
      exact x_vret hE hr hlocks hI rfl ((if_neg c1).symm) rfl dX3_run_62
set_option maxRecDepth 100000 in
set_option maxHeartbeats 4000000 in
theorem c_X3_run (l : Launch) (G : GG) (o : Nat) (X : SX) (Y : SY) (mm : Nat) (cnt : Nat) (hm : mm < 2 ^ 31) (hS : SimInv X cnt) : Ct l yX3_run cX3_run 6 none 4 95 G o [.ref (o + 11), .int (nI mm), .ref (o + 2)] X Y none (rnX (X 11 3 + nI mm) cnt mm X) Y := by
  refine Ct.mk (by decide +kernel) (Nat.le_of_ble_eq_true rfl) rfl ?_
  intro p9 e9 s9 m9 args9 below9 meth9 c9 hE hr hlocks hK hI ls hl
  have hx := hE.1
  have hb := hE.2.1
  have hl : lv_has ls 6 [(0, .ref (o + 11)), (1, .int (nI mm)), (2, .ref (o + 2))] := hl
  refine lv_aload_n hx hb dX3_run_0 rfl (lv_at hl 0 rfl) ?_
  refine x_get (k := 11) hE hK hI (by decide) inG3 (e_11 G o _ _) rfl 3 (by decide) mw_108 rfl dX3_run_1 ?_
  refine lv_iload_n hx hb dX3_run_4 rfl (lv_at hl 1 rfl) ?_
  refine lv_iadd hx hb dX3_run_5 ?_
  refine lv_istore_n (lv' := [(3, .int ((X 11 3) + (nI mm))), (0, .ref (o + 11)), (1, .int (nI mm)), (2, .ref (o + 2))]) hx hb dX3_run_6 rfl hl (by decide) rfl (fun ls hl => ?_)
  refine lv_iconst (v := 0) hx hb dX3_run_7 (by decide) ?_
  refine lv_istore (lv' := [(4, .int 0), (3, .int ((X 11 3) + (nI mm))), (0, .ref (o + 11)), (1, .int (nI mm)), (2, .ref (o + 2))]) hx hb dX3_run_8 hl (by decide) rfl (fun ls hl => ?_)
  exact lp_X3_run l G o X Y mm cnt _ hm hE hr hlocks hK mm 0 X ⟨by omega, hS⟩ _ _ hI ls (lv_sub hl [2, 3, 4, 1, 0] rfl)
