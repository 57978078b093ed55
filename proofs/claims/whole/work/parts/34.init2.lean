/-! ===== 34: the simulation's constructor ===== -/
def rfs (o k i : Nat) : Nat → Option Nat := fun q => if q < i then some (o + (k + (3 + 2 * q))) else none
def FSi (G : GG) (o k i : Nat) : Nat → va_E := fun j =>
  if j = 0 then .inr (3, [.ref (o + (k + 1)), .ref (o + (k + 2)), .int 0, .int 0, .int 0, .int (-1), .int 0, .int 0, .int 0])
  else if j = 1 then .inl (G.2 3, 40, .inr (.inr (.inr (.inr (rfs o k i)))))
  else if j = 2 then .inl (G.2 0, 4, .inl (fun _ => 0))
  else if j % 2 = 1 then .inr (0, [.ref (o + (k + (j + 1))), .int 0, .int 0, .int 0, .int 0])
  else .inl (G.2 0, 4, .inl (fun _ => 0))
def FSim (G : GG) (o k : Nat) : Nat → va_E := FSi G o k 40
theorem FSi_lot {G : GG} {o k i j : Nat} (h : 3 ≤ j) (h2 : j % 2 = 1) : FSi G o k i j = .inr (0, [.ref (o + (k + (j + 1))), .int 0, .int 0, .int 0, .int 0]) := by
  unfold FSi
  rw [if_neg (by omega), if_neg (by omega), if_neg (by omega), if_pos h2]
theorem FSi_m {G : GG} {o k i j : Nat} (h : 3 ≤ j) (h2 : ¬ j % 2 = 1) : FSi G o k i j = .inl (G.2 0, 4, .inl (fun _ => 0)) := by
  unfold FSi
  rw [if_neg (by omega), if_neg (by omega), if_neg (by omega), if_neg h2]
theorem FSi_n {G : GG} {o k i i' j : Nat} (h : j ≠ 1) : FSi G o k i j = FSi G o k i' j := by
  unfold FSi
  rw [if_neg h, if_neg h]
theorem rfs_up {o k i : Nat} : va_up (rfs o k i) i (some (o + (k + (3 + 2 * i)))) = rfs o k (i + 1) := by
  funext q
  unfold va_up rfs
  by_cases h : q = i
  · rw [if_pos h, h, if_pos (by omega)]
  · rw [if_neg h]
    by_cases h2 : q < i
    · rw [if_pos h2, if_pos (by omega)]
    · rw [if_neg h2, if_neg (by omega)]
set_option maxRecDepth 100000 in
set_option maxHeartbeats 4000000 in
theorem sim_loop (l : Launch) (G : GG) (o k : Nat) (E : Nat → va_E) {p : Program} {e : Env} {s : State} {m : MethodId} {args : Array Value} {below : List Frame} {meth : Method} {c : Code} (hE : gE p m c cX3_init 2 s args yX3_init.cls) (hr : meth.sig.returnType = none) (hlocks : meth.locks = false) (hK : KC G s) (hsz : s.heap.size = o + (k + 1)) :
    ∀ (r i : Nat) (H : Heap) (locs : List Loc) (ls : Array Slot), i + r = 40 → IN G o k (3 + 2 * i) E (FSi G o k i) s.heap H locs → lv_has ls 2 [(1, .int (nI i)), (0, .ref (o + (k + 0)))] →
      W p l e (Rn 2 82 404 40) s m args below meth c H locs (2 + 2 * i) (44 + 9 * i) (MQ below (QN G o (k + 83) (ex E k (FSim G o k))) args s 82 404 (ge o)) (F0 m 27 ls [])
  | 0, i, H, locs, ls, hi, hI, hl => by
    have hx := hE.1
    have hb := hE.2.1
    have hi : i = 40 := by omega
    subst hi
    refine lv_iload_n hx hb dX3_init_27 rfl (lv_at hl 0 rfl) ?_
    refine lv_bipush (v := 40) hx hb dX3_init_28 (by decide) ?_
    refine lv_icmp_ge (tgt := 52) hx hb dX3_init_30 (by decide) (fun _ => ?_) (fun q => absurd (by decide) q)
    exact y_ret hE hr hlocks hI rfl rfl rfl (fun j hj => rfl) dX3_init_52
  | r + 1, i, H, locs, ls, hi, hI, hl => by
    have hx := hE.1
    have hb := hE.2.1
    refine lv_iload_n hx hb dX3_init_27 rfl (lv_at hl 0 rfl) ?_
    refine lv_bipush (v := nI 40) hx hb dX3_init_28 (by decide) ?_
    refine lv_icmp_ge (tgt := 52) hx hb dX3_init_30 (by decide) (fun q => absurd q (nI_ge (by omega) (by omega))) (fun _ => ?_)
    refine lv_aload_n hx hb dX3_init_33 rfl (lv_at hl 1 rfl) ?_
    refine y_get (j := 0) (fs := [.ref (o + (k + 1)), .ref (o + (k + 2)), .int 0, .int 0, .int 0, .int (-1), .int 0, .int 0, .int 0]) (C := RX3) (T := TX3) (N := 9) hE hK hI (by omega) inG3 rfl rfl 0 (by decide) mw_102 rfl dX3_init_34 ?_
    refine lv_iload_n hx hb dX3_init_37 rfl (lv_at hl 0 rfl) ?_
    refine y_sz hI (by omega) (by omega) (fun hz => ?_)
    refine y_new (ci := 0) (fs := [.null, .int 0, .int 0, .int 0, .int 0]) (C := RX0) (T := TX0) (N := 5) hE hK hI hz inG0 tyX0 tyX0_ok rfl dfX0 mw_71 mw_73 mw_5 (show 2 + 2 * i + 1 ≤ 82 by omega) (show 44 + 9 * i + 5 ≤ 404 by omega) dX3_init_38 (fun H hI => ?_)
    refine lv_dup hx hb dX3_init_41 rfl ?_
    refine y_sz hI (by omega) (by omega) (fun hz => ?_)
    refine y_callN (t := 3 + 2 * i) (m2 := 2) (Fn := FLot G o (k + (3 + 2 * i))) hE hK hI hz (c_X0_init l G o (k + (3 + 2 * i)) _ (ex_at.trans (if_pos rfl))) mw_76 mw_75 mw_5 hK.2.1.2.1 rfl (by decide +kernel) hl.1 rfl (Nat.le_of_ble_eq_true rfl) ⟨(Nat.le_of_ble_eq_true rfl), (Nat.le_of_ble_eq_true rfl)⟩ ⟨show 2 + 2 * i + 1 + 1 ≤ 82 by omega, show 44 + 9 * i + 5 + 4 ≤ 404 by omega⟩ dX3_init_42 (fun H locs hI => ?_)
    have hI := hI.congr (F' := eu (FSi G o k (i + 1)) 1 (.inl (G.2 3, 40, .inr (.inr (.inr (.inr (rfs o k i))))))) (fun j hj => by
      by_cases h1 : j < 3 + 2 * i
      · rw [show ex (eu (FSi G o k i) (3 + 2 * i) (.inr (0, [.null, .int 0, .int 0, .int 0, .int 0]))) (3 + 2 * i) (FLot G o (k + (3 + 2 * i))) j = eu (FSi G o k i) (3 + 2 * i) (.inr (0, [.null, .int 0, .int 0, .int 0, .int 0])) j from if_pos h1, show eu (FSi G o k i) (3 + 2 * i) (.inr (0, [.null, .int 0, .int 0, .int 0, .int 0])) j = FSi G o k i j from if_neg (by omega)]
        by_cases h2 : j = 1
        · subst h2
          rfl
        · rw [show eu (FSi G o k (i + 1)) 1 (.inl (G.2 3, 40, .inr (.inr (.inr (.inr (rfs o k i)))))) j = FSi G o k (i + 1) j from if_neg h2]
          exact FSi_n h2
      · rw [show ex (eu (FSi G o k i) (3 + 2 * i) (.inr (0, [.null, .int 0, .int 0, .int 0, .int 0]))) (3 + 2 * i) (FLot G o (k + (3 + 2 * i))) j = FLot G o (k + (3 + 2 * i)) (j - (3 + 2 * i)) from if_neg h1, show eu (FSi G o k (i + 1)) 1 (.inl (G.2 3, 40, .inr (.inr (.inr (.inr (rfs o k i)))))) j = FSi G o k (i + 1) j from if_neg (by omega)]
        by_cases h2 : j = 3 + 2 * i
        · subst h2
          rw [FSi_lot (by omega) (by omega), Nat.sub_self]
          rfl
        · rw [FSi_m (by omega) (by omega), show j - (3 + 2 * i) = 1 by omega]
          rfl)
    refine y_aast (j := 1) (j2 := 3 + 2 * i) (i := i) (t0 := 3) (ci := 0) (fr := rfs o k i) (vs := [.ref (o + (k + (3 + 2 * i + 1))), .int 0, .int 0, .int 0, .int 0]) hE hK hI (by omega) (if_pos rfl) rfl (by omega) ((if_neg (by omega)).trans (FSi_lot (by omega) (by omega))) rfl (by omega) (by decide) rfl dX3_init_45 (fun H locs hI => ?_)
    have hI := hI.congr (F' := FSi G o k (i + 1)) (fun j hj => by
      by_cases h2 : j = 1
      · subst h2
        rw [rfs_up]
        rfl
      · exact (if_neg h2).trans (if_neg h2))
    refine lv_iinc (v := nI (i + 1)) (lv' := [(1, .int (nI (i + 1))), (0, .ref (o + (k + 0)))]) hx hb dX3_init_46 hl (k := 0) rfl (nI_add i 1) (by decide) rfl (fun ls hl => ?_)
    refine lv_goto (tgt := 27) hx hb dX3_init_49 (by decide) ?_
    exact sim_loop l G o k E hE hr hlocks hK hsz r (i + 1) H locs ls (by omega) hI hl
set_option maxRecDepth 100000 in
set_option maxHeartbeats 4000000 in
theorem c_X3_init (l : Launch) (G : GG) (o k : Nat) (E : Nat → va_E) (hx0 : E k = .inr (3, [.null, .null, .int 0, .int 0, .int 0, .int 0, .int 0, .int 0, .int 0])) : Cn l yX3_init cX3_init 2 2 40 82 404 G o k 83 E (FSim G o k) := by
  refine Cn.mk (by decide +kernel) (by decide) rfl hx0 ?_
  intro p e s m args below meth c hE hr hlocks hin hK hsz hI ls hl
  have hx := hE.1
  have hb := hE.2.1
  refine lv_aload_n hx hb dX3_init_0 rfl (lv_at hl 0 rfl) ?_
  refine y_obj hE mw_70 hl.1 (Nat.le_of_ble_eq_true rfl) (Nat.le_of_ble_eq_true rfl) dX3_init_1 ?_
  refine lv_aload_n hx hb dX3_init_4 rfl (lv_at hl 0 rfl) ?_
  refine lv_bipush (v := 40) hx hb dX3_init_5 (by decide) ?_
  refine y_sz hI (by decide) (by omega) (fun hz => ?_)
  refine y_newq (N := 40) (t0 := 3) hE hK hI hz hK.2.2.1 rfl mw_71 (by decide) (by decide) (Nat.le_of_ble_eq_true rfl) (Nat.le_of_ble_eq_true rfl) (Nat.le_of_ble_eq_true rfl) dX3_init_7 (fun H hI => ?_)
  refine y_putF (j := 0) (ci := 3) (fs := [.null, .null, .int 0, .int 0, .int 0, .int 0, .int 0, .int 0, .int 0]) (v := .ref (o + (k + 1))) (ty := .array (.object "GrindingCircuit$Lot")) (C := RX3) (T := TX3) (N := 9) hE hK hI (by decide) inG3 tyX3 tyX3_ok nmX3 rfl rfl 0 (by decide) mw_102 rfl hin rfl (by decide +kernel) rfl rfl (Nat.le_of_ble_eq_true rfl) dX3_init_10 (fun H locs hI => ?_)
  refine lv_aload_n hx hb dX3_init_13 rfl (lv_at hl 0 rfl) ?_
  refine lv_iconst (v := 4) hx hb dX3_init_14 (by decide) ?_
  refine y_sz hI (by decide) (by omega) (fun hz => ?_)
  refine y_newi (N := 4) hE hK hI hz (by decide) (by decide) (Nat.le_of_ble_eq_true rfl) (Nat.le_of_ble_eq_true rfl) (Nat.le_of_ble_eq_true rfl) dX3_init_15 (fun H hI => ?_)
  refine y_putF (j := 0) (ci := 3) (fs := [.ref (o + (k + 1)), .null, .int 0, .int 0, .int 0, .int 0, .int 0, .int 0, .int 0]) (v := .ref (o + (k + 2))) (ty := .array .int) (C := RX3) (T := TX3) (N := 9) hE hK hI (by decide) inG3 tyX3 tyX3_ok nmX3 rfl rfl 1 (by decide) mw_104 rfl hin rfl (by decide +kernel) rfl rfl (Nat.le_of_ble_eq_true rfl) dX3_init_17 (fun H locs hI => ?_)
  refine lv_aload_n hx hb dX3_init_20 rfl (lv_at hl 0 rfl) ?_
  refine lv_iconst (v := (-1)) hx hb dX3_init_21 (by decide) ?_
  refine y_put (j := 0) (ci := 3) (fs := [.ref (o + (k + 1)), .ref (o + (k + 2)), .int 0, .int 0, .int 0, .int 0, .int 0, .int 0, .int 0]) (v := .int (-1)) (ty := .int) (C := RX3) (T := TX3) (N := 9) hE hK hI (by decide) inG3 tyX3 tyX3_ok nmX3 rfl rfl 5 (by decide) mw_111 rfl (by decide +kernel) rfl rfl (Nat.le_of_ble_eq_true rfl) dX3_init_22 (fun H locs hI => ?_)
  refine lv_iconst (v := 0) hx hb dX3_init_25 (by decide) ?_
  refine lv_istore_n (lv' := [(1, .int 0), (0, .ref (o + (k + 0)))]) hx hb dX3_init_26 rfl hl (by decide) rfl (fun ls hl => ?_)
  exact sim_loop l G o k E hE hr hlocks hK hsz 40 0 _ _ ls (by decide) (hI.congr (fun j hj => by rcases (show j = 0 ∨ j = 1 ∨ j = 2 by omega) with rfl | rfl | rfl <;> rfl)) hl
