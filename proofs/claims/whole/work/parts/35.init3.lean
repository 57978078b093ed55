/-! ===== 35: arrays of arrays; settings, plant, circuit ===== -/
def mF (G : GG) (o k n : Nat) (F : Nat → va_E) : Nat → va_E := fun j => if j < n then F j else if j = n then .inl (G.2 5, 4, .inr (.inr (.inr (.inr (fun i => if i < 4 then some (o + (k + (n + 1 + i))) else none))))) else .inl (G.2 0, 4, .inl (fun _ => 0))
theorem y_multi {p : Program} {l : Launch} {e : Env} {R : Room} {s : State} {m : MethodId} {args : Array Value} {below : List Frame} {meth : Method} {c : Code} {H H0 : Heap} {locs : List Loc} {cells slots : Nat} {Q : State → Prop} {cc : ByteArray} {pc nL : Nat} {ls : Array Slot} {rest : List Value} {own : String} {G : GG} {o k n : Nat} {E F : Nat → va_E} {index : Nat} (hE : gE p m c cc nL s args own) (hK : KC G s) (hI : IN G o k n E F H0 H locs) (hz : H.size = o + (k + n)) (hcl : Cond.classLink own index "[[I" ∈ gt) (hcells : cells + (1 + 4) ≤ R.cells) (hslots : slots + (4 + 4 * 4) ≤ R.slots) (hdg : decode cc pc = .ok (.multianewarray index 2, 4))
    (kk : ∀ H1 : Heap, IN G o k (n + 5) E (mF G o k n F) H0 H1 locs → W p l e R s m args below meth c H1 locs (cells + 1 + 4) (slots + 4 + 4 * 4) Q (F0 m (pc + 4) ls (.ref (o + (k + n)) :: rest))) : W p l e R s m args below meth c H locs cells slots Q (F0 m pc ls (.int 4 :: .int 4 :: rest)) := by
  intro T hT X
  have e2 : "[" ++ (FieldType.array .int).toString = "[[I" := by decide
  have hclink : (Cond.classLink own index ("[" ++ (FieldType.array .int).toString)).before args s = true := by rw [e2]; exact hE.2.2.2.2 _ hcl
  have hov : (Cond.arrayOver (.array .int)).before args s = true := hK.2.2.2.2
  obtain ⟨vm₁, cA, comp, hW, hfA, hfC, hO, hIn, X1, st⟩ := Jvm.Stand.multianewarray2F X (n := 4) (k := 4) (ty := .int) (rest := rest) (g := F0 m pc ls (.int 4 :: .int 4 :: rest)) hE.1 hE.2.2.2.1 hclink hov (hE.2.2.2.2 _ mw_64) rfl (by rw [hE.2.1]; exact hdg) rfl (by decide) (by decide) (by decide) (by decide) (by decide) rfl rfl hcells hslots
  have hA : cA = G.2 5 := Option.some.inj (hfA.symm.trans (hK.1.1.2 5 _ rfl).2)
  have hC : comp = G.2 0 := Option.some.inj (hfC.symm.trans (hK.1.1.2 0 _ rfl).2)
  subst hA hC
  obtain ⟨f1, f2, -, -⟩ := Jvm.Free.Multi.fill_facts (T.setVm vm₁) (G.2 5) (G.2 0) 4 4 (defaultValue .int) 4
  have fo := fun (a : Addr) (ha : a < T.heap.size) => Jvm.Free.Multi.fill_old (T.setVm vm₁) (G.2 5) (G.2 0) 4 4 (defaultValue .int) (a := a) ha 4
  have fi := fun (j : Nat) (hj : j < 4) => Jvm.Free.Multi.fill_inner (T.setVm vm₁) (G.2 5) (G.2 0) 4 4 (defaultValue .int) 4 j hj
  have hh : (T.setVm vm₁).heap.size = o + (k + n) := by show T.heap.size = _; rw [hT, hz]
  have hh2 : T.heap.size = o + (k + n) := hh
  obtain ⟨o1, o2, o3⟩ := Jvm.Free.Multi.outerC_facts (G.2 5) 4 (o + (k + n)) 4
  rw [hh] at f1 f2 fi
  have hcell : Jvm.Free.Multi.outerC (G.2 5) 4 (o + (k + n)) 4 = arrV (G.2 5) 4 (fun j => va_rf ((fun i => if i < 4 then some (o + (k + (n + 1 + i))) else none) j)) := by
    have hce : ∀ (C D : Cell), C.cls = D.cls → C.slots = D.slots → C.monitor = D.monitor → C.hash = D.hash → C.vm = D.vm → C = D := by
      rintro ⟨⟩ ⟨⟩ h1 h2 h3 h4 h5
      cases h1; cases h2; cases h3; cases h4; cases h5; rfl
    refine hce _ _ o1 (Array.ext_getElem? (fun j => ?_)) rfl rfl o2
    by_cases hj : j < 4
    · rw [Jvm.Free.Multi.outerC_slot (G.2 5) 4 (o + (k + n)) 4 j hj, if_pos hj, arrV_read _ _ hj]
      show some (Value.ref (o + (k + n) + 1 + j)) = some (va_rf (if j < 4 then some (o + (k + (n + 1 + j))) else none))
      rw [if_pos hj]
      show some (Value.ref (o + (k + n) + 1 + j)) = some (Value.ref (o + (k + (n + 1 + j))))
      rw [show o + (k + n) + 1 + j = o + (k + (n + 1 + j)) by omega]
    · rw [Array.getElem?_eq_none (by rw [o3]; omega), Array.getElem?_eq_none (by rw [arrV_size]; omega)]
  have hIN : IN G o k (n + 5) E (mF G o k n F) H0 (Jvm.Free.Multi.fill (T.setVm vm₁) (G.2 5) (G.2 0) 4 4 (defaultValue .int) 4).heap locs := by
    refine ⟨fun i q hq => ?_, ⟨Nat.le_trans hI.2.1.1 (by rw [f1, hz]; omega), fun x h1 h2 => ?_, hI.2.1.2.2⟩, hI.2.2⟩
    · obtain ⟨hi, rfl⟩ := wn_inv hq
      by_cases h1 : i < k + n
      · have e3 : ex E k (mF G o k n F) i = ex E k F i := by
          unfold ex
          by_cases q : i < k
          · rw [if_pos q, if_pos q]
          · rw [if_neg q, if_neg q]
            exact if_pos (by omega)
        rw [e3]
        refine (hI.1 i _ (wn_at h1 rfl)).kept ?_
        rw [fo _ (by show o + i < T.heap.size; omega)]
        show T.heap[o + i]? = H[o + i]?
        rw [hT]
      · have e3 : ex E k (mF G o k n F) i = mF G o k n F (i - k) := if_neg (by omega)
        rw [e3]
        by_cases h2 : i = k + n
        · have e4 : mF G o k n F (i - k) = .inl (G.2 5, 4, .inr (.inr (.inr (.inr (fun i => if i < 4 then some (o + (k + (n + 1 + i))) else none))))) := (if_neg (by omega)).trans (if_pos (by omega))
          rw [e4, h2]
          show (Jvm.Free.Multi.fill (T.setVm vm₁) (G.2 5) (G.2 0) 4 4 (defaultValue .int) 4).heap[o + (k + n)]? = some (vp_cell _ _)
          rw [f2, hcell]
          rfl
        · have e4 : mF G o k n F (i - k) = .inl (G.2 0, 4, .inl (fun _ => 0)) := (if_neg (by omega)).trans (if_neg (by omega))
          rw [e4]
          show (Jvm.Free.Multi.fill (T.setVm vm₁) (G.2 5) (G.2 0) 4 4 (defaultValue .int) 4).heap[o + i]? = some (vp_cell _ _)
          have h3 := fi (i - (k + n) - 1) (by omega)
          rw [show o + (k + n) + 1 + (i - (k + n) - 1) = o + i by omega] at h3
          rw [h3]
          exact congrArg some (arrV_new _ _ _)
    · rw [fo x (by rw [hT]; exact Nat.lt_of_lt_of_le h1 hI.2.1.1)]
      show T.heap[x]? = H0[x]?
      rw [hT]
      exact hI.2.1.2.1 x h1 h2
  obtain ⟨t', a1, b1⟩ := kk _ hIN _ rfl X1
  refine ⟨t', st t' ?_, b1⟩
  rw [hh2]
  exact a1
theorem eu_n {F : Nat → va_E} {j a : Nat} {x : va_E} (h : a ≠ j) : eu F j x a = F a := if_neg h
theorem ex_l {E F : Nat → va_E} {k a : Nat} (h : a < k) : ex E k F a = E a := if_pos h
theorem ex_g {E F : Nat → va_E} {k a : Nat} (h : ¬ a < k) : ex E k F a = F (a - k) := if_neg h
set_option maxRecDepth 100000 in
set_option maxHeartbeats 4000000 in
theorem c_X2_init (l : Launch) (G : GG) (o k : Nat) (E : Nat → va_E) (hx0 : E k = .inr (2, [.null, .null, .null, .null, .int 0, .int 0])) : Cn l yX2_init cX2_init 2 1 20 8 32 G o k 9 E (FSet G o k) := by
  refine Cn.mk (by decide +kernel) (by decide) rfl hx0 ?_
  intro p e s m args below meth c hE hr hlocks hin hK hsz hI ls hl
  have hx := hE.1
  have hb := hE.2.1
  refine lv_aload_n hx hb dX2_init_0 rfl (lv_at hl 0 rfl) ?_
  refine y_obj hE mw_29 hl.1 (Nat.le_of_ble_eq_true rfl) (Nat.le_of_ble_eq_true rfl) dX2_init_1 ?_
  refine lv_aload_n hx hb dX2_init_4 rfl (lv_at hl 0 rfl) ?_
  refine lv_iconst (v := 4) hx hb dX2_init_5 (by decide) ?_
  refine lv_iconst (v := 4) hx hb dX2_init_6 (by decide) ?_
  refine y_sz hI (by decide) (by omega) (fun hz => ?_)
  refine y_multi hE hK hI hz mw_30 (Nat.le_of_ble_eq_true rfl) (Nat.le_of_ble_eq_true rfl) dX2_init_7 (fun H hI => ?_)
  refine y_putF (j := 0) (ci := 2) (fs := [.null, .null, .null, .null, .int 0, .int 0]) (v := .ref (o + (k + 1))) (ty := .array (.array .int)) (C := RX2) (T := TX2) (N := 6) hE hK hI (by decide) inG2 tyX2 tyX2_ok nmX2 rfl rfl 0 (by decide) mw_32 rfl hin rfl (by decide +kernel) rfl rfl (Nat.le_of_ble_eq_true rfl) dX2_init_11 (fun H locs hI => ?_)
  refine lv_aload_n hx hb dX2_init_14 rfl (lv_at hl 0 rfl) ?_
  refine lv_iconst (v := 4) hx hb dX2_init_15 (by decide) ?_
  refine y_sz hI (by decide) (by omega) (fun hz => ?_)
  refine y_newi (N := 4) hE hK hI hz (by decide) (by decide) (Nat.le_of_ble_eq_true rfl) (Nat.le_of_ble_eq_true rfl) (Nat.le_of_ble_eq_true rfl) dX2_init_16 (fun H hI => ?_)
  refine y_putF (j := 0) (ci := 2) (fs := [.ref (o + (k + 1)), .null, .null, .null, .int 0, .int 0]) (v := .ref (o + (k + 6))) (ty := .array .int) (C := RX2) (T := TX2) (N := 6) hE hK hI (by decide) inG2 tyX2 tyX2_ok nmX2 rfl rfl 1 (by decide) mw_36 rfl hin rfl (by decide +kernel) rfl rfl (Nat.le_of_ble_eq_true rfl) dX2_init_18 (fun H locs hI => ?_)
  refine lv_aload_n hx hb dX2_init_21 rfl (lv_at hl 0 rfl) ?_
  refine lv_iconst (v := 4) hx hb dX2_init_22 (by decide) ?_
  refine y_sz hI (by decide) (by omega) (fun hz => ?_)
  refine y_newi (N := 4) hE hK hI hz (by decide) (by decide) (Nat.le_of_ble_eq_true rfl) (Nat.le_of_ble_eq_true rfl) (Nat.le_of_ble_eq_true rfl) dX2_init_23 (fun H hI => ?_)
  refine y_putF (j := 0) (ci := 2) (fs := [.ref (o + (k + 1)), .ref (o + (k + 6)), .null, .null, .int 0, .int 0]) (v := .ref (o + (k + 7))) (ty := .array .int) (C := RX2) (T := TX2) (N := 6) hE hK hI (by decide) inG2 tyX2 tyX2_ok nmX2 rfl rfl 2 (by decide) mw_39 rfl hin rfl (by decide +kernel) rfl rfl (Nat.le_of_ble_eq_true rfl) dX2_init_25 (fun H locs hI => ?_)
  refine lv_aload_n hx hb dX2_init_28 rfl (lv_at hl 0 rfl) ?_
  refine lv_iconst (v := 4) hx hb dX2_init_29 (by decide) ?_
  refine y_sz hI (by decide) (by omega) (fun hz => ?_)
  refine y_newi (N := 4) hE hK hI hz (by decide) (by decide) (Nat.le_of_ble_eq_true rfl) (Nat.le_of_ble_eq_true rfl) (Nat.le_of_ble_eq_true rfl) dX2_init_30 (fun H hI => ?_)
  refine y_putF (j := 0) (ci := 2) (fs := [.ref (o + (k + 1)), .ref (o + (k + 6)), .ref (o + (k + 7)), .null, .int 0, .int 0]) (v := .ref (o + (k + 8))) (ty := .array .int) (C := RX2) (T := TX2) (N := 6) hE hK hI (by decide) inG2 tyX2 tyX2_ok nmX2 rfl rfl 3 (by decide) mw_42 rfl hin rfl (by decide +kernel) rfl rfl (Nat.le_of_ble_eq_true rfl) dX2_init_32 (fun H locs hI => ?_)
  refine lv_aload_n hx hb dX2_init_35 rfl (lv_at hl 0 rfl) ?_
  refine lv_bipush (v := 10) hx hb dX2_init_36 (by decide) ?_
  refine y_put (j := 0) (ci := 2) (fs := [.ref (o + (k + 1)), .ref (o + (k + 6)), .ref (o + (k + 7)), .ref (o + (k + 8)), .int 0, .int 0]) (v := .int 10) (ty := .int) (C := RX2) (T := TX2) (N := 6) hE hK hI (by decide) inG2 tyX2 tyX2_ok nmX2 rfl rfl 4 (by decide) mw_45 rfl (by decide +kernel) rfl rfl (Nat.le_of_ble_eq_true rfl) dX2_init_38 (fun H locs hI => ?_)
  refine lv_aload_n hx hb dX2_init_41 rfl (lv_at hl 0 rfl) ?_
  refine lv_iconst (v := 0) hx hb dX2_init_42 (by decide) ?_
  refine y_put (j := 0) (ci := 2) (fs := [.ref (o + (k + 1)), .ref (o + (k + 6)), .ref (o + (k + 7)), .ref (o + (k + 8)), .int 10, .int 0]) (v := .int 0) (ty := .int) (C := RX2) (T := TX2) (N := 6) hE hK hI (by decide) inG2 tyX2 tyX2_ok nmX2 rfl rfl 5 (by decide) mw_48 rfl (by decide +kernel) rfl rfl (Nat.le_of_ble_eq_true rfl) dX2_init_43 (fun H locs hI => ?_)
  refine lv_iconst (v := 0) hx hb dX2_init_46 (by decide) ?_
  refine lv_istore_n (lv' := [(1, .int 0), (0, .ref (o + (k + 0)))]) hx hb dX2_init_47 rfl hl (by decide) rfl (fun ls hl => ?_)
  refine lv_iload_n hx hb dX2_init_48 rfl (lv_at hl 0 rfl) ?_
  refine lv_iconst (v := 4) hx hb dX2_init_49 (by decide) ?_
  refine lv_icmp_ge (tgt := 76) hx hb dX2_init_50 (by decide) (fun q => absurd q (by decide)) (fun _ => ?_)
  refine lv_aload_n hx hb dX2_init_53 rfl (lv_at hl 1 rfl) ?_
  refine y_get (j := 0) (fs := [.ref (o + (k + 1)), .ref (o + (k + 6)), .ref (o + (k + 7)), .ref (o + (k + 8)), .int 10, .int 0]) (C := RX2) (T := TX2) (N := 6) hE hK hI (by decide) inG2 rfl rfl 0 (by decide) mw_32 rfl dX2_init_54 ?_
  refine lv_iload_n hx hb dX2_init_57 rfl (lv_at hl 0 rfl) ?_
  refine y_aald (j := 1) (i := 0) (t0 := 5) (q := o + (k + 2)) (fr := (fun i => if i < 4 then some (o + (k + (1 + 1 + i))) else none)) hE hK hI (by decide) rfl rfl rfl (by decide) (by decide) rfl rfl dX2_init_58 ?_
  refine lv_iload_n hx hb dX2_init_59 rfl (lv_at hl 0 rfl) ?_
  refine lv_bipush (v := 10) hx hb dX2_init_60 (by decide) ?_
  refine y_iast (j := 2) (i := 0) (x := 10) (f := (fun _ => 0)) hE hK hI (by decide) rfl (by decide) (by decide) (by decide) dX2_init_62 (fun H locs hI => ?_)
  refine lv_aload_n hx hb dX2_init_63 rfl (lv_at hl 1 rfl) ?_
  refine y_get (j := 0) (fs := [.ref (o + (k + 1)), .ref (o + (k + 6)), .ref (o + (k + 7)), .ref (o + (k + 8)), .int 10, .int 0]) (C := RX2) (T := TX2) (N := 6) hE hK hI (by decide) inG2 rfl rfl 2 (by decide) mw_39 rfl dX2_init_64 ?_
  refine lv_iload_n hx hb dX2_init_67 rfl (lv_at hl 0 rfl) ?_
  refine lv_iconst (v := 1) hx hb dX2_init_68 (by decide) ?_
  refine y_iast (j := 7) (i := 0) (x := 1) (f := (fun _ => 0)) hE hK hI (by decide) rfl (by decide) (by decide) (by decide) dX2_init_69 (fun H locs hI => ?_)
  refine lv_iinc (v := 1) (lv' := [(1, .int 1), (0, .ref (o + (k + 0)))]) hx hb dX2_init_70 hl (k := 0) rfl (by decide) (by decide) rfl (fun ls hl => ?_)
  refine lv_goto (tgt := 48) hx hb dX2_init_73 (by decide) ?_
  refine lv_iload_n hx hb dX2_init_48 rfl (lv_at hl 0 rfl) ?_
  refine lv_iconst (v := 4) hx hb dX2_init_49 (by decide) ?_
  refine lv_icmp_ge (tgt := 76) hx hb dX2_init_50 (by decide) (fun q => absurd q (by decide)) (fun _ => ?_)
  refine lv_aload_n hx hb dX2_init_53 rfl (lv_at hl 1 rfl) ?_
  refine y_get (j := 0) (fs := [.ref (o + (k + 1)), .ref (o + (k + 6)), .ref (o + (k + 7)), .ref (o + (k + 8)), .int 10, .int 0]) (C := RX2) (T := TX2) (N := 6) hE hK hI (by decide) inG2 rfl rfl 0 (by decide) mw_32 rfl dX2_init_54 ?_
  refine lv_iload_n hx hb dX2_init_57 rfl (lv_at hl 0 rfl) ?_
  refine y_aald (j := 1) (i := 1) (t0 := 5) (q := o + (k + 3)) (fr := (fun i => if i < 4 then some (o + (k + (1 + 1 + i))) else none)) hE hK hI (by decide) rfl rfl rfl (by decide) (by decide) rfl rfl dX2_init_58 ?_
  refine lv_iload_n hx hb dX2_init_59 rfl (lv_at hl 0 rfl) ?_
  refine lv_bipush (v := 10) hx hb dX2_init_60 (by decide) ?_
  refine y_iast (j := 3) (i := 1) (x := 10) (f := (fun _ => 0)) hE hK hI (by decide) rfl (by decide) (by decide) (by decide) dX2_init_62 (fun H locs hI => ?_)
  refine lv_aload_n hx hb dX2_init_63 rfl (lv_at hl 1 rfl) ?_
  refine y_get (j := 0) (fs := [.ref (o + (k + 1)), .ref (o + (k + 6)), .ref (o + (k + 7)), .ref (o + (k + 8)), .int 10, .int 0]) (C := RX2) (T := TX2) (N := 6) hE hK hI (by decide) inG2 rfl rfl 2 (by decide) mw_39 rfl dX2_init_64 ?_
  refine lv_iload_n hx hb dX2_init_67 rfl (lv_at hl 0 rfl) ?_
  refine lv_iconst (v := 1) hx hb dX2_init_68 (by decide) ?_
  refine y_iast (j := 7) (i := 1) (x := 1) (f := (upd (fun _ => 0) 0 1)) hE hK hI (by decide) rfl (by decide) (by decide) (by decide) dX2_init_69 (fun H locs hI => ?_)
  refine lv_iinc (v := 2) (lv' := [(1, .int 2), (0, .ref (o + (k + 0)))]) hx hb dX2_init_70 hl (k := 0) rfl (by decide) (by decide) rfl (fun ls hl => ?_)
  refine lv_goto (tgt := 48) hx hb dX2_init_73 (by decide) ?_
  refine lv_iload_n hx hb dX2_init_48 rfl (lv_at hl 0 rfl) ?_
  refine lv_iconst (v := 4) hx hb dX2_init_49 (by decide) ?_
  refine lv_icmp_ge (tgt := 76) hx hb dX2_init_50 (by decide) (fun q => absurd q (by decide)) (fun _ => ?_)
  refine lv_aload_n hx hb dX2_init_53 rfl (lv_at hl 1 rfl) ?_
  refine y_get (j := 0) (fs := [.ref (o + (k + 1)), .ref (o + (k + 6)), .ref (o + (k + 7)), .ref (o + (k + 8)), .int 10, .int 0]) (C := RX2) (T := TX2) (N := 6) hE hK hI (by decide) inG2 rfl rfl 0 (by decide) mw_32 rfl dX2_init_54 ?_
  refine lv_iload_n hx hb dX2_init_57 rfl (lv_at hl 0 rfl) ?_
  refine y_aald (j := 1) (i := 2) (t0 := 5) (q := o + (k + 4)) (fr := (fun i => if i < 4 then some (o + (k + (1 + 1 + i))) else none)) hE hK hI (by decide) rfl rfl rfl (by decide) (by decide) rfl rfl dX2_init_58 ?_
  refine lv_iload_n hx hb dX2_init_59 rfl (lv_at hl 0 rfl) ?_
  refine lv_bipush (v := 10) hx hb dX2_init_60 (by decide) ?_
  refine y_iast (j := 4) (i := 2) (x := 10) (f := (fun _ => 0)) hE hK hI (by decide) rfl (by decide) (by decide) (by decide) dX2_init_62 (fun H locs hI => ?_)
  refine lv_aload_n hx hb dX2_init_63 rfl (lv_at hl 1 rfl) ?_
  refine y_get (j := 0) (fs := [.ref (o + (k + 1)), .ref (o + (k + 6)), .ref (o + (k + 7)), .ref (o + (k + 8)), .int 10, .int 0]) (C := RX2) (T := TX2) (N := 6) hE hK hI (by decide) inG2 rfl rfl 2 (by decide) mw_39 rfl dX2_init_64 ?_
  refine lv_iload_n hx hb dX2_init_67 rfl (lv_at hl 0 rfl) ?_
  refine lv_iconst (v := 1) hx hb dX2_init_68 (by decide) ?_
  refine y_iast (j := 7) (i := 2) (x := 1) (f := (upd (upd (fun _ => 0) 0 1) 1 1)) hE hK hI (by decide) rfl (by decide) (by decide) (by decide) dX2_init_69 (fun H locs hI => ?_)
  refine lv_iinc (v := 3) (lv' := [(1, .int 3), (0, .ref (o + (k + 0)))]) hx hb dX2_init_70 hl (k := 0) rfl (by decide) (by decide) rfl (fun ls hl => ?_)
  refine lv_goto (tgt := 48) hx hb dX2_init_73 (by decide) ?_
  refine lv_iload_n hx hb dX2_init_48 rfl (lv_at hl 0 rfl) ?_
  refine lv_iconst (v := 4) hx hb dX2_init_49 (by decide) ?_
  refine lv_icmp_ge (tgt := 76) hx hb dX2_init_50 (by decide) (fun q => absurd q (by decide)) (fun _ => ?_)
  refine lv_aload_n hx hb dX2_init_53 rfl (lv_at hl 1 rfl) ?_
  refine y_get (j := 0) (fs := [.ref (o + (k + 1)), .ref (o + (k + 6)), .ref (o + (k + 7)), .ref (o + (k + 8)), .int 10, .int 0]) (C := RX2) (T := TX2) (N := 6) hE hK hI (by decide) inG2 rfl rfl 0 (by decide) mw_32 rfl dX2_init_54 ?_
  refine lv_iload_n hx hb dX2_init_57 rfl (lv_at hl 0 rfl) ?_
  refine y_aald (j := 1) (i := 3) (t0 := 5) (q := o + (k + 5)) (fr := (fun i => if i < 4 then some (o + (k + (1 + 1 + i))) else none)) hE hK hI (by decide) rfl rfl rfl (by decide) (by decide) rfl rfl dX2_init_58 ?_
  refine lv_iload_n hx hb dX2_init_59 rfl (lv_at hl 0 rfl) ?_
  refine lv_bipush (v := 10) hx hb dX2_init_60 (by decide) ?_
  refine y_iast (j := 5) (i := 3) (x := 10) (f := (fun _ => 0)) hE hK hI (by decide) rfl (by decide) (by decide) (by decide) dX2_init_62 (fun H locs hI => ?_)
  refine lv_aload_n hx hb dX2_init_63 rfl (lv_at hl 1 rfl) ?_
  refine y_get (j := 0) (fs := [.ref (o + (k + 1)), .ref (o + (k + 6)), .ref (o + (k + 7)), .ref (o + (k + 8)), .int 10, .int 0]) (C := RX2) (T := TX2) (N := 6) hE hK hI (by decide) inG2 rfl rfl 2 (by decide) mw_39 rfl dX2_init_64 ?_
  refine lv_iload_n hx hb dX2_init_67 rfl (lv_at hl 0 rfl) ?_
  refine lv_iconst (v := 1) hx hb dX2_init_68 (by decide) ?_
  refine y_iast (j := 7) (i := 3) (x := 1) (f := (upd (upd (upd (fun _ => 0) 0 1) 1 1) 2 1)) hE hK hI (by decide) rfl (by decide) (by decide) (by decide) dX2_init_69 (fun H locs hI => ?_)
  refine lv_iinc (v := 4) (lv' := [(1, .int 4), (0, .ref (o + (k + 0)))]) hx hb dX2_init_70 hl (k := 0) rfl (by decide) (by decide) rfl (fun ls hl => ?_)
  refine lv_goto (tgt := 48) hx hb dX2_init_73 (by decide) ?_
  refine lv_iload_n hx hb dX2_init_48 rfl (lv_at hl 0 rfl) ?_
  refine lv_iconst (v := 4) hx hb dX2_init_49 (by decide) ?_
  refine lv_icmp_ge (tgt := 76) hx hb dX2_init_50 (by decide) (fun _ => ?_) (fun q => absurd (by decide) q)
  refine y_ret hE hr hlocks hI rfl rfl rfl (fun j hj => ?_) dX2_init_76
  rcases (show j = 0 ∨ j = 1 ∨ j = 2 ∨ j = 3 ∨ j = 4 ∨ j = 5 ∨ j = 6 ∨ j = 7 ∨ j = 8 by omega) with rfl | rfl | rfl | rfl | rfl | rfl | rfl | rfl | rfl <;> rfl
def iniP (j : Nat) : Nat → Int32 := if j = 1 then upd (fun _ => 0) 4 10 else if j < 3 then fun _ => 0 else if j < 7 then upd (fun _ => 0) (j - 3) 10 else if j = 8 then wk1 else if j = 10 then upd (fun _ => 0) 5 (-1) else fun _ => 0
def FPla (G : GG) (o k : Nat) : Nat → va_E := fun j => pshp G o k j (iniP j)
theorem iniP_l {j : Nat} (h : 13 ≤ j) : iniP j = fun _ => 0 := by
  unfold iniP
  rw [if_neg (by omega), if_neg (by omega), if_neg (by omega), if_neg (by omega), if_neg (by omega)]
set_option maxRecDepth 100000 in
set_option maxHeartbeats 4000000 in
theorem c_X1_init (l : Launch) (G : GG) (o k : Nat) (E : Nat → va_E) (hx0 : E k = .inr (1, [.null, .null])) : Cn l yX1_init cX1_init 1 3 61 92 451 G o k 93 E (FPla G o k) := by
  refine Cn.mk (by decide +kernel) (by decide) rfl hx0 ?_
  intro p e s m args below meth c hE hr hlocks hin hK hsz hI ls hl
  have hx := hE.1
  have hb := hE.2.1
  refine lv_aload_n hx hb dX1_init_0 rfl (lv_at hl 0 rfl) ?_
  refine y_obj hE mw_23 hl.1 (Nat.le_of_ble_eq_true rfl) (Nat.le_of_ble_eq_true rfl) dX1_init_1 ?_
  refine lv_aload_n hx hb dX1_init_4 rfl (lv_at hl 0 rfl) ?_
  refine y_sz hI (by decide) (by omega) (fun hz => ?_)
  refine y_new (ci := 2) (fs := [.null, .null, .null, .null, .int 0, .int 0]) (C := RX2) (T := TX2) (N := 6) hE hK hI hz inG2 tyX2 tyX2_ok rfl dfX2 mw_24 mw_25 mw_3 (Nat.le_of_ble_eq_true rfl) (Nat.le_of_ble_eq_true rfl) dX1_init_5 (fun H hI => ?_)
  refine lv_dup hx hb dX1_init_8 rfl ?_
  refine y_sz hI (by decide) (by omega) (fun hz => ?_)
  refine y_callI (t := 1) (m2 := 9) (Fn := FSet G o (k + 1)) hE hK hI hz (c_X2_init l G o (k + 1) _ ex_at) mw_28 mw_27 mw_3 mw_26 rfl (by decide +kernel) hl.1 rfl (Nat.le_of_ble_eq_true rfl) ⟨(Nat.le_of_ble_eq_true rfl), (Nat.le_of_ble_eq_true rfl)⟩ ⟨(Nat.le_of_ble_eq_true rfl), (Nat.le_of_ble_eq_true rfl)⟩ dX1_init_9 (fun H locs hI => ?_)
  refine y_putF (j := 0) (ci := 1) (fs := [.null, .null]) (v := .ref (o + (k + 1))) (ty := .object "GrindingCircuit$Settings") (C := RX1) (T := TX1) (N := 2) hE hK hI (by decide) inG1 tyX1 tyX1_ok nmX1 rfl rfl 0 (by decide) mw_138 rfl hin rfl (by decide +kernel) rfl rfl (Nat.le_of_ble_eq_true rfl) dX1_init_12 (fun H locs hI => ?_)
  refine lv_aload_n hx hb dX1_init_15 rfl (lv_at hl 0 rfl) ?_
  refine y_sz hI (by decide) (by omega) (fun hz => ?_)
  refine y_new (ci := 3) (fs := [.null, .null, .int 0, .int 0, .int 0, .int 0, .int 0, .int 0, .int 0]) (C := RX3) (T := TX3) (N := 9) hE hK hI hz inG3 tyX3 tyX3_ok rfl dfX3 mw_65 mw_66 mw_4 (Nat.le_of_ble_eq_true rfl) (Nat.le_of_ble_eq_true rfl) dX1_init_16 (fun H hI => ?_)
  refine lv_dup hx hb dX1_init_19 rfl ?_
  refine y_sz hI (by decide) (by omega) (fun hz => ?_)
  refine y_callI (t := 10) (m2 := 83) (Fn := FSim G o (k + 10)) hE hK hI hz (c_X3_init l G o (k + 10) _ ex_at) mw_69 mw_68 mw_4 mw_67 rfl (by decide +kernel) hl.1 rfl (Nat.le_of_ble_eq_true rfl) ⟨(Nat.le_of_ble_eq_true rfl), (Nat.le_of_ble_eq_true rfl)⟩ ⟨(Nat.le_of_ble_eq_true rfl), (Nat.le_of_ble_eq_true rfl)⟩ dX1_init_20 (fun H locs hI => ?_)
  refine y_putF (j := 0) (ci := 1) (fs := [.ref (o + (k + 1)), .null]) (v := .ref (o + (k + 10))) (ty := .object "GrindingCircuit$Simulation") (C := RX1) (T := TX1) (N := 2) hE hK hI (by decide) inG1 tyX1 tyX1_ok nmX1 rfl rfl 1 (by decide) mw_140 rfl hin rfl (by decide +kernel) rfl rfl (Nat.le_of_ble_eq_true rfl) dX1_init_23 (fun H locs hI => ?_)
  refine y_ret hE hr hlocks hI rfl rfl rfl (fun j hj => ?_) dX1_init_26
  by_cases hj13 : j < 13
  · rcases (show j = 0 ∨ j = 1 ∨ j = 2 ∨ j = 3 ∨ j = 4 ∨ j = 5 ∨ j = 6 ∨ j = 7 ∨ j = 8 ∨ j = 9 ∨ j = 10 ∨ j = 11 ∨ j = 12 by omega) with rfl | rfl | rfl | rfl | rfl | rfl | rfl | rfl | rfl | rfl | rfl | rfl | rfl
    · rfl
    · rfl
    · exact congrArg (fun fr => (Sum.inl (G.2 5, 4, Sum.inr (Sum.inr (Sum.inr (Sum.inr fr)))) : va_E)) (funext fun i => by
        show (if i < 4 then some (o + (k + 1 + (1 + 1 + i))) else none) = if i < 4 then some (o + (k + (3 + i))) else none
        rw [show k + 1 + (1 + 1 + i) = k + (3 + i) by omega])
    · rfl
    · rfl
    · rfl
    · rfl
    · rfl
    · rfl
    · rfl
    · rfl
    · exact congrArg (fun fr => (Sum.inl (G.2 3, 40, Sum.inr (Sum.inr (Sum.inr (Sum.inr fr)))) : va_E)) (funext fun i => by
        show (if i < 40 then some (o + (k + 10 + (3 + 2 * i))) else none) = if i < 40 then some (o + (k + (13 + 2 * i))) else none
        rw [show k + 10 + (3 + 2 * i) = k + (13 + 2 * i) by omega])
    · rfl
  · obtain ⟨q, rfl⟩ : ∃ q, j = q + 13 := ⟨j - 13, by omega⟩
    unfold FPla
    rw [iniP_l (by omega)]
    refine (if_neg (by omega)).trans ((if_neg (by omega)).trans ?_)
    show FSi G o (k + 10) 40 (q + 13 - 10) = if q % 2 = 0 then .inr (0, [.ref (o + (k + (q + 14))), .int 0, .int 0, .int 0, .int 0]) else .inl (G.2 0, 4, .inl (fun _ => 0))
    by_cases h2 : q % 2 = 0
    · rw [FSi_lot (by omega) (by omega), if_pos h2, show k + 10 + (q + 13 - 10 + 1) = k + (q + 14) by omega]
    · rw [FSi_m (by omega) (by omega), if_neg h2]
def X0i (k : Nat) : Nat → Int32 := if k = 0 then fun _ => 0 else if k < 94 then iniP (k - 1) else if k = 94 then fun _ => 0 else if k < 188 then iniP (k - 95) else if k < 281 then iniP (k - 188) else if k = 282 then upd (fun _ => 0) 3 1 else if k = 286 then at0 else fun _ => 0
def Y0i (k : Nat) : Nat → Int64 := if k = 282 then vp_updL (fun _ => 0) 2 1 else fun _ => 0
set_option maxRecDepth 100000 in
set_option maxHeartbeats 4000000 in
theorem c_X5_init (l : Launch) (G : GG) (o : Nat) (E : Nat → va_E) (hx0 : E 0 = .inr (5, [.null, .null, .null, .null])) : Cn l yX5_init cX5_init 1 4 81 284 1375 G o 0 285 E (fun j => shp G o j (X0i j) (Y0i j)) := by
  refine Cn.mk (by decide +kernel) (by decide) rfl hx0 ?_
  intro p e s m args below meth c hE hr hlocks hin hK hsz hI ls hl
  have hx := hE.1
  have hb := hE.2.1
  refine lv_aload_n hx hb dX5_init_0 rfl (lv_at hl 0 rfl) ?_
  refine y_obj hE mw_15 hl.1 (Nat.le_of_ble_eq_true rfl) (Nat.le_of_ble_eq_true rfl) dX5_init_1 ?_
  refine lv_aload_n hx hb dX5_init_4 rfl (lv_at hl 0 rfl) ?_
  refine y_sz hI (by decide) (by omega) (fun hz => ?_)
  refine y_new (ci := 1) (fs := [.null, .null]) (C := RX1) (T := TX1) (N := 2) hE hK hI hz inG1 tyX1 tyX1_ok rfl dfX1 mw_18 mw_19 mw_2 (Nat.le_of_ble_eq_true rfl) (Nat.le_of_ble_eq_true rfl) dX5_init_5 (fun H hI => ?_)
  refine lv_dup hx hb dX5_init_8 rfl ?_
  refine y_sz hI (by decide) (by omega) (fun hz => ?_)
  refine y_callN (t := 1) (m2 := 93) (Fn := FPla G o (0 + 1)) hE hK hI hz (c_X1_init l G o (0 + 1) _ ex_at) mw_22 mw_21 mw_2 hK.2.1.1 rfl (by decide +kernel) hl.1 rfl (Nat.le_of_ble_eq_true rfl) ⟨(Nat.le_of_ble_eq_true rfl), (Nat.le_of_ble_eq_true rfl)⟩ ⟨(Nat.le_of_ble_eq_true rfl), (Nat.le_of_ble_eq_true rfl)⟩ dX5_init_9 (fun H locs hI => ?_)
  refine y_putF (j := 0) (ci := 5) (fs := [.null, .null, .null, .null]) (v := .ref (o + (0 + 1))) (ty := .object "GrindingCircuit$Plant") (C := RX5) (T := TX5) (N := 4) hE hK hI (by decide) inG5 tyX5 tyX5_ok nmX5 rfl rfl 0 (by decide) mw_172 rfl hin rfl (by decide +kernel) rfl rfl (Nat.le_of_ble_eq_true rfl) dX5_init_12 (fun H locs hI => ?_)
  refine lv_aload_n hx hb dX5_init_15 rfl (lv_at hl 0 rfl) ?_
  refine lv_iconst (v := 2) hx hb dX5_init_16 (by decide) ?_
  refine y_sz hI (by decide) (by omega) (fun hz => ?_)
  refine y_newq (N := 2) (t0 := 4) hE hK hI hz hK.2.2.2.1 rfl mw_18 (by decide) (by decide) (Nat.le_of_ble_eq_true rfl) (Nat.le_of_ble_eq_true rfl) (Nat.le_of_ble_eq_true rfl) dX5_init_17 (fun H hI => ?_)
  refine lv_dup hx hb dX5_init_20 rfl ?_
  refine lv_iconst (v := 0) hx hb dX5_init_21 (by decide) ?_
  refine y_sz hI (by decide) (by omega) (fun hz => ?_)
  refine y_new (ci := 1) (fs := [.null, .null]) (C := RX1) (T := TX1) (N := 2) hE hK hI hz inG1 tyX1 tyX1_ok rfl dfX1 mw_18 mw_19 mw_2 (Nat.le_of_ble_eq_true rfl) (Nat.le_of_ble_eq_true rfl) dX5_init_22 (fun H hI => ?_)
  refine lv_dup hx hb dX5_init_25 rfl ?_
  refine y_sz hI (by decide) (by omega) (fun hz => ?_)
  refine y_callN (t := 95) (m2 := 93) (Fn := FPla G o (0 + 95)) hE hK hI hz (c_X1_init l G o (0 + 95) _ ex_at) mw_22 mw_21 mw_2 hK.2.1.1 rfl (by decide +kernel) hl.1 rfl (Nat.le_of_ble_eq_true rfl) ⟨(Nat.le_of_ble_eq_true rfl), (Nat.le_of_ble_eq_true rfl)⟩ ⟨(Nat.le_of_ble_eq_true rfl), (Nat.le_of_ble_eq_true rfl)⟩ dX5_init_26 (fun H locs hI => ?_)
  refine y_aast (j := 94) (j2 := 95) (i := 0) (t0 := 4) (ci := 1) (fr := (fun _ => none)) hE hK hI (by decide) rfl rfl (by decide) rfl rfl (by decide) (by decide) rfl dX5_init_29 (fun H locs hI => ?_)
  refine lv_dup hx hb dX5_init_30 rfl ?_
  refine lv_iconst (v := 1) hx hb dX5_init_31 (by decide) ?_
  refine y_sz hI (by decide) (by omega) (fun hz => ?_)
  refine y_new (ci := 1) (fs := [.null, .null]) (C := RX1) (T := TX1) (N := 2) hE hK hI hz inG1 tyX1 tyX1_ok rfl dfX1 mw_18 mw_19 mw_2 (Nat.le_of_ble_eq_true rfl) (Nat.le_of_ble_eq_true rfl) dX5_init_32 (fun H hI => ?_)
  refine lv_dup hx hb dX5_init_35 rfl ?_
  refine y_sz hI (by decide) (by omega) (fun hz => ?_)
  refine y_callN (t := 188) (m2 := 93) (Fn := FPla G o (0 + 188)) hE hK hI hz (c_X1_init l G o (0 + 188) _ ex_at) mw_22 mw_21 mw_2 hK.2.1.1 rfl (by decide +kernel) hl.1 rfl (Nat.le_of_ble_eq_true rfl) ⟨(Nat.le_of_ble_eq_true rfl), (Nat.le_of_ble_eq_true rfl)⟩ ⟨(Nat.le_of_ble_eq_true rfl), (Nat.le_of_ble_eq_true rfl)⟩ dX5_init_36 (fun H locs hI => ?_)
  refine y_aast (j := 94) (j2 := 188) (i := 1) (t0 := 4) (ci := 1) (fr := (va_up (fun _ => none) 0 (some (o + (0 + 95))))) hE hK hI (by decide) rfl rfl (by decide) rfl rfl (by decide) (by decide) rfl dX5_init_39 (fun H locs hI => ?_)
  refine y_putF (j := 0) (ci := 5) (fs := [.ref (o + (0 + 1)), .null, .null, .null]) (v := .ref (o + (0 + 94))) (ty := .array (.object "GrindingCircuit$Plant")) (C := RX5) (T := TX5) (N := 4) hE hK hI (by decide) inG5 tyX5 tyX5_ok nmX5 rfl rfl 1 (by decide) mw_173 rfl hin rfl (by decide +kernel) rfl rfl (Nat.le_of_ble_eq_true rfl) dX5_init_40 (fun H locs hI => ?_)
  refine lv_aload_n hx hb dX5_init_43 rfl (lv_at hl 0 rfl) ?_
  refine lv_iconst (v := 2) hx hb dX5_init_44 (by decide) ?_
  refine y_sz hI (by decide) (by omega) (fun hz => ?_)
  refine y_newz (N := 2) hE hK hI hz (by decide) (by decide) (Nat.le_of_ble_eq_true rfl) (Nat.le_of_ble_eq_true rfl) (Nat.le_of_ble_eq_true rfl) dX5_init_45 (fun H hI => ?_)
  refine y_putF (j := 0) (ci := 5) (fs := [.ref (o + (0 + 1)), .ref (o + (0 + 94)), .null, .null]) (v := .ref (o + (0 + 281))) (ty := .array .boolean) (C := RX5) (T := TX5) (N := 4) hE hK hI (by decide) inG5 tyX5 tyX5_ok nmX5 rfl rfl 2 (by decide) mw_174 rfl hin rfl (by decide +kernel) rfl rfl (Nat.le_of_ble_eq_true rfl) dX5_init_47 (fun H locs hI => ?_)
  refine lv_aload_n hx hb dX5_init_50 rfl (lv_at hl 0 rfl) ?_
  refine y_sz hI (by decide) (by omega) (fun hz => ?_)
  refine y_new (ci := 4) (fs := [.null, .null, .long 0, .int 0]) (C := RX4) (T := TX4) (N := 4) hE hK hI hz inG4 tyX4 tyX4_ok rfl dfX4 mw_148 mw_149 mw_6 (Nat.le_of_ble_eq_true rfl) (Nat.le_of_ble_eq_true rfl) dX5_init_51 (fun H hI => ?_)
  refine lv_dup hx hb dX5_init_54 rfl ?_
  refine y_sz hI (by decide) (by omega) (fun hz => ?_)
  refine y_callN (t := 282) (m2 := 3) (Fn := FSte G o (0 + 282)) hE hK hI hz (c_X4_init l G o (0 + 282) _ ex_at) mw_152 mw_151 mw_6 hK.2.1.2.2 rfl (by decide +kernel) hl.1 rfl (Nat.le_of_ble_eq_true rfl) ⟨(Nat.le_of_ble_eq_true rfl), (Nat.le_of_ble_eq_true rfl)⟩ ⟨(Nat.le_of_ble_eq_true rfl), (Nat.le_of_ble_eq_true rfl)⟩ dX5_init_55 (fun H locs hI => ?_)
  refine y_putF (j := 0) (ci := 5) (fs := [.ref (o + (0 + 1)), .ref (o + (0 + 94)), .ref (o + (0 + 281)), .null]) (v := .ref (o + (0 + 282))) (ty := .object "GrindingCircuit$SteadyState") (C := RX5) (T := TX5) (N := 4) hE hK hI (by decide) inG5 tyX5 tyX5_ok nmX5 rfl rfl 3 (by decide) mw_175 rfl hin rfl (by decide +kernel) rfl rfl (Nat.le_of_ble_eq_true rfl) dX5_init_58 (fun H locs hI => ?_)
  refine y_ret hE hr hlocks hI rfl rfl rfl (fun j hj => ?_) dX5_init_61
  rcases (show j = 0 ∨ j = 94 ∨ j = 281 ∨ j = 282 ∨ j = 283 ∨ j = 284 ∨ (1 ≤ j ∧ j < 94) ∨ (95 ≤ j ∧ j < 188) ∨ (188 ≤ j ∧ j < 281) by omega) with rfl | rfl | rfl | rfl | rfl | rfl | ⟨h1, h2⟩ | ⟨h1, h2⟩ | ⟨h1, h2⟩
  · rfl
  · exact congrArg (fun fr => (Sum.inl (G.2 4, 2, Sum.inr (Sum.inr (Sum.inr (Sum.inr fr)))) : va_E)) (funext fun i => by
      show va_up (va_up (fun _ => none) 0 (some (o + (0 + 95)))) 1 (some (o + (0 + 188))) i = if i = 0 then some (o + 95) else if i = 1 then some (o + 188) else none
      unfold va_up
      by_cases z0 : i = 0
      · subst z0; rfl
      · by_cases z1 : i = 1
        · subst z1; rfl
        · rw [if_neg z1, if_neg z0, if_neg z0, if_neg z1])
  · rfl
  · rfl
  · rfl
  · rfl
  · have e1 : shp G o j (X0i j) (Y0i j) = pshp G o 1 (j - 1) (iniP (j - 1)) := by
      have e0 : X0i j = iniP (j - 1) := by
        unfold X0i
        simp (disch := omega) only [if_pos, if_neg]
      rw [e0]
      unfold shp
      simp (disch := omega) only [if_pos, if_neg]
    rw [e1]
    rw [eu_n (by omega), ex_l (by omega), eu_n (by omega), eu_n (by omega), eu_n (by omega), eu_n (by omega), eu_n (by omega), ex_l (by omega), eu_n (by omega), eu_n (by omega), ex_l (by omega), eu_n (by omega), eu_n (by omega), eu_n (by omega), ex_g (by omega)]
    show pshp G o (0 + 1) (j - 1) (iniP (j - 1)) = _
    rw [Nat.zero_add]
  · have e1 : shp G o j (X0i j) (Y0i j) = pshp G o 95 (j - 95) (iniP (j - 95)) := by
      have e0 : X0i j = iniP (j - 95) := by
        unfold X0i
        simp (disch := omega) only [if_pos, if_neg]
      rw [e0]
      unfold shp
      simp (disch := omega) only [if_pos, if_neg]
    rw [e1]
    rw [eu_n (by omega), ex_l (by omega), eu_n (by omega), eu_n (by omega), eu_n (by omega), eu_n (by omega), eu_n (by omega), ex_l (by omega), eu_n (by omega), eu_n (by omega), ex_g (by omega)]
    show pshp G o (0 + 95) (j - 95) (iniP (j - 95)) = _
    rw [Nat.zero_add]
  · have e1 : shp G o j (X0i j) (Y0i j) = pshp G o 188 (j - 188) (iniP (j - 188)) := by
      have e0 : X0i j = iniP (j - 188) := by
        unfold X0i
        simp (disch := omega) only [if_pos, if_neg]
      rw [e0]
      unfold shp
      simp (disch := omega) only [if_pos, if_neg]
    rw [e1]
    rw [eu_n (by omega), ex_l (by omega), eu_n (by omega), eu_n (by omega), eu_n (by omega), eu_n (by omega), eu_n (by omega), ex_g (by omega)]
    show pshp G o (0 + 188) (j - 188) (iniP (j - 188)) = _
    rw [Nat.zero_add]
