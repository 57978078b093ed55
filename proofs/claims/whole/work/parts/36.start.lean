/-! ===== 36: the start: both sides as they are made are alike; the law as a whole ===== -/
set_option maxRecDepth 100000 in
theorem R2_0 : R2 X0i 0 := by
  refine ⟨⟨0, 0, 0, ⟨⟨?_, ?_, ?_, ?_, rfl, rfl, ⟨fun i j => if i = j then 10 else 0, ?_, ?_, ?_⟩, ?_, ?_, ?_, ⟨10, by decide, by decide, rfl⟩, ⟨0, by decide, rfl⟩⟩, ⟨rfl, rfl, by decide, rfl, rfl, rfl, rfl, ?_⟩, fun i hi => absurd hi (Nat.not_lt_zero i), fun i j hi => absurd hi (Nat.not_lt_zero i)⟩, rfl, rfl, by decide, by decide, Or.inl ⟨⟨rfl, rfl⟩, fun i hi => absurd hi (Nat.not_lt_zero i)⟩⟩, ?_⟩
  · intro i j hi hj
    rcases (show i = 0 ∨ i = 1 ∨ i = 2 ∨ i = 3 by omega) with rfl | rfl | rfl | rfl <;> rcases (show j = 0 ∨ j = 1 ∨ j = 2 ∨ j = 3 by omega) with rfl | rfl | rfl | rfl <;> rfl
  · intro j hj
    rcases (show j = 0 ∨ j = 1 ∨ j = 2 ∨ j = 3 by omega) with rfl | rfl | rfl | rfl <;> rfl
  · intro j hj
    rcases (show j = 0 ∨ j = 1 ∨ j = 2 ∨ j = 3 by omega) with rfl | rfl | rfl | rfl <;> rfl
  · intro j hj
    rcases (show j = 0 ∨ j = 1 ∨ j = 2 ∨ j = 3 by omega) with rfl | rfl | rfl | rfl <;> rfl
  · intro i j hi hj
    rcases (show i = 0 ∨ i = 1 ∨ i = 2 ∨ i = 3 by omega) with rfl | rfl | rfl | rfl <;> rcases (show j = 0 ∨ j = 1 ∨ j = 2 ∨ j = 3 by omega) with rfl | rfl | rfl | rfl <;> rfl
  · intro i hi
    rcases (show i = 0 ∨ i = 1 ∨ i = 2 ∨ i = 3 by omega) with rfl | rfl | rfl | rfl <;> rfl
  · intro i j h
    exact if_neg (by omega)
  · intro j hj
    exact ⟨0, by decide, by rcases (show j = 0 ∨ j = 1 ∨ j = 2 ∨ j = 3 by omega) with rfl | rfl | rfl | rfl <;> rfl⟩
  · intro j hj
    exact ⟨1, by decide, by rcases (show j = 0 ∨ j = 1 ∨ j = 2 ∨ j = 3 by omega) with rfl | rfl | rfl | rfl <;> rfl⟩
  · intro j hj
    exact ⟨0, by decide, by rcases (show j = 0 ∨ j = 1 ∨ j = 2 ∨ j = 3 by omega) with rfl | rfl | rfl | rfl <;> rfl⟩
  · intro j hj
    rcases (show j = 0 ∨ j = 1 ∨ j = 2 ∨ j = 3 by omega) with rfl | rfl | rfl | rfl <;> rfl
  · intro sl hs
    rcases (show sl = 0 ∨ sl = 1 by omega) with rfl | rfl
    · exact ⟨rfl, Or.inl rfl⟩
    · exact ⟨rfl, Or.inl rfl⟩
set_option maxRecDepth 100000 in
set_option maxHeartbeats 4000000 in
theorem whole_start {p : Program} {e : Env} {s : State} {m : MethodId} {below : List Frame} {meth : Method} {c : Code} (l : Launch) (hflags : l.flags = flags0) {b L : Nat} {xs : Nat → Int32} (hL : L ≤ 3072) (C0 : lw_At p s m meth c b L xs) : W p l e room_1 s m #[Value.ref b] below meth c s.heap [] 0 0 (lw_Z below #[Value.ref b] s) (entryFrame m ([Value.ref b] : List Value).toArray 4) := by
  obtain ⟨hx, hb, hr, hml, hown, hts, hX, hbl, hlocks, hgv⟩ := C0
  have hE : gE p m c cL_law 4 s #[Value.ref b] RL := ⟨hx, hb, hml, hown, fun w h => hts w (gt_tbl h)⟩
  have hT := hE.2.2.2.2
  have tb : ∀ w ∈ tables_1, w.before #[Value.ref b] s = true := fun w h => hts w (List.mem_append_right _ h)
  obtain ⟨c0, i0, k0⟩ := u_known (C := RX0) (T := TX0) (N := 5) hT inG0 (hT _ mw_73)
  obtain ⟨c1, i1, k1⟩ := u_known (C := RX1) (T := TX1) (N := 2) hT inG1 (hT _ mw_19)
  obtain ⟨c2, i2, k2⟩ := u_known (C := RX2) (T := TX2) (N := 6) hT inG2 (hT _ mw_25)
  obtain ⟨c3, i3, k3⟩ := u_known (C := RX3) (T := TX3) (N := 9) hT inG3 (hT _ mw_66)
  obtain ⟨c4, i4, k4⟩ := u_known (C := RX4) (T := TX4) (N := 4) hT inG4 (hT _ mw_149)
  obtain ⟨c5, i5, k5⟩ := u_known (C := RX5) (T := TX5) (N := 4) hT inG5 (hT _ mw_11)
  obtain ⟨c6, i6, k6⟩ := u_known (C := RX6) (T := TX6) (N := 7) hT inG6 (hT _ mw_475)
  have w31 : (Cond.arrayOver (.array .int)).before #[Value.ref b] s = true := tb _ (List.mem_of_getElem? (i := 31) (by decide +kernel))
  have w72 : (Cond.arrayOver (.object RX0)).before #[Value.ref b] s = true := tb _ (List.mem_of_getElem? (i := 72) (by decide +kernel))
  have w147 : (Cond.arrayOver (.object RX1)).before #[Value.ref b] s = true := tb _ (List.mem_of_getElem? (i := 147) (by decide +kernel))
  obtain ⟨aI, eI, dI, g1, g2, g3⟩ := Cond.arrayClass_spec (hT _ mw_64)
  obtain ⟨aJ, eJ, dJ, j1, j2, j3⟩ := Cond.arrayClass_spec (hT _ mw_171)
  obtain ⟨aZ, eZ, dZ, z1, z2, z3⟩ := Cond.arrayClass_spec (hT _ mw_170)
  obtain ⟨dL, aL, eL, l1, -, l2, l3, l4⟩ := Cond.arrayOver_spec w72
  obtain ⟨dP, aP, eP, p1, -, p2, p3, p4⟩ := Cond.arrayOver_spec w147
  obtain ⟨dQ, aQ, eQ, q1, -, q2, q3, q4⟩ := arrayOverA_spec w31
  obtain ⟨G, hG⟩ : ∃ G : GG, G = ((fun i => match i with | 0 => c0 | 1 => c1 | 2 => c2 | 3 => c3 | 4 => c4 | 5 => c5 | _ => c6, fun i => match i with | 0 => i0 | 1 => i1 | 2 => i2 | 3 => i3 | 4 => i4 | 5 => i5 | _ => i6), fun i => match i with | 0 => aI | 1 => aJ | 2 => aZ | 3 => aL | 4 => aP | _ => aQ) := ⟨_, rfl⟩
  have hKV : va_K G.1 vwCl (tysG G) s := by
    subst hG
    refine ⟨fun ci q h => ?_, fun t q h => ?_⟩
    · have hl : ci < 7 := (List.getElem?_eq_some_iff.mp h).1
      rcases (show ci = 0 ∨ ci = 1 ∨ ci = 2 ∨ ci = 3 ∨ ci = 4 ∨ ci = 5 ∨ ci = 6 by omega) with rfl | rfl | rfl | rfl | rfl | rfl | rfl <;> cases h
      · exact k0
      · exact k1
      · exact k2
      · exact k3
      · exact k4
      · exact k5
      · exact k6
    · have hl : t < 6 := (List.getElem?_eq_some_iff.mp h).1
      rcases (show t = 0 ∨ t = 1 ∨ t = 2 ∨ t = 3 ∨ t = 4 ∨ t = 5 by omega) with rfl | rfl | rfl | rfl | rfl | rfl <;> cases h
      · exact ⟨fun n z => ⟨fun k h => (by cases h), eI, g2, dI, g3⟩, g1⟩
      · exact ⟨fun n z => ⟨fun k h => (by cases h), eJ, j2, dJ, j3⟩, j1⟩
      · exact ⟨fun n z => ⟨fun k h => (by cases h), eZ, z2, dZ, z3⟩, z1⟩
      · exact ⟨fun n z => ⟨fun k h => (by cases h), eL, l2, dL, l3⟩, eL, dL, l2, l3, l1, l4⟩
      · exact ⟨fun n z => ⟨fun k h => (by cases h), eP, p2, dP, p3⟩, eP, dP, p2, p3, p1, p4⟩
      · exact ⟨fun n z => ⟨fun k h => (by cases h), eQ, q2, dQ, q3⟩, q4⟩
  have nw : ∀ {a : String} {i : Nat} {y : MethodName} {h : String}, Cond.methodLinkNest a i y h ∈ tables_1 → va_Nw (.methodLinkNest a i y h) s := fun hm => va_Nw.of rfl (tb _ hm)
  have hKK : KK G s := ⟨hKV, nw (List.mem_of_getElem? (i := 202) (by decide +kernel)), nw (List.mem_of_getElem? (i := 332) (by decide +kernel)), nw (List.mem_of_getElem? (i := 337) (by decide +kernel))⟩
  have hK : KC G s := ⟨hKK, ⟨nw (List.mem_of_getElem? (i := 20) (by decide +kernel)), nw (List.mem_of_getElem? (i := 74) (by decide +kernel)), nw (List.mem_of_getElem? (i := 150) (by decide +kernel))⟩, va_AO.of w72, va_AO.of w147, w31⟩
  clear hG
  obtain ⟨o, ho⟩ : ∃ o, s.heap.size = o := ⟨_, rfl⟩
  have hI : IN G o 0 0 (fun _ => .inr (0, [])) (fun _ => .inr (0, [])) s.heap s.heap [] := ⟨fun k q h => absurd (wn_inv h).1 (Nat.not_lt_zero k), va_S.rf, by omega⟩
  rw [lg_entry_eq]
  have hl := lv_entry ([.ref b]) (n := 4) (Nat.le_of_ble_eq_true rfl)
  generalize (lg_sl ([.ref b]) ++ List.replicate (4 - (lg_sl ([.ref b])).length) Slot.unset).toArray = ls at hl ⊢
  have hl : lv_has ls 4 [(0, .ref b)] := hl
  refine y_new (ci := 5) (fs := [.null, .null, .null, .null]) (C := RX5) (T := TX5) (N := 4) hE hK hI (show s.heap.size = o + (0 + 0) by omega) inG5 tyX5 tyX5_ok rfl dfX5 mw_10 mw_11 mw_1 (Nat.le_of_ble_eq_true rfl) (Nat.le_of_ble_eq_true rfl) dL_law_0 (fun H hI => ?_)
  refine lv_dup hx hb dL_law_3 rfl ?_
  refine y_sz hI (by decide) (by omega) (fun hz => ?_)
  refine y_callI (t := 0) (m2 := 285) (Fn := fun j => shp G o j (X0i j) (Y0i j)) hE hK hI hz (c_X5_init l G o _ rfl) mw_14 mw_13 mw_1 mw_12 rfl (by decide +kernel) hl.1 rfl (Nat.le_of_ble_eq_true rfl) ⟨(Nat.le_of_ble_eq_true rfl), (Nat.le_of_ble_eq_true rfl)⟩ ⟨(Nat.le_of_ble_eq_true rfl), (Nat.le_of_ble_eq_true rfl)⟩ dL_law_4 (fun H locs hI => ?_)
  have hI : IN G o 0 285 (fun _ => .inr (0, [])) (fun j => shp G o j (X0i j) (Y0i j)) s.heap H locs := hI.congr (fun j hj => ex_g (Nat.not_lt_zero j))
  refine lv_astore_n (lv' := [(1, .ref (o + (0 + 0))), (0, .ref b)]) hx hb dL_law_7 rfl hl (by decide) rfl (fun ls hl => ?_)
  refine y_sz hI (by decide) (by omega) (fun hz => ?_)
  refine y_new (ci := 6) (fs := [.null, .null, .null, .null, .null, .long 0, .null]) (C := RX6) (T := TX6) (N := 7) hE hK hI hz inG6 tyX6 tyX6_ok rfl dfX6 mw_474 mw_475 mw_7 (Nat.le_of_ble_eq_true rfl) (Nat.le_of_ble_eq_true rfl) dL_law_8 (fun H hI => ?_)
  refine lv_dup hx hb dL_law_11 rfl ?_
  refine y_sz hI (by decide) (by omega) (fun hz => ?_)
  refine y_callI (t := 285) (m2 := 7) (Fn := FMod G o (0 + 285)) hE hK hI hz (c_X6_init l G o (0 + 285) _ (ex_at.trans (if_pos rfl))) mw_478 mw_477 mw_7 mw_476 rfl (by decide +kernel) hl.1 rfl (Nat.le_of_ble_eq_true rfl) ⟨(Nat.le_of_ble_eq_true rfl), (Nat.le_of_ble_eq_true rfl)⟩ ⟨(Nat.le_of_ble_eq_true rfl), (Nat.le_of_ble_eq_true rfl)⟩ dL_law_12 (fun H locs hI => ?_)
  have hI := hI.congr (F' := fun j => shp G o j (X0i j) (Y0i j)) (fun j hj => by
    by_cases h1 : j < 285
    · rw [ex_l h1, eu_n (by omega)]
    · rcases (show j = 285 ∨ j = 286 ∨ j = 287 ∨ j = 288 ∨ j = 289 ∨ j = 290 ∨ j = 291 by omega) with rfl | rfl | rfl | rfl | rfl | rfl | rfl <;> rfl)
  refine lv_astore_n (lv' := [(2, .ref (o + (0 + 285))), (1, .ref (o + (0 + 0))), (0, .ref b)]) hx hb dL_law_15 rfl hl (by decide) rfl (fun ls hl => ?_)
  refine lv_iconst (v := nI (6 * 0)) hx hb dL_law_16 (by decide) ?_
  refine lv_istore_n (lv' := [(3, .int (nI (6 * 0))), (2, .ref (o + (0 + 285))), (1, .ref (o + (0 + 0))), (0, .ref b)]) hx hb dL_law_17 rfl hl (by decide) rfl (fun ls hl => ?_)
  have hl : lv_has ls 4 [(3, .int (nI (6 * 0))), (0, .ref b), (1, .ref (o + 0)), (2, .ref (o + 285))] := by
    refine ⟨hl.1, hl.2.1, fun q hq => hl.2.2 q ?_⟩
    simp only [List.mem_cons, List.not_mem_nil, or_false, Nat.zero_add] at hq ⊢
    rcases hq with h | h | h | h
    · exact Or.inl h
    · exact Or.inr (Or.inr (Or.inr h))
    · exact Or.inr (Or.inr (Or.inl h))
    · exact Or.inr (Or.inl h)
  refine va_forget (fun q hq => ?_) ?_
  · have hz2 : o ≤ q.base := hI.2.1.2.2 q hq
    omega
  have hP : va_P G.1 vwCl (wn o (0 + (285 + 7)) (ex (fun _ => .inr (0, [])) 0 (fun j => shp G o j (X0i j) (Y0i j)))) H := hI.1
  rw [wn_congr (E' := fun j => shp G o j (X0i j) (Y0i j)) (fun j hj => ex_g (Nat.not_lt_zero j))] at hP
  have hIn : In G o X0i Y0i s.heap H [] := ⟨hP, hI.2.1.1, fun q h1 h2 => hI.2.1.2.1 q h1 (fun h3 => by have : o ≤ q := h3; omega), fun q hq => by cases hq⟩
  exact law_loop hE hr hlocks hKK hL hX hbl (by omega) ⟨(Nat.le_of_ble_eq_true rfl), (Nat.le_of_ble_eq_true rfl)⟩ 512 0 X0i Y0i H [] ls (by decide) (by decide) R2_0 hIn hl
set_option maxHeartbeats 4000000 in
theorem lw_walk (l : Launch) (hflags : l.flags = flags0) (b : Addr) (xs : List Int32) : MetFree l x (headSpec (Jvm.Cond.code x code maxLocals ret :: tables_1) room_1) (lw_P b xs) (fun _ _ _ _ _ => True) lw_Q := by
  refine MetFree.of_bodyS (code := code) (maxLocals := maxLocals) (ret := ret) (by decide) ?_ ?_
  · intro args s m h hn
    obtain ⟨meth, c, h1, h2, h3, h4, h5, h6, -, -⟩ := Cond.code_spec hn (atoms_spec (ws := Jvm.Cond.code x code maxLocals ret :: tables_1) h _ List.mem_cons_self)
    exact ⟨meth, c, h1, h2, h3, h4, h5, h6⟩
  · intro p e s m args below meth c s₁ B hml0 hP _
    obtain ⟨rfl, hx, hbd, hgv⟩ := hP
    obtain ⟨scr, harrAt, hlist, hof, hsmall⟩ := hx
    obtain ⟨hcb, hkn, -, -⟩ := State.arrayAt?_spec harrAt
    have hown : s.vm.findClass R_law = some m.cls := findClass_of_methodNamed B.named
    have hts0 : ∀ c ∈ (Jvm.Cond.code x code maxLocals ret :: tables_1), c.before #[Value.ref b] s = true := atoms_spec (ws := Jvm.Cond.code x code maxLocals ret :: tables_1) B.pre
    have hts : ∀ w ∈ lw_tbl, w.before #[Value.ref b] s = true := k2_hts_sels lw_privs (fun w hw => hts0 w (List.mem_cons_of_mem _ hw)) lw_privs_ok
    have hml : c.maxLocals = 4 := B.maxLocals_eq (hts0 _ List.mem_cons_self)
    have X₀ : Stand p l e room_1 s m #[Value.ref b] below meth c s₁ [] 0 0 := Stand.of_body B
    have hh0 : s₁.heap = s.heap := by rw [B.state]; rfl
    have hsz : scr.slots.size = xs.length := by rw [← Array.length_toList, hlist, List.length_map]
    have hval : ∀ j : Nat, j < xs.length → scr.slots[j]? = some (.int (xs.getD j 0)) := fun j hj => by
      rw [← Array.getElem?_toList, hlist]
      simp [hj]
    have hbl : b < s.heap.size := (Array.getElem?_eq_some_iff.mp hcb).1
    have hX : va_X b xs.length (fun j => xs.getD j 0) s s.heap := ⟨scr, hcb, hof, hkn, hsz, hval⟩
    have K : W p l e room_1 s m #[Value.ref b] below meth c s₁.heap [] 0 0 (lw_Z below #[Value.ref b] s) (entryFrame m ([Value.ref b] : List Value).toArray 4) := by
      rw [hh0]
      exact whole_start l hflags hbd ⟨B.exec, B.bytes, B.returns, hml, hown, hts, hX, hbl, B.notSynchronized, hgv⟩
    obtain ⟨t, a1, o, b1, b2, b3⟩ := K s₁ rfl X₀
    exact ⟨t, o, a1, b1, b2, b3⟩
theorem lw_pre_spec {args : Array Value} {s : State} (h : (Jvm.Cond.and given_1 narrow_1).before args s = true) (hr : rest_1_c.before args s = true) : ∃ (b : Addr) (xs : List Int32), lw_P b xs args s := by
  have hs := flat_of_before _ h
  have hq := flat_of_before _ hr
  have hc : (Cond.count 1).before args s = true := hs _ (by decide +kernel)
  have harr : (Cond.arrayOf (.arg 0) .int).before args s = true := hs _ (by decide +kernel)
  have hle : (Cond.le (.length (.arg 0)) (.int 3072)).before args s = true := hs _ (by decide +kernel)
  have hlen : (Cond.isInt (.length (.arg 0))).before args s = true := hq _ (by decide +kernel)
  have hall : (Cond.all (.arg 0) (.isInt (.elem (.arg 0) (.index 0)))).before args s = true := hq _ (by decide +kernel)
  obtain ⟨b, xs, hb, hx⟩ := State.ints_of_pre rfl harr hlen hall
  have hsm : xs.length < 2 ^ 31 := hx.choose_spec.2.2.2
  have hev : (Term.length (.arg 0)).eval args s none [] s = some (.int xs.length.toInt32) := hx.length_eval hb
  have hv := Cond.le_ints hev (show (Term.int 3072).eval args s none [] s = some (.int 3072) from rfl)
  have hd : xs.length.toInt32 ≤ 3072 := by
    simpa [Cond.before, Cond.holds, hv] using hle
  have hN : xs.length ≤ 3072 := (Int32.ofNat_le_ofNat hsm (by decide)).mp (show Int32.ofNat xs.length ≤ Int32.ofNat 3072 from hd)
  exact ⟨b, xs, Cond.one_arg hc (show args[0]? = some (.ref b) from hb), hx, hN, h⟩
theorem lw_comes (l : Launch) (hflags : l.flags = flags0) : Comes l x (Jvm.Cond.code x code maxLocals ret :: tables_1) room_1 (fun tb e args s => Calls_1 tb e args s ∧ rest_1 tb e args s ∧ Pre_1 tb e args s)
    (fun _ _ args s o t => lw_Q args s o t) := by
  intro p e ha hc hk s m args below hf hfit hheap happ hpre
  obtain ⟨b, xs, hP⟩ := lw_pre_spec hpre.2.2 hpre.2.1
  obtain ⟨k, o, h1, h2, h3, hQ⟩ := lw_walk l hflags b xs p e ha hc hk s m args below hf ((Spec.applies_iff_loose hf).mp happ).1 hP trivial
  exact ⟨k, o, h1, h2, h3, hQ⟩
theorem lw_frame {s t : State} {o : Outcome} {args : Array Value} (h : Framed s o t [] 605113 7286908) :
    Framed s o t (fieldLocs frame_1_writes args s ++ arrayLocs frame_1_arrays args s ++ staticLocs frame_1_statics s) 605113 7286908 := h
theorem lw_limb (L : Cond) (hL : ∀ (args : Array Value) (s t : State), L.after args s (.returned (some (.int 1))) t = true) :
    ArmFor flags0 classFile x code maxLocals ret World_1 tables_1 room_1 Calls_1 rest_1 Pre_1
      (fun tb e a s o t => postC L tb e a s o t ∧ Framed s o t (fieldLocs frame_1_writes a s ++ arrayLocs frame_1_arrays a s ++ staticLocs frame_1_statics s) 605113 7286908) := by
  intro l hflags _ _ p e ha hc hk s m args below hf hfit hheap happ hpre
  obtain ⟨k, o, h1, h2, h3, rfl, hF⟩ := lw_comes l hflags p e ha hc hk s m args below hf hfit hheap happ hpre
  exact ⟨k, _, h1, h2, h3, hL args s _, lw_frame hF⟩
theorem i_vc : Claimed_1_1 ∧ Claimed_1_2 := ⟨lw_limb limb_1_1 (fun args s t => by simp [limb_1_1, Cond.after, Cond.holds, Cond.value]), lw_limb limb_1_2 (fun args s t => Cond.after_iff.mpr (by
  first | (rw [show limb_1_2 = Cond.eq .result (.int 1) from rfl, Cond.eq_ints (x := 1) (y := 1) rfl rfl]; simp; done) | (simp [limb_1_2, Cond.value, Term.eval]; done)))⟩
