/-! ===== 32: a world that grows: the cells from o on, one after another ===== -/
def wn (o n : Nat) (E : Nat → va_E) : va_W := (List.range n).map (fun k => (o + k, E k))
def ge (o : Nat) : Nat → Prop := fun q => o ≤ q
def eu (F : Nat → va_E) (j : Nat) (x : va_E) : Nat → va_E := fun a => if a = j then x else F a
def ex (E : Nat → va_E) (k : Nat) (F : Nat → va_E) : Nat → va_E := fun a => if a < k then E a else F (a - k)
theorem ex_at {E F : Nat → va_E} {k j : Nat} : ex E k F (k + j) = F j := by
  unfold ex
  rw [if_neg (by omega), Nat.add_sub_cancel_left]
theorem ex_eu {E F : Nat → va_E} {k j : Nat} {x : va_E} : eu (ex E k F) (k + j) x = ex E k (eu F j x) := by
  funext a
  unfold eu ex
  by_cases h : a < k
  · rw [if_neg (by omega), if_pos h, if_pos h]
  · rw [if_neg h, if_neg h]
    by_cases h2 : a = k + j
    · rw [if_pos h2]; exact (if_pos (by omega)).symm
    · rw [if_neg h2]; exact (if_neg (by omega)).symm
theorem ex_ex {E F Q : Nat → va_E} {k t : Nat} : ex (ex E k F) (k + t) Q = ex E k (ex F t Q) := by
  funext a
  unfold ex
  by_cases h : a < k
  · rw [if_pos (by omega), if_pos h, if_pos h]
  · rw [if_neg h, if_neg h]
    by_cases h2 : a < k + t
    · rw [if_pos h2, if_pos (by omega)]
    · rw [if_neg h2, if_neg (by omega), show a - (k + t) = a - k - t by omega]
theorem wn_at {o n k : Nat} {E : Nat → va_E} {e : va_E} (hk : k < n) (he : E k = e) : (wn o n E)[k]? = some (o + k, e) := by
  unfold wn
  rw [List.getElem?_map, List.getElem?_range hk]
  exact congrArg (fun z => some (o + k, z)) he
theorem wn_inv {o n k : Nat} {E : Nat → va_E} {q : Nat × va_E} (h : (wn o n E)[k]? = some q) : k < n ∧ q = (o + k, E k) := by
  have hl : k < (wn o n E).length := (List.getElem?_eq_some_iff.mp h).1
  have hk : k < n := by simpa [wn] using hl
  rw [wn_at hk rfl] at h
  exact ⟨hk, (Option.some.inj h).symm⟩
theorem wn_D {o n : Nat} {E : Nat → va_E} : va_D (ge o) (wn o n E) := by
  refine ⟨fun i j p q hi hj hpq => ?_, fun k q hk => ?_⟩
  · obtain ⟨-, rfl⟩ := wn_inv hi
    obtain ⟨-, rfl⟩ := wn_inv hj
    have h : o + i = o + j := hpq
    omega
  · obtain ⟨h, rfl⟩ := wn_inv hk
    exact Nat.le_add_right _ _
theorem wn_congr {o n : Nat} {E E' : Nat → va_E} (h : ∀ k, k < n → E k = E' k) : wn o n E = wn o n E' := by
  apply List.ext_getElem?
  intro i
  by_cases hl : i < n
  · rw [wn_at hl rfl, wn_at hl rfl, h i hl]
  · rw [List.getElem?_eq_none (by simpa [wn] using hl), List.getElem?_eq_none (by simpa [wn] using hl)]
theorem wn_set {o n k : Nat} {E : Nat → va_E} {x : va_E} (hk : k < n) : (wn o n E).set k (o + k, x) = wn o n (eu E k x) := by
  apply List.ext_getElem?
  intro i
  by_cases hi : i = k
  · subst hi
    rw [List.getElem?_set_self (by simpa [wn] using hk), wn_at hk (show eu E i x i = x from if_pos rfl)]
  · rw [List.getElem?_set_ne (Ne.symm hi)]
    by_cases hl : i < n
    · rw [wn_at hl rfl, wn_at hl (show eu E k x i = E i from if_neg hi)]
    · rw [List.getElem?_eq_none (by simpa [wn] using hl), List.getElem?_eq_none (by simpa [wn] using hl)]
def KC (G : GG) (U : State) : Prop := KK G U ∧ (va_Nw (.methodLinkNest RX5 9 yX1_init RX5) U ∧ va_Nw (.methodLinkNest RX3 25 yX0_init RX5) U ∧ va_Nw (.methodLinkNest RX5 26 yX4_init RX5) U) ∧ va_AO RX0 U ∧ va_AO RX1 U ∧ (Cond.arrayOver (.array .int)).before #[] U = true
theorem KC.warm {G : GG} {s U : State} (hW : s.WarmedH U.vm) (h : KC G s) : KC G U := ⟨h.1.warm hW, ⟨va_Nw.warmM hW h.2.1.1, va_Nw.warmM hW h.2.1.2.1, va_Nw.warmM hW h.2.1.2.2⟩, va_AO.moved hW.alike h.2.2.1, va_AO.moved hW.alike h.2.2.2.1, over_moved hW.alike h.2.2.2.2⟩
theorem KC.calling {G : GG} {U : State} {g : JFrame} {mk : MethodId} {a : Array Value} (h : KC G U) : KC G (U.calling g mk a) := ⟨h.1.calling, ⟨va_Nw.same rfl rfl h.2.1.1, va_Nw.same rfl rfl h.2.1.2.1, va_Nw.same rfl rfl h.2.1.2.2⟩, va_AO.moved (u := U) (U := U.calling g mk a) (Vm.Alike.refl U.vm) h.2.2.1, va_AO.moved (u := U) (U := U.calling g mk a) (Vm.Alike.refl U.vm) h.2.2.2.1, over_moved (u := U) (E := U.calling g mk a) (Vm.Alike.refl U.vm) h.2.2.2.2⟩
def IN (G : GG) (o k n : Nat) (E F : Nat → va_E) (H0 H : Heap) (locs : List Loc) : Prop := va_P G.1 vwCl (wn o (k + n) (ex E k F)) H ∧ va_S (ge o) H0 H locs ∧ o ≤ H0.size
theorem IN.at {G : GG} {o k n j : Nat} {E F : Nat → va_E} {e : va_E} (hj : j < n) (he : F j = e) : (wn o (k + n) (ex E k F))[k + j]? = some (o + (k + j), e) := wn_at (by omega) (ex_at.trans he)
theorem IN.congr {G : GG} {o k n : Nat} {E F F' : Nat → va_E} {H0 H : Heap} {locs : List Loc} (h : IN G o k n E F H0 H locs) (e : ∀ j, j < n → F j = F' j) : IN G o k n E F' H0 H locs := by
  refine ⟨?_, h.2⟩
  rw [← wn_congr (E := ex E k F) (fun a ha => ?_)]
  · exact h.1
  · unfold ex
    by_cases q : a < k
    · rw [if_pos q, if_pos q]
    · rw [if_neg q, if_neg q]
      exact e _ (by omega)
theorem IN.push {G : GG} {o k n : Nat} {E F : Nat → va_E} {H0 H H1 : Heap} {locs : List Loc} {x : va_E} (h : IN G o k n E F H0 H locs) (hz : H.size = o + (k + n)) (e1 : va_at G.1 vwCl (o + (k + n), x) H1) (z1 : H.size ≤ H1.size) (o1 : ∀ q : Nat, q < H.size → H1[q]? = H[q]?) : IN G o k (n + 1) E (eu F n x) H0 H1 locs := by
  refine ⟨fun i q hq => ?_, ⟨Nat.le_trans h.2.1.1 z1, fun x h1 h2 => (o1 x (Nat.lt_of_lt_of_le h1 h.2.1.1)).trans (h.2.1.2.1 x h1 h2), h.2.1.2.2⟩, h.2.2⟩
  obtain ⟨hi, rfl⟩ := wn_inv hq
  rw [← ex_eu]
  by_cases hn : i = k + n
  · subst hn
    rw [show eu (ex E k F) (k + n) x (k + n) = x from if_pos rfl]
    exact e1
  · rw [show eu (ex E k F) (k + n) x i = ex E k F i from if_neg hn]
    exact (h.1 i _ (wn_at (by omega) rfl)).kept (o1 _ (by show o + i < H.size; omega))
def PreN (av : List Value) (G : GG) (o k : Nat) (E : Nat → va_E) : Array Value → State → Prop := fun v U => v = av.toArray ∧ KC G U ∧ va_P G.1 vwCl (wn o (k + 1) E) U.heap ∧ U.heap.size = o + (k + 1)
def QN (G : GG) (o n : Nat) (E : Nat → va_E) : Array Value → State → Outcome → State → Prop := fun _ st oc t => oc = .returned none ∧ va_P G.1 vwCl (wn o n E) t.heap ∧ va_F (ge o) st t
theorem PreN.blind {av : List Value} {G : GG} {o k : Nat} {E : Nat → va_E} : FrameBlind (PreN av G o k E) := fun _ _ _ _ h => ⟨h.1, h.2.1.calling, h.2.2⟩
abbrev Rn (f mc ms lo : Nat) : Room := { frames := f, cells := mc, slots := ms, locals := lo }
/-- a constructor: over its own new cell k (the last) it lays the cells Fn from k on -/
abbrev Cn (l : Launch) (y : MethodName) (cc : ByteArray) (nL f lo mc ms : Nat) (G : GG) (o k m2 : Nat) (E Fn : Nat → va_E) : Prop :=
  Met l y (wsG y cc nL none) (Rn f mc ms lo) (PreN [.ref (o + k)] G o k E) (QN G o (k + m2) (ex E k Fn)) mc ms (ge o)
theorem Cn.mk {l : Launch} {y : MethodName} {cc : ByteArray} {nL f lo mc ms : Nat} {G : GG} {o k m2 : Nat} {E Fn : Nat → va_E} {x : va_E} (hy : plainName y.cls = true) (hl : 1 ≤ nL) (hnm : y.name = "<init>") (hx : E k = x)
    (body : ∀ (p : Program) (e : Env) (s : State) (m : MethodId) (args : Array Value) (below : List Frame) (meth : Method) (c : Code), gE p m c cc nL s args y.cls → meth.sig.returnType = none → meth.locks = false → meth.name = "<init>" → KC G s → s.heap.size = o + (k + 1) → IN G o k 1 E (fun _ => x) s.heap s.heap [] → ∀ ls : Array Slot, lv_has ls nL [(0, .ref (o + (k + 0)))] →
      W p l e (Rn f mc ms lo) s m args below meth c s.heap [] 0 0 (MQ below (QN G o (k + m2) (ex E k Fn)) args s mc ms (ge o)) (F0 m 0 ls [])) : Cn l y cc nL f lo mc ms G o k m2 E Fn := by
  refine Met.ofW (cc := cc) (maxL := nL) (ret := none) hy rfl ?_
  intro p e s m args below meth c s₁ B hml hv
  obtain ⟨rfl, hK, hP, hz⟩ := hv
  have hts := atoms_spec (ws := wsG y cc nL none) B.pre
  have hown : s.vm.findClass y.cls = some m.cls := findClass_of_methodNamed B.named
  rw [lg_entry_eq]
  refine body p e s m _ below meth c ⟨B.exec, B.bytes, hml, hown, fun w h => hts w (List.mem_cons_of_mem _ h)⟩ B.returns B.notSynchronized ((name_of_methodNamed B.named B.method).1.trans hnm) hK hz ⟨?_, va_S.rf, by omega⟩ _ (lv_entry [.ref (o + k)] hl)
  rw [wn_congr (E := ex E k (fun _ => x)) (E' := E) (fun a ha => ?_)]
  · exact hP
  · unfold ex
    by_cases q : a < k
    · rw [if_pos q]
    · rw [if_neg q, ← hx, show a = k by omega]
section YR
variable {p : Program} {l : Launch} {e : Env} {R : Room} {s : State} {m : MethodId} {args : Array Value} {below : List Frame} {meth : Method} {c : Code} {H H0 : Heap} {locs : List Loc} {cells slots : Nat} {Q : State → Prop}
variable {cc : ByteArray} {pc nL : Nat} {ls : Array Slot} {rest : List Value} {own : String} {G : GG} {o k n : Nat} {E F : Nat → va_E}
theorem y_sz {g : JFrame} (hI : IN G o k n E F H0 H locs) (hn : 0 < n) (hsz : s.heap.size + cells = o + (k + n)) (kk : H.size = o + (k + n) → W p l e R s m args below meth c H locs cells slots Q g) : W p l e R s m args below meth c H locs cells slots Q g := by
  intro T hT X
  have h1 : T.heap.size ≤ s.heap.size + cells := X.same.2.2.1
  have h2 : o + (k + (n - 1)) < H.size := (hI.1 (k + (n - 1)) _ (IN.at (G := G) (by omega) rfl)).lt
  rw [hT] at h1
  exact kk (by omega) T hT X
theorem y_obj {index : Nat} {a : Nat} (hE : gE p m c cc nL s args own) (hlink : Cond.methodLink own index Lib.objectInit ∈ gt) (hsize : ls.size = nL) (hf : 1 ≤ R.frames) (hl : (rest.map fun v => v.category).sum + 12 ≤ R.locals) (hdg : decode cc pc = .ok (.invokespecial index, 3))
    (kk : W p l e R s m args below meth c H locs cells slots Q (F0 m (pc + 3) ls rest)) : W p l e R s m args below meth c H locs cells slots Q (F0 m pc ls (.ref a :: rest)) :=
  W.objInit hE.1 hE.2.1 hE.2.2.2.1 (hE.2.2.2.2 _ hlink) (hE.2.2.2.2 _ mw_16) (hE.2.2.2.2 _ mw_17) rfl (hsize.trans hE.2.2.1.symm) rfl hdg hf (by show 2 * 0 + _ + 12 ≤ _; omega) kk
theorem y_new {C : String} {T : u_T} {N ci index : Nat} {fs : List Value} (hE : gE p m c cc nL s args own) (hK : KC G s) (hI : IN G o k n E F H0 H locs) (hz : H.size = o + (k + n)) (hin : ∀ w ∈ u_ws C T N, w ∈ gt) (ty0 : Nat → FieldType) (hty : ∀ k, k < N → parseFieldDescriptor (T k).2.2.1 = some (ty0 k)) (hc : vwCl[ci]? = some (C, T, N)) (hfs : ∀ j, j < N → defaultValue (ty0 j) = vp_V fs j) (hcl : Cond.classLink own index C ∈ gt) (hinst : Cond.instantiable C N ∈ gt) (hini : Cond.initialized C ∈ gt) (hcells : cells + 1 ≤ R.cells) (hslots : slots + N ≤ R.slots) (hdg : decode cc pc = .ok (.new index, 3))
    (kk : ∀ H1 : Heap, IN G o k (n + 1) E (eu F n (.inr (ci, fs))) H0 H1 locs → W p l e R s m args below meth c H1 locs (cells + 1) (slots + N) Q (F0 m (pc + 3) ls (.ref (o + (k + n)) :: rest))) : W p l e R s m args below meth c H locs cells slots Q (F0 m pc ls rest) := by
  have hKn := hK.1.1.1 ci _ hc
  have hT := hE.2.2.2.2
  refine W.newcK hE.1 hE.2.1 hE.2.2.2.1 (hT _ hcl) (hT _ hinst) (hT _ hini) rfl hdg hcells hslots hKn.2.1 hz fun H1 kC hkC e1 z1 o1 => ?_
  exact kk H1 (hI.push hz ⟨_, hc, (u_born ty0 hT hin hKn hkC e1 hty).to hfs⟩ (by omega) (fun q hq => o1 q (by omega)))
theorem y_newa {atype : ArrayType} {ty : FieldType} {n0 : Int32} {N t0 : Nat} {a0 : vp_A} {cA : ClassId} (hE : gE p m c cc nL s args own) (hK : KC G s) (hI : IN G o k n E F H0 H locs) (hz : H.size = o + (k + n)) (hty : newarray.typeOf atype = ty) (harr : Cond.arrayClass ty ∈ gt) (ht : (tysG G)[t0]? = some (cA, ty)) (hra : ∀ c2, s.vm.findClass ("[" ++ ty.toString) = some c2 → c2 = cA) (ha : vp_cell cA a0 = arrV cA N (fun _ => defaultValue ty)) (hn : ¬ n0 < 0) (hN : n0.toNatClampNeg = N) (hbytes : N * componentBytes ty ≤ 536870912) (hcells : cells + 1 ≤ R.cells) (hslots : slots + N ≤ R.slots) (hdg : decode cc pc = .ok (.newarray atype, 2))
    (kk : ∀ H1 : Heap, IN G o k (n + 1) E (eu F n (.inl (cA, a0))) H0 H1 locs → W p l e R s m args below meth c H1 locs (cells + 1) (slots + N) Q (F0 m (pc + 2) ls (.ref (o + (k + n)) :: rest))) : W p l e R s m args below meth c H locs cells slots Q (F0 m pc ls (.int n0 :: rest)) := by
  subst hty
  refine va_newaK hE.1 hE.2.1 (hE.2.2.2.2 _ harr) rfl hdg rfl hn hN hbytes hcells hslots hz fun H1 c2 e1 z1 o1 hAr hNm => ?_
  have := hra c2 hNm
  subst this
  refine kk H1 (hI.push hz ?_ (by omega) (fun q hq => o1 q (by omega)))
  show H1[_]? = some (vp_cell _ _)
  rw [ha]
  exact e1
theorem y_newi {n0 : Int32} {N : Nat} (hE : gE p m c cc nL s args own) (hK : KC G s) (hI : IN G o k n E F H0 H locs) (hz : H.size = o + (k + n)) (hn : ¬ n0 < 0) (hN : n0.toNatClampNeg = N) (hbytes : N * componentBytes .int ≤ 536870912) (hcells : cells + 1 ≤ R.cells) (hslots : slots + N ≤ R.slots) (hdg : decode cc pc = .ok (.newarray .int, 2))
    (kk : ∀ H1 : Heap, IN G o k (n + 1) E (eu F n (.inl (G.2 0, N, .inl (fun _ => 0)))) H0 H1 locs → W p l e R s m args below meth c H1 locs (cells + 1) (slots + N) Q (F0 m (pc + 2) ls (.ref (o + (k + n)) :: rest))) : W p l e R s m args below meth c H locs cells slots Q (F0 m pc ls (.int n0 :: rest)) :=
  y_newa (atype := .int) (ty := .int) (t0 := 0) (a0 := (N, .inl (fun _ => 0))) hE hK hI hz rfl mw_64 rfl (fun c2 h => Option.some.inj (h.symm.trans (hK.1.1.2 0 _ rfl).2)) rfl hn hN hbytes hcells hslots hdg kk
theorem y_newz {n0 : Int32} {N : Nat} (hE : gE p m c cc nL s args own) (hK : KC G s) (hI : IN G o k n E F H0 H locs) (hz : H.size = o + (k + n)) (hn : ¬ n0 < 0) (hN : n0.toNatClampNeg = N) (hbytes : N * componentBytes .boolean ≤ 536870912) (hcells : cells + 1 ≤ R.cells) (hslots : slots + N ≤ R.slots) (hdg : decode cc pc = .ok (.newarray .boolean, 2))
    (kk : ∀ H1 : Heap, IN G o k (n + 1) E (eu F n (.inl (G.2 2, N, .inl (fun _ => 0)))) H0 H1 locs → W p l e R s m args below meth c H1 locs (cells + 1) (slots + N) Q (F0 m (pc + 2) ls (.ref (o + (k + n)) :: rest))) : W p l e R s m args below meth c H locs cells slots Q (F0 m pc ls (.int n0 :: rest)) :=
  y_newa (atype := .boolean) (ty := .boolean) (t0 := 2) (a0 := (N, .inl (fun _ => 0))) hE hK hI hz rfl mw_170 rfl (fun c2 h => Option.some.inj (h.symm.trans (hK.1.1.2 2 _ rfl).2)) rfl hn hN hbytes hcells hslots hdg kk
theorem y_newl {n0 : Int32} {N : Nat} (hE : gE p m c cc nL s args own) (hK : KC G s) (hI : IN G o k n E F H0 H locs) (hz : H.size = o + (k + n)) (hn : ¬ n0 < 0) (hN : n0.toNatClampNeg = N) (hbytes : N * componentBytes .long ≤ 536870912) (hcells : cells + 1 ≤ R.cells) (hslots : slots + N ≤ R.slots) (hdg : decode cc pc = .ok (.newarray .long, 2))
    (kk : ∀ H1 : Heap, IN G o k (n + 1) E (eu F n (.inl (G.2 1, N, .inr (.inl (fun _ => 0))))) H0 H1 locs → W p l e R s m args below meth c H1 locs (cells + 1) (slots + N) Q (F0 m (pc + 2) ls (.ref (o + (k + n)) :: rest))) : W p l e R s m args below meth c H locs cells slots Q (F0 m pc ls (.int n0 :: rest)) :=
  y_newa (atype := .long) (ty := .long) (t0 := 1) (a0 := (N, .inr (.inl (fun _ => 0)))) hE hK hI hz rfl mw_171 rfl (fun c2 h => Option.some.inj (h.symm.trans (hK.1.1.2 1 _ rfl).2)) rfl hn hN hbytes hcells hslots hdg kk
theorem y_newq {C : String} {index t0 N : Nat} {n0 : Int32} {cA : ClassId} (hE : gE p m c cc nL s args own) (hK : KC G s) (hI : IN G o k n E F H0 H locs) (hz : H.size = o + (k + n)) (hover : va_AO C s) (ht : (tysG G)[t0]? = some (cA, .object C)) (hcl : Cond.classLink own index C ∈ gt) (hn : ¬ n0 < 0) (hN : n0.toNatClampNeg = N) (hbytes : N * 4 ≤ 536870912) (hcells : cells + 1 ≤ R.cells) (hslots : slots + N ≤ R.slots) (hdg : decode cc pc = .ok (.anewarray index, 3))
    (kk : ∀ H1 : Heap, IN G o k (n + 1) E (eu F n (.inl (cA, N, .inr (.inr (.inr (.inr (fun _ => none))))))) H0 H1 locs → W p l e R s m args below meth c H1 locs (cells + 1) (slots + N) Q (F0 m (pc + 3) ls (.ref (o + (k + n)) :: rest))) : W p l e R s m args below meth c H locs cells slots Q (F0 m pc ls (.int n0 :: rest)) := by
  subst hN
  refine W.anew hE.1 hE.2.1 hE.2.2.2.1 (hE.2.2.2.2 _ hcl) (va_AO.use hover) rfl hdg rfl hn hbytes hcells hslots fun c2 kA comp f1 f2 f3 f4 => ?_
  obtain ⟨kA', comp', -, -, -, f5⟩ := (hK.1.1.2 t0 _ ht).2
  have : c2 = cA := Option.some.inj (f1.symm.trans f5)
  subst this
  have hk2 := kk (H.push ({ cls := c2, slots := Array.replicate n0.toNatClampNeg .null, vm := .none } : Cell)) (hI.push hz (by
    show (H.push _)[_]? = some (vp_cell _ _)
    rw [vp_cell_q, ← hz, Array.getElem?_push_size]
    exact congrArg some (arrV_new _ _ _)) (by rw [Array.size_push]; omega) (fun q hq => by rw [Array.getElem?_push, if_neg (Nat.ne_of_lt hq)]))
  rw [← hz] at hk2
  exact hk2
theorem y_get {C : String} {T : u_T} {N ci index j : Nat} {fs : List Value} {v : Value} (hE : gE p m c cc nL s args own) (hK : KC G s) (hI : IN G o k n E F H0 H locs) (hj : j < n) (hin : ∀ w ∈ u_ws C T N, w ∈ gt) (he : F j = .inr (ci, fs)) (hc : vwCl[ci]? = some (C, T, N)) (i : Nat) (hi : i < N) (hlink : Cond.fieldLink own index (T i).1 (T i).2.1 (T i).2.2.1 ∈ gt) (hv : fs[i]? = some v) (hdg : decode cc pc = .ok (.getfield index, 3))
    (kk : W p l e R s m args below meth c H locs cells slots Q (F0 m (pc + 3) ls (v :: rest))) : W p l e R s m args below meth c H locs cells slots Q (F0 m pc ls (.ref (o + (k + j)) :: rest)) :=
  va_get (D := G.1) hE.1 hE.2.1 hE.2.2.2.2 hin hE.2.2.2.1 hK.1.1 hI.1 (k + j) (IN.at (G := G) hj he) hc i hi (hE.2.2.2.2 _ hlink) (fun _ h => h) hv hdg kk
theorem y_put {C : String} {T : u_T} {N ci index j : Nat} {fs : List Value} {v : Value} {ty : FieldType} (hE : gE p m c cc nL s args own) (hK : KC G s) (hI : IN G o k n E F H0 H locs) (hj : j < n) (hin : ∀ w ∈ u_ws C T N, w ∈ gt) (ty0 : Nat → FieldType) (hty : ∀ k, k < N → parseFieldDescriptor (T k).2.2.1 = some (ty0 k)) (hnm : ∀ a, a < N → ∀ b, b < N → a ≠ b → (T a).2.1 ≠ (T b).2.1) (he : F j = .inr (ci, fs)) (hc : vwCl[ci]? = some (C, T, N)) (i : Nat) (hi : i < N) (hlink : Cond.fieldLink own index (T i).1 (T i).2.1 (T i).2.2.1 ∈ gt) (hfin : (T i).2.2.2 = false) (hd : parseFieldDescriptor (T i).2.2.1 = some ty) (hn : narrow ty v = v) (hfit : fits ty v = true) (hl : i < fs.length) (hdg : decode cc pc = .ok (.putfield index, 3))
    (kk : ∀ (H1 : Heap) (locs1 : List Loc), IN G o k n E (eu F j (.inr (ci, fs.set i v))) H0 H1 locs1 → W p l e R s m args below meth c H1 locs1 cells slots Q (F0 m (pc + 3) ls rest)) : W p l e R s m args below meth c H locs cells slots Q (F0 m pc ls (v :: .ref (o + (k + j)) :: rest)) := by
  refine va_put (D := G.1) hE.1 hE.2.1 hE.2.2.2.2 hin ty0 hty hnm hE.2.2.2.1 hK.1.1 hI.1 wn_D hI.2.1 (k + j) (IN.at (G := G) hj he) hc i hi (hE.2.2.2.2 _ hlink) (fun _ h => h) hfin hd hn hfit hl hdg (fun H1 locs1 hP hD hS => ?_)
  rw [wn_set (by omega), ex_eu] at hP
  exact kk H1 locs1 ⟨hP, hS, hI.2.2⟩
theorem y_putF {C : String} {T : u_T} {N ci index j : Nat} {fs : List Value} {v : Value} {ty : FieldType} (hE : gE p m c cc nL s args own) (hK : KC G s) (hI : IN G o k n E F H0 H locs) (hj : j < n) (hin : ∀ w ∈ u_ws C T N, w ∈ gt) (ty0 : Nat → FieldType) (hty : ∀ k, k < N → parseFieldDescriptor (T k).2.2.1 = some (ty0 k)) (hnm : ∀ a, a < N → ∀ b, b < N → a ≠ b → (T a).2.1 ≠ (T b).2.1) (he : F j = .inr (ci, fs)) (hc : vwCl[ci]? = some (C, T, N)) (i : Nat) (hi : i < N) (hlink : Cond.fieldLink own index (T i).1 (T i).2.1 (T i).2.2.1 ∈ gt) (hfin : (T i).2.2.2 = true) (hin2 : meth.name = "<init>") (hdecl : (T i).1 = own) (hd : parseFieldDescriptor (T i).2.2.1 = some ty) (hn : narrow ty v = v) (hfit : fits ty v = true) (hl : i < fs.length) (hdg : decode cc pc = .ok (.putfield index, 3))
    (kk : ∀ (H1 : Heap) (locs1 : List Loc), IN G o k n E (eu F j (.inr (ci, fs.set i v))) H0 H1 locs1 → W p l e R s m args below meth c H1 locs1 cells slots Q (F0 m (pc + 3) ls rest)) : W p l e R s m args below meth c H locs cells slots Q (F0 m pc ls (v :: .ref (o + (k + j)) :: rest)) := by
  refine va_putF (D := G.1) hE.1 hE.2.1 hE.2.2.2.2 hin ty0 hty hnm hE.2.2.2.1 hK.1.1 hI.1 wn_D hI.2.1 (k + j) (IN.at (G := G) hj he) hc i hi (hE.2.2.2.2 _ hlink) (fun _ h => h) hfin hin2 hdecl hd hn hfit hl hdg (fun H1 locs1 hP hD hS => ?_)
  rw [wn_set (by omega), ex_eu] at hP
  exact kk H1 locs1 ⟨hP, hS, hI.2.2⟩
theorem y_iast {j N i : Nat} {idx x : Int32} {f : Nat → Int32} (hE : gE p m c cc nL s args own) (hK : KC G s) (hI : IN G o k n E F H0 H locs) (hj : j < n) (he : F j = .inl (G.2 0, N, .inl f)) (hi : i < N) (hn : N < 2 ^ 31) (hx : idx = nI i) (hdg : decode cc pc = .ok (.iastore, 1))
    (kk : ∀ (H1 : Heap) (locs1 : List Loc), IN G o k n E (eu F j (.inl (G.2 0, N, .inl (upd f i x)))) H0 H1 locs1 → W p l e R s m args below meth c H1 locs1 cells slots Q (F0 m (pc + 1) ls rest)) : W p l e R s m args below meth c H locs cells slots Q (F0 m pc ls (.int x :: .int idx :: .ref (o + (k + j)) :: rest)) := by
  subst hx
  refine va_iast (D := G.1) hE.1 hE.2.1 hK.1.1 hI.1 wn_D hI.2.1 (k + j) 0 (IN.at (G := G) hj he) rfl (vp_in_nI hi hn) hdg (fun H1 locs1 hP hD hS => ?_)
  rw [nI_clamp (Nat.lt_trans hi hn), wn_set (by omega), ex_eu] at hP
  exact kk H1 locs1 ⟨hP, hS, hI.2.2⟩
theorem y_aald {j N i q t0 : Nat} {ty : FieldType} {cA : ClassId} {fr : Nat → Option Nat} {idx : Int32} (hE : gE p m c cc nL s args own) (hK : KC G s) (hI : IN G o k n E F H0 H locs) (hj : j < n) (he : F j = .inl (cA, N, .inr (.inr (.inr (.inr fr))))) (ht : (tysG G)[t0]? = some (cA, ty)) (hty : ty.isReference = true) (hi : i < N) (hn : N < 2 ^ 31) (hx : idx = nI i) (hq : fr i = some q) (hdg : decode cc pc = .ok (.aaload, 1))
    (kk : W p l e R s m args below meth c H locs cells slots Q (F0 m (pc + 1) ls (.ref q :: rest))) : W p l e R s m args below meth c H locs cells slots Q (F0 m pc ls (.int idx :: .ref (o + (k + j)) :: rest)) := by
  subst hx
  have hin := vp_in_nI hi hn
  have hlt : (nI i).toNatClampNeg < N := by rw [nI_clamp (Nat.lt_trans hi hn)]; exact hi
  exact W.aald (v := .ref q) (ty := ty) hE.1 hE.2.1 (hI.1 (k + j) _ (IN.at (G := G) hj he)) ((hK.1.1.2 t0 _ ht).1 N (fun j => va_rf (fr j))) hty (fun q => by cases q) (by show ¬ (nI i < 0 ∨ (arrV _ _ _).slots.size ≤ _); rw [arrV_size]; exact hin) (by show (arrV _ _ _).slots[_]? = _; rw [arrV_read _ _ hlt, nI_clamp (Nat.lt_trans hi hn), hq]; rfl) rfl rfl hdg kk
theorem y_aast {j j2 N i t0 ci : Nat} {r : vw_C} {cA : ClassId} {fr : Nat → Option Nat} {vs : List Value} {idx : Int32} (hE : gE p m c cc nL s args own) (hK : KC G s) (hI : IN G o k n E F H0 H locs) (hj : j < n) (he : F j = .inl (cA, N, .inr (.inr (.inr (.inr fr))))) (ht : (tysG G)[t0]? = some (cA, .object r.1)) (hj2 : j2 < n) (hv : F j2 = .inr (ci, vs)) (hc : vwCl[ci]? = some r) (hi : i < N) (hn : N < 2 ^ 31) (hx : idx = nI i) (hdg : decode cc pc = .ok (.aastore, 1))
    (kk : ∀ (H1 : Heap) (locs1 : List Loc), IN G o k n E (eu F j (.inl (cA, N, .inr (.inr (.inr (.inr (va_up fr i (some (o + (k + j2)))))))))) H0 H1 locs1 → W p l e R s m args below meth c H1 locs1 cells slots Q (F0 m (pc + 1) ls rest)) : W p l e R s m args below meth c H locs cells slots Q (F0 m pc ls (.ref (o + (k + j2)) :: .int idx :: .ref (o + (k + j)) :: rest)) := by
  subst hx
  refine va_astq (D := G.1) hE.1 hE.2.1 hK.1.1 hI.1 wn_D hI.2.1 (k + j) t0 (k + j2) ci (IN.at (G := G) hj he) ht (IN.at (G := G) hj2 hv) hc (vp_in_nI hi hn) hdg (fun H1 locs1 hP hD hS => ?_)
  rw [nI_clamp (Nat.lt_trans hi hn), wn_set (by omega), ex_eu] at hP
  exact kk H1 locs1 ⟨hP, hS, hI.2.2⟩
theorem y_cont {m2 t mc ms : Nat} {Fn : Nat → va_E} {st0 : List Value} {a : Array Value} (hr : va_Run p l e R s m args below meth c H locs cells slots mc ms (F0 m pc ls st0) rest (QN G o (k + t + m2) (ex (ex E k F) (k + t) Fn) a) (ge o)) (hI : IN G o k n E F H0 H locs)
    (kk : ∀ (H1 : Heap) (locs1 : List Loc), IN G o k (t + m2) E (ex F t Fn) H0 H1 locs1 → W p l e R s m args below meth c H1 locs1 (cells + mc) (slots + ms) Q (F0 m (pc + 3) ls rest)) : W p l e R s m args below meth c H locs cells slots Q (F0 m pc ls st0) := by
  intro T hT XX
  obtain ⟨v, st₀, t, T', L, h0, X', hL, e1, e2, ⟨hv, hP, hz, hk⟩, st⟩ := hr T hT XX
  cases hv
  rw [h0] at hz hk
  have hS := hI.2.1
  rw [Nat.add_assoc, ex_ex] at hP
  obtain ⟨t2, a1, b1⟩ := kk T'.heap (locs ++ L) ⟨by rw [e1]; exact hP, ⟨Nat.le_trans hS.1 (by rw [e1]; exact hz), fun q h1 h2 => by rw [e1, hk q (Nat.lt_of_lt_of_le h1 hS.1) h2]; exact hS.2.1 q h1 h2, fun q hq => by
      rcases List.mem_append.mp hq with h | h
      · exact hS.2.2 q h
      · exact hL q h⟩, hI.2.2⟩ T' rfl X'
  exact ⟨t2, st t2 a1, b1⟩
theorem y_callI {y : MethodName} {bytes : ByteArray} {maxL f lo mc ms index t m2 : Nat} {Fn : Nat → va_E} {st0 : List Value} (hE : gE p m c cc nL s args own) (hK : KC G s) (hI : IN G o k (t + 1) E F H0 H locs) (hz : H.size = o + (k + (t + 1))) (hM : Cn l y bytes maxL f lo mc ms G o (k + t) m2 (ex E k F) Fn) (hcode : Cond.code y bytes maxL none ∈ gt) (hin : Cond.instanceMethod y ∈ gt) (hini : Cond.initialized y.cls ∈ gt) (hlink : Cond.methodLink own index y ∈ gt) (hnm : y.name = "<init>") (hd : y.cls ≠ "java/lang/invoke/MethodHandle" ∧ y.cls ≠ "java/lang/invoke/VarHandle" ∧ (parseMethodDescriptor y.desc).map (fun d => d.parameters.length) = some 0) (hsize : ls.size = nL) (hst : st0 = .ref (o + (k + t)) :: rest) (hW : (rest.map fun v => v.category).sum ≤ 8) (hR : f + 1 ≤ R.frames ∧ 8 + (maxL + 11) + lo ≤ R.locals) (hcs : cells + mc ≤ R.cells ∧ slots + ms ≤ R.slots) (hdg : decode cc pc = .ok (.invokespecial index, 3))
    (kk : ∀ (H1 : Heap) (locs1 : List Loc), IN G o k (t + m2) E (ex F t Fn) H0 H1 locs1 → W p l e R s m args below meth c H1 locs1 (cells + mc) (slots + ms) Q (F0 m (pc + 3) ls rest)) : W p l e R s m args below meth c H locs cells slots Q (F0 m pc ls st0) := by
  have hT := hE.2.2.2.2
  refine y_cont (va_runI (As := []) (b := o + (k + t)) (n := 0) hE hM (cwI 0 hT (wsG_good hcode) rfl rfl rfl (hT _ hini) (hT _ hlink) (hT _ hin) hnm hd hR) ⟨PreN.blind, fun U hU hWm => ⟨rfl, hK.warm hWm, by rw [hU]; exact hI.1, by rw [hU]; exact hz⟩⟩ rfl rfl hsize hst (lv_room hW) hdg hcs) hI kk
theorem y_callN {y : MethodName} {bytes : ByteArray} {maxL f lo mc ms index t m2 : Nat} {host : String} {Fn : Nat → va_E} {st0 : List Value} (hE : gE p m c cc nL s args own) (hK : KC G s) (hI : IN G o k (t + 1) E F H0 H locs) (hz : H.size = o + (k + (t + 1))) (hM : Cn l y bytes maxL f lo mc ms G o (k + t) m2 (ex E k F) Fn) (hcode : Cond.code y bytes maxL none ∈ gt) (hin : Cond.instanceMethod y ∈ gt) (hini : Cond.initialized y.cls ∈ gt) (hlink : va_Nw (.methodLinkNest own index y host) s) (hnm : y.name = "<init>") (hd : y.cls ≠ "java/lang/invoke/MethodHandle" ∧ y.cls ≠ "java/lang/invoke/VarHandle" ∧ (parseMethodDescriptor y.desc).map (fun d => d.parameters.length) = some 0) (hsize : ls.size = nL) (hst : st0 = .ref (o + (k + t)) :: rest) (hW : (rest.map fun v => v.category).sum ≤ 8) (hR : f + 1 ≤ R.frames ∧ 8 + (maxL + 11) + lo ≤ R.locals) (hcs : cells + mc ≤ R.cells ∧ slots + ms ≤ R.slots) (hdg : decode cc pc = .ok (.invokespecial index, 3))
    (kk : ∀ (H1 : Heap) (locs1 : List Loc), IN G o k (t + m2) E (ex F t Fn) H0 H1 locs1 → W p l e R s m args below meth c H1 locs1 (cells + mc) (slots + ms) Q (F0 m (pc + 3) ls rest)) : W p l e R s m args below meth c H locs cells slots Q (F0 m pc ls st0) := by
  have hT := hE.2.2.2.2
  refine y_cont (va_runIN (As := []) (b := o + (k + t)) (n := 0) hE hM ⟨va_cnB 0 hT (wsG_good hcode) rfl rfl rfl hlink (hT _ hini) hd hR, hnm, hT _ hin⟩ ⟨PreN.blind, fun U hU hWm => ⟨rfl, hK.warm hWm, by rw [hU]; exact hI.1, by rw [hU]; exact hz⟩⟩ rfl rfl hsize hst (lv_room hW) hdg hcs) hI kk
theorem y_ret {Fn : Nat → va_E} {m2 mc ms : Nat} (hE : gE p m c cc nL s args own) (hr : meth.sig.returnType = none) (hlocks : meth.locks = false) (hI : IN G o k n E F s.heap H locs) (hn : n = m2) (hc : cells = mc) (hs : slots = ms) (hF : ∀ j, j < n → F j = Fn j) (hdg : decode cc pc = .ok (.return_, 1)) : W p l e R s m args below meth c H locs cells slots (MQ below (QN G o (k + m2) (ex E k Fn)) args s mc ms (ge o)) (F0 m pc ls []) := by
  subst hn hc hs
  have hI2 := hI.congr hF
  exact W.vret hE.1 hE.2.1 hr (fun t ht _ => ⟨rfl, by rw [ht]; exact hI2.1, hI.2.1.F ht⟩) hI.2.1.2.2 hdg hlocks
end YR
