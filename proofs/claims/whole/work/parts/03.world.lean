/-! ===== 03: the world of the claim: 292 cells from o on (class: 0 to 284, reference: 285 to 291) ===== -/
abbrev GG : Type := va_G × (Nat → ClassId)
abbrev SX : Type := Nat → Nat → Int32
abbrev SY : Type := Nat → Nat → Int64
abbrev tysG (G : GG) : List (ClassId × FieldType) := [(G.2 0, .int), (G.2 1, .long), (G.2 2, .boolean), (G.2 3, .object "GrindingCircuit$Lot"), (G.2 4, .object "GrindingCircuit$Plant"), (G.2 5, .array .int)]
def KK (G : GG) (U : State) : Prop := va_K G.1 vwCl (tysG G) U ∧ va_Nw (.methodLinkNest RX2 33 yX5_isSize RX5) U ∧ va_Nw (.methodLinkNest RX0 34 yX5_sum RX5) U ∧ va_Nw (.methodLinkNest RX3 122 yX5_sum RX5) U
theorem KK.warm {G : GG} {s U : State} (hW : s.WarmedH U.vm) (h : KK G s) : KK G U := ⟨va_K.moved hW.alike h.1, va_Nw.warmM hW h.2.1, va_Nw.warmM hW h.2.2.1, va_Nw.warmM hW h.2.2.2⟩
theorem KK.calling {G : GG} {U : State} {g : JFrame} {mk : MethodId} {a : Array Value} (h : KK G U) : KK G (U.calling g mk a) := ⟨va_K.moved (u := U) (U := U.calling g mk a) (Vm.Alike.refl U.vm) h.1, va_Nw.same rfl rfl h.2.1, va_Nw.same rfl rfl h.2.2.1, va_Nw.same rfl rfl h.2.2.2⟩
/-- the cells of a plant whose first cell is o + d -/
def pshp (G : GG) (o d j : Nat) (f : Nat → Int32) : va_E := match j with
  | 0 => .inr (1, [.ref (o + (d + 1)), .ref (o + (d + 10))])
  | 1 => .inr (2, [.ref (o + (d + 2)), .ref (o + (d + 7)), .ref (o + (d + 8)), .ref (o + (d + 9)), .int (f 4), .int (f 5)])
  | 2 => .inl (G.2 5, 4, .inr (.inr (.inr (.inr (fun i => if i < 4 then some (o + (d + (3 + i))) else none)))))
  | 3 => .inl (G.2 0, 4, .inl f)
  | 4 => .inl (G.2 0, 4, .inl f)
  | 5 => .inl (G.2 0, 4, .inl f)
  | 6 => .inl (G.2 0, 4, .inl f)
  | 7 => .inl (G.2 0, 4, .inl f)
  | 8 => .inl (G.2 0, 4, .inl f)
  | 9 => .inl (G.2 0, 4, .inl f)
  | 10 => .inr (3, [.ref (o + (d + 11)), .ref (o + (d + 12)), .int (f 2), .int (f 3), .int (f 4), .int (f 5), .int (f 6), .int (f 7), .int (f 8)])
  | 11 => .inl (G.2 3, 40, .inr (.inr (.inr (.inr (fun i => if i < 40 then some (o + (d + (13 + 2 * i))) else none)))))
  | 12 => .inl (G.2 0, 4, .inl f)
  | k + 13 => if k % 2 = 0 then .inr (0, [.ref (o + (d + (k + 14))), .int (f 1), .int (f 2), .int (f 3), .int (f 4)]) else .inl (G.2 0, 4, .inl f)
def shp (G : GG) (o k : Nat) (f : Nat → Int32) (g : Nat → Int64) : va_E :=
  if k = 0 then .inr (5, [.ref (o + 1), .ref (o + 94), .ref (o + 281), .ref (o + 282)])
  else if k < 94 then pshp G o 1 (k - 1) f
  else if k = 94 then .inl (G.2 4, 2, .inr (.inr (.inr (.inr (fun i => if i = 0 then some (o + 95) else if i = 1 then some (o + 188) else none)))))
  else if k < 188 then pshp G o 95 (k - 95) f
  else if k < 281 then pshp G o 188 (k - 188) f
  else if k = 281 then .inl (G.2 2, 2, .inl f)
  else if k = 282 then .inr (4, [.ref (o + 283), .ref (o + 284), .long (g 2), .int (f 3)])
  else if k = 283 then .inl (G.2 1, 4, .inr (.inl g))
  else if k = 284 then .inl (G.2 0, 4, .inl f)
  else if k = 285 then .inr (6, [.ref (o + 286), .ref (o + 287), .ref (o + 288), .ref (o + 289), .ref (o + 290), .long (g 5), .ref (o + 291)])
  else if k = 286 then .inl (G.2 0, 361, .inl f)
  else if k = 287 then .inl (G.2 0, 722, .inl f)
  else if k = 288 then .inl (G.2 2, 2, .inl f)
  else if k = 289 then .inl (G.2 0, 4, .inl f)
  else if k = 290 then .inl (G.2 1, 4, .inr (.inl g))
  else .inl (G.2 0, 4, .inl f)
def wl (G : GG) (o : Nat) (X : SX) (Y : SY) : va_W := (List.range 292).map (fun k => (o + k, shp G o k (X k) (Y k)))
def rg (o : Nat) : Nat → Prop := fun q => o ≤ q ∧ q < o + 292
theorem wl_at {G : GG} {o : Nat} {X : SX} {Y : SY} {k : Nat} {e : va_E} (hk : k < 292) (he : shp G o k (X k) (Y k) = e) : (wl G o X Y)[k]? = some (o + k, e) := by
  unfold wl
  rw [List.getElem?_map, List.getElem?_range hk]
  exact congrArg (fun z => some (o + k, z)) he
theorem wl_inv {G : GG} {o : Nat} {X : SX} {Y : SY} {k : Nat} {q : Nat × va_E} (h : (wl G o X Y)[k]? = some q) : k < 292 ∧ q = (o + k, shp G o k (X k) (Y k)) := by
  have hl : k < (wl G o X Y).length := (List.getElem?_eq_some_iff.mp h).1
  have hk : k < 292 := by simpa [wl] using hl
  rw [wl_at hk rfl] at h
  exact ⟨hk, (Option.some.inj h).symm⟩
theorem wl_D {G : GG} {o : Nat} {X : SX} {Y : SY} : va_D (rg o) (wl G o X Y) := by
  refine ⟨fun i j p q hi hj hpq => ?_, fun k q hk => ?_⟩
  · obtain ⟨-, rfl⟩ := wl_inv hi
    obtain ⟨-, rfl⟩ := wl_inv hj
    have h : o + i = o + j := hpq
    omega
  · obtain ⟨h, rfl⟩ := wl_inv hk
    exact ⟨Nat.le_add_right _ _, by show o + k < o + 292; omega⟩
theorem wl_set {G : GG} {o : Nat} {X X2 : SX} {Y Y2 : SY} {k : Nat} {e : va_E} (hk : k < 292) (he : shp G o k (X2 k) (Y2 k) = e) (hx : ∀ a, a ≠ k → X2 a = X a) (hy : ∀ a, a ≠ k → Y2 a = Y a) : (wl G o X Y).set k (o + k, e) = wl G o X2 Y2 := by
  apply List.ext_getElem?
  intro i
  by_cases hi : i = k
  · subst hi
    rw [List.getElem?_set_self (by simpa [wl] using hk), wl_at hk he]
  · rw [List.getElem?_set_ne (Ne.symm hi)]
    by_cases hl : i < 292
    · rw [wl_at hl rfl, wl_at hl rfl, hx i hi, hy i hi]
    · rw [List.getElem?_eq_none (by simpa [wl] using hl), List.getElem?_eq_none (by simpa [wl] using hl)]
def sx (X : SX) (k i : Nat) (v : Int32) : SX := fun a => if a = k then upd (X a) i v else X a
def sy (Y : SY) (k i : Nat) (v : Int64) : SY := fun a => if a = k then vp_updL (Y a) i v else Y a
theorem sx_k {X : SX} {k i : Nat} {v : Int32} : sx X k i v k = upd (X k) i v := if_pos rfl
theorem sx_n {X : SX} {k i a : Nat} {v : Int32} (h : a ≠ k) : sx X k i v a = X a := if_neg h
theorem sy_k {X : SY} {k i : Nat} {v : Int64} : sy X k i v k = vp_updL (X k) i v := if_pos rfl
theorem sy_n {X : SY} {k i a : Nat} {v : Int64} (h : a ≠ k) : sy X k i v a = X a := if_neg h
theorem sx_e {X : SX} {k i : Nat} {v : Int32} : sx X k i v k i = v := by simp [sx, upd]
theorem sy_e {X : SY} {k i : Nat} {v : Int64} : sy X k i v k i = v := by simp [sy, vp_updL]
def In (G : GG) (o : Nat) (X : SX) (Y : SY) (H0 H : Heap) (locs : List Loc) : Prop := va_P G.1 vwCl (wl G o X Y) H ∧ va_S (rg o) H0 H locs
def Pre (av : List Value) (G : GG) (o : Nat) (X : SX) (Y : SY) : Array Value → State → Prop := fun v U => v = av.toArray ∧ KK G U ∧ va_P G.1 vwCl (wl G o X Y) U.heap
def Qw (G : GG) (o : Nat) (r : Option Value) (X : SX) (Y : SY) : Array Value → State → Outcome → State → Prop := fun _ st oc t => oc = .returned r ∧ va_P G.1 vwCl (wl G o X Y) t.heap ∧ va_F (rg o) st t
def wsG (y : MethodName) (cc : ByteArray) (n : Nat) (ret : Option FieldType) : List Cond := .code y cc n ret :: gt
abbrev Rm (f n : Nat) : Room := { frames := f, cells := 0, slots := 0, locals := n }
/-- a contract: with these arguments over this world the method answers r and leaves that world -/
abbrev Ct (l : Launch) (y : MethodName) (cc : ByteArray) (n : Nat) (ret : Option FieldType) (f lo : Nat) (G : GG) (o : Nat) (av : List Value) (X : SX) (Y : SY) (r : Option Value) (X' : SX) (Y' : SY) : Prop :=
  Met l y (wsG y cc n ret) (Rm f lo) (Pre av G o X Y) (Qw G o r X' Y') 0 0 (rg o)
theorem Pre.blind {av : List Value} {G : GG} {o : Nat} {X : SX} {Y : SY} : FrameBlind (Pre av G o X Y) := fun _ _ _ _ h => ⟨h.1, h.2.1.calling, h.2.2⟩
theorem wsG_good {y : MethodName} {cc : ByteArray} {n : Nat} {ret : Option FieldType} (h : Cond.code y cc n ret ∈ gt) : GoodIn gt (wsG y cc n ret) := by
  intro w hw
  rcases List.mem_cons.mp hw with rfl | hw
  · exact ⟨h, gt_good h⟩
  · exact ⟨hw, gt_good hw⟩
abbrev gE (p : Program) (m : MethodId) (c : Code) (cc : ByteArray) (nL : Nat) (s : State) (args : Array Value) (own : String) : Prop := CallFix p m c cc nL s args gt own
theorem Ct.mk {l : Launch} {y : MethodName} {cc : ByteArray} {n : Nat} {ret : Option FieldType} {f lo : Nat} {G : GG} {o : Nat} {av : List Value} {X X' : SX} {Y Y' : SY} {r : Option Value} {lv : List (Nat × Value)} (hy : plainName y.cls = true) (hl : (lg_sl av).length ≤ n) (hlv : lv_args 0 av = lv)
    (body : ∀ (p : Program) (e : Env) (s : State) (m : MethodId) (args : Array Value) (below : List Frame) (meth : Method) (c : Code), gE p m c cc n s args y.cls → meth.sig.returnType = ret → meth.locks = false → KK G s → In G o X Y s.heap s.heap [] → ∀ ls : Array Slot, lv_has ls n lv →
      W p l e (Rm f lo) s m args below meth c s.heap [] 0 0 (MQ below (Qw G o r X' Y') args s 0 0 (rg o)) (F0 m 0 ls [])) : Ct l y cc n ret f lo G o av X Y r X' Y' := by
  refine Met.ofW (cc := cc) (maxL := n) (ret := ret) hy rfl ?_
  intro p e s m args below meth c s₁ B hml hv
  obtain ⟨rfl, hK, hP⟩ := hv
  have hts := atoms_spec (ws := wsG y cc n ret) B.pre
  have hown : s.vm.findClass y.cls = some m.cls := findClass_of_methodNamed B.named
  rw [lg_entry_eq]
  exact body p e s m _ below meth c ⟨B.exec, B.bytes, hml, hown, fun w h => hts w (List.mem_cons_of_mem _ h)⟩ B.returns B.notSynchronized hK ⟨hP, va_S.rf⟩ _ (hlv ▸ lv_entry av hl)
section XR
variable {p : Program} {l : Launch} {e : Env} {R : Room} {s : State} {m : MethodId} {args : Array Value} {below : List Frame} {meth : Method} {c : Code} {H H0 : Heap} {locs : List Loc} {cells slots : Nat} {Q : State → Prop}
variable {cc : ByteArray} {pc nL : Nat} {ls : Array Slot} {rest : List Value} {own : String} {G : GG} {o : Nat} {X : SX} {Y : SY}
theorem x_get {C : String} {T : u_T} {N ci index k : Nat} {fs : List Value} {v : Value} (hE : gE p m c cc nL s args own) (hK : KK G s) (hI : In G o X Y H0 H locs) (hk : k < 292) (hin : ∀ w ∈ u_ws C T N, w ∈ gt) (he : shp G o k (X k) (Y k) = .inr (ci, fs)) (hc : vwCl[ci]? = some (C, T, N)) (i : Nat) (hi : i < N) (hlink : Cond.fieldLink own index (T i).1 (T i).2.1 (T i).2.2.1 ∈ gt) (hv : fs[i]? = some v) (hdg : decode cc pc = .ok (.getfield index, 3))
    (kk : W p l e R s m args below meth c H locs cells slots Q (F0 m (pc + 3) ls (v :: rest))) : W p l e R s m args below meth c H locs cells slots Q (F0 m pc ls (.ref (o + k) :: rest)) :=
  va_get (D := G.1) hE.1 hE.2.1 hE.2.2.2.2 hin hE.2.2.2.1 hK.1 hI.1 k (wl_at hk he) hc i hi (hE.2.2.2.2 _ hlink) (fun _ h => h) hv hdg kk
theorem x_put {C : String} {T : u_T} {N ci index k : Nat} {fs : List Value} {v : Value} {ty : FieldType} {X2 : SX} {Y2 : SY} (hE : gE p m c cc nL s args own) (hK : KK G s) (hI : In G o X Y H0 H locs) (hk : k < 292) (hin : ∀ w ∈ u_ws C T N, w ∈ gt) (ty0 : Nat → FieldType) (hty : ∀ k, k < N → parseFieldDescriptor (T k).2.2.1 = some (ty0 k)) (hnm : ∀ a, a < N → ∀ b, b < N → a ≠ b → (T a).2.1 ≠ (T b).2.1) (he : shp G o k (X k) (Y k) = .inr (ci, fs)) (hc : vwCl[ci]? = some (C, T, N)) (i : Nat) (hi : i < N) (hlink : Cond.fieldLink own index (T i).1 (T i).2.1 (T i).2.2.1 ∈ gt) (hfin : (T i).2.2.2 = false) (hd : parseFieldDescriptor (T i).2.2.1 = some ty) (hn : narrow ty v = v) (hfit : fits ty v = true) (hl : i < fs.length)
    (he2 : shp G o k (X2 k) (Y2 k) = .inr (ci, fs.set i v)) (hx : ∀ a, a ≠ k → X2 a = X a) (hy : ∀ a, a ≠ k → Y2 a = Y a) (hdg : decode cc pc = .ok (.putfield index, 3))
    (kk : ∀ (H1 : Heap) (locs1 : List Loc), In G o X2 Y2 H0 H1 locs1 → W p l e R s m args below meth c H1 locs1 cells slots Q (F0 m (pc + 3) ls rest)) : W p l e R s m args below meth c H locs cells slots Q (F0 m pc ls (v :: .ref (o + k) :: rest)) := by
  refine va_put (D := G.1) hE.1 hE.2.1 hE.2.2.2.2 hin ty0 hty hnm hE.2.2.2.1 hK.1 hI.1 wl_D hI.2 k (wl_at hk he) hc i hi (hE.2.2.2.2 _ hlink) (fun _ h => h) hfin hd hn hfit hl hdg (fun H1 locs1 hP hD hS => ?_)
  rw [wl_set hk he2 hx hy] at hP
  exact kk H1 locs1 ⟨hP, hS⟩
theorem x_puti {C : String} {T : u_T} {N ci index k : Nat} {fs : (Nat → Int32) → (Nat → Int64) → List Value} {v : Int32} (hE : gE p m c cc nL s args own) (hK : KK G s) (hI : In G o X Y H0 H locs) (hk : k < 292) (hin : ∀ w ∈ u_ws C T N, w ∈ gt) (ty0 : Nat → FieldType) (hty : ∀ k, k < N → parseFieldDescriptor (T k).2.2.1 = some (ty0 k)) (hnm : ∀ a, a < N → ∀ b, b < N → a ≠ b → (T a).2.1 ≠ (T b).2.1) (he : ∀ f g, shp G o k f g = .inr (ci, fs f g)) (hc : vwCl[ci]? = some (C, T, N)) (i : Nat) (hi : i < N) (hlink : Cond.fieldLink own index (T i).1 (T i).2.1 (T i).2.2.1 ∈ gt) (hfin : (T i).2.2.2 = false) (hd : parseFieldDescriptor (T i).2.2.1 = some .int) (hl : i < (fs (X k) (Y k)).length)
    (he2 : fs (upd (X k) i v) (Y k) = (fs (X k) (Y k)).set i (.int v)) (hdg : decode cc pc = .ok (.putfield index, 3))
    (kk : ∀ (H1 : Heap) (locs1 : List Loc), In G o (sx X k i v) Y H0 H1 locs1 → W p l e R s m args below meth c H1 locs1 cells slots Q (F0 m (pc + 3) ls rest)) : W p l e R s m args below meth c H locs cells slots Q (F0 m pc ls (.int v :: .ref (o + k) :: rest)) :=
  x_put (ty := .int) (X2 := sx X k i v) (Y2 := Y) hE hK hI hk hin ty0 hty hnm (he _ _) hc i hi hlink hfin hd rfl rfl hl (by rw [sx_k, he, he2]) (fun a h => sx_n h) (fun _ _ => rfl) hdg kk
theorem x_putz {C : String} {T : u_T} {N ci index k : Nat} {fs : (Nat → Int32) → (Nat → Int64) → List Value} {v : Int32} (hE : gE p m c cc nL s args own) (hK : KK G s) (hI : In G o X Y H0 H locs) (hk : k < 292) (hin : ∀ w ∈ u_ws C T N, w ∈ gt) (ty0 : Nat → FieldType) (hty : ∀ k, k < N → parseFieldDescriptor (T k).2.2.1 = some (ty0 k)) (hnm : ∀ a, a < N → ∀ b, b < N → a ≠ b → (T a).2.1 ≠ (T b).2.1) (he : ∀ f g, shp G o k f g = .inr (ci, fs f g)) (hc : vwCl[ci]? = some (C, T, N)) (i : Nat) (hi : i < N) (hlink : Cond.fieldLink own index (T i).1 (T i).2.1 (T i).2.2.1 ∈ gt) (hfin : (T i).2.2.2 = false) (hd : parseFieldDescriptor (T i).2.2.1 = some .boolean) (hl : i < (fs (X k) (Y k)).length) (hv : v = 0 ∨ v = 1)
    (he2 : fs (upd (X k) i v) (Y k) = (fs (X k) (Y k)).set i (.int v)) (hdg : decode cc pc = .ok (.putfield index, 3))
    (kk : ∀ (H1 : Heap) (locs1 : List Loc), In G o (sx X k i v) Y H0 H1 locs1 → W p l e R s m args below meth c H1 locs1 cells slots Q (F0 m (pc + 3) ls rest)) : W p l e R s m args below meth c H locs cells slots Q (F0 m pc ls (.int v :: .ref (o + k) :: rest)) :=
  x_put (ty := .boolean) (X2 := sx X k i v) (Y2 := Y) hE hK hI hk hin ty0 hty hnm (he _ _) hc i hi hlink hfin hd (by rcases hv with rfl | rfl <;> rfl) (by rcases hv with rfl | rfl <;> rfl) hl (by rw [sx_k, he, he2]) (fun a h => sx_n h) (fun _ _ => rfl) hdg kk
theorem x_putl {C : String} {T : u_T} {N ci index k : Nat} {fs : (Nat → Int32) → (Nat → Int64) → List Value} {v : Int64} (hE : gE p m c cc nL s args own) (hK : KK G s) (hI : In G o X Y H0 H locs) (hk : k < 292) (hin : ∀ w ∈ u_ws C T N, w ∈ gt) (ty0 : Nat → FieldType) (hty : ∀ k, k < N → parseFieldDescriptor (T k).2.2.1 = some (ty0 k)) (hnm : ∀ a, a < N → ∀ b, b < N → a ≠ b → (T a).2.1 ≠ (T b).2.1) (he : ∀ f g, shp G o k f g = .inr (ci, fs f g)) (hc : vwCl[ci]? = some (C, T, N)) (i : Nat) (hi : i < N) (hlink : Cond.fieldLink own index (T i).1 (T i).2.1 (T i).2.2.1 ∈ gt) (hfin : (T i).2.2.2 = false) (hd : parseFieldDescriptor (T i).2.2.1 = some .long) (hl : i < (fs (X k) (Y k)).length)
    (he2 : fs (X k) (vp_updL (Y k) i v) = (fs (X k) (Y k)).set i (.long v)) (hdg : decode cc pc = .ok (.putfield index, 3))
    (kk : ∀ (H1 : Heap) (locs1 : List Loc), In G o X (sy Y k i v) H0 H1 locs1 → W p l e R s m args below meth c H1 locs1 cells slots Q (F0 m (pc + 3) ls rest)) : W p l e R s m args below meth c H locs cells slots Q (F0 m pc ls (.long v :: .ref (o + k) :: rest)) :=
  x_put (ty := .long) (X2 := X) (Y2 := sy Y k i v) hE hK hI hk hin ty0 hty hnm (he _ _) hc i hi hlink hfin hd rfl rfl hl (by rw [sy_k, he, he2]) (fun _ _ => rfl) (fun a h => sy_n h) hdg kk
theorem x_iald {k n j : Nat} {idx : Int32} (hE : gE p m c cc nL s args own) (hK : KK G s) (hI : In G o X Y H0 H locs) (hk : k < 292) (he : ∀ f g, shp G o k f g = .inl (G.2 0, n, .inl f)) (hj : j < n) (hn : n < 2 ^ 31) (hi : idx = nI j) (hdg : decode cc pc = .ok (.iaload, 1))
    (kk : W p l e R s m args below meth c H locs cells slots Q (F0 m (pc + 1) ls (.int (X k j) :: rest))) : W p l e R s m args below meth c H locs cells slots Q (F0 m pc ls (.int idx :: .ref (o + k) :: rest)) := by
  subst hi
  refine va_iald (D := G.1) hE.1 hE.2.1 hK.1 hI.1 k 0 (wl_at hk (he _ _)) rfl (vp_in_nI hj hn) hdg ?_
  rw [nI_clamp (Nat.lt_trans hj hn)]
  exact kk
theorem x_zald {k n j : Nat} {idx : Int32} (hE : gE p m c cc nL s args own) (hK : KK G s) (hI : In G o X Y H0 H locs) (hk : k < 292) (he : ∀ f g, shp G o k f g = .inl (G.2 2, n, .inl f)) (hj : j < n) (hn : n < 2 ^ 31) (hi : idx = nI j) (hdg : decode cc pc = .ok (.baload, 1))
    (kk : W p l e R s m args below meth c H locs cells slots Q (F0 m (pc + 1) ls (.int (X k j) :: rest))) : W p l e R s m args below meth c H locs cells slots Q (F0 m pc ls (.int idx :: .ref (o + k) :: rest)) := by
  subst hi
  refine va_zald (D := G.1) hE.1 hE.2.1 hK.1 hI.1 k 2 (wl_at hk (he _ _)) rfl (vp_in_nI hj hn) hdg ?_
  rw [nI_clamp (Nat.lt_trans hj hn)]
  exact kk
theorem x_lald {k n j : Nat} {idx : Int32} (hE : gE p m c cc nL s args own) (hK : KK G s) (hI : In G o X Y H0 H locs) (hk : k < 292) (he : ∀ f g, shp G o k f g = .inl (G.2 1, n, .inr (.inl g))) (hj : j < n) (hn : n < 2 ^ 31) (hi : idx = nI j) (hdg : decode cc pc = .ok (.laload, 1))
    (kk : W p l e R s m args below meth c H locs cells slots Q (F0 m (pc + 1) ls (.long (Y k j) :: rest))) : W p l e R s m args below meth c H locs cells slots Q (F0 m pc ls (.int idx :: .ref (o + k) :: rest)) := by
  subst hi
  refine va_lald (D := G.1) hE.1 hE.2.1 hK.1 hI.1 k 1 (wl_at hk (he _ _)) rfl (vp_in_nI hj hn) hdg ?_
  rw [nI_clamp (Nat.lt_trans hj hn)]
  exact kk
theorem x_aald {k n j q t0 : Nat} {ty : FieldType} {cA : ClassId} {fr : Nat → Option Nat} {idx : Int32} (hE : gE p m c cc nL s args own) (hK : KK G s) (hI : In G o X Y H0 H locs) (hk : k < 292) (he : ∀ f g, shp G o k f g = .inl (cA, n, .inr (.inr (.inr (.inr fr))))) (ht : (tysG G)[t0]? = some (cA, ty)) (hty : ty.isReference = true) (hj : j < n) (hn : n < 2 ^ 31) (hi : idx = nI j) (hq : fr j = some q) (hdg : decode cc pc = .ok (.aaload, 1))
    (kk : W p l e R s m args below meth c H locs cells slots Q (F0 m (pc + 1) ls (.ref q :: rest))) : W p l e R s m args below meth c H locs cells slots Q (F0 m pc ls (.int idx :: .ref (o + k) :: rest)) := by
  subst hi
  have hin := vp_in_nI hj hn
  have hlt : (nI j).toNatClampNeg < n := by rw [nI_clamp (Nat.lt_trans hj hn)]; exact hj
  exact W.aald (v := .ref q) (ty := ty) hE.1 hE.2.1 (hI.1 k _ (wl_at hk (he _ _))) ((hK.1.2 t0 _ ht).1 n (fun j => va_rf (fr j))) hty (fun q => by cases q) (by show ¬ (nI j < 0 ∨ (arrV _ _ _).slots.size ≤ _); rw [arrV_size]; exact hin) (by show (arrV _ _ _).slots[_]? = _; rw [arrV_read _ _ hlt, nI_clamp (Nat.lt_trans hj hn), hq]; rfl) rfl rfl hdg kk
theorem x_alen {k t0 : Nat} {x : vp_A} {ty : FieldType} {cA : ClassId} {v : Int32} (hE : gE p m c cc nL s args own) (hK : KK G s) (hI : In G o X Y H0 H locs) (hk : k < 292) (he : shp G o k (X k) (Y k) = .inl (cA, x)) (ht : (tysG G)[t0]? = some (cA, ty)) (hv : Int32.ofNat x.1 = v) (hdg : decode cc pc = .ok (.arraylength, 1))
    (kk : W p l e R s m args below meth c H locs cells slots Q (F0 m (pc + 1) ls (.int v :: rest))) : W p l e R s m args below meth c H locs cells slots Q (F0 m pc ls (.ref (o + k) :: rest)) :=
  va_alen (D := G.1) hE.1 hE.2.1 hK.1 hI.1 k t0 (wl_at hk he) ht hv hdg kk
theorem x_iast {k n j : Nat} {idx x : Int32} (hE : gE p m c cc nL s args own) (hK : KK G s) (hI : In G o X Y H0 H locs) (hk : k < 292) (he : ∀ f g, shp G o k f g = .inl (G.2 0, n, .inl f)) (hj : j < n) (hn : n < 2 ^ 31) (hi : idx = nI j) (hdg : decode cc pc = .ok (.iastore, 1))
    (kk : ∀ (H1 : Heap) (locs1 : List Loc), In G o (sx X k j x) Y H0 H1 locs1 → W p l e R s m args below meth c H1 locs1 cells slots Q (F0 m (pc + 1) ls rest)) : W p l e R s m args below meth c H locs cells slots Q (F0 m pc ls (.int x :: .int idx :: .ref (o + k) :: rest)) := by
  subst hi
  refine va_iast (D := G.1) hE.1 hE.2.1 hK.1 hI.1 wl_D hI.2 k 0 (wl_at hk (he _ _)) rfl (vp_in_nI hj hn) hdg (fun H1 locs1 hP hD hS => kk H1 locs1 ⟨?_, hS⟩)
  rw [nI_clamp (Nat.lt_trans hj hn), wl_set (X2 := sx X k j x) (Y2 := Y) hk (by rw [sx_k, he]) (fun a h => sx_n h) (fun _ _ => rfl)] at hP
  exact hP
theorem x_zast {k n j : Nat} {idx x : Int32} (hE : gE p m c cc nL s args own) (hK : KK G s) (hI : In G o X Y H0 H locs) (hk : k < 292) (he : ∀ f g, shp G o k f g = .inl (G.2 2, n, .inl f)) (hj : j < n) (hn : n < 2 ^ 31) (hi : idx = nI j) (hx01 : x = 0 ∨ x = 1) (hdg : decode cc pc = .ok (.bastore, 1))
    (kk : ∀ (H1 : Heap) (locs1 : List Loc), In G o (sx X k j x) Y H0 H1 locs1 → W p l e R s m args below meth c H1 locs1 cells slots Q (F0 m (pc + 1) ls rest)) : W p l e R s m args below meth c H locs cells slots Q (F0 m pc ls (.int x :: .int idx :: .ref (o + k) :: rest)) := by
  subst hi
  have hx : vp_nar .boolean x = x := by rcases hx01 with rfl | rfl <;> rfl
  refine va_zast (D := G.1) hE.1 hE.2.1 hK.1 hI.1 wl_D hI.2 k 2 (wl_at hk (he _ _)) rfl (vp_in_nI hj hn) hdg (fun H1 locs1 hP hD hS => kk H1 locs1 ⟨?_, hS⟩)
  rw [hx, nI_clamp (Nat.lt_trans hj hn), wl_set (X2 := sx X k j x) (Y2 := Y) hk (by rw [sx_k, he]) (fun a h => sx_n h) (fun _ _ => rfl)] at hP
  exact hP
theorem x_last {k n j : Nat} {idx : Int32} {x : Int64} (hE : gE p m c cc nL s args own) (hK : KK G s) (hI : In G o X Y H0 H locs) (hk : k < 292) (he : ∀ f g, shp G o k f g = .inl (G.2 1, n, .inr (.inl g))) (hj : j < n) (hn : n < 2 ^ 31) (hi : idx = nI j) (hdg : decode cc pc = .ok (.lastore, 1))
    (kk : ∀ (H1 : Heap) (locs1 : List Loc), In G o X (sy Y k j x) H0 H1 locs1 → W p l e R s m args below meth c H1 locs1 cells slots Q (F0 m (pc + 1) ls rest)) : W p l e R s m args below meth c H locs cells slots Q (F0 m pc ls (.long x :: .int idx :: .ref (o + k) :: rest)) := by
  subst hi
  refine va_last (D := G.1) hE.1 hE.2.1 hK.1 hI.1 wl_D hI.2 k 1 (wl_at hk (he _ _)) rfl (vp_in_nI hj hn) hdg (fun H1 locs1 hP hD hS => kk H1 locs1 ⟨?_, hS⟩)
  rw [nI_clamp (Nat.lt_trans hj hn), wl_set (X2 := X) (Y2 := sy Y k j x) hk (by rw [sy_k, he]) (fun _ _ => rfl) (fun a h => sy_n h)] at hP
  exact hP
/-- what a call gives back -/
theorem x_cont {X' : SX} {Y' : SY} {r : Option Value} {st0 : List Value} {a : Array Value} (hr : va_Run p l e R s m args below meth c H locs cells slots 0 0 (F0 m pc ls st0) rest (Qw G o r X' Y' a) (rg o)) (hI : In G o X Y H0 H locs)
    (kk : ∀ (H1 : Heap) (locs1 : List Loc), In G o X' Y' H0 H1 locs1 → W p l e R s m args below meth c H1 locs1 cells slots Q (F0 m (pc + 3) ls (r.toList ++ rest))) : W p l e R s m args below meth c H locs cells slots Q (F0 m pc ls st0) := by
  intro T hT XX
  obtain ⟨v, st₀, t, T', L, h0, X', hL, e1, e2, ⟨hv, hP, hz, hk⟩, st⟩ := hr T hT XX
  cases hv
  rw [h0] at hz hk
  have hS := hI.2
  obtain ⟨t2, a1, b1⟩ := kk T'.heap (locs ++ L) ⟨by rw [e1]; exact hP, Nat.le_trans hS.1 (by rw [e1]; exact hz), fun q h1 h2 => by rw [e1, hk q (Nat.lt_of_lt_of_le h1 hS.1) h2]; exact hS.2.1 q h1 h2, fun q hq => by
      rcases List.mem_append.mp hq with h | h
      · exact hS.2.2 q h
      · exact hL q h⟩ T' rfl X'
  exact ⟨t2, st t2 a1, b1⟩
/-- what the tables say of a method that is called -/
def MfV (y : MethodName) (bytes : ByteArray) (maxL : Nat) (ret : Option FieldType) (n : Nat) : Prop := Cond.code y bytes maxL ret ∈ gt ∧ Cond.instanceMethod y ∈ gt ∧ Cond.selects y.cls y y ∈ gt ∧ Cond.initialized y.cls ∈ gt ∧ (y.cls ≠ "java/lang/invoke/MethodHandle" ∧ y.cls ≠ "java/lang/invoke/VarHandle" ∧ (parseMethodDescriptor y.desc).map (fun d => d.parameters.length) = some n)
def MfS (y : MethodName) (bytes : ByteArray) (maxL : Nat) (ret : Option FieldType) (n : Nat) : Prop := Cond.code y bytes maxL ret ∈ gt ∧ Cond.static y ∈ gt ∧ Cond.initialized y.cls ∈ gt ∧ (y.cls ≠ "java/lang/invoke/MethodHandle" ∧ y.cls ≠ "java/lang/invoke/VarHandle" ∧ (parseMethodDescriptor y.desc).map (fun d => d.parameters.length) = some n)
theorem x_callV {y : MethodName} {bytes : ByteArray} {maxL f lo n index k ci N : Nat} {T : u_T} {fs : List Value} {ret : Option FieldType} {As st0 : List Value} {r : Option Value} {X' : SX} {Y' : SY} (hE : gE p m c cc nL s args own) (hK : KK G s) (hI : In G o X Y H0 H locs) (hM : Ct l y bytes maxL ret f lo G o (.ref (o + k) :: As) X Y r X' Y') (hf : MfV y bytes maxL ret n) (hlink : Cond.methodLink own index y ∈ gt) (hk : k < 292) (he : shp G o k (X k) (Y k) = .inr (ci, fs)) (hc : vwCl[ci]? = some (y.cls, T, N)) (hn : As.length = n) (hsize : ls.size = nL) (hst : st0 = As.reverse ++ .ref (o + k) :: rest) (hW : (rest.map fun v => v.category).sum ≤ 8) (hR : f + 1 ≤ R.frames ∧ 8 + (maxL + 11) + lo ≤ R.locals) (hcs : cells ≤ R.cells ∧ slots ≤ R.slots) (hdg : decode cc pc = .ok (.invokevirtual index, 3))
    (kk : ∀ (H1 : Heap) (locs1 : List Loc), In G o X' Y' H0 H1 locs1 → W p l e R s m args below meth c H1 locs1 cells slots Q (F0 m (pc + 3) ls (r.toList ++ rest))) : W p l e R s m args below meth c H locs cells slots Q (F0 m pc ls st0) := by
  obtain ⟨h1, h2, h3, h4, h5⟩ := hf
  have hT := hE.2.2.2.2
  refine x_cont (va_runV (C := y.cls) (b := o + k) (n := n) hE hM ⟨callB_of n hT (wsG_good h1) rfl rfl rfl (hT _ h4) (hT _ hlink) h5 hR, hT _ h2, hT _ h3⟩ ⟨Pre.blind, va_recv hK.1 hI.1 hc (wl_at hk he), fun U hU hWm => ⟨rfl, hK.warm hWm, by rw [hU]; exact hI.1⟩⟩ rfl hn hsize hst (lv_room hW) hdg hcs) hI kk
theorem x_callS {y : MethodName} {bytes : ByteArray} {maxL f lo n index : Nat} {ret : Option FieldType} {As st0 : List Value} {r : Option Value} {X' : SX} {Y' : SY} (hE : gE p m c cc nL s args own) (hK : KK G s) (hI : In G o X Y H0 H locs) (hM : Ct l y bytes maxL ret f lo G o As X Y r X' Y') (hf : MfS y bytes maxL ret n) (hlink : Cond.methodLink own index y ∈ gt) (hn : As.length = n) (hsize : ls.size = nL) (hst : st0 = As.reverse ++ rest) (hW : (rest.map fun v => v.category).sum ≤ 8) (hR : f + 1 ≤ R.frames ∧ 8 + (maxL + 11) + lo ≤ R.locals) (hcs : cells ≤ R.cells ∧ slots ≤ R.slots) (hdg : decode cc pc = .ok (.invokestatic index, 3))
    (kk : ∀ (H1 : Heap) (locs1 : List Loc), In G o X' Y' H0 H1 locs1 → W p l e R s m args below meth c H1 locs1 cells slots Q (F0 m (pc + 3) ls (r.toList ++ rest))) : W p l e R s m args below meth c H locs cells slots Q (F0 m pc ls st0) := by
  obtain ⟨h1, h2, h4, h5⟩ := hf
  have hT := hE.2.2.2.2
  refine x_cont (va_runS (n := n) hE hM ⟨callB_of n hT (wsG_good h1) rfl rfl rfl (hT _ h4) (hT _ hlink) h5 hR, hT _ h2⟩ ⟨Pre.blind, fun U hU hWm => ⟨rfl, hK.warm hWm, by rw [hU]; exact hI.1⟩⟩ rfl hn hsize hst (lv_room hW) hdg hcs) hI kk
theorem x_callN {y : MethodName} {bytes : ByteArray} {maxL f lo n index : Nat} {host : String} {ret : Option FieldType} {As st0 : List Value} {r : Option Value} {X' : SX} {Y' : SY} (hE : gE p m c cc nL s args own) (hK : KK G s) (hI : In G o X Y H0 H locs) (hM : Ct l y bytes maxL ret f lo G o As X Y r X' Y') (hf : MfS y bytes maxL ret n) (hlink : va_Nw (.methodLinkNest own index y host) s) (hn : As.length = n) (hsize : ls.size = nL) (hst : st0 = As.reverse ++ rest) (hW : (rest.map fun v => v.category).sum ≤ 8) (hR : f + 1 ≤ R.frames ∧ 8 + (maxL + 11) + lo ≤ R.locals) (hcs : cells ≤ R.cells ∧ slots ≤ R.slots) (hdg : decode cc pc = .ok (.invokestatic index, 3))
    (kk : ∀ (H1 : Heap) (locs1 : List Loc), In G o X' Y' H0 H1 locs1 → W p l e R s m args below meth c H1 locs1 cells slots Q (F0 m (pc + 3) ls (r.toList ++ rest))) : W p l e R s m args below meth c H locs cells slots Q (F0 m pc ls st0) := by
  obtain ⟨h1, h2, h4, h5⟩ := hf
  have hT := hE.2.2.2.2
  refine x_cont (va_runSN (n := n) hE hM ⟨va_cnB n hT (wsG_good h1) rfl rfl rfl hlink (hT _ h4) h5 hR, hT _ h2, trivial⟩ ⟨Pre.blind, fun U hU hWm => ⟨rfl, hK.warm hWm, by rw [hU]; exact hI.1⟩⟩ rfl hn hsize hst (lv_room hW) hdg hcs) hI kk
theorem x_iret {v : Int32} {X' : SX} {Y' : SY} {r : Option Value} (hE : gE p m c cc nL s args own) (hr : meth.sig.returnType = some .int) (hlocks : meth.locks = false) (hI : In G o X Y s.heap H locs) (hv : r = some (.int v)) (hX : X = X') (hY : Y = Y') (hdg : decode cc pc = .ok (.ireturn, 1)) : W p l e R s m args below meth c H locs cells slots (MQ below (Qw G o r X' Y') args s cells slots (rg o)) (F0 m pc ls [.int v]) := by
  subst hX hY hv
  exact W.iret hE.1 hE.2.1 hr (fun t ht _ => ⟨rfl, by rw [ht]; exact hI.1, hI.2.F ht⟩) hI.2.2.2 hdg hlocks
theorem x_zret {v : Int32} {X' : SX} {Y' : SY} {r : Option Value} (hE : gE p m c cc nL s args own) (hr : meth.sig.returnType = some .boolean) (hlocks : meth.locks = false) (hI : In G o X Y s.heap H locs) (h01 : v = 0 ∨ v = 1) (hv : r = some (.int v)) (hX : X = X') (hY : Y = Y') (hdg : decode cc pc = .ok (.ireturn, 1)) : W p l e R s m args below meth c H locs cells slots (MQ below (Qw G o r X' Y') args s cells slots (rg o)) (F0 m pc ls [.int v]) := by
  subst hX hY hv
  exact W.zret hE.1 hE.2.1 hr (by rcases h01 with rfl | rfl <;> rfl) (fun t ht _ => ⟨rfl, by rw [ht]; exact hI.1, hI.2.F ht⟩) hI.2.2.2 hdg hlocks
theorem x_lret {v : Int64} {X' : SX} {Y' : SY} {r : Option Value} (hE : gE p m c cc nL s args own) (hr : meth.sig.returnType = some .long) (hlocks : meth.locks = false) (hI : In G o X Y s.heap H locs) (hv : r = some (.long v)) (hX : X = X') (hY : Y = Y') (hdg : decode cc pc = .ok (.lreturn, 1)) : W p l e R s m args below meth c H locs cells slots (MQ below (Qw G o r X' Y') args s cells slots (rg o)) (F0 m pc ls [.long v]) := by
  subst hX hY hv
  exact W.lret hE.1 hE.2.1 hr (fun t ht _ => ⟨rfl, by rw [ht]; exact hI.1, hI.2.F ht⟩) hI.2.2.2 hdg hlocks
theorem x_vret {X' : SX} {Y' : SY} {r : Option Value} (hE : gE p m c cc nL s args own) (hr : meth.sig.returnType = none) (hlocks : meth.locks = false) (hI : In G o X Y s.heap H locs) (hv : r = none) (hX : X = X') (hY : Y = Y') (hdg : decode cc pc = .ok (.return_, 1)) : W p l e R s m args below meth c H locs cells slots (MQ below (Qw G o r X' Y') args s cells slots (rg o)) (F0 m pc ls []) := by
  subst hX hY hv
  exact W.vret hE.1 hE.2.1 hr (fun t ht _ => ⟨rfl, by rw [ht]; exact hI.1, hI.2.F ht⟩) hI.2.2.2 hdg hlocks
end XR
def bI (P : Prop) [Decidable P] : Int32 := if P then 1 else 0
theorem bI_t {P : Prop} [Decidable P] (h : P) : bI P = 1 := if_pos h
theorem bI_f {P : Prop} [Decidable P] (h : ¬ P) : bI P = 0 := if_neg h
theorem bI_01 {P : Prop} [Decidable P] : bI P = 0 ∨ bI P = 1 := by
  by_cases h : P
  · exact Or.inr (bI_t h)
  · exact Or.inl (bI_f h)
theorem bI_eq0 {P : Prop} [Decidable P] : bI P = 0 ↔ ¬ P := by
  by_cases h : P
  · simp [bI, h]
  · simp [bI, h]
theorem bI_ne0 {P : Prop} [Decidable P] : ¬ bI P = 0 ↔ P := by
  by_cases h : P
  · simp [bI, h]
  · simp [bI, h]
