/-! ===== 04: what the tables say of each method; the shapes of the cells; calls by the kind of their answer ===== -/
abbrev Wi (v lo hi : Int32) : Prop := lo ≤ v ∧ v ≤ hi
theorem sx_o {X : SX} {k i k' i' : Nat} {v : Int32} (h : ¬ (k' = k ∧ i' = i)) : sx X k i v k' i' = X k' i' := by
  by_cases e : k' = k
  · subst e
    rw [sx_k]
    exact if_neg (fun q => h ⟨rfl, q⟩)
  · rw [sx_n e]
theorem sy_o {X : SY} {k i k' i' : Nat} {v : Int64} (h : ¬ (k' = k ∧ i' = i)) : sy X k i v k' i' = X k' i' := by
  by_cases e : k' = k
  · subst e
    rw [sy_k]
    exact if_neg (fun q => h ⟨rfl, q⟩)
  · rw [sy_n e]
/-- the first four places of row k0 laid over those of row k -/
def cx (X : SX) (k0 k : Nat) : SX := fun a => if a = k then va_cpy (X k0) (X k) 0 0 4 else X a
theorem cx_o {X : SX} {k0 k k' i' : Nat} (h : k' ≠ k) : cx X k0 k k' i' = X k' i' := by
  unfold cx
  rw [if_neg h]
section XR2
variable {p : Program} {l : Launch} {e : Env} {R : Room} {s : State} {m : MethodId} {args : Array Value} {below : List Frame} {meth : Method} {c : Code} {H H0 : Heap} {locs : List Loc} {cells slots : Nat} {Q : State → Prop}
variable {cc : ByteArray} {pc nL : Nat} {ls : Array Slot} {rest : List Value} {own : String} {G : GG} {o : Nat} {X : SX} {Y : SY}
variable {y : MethodName} {bytes : ByteArray} {maxL f lo n index k ci N : Nat} {T : u_T} {fs : List Value} {ret : Option FieldType} {As st0 : List Value} {X' : SX} {Y' : SY}
theorem x_callVi {v : Int32} (hE : gE p m c cc nL s args own) (hK : KK G s) (hI : In G o X Y H0 H locs) (hM : Ct l y bytes maxL ret f lo G o (.ref (o + k) :: As) X Y (some (.int v)) X' Y') (hf : MfV y bytes maxL ret n) (hlink : Cond.methodLink own index y ∈ gt) (hk : k < 292) (he : shp G o k (X k) (Y k) = .inr (ci, fs)) (hc : vwCl[ci]? = some (y.cls, T, N)) (hn : As.length = n) (hsize : ls.size = nL) (hst : st0 = As.reverse ++ .ref (o + k) :: rest) (hW : (rest.map fun v => v.category).sum ≤ 8) (hR : f + 1 ≤ R.frames ∧ 8 + (maxL + 11) + lo ≤ R.locals) (hcs : cells ≤ R.cells ∧ slots ≤ R.slots) (hdg : decode cc pc = .ok (.invokevirtual index, 3))
    (kk : ∀ (H1 : Heap) (locs1 : List Loc), In G o X' Y' H0 H1 locs1 → W p l e R s m args below meth c H1 locs1 cells slots Q (F0 m (pc + 3) ls (.int v :: rest))) : W p l e R s m args below meth c H locs cells slots Q (F0 m pc ls st0) :=
  x_callV hE hK hI hM hf hlink hk he hc hn hsize hst hW hR hcs hdg kk
theorem x_callSi {v : Int32} (hE : gE p m c cc nL s args own) (hK : KK G s) (hI : In G o X Y H0 H locs) (hM : Ct l y bytes maxL ret f lo G o As X Y (some (.int v)) X' Y') (hf : MfS y bytes maxL ret n) (hlink : Cond.methodLink own index y ∈ gt) (hn : As.length = n) (hsize : ls.size = nL) (hst : st0 = As.reverse ++ rest) (hW : (rest.map fun v => v.category).sum ≤ 8) (hR : f + 1 ≤ R.frames ∧ 8 + (maxL + 11) + lo ≤ R.locals) (hcs : cells ≤ R.cells ∧ slots ≤ R.slots) (hdg : decode cc pc = .ok (.invokestatic index, 3))
    (kk : ∀ (H1 : Heap) (locs1 : List Loc), In G o X' Y' H0 H1 locs1 → W p l e R s m args below meth c H1 locs1 cells slots Q (F0 m (pc + 3) ls (.int v :: rest))) : W p l e R s m args below meth c H locs cells slots Q (F0 m pc ls st0) :=
  x_callS hE hK hI hM hf hlink hn hsize hst hW hR hcs hdg kk
theorem x_callNi {v : Int32} {host : String} (hE : gE p m c cc nL s args own) (hK : KK G s) (hI : In G o X Y H0 H locs) (hM : Ct l y bytes maxL ret f lo G o As X Y (some (.int v)) X' Y') (hf : MfS y bytes maxL ret n) (hlink : va_Nw (.methodLinkNest own index y host) s) (hn : As.length = n) (hsize : ls.size = nL) (hst : st0 = As.reverse ++ rest) (hW : (rest.map fun v => v.category).sum ≤ 8) (hR : f + 1 ≤ R.frames ∧ 8 + (maxL + 11) + lo ≤ R.locals) (hcs : cells ≤ R.cells ∧ slots ≤ R.slots) (hdg : decode cc pc = .ok (.invokestatic index, 3))
    (kk : ∀ (H1 : Heap) (locs1 : List Loc), In G o X' Y' H0 H1 locs1 → W p l e R s m args below meth c H1 locs1 cells slots Q (F0 m (pc + 3) ls (.int v :: rest))) : W p l e R s m args below meth c H locs cells slots Q (F0 m pc ls st0) :=
  x_callN hE hK hI hM hf hlink hn hsize hst hW hR hcs hdg kk
theorem x_callVl {v : Int64} (hE : gE p m c cc nL s args own) (hK : KK G s) (hI : In G o X Y H0 H locs) (hM : Ct l y bytes maxL ret f lo G o (.ref (o + k) :: As) X Y (some (.long v)) X' Y') (hf : MfV y bytes maxL ret n) (hlink : Cond.methodLink own index y ∈ gt) (hk : k < 292) (he : shp G o k (X k) (Y k) = .inr (ci, fs)) (hc : vwCl[ci]? = some (y.cls, T, N)) (hn : As.length = n) (hsize : ls.size = nL) (hst : st0 = As.reverse ++ .ref (o + k) :: rest) (hW : (rest.map fun v => v.category).sum ≤ 8) (hR : f + 1 ≤ R.frames ∧ 8 + (maxL + 11) + lo ≤ R.locals) (hcs : cells ≤ R.cells ∧ slots ≤ R.slots) (hdg : decode cc pc = .ok (.invokevirtual index, 3))
    (kk : ∀ (H1 : Heap) (locs1 : List Loc), In G o X' Y' H0 H1 locs1 → W p l e R s m args below meth c H1 locs1 cells slots Q (F0 m (pc + 3) ls (.long v :: rest))) : W p l e R s m args below meth c H locs cells slots Q (F0 m pc ls st0) :=
  x_callV hE hK hI hM hf hlink hk he hc hn hsize hst hW hR hcs hdg kk
theorem x_callSl {v : Int64} (hE : gE p m c cc nL s args own) (hK : KK G s) (hI : In G o X Y H0 H locs) (hM : Ct l y bytes maxL ret f lo G o As X Y (some (.long v)) X' Y') (hf : MfS y bytes maxL ret n) (hlink : Cond.methodLink own index y ∈ gt) (hn : As.length = n) (hsize : ls.size = nL) (hst : st0 = As.reverse ++ rest) (hW : (rest.map fun v => v.category).sum ≤ 8) (hR : f + 1 ≤ R.frames ∧ 8 + (maxL + 11) + lo ≤ R.locals) (hcs : cells ≤ R.cells ∧ slots ≤ R.slots) (hdg : decode cc pc = .ok (.invokestatic index, 3))
    (kk : ∀ (H1 : Heap) (locs1 : List Loc), In G o X' Y' H0 H1 locs1 → W p l e R s m args below meth c H1 locs1 cells slots Q (F0 m (pc + 3) ls (.long v :: rest))) : W p l e R s m args below meth c H locs cells slots Q (F0 m pc ls st0) :=
  x_callS hE hK hI hM hf hlink hn hsize hst hW hR hcs hdg kk
theorem x_callNl {v : Int64} {host : String} (hE : gE p m c cc nL s args own) (hK : KK G s) (hI : In G o X Y H0 H locs) (hM : Ct l y bytes maxL ret f lo G o As X Y (some (.long v)) X' Y') (hf : MfS y bytes maxL ret n) (hlink : va_Nw (.methodLinkNest own index y host) s) (hn : As.length = n) (hsize : ls.size = nL) (hst : st0 = As.reverse ++ rest) (hW : (rest.map fun v => v.category).sum ≤ 8) (hR : f + 1 ≤ R.frames ∧ 8 + (maxL + 11) + lo ≤ R.locals) (hcs : cells ≤ R.cells ∧ slots ≤ R.slots) (hdg : decode cc pc = .ok (.invokestatic index, 3))
    (kk : ∀ (H1 : Heap) (locs1 : List Loc), In G o X' Y' H0 H1 locs1 → W p l e R s m args below meth c H1 locs1 cells slots Q (F0 m (pc + 3) ls (.long v :: rest))) : W p l e R s m args below meth c H locs cells slots Q (F0 m pc ls st0) :=
  x_callN hE hK hI hM hf hlink hn hsize hst hW hR hcs hdg kk
theorem x_callVv  (hE : gE p m c cc nL s args own) (hK : KK G s) (hI : In G o X Y H0 H locs) (hM : Ct l y bytes maxL ret f lo G o (.ref (o + k) :: As) X Y (none) X' Y') (hf : MfV y bytes maxL ret n) (hlink : Cond.methodLink own index y ∈ gt) (hk : k < 292) (he : shp G o k (X k) (Y k) = .inr (ci, fs)) (hc : vwCl[ci]? = some (y.cls, T, N)) (hn : As.length = n) (hsize : ls.size = nL) (hst : st0 = As.reverse ++ .ref (o + k) :: rest) (hW : (rest.map fun v => v.category).sum ≤ 8) (hR : f + 1 ≤ R.frames ∧ 8 + (maxL + 11) + lo ≤ R.locals) (hcs : cells ≤ R.cells ∧ slots ≤ R.slots) (hdg : decode cc pc = .ok (.invokevirtual index, 3))
    (kk : ∀ (H1 : Heap) (locs1 : List Loc), In G o X' Y' H0 H1 locs1 → W p l e R s m args below meth c H1 locs1 cells slots Q (F0 m (pc + 3) ls (rest))) : W p l e R s m args below meth c H locs cells slots Q (F0 m pc ls st0) :=
  x_callV hE hK hI hM hf hlink hk he hc hn hsize hst hW hR hcs hdg kk
theorem x_callSv  (hE : gE p m c cc nL s args own) (hK : KK G s) (hI : In G o X Y H0 H locs) (hM : Ct l y bytes maxL ret f lo G o As X Y (none) X' Y') (hf : MfS y bytes maxL ret n) (hlink : Cond.methodLink own index y ∈ gt) (hn : As.length = n) (hsize : ls.size = nL) (hst : st0 = As.reverse ++ rest) (hW : (rest.map fun v => v.category).sum ≤ 8) (hR : f + 1 ≤ R.frames ∧ 8 + (maxL + 11) + lo ≤ R.locals) (hcs : cells ≤ R.cells ∧ slots ≤ R.slots) (hdg : decode cc pc = .ok (.invokestatic index, 3))
    (kk : ∀ (H1 : Heap) (locs1 : List Loc), In G o X' Y' H0 H1 locs1 → W p l e R s m args below meth c H1 locs1 cells slots Q (F0 m (pc + 3) ls (rest))) : W p l e R s m args below meth c H locs cells slots Q (F0 m pc ls st0) :=
  x_callS hE hK hI hM hf hlink hn hsize hst hW hR hcs hdg kk
theorem x_callNv  {host : String} (hE : gE p m c cc nL s args own) (hK : KK G s) (hI : In G o X Y H0 H locs) (hM : Ct l y bytes maxL ret f lo G o As X Y (none) X' Y') (hf : MfS y bytes maxL ret n) (hlink : va_Nw (.methodLinkNest own index y host) s) (hn : As.length = n) (hsize : ls.size = nL) (hst : st0 = As.reverse ++ rest) (hW : (rest.map fun v => v.category).sum ≤ 8) (hR : f + 1 ≤ R.frames ∧ 8 + (maxL + 11) + lo ≤ R.locals) (hcs : cells ≤ R.cells ∧ slots ≤ R.slots) (hdg : decode cc pc = .ok (.invokestatic index, 3))
    (kk : ∀ (H1 : Heap) (locs1 : List Loc), In G o X' Y' H0 H1 locs1 → W p l e R s m args below meth c H1 locs1 cells slots Q (F0 m (pc + 3) ls (rest))) : W p l e R s m args below meth c H locs cells slots Q (F0 m pc ls st0) :=
  x_callN hE hK hI hM hf hlink hn hsize hst hW hR hcs hdg kk
theorem x_copy {k0 : Nat} (hE : gE p m c cc nL s args own) (hK : KK G s) (hI : In G o X Y H0 H locs) (hk0 : k0 < 292) (hk : k < 292) (he0 : ∀ f g, shp G o k0 f g = .inl (G.2 0, 4, .inl f)) (he : ∀ f g, shp G o k f g = .inl (G.2 0, 4, .inl f)) (hml : c.maxLocals = ls.size) (hlink : Cond.methodLink own index arraycopyName ∈ gt) (hframes : 1 ≤ R.frames)
    (hlocals : (rest.map fun v => v.category).sum + (nativeFrameWords "java/lang/System" "arraycopy" 5 + 11) ≤ R.locals) (hdg : decode cc pc = .ok (.invokestatic index, 3))
    (kk : ∀ (H1 : Heap) (locs1 : List Loc), In G o (cx X k0 k) Y H0 H1 locs1 → W p l e R s m args below meth c H1 locs1 cells slots Q (F0 m (pc + 3) ls rest)) : W p l e R s m args below meth c H locs cells slots Q (F0 m pc ls (.int 4 :: .int 0 :: .ref (o + k) :: .int 0 :: .ref (o + k0) :: rest)) := by
  have hT := hE.2.2.2.2
  refine va_copyi (D := G.1) (ty := .int) hE.1 hE.2.1 hml hE.2.2.2.1 (hT _ hlink) (hT _ mw_459) (hT _ mw_458) (hT _ mw_9) hK.1 hI.1 wl_D hI.2 k0 k 0 0 (wl_at hk0 (he0 _ _)) (wl_at hk (he _ _)) rfl rfl rfl (by decide) (by decide) (by decide) (by decide) (by decide) (fun _ _ => rfl) hframes hlocals hdg (fun H1 locs1 hP hD hS => kk H1 locs1 ⟨?_, hS⟩)
  rw [wl_set (X2 := cx X k0 k) (Y2 := Y) hk (by rw [show cx X k0 k k = va_cpy (X k0) (X k) 0 0 4 from if_pos rfl, he]; rfl) (fun a h => if_neg h) (fun _ _ => rfl)] at hP
  exact hP
end XR2
theorem mf_X5_setBreakage : MfV yX5_setBreakage cX5_setBreakage 7 (some .int) 4 := ⟨mw_188, mw_186, mw_187, mw_1, ⟨by decide +kernel, by decide +kernel, by decide +kernel⟩⟩
theorem mf_X5_share : MfV yX5_share cX5_share 3 (some .int) 2 := ⟨mw_206, mw_204, mw_205, mw_1, ⟨by decide +kernel, by decide +kernel, by decide +kernel⟩⟩
theorem mf_X5_setReturn : MfV yX5_setReturn cX5_setReturn 3 (some .int) 2 := ⟨mw_210, mw_208, mw_209, mw_1, ⟨by decide +kernel, by decide +kernel, by decide +kernel⟩⟩
theorem mf_X5_setWork : MfV yX5_setWork cX5_setWork 3 (some .int) 2 := ⟨mw_217, mw_215, mw_216, mw_1, ⟨by decide +kernel, by decide +kernel, by decide +kernel⟩⟩
theorem mf_X5_setFeed : MfV yX5_setFeed cX5_setFeed 3 (some .int) 2 := ⟨mw_221, mw_219, mw_220, mw_1, ⟨by decide +kernel, by decide +kernel, by decide +kernel⟩⟩
theorem mf_X5_load : MfV yX5_load cX5_load 3 (some .long) 2 := ⟨mw_225, mw_223, mw_224, mw_1, ⟨by decide +kernel, by decide +kernel, by decide +kernel⟩⟩
theorem mf_X5_product : MfV yX5_product cX5_product 8 (some .long) 2 := ⟨mw_256, mw_254, mw_255, mw_1, ⟨by decide +kernel, by decide +kernel, by decide +kernel⟩⟩
theorem mf_X5_circulatingLoad : MfV yX5_circulatingLoad cX5_circulatingLoad 4 (some .long) 1 := ⟨mw_262, mw_260, mw_261, mw_1, ⟨by decide +kernel, by decide +kernel, by decide +kernel⟩⟩
theorem mf_X5_power : MfV yX5_power cX5_power 2 (some .long) 1 := ⟨mw_274, mw_272, mw_273, mw_1, ⟨by decide +kernel, by decide +kernel, by decide +kernel⟩⟩
theorem mf_X5_cutPower : MfV yX5_cutPower cX5_cutPower 3 (some .long) 2 := ⟨mw_282, mw_280, mw_281, mw_1, ⟨by decide +kernel, by decide +kernel, by decide +kernel⟩⟩
theorem mf_X5_finestCut : MfV yX5_finestCut cX5_finestCut 3 (some .int) 1 := ⟨mw_291, mw_289, mw_290, mw_1, ⟨by decide +kernel, by decide +kernel, by decide +kernel⟩⟩
theorem mf_X5_addLot : MfV yX5_addLot cX5_addLot 7 (some .int) 4 := ⟨mw_296, mw_294, mw_295, mw_1, ⟨by decide +kernel, by decide +kernel, by decide +kernel⟩⟩
theorem mf_X5_planLot : MfV yX5_planLot cX5_planLot 8 (some .int) 5 := ⟨mw_347, mw_345, mw_346, mw_1, ⟨by decide +kernel, by decide +kernel, by decide +kernel⟩⟩
theorem mf_X5_advance : MfV yX5_advance cX5_advance 2 (some .int) 1 := ⟨mw_355, mw_353, mw_354, mw_1, ⟨by decide +kernel, by decide +kernel, by decide +kernel⟩⟩
theorem mf_X5_setRate : MfV yX5_setRate cX5_setRate 3 (some .int) 1 := ⟨mw_393, mw_391, mw_392, mw_1, ⟨by decide +kernel, by decide +kernel, by decide +kernel⟩⟩
theorem mf_X5_setRule : MfV yX5_setRule cX5_setRule 3 (some .int) 1 := ⟨mw_397, mw_395, mw_396, mw_1, ⟨by decide +kernel, by decide +kernel, by decide +kernel⟩⟩
theorem mf_X5_bin : MfV yX5_bin cX5_bin 3 (some .int) 1 := ⟨mw_401, mw_399, mw_400, mw_1, ⟨by decide +kernel, by decide +kernel, by decide +kernel⟩⟩
theorem mf_X5_mill : MfV yX5_mill cX5_mill 3 (some .int) 1 := ⟨mw_417, mw_415, mw_416, mw_1, ⟨by decide +kernel, by decide +kernel, by decide +kernel⟩⟩
theorem mf_X5_state : MfV yX5_state cX5_state 2 (some .int) 1 := ⟨mw_422, mw_420, mw_421, mw_1, ⟨by decide +kernel, by decide +kernel, by decide +kernel⟩⟩
theorem mf_X5_mass : MfV yX5_mass cX5_mass 3 (some .int) 2 := ⟨mw_426, mw_424, mw_425, mw_1, ⟨by decide +kernel, by decide +kernel, by decide +kernel⟩⟩
theorem mf_X5_passes : MfV yX5_passes cX5_passes 2 (some .int) 1 := ⟨mw_433, mw_431, mw_432, mw_1, ⟨by decide +kernel, by decide +kernel, by decide +kernel⟩⟩
theorem mf_X5_produced : MfV yX5_produced cX5_produced 2 (some .int) 1 := ⟨mw_437, mw_435, mw_436, mw_1, ⟨by decide +kernel, by decide +kernel, by decide +kernel⟩⟩
theorem mf_X5_total : MfV yX5_total cX5_total 3 (some .int) 1 := ⟨mw_441, mw_439, mw_440, mw_1, ⟨by decide +kernel, by decide +kernel, by decide +kernel⟩⟩
theorem mf_X5_save : MfV yX5_save cX5_save 2 (some .int) 1 := ⟨mw_445, mw_443, mw_444, mw_1, ⟨by decide +kernel, by decide +kernel, by decide +kernel⟩⟩
theorem mf_X5_restore : MfV yX5_restore cX5_restore 2 (some .int) 1 := ⟨mw_473, mw_471, mw_472, mw_1, ⟨by decide +kernel, by decide +kernel, by decide +kernel⟩⟩
theorem mf_X5_isWithin : MfS yX5_isWithin cX5_isWithin 3 (some .boolean) 3 := ⟨mw_194, mw_193, mw_1, ⟨by decide +kernel, by decide +kernel, by decide +kernel⟩⟩
theorem mf_X5_isSize : MfS yX5_isSize cX5_isSize 1 (some .boolean) 1 := ⟨mw_191, mw_190, mw_1, ⟨by decide +kernel, by decide +kernel, by decide +kernel⟩⟩
theorem mf_X5_isZeroOrOne : MfS yX5_isZeroOrOne cX5_isZeroOrOne 1 (some .boolean) 1 := ⟨mw_229, mw_228, mw_1, ⟨by decide +kernel, by decide +kernel, by decide +kernel⟩⟩
theorem mf_X5_isSlot : MfS yX5_isSlot cX5_isSlot 1 (some .boolean) 1 := ⟨mw_448, mw_447, mw_1, ⟨by decide +kernel, by decide +kernel, by decide +kernel⟩⟩
theorem mf_X5_isShareTo : MfS yX5_isShareTo cX5_isShareTo 2 (some .boolean) 2 := ⟨mw_197, mw_196, mw_1, ⟨by decide +kernel, by decide +kernel, by decide +kernel⟩⟩
theorem mf_X5_isLotMass : MfS yX5_isLotMass cX5_isLotMass 1 (some .boolean) 1 := ⟨mw_302, mw_301, mw_1, ⟨by decide +kernel, by decide +kernel, by decide +kernel⟩⟩
theorem mf_X5_areLotMasses : MfS yX5_areLotMasses cX5_areLotMasses 4 (some .boolean) 4 := ⟨mw_299, mw_298, mw_1, ⟨by decide +kernel, by decide +kernel, by decide +kernel⟩⟩
theorem mf_X5_exchange : MfS yX5_exchange cX5_exchange 5 (some .int) 4 := ⟨mw_213, mw_212, mw_1, ⟨by decide +kernel, by decide +kernel, by decide +kernel⟩⟩
theorem mf_X5_sizeOrAll : MfS yX5_sizeOrAll cX5_sizeOrAll 2 (some .int) 2 := ⟨mw_429, mw_428, mw_1, ⟨by decide +kernel, by decide +kernel, by decide +kernel⟩⟩
theorem mf_X5_sum : MfS yX5_sum cX5_sum 6 (some .int) 1 := ⟨mw_265, mw_264, mw_1, ⟨by decide +kernel, by decide +kernel, by decide +kernel⟩⟩
theorem mf_X5_partOf : MfS yX5_partOf cX5_partOf 7 (some .long) 3 := ⟨mw_246, mw_245, mw_1, ⟨by decide +kernel, by decide +kernel, by decide +kernel⟩⟩
theorem mf_X5_commonDivisor : MfS yX5_commonDivisor cX5_commonDivisor 11 (some .long) 2 := ⟨mw_249, mw_248, mw_1, ⟨by decide +kernel, by decide +kernel, by decide +kernel⟩⟩
theorem mf_X6_in : MfS yX6_in cX6_in 3 (some .boolean) 3 := ⟨mw_511, mw_510, mw_7, ⟨by decide +kernel, by decide +kernel, by decide +kernel⟩⟩
theorem mf_X6_isSize : MfS yX6_isSize cX6_isSize 1 (some .boolean) 1 := ⟨mw_508, mw_507, mw_7, ⟨by decide +kernel, by decide +kernel, by decide +kernel⟩⟩
theorem mf_X6_shareOf : MfV yX6_shareOf cX6_shareOf 3 (some .int) 2 := ⟨mw_519, mw_518, ms_7, mw_7, ⟨by decide +kernel, by decide +kernel, by decide +kernel⟩⟩
theorem mf_X6_setBreakage : MfV yX6_setBreakage cX6_setBreakage 7 (some .int) 4 := ⟨mw_505, mw_503, mw_504, mw_7, ⟨by decide +kernel, by decide +kernel, by decide +kernel⟩⟩
theorem mf_X6_share : MfV yX6_share cX6_share 3 (some .int) 2 := ⟨mw_515, mw_513, mw_514, mw_7, ⟨by decide +kernel, by decide +kernel, by decide +kernel⟩⟩
theorem mf_X6_set : MfV yX6_set cX6_set 4 (some .int) 2 := ⟨mw_527, mw_526, ms_8, mw_7, ⟨by decide +kernel, by decide +kernel, by decide +kernel⟩⟩
theorem mf_X6_setReturn : MfV yX6_setReturn cX6_setReturn 3 (some .int) 2 := ⟨mw_523, mw_521, mw_522, mw_7, ⟨by decide +kernel, by decide +kernel, by decide +kernel⟩⟩
theorem mf_X6_setWork : MfV yX6_setWork cX6_setWork 3 (some .int) 2 := ⟨mw_531, mw_529, mw_530, mw_7, ⟨by decide +kernel, by decide +kernel, by decide +kernel⟩⟩
theorem mf_X6_setFeed : MfV yX6_setFeed cX6_setFeed 3 (some .int) 2 := ⟨mw_535, mw_533, mw_534, mw_7, ⟨by decide +kernel, by decide +kernel, by decide +kernel⟩⟩
theorem mf_X6_asSet : MfV yX6_asSet cX6_asSet 2 none 0 := ⟨mw_550, mw_549, ms_10, mw_7, ⟨by decide +kernel, by decide +kernel, by decide +kernel⟩⟩
theorem mf_X6_asCut : MfV yX6_asCut cX6_asCut 3 none 1 := ⟨mw_584, mw_583, ms_13, mw_7, ⟨by decide +kernel, by decide +kernel, by decide +kernel⟩⟩
theorem mf_X6_layLoads : MfV yX6_layLoads cX6_layLoads 8 (some .boolean) 0 := ⟨mw_554, mw_553, ms_11, mw_7, ⟨by decide +kernel, by decide +kernel, by decide +kernel⟩⟩
theorem mf_X6_part : MfS yX6_part cX6_part 11 (some .long) 3 := ⟨mw_558, mw_557, mw_7, ⟨by decide +kernel, by decide +kernel, by decide +kernel⟩⟩
theorem mf_X6_isPart : MfS yX6_isPart cX6_isPart 1 (some .boolean) 1 := ⟨mw_546, mw_545, mw_7, ⟨by decide +kernel, by decide +kernel, by decide +kernel⟩⟩
theorem mf_X6_wrongSteady : MfV yX6_wrongSteady cX6_wrongSteady 3 (some .int) 2 := ⟨mw_543, mw_542, ms_9, mw_7, ⟨by decide +kernel, by decide +kernel, by decide +kernel⟩⟩
theorem mf_X6_load : MfV yX6_load cX6_load 4 (some .long) 2 := ⟨mw_539, mw_537, mw_538, mw_7, ⟨by decide +kernel, by decide +kernel, by decide +kernel⟩⟩
theorem mf_X6_product : MfV yX6_product cX6_product 7 (some .long) 2 := ⟨mw_562, mw_560, mw_561, mw_7, ⟨by decide +kernel, by decide +kernel, by decide +kernel⟩⟩
theorem mf_X6_circulatingLoad : MfV yX6_circulatingLoad cX6_circulatingLoad 8 (some .long) 1 := ⟨mw_566, mw_564, mw_565, mw_7, ⟨by decide +kernel, by decide +kernel, by decide +kernel⟩⟩
theorem mf_X6_powerOf : MfV yX6_powerOf cX6_powerOf 4 (some .long) 0 := ⟨mw_575, mw_574, ms_12, mw_7, ⟨by decide +kernel, by decide +kernel, by decide +kernel⟩⟩
theorem mf_X6_power : MfV yX6_power cX6_power 3 (some .long) 1 := ⟨mw_571, mw_569, mw_570, mw_7, ⟨by decide +kernel, by decide +kernel, by decide +kernel⟩⟩
theorem mf_X6_cutPower : MfV yX6_cutPower cX6_cutPower 3 (some .long) 2 := ⟨mw_579, mw_577, mw_578, mw_7, ⟨by decide +kernel, by decide +kernel, by decide +kernel⟩⟩
theorem mf_X6_finestCut : MfV yX6_finestCut cX6_finestCut 3 (some .int) 1 := ⟨mw_589, mw_587, mw_588, mw_7, ⟨by decide +kernel, by decide +kernel, by decide +kernel⟩⟩
theorem mf_X6_lot : MfS yX6_lot cX6_lot 2 (some .int) 2 := ⟨mw_607, mw_606, mw_7, ⟨by decide +kernel, by decide +kernel, by decide +kernel⟩⟩
theorem mf_X6_of : MfV yX6_of cX6_of 3 (some .int) 2 := ⟨mw_623, mw_622, ms_18, mw_7, ⟨by decide +kernel, by decide +kernel, by decide +kernel⟩⟩
theorem mf_X6_weight : MfV yX6_weight cX6_weight 2 (some .int) 1 := ⟨mw_639, mw_638, ms_22, mw_7, ⟨by decide +kernel, by decide +kernel, by decide +kernel⟩⟩
theorem mf_X6_ahead : MfV yX6_ahead cX6_ahead 4 (some .int) 2 := ⟨mw_635, mw_634, ms_21, mw_7, ⟨by decide +kernel, by decide +kernel, by decide +kernel⟩⟩
theorem mf_X6_isAhead : MfV yX6_isAhead cX6_isAhead 4 (some .boolean) 2 := ⟨mw_631, mw_630, ms_20, mw_7, ⟨by decide +kernel, by decide +kernel, by decide +kernel⟩⟩
theorem mf_X6_place : MfV yX6_place cX6_place 4 (some .int) 1 := ⟨mw_627, mw_626, ms_19, mw_7, ⟨by decide +kernel, by decide +kernel, by decide +kernel⟩⟩
theorem mf_X6_inBin : MfV yX6_inBin cX6_inBin 3 (some .int) 1 := ⟨mw_619, mw_618, ms_17, mw_7, ⟨by decide +kernel, by decide +kernel, by decide +kernel⟩⟩
theorem mf_X6_comes : MfV yX6_comes cX6_comes 2 none 1 := ⟨mw_611, mw_610, ms_15, mw_7, ⟨by decide +kernel, by decide +kernel, by decide +kernel⟩⟩
theorem mf_X6_start : MfV yX6_start cX6_start 2 none 0 := ⟨mw_615, mw_614, ms_16, mw_7, ⟨by decide +kernel, by decide +kernel, by decide +kernel⟩⟩
theorem mf_X6_finish : MfV yX6_finish cX6_finish 7 none 0 := ⟨mw_655, mw_654, ms_24, mw_7, ⟨by decide +kernel, by decide +kernel, by decide +kernel⟩⟩
theorem mf_X6_minute : MfV yX6_minute cX6_minute 2 none 0 := ⟨mw_651, mw_650, ms_23, mw_7, ⟨by decide +kernel, by decide +kernel, by decide +kernel⟩⟩
theorem mf_X6_isMass : MfS yX6_isMass cX6_isMass 1 (some .boolean) 1 := ⟨mw_600, mw_599, mw_7, ⟨by decide +kernel, by decide +kernel, by decide +kernel⟩⟩
theorem mf_X6_areMasses : MfS yX6_areMasses cX6_areMasses 4 (some .boolean) 4 := ⟨mw_597, mw_596, mw_7, ⟨by decide +kernel, by decide +kernel, by decide +kernel⟩⟩
theorem mf_X6_make : MfV yX6_make cX6_make 6 (some .int) 4 := ⟨mw_604, mw_603, ms_14, mw_7, ⟨by decide +kernel, by decide +kernel, by decide +kernel⟩⟩
theorem mf_X6_addLot : MfV yX6_addLot cX6_addLot 6 (some .int) 4 := ⟨mw_594, mw_592, mw_593, mw_7, ⟨by decide +kernel, by decide +kernel, by decide +kernel⟩⟩
theorem mf_X6_planLot : MfV yX6_planLot cX6_planLot 7 (some .int) 5 := ⟨mw_643, mw_641, mw_642, mw_7, ⟨by decide +kernel, by decide +kernel, by decide +kernel⟩⟩
theorem mf_X6_advance : MfV yX6_advance cX6_advance 3 (some .int) 1 := ⟨mw_647, mw_645, mw_646, mw_7, ⟨by decide +kernel, by decide +kernel, by decide +kernel⟩⟩
theorem mf_X6_setRate : MfV yX6_setRate cX6_setRate 2 (some .int) 1 := ⟨mw_659, mw_657, mw_658, mw_7, ⟨by decide +kernel, by decide +kernel, by decide +kernel⟩⟩
theorem mf_X6_setRule : MfV yX6_setRule cX6_setRule 2 (some .int) 1 := ⟨mw_663, mw_661, mw_662, mw_7, ⟨by decide +kernel, by decide +kernel, by decide +kernel⟩⟩
theorem mf_X6_bin : MfV yX6_bin cX6_bin 4 (some .int) 1 := ⟨mw_667, mw_665, mw_666, mw_7, ⟨by decide +kernel, by decide +kernel, by decide +kernel⟩⟩
theorem mf_X6_mill : MfV yX6_mill cX6_mill 2 (some .int) 1 := ⟨mw_671, mw_669, mw_670, mw_7, ⟨by decide +kernel, by decide +kernel, by decide +kernel⟩⟩
theorem mf_X6_isLot : MfV yX6_isLot cX6_isLot 2 (some .boolean) 1 := ⟨mw_679, mw_678, ms_25, mw_7, ⟨by decide +kernel, by decide +kernel, by decide +kernel⟩⟩
theorem mf_X6_state : MfV yX6_state cX6_state 2 (some .int) 1 := ⟨mw_675, mw_673, mw_674, mw_7, ⟨by decide +kernel, by decide +kernel, by decide +kernel⟩⟩
theorem mf_X6_mass : MfV yX6_mass cX6_mass 3 (some .int) 2 := ⟨mw_683, mw_681, mw_682, mw_7, ⟨by decide +kernel, by decide +kernel, by decide +kernel⟩⟩
theorem mf_X6_passes : MfV yX6_passes cX6_passes 2 (some .int) 1 := ⟨mw_687, mw_685, mw_686, mw_7, ⟨by decide +kernel, by decide +kernel, by decide +kernel⟩⟩
theorem mf_X6_produced : MfV yX6_produced cX6_produced 2 (some .int) 1 := ⟨mw_691, mw_689, mw_690, mw_7, ⟨by decide +kernel, by decide +kernel, by decide +kernel⟩⟩
theorem mf_X6_total : MfV yX6_total cX6_total 2 (some .int) 1 := ⟨mw_695, mw_693, mw_694, mw_7, ⟨by decide +kernel, by decide +kernel, by decide +kernel⟩⟩
theorem mf_X6_save : MfV yX6_save cX6_save 3 (some .int) 1 := ⟨mw_699, mw_697, mw_698, mw_7, ⟨by decide +kernel, by decide +kernel, by decide +kernel⟩⟩
theorem mf_X6_restore : MfV yX6_restore cX6_restore 3 (some .int) 1 := ⟨mw_703, mw_701, mw_702, mw_7, ⟨by decide +kernel, by decide +kernel, by decide +kernel⟩⟩
theorem mf_X0_copyFrom : MfV yX0_copyFrom cX0_copyFrom 2 none 1 := ⟨mw_467, mw_465, mw_466, mw_5, ⟨by decide +kernel, by decide +kernel, by decide +kernel⟩⟩
theorem mf_X0_standsBefore : MfV yX0_standsBefore cX0_standsBefore 4 (some .boolean) 2 := ⟨mw_331, mw_329, mw_330, mw_5, ⟨by decide +kernel, by decide +kernel, by decide +kernel⟩⟩
theorem mf_X0_coarserBy : MfV yX0_coarserBy cX0_coarserBy 3 (some .int) 1 := ⟨mw_336, mw_335, ms_2, mw_5, ⟨by decide +kernel, by decide +kernel, by decide +kernel⟩⟩
theorem mf_X0_energyToGrind : MfV yX0_energyToGrind cX0_energyToGrind 4 (some .int) 1 := ⟨mw_375, mw_373, mw_374, mw_5, ⟨by decide +kernel, by decide +kernel, by decide +kernel⟩⟩
theorem mf_X0_breakOre : MfV yX0_breakOre cX0_breakOre 6 none 1 := ⟨mw_379, mw_377, mw_378, mw_5, ⟨by decide +kernel, by decide +kernel, by decide +kernel⟩⟩
theorem mf_X0_classify : MfV yX0_classify cX0_classify 5 none 2 := ⟨mw_383, mw_381, mw_382, mw_5, ⟨by decide +kernel, by decide +kernel, by decide +kernel⟩⟩
theorem mf_X1_copyFrom : MfV yX1_copyFrom cX1_copyFrom 2 none 1 := ⟨mw_452, mw_450, mw_451, mw_2, ⟨by decide +kernel, by decide +kernel, by decide +kernel⟩⟩
theorem mf_X2_putShare : MfV yX2_putShare cX2_putShare 4 none 3 := ⟨mw_201, mw_199, mw_200, mw_3, ⟨by decide +kernel, by decide +kernel, by decide +kernel⟩⟩
theorem mf_X2_copyFrom : MfV yX2_copyFrom cX2_copyFrom 3 none 1 := ⟨mw_456, mw_454, mw_455, mw_3, ⟨by decide +kernel, by decide +kernel, by decide +kernel⟩⟩
theorem mf_X3_copyFrom : MfV yX3_copyFrom cX3_copyFrom 3 none 1 := ⟨mw_463, mw_461, mw_462, mw_4, ⟨by decide +kernel, by decide +kernel, by decide +kernel⟩⟩
theorem mf_X3_isIdle : MfV yX3_isIdle cX3_isIdle 1 (some .boolean) 0 := ⟨mw_322, mw_320, mw_321, mw_4, ⟨by decide +kernel, by decide +kernel, by decide +kernel⟩⟩
theorem mf_X3_hasLot : MfV yX3_hasLot cX3_hasLot 2 (some .boolean) 1 := ⟨mw_310, mw_308, mw_309, mw_4, ⟨by decide +kernel, by decide +kernel, by decide +kernel⟩⟩
theorem mf_X3_create : MfV yX3_create cX3_create 7 (some .int) 4 := ⟨mw_306, mw_304, mw_305, mw_4, ⟨by decide +kernel, by decide +kernel, by decide +kernel⟩⟩
theorem mf_X3_plan : MfV yX3_plan cX3_plan 3 none 2 := ⟨mw_351, mw_349, mw_350, mw_4, ⟨by decide +kernel, by decide +kernel, by decide +kernel⟩⟩
theorem mf_X3_putIntoBin : MfV yX3_putIntoBin cX3_putIntoBin 2 none 1 := ⟨mw_314, mw_312, mw_313, mw_4, ⟨by decide +kernel, by decide +kernel, by decide +kernel⟩⟩
theorem mf_X3_run : MfV yX3_run cX3_run 6 none 2 := ⟨mw_359, mw_357, mw_358, mw_4, ⟨by decide +kernel, by decide +kernel, by decide +kernel⟩⟩
theorem mf_X3_nextEvent : MfV yX3_nextEvent cX3_nextEvent 4 (some .int) 0 := ⟨mw_363, mw_362, ms_3, mw_4, ⟨by decide +kernel, by decide +kernel, by decide +kernel⟩⟩
theorem mf_X3_finishIfDue : MfV yX3_finishIfDue cX3_finishIfDue 4 none 1 := ⟨mw_371, mw_370, ms_4, mw_4, ⟨by decide +kernel, by decide +kernel, by decide +kernel⟩⟩
theorem mf_X3_takePlannedLots : MfV yX3_takePlannedLots cX3_takePlannedLots 3 none 0 := ⟨mw_388, mw_387, ms_5, mw_4, ⟨by decide +kernel, by decide +kernel, by decide +kernel⟩⟩
theorem mf_X3_startIfIdle : MfV yX3_startIfIdle cX3_startIfIdle 4 none 1 := ⟨mw_318, mw_316, mw_317, mw_4, ⟨by decide +kernel, by decide +kernel, by decide +kernel⟩⟩
theorem mf_X3_minutesToGrind : MfS yX3_minutesToGrind cX3_minutesToGrind 3 (some .int) 2 := ⟨mw_340, mw_339, mw_4, ⟨by decide +kernel, by decide +kernel, by decide +kernel⟩⟩
theorem mf_X3_countBin : MfV yX3_countBin cX3_countBin 3 (some .int) 0 := ⟨mw_405, mw_403, mw_404, mw_4, ⟨by decide +kernel, by decide +kernel, by decide +kernel⟩⟩
theorem mf_X3_firstOfBin : MfV yX3_firstOfBin cX3_firstOfBin 5 (some .int) 1 := ⟨mw_327, mw_326, ms_1, mw_4, ⟨by decide +kernel, by decide +kernel, by decide +kernel⟩⟩
theorem mf_X3_lotAt : MfV yX3_lotAt cX3_lotAt 5 (some .int) 2 := ⟨mw_409, mw_407, mw_408, mw_4, ⟨by decide +kernel, by decide +kernel, by decide +kernel⟩⟩
theorem mf_X3_countBefore : MfV yX3_countBefore cX3_countBefore 6 (some .int) 2 := ⟨mw_413, mw_412, ms_6, mw_4, ⟨by decide +kernel, by decide +kernel, by decide +kernel⟩⟩
theorem mf_X4_solveCut : MfV yX4_solveCut cX4_solveCut 4 none 2 := ⟨mw_286, mw_284, mw_285, mw_6, ⟨by decide +kernel, by decide +kernel, by decide +kernel⟩⟩
theorem mf_X4_solve : MfV yX4_solve cX4_solve 4 none 2 := ⟨mw_234, mw_232, mw_233, mw_6, ⟨by decide +kernel, by decide +kernel, by decide +kernel⟩⟩
theorem mf_X4_solveSize : MfV yX4_solveSize cX4_solveSize 9 none 3 := ⟨mw_238, mw_237, ms_0, mw_6, ⟨by decide +kernel, by decide +kernel, by decide +kernel⟩⟩
theorem mf_X4_brokenInto : MfV yX4_brokenInto cX4_brokenInto 6 (some .long) 2 := ⟨mw_242, mw_240, mw_241, mw_6, ⟨by decide +kernel, by decide +kernel, by decide +kernel⟩⟩
theorem mf_X4_sumOfLoads : MfV yX4_sumOfLoads cX4_sumOfLoads 8 (some .long) 0 := ⟨mw_270, mw_268, mw_269, mw_6, ⟨by decide +kernel, by decide +kernel, by decide +kernel⟩⟩
theorem mf_X4_scaledPower : MfV yX4_scaledPower cX4_scaledPower 5 (some .long) 1 := ⟨mw_278, mw_276, mw_277, mw_6, ⟨by decide +kernel, by decide +kernel, by decide +kernel⟩⟩
theorem e_0 (G : GG) (o : Nat) : ∀ (f : Nat → Int32) (g : Nat → Int64), shp G o 0 f g = .inr (5, [.ref (o + 1), .ref (o + 94), .ref (o + 281), .ref (o + 282)]) := fun _ _ => rfl
theorem e_1 (G : GG) (o : Nat) : ∀ (f : Nat → Int32) (g : Nat → Int64), shp G o 1 f g = .inr (1, [.ref (o + 2), .ref (o + 11)]) := fun _ _ => rfl
theorem e_2 (G : GG) (o : Nat) : ∀ (f : Nat → Int32) (g : Nat → Int64), shp G o 2 f g = .inr (2, [.ref (o + 3), .ref (o + 8), .ref (o + 9), .ref (o + 10), .int (f 4), .int (f 5)]) := fun _ _ => rfl
theorem e_3 (G : GG) (o : Nat) : ∀ (f : Nat → Int32) (g : Nat → Int64), shp G o 3 f g = .inl (G.2 5, 4, .inr (.inr (.inr (.inr (fun i => if i < 4 then some (o + (1 + (3 + i))) else none))))) := fun _ _ => rfl
theorem e_4 (G : GG) (o : Nat) : ∀ (f : Nat → Int32) (g : Nat → Int64), shp G o 4 f g = .inl (G.2 0, 4, .inl f) := fun _ _ => rfl
theorem e_5 (G : GG) (o : Nat) : ∀ (f : Nat → Int32) (g : Nat → Int64), shp G o 5 f g = .inl (G.2 0, 4, .inl f) := fun _ _ => rfl
theorem e_6 (G : GG) (o : Nat) : ∀ (f : Nat → Int32) (g : Nat → Int64), shp G o 6 f g = .inl (G.2 0, 4, .inl f) := fun _ _ => rfl
theorem e_7 (G : GG) (o : Nat) : ∀ (f : Nat → Int32) (g : Nat → Int64), shp G o 7 f g = .inl (G.2 0, 4, .inl f) := fun _ _ => rfl
theorem e_8 (G : GG) (o : Nat) : ∀ (f : Nat → Int32) (g : Nat → Int64), shp G o 8 f g = .inl (G.2 0, 4, .inl f) := fun _ _ => rfl
theorem e_9 (G : GG) (o : Nat) : ∀ (f : Nat → Int32) (g : Nat → Int64), shp G o 9 f g = .inl (G.2 0, 4, .inl f) := fun _ _ => rfl
theorem e_10 (G : GG) (o : Nat) : ∀ (f : Nat → Int32) (g : Nat → Int64), shp G o 10 f g = .inl (G.2 0, 4, .inl f) := fun _ _ => rfl
theorem e_11 (G : GG) (o : Nat) : ∀ (f : Nat → Int32) (g : Nat → Int64), shp G o 11 f g = .inr (3, [.ref (o + 12), .ref (o + 13), .int (f 2), .int (f 3), .int (f 4), .int (f 5), .int (f 6), .int (f 7), .int (f 8)]) := fun _ _ => rfl
theorem e_12 (G : GG) (o : Nat) : ∀ (f : Nat → Int32) (g : Nat → Int64), shp G o 12 f g = .inl (G.2 3, 40, .inr (.inr (.inr (.inr (fun i => if i < 40 then some (o + (1 + (13 + 2 * i))) else none))))) := fun _ _ => rfl
theorem e_13 (G : GG) (o : Nat) : ∀ (f : Nat → Int32) (g : Nat → Int64), shp G o 13 f g = .inl (G.2 0, 4, .inl f) := fun _ _ => rfl
theorem e_94 (G : GG) (o : Nat) : ∀ (f : Nat → Int32) (g : Nat → Int64), shp G o 94 f g = .inl (G.2 4, 2, .inr (.inr (.inr (.inr (fun i => if i = 0 then some (o + 95) else if i = 1 then some (o + 188) else none))))) := fun _ _ => rfl
theorem e_95 (G : GG) (o : Nat) : ∀ (f : Nat → Int32) (g : Nat → Int64), shp G o 95 f g = .inr (1, [.ref (o + 96), .ref (o + 105)]) := fun _ _ => rfl
theorem e_96 (G : GG) (o : Nat) : ∀ (f : Nat → Int32) (g : Nat → Int64), shp G o 96 f g = .inr (2, [.ref (o + 97), .ref (o + 102), .ref (o + 103), .ref (o + 104), .int (f 4), .int (f 5)]) := fun _ _ => rfl
theorem e_97 (G : GG) (o : Nat) : ∀ (f : Nat → Int32) (g : Nat → Int64), shp G o 97 f g = .inl (G.2 5, 4, .inr (.inr (.inr (.inr (fun i => if i < 4 then some (o + (95 + (3 + i))) else none))))) := fun _ _ => rfl
theorem e_98 (G : GG) (o : Nat) : ∀ (f : Nat → Int32) (g : Nat → Int64), shp G o 98 f g = .inl (G.2 0, 4, .inl f) := fun _ _ => rfl
theorem e_99 (G : GG) (o : Nat) : ∀ (f : Nat → Int32) (g : Nat → Int64), shp G o 99 f g = .inl (G.2 0, 4, .inl f) := fun _ _ => rfl
theorem e_100 (G : GG) (o : Nat) : ∀ (f : Nat → Int32) (g : Nat → Int64), shp G o 100 f g = .inl (G.2 0, 4, .inl f) := fun _ _ => rfl
theorem e_101 (G : GG) (o : Nat) : ∀ (f : Nat → Int32) (g : Nat → Int64), shp G o 101 f g = .inl (G.2 0, 4, .inl f) := fun _ _ => rfl
theorem e_102 (G : GG) (o : Nat) : ∀ (f : Nat → Int32) (g : Nat → Int64), shp G o 102 f g = .inl (G.2 0, 4, .inl f) := fun _ _ => rfl
theorem e_103 (G : GG) (o : Nat) : ∀ (f : Nat → Int32) (g : Nat → Int64), shp G o 103 f g = .inl (G.2 0, 4, .inl f) := fun _ _ => rfl
theorem e_104 (G : GG) (o : Nat) : ∀ (f : Nat → Int32) (g : Nat → Int64), shp G o 104 f g = .inl (G.2 0, 4, .inl f) := fun _ _ => rfl
theorem e_105 (G : GG) (o : Nat) : ∀ (f : Nat → Int32) (g : Nat → Int64), shp G o 105 f g = .inr (3, [.ref (o + 106), .ref (o + 107), .int (f 2), .int (f 3), .int (f 4), .int (f 5), .int (f 6), .int (f 7), .int (f 8)]) := fun _ _ => rfl
theorem e_106 (G : GG) (o : Nat) : ∀ (f : Nat → Int32) (g : Nat → Int64), shp G o 106 f g = .inl (G.2 3, 40, .inr (.inr (.inr (.inr (fun i => if i < 40 then some (o + (95 + (13 + 2 * i))) else none))))) := fun _ _ => rfl
theorem e_107 (G : GG) (o : Nat) : ∀ (f : Nat → Int32) (g : Nat → Int64), shp G o 107 f g = .inl (G.2 0, 4, .inl f) := fun _ _ => rfl
theorem e_188 (G : GG) (o : Nat) : ∀ (f : Nat → Int32) (g : Nat → Int64), shp G o 188 f g = .inr (1, [.ref (o + 189), .ref (o + 198)]) := fun _ _ => rfl
theorem e_189 (G : GG) (o : Nat) : ∀ (f : Nat → Int32) (g : Nat → Int64), shp G o 189 f g = .inr (2, [.ref (o + 190), .ref (o + 195), .ref (o + 196), .ref (o + 197), .int (f 4), .int (f 5)]) := fun _ _ => rfl
theorem e_190 (G : GG) (o : Nat) : ∀ (f : Nat → Int32) (g : Nat → Int64), shp G o 190 f g = .inl (G.2 5, 4, .inr (.inr (.inr (.inr (fun i => if i < 4 then some (o + (188 + (3 + i))) else none))))) := fun _ _ => rfl
theorem e_191 (G : GG) (o : Nat) : ∀ (f : Nat → Int32) (g : Nat → Int64), shp G o 191 f g = .inl (G.2 0, 4, .inl f) := fun _ _ => rfl
theorem e_192 (G : GG) (o : Nat) : ∀ (f : Nat → Int32) (g : Nat → Int64), shp G o 192 f g = .inl (G.2 0, 4, .inl f) := fun _ _ => rfl
theorem e_193 (G : GG) (o : Nat) : ∀ (f : Nat → Int32) (g : Nat → Int64), shp G o 193 f g = .inl (G.2 0, 4, .inl f) := fun _ _ => rfl
theorem e_194 (G : GG) (o : Nat) : ∀ (f : Nat → Int32) (g : Nat → Int64), shp G o 194 f g = .inl (G.2 0, 4, .inl f) := fun _ _ => rfl
theorem e_195 (G : GG) (o : Nat) : ∀ (f : Nat → Int32) (g : Nat → Int64), shp G o 195 f g = .inl (G.2 0, 4, .inl f) := fun _ _ => rfl
theorem e_196 (G : GG) (o : Nat) : ∀ (f : Nat → Int32) (g : Nat → Int64), shp G o 196 f g = .inl (G.2 0, 4, .inl f) := fun _ _ => rfl
theorem e_197 (G : GG) (o : Nat) : ∀ (f : Nat → Int32) (g : Nat → Int64), shp G o 197 f g = .inl (G.2 0, 4, .inl f) := fun _ _ => rfl
theorem e_198 (G : GG) (o : Nat) : ∀ (f : Nat → Int32) (g : Nat → Int64), shp G o 198 f g = .inr (3, [.ref (o + 199), .ref (o + 200), .int (f 2), .int (f 3), .int (f 4), .int (f 5), .int (f 6), .int (f 7), .int (f 8)]) := fun _ _ => rfl
theorem e_199 (G : GG) (o : Nat) : ∀ (f : Nat → Int32) (g : Nat → Int64), shp G o 199 f g = .inl (G.2 3, 40, .inr (.inr (.inr (.inr (fun i => if i < 40 then some (o + (188 + (13 + 2 * i))) else none))))) := fun _ _ => rfl
theorem e_200 (G : GG) (o : Nat) : ∀ (f : Nat → Int32) (g : Nat → Int64), shp G o 200 f g = .inl (G.2 0, 4, .inl f) := fun _ _ => rfl
theorem e_281 (G : GG) (o : Nat) : ∀ (f : Nat → Int32) (g : Nat → Int64), shp G o 281 f g = .inl (G.2 2, 2, .inl f) := fun _ _ => rfl
theorem e_282 (G : GG) (o : Nat) : ∀ (f : Nat → Int32) (g : Nat → Int64), shp G o 282 f g = .inr (4, [.ref (o + 283), .ref (o + 284), .long (g 2), .int (f 3)]) := fun _ _ => rfl
theorem e_283 (G : GG) (o : Nat) : ∀ (f : Nat → Int32) (g : Nat → Int64), shp G o 283 f g = .inl (G.2 1, 4, .inr (.inl g)) := fun _ _ => rfl
theorem e_284 (G : GG) (o : Nat) : ∀ (f : Nat → Int32) (g : Nat → Int64), shp G o 284 f g = .inl (G.2 0, 4, .inl f) := fun _ _ => rfl
theorem e_285 (G : GG) (o : Nat) : ∀ (f : Nat → Int32) (g : Nat → Int64), shp G o 285 f g = .inr (6, [.ref (o + 286), .ref (o + 287), .ref (o + 288), .ref (o + 289), .ref (o + 290), .long (g 5), .ref (o + 291)]) := fun _ _ => rfl
theorem e_286 (G : GG) (o : Nat) : ∀ (f : Nat → Int32) (g : Nat → Int64), shp G o 286 f g = .inl (G.2 0, 361, .inl f) := fun _ _ => rfl
theorem e_287 (G : GG) (o : Nat) : ∀ (f : Nat → Int32) (g : Nat → Int64), shp G o 287 f g = .inl (G.2 0, 722, .inl f) := fun _ _ => rfl
theorem e_288 (G : GG) (o : Nat) : ∀ (f : Nat → Int32) (g : Nat → Int64), shp G o 288 f g = .inl (G.2 2, 2, .inl f) := fun _ _ => rfl
theorem e_289 (G : GG) (o : Nat) : ∀ (f : Nat → Int32) (g : Nat → Int64), shp G o 289 f g = .inl (G.2 0, 4, .inl f) := fun _ _ => rfl
theorem e_290 (G : GG) (o : Nat) : ∀ (f : Nat → Int32) (g : Nat → Int64), shp G o 290 f g = .inl (G.2 1, 4, .inr (.inl g)) := fun _ _ => rfl
theorem e_291 (G : GG) (o : Nat) : ∀ (f : Nat → Int32) (g : Nat → Int64), shp G o 291 f g = .inl (G.2 0, 4, .inl f) := fun _ _ => rfl
theorem el_14 (G : GG) (o : Nat) {i : Nat} (hi : i < 40) : ∀ (f : Nat → Int32) (g : Nat → Int64), shp G o (14 + 2 * i) f g = .inr (0, [.ref (o + (15 + 2 * i)), .int (f 1), .int (f 2), .int (f 3), .int (f 4)]) := by
  intro f g
  rw [shp, if_neg (by omega), if_pos (by omega)]
  rw [show 14 + 2 * i - 1 = 2 * i + 13 by omega]
  show (if 2 * i % 2 = 0 then _ else _ : va_E) = _
  rw [if_pos (by omega), show o + (1 + (2 * i + 14)) = o + (15 + 2 * i) by omega]
theorem em_14 (G : GG) (o : Nat) {i : Nat} (hi : i < 40) : ∀ (f : Nat → Int32) (g : Nat → Int64), shp G o (15 + 2 * i) f g = .inl (G.2 0, 4, .inl f) := by
  intro f g
  rw [shp, if_neg (by omega), if_pos (by omega)]
  rw [show 15 + 2 * i - 1 = (2 * i + 1) + 13 by omega]
  show (if (2 * i + 1) % 2 = 0 then _ else _ : va_E) = _
  rw [if_neg (by omega)]
theorem ql_14 {o i : Nat} (hi : i < 40) : (fun i => if i < 40 then some (o + (1 + (13 + 2 * i))) else none) i = some (o + (14 + 2 * i)) := by
  show (if i < 40 then some (o + (1 + (13 + 2 * i))) else none) = _
  rw [if_pos hi, show o + (1 + (13 + 2 * i)) = o + (14 + 2 * i) by omega]
theorem el_108 (G : GG) (o : Nat) {i : Nat} (hi : i < 40) : ∀ (f : Nat → Int32) (g : Nat → Int64), shp G o (108 + 2 * i) f g = .inr (0, [.ref (o + (109 + 2 * i)), .int (f 1), .int (f 2), .int (f 3), .int (f 4)]) := by
  intro f g
  rw [shp, if_neg (by omega), if_neg (by omega), if_neg (by omega), if_pos (by omega)]
  rw [show 108 + 2 * i - 95 = 2 * i + 13 by omega]
  show (if 2 * i % 2 = 0 then _ else _ : va_E) = _
  rw [if_pos (by omega), show o + (95 + (2 * i + 14)) = o + (109 + 2 * i) by omega]
theorem em_108 (G : GG) (o : Nat) {i : Nat} (hi : i < 40) : ∀ (f : Nat → Int32) (g : Nat → Int64), shp G o (109 + 2 * i) f g = .inl (G.2 0, 4, .inl f) := by
  intro f g
  rw [shp, if_neg (by omega), if_neg (by omega), if_neg (by omega), if_pos (by omega)]
  rw [show 109 + 2 * i - 95 = (2 * i + 1) + 13 by omega]
  show (if (2 * i + 1) % 2 = 0 then _ else _ : va_E) = _
  rw [if_neg (by omega)]
theorem ql_108 {o i : Nat} (hi : i < 40) : (fun i => if i < 40 then some (o + (95 + (13 + 2 * i))) else none) i = some (o + (108 + 2 * i)) := by
  show (if i < 40 then some (o + (95 + (13 + 2 * i))) else none) = _
  rw [if_pos hi, show o + (95 + (13 + 2 * i)) = o + (108 + 2 * i) by omega]
theorem el_201 (G : GG) (o : Nat) {i : Nat} (hi : i < 40) : ∀ (f : Nat → Int32) (g : Nat → Int64), shp G o (201 + 2 * i) f g = .inr (0, [.ref (o + (202 + 2 * i)), .int (f 1), .int (f 2), .int (f 3), .int (f 4)]) := by
  intro f g
  rw [shp, if_neg (by omega), if_neg (by omega), if_neg (by omega), if_neg (by omega), if_pos (by omega)]
  rw [show 201 + 2 * i - 188 = 2 * i + 13 by omega]
  show (if 2 * i % 2 = 0 then _ else _ : va_E) = _
  rw [if_pos (by omega), show o + (188 + (2 * i + 14)) = o + (202 + 2 * i) by omega]
theorem em_201 (G : GG) (o : Nat) {i : Nat} (hi : i < 40) : ∀ (f : Nat → Int32) (g : Nat → Int64), shp G o (202 + 2 * i) f g = .inl (G.2 0, 4, .inl f) := by
  intro f g
  rw [shp, if_neg (by omega), if_neg (by omega), if_neg (by omega), if_neg (by omega), if_pos (by omega)]
  rw [show 202 + 2 * i - 188 = (2 * i + 1) + 13 by omega]
  show (if (2 * i + 1) % 2 = 0 then _ else _ : va_E) = _
  rw [if_neg (by omega)]
theorem ql_201 {o i : Nat} (hi : i < 40) : (fun i => if i < 40 then some (o + (188 + (13 + 2 * i))) else none) i = some (o + (201 + 2 * i)) := by
  show (if i < 40 then some (o + (188 + (13 + 2 * i))) else none) = _
  rw [if_pos hi, show o + (188 + (13 + 2 * i)) = o + (201 + 2 * i) by omega]
