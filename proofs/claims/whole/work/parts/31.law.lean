/-! ===== 31: the law: one turn, the loop ===== -/
def R_law : String := "GrindingCircuitLaw"
def lw_P (b : Addr) (xs : List Int32) (args : Array Value) (s : State) : Prop := args = #[.ref b] ∧ s.IntsAt b xs ∧ xs.length ≤ 3072 ∧ (Jvm.Cond.and given_1 narrow_1).before args s = true
def lw_Q (_ : Array Value) (s : State) (o : Outcome) (t : State) : Prop := o = .returned (some (.int 1)) ∧ Framed s o t [] 605113 7286908
def lw_Z (below : List Frame) (a : Array Value) (s : State) : State → Prop := fun t => ∃ o, t.status = .running ∧ Ended t below o ∧ lw_Q a s o t
/-- the law's own end, with 1 on the stack, nothing written that was there before, its room as the claim has it -/
theorem lw_ret {p : Program} {l : Launch} {e : Env} {s : State} {m : MethodId} {below : List Frame} {meth : Method} {c : Code} {b : Nat} (hx : p.tables.exec = Jvm.exec) (hb : c.code = code) (hr : meth.sig.returnType = ret) (hlocks : meth.locks = false) {pc : Nat} {H : Heap} {ls : Array Slot} (hdg : decode code pc = .ok (.ireturn, 1)) : W p l e room_1 s m #[Value.ref b] below meth c H [] 605113 7286908 (lw_Z below #[Value.ref b] s) (F0 m pc ls [.int 1]) := by
  intro T hT X
  obtain ⟨fs, hret, hrun, hended, hW, hframe⟩ := X.leave (v := some (.int 1)) (hlocks := hlocks) (fun h => by rw [hr] at h; cases h)
  have hmeth' : T.vm.method? m = some meth := X.method'
  refine ⟨T.setFrames fs, ?_, .returned (some (.int 1)), hrun, hended, rfl, ⟨_, rfl⟩, hW, hframe⟩
  jvm_step X.here [X.here.top, hx, hb, hdg, hmeth', hr, ret, narrow_b1]
  (try refine ⟨rfl, ?_⟩); (try refine ⟨rfl, ?_⟩)
  first | (intro acts; rw [hret _ acts rfl rfl rfl]) | rw [hret _ _ rfl rfl rfl]
  exact Steps.refl _
/-- what holds at the law's entry: the machine, the code, the tables' words (any of lw_tbl by 'hts w (by decide +kernel)'), the script of L ints xs at the cell b, what the Statement gives of the start (any of its parts by flat_of_before) -/
def lw_At (p : Program) (s : State) (m : MethodId) (meth : Method) (c : Code) (b L : Nat) (xs : Nat → Int32) : Prop :=
  p.tables.exec = Jvm.exec ∧ c.code = code ∧ meth.sig.returnType = ret ∧ c.maxLocals = 4 ∧ s.vm.findClass R_law = some m.cls ∧ (∀ w ∈ lw_tbl, w.before #[Value.ref b] s = true) ∧ va_X b L xs s s.heap ∧ b < s.heap.size ∧ meth.locks = false ∧ (Jvm.Cond.and given_1 narrow_1).before #[Value.ref b] s = true
theorem vp_nIa {k L j : Nat} (h : 6 * k + 6 ≤ L) (hL : L ≤ 3072) (hj : j ≤ 5) : vp_in (nI (6 * k) + nI j) L := by
  rw [nI_add]
  exact vp_in_nI (by omega) (by omega)
theorem lcmp_eq (x : Int64) : lg_cmp x x = 0 := by simp [lg_cmp, Int64.lt_irrefl]
section LAW
variable {p : Program} {l : Launch} {e : Env} {s : State} {m : MethodId} {below : List Frame} {meth : Method} {c : Code} {b L : Nat} {xs : Nat → Int32} {G : GG} {o : Nat}
theorem law_0 (hE : gE p m c cL_law 4 s #[Value.ref b] RL) (hK : KK G s) (hL : L ≤ 3072) (hX : va_X b L xs s s.heap) (hbl : b < s.heap.size) (ho : s.heap.size ≤ o) {cells slots k : Nat} {X : SX} {Y : SY} {H : Heap} {locs : List Loc} {ls : Array Slot} {Q : State → Prop} (hc : cells ≤ room_1.cells ∧ slots ≤ room_1.slots) (hk : 6 * k + 6 ≤ L) (hR : R2 X k) (hI : In G o X Y s.heap H locs) (hl : lv_has ls 4 [(3, .int (nI (6 * k))), (0, .ref b), (1, .ref (o + 0)), (2, .ref (o + 285))])
    (kk : ∀ (X1 : SX) (Y1 : SY) (H1 : Heap) (locs1 : List Loc), In G o X1 Y1 s.heap H1 locs1 → R2 X1 (k + 1) → W p l e room_1 s m #[Value.ref b] below meth c H1 locs1 cells slots Q (F0 m 908 ls [])) : W p l e room_1 s m #[Value.ref b] below meth c H locs cells slots Q (F0 m 148 ls []) := by
  have hx := hE.1
  have hb := hE.2.1
  have hA : ¬ rg o b := fun q => absurd q.1 (by omega)
  obtain ⟨f1, lo1, f2, lo2, r, X1, Y1, X2, Y2, ⟨⟨u1, u2⟩, u3, u4⟩, hC, hM, hR2⟩ := P_setBreakage l G o X Y k (xs (nI (6 * k) + nI 1).toNatClampNeg) (xs (nI (6 * k) + nI 2).toNatClampNeg) (xs (nI (6 * k) + nI 3).toNatClampNeg) (xs (nI (6 * k) + nI 4).toNatClampNeg) hR
  refine lv_aload_n hx hb dL_law_148 rfl (lv_at hl 2 rfl) ?_
  refine lv_aload_n hx hb dL_law_149 rfl (lv_at hl 1 rfl) ?_
  refine lv_iload_n hx hb dL_law_150 rfl (lv_at hl 0 rfl) ?_
  refine lv_iconst (v := nI 1) hx hb dL_law_151 (by decide) ?_
  refine lv_iadd hx hb dL_law_152 ?_
  refine va_sld hx hb hX hbl hA hI.2 (vp_nIa hk hL (by decide)) dL_law_153 ?_
  refine lv_aload_n hx hb dL_law_154 rfl (lv_at hl 1 rfl) ?_
  refine lv_iload_n hx hb dL_law_155 rfl (lv_at hl 0 rfl) ?_
  refine lv_iconst (v := nI 2) hx hb dL_law_156 (by decide) ?_
  refine lv_iadd hx hb dL_law_157 ?_
  refine va_sld hx hb hX hbl hA hI.2 (vp_nIa hk hL (by decide)) dL_law_158 ?_
  refine lv_aload_n hx hb dL_law_159 rfl (lv_at hl 1 rfl) ?_
  refine lv_iload_n hx hb dL_law_160 rfl (lv_at hl 0 rfl) ?_
  refine lv_iconst (v := nI 3) hx hb dL_law_161 (by decide) ?_
  refine lv_iadd hx hb dL_law_162 ?_
  refine va_sld hx hb hX hbl hA hI.2 (vp_nIa hk hL (by decide)) dL_law_163 ?_
  refine lv_aload_n hx hb dL_law_164 rfl (lv_at hl 1 rfl) ?_
  refine lv_iload_n hx hb dL_law_165 rfl (lv_at hl 0 rfl) ?_
  refine lv_iconst (v := nI 4) hx hb dL_law_166 (by decide) ?_
  refine lv_iadd hx hb dL_law_167 ?_
  refine va_sld hx hb hX hbl hA hI.2 (vp_nIa hk hL (by decide)) dL_law_168 ?_
  refine x_callVi (k := 0) hE hK hI hC mf_X5_setBreakage mw_185 (by decide) ((e_0 G o) _ _) rfl rfl hl.1 rfl (Nat.le_of_ble_eq_true rfl) ⟨show f1 + 1 ≤ 12 by omega, show 8 + (7 + 11) + lo1 ≤ 440 by omega⟩ hc dL_law_169 (fun H locs hI => ?_)
  refine lv_aload_n hx hb dL_law_172 rfl (lv_at hl 3 rfl) ?_
  refine lv_aload_n hx hb dL_law_173 rfl (lv_at hl 1 rfl) ?_
  refine lv_iload_n hx hb dL_law_174 rfl (lv_at hl 0 rfl) ?_
  refine lv_iconst (v := nI 1) hx hb dL_law_175 (by decide) ?_
  refine lv_iadd hx hb dL_law_176 ?_
  refine va_sld hx hb hX hbl hA hI.2 (vp_nIa hk hL (by decide)) dL_law_177 ?_
  refine lv_aload_n hx hb dL_law_178 rfl (lv_at hl 1 rfl) ?_
  refine lv_iload_n hx hb dL_law_179 rfl (lv_at hl 0 rfl) ?_
  refine lv_iconst (v := nI 2) hx hb dL_law_180 (by decide) ?_
  refine lv_iadd hx hb dL_law_181 ?_
  refine va_sld hx hb hX hbl hA hI.2 (vp_nIa hk hL (by decide)) dL_law_182 ?_
  refine lv_aload_n hx hb dL_law_183 rfl (lv_at hl 1 rfl) ?_
  refine lv_iload_n hx hb dL_law_184 rfl (lv_at hl 0 rfl) ?_
  refine lv_iconst (v := nI 3) hx hb dL_law_185 (by decide) ?_
  refine lv_iadd hx hb dL_law_186 ?_
  refine va_sld hx hb hX hbl hA hI.2 (vp_nIa hk hL (by decide)) dL_law_187 ?_
  refine lv_aload_n hx hb dL_law_188 rfl (lv_at hl 1 rfl) ?_
  refine lv_iload_n hx hb dL_law_189 rfl (lv_at hl 0 rfl) ?_
  refine lv_iconst (v := nI 4) hx hb dL_law_190 (by decide) ?_
  refine lv_iadd hx hb dL_law_191 ?_
  refine va_sld hx hb hX hbl hA hI.2 (vp_nIa hk hL (by decide)) dL_law_192 ?_
  refine x_callVi (k := 285) hE hK hI hM mf_X6_setBreakage mw_502 (by decide) ((e_285 G o) _ _) rfl rfl hl.1 rfl (Nat.le_of_ble_eq_true rfl) ⟨show f2 + 1 ≤ 12 by omega, show 8 + (7 + 11) + lo2 ≤ 440 by omega⟩ hc dL_law_193 (fun H locs hI => ?_)
  exact lv_icmp_eq (tgt := 908) hx hb dL_law_196 (by decide) (fun _ => kk _ _ _ _ hI hR2) (fun q => absurd rfl q)
theorem law_1 (hE : gE p m c cL_law 4 s #[Value.ref b] RL) (hK : KK G s) (hL : L ≤ 3072) (hX : va_X b L xs s s.heap) (hbl : b < s.heap.size) (ho : s.heap.size ≤ o) {cells slots k : Nat} {X : SX} {Y : SY} {H : Heap} {locs : List Loc} {ls : Array Slot} {Q : State → Prop} (hc : cells ≤ room_1.cells ∧ slots ≤ room_1.slots) (hk : 6 * k + 6 ≤ L) (hR : R2 X k) (hI : In G o X Y s.heap H locs) (hl : lv_has ls 4 [(3, .int (nI (6 * k))), (0, .ref b), (1, .ref (o + 0)), (2, .ref (o + 285))])
    (kk : ∀ (X1 : SX) (Y1 : SY) (H1 : Heap) (locs1 : List Loc), In G o X1 Y1 s.heap H1 locs1 → R2 X1 (k + 1) → W p l e room_1 s m #[Value.ref b] below meth c H1 locs1 cells slots Q (F0 m 908 ls [])) : W p l e room_1 s m #[Value.ref b] below meth c H locs cells slots Q (F0 m 201 ls []) := by
  have hx := hE.1
  have hb := hE.2.1
  have hA : ¬ rg o b := fun q => absurd q.1 (by omega)
  obtain ⟨f1, lo1, f2, lo2, r, X1, Y1, X2, Y2, ⟨⟨u1, u2⟩, u3, u4⟩, hC, hM, hR2⟩ := P_share l G o X Y k (xs (nI (6 * k) + nI 1).toNatClampNeg) (xs (nI (6 * k) + nI 2).toNatClampNeg) hR
  refine lv_aload_n hx hb dL_law_201 rfl (lv_at hl 2 rfl) ?_
  refine lv_aload_n hx hb dL_law_202 rfl (lv_at hl 1 rfl) ?_
  refine lv_iload_n hx hb dL_law_203 rfl (lv_at hl 0 rfl) ?_
  refine lv_iconst (v := nI 1) hx hb dL_law_204 (by decide) ?_
  refine lv_iadd hx hb dL_law_205 ?_
  refine va_sld hx hb hX hbl hA hI.2 (vp_nIa hk hL (by decide)) dL_law_206 ?_
  refine lv_aload_n hx hb dL_law_207 rfl (lv_at hl 1 rfl) ?_
  refine lv_iload_n hx hb dL_law_208 rfl (lv_at hl 0 rfl) ?_
  refine lv_iconst (v := nI 2) hx hb dL_law_209 (by decide) ?_
  refine lv_iadd hx hb dL_law_210 ?_
  refine va_sld hx hb hX hbl hA hI.2 (vp_nIa hk hL (by decide)) dL_law_211 ?_
  refine x_callVi (k := 0) hE hK hI hC mf_X5_share mw_203 (by decide) ((e_0 G o) _ _) rfl rfl hl.1 rfl (Nat.le_of_ble_eq_true rfl) ⟨show f1 + 1 ≤ 12 by omega, show 8 + (3 + 11) + lo1 ≤ 440 by omega⟩ hc dL_law_212 (fun H locs hI => ?_)
  refine lv_aload_n hx hb dL_law_215 rfl (lv_at hl 3 rfl) ?_
  refine lv_aload_n hx hb dL_law_216 rfl (lv_at hl 1 rfl) ?_
  refine lv_iload_n hx hb dL_law_217 rfl (lv_at hl 0 rfl) ?_
  refine lv_iconst (v := nI 1) hx hb dL_law_218 (by decide) ?_
  refine lv_iadd hx hb dL_law_219 ?_
  refine va_sld hx hb hX hbl hA hI.2 (vp_nIa hk hL (by decide)) dL_law_220 ?_
  refine lv_aload_n hx hb dL_law_221 rfl (lv_at hl 1 rfl) ?_
  refine lv_iload_n hx hb dL_law_222 rfl (lv_at hl 0 rfl) ?_
  refine lv_iconst (v := nI 2) hx hb dL_law_223 (by decide) ?_
  refine lv_iadd hx hb dL_law_224 ?_
  refine va_sld hx hb hX hbl hA hI.2 (vp_nIa hk hL (by decide)) dL_law_225 ?_
  refine x_callVi (k := 285) hE hK hI hM mf_X6_share mw_512 (by decide) ((e_285 G o) _ _) rfl rfl hl.1 rfl (Nat.le_of_ble_eq_true rfl) ⟨show f2 + 1 ≤ 12 by omega, show 8 + (3 + 11) + lo2 ≤ 440 by omega⟩ hc dL_law_226 (fun H locs hI => ?_)
  exact lv_icmp_eq (tgt := 908) hx hb dL_law_229 (by decide) (fun _ => kk _ _ _ _ hI hR2) (fun q => absurd rfl q)
theorem law_2 (hE : gE p m c cL_law 4 s #[Value.ref b] RL) (hK : KK G s) (hL : L ≤ 3072) (hX : va_X b L xs s s.heap) (hbl : b < s.heap.size) (ho : s.heap.size ≤ o) {cells slots k : Nat} {X : SX} {Y : SY} {H : Heap} {locs : List Loc} {ls : Array Slot} {Q : State → Prop} (hc : cells ≤ room_1.cells ∧ slots ≤ room_1.slots) (hk : 6 * k + 6 ≤ L) (hR : R2 X k) (hI : In G o X Y s.heap H locs) (hl : lv_has ls 4 [(3, .int (nI (6 * k))), (0, .ref b), (1, .ref (o + 0)), (2, .ref (o + 285))])
    (kk : ∀ (X1 : SX) (Y1 : SY) (H1 : Heap) (locs1 : List Loc), In G o X1 Y1 s.heap H1 locs1 → R2 X1 (k + 1) → W p l e room_1 s m #[Value.ref b] below meth c H1 locs1 cells slots Q (F0 m 908 ls [])) : W p l e room_1 s m #[Value.ref b] below meth c H locs cells slots Q (F0 m 234 ls []) := by
  have hx := hE.1
  have hb := hE.2.1
  have hA : ¬ rg o b := fun q => absurd q.1 (by omega)
  obtain ⟨f1, lo1, f2, lo2, r, X1, Y1, X2, Y2, ⟨⟨u1, u2⟩, u3, u4⟩, hC, hM, hR2⟩ := P_setReturn l G o X Y k (xs (nI (6 * k) + nI 1).toNatClampNeg) (xs (nI (6 * k) + nI 2).toNatClampNeg) hR
  refine lv_aload_n hx hb dL_law_234 rfl (lv_at hl 2 rfl) ?_
  refine lv_aload_n hx hb dL_law_235 rfl (lv_at hl 1 rfl) ?_
  refine lv_iload_n hx hb dL_law_236 rfl (lv_at hl 0 rfl) ?_
  refine lv_iconst (v := nI 1) hx hb dL_law_237 (by decide) ?_
  refine lv_iadd hx hb dL_law_238 ?_
  refine va_sld hx hb hX hbl hA hI.2 (vp_nIa hk hL (by decide)) dL_law_239 ?_
  refine lv_aload_n hx hb dL_law_240 rfl (lv_at hl 1 rfl) ?_
  refine lv_iload_n hx hb dL_law_241 rfl (lv_at hl 0 rfl) ?_
  refine lv_iconst (v := nI 2) hx hb dL_law_242 (by decide) ?_
  refine lv_iadd hx hb dL_law_243 ?_
  refine va_sld hx hb hX hbl hA hI.2 (vp_nIa hk hL (by decide)) dL_law_244 ?_
  refine x_callVi (k := 0) hE hK hI hC mf_X5_setReturn mw_207 (by decide) ((e_0 G o) _ _) rfl rfl hl.1 rfl (Nat.le_of_ble_eq_true rfl) ⟨show f1 + 1 ≤ 12 by omega, show 8 + (3 + 11) + lo1 ≤ 440 by omega⟩ hc dL_law_245 (fun H locs hI => ?_)
  refine lv_aload_n hx hb dL_law_248 rfl (lv_at hl 3 rfl) ?_
  refine lv_aload_n hx hb dL_law_249 rfl (lv_at hl 1 rfl) ?_
  refine lv_iload_n hx hb dL_law_250 rfl (lv_at hl 0 rfl) ?_
  refine lv_iconst (v := nI 1) hx hb dL_law_251 (by decide) ?_
  refine lv_iadd hx hb dL_law_252 ?_
  refine va_sld hx hb hX hbl hA hI.2 (vp_nIa hk hL (by decide)) dL_law_253 ?_
  refine lv_aload_n hx hb dL_law_254 rfl (lv_at hl 1 rfl) ?_
  refine lv_iload_n hx hb dL_law_255 rfl (lv_at hl 0 rfl) ?_
  refine lv_iconst (v := nI 2) hx hb dL_law_256 (by decide) ?_
  refine lv_iadd hx hb dL_law_257 ?_
  refine va_sld hx hb hX hbl hA hI.2 (vp_nIa hk hL (by decide)) dL_law_258 ?_
  refine x_callVi (k := 285) hE hK hI hM mf_X6_setReturn mw_520 (by decide) ((e_285 G o) _ _) rfl rfl hl.1 rfl (Nat.le_of_ble_eq_true rfl) ⟨show f2 + 1 ≤ 12 by omega, show 8 + (3 + 11) + lo2 ≤ 440 by omega⟩ hc dL_law_259 (fun H locs hI => ?_)
  exact lv_icmp_eq (tgt := 908) hx hb dL_law_262 (by decide) (fun _ => kk _ _ _ _ hI hR2) (fun q => absurd rfl q)
theorem law_3 (hE : gE p m c cL_law 4 s #[Value.ref b] RL) (hK : KK G s) (hL : L ≤ 3072) (hX : va_X b L xs s s.heap) (hbl : b < s.heap.size) (ho : s.heap.size ≤ o) {cells slots k : Nat} {X : SX} {Y : SY} {H : Heap} {locs : List Loc} {ls : Array Slot} {Q : State → Prop} (hc : cells ≤ room_1.cells ∧ slots ≤ room_1.slots) (hk : 6 * k + 6 ≤ L) (hR : R2 X k) (hI : In G o X Y s.heap H locs) (hl : lv_has ls 4 [(3, .int (nI (6 * k))), (0, .ref b), (1, .ref (o + 0)), (2, .ref (o + 285))])
    (kk : ∀ (X1 : SX) (Y1 : SY) (H1 : Heap) (locs1 : List Loc), In G o X1 Y1 s.heap H1 locs1 → R2 X1 (k + 1) → W p l e room_1 s m #[Value.ref b] below meth c H1 locs1 cells slots Q (F0 m 908 ls [])) : W p l e room_1 s m #[Value.ref b] below meth c H locs cells slots Q (F0 m 267 ls []) := by
  have hx := hE.1
  have hb := hE.2.1
  have hA : ¬ rg o b := fun q => absurd q.1 (by omega)
  obtain ⟨f1, lo1, f2, lo2, r, X1, Y1, X2, Y2, ⟨⟨u1, u2⟩, u3, u4⟩, hC, hM, hR2⟩ := P_setWork l G o X Y k (xs (nI (6 * k) + nI 1).toNatClampNeg) (xs (nI (6 * k) + nI 2).toNatClampNeg) hR
  refine lv_aload_n hx hb dL_law_267 rfl (lv_at hl 2 rfl) ?_
  refine lv_aload_n hx hb dL_law_268 rfl (lv_at hl 1 rfl) ?_
  refine lv_iload_n hx hb dL_law_269 rfl (lv_at hl 0 rfl) ?_
  refine lv_iconst (v := nI 1) hx hb dL_law_270 (by decide) ?_
  refine lv_iadd hx hb dL_law_271 ?_
  refine va_sld hx hb hX hbl hA hI.2 (vp_nIa hk hL (by decide)) dL_law_272 ?_
  refine lv_aload_n hx hb dL_law_273 rfl (lv_at hl 1 rfl) ?_
  refine lv_iload_n hx hb dL_law_274 rfl (lv_at hl 0 rfl) ?_
  refine lv_iconst (v := nI 2) hx hb dL_law_275 (by decide) ?_
  refine lv_iadd hx hb dL_law_276 ?_
  refine va_sld hx hb hX hbl hA hI.2 (vp_nIa hk hL (by decide)) dL_law_277 ?_
  refine x_callVi (k := 0) hE hK hI hC mf_X5_setWork mw_214 (by decide) ((e_0 G o) _ _) rfl rfl hl.1 rfl (Nat.le_of_ble_eq_true rfl) ⟨show f1 + 1 ≤ 12 by omega, show 8 + (3 + 11) + lo1 ≤ 440 by omega⟩ hc dL_law_278 (fun H locs hI => ?_)
  refine lv_aload_n hx hb dL_law_281 rfl (lv_at hl 3 rfl) ?_
  refine lv_aload_n hx hb dL_law_282 rfl (lv_at hl 1 rfl) ?_
  refine lv_iload_n hx hb dL_law_283 rfl (lv_at hl 0 rfl) ?_
  refine lv_iconst (v := nI 1) hx hb dL_law_284 (by decide) ?_
  refine lv_iadd hx hb dL_law_285 ?_
  refine va_sld hx hb hX hbl hA hI.2 (vp_nIa hk hL (by decide)) dL_law_286 ?_
  refine lv_aload_n hx hb dL_law_287 rfl (lv_at hl 1 rfl) ?_
  refine lv_iload_n hx hb dL_law_288 rfl (lv_at hl 0 rfl) ?_
  refine lv_iconst (v := nI 2) hx hb dL_law_289 (by decide) ?_
  refine lv_iadd hx hb dL_law_290 ?_
  refine va_sld hx hb hX hbl hA hI.2 (vp_nIa hk hL (by decide)) dL_law_291 ?_
  refine x_callVi (k := 285) hE hK hI hM mf_X6_setWork mw_528 (by decide) ((e_285 G o) _ _) rfl rfl hl.1 rfl (Nat.le_of_ble_eq_true rfl) ⟨show f2 + 1 ≤ 12 by omega, show 8 + (3 + 11) + lo2 ≤ 440 by omega⟩ hc dL_law_292 (fun H locs hI => ?_)
  exact lv_icmp_eq (tgt := 908) hx hb dL_law_295 (by decide) (fun _ => kk _ _ _ _ hI hR2) (fun q => absurd rfl q)
theorem law_4 (hE : gE p m c cL_law 4 s #[Value.ref b] RL) (hK : KK G s) (hL : L ≤ 3072) (hX : va_X b L xs s s.heap) (hbl : b < s.heap.size) (ho : s.heap.size ≤ o) {cells slots k : Nat} {X : SX} {Y : SY} {H : Heap} {locs : List Loc} {ls : Array Slot} {Q : State → Prop} (hc : cells ≤ room_1.cells ∧ slots ≤ room_1.slots) (hk : 6 * k + 6 ≤ L) (hR : R2 X k) (hI : In G o X Y s.heap H locs) (hl : lv_has ls 4 [(3, .int (nI (6 * k))), (0, .ref b), (1, .ref (o + 0)), (2, .ref (o + 285))])
    (kk : ∀ (X1 : SX) (Y1 : SY) (H1 : Heap) (locs1 : List Loc), In G o X1 Y1 s.heap H1 locs1 → R2 X1 (k + 1) → W p l e room_1 s m #[Value.ref b] below meth c H1 locs1 cells slots Q (F0 m 908 ls [])) : W p l e room_1 s m #[Value.ref b] below meth c H locs cells slots Q (F0 m 300 ls []) := by
  have hx := hE.1
  have hb := hE.2.1
  have hA : ¬ rg o b := fun q => absurd q.1 (by omega)
  obtain ⟨f1, lo1, f2, lo2, r, X1, Y1, X2, Y2, ⟨⟨u1, u2⟩, u3, u4⟩, hC, hM, hR2⟩ := P_setFeed l G o X Y k (xs (nI (6 * k) + nI 1).toNatClampNeg) (xs (nI (6 * k) + nI 2).toNatClampNeg) hR
  refine lv_aload_n hx hb dL_law_300 rfl (lv_at hl 2 rfl) ?_
  refine lv_aload_n hx hb dL_law_301 rfl (lv_at hl 1 rfl) ?_
  refine lv_iload_n hx hb dL_law_302 rfl (lv_at hl 0 rfl) ?_
  refine lv_iconst (v := nI 1) hx hb dL_law_303 (by decide) ?_
  refine lv_iadd hx hb dL_law_304 ?_
  refine va_sld hx hb hX hbl hA hI.2 (vp_nIa hk hL (by decide)) dL_law_305 ?_
  refine lv_aload_n hx hb dL_law_306 rfl (lv_at hl 1 rfl) ?_
  refine lv_iload_n hx hb dL_law_307 rfl (lv_at hl 0 rfl) ?_
  refine lv_iconst (v := nI 2) hx hb dL_law_308 (by decide) ?_
  refine lv_iadd hx hb dL_law_309 ?_
  refine va_sld hx hb hX hbl hA hI.2 (vp_nIa hk hL (by decide)) dL_law_310 ?_
  refine x_callVi (k := 0) hE hK hI hC mf_X5_setFeed mw_218 (by decide) ((e_0 G o) _ _) rfl rfl hl.1 rfl (Nat.le_of_ble_eq_true rfl) ⟨show f1 + 1 ≤ 12 by omega, show 8 + (3 + 11) + lo1 ≤ 440 by omega⟩ hc dL_law_311 (fun H locs hI => ?_)
  refine lv_aload_n hx hb dL_law_314 rfl (lv_at hl 3 rfl) ?_
  refine lv_aload_n hx hb dL_law_315 rfl (lv_at hl 1 rfl) ?_
  refine lv_iload_n hx hb dL_law_316 rfl (lv_at hl 0 rfl) ?_
  refine lv_iconst (v := nI 1) hx hb dL_law_317 (by decide) ?_
  refine lv_iadd hx hb dL_law_318 ?_
  refine va_sld hx hb hX hbl hA hI.2 (vp_nIa hk hL (by decide)) dL_law_319 ?_
  refine lv_aload_n hx hb dL_law_320 rfl (lv_at hl 1 rfl) ?_
  refine lv_iload_n hx hb dL_law_321 rfl (lv_at hl 0 rfl) ?_
  refine lv_iconst (v := nI 2) hx hb dL_law_322 (by decide) ?_
  refine lv_iadd hx hb dL_law_323 ?_
  refine va_sld hx hb hX hbl hA hI.2 (vp_nIa hk hL (by decide)) dL_law_324 ?_
  refine x_callVi (k := 285) hE hK hI hM mf_X6_setFeed mw_532 (by decide) ((e_285 G o) _ _) rfl rfl hl.1 rfl (Nat.le_of_ble_eq_true rfl) ⟨show f2 + 1 ≤ 12 by omega, show 8 + (3 + 11) + lo2 ≤ 440 by omega⟩ hc dL_law_325 (fun H locs hI => ?_)
  exact lv_icmp_eq (tgt := 908) hx hb dL_law_328 (by decide) (fun _ => kk _ _ _ _ hI hR2) (fun q => absurd rfl q)
theorem law_5 (hE : gE p m c cL_law 4 s #[Value.ref b] RL) (hK : KK G s) (hL : L ≤ 3072) (hX : va_X b L xs s s.heap) (hbl : b < s.heap.size) (ho : s.heap.size ≤ o) {cells slots k : Nat} {X : SX} {Y : SY} {H : Heap} {locs : List Loc} {ls : Array Slot} {Q : State → Prop} (hc : cells ≤ room_1.cells ∧ slots ≤ room_1.slots) (hk : 6 * k + 6 ≤ L) (hR : R2 X k) (hI : In G o X Y s.heap H locs) (hl : lv_has ls 4 [(3, .int (nI (6 * k))), (0, .ref b), (1, .ref (o + 0)), (2, .ref (o + 285))])
    (kk : ∀ (X1 : SX) (Y1 : SY) (H1 : Heap) (locs1 : List Loc), In G o X1 Y1 s.heap H1 locs1 → R2 X1 (k + 1) → W p l e room_1 s m #[Value.ref b] below meth c H1 locs1 cells slots Q (F0 m 908 ls [])) : W p l e room_1 s m #[Value.ref b] below meth c H locs cells slots Q (F0 m 333 ls []) := by
  have hx := hE.1
  have hb := hE.2.1
  have hA : ¬ rg o b := fun q => absurd q.1 (by omega)
  obtain ⟨f1, lo1, f2, lo2, r, X1, Y1, X2, Y2, ⟨⟨u1, u2⟩, u3, u4⟩, hC, hM, hR2⟩ := P_load l G o X Y k (xs (nI (6 * k) + nI 1).toNatClampNeg) (xs (nI (6 * k) + nI 2).toNatClampNeg) hR
  refine lv_aload_n hx hb dL_law_333 rfl (lv_at hl 2 rfl) ?_
  refine lv_aload_n hx hb dL_law_334 rfl (lv_at hl 1 rfl) ?_
  refine lv_iload_n hx hb dL_law_335 rfl (lv_at hl 0 rfl) ?_
  refine lv_iconst (v := nI 1) hx hb dL_law_336 (by decide) ?_
  refine lv_iadd hx hb dL_law_337 ?_
  refine va_sld hx hb hX hbl hA hI.2 (vp_nIa hk hL (by decide)) dL_law_338 ?_
  refine lv_aload_n hx hb dL_law_339 rfl (lv_at hl 1 rfl) ?_
  refine lv_iload_n hx hb dL_law_340 rfl (lv_at hl 0 rfl) ?_
  refine lv_iconst (v := nI 2) hx hb dL_law_341 (by decide) ?_
  refine lv_iadd hx hb dL_law_342 ?_
  refine va_sld hx hb hX hbl hA hI.2 (vp_nIa hk hL (by decide)) dL_law_343 ?_
  refine x_callVl (k := 0) hE hK hI hC mf_X5_load mw_222 (by decide) ((e_0 G o) _ _) rfl rfl hl.1 rfl (Nat.le_of_ble_eq_true rfl) ⟨show f1 + 1 ≤ 12 by omega, show 8 + (3 + 11) + lo1 ≤ 440 by omega⟩ hc dL_law_344 (fun H locs hI => ?_)
  refine lv_aload_n hx hb dL_law_347 rfl (lv_at hl 3 rfl) ?_
  refine lv_aload_n hx hb dL_law_348 rfl (lv_at hl 1 rfl) ?_
  refine lv_iload_n hx hb dL_law_349 rfl (lv_at hl 0 rfl) ?_
  refine lv_iconst (v := nI 1) hx hb dL_law_350 (by decide) ?_
  refine lv_iadd hx hb dL_law_351 ?_
  refine va_sld hx hb hX hbl hA hI.2 (vp_nIa hk hL (by decide)) dL_law_352 ?_
  refine lv_aload_n hx hb dL_law_353 rfl (lv_at hl 1 rfl) ?_
  refine lv_iload_n hx hb dL_law_354 rfl (lv_at hl 0 rfl) ?_
  refine lv_iconst (v := nI 2) hx hb dL_law_355 (by decide) ?_
  refine lv_iadd hx hb dL_law_356 ?_
  refine va_sld hx hb hX hbl hA hI.2 (vp_nIa hk hL (by decide)) dL_law_357 ?_
  refine x_callVl (k := 285) hE hK hI hM mf_X6_load mw_536 (by decide) ((e_285 G o) _ _) rfl rfl hl.1 rfl (Nat.le_of_ble_eq_true rfl) ⟨show f2 + 1 ≤ 12 by omega, show 8 + (4 + 11) + lo2 ≤ 440 by omega⟩ hc dL_law_358 (fun H locs hI => ?_)
  refine W.lcmp hx hb dL_law_361 ?_
  exact lv_if_eq (tgt := 908) hx hb dL_law_362 (by decide) (fun _ => kk _ _ _ _ hI hR2) (fun q => absurd (lcmp_eq r) q)
theorem law_6 (hE : gE p m c cL_law 4 s #[Value.ref b] RL) (hK : KK G s) (hL : L ≤ 3072) (hX : va_X b L xs s s.heap) (hbl : b < s.heap.size) (ho : s.heap.size ≤ o) {cells slots k : Nat} {X : SX} {Y : SY} {H : Heap} {locs : List Loc} {ls : Array Slot} {Q : State → Prop} (hc : cells ≤ room_1.cells ∧ slots ≤ room_1.slots) (hk : 6 * k + 6 ≤ L) (hR : R2 X k) (hI : In G o X Y s.heap H locs) (hl : lv_has ls 4 [(3, .int (nI (6 * k))), (0, .ref b), (1, .ref (o + 0)), (2, .ref (o + 285))])
    (kk : ∀ (X1 : SX) (Y1 : SY) (H1 : Heap) (locs1 : List Loc), In G o X1 Y1 s.heap H1 locs1 → R2 X1 (k + 1) → W p l e room_1 s m #[Value.ref b] below meth c H1 locs1 cells slots Q (F0 m 908 ls [])) : W p l e room_1 s m #[Value.ref b] below meth c H locs cells slots Q (F0 m 367 ls []) := by
  have hx := hE.1
  have hb := hE.2.1
  have hA : ¬ rg o b := fun q => absurd q.1 (by omega)
  obtain ⟨f1, lo1, f2, lo2, r, X1, Y1, X2, Y2, ⟨⟨u1, u2⟩, u3, u4⟩, hC, hM, hR2⟩ := P_product l G o X Y k (xs (nI (6 * k) + nI 1).toNatClampNeg) (xs (nI (6 * k) + nI 2).toNatClampNeg) hR
  refine lv_aload_n hx hb dL_law_367 rfl (lv_at hl 2 rfl) ?_
  refine lv_aload_n hx hb dL_law_368 rfl (lv_at hl 1 rfl) ?_
  refine lv_iload_n hx hb dL_law_369 rfl (lv_at hl 0 rfl) ?_
  refine lv_iconst (v := nI 1) hx hb dL_law_370 (by decide) ?_
  refine lv_iadd hx hb dL_law_371 ?_
  refine va_sld hx hb hX hbl hA hI.2 (vp_nIa hk hL (by decide)) dL_law_372 ?_
  refine lv_aload_n hx hb dL_law_373 rfl (lv_at hl 1 rfl) ?_
  refine lv_iload_n hx hb dL_law_374 rfl (lv_at hl 0 rfl) ?_
  refine lv_iconst (v := nI 2) hx hb dL_law_375 (by decide) ?_
  refine lv_iadd hx hb dL_law_376 ?_
  refine va_sld hx hb hX hbl hA hI.2 (vp_nIa hk hL (by decide)) dL_law_377 ?_
  refine x_callVl (k := 0) hE hK hI hC mf_X5_product mw_253 (by decide) ((e_0 G o) _ _) rfl rfl hl.1 rfl (Nat.le_of_ble_eq_true rfl) ⟨show f1 + 1 ≤ 12 by omega, show 8 + (8 + 11) + lo1 ≤ 440 by omega⟩ hc dL_law_378 (fun H locs hI => ?_)
  refine lv_aload_n hx hb dL_law_381 rfl (lv_at hl 3 rfl) ?_
  refine lv_aload_n hx hb dL_law_382 rfl (lv_at hl 1 rfl) ?_
  refine lv_iload_n hx hb dL_law_383 rfl (lv_at hl 0 rfl) ?_
  refine lv_iconst (v := nI 1) hx hb dL_law_384 (by decide) ?_
  refine lv_iadd hx hb dL_law_385 ?_
  refine va_sld hx hb hX hbl hA hI.2 (vp_nIa hk hL (by decide)) dL_law_386 ?_
  refine lv_aload_n hx hb dL_law_387 rfl (lv_at hl 1 rfl) ?_
  refine lv_iload_n hx hb dL_law_388 rfl (lv_at hl 0 rfl) ?_
  refine lv_iconst (v := nI 2) hx hb dL_law_389 (by decide) ?_
  refine lv_iadd hx hb dL_law_390 ?_
  refine va_sld hx hb hX hbl hA hI.2 (vp_nIa hk hL (by decide)) dL_law_391 ?_
  refine x_callVl (k := 285) hE hK hI hM mf_X6_product mw_559 (by decide) ((e_285 G o) _ _) rfl rfl hl.1 rfl (Nat.le_of_ble_eq_true rfl) ⟨show f2 + 1 ≤ 12 by omega, show 8 + (7 + 11) + lo2 ≤ 440 by omega⟩ hc dL_law_392 (fun H locs hI => ?_)
  refine W.lcmp hx hb dL_law_395 ?_
  exact lv_if_eq (tgt := 908) hx hb dL_law_396 (by decide) (fun _ => kk _ _ _ _ hI hR2) (fun q => absurd (lcmp_eq r) q)
theorem law_7 (hE : gE p m c cL_law 4 s #[Value.ref b] RL) (hK : KK G s) (hL : L ≤ 3072) (hX : va_X b L xs s s.heap) (hbl : b < s.heap.size) (ho : s.heap.size ≤ o) {cells slots k : Nat} {X : SX} {Y : SY} {H : Heap} {locs : List Loc} {ls : Array Slot} {Q : State → Prop} (hc : cells ≤ room_1.cells ∧ slots ≤ room_1.slots) (hk : 6 * k + 6 ≤ L) (hR : R2 X k) (hI : In G o X Y s.heap H locs) (hl : lv_has ls 4 [(3, .int (nI (6 * k))), (0, .ref b), (1, .ref (o + 0)), (2, .ref (o + 285))])
    (kk : ∀ (X1 : SX) (Y1 : SY) (H1 : Heap) (locs1 : List Loc), In G o X1 Y1 s.heap H1 locs1 → R2 X1 (k + 1) → W p l e room_1 s m #[Value.ref b] below meth c H1 locs1 cells slots Q (F0 m 908 ls [])) : W p l e room_1 s m #[Value.ref b] below meth c H locs cells slots Q (F0 m 401 ls []) := by
  have hx := hE.1
  have hb := hE.2.1
  have hA : ¬ rg o b := fun q => absurd q.1 (by omega)
  obtain ⟨f1, lo1, f2, lo2, r, X1, Y1, X2, Y2, ⟨⟨u1, u2⟩, u3, u4⟩, hC, hM, hR2⟩ := P_circulatingLoad l G o X Y k (xs (nI (6 * k) + nI 1).toNatClampNeg) hR
  refine lv_aload_n hx hb dL_law_401 rfl (lv_at hl 2 rfl) ?_
  refine lv_aload_n hx hb dL_law_402 rfl (lv_at hl 1 rfl) ?_
  refine lv_iload_n hx hb dL_law_403 rfl (lv_at hl 0 rfl) ?_
  refine lv_iconst (v := nI 1) hx hb dL_law_404 (by decide) ?_
  refine lv_iadd hx hb dL_law_405 ?_
  refine va_sld hx hb hX hbl hA hI.2 (vp_nIa hk hL (by decide)) dL_law_406 ?_
  refine x_callVl (k := 0) hE hK hI hC mf_X5_circulatingLoad mw_259 (by decide) ((e_0 G o) _ _) rfl rfl hl.1 rfl (Nat.le_of_ble_eq_true rfl) ⟨show f1 + 1 ≤ 12 by omega, show 8 + (4 + 11) + lo1 ≤ 440 by omega⟩ hc dL_law_407 (fun H locs hI => ?_)
  refine lv_aload_n hx hb dL_law_410 rfl (lv_at hl 3 rfl) ?_
  refine lv_aload_n hx hb dL_law_411 rfl (lv_at hl 1 rfl) ?_
  refine lv_iload_n hx hb dL_law_412 rfl (lv_at hl 0 rfl) ?_
  refine lv_iconst (v := nI 1) hx hb dL_law_413 (by decide) ?_
  refine lv_iadd hx hb dL_law_414 ?_
  refine va_sld hx hb hX hbl hA hI.2 (vp_nIa hk hL (by decide)) dL_law_415 ?_
  refine x_callVl (k := 285) hE hK hI hM mf_X6_circulatingLoad mw_563 (by decide) ((e_285 G o) _ _) rfl rfl hl.1 rfl (Nat.le_of_ble_eq_true rfl) ⟨show f2 + 1 ≤ 12 by omega, show 8 + (8 + 11) + lo2 ≤ 440 by omega⟩ hc dL_law_416 (fun H locs hI => ?_)
  refine W.lcmp hx hb dL_law_419 ?_
  exact lv_if_eq (tgt := 908) hx hb dL_law_420 (by decide) (fun _ => kk _ _ _ _ hI hR2) (fun q => absurd (lcmp_eq r) q)
theorem law_8 (hE : gE p m c cL_law 4 s #[Value.ref b] RL) (hK : KK G s) (hL : L ≤ 3072) (hX : va_X b L xs s s.heap) (hbl : b < s.heap.size) (ho : s.heap.size ≤ o) {cells slots k : Nat} {X : SX} {Y : SY} {H : Heap} {locs : List Loc} {ls : Array Slot} {Q : State → Prop} (hc : cells ≤ room_1.cells ∧ slots ≤ room_1.slots) (hk : 6 * k + 6 ≤ L) (hR : R2 X k) (hI : In G o X Y s.heap H locs) (hl : lv_has ls 4 [(3, .int (nI (6 * k))), (0, .ref b), (1, .ref (o + 0)), (2, .ref (o + 285))])
    (kk : ∀ (X1 : SX) (Y1 : SY) (H1 : Heap) (locs1 : List Loc), In G o X1 Y1 s.heap H1 locs1 → R2 X1 (k + 1) → W p l e room_1 s m #[Value.ref b] below meth c H1 locs1 cells slots Q (F0 m 908 ls [])) : W p l e room_1 s m #[Value.ref b] below meth c H locs cells slots Q (F0 m 425 ls []) := by
  have hx := hE.1
  have hb := hE.2.1
  have hA : ¬ rg o b := fun q => absurd q.1 (by omega)
  obtain ⟨f1, lo1, f2, lo2, r, X1, Y1, X2, Y2, ⟨⟨u1, u2⟩, u3, u4⟩, hC, hM, hR2⟩ := P_power l G o X Y k (xs (nI (6 * k) + nI 1).toNatClampNeg) hR
  refine lv_aload_n hx hb dL_law_425 rfl (lv_at hl 2 rfl) ?_
  refine lv_aload_n hx hb dL_law_426 rfl (lv_at hl 1 rfl) ?_
  refine lv_iload_n hx hb dL_law_427 rfl (lv_at hl 0 rfl) ?_
  refine lv_iconst (v := nI 1) hx hb dL_law_428 (by decide) ?_
  refine lv_iadd hx hb dL_law_429 ?_
  refine va_sld hx hb hX hbl hA hI.2 (vp_nIa hk hL (by decide)) dL_law_430 ?_
  refine x_callVl (k := 0) hE hK hI hC mf_X5_power mw_271 (by decide) ((e_0 G o) _ _) rfl rfl hl.1 rfl (Nat.le_of_ble_eq_true rfl) ⟨show f1 + 1 ≤ 12 by omega, show 8 + (2 + 11) + lo1 ≤ 440 by omega⟩ hc dL_law_431 (fun H locs hI => ?_)
  refine lv_aload_n hx hb dL_law_434 rfl (lv_at hl 3 rfl) ?_
  refine lv_aload_n hx hb dL_law_435 rfl (lv_at hl 1 rfl) ?_
  refine lv_iload_n hx hb dL_law_436 rfl (lv_at hl 0 rfl) ?_
  refine lv_iconst (v := nI 1) hx hb dL_law_437 (by decide) ?_
  refine lv_iadd hx hb dL_law_438 ?_
  refine va_sld hx hb hX hbl hA hI.2 (vp_nIa hk hL (by decide)) dL_law_439 ?_
  refine x_callVl (k := 285) hE hK hI hM mf_X6_power mw_568 (by decide) ((e_285 G o) _ _) rfl rfl hl.1 rfl (Nat.le_of_ble_eq_true rfl) ⟨show f2 + 1 ≤ 12 by omega, show 8 + (3 + 11) + lo2 ≤ 440 by omega⟩ hc dL_law_440 (fun H locs hI => ?_)
  refine W.lcmp hx hb dL_law_443 ?_
  exact lv_if_eq (tgt := 908) hx hb dL_law_444 (by decide) (fun _ => kk _ _ _ _ hI hR2) (fun q => absurd (lcmp_eq r) q)
theorem law_9 (hE : gE p m c cL_law 4 s #[Value.ref b] RL) (hK : KK G s) (hL : L ≤ 3072) (hX : va_X b L xs s s.heap) (hbl : b < s.heap.size) (ho : s.heap.size ≤ o) {cells slots k : Nat} {X : SX} {Y : SY} {H : Heap} {locs : List Loc} {ls : Array Slot} {Q : State → Prop} (hc : cells ≤ room_1.cells ∧ slots ≤ room_1.slots) (hk : 6 * k + 6 ≤ L) (hR : R2 X k) (hI : In G o X Y s.heap H locs) (hl : lv_has ls 4 [(3, .int (nI (6 * k))), (0, .ref b), (1, .ref (o + 0)), (2, .ref (o + 285))])
    (kk : ∀ (X1 : SX) (Y1 : SY) (H1 : Heap) (locs1 : List Loc), In G o X1 Y1 s.heap H1 locs1 → R2 X1 (k + 1) → W p l e room_1 s m #[Value.ref b] below meth c H1 locs1 cells slots Q (F0 m 908 ls [])) : W p l e room_1 s m #[Value.ref b] below meth c H locs cells slots Q (F0 m 449 ls []) := by
  have hx := hE.1
  have hb := hE.2.1
  have hA : ¬ rg o b := fun q => absurd q.1 (by omega)
  obtain ⟨f1, lo1, f2, lo2, r, X1, Y1, X2, Y2, ⟨⟨u1, u2⟩, u3, u4⟩, hC, hM, hR2⟩ := P_cutPower l G o X Y k (xs (nI (6 * k) + nI 1).toNatClampNeg) (xs (nI (6 * k) + nI 2).toNatClampNeg) hR
  refine lv_aload_n hx hb dL_law_449 rfl (lv_at hl 2 rfl) ?_
  refine lv_aload_n hx hb dL_law_450 rfl (lv_at hl 1 rfl) ?_
  refine lv_iload_n hx hb dL_law_451 rfl (lv_at hl 0 rfl) ?_
  refine lv_iconst (v := nI 1) hx hb dL_law_452 (by decide) ?_
  refine lv_iadd hx hb dL_law_453 ?_
  refine va_sld hx hb hX hbl hA hI.2 (vp_nIa hk hL (by decide)) dL_law_454 ?_
  refine lv_aload_n hx hb dL_law_455 rfl (lv_at hl 1 rfl) ?_
  refine lv_iload_n hx hb dL_law_456 rfl (lv_at hl 0 rfl) ?_
  refine lv_iconst (v := nI 2) hx hb dL_law_457 (by decide) ?_
  refine lv_iadd hx hb dL_law_458 ?_
  refine va_sld hx hb hX hbl hA hI.2 (vp_nIa hk hL (by decide)) dL_law_459 ?_
  refine x_callVl (k := 0) hE hK hI hC mf_X5_cutPower mw_279 (by decide) ((e_0 G o) _ _) rfl rfl hl.1 rfl (Nat.le_of_ble_eq_true rfl) ⟨show f1 + 1 ≤ 12 by omega, show 8 + (3 + 11) + lo1 ≤ 440 by omega⟩ hc dL_law_460 (fun H locs hI => ?_)
  refine lv_aload_n hx hb dL_law_463 rfl (lv_at hl 3 rfl) ?_
  refine lv_aload_n hx hb dL_law_464 rfl (lv_at hl 1 rfl) ?_
  refine lv_iload_n hx hb dL_law_465 rfl (lv_at hl 0 rfl) ?_
  refine lv_iconst (v := nI 1) hx hb dL_law_466 (by decide) ?_
  refine lv_iadd hx hb dL_law_467 ?_
  refine va_sld hx hb hX hbl hA hI.2 (vp_nIa hk hL (by decide)) dL_law_468 ?_
  refine lv_aload_n hx hb dL_law_469 rfl (lv_at hl 1 rfl) ?_
  refine lv_iload_n hx hb dL_law_470 rfl (lv_at hl 0 rfl) ?_
  refine lv_iconst (v := nI 2) hx hb dL_law_471 (by decide) ?_
  refine lv_iadd hx hb dL_law_472 ?_
  refine va_sld hx hb hX hbl hA hI.2 (vp_nIa hk hL (by decide)) dL_law_473 ?_
  refine x_callVl (k := 285) hE hK hI hM mf_X6_cutPower mw_576 (by decide) ((e_285 G o) _ _) rfl rfl hl.1 rfl (Nat.le_of_ble_eq_true rfl) ⟨show f2 + 1 ≤ 12 by omega, show 8 + (3 + 11) + lo2 ≤ 440 by omega⟩ hc dL_law_474 (fun H locs hI => ?_)
  refine W.lcmp hx hb dL_law_477 ?_
  exact lv_if_eq (tgt := 908) hx hb dL_law_478 (by decide) (fun _ => kk _ _ _ _ hI hR2) (fun q => absurd (lcmp_eq r) q)
theorem law_10 (hE : gE p m c cL_law 4 s #[Value.ref b] RL) (hK : KK G s) (hL : L ≤ 3072) (hX : va_X b L xs s s.heap) (hbl : b < s.heap.size) (ho : s.heap.size ≤ o) {cells slots k : Nat} {X : SX} {Y : SY} {H : Heap} {locs : List Loc} {ls : Array Slot} {Q : State → Prop} (hc : cells ≤ room_1.cells ∧ slots ≤ room_1.slots) (hk : 6 * k + 6 ≤ L) (hR : R2 X k) (hI : In G o X Y s.heap H locs) (hl : lv_has ls 4 [(3, .int (nI (6 * k))), (0, .ref b), (1, .ref (o + 0)), (2, .ref (o + 285))])
    (kk : ∀ (X1 : SX) (Y1 : SY) (H1 : Heap) (locs1 : List Loc), In G o X1 Y1 s.heap H1 locs1 → R2 X1 (k + 1) → W p l e room_1 s m #[Value.ref b] below meth c H1 locs1 cells slots Q (F0 m 908 ls [])) : W p l e room_1 s m #[Value.ref b] below meth c H locs cells slots Q (F0 m 483 ls []) := by
  have hx := hE.1
  have hb := hE.2.1
  have hA : ¬ rg o b := fun q => absurd q.1 (by omega)
  obtain ⟨f1, lo1, f2, lo2, r, X1, Y1, X2, Y2, ⟨⟨u1, u2⟩, u3, u4⟩, hC, hM, hR2⟩ := P_finestCut l G o X Y k (xs (nI (6 * k) + nI 1).toNatClampNeg) hR
  refine lv_aload_n hx hb dL_law_483 rfl (lv_at hl 2 rfl) ?_
  refine lv_aload_n hx hb dL_law_484 rfl (lv_at hl 1 rfl) ?_
  refine lv_iload_n hx hb dL_law_485 rfl (lv_at hl 0 rfl) ?_
  refine lv_iconst (v := nI 1) hx hb dL_law_486 (by decide) ?_
  refine lv_iadd hx hb dL_law_487 ?_
  refine va_sld hx hb hX hbl hA hI.2 (vp_nIa hk hL (by decide)) dL_law_488 ?_
  refine x_callVi (k := 0) hE hK hI hC mf_X5_finestCut mw_288 (by decide) ((e_0 G o) _ _) rfl rfl hl.1 rfl (Nat.le_of_ble_eq_true rfl) ⟨show f1 + 1 ≤ 12 by omega, show 8 + (3 + 11) + lo1 ≤ 440 by omega⟩ hc dL_law_489 (fun H locs hI => ?_)
  refine lv_aload_n hx hb dL_law_492 rfl (lv_at hl 3 rfl) ?_
  refine lv_aload_n hx hb dL_law_493 rfl (lv_at hl 1 rfl) ?_
  refine lv_iload_n hx hb dL_law_494 rfl (lv_at hl 0 rfl) ?_
  refine lv_iconst (v := nI 1) hx hb dL_law_495 (by decide) ?_
  refine lv_iadd hx hb dL_law_496 ?_
  refine va_sld hx hb hX hbl hA hI.2 (vp_nIa hk hL (by decide)) dL_law_497 ?_
  refine x_callVi (k := 285) hE hK hI hM mf_X6_finestCut mw_586 (by decide) ((e_285 G o) _ _) rfl rfl hl.1 rfl (Nat.le_of_ble_eq_true rfl) ⟨show f2 + 1 ≤ 12 by omega, show 8 + (3 + 11) + lo2 ≤ 440 by omega⟩ hc dL_law_498 (fun H locs hI => ?_)
  exact lv_icmp_eq (tgt := 908) hx hb dL_law_501 (by decide) (fun _ => kk _ _ _ _ hI hR2) (fun q => absurd rfl q)
theorem law_11 (hE : gE p m c cL_law 4 s #[Value.ref b] RL) (hK : KK G s) (hL : L ≤ 3072) (hX : va_X b L xs s s.heap) (hbl : b < s.heap.size) (ho : s.heap.size ≤ o) {cells slots k : Nat} {X : SX} {Y : SY} {H : Heap} {locs : List Loc} {ls : Array Slot} {Q : State → Prop} (hc : cells ≤ room_1.cells ∧ slots ≤ room_1.slots) (hk : 6 * k + 6 ≤ L) (hR : R2 X k) (hI : In G o X Y s.heap H locs) (hl : lv_has ls 4 [(3, .int (nI (6 * k))), (0, .ref b), (1, .ref (o + 0)), (2, .ref (o + 285))])
    (kk : ∀ (X1 : SX) (Y1 : SY) (H1 : Heap) (locs1 : List Loc), In G o X1 Y1 s.heap H1 locs1 → R2 X1 (k + 1) → W p l e room_1 s m #[Value.ref b] below meth c H1 locs1 cells slots Q (F0 m 908 ls [])) : W p l e room_1 s m #[Value.ref b] below meth c H locs cells slots Q (F0 m 506 ls []) := by
  have hx := hE.1
  have hb := hE.2.1
  have hA : ¬ rg o b := fun q => absurd q.1 (by omega)
  obtain ⟨f1, lo1, f2, lo2, r, X1, Y1, X2, Y2, ⟨⟨u1, u2⟩, u3, u4⟩, hC, hM, hR2⟩ := P_addLot l G o X Y k (xs (nI (6 * k) + nI 1).toNatClampNeg) (xs (nI (6 * k) + nI 2).toNatClampNeg) (xs (nI (6 * k) + nI 3).toNatClampNeg) (xs (nI (6 * k) + nI 4).toNatClampNeg) hR (by omega)
  refine lv_aload_n hx hb dL_law_506 rfl (lv_at hl 2 rfl) ?_
  refine lv_aload_n hx hb dL_law_507 rfl (lv_at hl 1 rfl) ?_
  refine lv_iload_n hx hb dL_law_508 rfl (lv_at hl 0 rfl) ?_
  refine lv_iconst (v := nI 1) hx hb dL_law_509 (by decide) ?_
  refine lv_iadd hx hb dL_law_510 ?_
  refine va_sld hx hb hX hbl hA hI.2 (vp_nIa hk hL (by decide)) dL_law_511 ?_
  refine lv_aload_n hx hb dL_law_512 rfl (lv_at hl 1 rfl) ?_
  refine lv_iload_n hx hb dL_law_513 rfl (lv_at hl 0 rfl) ?_
  refine lv_iconst (v := nI 2) hx hb dL_law_514 (by decide) ?_
  refine lv_iadd hx hb dL_law_515 ?_
  refine va_sld hx hb hX hbl hA hI.2 (vp_nIa hk hL (by decide)) dL_law_516 ?_
  refine lv_aload_n hx hb dL_law_517 rfl (lv_at hl 1 rfl) ?_
  refine lv_iload_n hx hb dL_law_518 rfl (lv_at hl 0 rfl) ?_
  refine lv_iconst (v := nI 3) hx hb dL_law_519 (by decide) ?_
  refine lv_iadd hx hb dL_law_520 ?_
  refine va_sld hx hb hX hbl hA hI.2 (vp_nIa hk hL (by decide)) dL_law_521 ?_
  refine lv_aload_n hx hb dL_law_522 rfl (lv_at hl 1 rfl) ?_
  refine lv_iload_n hx hb dL_law_523 rfl (lv_at hl 0 rfl) ?_
  refine lv_iconst (v := nI 4) hx hb dL_law_524 (by decide) ?_
  refine lv_iadd hx hb dL_law_525 ?_
  refine va_sld hx hb hX hbl hA hI.2 (vp_nIa hk hL (by decide)) dL_law_526 ?_
  refine x_callVi (k := 0) hE hK hI hC mf_X5_addLot mw_293 (by decide) ((e_0 G o) _ _) rfl rfl hl.1 rfl (Nat.le_of_ble_eq_true rfl) ⟨show f1 + 1 ≤ 12 by omega, show 8 + (7 + 11) + lo1 ≤ 440 by omega⟩ hc dL_law_527 (fun H locs hI => ?_)
  refine lv_aload_n hx hb dL_law_530 rfl (lv_at hl 3 rfl) ?_
  refine lv_aload_n hx hb dL_law_531 rfl (lv_at hl 1 rfl) ?_
  refine lv_iload_n hx hb dL_law_532 rfl (lv_at hl 0 rfl) ?_
  refine lv_iconst (v := nI 1) hx hb dL_law_533 (by decide) ?_
  refine lv_iadd hx hb dL_law_534 ?_
  refine va_sld hx hb hX hbl hA hI.2 (vp_nIa hk hL (by decide)) dL_law_535 ?_
  refine lv_aload_n hx hb dL_law_536 rfl (lv_at hl 1 rfl) ?_
  refine lv_iload_n hx hb dL_law_537 rfl (lv_at hl 0 rfl) ?_
  refine lv_iconst (v := nI 2) hx hb dL_law_538 (by decide) ?_
  refine lv_iadd hx hb dL_law_539 ?_
  refine va_sld hx hb hX hbl hA hI.2 (vp_nIa hk hL (by decide)) dL_law_540 ?_
  refine lv_aload_n hx hb dL_law_541 rfl (lv_at hl 1 rfl) ?_
  refine lv_iload_n hx hb dL_law_542 rfl (lv_at hl 0 rfl) ?_
  refine lv_iconst (v := nI 3) hx hb dL_law_543 (by decide) ?_
  refine lv_iadd hx hb dL_law_544 ?_
  refine va_sld hx hb hX hbl hA hI.2 (vp_nIa hk hL (by decide)) dL_law_545 ?_
  refine lv_aload_n hx hb dL_law_546 rfl (lv_at hl 1 rfl) ?_
  refine lv_iload_n hx hb dL_law_547 rfl (lv_at hl 0 rfl) ?_
  refine lv_iconst (v := nI 4) hx hb dL_law_548 (by decide) ?_
  refine lv_iadd hx hb dL_law_549 ?_
  refine va_sld hx hb hX hbl hA hI.2 (vp_nIa hk hL (by decide)) dL_law_550 ?_
  refine x_callVi (k := 285) hE hK hI hM mf_X6_addLot mw_591 (by decide) ((e_285 G o) _ _) rfl rfl hl.1 rfl (Nat.le_of_ble_eq_true rfl) ⟨show f2 + 1 ≤ 12 by omega, show 8 + (6 + 11) + lo2 ≤ 440 by omega⟩ hc dL_law_551 (fun H locs hI => ?_)
  exact lv_icmp_eq (tgt := 908) hx hb dL_law_554 (by decide) (fun _ => kk _ _ _ _ hI hR2) (fun q => absurd rfl q)
theorem law_12 (hE : gE p m c cL_law 4 s #[Value.ref b] RL) (hK : KK G s) (hL : L ≤ 3072) (hX : va_X b L xs s s.heap) (hbl : b < s.heap.size) (ho : s.heap.size ≤ o) {cells slots k : Nat} {X : SX} {Y : SY} {H : Heap} {locs : List Loc} {ls : Array Slot} {Q : State → Prop} (hc : cells ≤ room_1.cells ∧ slots ≤ room_1.slots) (hk : 6 * k + 6 ≤ L) (hR : R2 X k) (hI : In G o X Y s.heap H locs) (hl : lv_has ls 4 [(3, .int (nI (6 * k))), (0, .ref b), (1, .ref (o + 0)), (2, .ref (o + 285))])
    (kk : ∀ (X1 : SX) (Y1 : SY) (H1 : Heap) (locs1 : List Loc), In G o X1 Y1 s.heap H1 locs1 → R2 X1 (k + 1) → W p l e room_1 s m #[Value.ref b] below meth c H1 locs1 cells slots Q (F0 m 908 ls [])) : W p l e room_1 s m #[Value.ref b] below meth c H locs cells slots Q (F0 m 559 ls []) := by
  have hx := hE.1
  have hb := hE.2.1
  have hA : ¬ rg o b := fun q => absurd q.1 (by omega)
  obtain ⟨f1, lo1, f2, lo2, r, X1, Y1, X2, Y2, ⟨⟨u1, u2⟩, u3, u4⟩, hC, hM, hR2⟩ := P_planLot l G o X Y k (xs (nI (6 * k) + nI 1).toNatClampNeg) (xs (nI (6 * k) + nI 2).toNatClampNeg) (xs (nI (6 * k) + nI 3).toNatClampNeg) (xs (nI (6 * k) + nI 4).toNatClampNeg) (xs (nI (6 * k) + nI 5).toNatClampNeg) hR (by omega)
  refine lv_aload_n hx hb dL_law_559 rfl (lv_at hl 2 rfl) ?_
  refine lv_aload_n hx hb dL_law_560 rfl (lv_at hl 1 rfl) ?_
  refine lv_iload_n hx hb dL_law_561 rfl (lv_at hl 0 rfl) ?_
  refine lv_iconst (v := nI 1) hx hb dL_law_562 (by decide) ?_
  refine lv_iadd hx hb dL_law_563 ?_
  refine va_sld hx hb hX hbl hA hI.2 (vp_nIa hk hL (by decide)) dL_law_564 ?_
  refine lv_aload_n hx hb dL_law_565 rfl (lv_at hl 1 rfl) ?_
  refine lv_iload_n hx hb dL_law_566 rfl (lv_at hl 0 rfl) ?_
  refine lv_iconst (v := nI 2) hx hb dL_law_567 (by decide) ?_
  refine lv_iadd hx hb dL_law_568 ?_
  refine va_sld hx hb hX hbl hA hI.2 (vp_nIa hk hL (by decide)) dL_law_569 ?_
  refine lv_aload_n hx hb dL_law_570 rfl (lv_at hl 1 rfl) ?_
  refine lv_iload_n hx hb dL_law_571 rfl (lv_at hl 0 rfl) ?_
  refine lv_iconst (v := nI 3) hx hb dL_law_572 (by decide) ?_
  refine lv_iadd hx hb dL_law_573 ?_
  refine va_sld hx hb hX hbl hA hI.2 (vp_nIa hk hL (by decide)) dL_law_574 ?_
  refine lv_aload_n hx hb dL_law_575 rfl (lv_at hl 1 rfl) ?_
  refine lv_iload_n hx hb dL_law_576 rfl (lv_at hl 0 rfl) ?_
  refine lv_iconst (v := nI 4) hx hb dL_law_577 (by decide) ?_
  refine lv_iadd hx hb dL_law_578 ?_
  refine va_sld hx hb hX hbl hA hI.2 (vp_nIa hk hL (by decide)) dL_law_579 ?_
  refine lv_aload_n hx hb dL_law_580 rfl (lv_at hl 1 rfl) ?_
  refine lv_iload_n hx hb dL_law_581 rfl (lv_at hl 0 rfl) ?_
  refine lv_iconst (v := nI 5) hx hb dL_law_582 (by decide) ?_
  refine lv_iadd hx hb dL_law_583 ?_
  refine va_sld hx hb hX hbl hA hI.2 (vp_nIa hk hL (by decide)) dL_law_584 ?_
  refine x_callVi (k := 0) hE hK hI hC mf_X5_planLot mw_344 (by decide) ((e_0 G o) _ _) rfl rfl hl.1 rfl (Nat.le_of_ble_eq_true rfl) ⟨show f1 + 1 ≤ 12 by omega, show 8 + (8 + 11) + lo1 ≤ 440 by omega⟩ hc dL_law_585 (fun H locs hI => ?_)
  refine lv_aload_n hx hb dL_law_588 rfl (lv_at hl 3 rfl) ?_
  refine lv_aload_n hx hb dL_law_589 rfl (lv_at hl 1 rfl) ?_
  refine lv_iload_n hx hb dL_law_590 rfl (lv_at hl 0 rfl) ?_
  refine lv_iconst (v := nI 1) hx hb dL_law_591 (by decide) ?_
  refine lv_iadd hx hb dL_law_592 ?_
  refine va_sld hx hb hX hbl hA hI.2 (vp_nIa hk hL (by decide)) dL_law_593 ?_
  refine lv_aload_n hx hb dL_law_594 rfl (lv_at hl 1 rfl) ?_
  refine lv_iload_n hx hb dL_law_595 rfl (lv_at hl 0 rfl) ?_
  refine lv_iconst (v := nI 2) hx hb dL_law_596 (by decide) ?_
  refine lv_iadd hx hb dL_law_597 ?_
  refine va_sld hx hb hX hbl hA hI.2 (vp_nIa hk hL (by decide)) dL_law_598 ?_
  refine lv_aload_n hx hb dL_law_599 rfl (lv_at hl 1 rfl) ?_
  refine lv_iload_n hx hb dL_law_600 rfl (lv_at hl 0 rfl) ?_
  refine lv_iconst (v := nI 3) hx hb dL_law_601 (by decide) ?_
  refine lv_iadd hx hb dL_law_602 ?_
  refine va_sld hx hb hX hbl hA hI.2 (vp_nIa hk hL (by decide)) dL_law_603 ?_
  refine lv_aload_n hx hb dL_law_604 rfl (lv_at hl 1 rfl) ?_
  refine lv_iload_n hx hb dL_law_605 rfl (lv_at hl 0 rfl) ?_
  refine lv_iconst (v := nI 4) hx hb dL_law_606 (by decide) ?_
  refine lv_iadd hx hb dL_law_607 ?_
  refine va_sld hx hb hX hbl hA hI.2 (vp_nIa hk hL (by decide)) dL_law_608 ?_
  refine lv_aload_n hx hb dL_law_609 rfl (lv_at hl 1 rfl) ?_
  refine lv_iload_n hx hb dL_law_610 rfl (lv_at hl 0 rfl) ?_
  refine lv_iconst (v := nI 5) hx hb dL_law_611 (by decide) ?_
  refine lv_iadd hx hb dL_law_612 ?_
  refine va_sld hx hb hX hbl hA hI.2 (vp_nIa hk hL (by decide)) dL_law_613 ?_
  refine x_callVi (k := 285) hE hK hI hM mf_X6_planLot mw_640 (by decide) ((e_285 G o) _ _) rfl rfl hl.1 rfl (Nat.le_of_ble_eq_true rfl) ⟨show f2 + 1 ≤ 12 by omega, show 8 + (7 + 11) + lo2 ≤ 440 by omega⟩ hc dL_law_614 (fun H locs hI => ?_)
  exact lv_icmp_eq (tgt := 908) hx hb dL_law_617 (by decide) (fun _ => kk _ _ _ _ hI hR2) (fun q => absurd rfl q)
theorem law_13 (hE : gE p m c cL_law 4 s #[Value.ref b] RL) (hK : KK G s) (hL : L ≤ 3072) (hX : va_X b L xs s s.heap) (hbl : b < s.heap.size) (ho : s.heap.size ≤ o) {cells slots k : Nat} {X : SX} {Y : SY} {H : Heap} {locs : List Loc} {ls : Array Slot} {Q : State → Prop} (hc : cells ≤ room_1.cells ∧ slots ≤ room_1.slots) (hk : 6 * k + 6 ≤ L) (hR : R2 X k) (hI : In G o X Y s.heap H locs) (hl : lv_has ls 4 [(3, .int (nI (6 * k))), (0, .ref b), (1, .ref (o + 0)), (2, .ref (o + 285))])
    (kk : ∀ (X1 : SX) (Y1 : SY) (H1 : Heap) (locs1 : List Loc), In G o X1 Y1 s.heap H1 locs1 → R2 X1 (k + 1) → W p l e room_1 s m #[Value.ref b] below meth c H1 locs1 cells slots Q (F0 m 908 ls [])) : W p l e room_1 s m #[Value.ref b] below meth c H locs cells slots Q (F0 m 622 ls []) := by
  have hx := hE.1
  have hb := hE.2.1
  have hA : ¬ rg o b := fun q => absurd q.1 (by omega)
  obtain ⟨f1, lo1, f2, lo2, r, X1, Y1, X2, Y2, ⟨⟨u1, u2⟩, u3, u4⟩, hC, hM, hR2⟩ := P_advance l G o X Y k (xs (nI (6 * k) + nI 1).toNatClampNeg) hR (by omega)
  refine lv_aload_n hx hb dL_law_622 rfl (lv_at hl 2 rfl) ?_
  refine lv_aload_n hx hb dL_law_623 rfl (lv_at hl 1 rfl) ?_
  refine lv_iload_n hx hb dL_law_624 rfl (lv_at hl 0 rfl) ?_
  refine lv_iconst (v := nI 1) hx hb dL_law_625 (by decide) ?_
  refine lv_iadd hx hb dL_law_626 ?_
  refine va_sld hx hb hX hbl hA hI.2 (vp_nIa hk hL (by decide)) dL_law_627 ?_
  refine x_callVi (k := 0) hE hK hI hC mf_X5_advance mw_352 (by decide) ((e_0 G o) _ _) rfl rfl hl.1 rfl (Nat.le_of_ble_eq_true rfl) ⟨show f1 + 1 ≤ 12 by omega, show 8 + (2 + 11) + lo1 ≤ 440 by omega⟩ hc dL_law_628 (fun H locs hI => ?_)
  refine lv_aload_n hx hb dL_law_631 rfl (lv_at hl 3 rfl) ?_
  refine lv_aload_n hx hb dL_law_632 rfl (lv_at hl 1 rfl) ?_
  refine lv_iload_n hx hb dL_law_633 rfl (lv_at hl 0 rfl) ?_
  refine lv_iconst (v := nI 1) hx hb dL_law_634 (by decide) ?_
  refine lv_iadd hx hb dL_law_635 ?_
  refine va_sld hx hb hX hbl hA hI.2 (vp_nIa hk hL (by decide)) dL_law_636 ?_
  refine x_callVi (k := 285) hE hK hI hM mf_X6_advance mw_644 (by decide) ((e_285 G o) _ _) rfl rfl hl.1 rfl (Nat.le_of_ble_eq_true rfl) ⟨show f2 + 1 ≤ 12 by omega, show 8 + (3 + 11) + lo2 ≤ 440 by omega⟩ hc dL_law_637 (fun H locs hI => ?_)
  exact lv_icmp_eq (tgt := 908) hx hb dL_law_640 (by decide) (fun _ => kk _ _ _ _ hI hR2) (fun q => absurd rfl q)
theorem law_14 (hE : gE p m c cL_law 4 s #[Value.ref b] RL) (hK : KK G s) (hL : L ≤ 3072) (hX : va_X b L xs s s.heap) (hbl : b < s.heap.size) (ho : s.heap.size ≤ o) {cells slots k : Nat} {X : SX} {Y : SY} {H : Heap} {locs : List Loc} {ls : Array Slot} {Q : State → Prop} (hc : cells ≤ room_1.cells ∧ slots ≤ room_1.slots) (hk : 6 * k + 6 ≤ L) (hR : R2 X k) (hI : In G o X Y s.heap H locs) (hl : lv_has ls 4 [(3, .int (nI (6 * k))), (0, .ref b), (1, .ref (o + 0)), (2, .ref (o + 285))])
    (kk : ∀ (X1 : SX) (Y1 : SY) (H1 : Heap) (locs1 : List Loc), In G o X1 Y1 s.heap H1 locs1 → R2 X1 (k + 1) → W p l e room_1 s m #[Value.ref b] below meth c H1 locs1 cells slots Q (F0 m 908 ls [])) : W p l e room_1 s m #[Value.ref b] below meth c H locs cells slots Q (F0 m 645 ls []) := by
  have hx := hE.1
  have hb := hE.2.1
  have hA : ¬ rg o b := fun q => absurd q.1 (by omega)
  obtain ⟨f1, lo1, f2, lo2, r, X1, Y1, X2, Y2, ⟨⟨u1, u2⟩, u3, u4⟩, hC, hM, hR2⟩ := P_setRate l G o X Y k (xs (nI (6 * k) + nI 1).toNatClampNeg) hR
  refine lv_aload_n hx hb dL_law_645 rfl (lv_at hl 2 rfl) ?_
  refine lv_aload_n hx hb dL_law_646 rfl (lv_at hl 1 rfl) ?_
  refine lv_iload_n hx hb dL_law_647 rfl (lv_at hl 0 rfl) ?_
  refine lv_iconst (v := nI 1) hx hb dL_law_648 (by decide) ?_
  refine lv_iadd hx hb dL_law_649 ?_
  refine va_sld hx hb hX hbl hA hI.2 (vp_nIa hk hL (by decide)) dL_law_650 ?_
  refine x_callVi (k := 0) hE hK hI hC mf_X5_setRate mw_390 (by decide) ((e_0 G o) _ _) rfl rfl hl.1 rfl (Nat.le_of_ble_eq_true rfl) ⟨show f1 + 1 ≤ 12 by omega, show 8 + (3 + 11) + lo1 ≤ 440 by omega⟩ hc dL_law_651 (fun H locs hI => ?_)
  refine lv_aload_n hx hb dL_law_654 rfl (lv_at hl 3 rfl) ?_
  refine lv_aload_n hx hb dL_law_655 rfl (lv_at hl 1 rfl) ?_
  refine lv_iload_n hx hb dL_law_656 rfl (lv_at hl 0 rfl) ?_
  refine lv_iconst (v := nI 1) hx hb dL_law_657 (by decide) ?_
  refine lv_iadd hx hb dL_law_658 ?_
  refine va_sld hx hb hX hbl hA hI.2 (vp_nIa hk hL (by decide)) dL_law_659 ?_
  refine x_callVi (k := 285) hE hK hI hM mf_X6_setRate mw_656 (by decide) ((e_285 G o) _ _) rfl rfl hl.1 rfl (Nat.le_of_ble_eq_true rfl) ⟨show f2 + 1 ≤ 12 by omega, show 8 + (2 + 11) + lo2 ≤ 440 by omega⟩ hc dL_law_660 (fun H locs hI => ?_)
  exact lv_icmp_eq (tgt := 908) hx hb dL_law_663 (by decide) (fun _ => kk _ _ _ _ hI hR2) (fun q => absurd rfl q)
theorem law_15 (hE : gE p m c cL_law 4 s #[Value.ref b] RL) (hK : KK G s) (hL : L ≤ 3072) (hX : va_X b L xs s s.heap) (hbl : b < s.heap.size) (ho : s.heap.size ≤ o) {cells slots k : Nat} {X : SX} {Y : SY} {H : Heap} {locs : List Loc} {ls : Array Slot} {Q : State → Prop} (hc : cells ≤ room_1.cells ∧ slots ≤ room_1.slots) (hk : 6 * k + 6 ≤ L) (hR : R2 X k) (hI : In G o X Y s.heap H locs) (hl : lv_has ls 4 [(3, .int (nI (6 * k))), (0, .ref b), (1, .ref (o + 0)), (2, .ref (o + 285))])
    (kk : ∀ (X1 : SX) (Y1 : SY) (H1 : Heap) (locs1 : List Loc), In G o X1 Y1 s.heap H1 locs1 → R2 X1 (k + 1) → W p l e room_1 s m #[Value.ref b] below meth c H1 locs1 cells slots Q (F0 m 908 ls [])) : W p l e room_1 s m #[Value.ref b] below meth c H locs cells slots Q (F0 m 668 ls []) := by
  have hx := hE.1
  have hb := hE.2.1
  have hA : ¬ rg o b := fun q => absurd q.1 (by omega)
  obtain ⟨f1, lo1, f2, lo2, r, X1, Y1, X2, Y2, ⟨⟨u1, u2⟩, u3, u4⟩, hC, hM, hR2⟩ := P_setRule l G o X Y k (xs (nI (6 * k) + nI 1).toNatClampNeg) hR
  refine lv_aload_n hx hb dL_law_668 rfl (lv_at hl 2 rfl) ?_
  refine lv_aload_n hx hb dL_law_669 rfl (lv_at hl 1 rfl) ?_
  refine lv_iload_n hx hb dL_law_670 rfl (lv_at hl 0 rfl) ?_
  refine lv_iconst (v := nI 1) hx hb dL_law_671 (by decide) ?_
  refine lv_iadd hx hb dL_law_672 ?_
  refine va_sld hx hb hX hbl hA hI.2 (vp_nIa hk hL (by decide)) dL_law_673 ?_
  refine x_callVi (k := 0) hE hK hI hC mf_X5_setRule mw_394 (by decide) ((e_0 G o) _ _) rfl rfl hl.1 rfl (Nat.le_of_ble_eq_true rfl) ⟨show f1 + 1 ≤ 12 by omega, show 8 + (3 + 11) + lo1 ≤ 440 by omega⟩ hc dL_law_674 (fun H locs hI => ?_)
  refine lv_aload_n hx hb dL_law_677 rfl (lv_at hl 3 rfl) ?_
  refine lv_aload_n hx hb dL_law_678 rfl (lv_at hl 1 rfl) ?_
  refine lv_iload_n hx hb dL_law_679 rfl (lv_at hl 0 rfl) ?_
  refine lv_iconst (v := nI 1) hx hb dL_law_680 (by decide) ?_
  refine lv_iadd hx hb dL_law_681 ?_
  refine va_sld hx hb hX hbl hA hI.2 (vp_nIa hk hL (by decide)) dL_law_682 ?_
  refine x_callVi (k := 285) hE hK hI hM mf_X6_setRule mw_660 (by decide) ((e_285 G o) _ _) rfl rfl hl.1 rfl (Nat.le_of_ble_eq_true rfl) ⟨show f2 + 1 ≤ 12 by omega, show 8 + (2 + 11) + lo2 ≤ 440 by omega⟩ hc dL_law_683 (fun H locs hI => ?_)
  exact lv_icmp_eq (tgt := 908) hx hb dL_law_686 (by decide) (fun _ => kk _ _ _ _ hI hR2) (fun q => absurd rfl q)
theorem law_16 (hE : gE p m c cL_law 4 s #[Value.ref b] RL) (hK : KK G s) (hL : L ≤ 3072) (hX : va_X b L xs s s.heap) (hbl : b < s.heap.size) (ho : s.heap.size ≤ o) {cells slots k : Nat} {X : SX} {Y : SY} {H : Heap} {locs : List Loc} {ls : Array Slot} {Q : State → Prop} (hc : cells ≤ room_1.cells ∧ slots ≤ room_1.slots) (hk : 6 * k + 6 ≤ L) (hR : R2 X k) (hI : In G o X Y s.heap H locs) (hl : lv_has ls 4 [(3, .int (nI (6 * k))), (0, .ref b), (1, .ref (o + 0)), (2, .ref (o + 285))])
    (kk : ∀ (X1 : SX) (Y1 : SY) (H1 : Heap) (locs1 : List Loc), In G o X1 Y1 s.heap H1 locs1 → R2 X1 (k + 1) → W p l e room_1 s m #[Value.ref b] below meth c H1 locs1 cells slots Q (F0 m 908 ls [])) : W p l e room_1 s m #[Value.ref b] below meth c H locs cells slots Q (F0 m 691 ls []) := by
  have hx := hE.1
  have hb := hE.2.1
  have hA : ¬ rg o b := fun q => absurd q.1 (by omega)
  obtain ⟨f1, lo1, f2, lo2, r, X1, Y1, X2, Y2, ⟨⟨u1, u2⟩, u3, u4⟩, hC, hM, hR2⟩ := P_bin l G o X Y k (xs (nI (6 * k) + nI 1).toNatClampNeg) hR (by omega)
  refine lv_aload_n hx hb dL_law_691 rfl (lv_at hl 2 rfl) ?_
  refine lv_aload_n hx hb dL_law_692 rfl (lv_at hl 1 rfl) ?_
  refine lv_iload_n hx hb dL_law_693 rfl (lv_at hl 0 rfl) ?_
  refine lv_iconst (v := nI 1) hx hb dL_law_694 (by decide) ?_
  refine lv_iadd hx hb dL_law_695 ?_
  refine va_sld hx hb hX hbl hA hI.2 (vp_nIa hk hL (by decide)) dL_law_696 ?_
  refine x_callVi (k := 0) hE hK hI hC mf_X5_bin mw_398 (by decide) ((e_0 G o) _ _) rfl rfl hl.1 rfl (Nat.le_of_ble_eq_true rfl) ⟨show f1 + 1 ≤ 12 by omega, show 8 + (3 + 11) + lo1 ≤ 440 by omega⟩ hc dL_law_697 (fun H locs hI => ?_)
  refine lv_aload_n hx hb dL_law_700 rfl (lv_at hl 3 rfl) ?_
  refine lv_aload_n hx hb dL_law_701 rfl (lv_at hl 1 rfl) ?_
  refine lv_iload_n hx hb dL_law_702 rfl (lv_at hl 0 rfl) ?_
  refine lv_iconst (v := nI 1) hx hb dL_law_703 (by decide) ?_
  refine lv_iadd hx hb dL_law_704 ?_
  refine va_sld hx hb hX hbl hA hI.2 (vp_nIa hk hL (by decide)) dL_law_705 ?_
  refine x_callVi (k := 285) hE hK hI hM mf_X6_bin mw_664 (by decide) ((e_285 G o) _ _) rfl rfl hl.1 rfl (Nat.le_of_ble_eq_true rfl) ⟨show f2 + 1 ≤ 12 by omega, show 8 + (4 + 11) + lo2 ≤ 440 by omega⟩ hc dL_law_706 (fun H locs hI => ?_)
  exact lv_icmp_eq (tgt := 908) hx hb dL_law_709 (by decide) (fun _ => kk _ _ _ _ hI hR2) (fun q => absurd rfl q)
theorem law_17 (hE : gE p m c cL_law 4 s #[Value.ref b] RL) (hK : KK G s) (hL : L ≤ 3072) (hX : va_X b L xs s s.heap) (hbl : b < s.heap.size) (ho : s.heap.size ≤ o) {cells slots k : Nat} {X : SX} {Y : SY} {H : Heap} {locs : List Loc} {ls : Array Slot} {Q : State → Prop} (hc : cells ≤ room_1.cells ∧ slots ≤ room_1.slots) (hk : 6 * k + 6 ≤ L) (hR : R2 X k) (hI : In G o X Y s.heap H locs) (hl : lv_has ls 4 [(3, .int (nI (6 * k))), (0, .ref b), (1, .ref (o + 0)), (2, .ref (o + 285))])
    (kk : ∀ (X1 : SX) (Y1 : SY) (H1 : Heap) (locs1 : List Loc), In G o X1 Y1 s.heap H1 locs1 → R2 X1 (k + 1) → W p l e room_1 s m #[Value.ref b] below meth c H1 locs1 cells slots Q (F0 m 908 ls [])) : W p l e room_1 s m #[Value.ref b] below meth c H locs cells slots Q (F0 m 714 ls []) := by
  have hx := hE.1
  have hb := hE.2.1
  have hA : ¬ rg o b := fun q => absurd q.1 (by omega)
  obtain ⟨f1, lo1, f2, lo2, r, X1, Y1, X2, Y2, ⟨⟨u1, u2⟩, u3, u4⟩, hC, hM, hR2⟩ := P_mill l G o X Y k (xs (nI (6 * k) + nI 1).toNatClampNeg) hR
  refine lv_aload_n hx hb dL_law_714 rfl (lv_at hl 2 rfl) ?_
  refine lv_aload_n hx hb dL_law_715 rfl (lv_at hl 1 rfl) ?_
  refine lv_iload_n hx hb dL_law_716 rfl (lv_at hl 0 rfl) ?_
  refine lv_iconst (v := nI 1) hx hb dL_law_717 (by decide) ?_
  refine lv_iadd hx hb dL_law_718 ?_
  refine va_sld hx hb hX hbl hA hI.2 (vp_nIa hk hL (by decide)) dL_law_719 ?_
  refine x_callVi (k := 0) hE hK hI hC mf_X5_mill mw_414 (by decide) ((e_0 G o) _ _) rfl rfl hl.1 rfl (Nat.le_of_ble_eq_true rfl) ⟨show f1 + 1 ≤ 12 by omega, show 8 + (3 + 11) + lo1 ≤ 440 by omega⟩ hc dL_law_720 (fun H locs hI => ?_)
  refine lv_aload_n hx hb dL_law_723 rfl (lv_at hl 3 rfl) ?_
  refine lv_aload_n hx hb dL_law_724 rfl (lv_at hl 1 rfl) ?_
  refine lv_iload_n hx hb dL_law_725 rfl (lv_at hl 0 rfl) ?_
  refine lv_iconst (v := nI 1) hx hb dL_law_726 (by decide) ?_
  refine lv_iadd hx hb dL_law_727 ?_
  refine va_sld hx hb hX hbl hA hI.2 (vp_nIa hk hL (by decide)) dL_law_728 ?_
  refine x_callVi (k := 285) hE hK hI hM mf_X6_mill mw_668 (by decide) ((e_285 G o) _ _) rfl rfl hl.1 rfl (Nat.le_of_ble_eq_true rfl) ⟨show f2 + 1 ≤ 12 by omega, show 8 + (2 + 11) + lo2 ≤ 440 by omega⟩ hc dL_law_729 (fun H locs hI => ?_)
  exact lv_icmp_eq (tgt := 908) hx hb dL_law_732 (by decide) (fun _ => kk _ _ _ _ hI hR2) (fun q => absurd rfl q)
theorem law_18 (hE : gE p m c cL_law 4 s #[Value.ref b] RL) (hK : KK G s) (hL : L ≤ 3072) (hX : va_X b L xs s s.heap) (hbl : b < s.heap.size) (ho : s.heap.size ≤ o) {cells slots k : Nat} {X : SX} {Y : SY} {H : Heap} {locs : List Loc} {ls : Array Slot} {Q : State → Prop} (hc : cells ≤ room_1.cells ∧ slots ≤ room_1.slots) (hk : 6 * k + 6 ≤ L) (hR : R2 X k) (hI : In G o X Y s.heap H locs) (hl : lv_has ls 4 [(3, .int (nI (6 * k))), (0, .ref b), (1, .ref (o + 0)), (2, .ref (o + 285))])
    (kk : ∀ (X1 : SX) (Y1 : SY) (H1 : Heap) (locs1 : List Loc), In G o X1 Y1 s.heap H1 locs1 → R2 X1 (k + 1) → W p l e room_1 s m #[Value.ref b] below meth c H1 locs1 cells slots Q (F0 m 908 ls [])) : W p l e room_1 s m #[Value.ref b] below meth c H locs cells slots Q (F0 m 737 ls []) := by
  have hx := hE.1
  have hb := hE.2.1
  have hA : ¬ rg o b := fun q => absurd q.1 (by omega)
  obtain ⟨f1, lo1, f2, lo2, r, X1, Y1, X2, Y2, ⟨⟨u1, u2⟩, u3, u4⟩, hC, hM, hR2⟩ := P_state l G o X Y k (xs (nI (6 * k) + nI 1).toNatClampNeg) hR
  refine lv_aload_n hx hb dL_law_737 rfl (lv_at hl 2 rfl) ?_
  refine lv_aload_n hx hb dL_law_738 rfl (lv_at hl 1 rfl) ?_
  refine lv_iload_n hx hb dL_law_739 rfl (lv_at hl 0 rfl) ?_
  refine lv_iconst (v := nI 1) hx hb dL_law_740 (by decide) ?_
  refine lv_iadd hx hb dL_law_741 ?_
  refine va_sld hx hb hX hbl hA hI.2 (vp_nIa hk hL (by decide)) dL_law_742 ?_
  refine x_callVi (k := 0) hE hK hI hC mf_X5_state mw_419 (by decide) ((e_0 G o) _ _) rfl rfl hl.1 rfl (Nat.le_of_ble_eq_true rfl) ⟨show f1 + 1 ≤ 12 by omega, show 8 + (2 + 11) + lo1 ≤ 440 by omega⟩ hc dL_law_743 (fun H locs hI => ?_)
  refine lv_aload_n hx hb dL_law_746 rfl (lv_at hl 3 rfl) ?_
  refine lv_aload_n hx hb dL_law_747 rfl (lv_at hl 1 rfl) ?_
  refine lv_iload_n hx hb dL_law_748 rfl (lv_at hl 0 rfl) ?_
  refine lv_iconst (v := nI 1) hx hb dL_law_749 (by decide) ?_
  refine lv_iadd hx hb dL_law_750 ?_
  refine va_sld hx hb hX hbl hA hI.2 (vp_nIa hk hL (by decide)) dL_law_751 ?_
  refine x_callVi (k := 285) hE hK hI hM mf_X6_state mw_672 (by decide) ((e_285 G o) _ _) rfl rfl hl.1 rfl (Nat.le_of_ble_eq_true rfl) ⟨show f2 + 1 ≤ 12 by omega, show 8 + (2 + 11) + lo2 ≤ 440 by omega⟩ hc dL_law_752 (fun H locs hI => ?_)
  exact lv_icmp_eq (tgt := 908) hx hb dL_law_755 (by decide) (fun _ => kk _ _ _ _ hI hR2) (fun q => absurd rfl q)
theorem law_19 (hE : gE p m c cL_law 4 s #[Value.ref b] RL) (hK : KK G s) (hL : L ≤ 3072) (hX : va_X b L xs s s.heap) (hbl : b < s.heap.size) (ho : s.heap.size ≤ o) {cells slots k : Nat} {X : SX} {Y : SY} {H : Heap} {locs : List Loc} {ls : Array Slot} {Q : State → Prop} (hc : cells ≤ room_1.cells ∧ slots ≤ room_1.slots) (hk : 6 * k + 6 ≤ L) (hR : R2 X k) (hI : In G o X Y s.heap H locs) (hl : lv_has ls 4 [(3, .int (nI (6 * k))), (0, .ref b), (1, .ref (o + 0)), (2, .ref (o + 285))])
    (kk : ∀ (X1 : SX) (Y1 : SY) (H1 : Heap) (locs1 : List Loc), In G o X1 Y1 s.heap H1 locs1 → R2 X1 (k + 1) → W p l e room_1 s m #[Value.ref b] below meth c H1 locs1 cells slots Q (F0 m 908 ls [])) : W p l e room_1 s m #[Value.ref b] below meth c H locs cells slots Q (F0 m 760 ls []) := by
  have hx := hE.1
  have hb := hE.2.1
  have hA : ¬ rg o b := fun q => absurd q.1 (by omega)
  obtain ⟨f1, lo1, f2, lo2, r, X1, Y1, X2, Y2, ⟨⟨u1, u2⟩, u3, u4⟩, hC, hM, hR2⟩ := P_mass l G o X Y k (xs (nI (6 * k) + nI 1).toNatClampNeg) (xs (nI (6 * k) + nI 2).toNatClampNeg) hR
  refine lv_aload_n hx hb dL_law_760 rfl (lv_at hl 2 rfl) ?_
  refine lv_aload_n hx hb dL_law_761 rfl (lv_at hl 1 rfl) ?_
  refine lv_iload_n hx hb dL_law_762 rfl (lv_at hl 0 rfl) ?_
  refine lv_iconst (v := nI 1) hx hb dL_law_763 (by decide) ?_
  refine lv_iadd hx hb dL_law_764 ?_
  refine va_sld hx hb hX hbl hA hI.2 (vp_nIa hk hL (by decide)) dL_law_765 ?_
  refine lv_aload_n hx hb dL_law_766 rfl (lv_at hl 1 rfl) ?_
  refine lv_iload_n hx hb dL_law_767 rfl (lv_at hl 0 rfl) ?_
  refine lv_iconst (v := nI 2) hx hb dL_law_768 (by decide) ?_
  refine lv_iadd hx hb dL_law_769 ?_
  refine va_sld hx hb hX hbl hA hI.2 (vp_nIa hk hL (by decide)) dL_law_770 ?_
  refine x_callVi (k := 0) hE hK hI hC mf_X5_mass mw_423 (by decide) ((e_0 G o) _ _) rfl rfl hl.1 rfl (Nat.le_of_ble_eq_true rfl) ⟨show f1 + 1 ≤ 12 by omega, show 8 + (3 + 11) + lo1 ≤ 440 by omega⟩ hc dL_law_771 (fun H locs hI => ?_)
  refine lv_aload_n hx hb dL_law_774 rfl (lv_at hl 3 rfl) ?_
  refine lv_aload_n hx hb dL_law_775 rfl (lv_at hl 1 rfl) ?_
  refine lv_iload_n hx hb dL_law_776 rfl (lv_at hl 0 rfl) ?_
  refine lv_iconst (v := nI 1) hx hb dL_law_777 (by decide) ?_
  refine lv_iadd hx hb dL_law_778 ?_
  refine va_sld hx hb hX hbl hA hI.2 (vp_nIa hk hL (by decide)) dL_law_779 ?_
  refine lv_aload_n hx hb dL_law_780 rfl (lv_at hl 1 rfl) ?_
  refine lv_iload_n hx hb dL_law_781 rfl (lv_at hl 0 rfl) ?_
  refine lv_iconst (v := nI 2) hx hb dL_law_782 (by decide) ?_
  refine lv_iadd hx hb dL_law_783 ?_
  refine va_sld hx hb hX hbl hA hI.2 (vp_nIa hk hL (by decide)) dL_law_784 ?_
  refine x_callVi (k := 285) hE hK hI hM mf_X6_mass mw_680 (by decide) ((e_285 G o) _ _) rfl rfl hl.1 rfl (Nat.le_of_ble_eq_true rfl) ⟨show f2 + 1 ≤ 12 by omega, show 8 + (3 + 11) + lo2 ≤ 440 by omega⟩ hc dL_law_785 (fun H locs hI => ?_)
  exact lv_icmp_eq (tgt := 908) hx hb dL_law_788 (by decide) (fun _ => kk _ _ _ _ hI hR2) (fun q => absurd rfl q)
theorem law_20 (hE : gE p m c cL_law 4 s #[Value.ref b] RL) (hK : KK G s) (hL : L ≤ 3072) (hX : va_X b L xs s s.heap) (hbl : b < s.heap.size) (ho : s.heap.size ≤ o) {cells slots k : Nat} {X : SX} {Y : SY} {H : Heap} {locs : List Loc} {ls : Array Slot} {Q : State → Prop} (hc : cells ≤ room_1.cells ∧ slots ≤ room_1.slots) (hk : 6 * k + 6 ≤ L) (hR : R2 X k) (hI : In G o X Y s.heap H locs) (hl : lv_has ls 4 [(3, .int (nI (6 * k))), (0, .ref b), (1, .ref (o + 0)), (2, .ref (o + 285))])
    (kk : ∀ (X1 : SX) (Y1 : SY) (H1 : Heap) (locs1 : List Loc), In G o X1 Y1 s.heap H1 locs1 → R2 X1 (k + 1) → W p l e room_1 s m #[Value.ref b] below meth c H1 locs1 cells slots Q (F0 m 908 ls [])) : W p l e room_1 s m #[Value.ref b] below meth c H locs cells slots Q (F0 m 793 ls []) := by
  have hx := hE.1
  have hb := hE.2.1
  have hA : ¬ rg o b := fun q => absurd q.1 (by omega)
  obtain ⟨f1, lo1, f2, lo2, r, X1, Y1, X2, Y2, ⟨⟨u1, u2⟩, u3, u4⟩, hC, hM, hR2⟩ := P_passes l G o X Y k (xs (nI (6 * k) + nI 1).toNatClampNeg) hR
  refine lv_aload_n hx hb dL_law_793 rfl (lv_at hl 2 rfl) ?_
  refine lv_aload_n hx hb dL_law_794 rfl (lv_at hl 1 rfl) ?_
  refine lv_iload_n hx hb dL_law_795 rfl (lv_at hl 0 rfl) ?_
  refine lv_iconst (v := nI 1) hx hb dL_law_796 (by decide) ?_
  refine lv_iadd hx hb dL_law_797 ?_
  refine va_sld hx hb hX hbl hA hI.2 (vp_nIa hk hL (by decide)) dL_law_798 ?_
  refine x_callVi (k := 0) hE hK hI hC mf_X5_passes mw_430 (by decide) ((e_0 G o) _ _) rfl rfl hl.1 rfl (Nat.le_of_ble_eq_true rfl) ⟨show f1 + 1 ≤ 12 by omega, show 8 + (2 + 11) + lo1 ≤ 440 by omega⟩ hc dL_law_799 (fun H locs hI => ?_)
  refine lv_aload_n hx hb dL_law_802 rfl (lv_at hl 3 rfl) ?_
  refine lv_aload_n hx hb dL_law_803 rfl (lv_at hl 1 rfl) ?_
  refine lv_iload_n hx hb dL_law_804 rfl (lv_at hl 0 rfl) ?_
  refine lv_iconst (v := nI 1) hx hb dL_law_805 (by decide) ?_
  refine lv_iadd hx hb dL_law_806 ?_
  refine va_sld hx hb hX hbl hA hI.2 (vp_nIa hk hL (by decide)) dL_law_807 ?_
  refine x_callVi (k := 285) hE hK hI hM mf_X6_passes mw_684 (by decide) ((e_285 G o) _ _) rfl rfl hl.1 rfl (Nat.le_of_ble_eq_true rfl) ⟨show f2 + 1 ≤ 12 by omega, show 8 + (2 + 11) + lo2 ≤ 440 by omega⟩ hc dL_law_808 (fun H locs hI => ?_)
  exact lv_icmp_eq (tgt := 908) hx hb dL_law_811 (by decide) (fun _ => kk _ _ _ _ hI hR2) (fun q => absurd rfl q)
theorem law_21 (hE : gE p m c cL_law 4 s #[Value.ref b] RL) (hK : KK G s) (hL : L ≤ 3072) (hX : va_X b L xs s s.heap) (hbl : b < s.heap.size) (ho : s.heap.size ≤ o) {cells slots k : Nat} {X : SX} {Y : SY} {H : Heap} {locs : List Loc} {ls : Array Slot} {Q : State → Prop} (hc : cells ≤ room_1.cells ∧ slots ≤ room_1.slots) (hk : 6 * k + 6 ≤ L) (hR : R2 X k) (hI : In G o X Y s.heap H locs) (hl : lv_has ls 4 [(3, .int (nI (6 * k))), (0, .ref b), (1, .ref (o + 0)), (2, .ref (o + 285))])
    (kk : ∀ (X1 : SX) (Y1 : SY) (H1 : Heap) (locs1 : List Loc), In G o X1 Y1 s.heap H1 locs1 → R2 X1 (k + 1) → W p l e room_1 s m #[Value.ref b] below meth c H1 locs1 cells slots Q (F0 m 908 ls [])) : W p l e room_1 s m #[Value.ref b] below meth c H locs cells slots Q (F0 m 816 ls []) := by
  have hx := hE.1
  have hb := hE.2.1
  have hA : ¬ rg o b := fun q => absurd q.1 (by omega)
  obtain ⟨f1, lo1, f2, lo2, r, X1, Y1, X2, Y2, ⟨⟨u1, u2⟩, u3, u4⟩, hC, hM, hR2⟩ := P_produced l G o X Y k (xs (nI (6 * k) + nI 1).toNatClampNeg) hR
  refine lv_aload_n hx hb dL_law_816 rfl (lv_at hl 2 rfl) ?_
  refine lv_aload_n hx hb dL_law_817 rfl (lv_at hl 1 rfl) ?_
  refine lv_iload_n hx hb dL_law_818 rfl (lv_at hl 0 rfl) ?_
  refine lv_iconst (v := nI 1) hx hb dL_law_819 (by decide) ?_
  refine lv_iadd hx hb dL_law_820 ?_
  refine va_sld hx hb hX hbl hA hI.2 (vp_nIa hk hL (by decide)) dL_law_821 ?_
  refine x_callVi (k := 0) hE hK hI hC mf_X5_produced mw_434 (by decide) ((e_0 G o) _ _) rfl rfl hl.1 rfl (Nat.le_of_ble_eq_true rfl) ⟨show f1 + 1 ≤ 12 by omega, show 8 + (2 + 11) + lo1 ≤ 440 by omega⟩ hc dL_law_822 (fun H locs hI => ?_)
  refine lv_aload_n hx hb dL_law_825 rfl (lv_at hl 3 rfl) ?_
  refine lv_aload_n hx hb dL_law_826 rfl (lv_at hl 1 rfl) ?_
  refine lv_iload_n hx hb dL_law_827 rfl (lv_at hl 0 rfl) ?_
  refine lv_iconst (v := nI 1) hx hb dL_law_828 (by decide) ?_
  refine lv_iadd hx hb dL_law_829 ?_
  refine va_sld hx hb hX hbl hA hI.2 (vp_nIa hk hL (by decide)) dL_law_830 ?_
  refine x_callVi (k := 285) hE hK hI hM mf_X6_produced mw_688 (by decide) ((e_285 G o) _ _) rfl rfl hl.1 rfl (Nat.le_of_ble_eq_true rfl) ⟨show f2 + 1 ≤ 12 by omega, show 8 + (2 + 11) + lo2 ≤ 440 by omega⟩ hc dL_law_831 (fun H locs hI => ?_)
  exact lv_icmp_eq (tgt := 908) hx hb dL_law_834 (by decide) (fun _ => kk _ _ _ _ hI hR2) (fun q => absurd rfl q)
theorem law_22 (hE : gE p m c cL_law 4 s #[Value.ref b] RL) (hK : KK G s) (hL : L ≤ 3072) (hX : va_X b L xs s s.heap) (hbl : b < s.heap.size) (ho : s.heap.size ≤ o) {cells slots k : Nat} {X : SX} {Y : SY} {H : Heap} {locs : List Loc} {ls : Array Slot} {Q : State → Prop} (hc : cells ≤ room_1.cells ∧ slots ≤ room_1.slots) (hk : 6 * k + 6 ≤ L) (hR : R2 X k) (hI : In G o X Y s.heap H locs) (hl : lv_has ls 4 [(3, .int (nI (6 * k))), (0, .ref b), (1, .ref (o + 0)), (2, .ref (o + 285))])
    (kk : ∀ (X1 : SX) (Y1 : SY) (H1 : Heap) (locs1 : List Loc), In G o X1 Y1 s.heap H1 locs1 → R2 X1 (k + 1) → W p l e room_1 s m #[Value.ref b] below meth c H1 locs1 cells slots Q (F0 m 908 ls [])) : W p l e room_1 s m #[Value.ref b] below meth c H locs cells slots Q (F0 m 839 ls []) := by
  have hx := hE.1
  have hb := hE.2.1
  have hA : ¬ rg o b := fun q => absurd q.1 (by omega)
  obtain ⟨f1, lo1, f2, lo2, r, X1, Y1, X2, Y2, ⟨⟨u1, u2⟩, u3, u4⟩, hC, hM, hR2⟩ := P_total l G o X Y k (xs (nI (6 * k) + nI 1).toNatClampNeg) hR
  refine lv_aload_n hx hb dL_law_839 rfl (lv_at hl 2 rfl) ?_
  refine lv_aload_n hx hb dL_law_840 rfl (lv_at hl 1 rfl) ?_
  refine lv_iload_n hx hb dL_law_841 rfl (lv_at hl 0 rfl) ?_
  refine lv_iconst (v := nI 1) hx hb dL_law_842 (by decide) ?_
  refine lv_iadd hx hb dL_law_843 ?_
  refine va_sld hx hb hX hbl hA hI.2 (vp_nIa hk hL (by decide)) dL_law_844 ?_
  refine x_callVi (k := 0) hE hK hI hC mf_X5_total mw_438 (by decide) ((e_0 G o) _ _) rfl rfl hl.1 rfl (Nat.le_of_ble_eq_true rfl) ⟨show f1 + 1 ≤ 12 by omega, show 8 + (3 + 11) + lo1 ≤ 440 by omega⟩ hc dL_law_845 (fun H locs hI => ?_)
  refine lv_aload_n hx hb dL_law_848 rfl (lv_at hl 3 rfl) ?_
  refine lv_aload_n hx hb dL_law_849 rfl (lv_at hl 1 rfl) ?_
  refine lv_iload_n hx hb dL_law_850 rfl (lv_at hl 0 rfl) ?_
  refine lv_iconst (v := nI 1) hx hb dL_law_851 (by decide) ?_
  refine lv_iadd hx hb dL_law_852 ?_
  refine va_sld hx hb hX hbl hA hI.2 (vp_nIa hk hL (by decide)) dL_law_853 ?_
  refine x_callVi (k := 285) hE hK hI hM mf_X6_total mw_692 (by decide) ((e_285 G o) _ _) rfl rfl hl.1 rfl (Nat.le_of_ble_eq_true rfl) ⟨show f2 + 1 ≤ 12 by omega, show 8 + (2 + 11) + lo2 ≤ 440 by omega⟩ hc dL_law_854 (fun H locs hI => ?_)
  exact lv_icmp_eq (tgt := 908) hx hb dL_law_857 (by decide) (fun _ => kk _ _ _ _ hI hR2) (fun q => absurd rfl q)
theorem law_23 (hE : gE p m c cL_law 4 s #[Value.ref b] RL) (hK : KK G s) (hL : L ≤ 3072) (hX : va_X b L xs s s.heap) (hbl : b < s.heap.size) (ho : s.heap.size ≤ o) {cells slots k : Nat} {X : SX} {Y : SY} {H : Heap} {locs : List Loc} {ls : Array Slot} {Q : State → Prop} (hc : cells ≤ room_1.cells ∧ slots ≤ room_1.slots) (hk : 6 * k + 6 ≤ L) (hR : R2 X k) (hI : In G o X Y s.heap H locs) (hl : lv_has ls 4 [(3, .int (nI (6 * k))), (0, .ref b), (1, .ref (o + 0)), (2, .ref (o + 285))])
    (kk : ∀ (X1 : SX) (Y1 : SY) (H1 : Heap) (locs1 : List Loc), In G o X1 Y1 s.heap H1 locs1 → R2 X1 (k + 1) → W p l e room_1 s m #[Value.ref b] below meth c H1 locs1 cells slots Q (F0 m 908 ls [])) : W p l e room_1 s m #[Value.ref b] below meth c H locs cells slots Q (F0 m 862 ls []) := by
  have hx := hE.1
  have hb := hE.2.1
  have hA : ¬ rg o b := fun q => absurd q.1 (by omega)
  obtain ⟨f1, lo1, f2, lo2, r, X1, Y1, X2, Y2, ⟨⟨u1, u2⟩, u3, u4⟩, hC, hM, hR2⟩ := P_save l G o X Y k (xs (nI (6 * k) + nI 1).toNatClampNeg) hR
  refine lv_aload_n hx hb dL_law_862 rfl (lv_at hl 2 rfl) ?_
  refine lv_aload_n hx hb dL_law_863 rfl (lv_at hl 1 rfl) ?_
  refine lv_iload_n hx hb dL_law_864 rfl (lv_at hl 0 rfl) ?_
  refine lv_iconst (v := nI 1) hx hb dL_law_865 (by decide) ?_
  refine lv_iadd hx hb dL_law_866 ?_
  refine va_sld hx hb hX hbl hA hI.2 (vp_nIa hk hL (by decide)) dL_law_867 ?_
  refine x_callVi (k := 0) hE hK hI hC mf_X5_save mw_442 (by decide) ((e_0 G o) _ _) rfl rfl hl.1 rfl (Nat.le_of_ble_eq_true rfl) ⟨show f1 + 1 ≤ 12 by omega, show 8 + (2 + 11) + lo1 ≤ 440 by omega⟩ hc dL_law_868 (fun H locs hI => ?_)
  refine lv_aload_n hx hb dL_law_871 rfl (lv_at hl 3 rfl) ?_
  refine lv_aload_n hx hb dL_law_872 rfl (lv_at hl 1 rfl) ?_
  refine lv_iload_n hx hb dL_law_873 rfl (lv_at hl 0 rfl) ?_
  refine lv_iconst (v := nI 1) hx hb dL_law_874 (by decide) ?_
  refine lv_iadd hx hb dL_law_875 ?_
  refine va_sld hx hb hX hbl hA hI.2 (vp_nIa hk hL (by decide)) dL_law_876 ?_
  refine x_callVi (k := 285) hE hK hI hM mf_X6_save mw_696 (by decide) ((e_285 G o) _ _) rfl rfl hl.1 rfl (Nat.le_of_ble_eq_true rfl) ⟨show f2 + 1 ≤ 12 by omega, show 8 + (3 + 11) + lo2 ≤ 440 by omega⟩ hc dL_law_877 (fun H locs hI => ?_)
  exact lv_icmp_eq (tgt := 908) hx hb dL_law_880 (by decide) (fun _ => kk _ _ _ _ hI hR2) (fun q => absurd rfl q)
theorem law_24 (hE : gE p m c cL_law 4 s #[Value.ref b] RL) (hK : KK G s) (hL : L ≤ 3072) (hX : va_X b L xs s s.heap) (hbl : b < s.heap.size) (ho : s.heap.size ≤ o) {cells slots k : Nat} {X : SX} {Y : SY} {H : Heap} {locs : List Loc} {ls : Array Slot} {Q : State → Prop} (hc : cells ≤ room_1.cells ∧ slots ≤ room_1.slots) (hk : 6 * k + 6 ≤ L) (hR : R2 X k) (hI : In G o X Y s.heap H locs) (hl : lv_has ls 4 [(3, .int (nI (6 * k))), (0, .ref b), (1, .ref (o + 0)), (2, .ref (o + 285))])
    (kk : ∀ (X1 : SX) (Y1 : SY) (H1 : Heap) (locs1 : List Loc), In G o X1 Y1 s.heap H1 locs1 → R2 X1 (k + 1) → W p l e room_1 s m #[Value.ref b] below meth c H1 locs1 cells slots Q (F0 m 908 ls [])) : W p l e room_1 s m #[Value.ref b] below meth c H locs cells slots Q (F0 m 885 ls []) := by
  have hx := hE.1
  have hb := hE.2.1
  have hA : ¬ rg o b := fun q => absurd q.1 (by omega)
  obtain ⟨f1, lo1, f2, lo2, r, X1, Y1, X2, Y2, ⟨⟨u1, u2⟩, u3, u4⟩, hC, hM, hR2⟩ := P_restore l G o X Y k (xs (nI (6 * k) + nI 1).toNatClampNeg) hR
  refine lv_aload_n hx hb dL_law_885 rfl (lv_at hl 2 rfl) ?_
  refine lv_aload_n hx hb dL_law_886 rfl (lv_at hl 1 rfl) ?_
  refine lv_iload_n hx hb dL_law_887 rfl (lv_at hl 0 rfl) ?_
  refine lv_iconst (v := nI 1) hx hb dL_law_888 (by decide) ?_
  refine lv_iadd hx hb dL_law_889 ?_
  refine va_sld hx hb hX hbl hA hI.2 (vp_nIa hk hL (by decide)) dL_law_890 ?_
  refine x_callVi (k := 0) hE hK hI hC mf_X5_restore mw_470 (by decide) ((e_0 G o) _ _) rfl rfl hl.1 rfl (Nat.le_of_ble_eq_true rfl) ⟨show f1 + 1 ≤ 12 by omega, show 8 + (2 + 11) + lo1 ≤ 440 by omega⟩ hc dL_law_891 (fun H locs hI => ?_)
  refine lv_aload_n hx hb dL_law_894 rfl (lv_at hl 3 rfl) ?_
  refine lv_aload_n hx hb dL_law_895 rfl (lv_at hl 1 rfl) ?_
  refine lv_iload_n hx hb dL_law_896 rfl (lv_at hl 0 rfl) ?_
  refine lv_iconst (v := nI 1) hx hb dL_law_897 (by decide) ?_
  refine lv_iadd hx hb dL_law_898 ?_
  refine va_sld hx hb hX hbl hA hI.2 (vp_nIa hk hL (by decide)) dL_law_899 ?_
  refine x_callVi (k := 285) hE hK hI hM mf_X6_restore mw_700 (by decide) ((e_285 G o) _ _) rfl rfl hl.1 rfl (Nat.le_of_ble_eq_true rfl) ⟨show f2 + 1 ≤ 12 by omega, show 8 + (3 + 11) + lo2 ≤ 440 by omega⟩ hc dL_law_900 (fun H locs hI => ?_)
  exact lv_icmp_eq (tgt := 908) hx hb dL_law_903 (by decide) (fun _ => kk _ _ _ _ hI hR2) (fun q => absurd rfl q)
theorem law_loop (hE : gE p m c cL_law 4 s #[Value.ref b] RL) (hr : meth.sig.returnType = ret) (hlocks : meth.locks = false) (hK : KK G s) (hL : L ≤ 3072) (hX : va_X b L xs s s.heap) (hbl : b < s.heap.size) (ho : s.heap.size ≤ o) {cells slots : Nat} (hc : cells ≤ room_1.cells ∧ slots ≤ room_1.slots) :
    ∀ (n k : Nat) (X : SX) (Y : SY) (H : Heap) (locs : List Loc) (ls : Array Slot), k ≤ 512 → 512 ≤ k + n → R2 X k → In G o X Y s.heap H locs → lv_has ls 4 [(3, .int (nI (6 * k))), (0, .ref b), (1, .ref (o + 0)), (2, .ref (o + 285))] → W p l e room_1 s m #[Value.ref b] below meth c H locs cells slots (lw_Z below #[Value.ref b] s) (F0 m 18 ls []) := by
  intro n
  induction n with
  | zero =>
    intro k X Y H locs ls h1 h2 hR hI hl
    have hx := hE.1
    have hb := hE.2.1
    have hA : ¬ rg o b := fun q => absurd q.1 (by omega)
    refine lv_iload_n hx hb dL_law_18 rfl (lv_at hl 0 rfl) ?_
    refine lv_aload_n hx hb dL_law_19 rfl (lv_at hl 1 rfl) ?_
    refine va_slen hx hb hX hbl hA hI.2 dL_law_20 ?_
    refine lv_bipush (v := nI 6) hx hb dL_law_21 (by decide) ?_
    refine lv_isub hx hb dL_law_23 ?_
    refine lv_icmp_gt (tgt := 914) hx hb dL_law_24 (by decide) (fun _ => ?_) (fun q => ?_)
    · refine lv_iconst (v := 1) hx hb dL_law_914 (by decide) ?_
      refine va_forget (fun q hq => ?_) (W.widen hc.1 hc.2 (lw_ret hx hb hr hlocks dL_law_915))
      have hz := (hI.2.2.2 q hq).1
      omega
    · exact absurd (show nI L - nI 6 < nI (6 * k) by
        rw [Int32.lt_iff_toInt_lt, pk_sub_toInt (by omega) (by omega), nI_toInt (by omega)]
        omega) q
  | succ n ih =>
    intro k X Y H locs ls h1 h2 hR hI hl
    have hx := hE.1
    have hb := hE.2.1
    have hA : ¬ rg o b := fun q => absurd q.1 (by omega)
    refine lv_iload_n hx hb dL_law_18 rfl (lv_at hl 0 rfl) ?_
    refine lv_aload_n hx hb dL_law_19 rfl (lv_at hl 1 rfl) ?_
    refine va_slen hx hb hX hbl hA hI.2 dL_law_20 ?_
    refine lv_bipush (v := nI 6) hx hb dL_law_21 (by decide) ?_
    refine lv_isub hx hb dL_law_23 ?_
    refine lv_icmp_gt (tgt := 914) hx hb dL_law_24 (by decide) (fun _ => ?_) (fun q => ?_)
    · refine lv_iconst (v := 1) hx hb dL_law_914 (by decide) ?_
      refine va_forget (fun q hq => ?_) (W.widen hc.1 hc.2 (lw_ret hx hb hr hlocks dL_law_915))
      have hz := (hI.2.2.2 q hq).1
      omega
    · have hk : 6 * k + 6 ≤ L := by
        have q2 : ¬ (nI L - nI 6 < nI (6 * k)) := q
        rw [Int32.lt_iff_toInt_lt, pk_sub_toInt (by omega) (by omega), nI_toInt (by omega)] at q2
        omega
      have fin : ∀ (X1 : SX) (Y1 : SY) (H1 : Heap) (locs1 : List Loc), In G o X1 Y1 s.heap H1 locs1 → R2 X1 (k + 1) → W p l e room_1 s m #[Value.ref b] below meth c H1 locs1 cells slots (lw_Z below #[Value.ref b] s) (F0 m 908 ls []) := by
        intro X1 Y1 H1 locs1 hI1 hR1
        refine lv_iinc (v := nI (6 * (k + 1))) (lv' := [(3, .int (nI (6 * (k + 1)))), (0, .ref b), (1, .ref (o + 0)), (2, .ref (o + 285))]) hx hb dL_law_908 hl (k := 0) rfl (nI_add (6 * k) 6) (by decide) rfl (fun ls hl => ?_)
        refine lv_goto (tgt := 18) hx hb dL_law_911 (by decide) ?_
        exact ih (k + 1) X1 Y1 H1 locs1 ls (by omega) (by omega) hR1 hI1 hl
      refine lv_aload_n hx hb dL_law_27 rfl (lv_at hl 1 rfl) ?_
      refine lv_iload_n hx hb dL_law_28 rfl (lv_at hl 0 rfl) ?_
      refine va_sld hx hb hX hbl hA hI.2 (vp_in_nI (by omega) (by omega)) dL_law_29 ?_
      refine lv_bipush (v := nI 31) hx hb dL_law_30 (by decide) ?_
      refine lv_iand hx hb dL_law_32 ?_
      generalize xs (nI (6 * k)).toNatClampNeg &&& nI 31 = t
      by_cases ht : t.toInt < 0 ∨ 24 < t.toInt
      · exact lv_tableOut (tgt := 908) hx hb dL_law_33 ht (by decide) (fin X Y H locs hI hR.nx)
      · have h0 : ¬ t.toInt < 0 := fun q => ht (Or.inl q)
        have h24 : ¬ 24 < t.toInt := fun q => ht (Or.inr q)
        rcases (show t.toInt = 0 ∨ t.toInt = 1 ∨ t.toInt = 2 ∨ t.toInt = 3 ∨ t.toInt = 4 ∨ t.toInt = 5 ∨ t.toInt = 6 ∨ t.toInt = 7 ∨ t.toInt = 8 ∨ t.toInt = 9 ∨ t.toInt = 10 ∨ t.toInt = 11 ∨ t.toInt = 12 ∨ t.toInt = 13 ∨ t.toInt = 14 ∨ t.toInt = 15 ∨ t.toInt = 16 ∨ t.toInt = 17 ∨ t.toInt = 18 ∨ t.toInt = 19 ∨ t.toInt = 20 ∨ t.toInt = 21 ∨ t.toInt = 22 ∨ t.toInt = 23 ∨ t.toInt = 24 by omega) with hz | hz | hz | hz | hz | hz | hz | hz | hz | hz | hz | hz | hz | hz | hz | hz | hz | hz | hz | hz | hz | hz | hz | hz | hz
        · exact lv_tableIn (tgt := 148) hx hb dL_law_33 h0 h24 (by rw [hz]; rfl) (by decide) (law_0 hE hK hL hX hbl ho hc hk hR hI hl fin)
        · exact lv_tableIn (tgt := 201) hx hb dL_law_33 h0 h24 (by rw [hz]; rfl) (by decide) (law_1 hE hK hL hX hbl ho hc hk hR hI hl fin)
        · exact lv_tableIn (tgt := 234) hx hb dL_law_33 h0 h24 (by rw [hz]; rfl) (by decide) (law_2 hE hK hL hX hbl ho hc hk hR hI hl fin)
        · exact lv_tableIn (tgt := 267) hx hb dL_law_33 h0 h24 (by rw [hz]; rfl) (by decide) (law_3 hE hK hL hX hbl ho hc hk hR hI hl fin)
        · exact lv_tableIn (tgt := 300) hx hb dL_law_33 h0 h24 (by rw [hz]; rfl) (by decide) (law_4 hE hK hL hX hbl ho hc hk hR hI hl fin)
        · exact lv_tableIn (tgt := 333) hx hb dL_law_33 h0 h24 (by rw [hz]; rfl) (by decide) (law_5 hE hK hL hX hbl ho hc hk hR hI hl fin)
        · exact lv_tableIn (tgt := 367) hx hb dL_law_33 h0 h24 (by rw [hz]; rfl) (by decide) (law_6 hE hK hL hX hbl ho hc hk hR hI hl fin)
        · exact lv_tableIn (tgt := 401) hx hb dL_law_33 h0 h24 (by rw [hz]; rfl) (by decide) (law_7 hE hK hL hX hbl ho hc hk hR hI hl fin)
        · exact lv_tableIn (tgt := 425) hx hb dL_law_33 h0 h24 (by rw [hz]; rfl) (by decide) (law_8 hE hK hL hX hbl ho hc hk hR hI hl fin)
        · exact lv_tableIn (tgt := 449) hx hb dL_law_33 h0 h24 (by rw [hz]; rfl) (by decide) (law_9 hE hK hL hX hbl ho hc hk hR hI hl fin)
        · exact lv_tableIn (tgt := 483) hx hb dL_law_33 h0 h24 (by rw [hz]; rfl) (by decide) (law_10 hE hK hL hX hbl ho hc hk hR hI hl fin)
        · exact lv_tableIn (tgt := 506) hx hb dL_law_33 h0 h24 (by rw [hz]; rfl) (by decide) (law_11 hE hK hL hX hbl ho hc hk hR hI hl fin)
        · exact lv_tableIn (tgt := 559) hx hb dL_law_33 h0 h24 (by rw [hz]; rfl) (by decide) (law_12 hE hK hL hX hbl ho hc hk hR hI hl fin)
        · exact lv_tableIn (tgt := 622) hx hb dL_law_33 h0 h24 (by rw [hz]; rfl) (by decide) (law_13 hE hK hL hX hbl ho hc hk hR hI hl fin)
        · exact lv_tableIn (tgt := 645) hx hb dL_law_33 h0 h24 (by rw [hz]; rfl) (by decide) (law_14 hE hK hL hX hbl ho hc hk hR hI hl fin)
        · exact lv_tableIn (tgt := 668) hx hb dL_law_33 h0 h24 (by rw [hz]; rfl) (by decide) (law_15 hE hK hL hX hbl ho hc hk hR hI hl fin)
        · exact lv_tableIn (tgt := 691) hx hb dL_law_33 h0 h24 (by rw [hz]; rfl) (by decide) (law_16 hE hK hL hX hbl ho hc hk hR hI hl fin)
        · exact lv_tableIn (tgt := 714) hx hb dL_law_33 h0 h24 (by rw [hz]; rfl) (by decide) (law_17 hE hK hL hX hbl ho hc hk hR hI hl fin)
        · exact lv_tableIn (tgt := 737) hx hb dL_law_33 h0 h24 (by rw [hz]; rfl) (by decide) (law_18 hE hK hL hX hbl ho hc hk hR hI hl fin)
        · exact lv_tableIn (tgt := 760) hx hb dL_law_33 h0 h24 (by rw [hz]; rfl) (by decide) (law_19 hE hK hL hX hbl ho hc hk hR hI hl fin)
        · exact lv_tableIn (tgt := 793) hx hb dL_law_33 h0 h24 (by rw [hz]; rfl) (by decide) (law_20 hE hK hL hX hbl ho hc hk hR hI hl fin)
        · exact lv_tableIn (tgt := 816) hx hb dL_law_33 h0 h24 (by rw [hz]; rfl) (by decide) (law_21 hE hK hL hX hbl ho hc hk hR hI hl fin)
        · exact lv_tableIn (tgt := 839) hx hb dL_law_33 h0 h24 (by rw [hz]; rfl) (by decide) (law_22 hE hK hL hX hbl ho hc hk hR hI hl fin)
        · exact lv_tableIn (tgt := 862) hx hb dL_law_33 h0 h24 (by rw [hz]; rfl) (by decide) (law_23 hE hK hL hX hbl ho hc hk hR hI hl fin)
        · exact lv_tableIn (tgt := 885) hx hb dL_law_33 h0 h24 (by rw [hz]; rfl) (by decide) (law_24 hE hK hL hX hbl ho hc hk hR hI hl fin)
end LAW
