/-! ===== 15: the reference: minutes, lots, reads, saving ===== -/
def MInv (X : SX) (cnt : Nat) : Prop := X 286 31 = nI cnt ∧ cnt ≤ 40 ∧ (X 286 35 < 0 ∨ ∃ i, i < cnt ∧ X 286 35 = nI i) ∧ ¬ X 286 28 = 0
theorem cmX_o {X : SX} {i k j : Nat} (h : ¬ (k = 286 ∧ (j = 41 + 8 * i + 4 ∨ j = 41 + 8 * i + 5 ∨ j = 34))) : cmX X i k j = X k j := by
  unfold cmX
  simp (disch := omega) only [sx_o]
theorem fnmX_o {X : SX} {i k j : Nat} (h0 : k ≠ 291) (h : ¬ (k = 286 ∧ ((41 + 8 * i ≤ j ∧ j < 49 + 8 * i) ∨ (32 ≤ j ∧ j < 36) ∨ (37 ≤ j ∧ j < 41)))) : fnmX X i k j = X k j := by
  unfold fnmX
  split
  · simp (disch := omega) only [sx_o]
  · rw [cmX_o (by omega)]
    simp (disch := omega) only [sx_o]
theorem fnmX_g {X : SX} {i : Nat} : fnmX X i 286 35 = (-7) := by
  unfold fnmX
  split
  · simp (disch := omega) only [sx_o, sx_e]
  · rw [cmX_o (by omega)]
    simp (disch := omega) only [sx_o, sx_e]
def tmX (X : SX) : Nat → SX
  | 0 => X
  | k + 1 => if tmX X k 286 (41 + 8 * k + 4) = 0 then (if tmX X k 286 (41 + 8 * k + 6) = tmX X k 286 30 then cmX (tmX X k) k else tmX X k) else tmX X k
theorem tmX_o {X : SX} {k j : Nat} (h : ¬ (k = 286 ∧ (j = 34 ∨ 41 ≤ j))) : ∀ n : Nat, tmX X n k j = X k j
  | 0 => rfl
  | n + 1 => by
    have ih := tmX_o (X := X) h n
    unfold tmX
    split
    · split
      · rw [cmX_o (by omega)]; exact ih
      · exact ih
    · exact ih
theorem smmX_o {X : SX} {c i k j : Nat} (h : ¬ (k = 286 ∧ (j = 41 + 8 * i + 4 ∨ j = 35 ∨ j = 36))) : smmX X c i k j = X k j := by
  unfold smmX
  simp (disch := omega) only [sx_o]
theorem MInv.tm {X : SX} {cnt : Nat} {v : Int32} (h : MInv X cnt) : MInv (sx X 286 30 v) cnt := by
  unfold MInv
  simp (disch := omega) only [sx_o]
  exact h
theorem MInv.fn {X : SX} {cnt i : Nat} (h : MInv X cnt) : MInv (fnmX X i) cnt := by
  unfold MInv
  rw [fnmX_g, fnmX_o (j := 31) (by omega) (by omega), fnmX_o (j := 28) (by omega) (by omega)]
  exact ⟨h.1, h.2.1, Or.inl (by decide), h.2.2.2⟩
theorem MInv.tk {X : SX} {cnt : Nat} (h : MInv X cnt) (n : Nat) : MInv (tmX X n) cnt := by
  unfold MInv
  rw [tmX_o (by omega), tmX_o (by omega), tmX_o (by omega)]
  exact h
theorem fndP_lt {P : Nat → Prop} [DecidablePred P] : ∀ (n i j : Nat), fndP P n i = some j → j < i + n
  | 0, i, j, h => by cases h
  | n + 1, i, j, h => by
    unfold fndP at h
    split at h
    · cases h; omega
    · have := fndP_lt n (i + 1) j h; omega
def stM (X : SX) (cnt : Nat) : SX := if 0 ≤ X 286 35 then X else (match fndP (fun a => pBM X a ∧ nI (cntP (fun q => ¬ nI q = nI a ∧ pBM X q ∧ ahM X q a) cnt) = 0) cnt 0 with
  | none => X
  | some j => smmX X cnt j)
theorem c_X6_start (l : Launch) (G : GG) (o : Nat) (X : SX) (Y : SY) (cnt : Nat) (hS : MInv X cnt) : Ct l yX6_start cX6_start 2 none 7 155 G o [.ref (o + 285)] X Y none (stM X cnt) Y := by
  unfold stM
  by_cases h : 0 ≤ X 286 35
  · rw [if_pos h]
    exact c_X6_start_busy l G o X Y h
  · rw [if_neg h]
    cases hq : fndP (fun a => pBM X a ∧ nI (cntP (fun q => ¬ nI q = nI a ∧ pBM X q ∧ ahM X q a) cnt) = 0) cnt 0 with
    | none => exact c_X6_start_none l G o X Y cnt hS.1 hS.2.1 h hq
    | some j => exact c_X6_start_some l G o X Y cnt j hS.1 hS.2.1 h hq (by have := fndP_lt _ _ _ hq; have := hS.2.1; omega) hS.2.2.2
theorem MInv.st {X : SX} {cnt : Nat} (h : MInv X cnt) : MInv (stM X cnt) cnt := by
  unfold stM
  split
  · exact h
  · split
    · exact h
    · rename_i j hq
      have hj := fndP_lt _ _ _ hq
      unfold MInv
      rw [show smmX X cnt j 286 35 = nI j by unfold smmX; simp (disch := omega) only [sx_o, sx_e], smmX_o (j := 31) (by omega), smmX_o (j := 28) (by omega)]
      exact ⟨h.1, h.2.1, Or.inr ⟨j, by omega, rfl⟩, h.2.2.2⟩
/-- one minute -/
def fnF (X : SX) : SX := if X 286 35 < 0 then X else if X 286 36 = X 286 30 then fnmX X (X 286 35).toNatClampNeg else X
def mnX (X : SX) (cnt : Nat) : SX := stM (tmX (fnF (sx X 286 30 (X 286 30 + 1))) cnt) cnt
theorem MInv.fi {X : SX} {cnt : Nat} (h : MInv X cnt) : MInv (fnF X) cnt := by
  unfold fnF
  split
  · exact h
  · split
    · exact h.fn
    · exact h
theorem MInv.mn {X : SX} {cnt : Nat} (h : MInv X cnt) : MInv (mnX X cnt) cnt := ((h.tm.fi).tk cnt).st
set_option maxRecDepth 100000 in
set_option maxHeartbeats 4000000 in
theorem lp_X6_minute (l : Launch) (G : GG) (o : Nat) (X : SX) (Y : SY) (cnt : Nat) {p9 : Program} {e9 : Env} {s9 : State} {m9 : MethodId} {args9 : Array Value} {below9 : List Frame} {meth9 : Method} {c9 : Code} (hE : gE p9 m9 c9 cX6_minute 2 s9 args9 yX6_minute.cls) (hr : meth9.sig.returnType = none) (hlocks : meth9.locks = false) (hK : KK G s9) :
    ∀ (n : Nat) (i : Nat) (Z : SX), i + n = cnt ∧ MInv Z cnt → ∀ (H : Heap) (locs : List Loc), In G o (tmX Z i) Y s9.heap H locs → ∀ ls : Array Slot, lv_has ls 2 [(0, .ref (o + 285)), (1, .int (nI i))] → W p9 l e9 (Rm 8 176) s9 m9 args9 below9 meth9 c9 H locs 0 0 (MQ below9 (Qw G o none (stM (tmX Z cnt) cnt) Y) args9 s9 0 0 (rg o)) (F0 m9 44 ls []) := by
  have hx := hE.1
  have hb := hE.2.1
  intro n
  induction n with
  | zero =>
    intro i Z hi H locs hI ls hl
    have h40 := hi.2.2.1
    have ei : i = cnt := by omega
    refine lv_iload_n hx hb dX6_minute_44 rfl (lv_at hl 1 rfl) ?_
    refine lv_aload_n hx hb dX6_minute_45 rfl (lv_at hl 0 rfl) ?_
    refine x_get (k := 285) hE hK hI (by decide) inG6 (e_285 G o _ _) rfl 0 (by decide) mw_480 rfl dX6_minute_46 ?_
    refine lv_bipush (v := 31) hx hb dX6_minute_49 (by decide) ?_
    refine x_iald (k := 286) (j := 31) hE hK hI (by decide) (e_286 G o) (by decide) (by decide) rfl dX6_minute_51 ?_
    refine lv_topi (fun z1 ez1 => ?_)
    obtain rfl : nI cnt = z1 := (ez1.trans (((tmX_o (by omega) _).trans hi.2.1))).symm
    refine lv_icmp_ge (tgt := 92) hx hb dX6_minute_52 (by decide) (fun _ => ?_) (fun q => absurd (nI_le (by omega) (by omega)) q)
    refine lv_aload_n hx hb dX6_minute_92 rfl (lv_at hl 0 rfl) ?_
    refine x_callVv (k := 285) hE hK hI (c_X6_start l G o _ _ cnt (hi.2.tk i)) mf_X6_start mw_612 (by decide) ((e_285 G o) _ _) rfl rfl hl.1 rfl (Nat.le_of_ble_eq_true rfl) ⟨(Nat.le_of_ble_eq_true rfl), (Nat.le_of_ble_eq_true rfl)⟩ ⟨Nat.zero_le _, Nat.zero_le _⟩ dX6_minute_93 (fun H locs hI => ?_)
    exact x_vret hE hr hlocks hI rfl (by rw [ei]) rfl dX6_minute_96
  | succ n ih =>
    intro i Z hi H locs hI ls hl
    have h40 := hi.2.2.1
    have h_i : i < 40 := by omega
    refine lv_iload_n hx hb dX6_minute_44 rfl (lv_at hl 1 rfl) ?_
    refine lv_aload_n hx hb dX6_minute_45 rfl (lv_at hl 0 rfl) ?_
    refine x_get (k := 285) hE hK hI (by decide) inG6 (e_285 G o _ _) rfl 0 (by decide) mw_480 rfl dX6_minute_46 ?_
    refine lv_bipush (v := 31) hx hb dX6_minute_49 (by decide) ?_
    refine x_iald (k := 286) (j := 31) hE hK hI (by decide) (e_286 G o) (by decide) (by decide) rfl dX6_minute_51 ?_
    refine lv_topi (fun z1 ez1 => ?_)
    obtain rfl : nI cnt = z1 := (ez1.trans (((tmX_o (by omega) _).trans hi.2.1))).symm
    refine lv_icmp_ge (tgt := 92) hx hb dX6_minute_52 (by decide) (fun q => absurd q (nI_ge (by omega) (by omega))) (fun _ => ?_)
    refine lv_aload_n hx hb dX6_minute_55 rfl (lv_at hl 0 rfl) ?_
    refine lv_iload_n hx hb dX6_minute_56 rfl (lv_at hl 1 rfl) ?_
    refine lv_iconst (v := 4) hx hb dX6_minute_57 (by decide) ?_
    refine x_callVi (k := 285) hE hK hI (c_X6_of l G o _ _ i 4 h_i (by decide)) mf_X6_of mw_620 (by decide) ((e_285 G o) _ _) rfl rfl hl.1 rfl (Nat.le_of_ble_eq_true rfl) ⟨(Nat.le_of_ble_eq_true rfl), (Nat.le_of_ble_eq_true rfl)⟩ ⟨Nat.zero_le _, Nat.zero_le _⟩ dX6_minute_58 (fun H locs hI => ?_)
    refine lv_if_ne (tgt := 86) hx hb dX6_minute_61 (by decide) (fun c2 => ?_) (fun c2 => ?_)
    · refine lv_iinc (v := nI (i + 1)) (lv' := [(1, .int (nI (i + 1))), (0, .ref (o + 285))]) hx hb dX6_minute_86 hl (k := 1) rfl (nI_add i 1) (by decide) rfl (fun ls hl => ?_)
      refine lv_goto (tgt := 44) hx hb dX6_minute_89 (by decide) ?_
      have ih' := ih (i + 1) Z ⟨by omega, hi.2⟩ H locs
      rw [show tmX Z (i + 1) = tmX Z i from if_neg c2] at ih'
      exact ih' hI ls (lv_sub hl [1, 0] rfl)
    · refine lv_aload_n hx hb dX6_minute_64 rfl (lv_at hl 0 rfl) ?_
      refine lv_iload_n hx hb dX6_minute_65 rfl (lv_at hl 1 rfl) ?_
      refine lv_bipush (v := 6) hx hb dX6_minute_66 (by decide) ?_
      refine x_callVi (k := 285) hE hK hI (c_X6_of l G o _ _ i 6 h_i (by decide)) mf_X6_of mw_620 (by decide) ((e_285 G o) _ _) rfl rfl hl.1 rfl (Nat.le_of_ble_eq_true rfl) ⟨(Nat.le_of_ble_eq_true rfl), (Nat.le_of_ble_eq_true rfl)⟩ ⟨Nat.zero_le _, Nat.zero_le _⟩ dX6_minute_68 (fun H locs hI => ?_)
      refine lv_aload_n hx hb dX6_minute_71 rfl (lv_at hl 0 rfl) ?_
      refine x_get (k := 285) hE hK hI (by decide) inG6 (e_285 G o _ _) rfl 0 (by decide) mw_480 rfl dX6_minute_72 ?_
      refine lv_bipush (v := 30) hx hb dX6_minute_75 (by decide) ?_
      refine x_iald (k := 286) (j := 30) hE hK hI (by decide) (e_286 G o) (by decide) (by decide) rfl dX6_minute_77 ?_
      refine lv_icmp_ne (tgt := 86) hx hb dX6_minute_78 (by decide) (fun c3 => ?_) (fun c3 => ?_)
      · refine lv_iinc (v := nI (i + 1)) (lv' := [(1, .int (nI (i + 1))), (0, .ref (o + 285))]) hx hb dX6_minute_86 hl (k := 1) rfl (nI_add i 1) (by decide) rfl (fun ls hl => ?_)
        refine lv_goto (tgt := 44) hx hb dX6_minute_89 (by decide) ?_
        have ih' := ih (i + 1) Z ⟨by omega, hi.2⟩ H locs
        rw [show tmX Z (i + 1) = tmX Z i from (if_pos c2).trans (if_neg c3)] at ih'
        exact ih' hI ls (lv_sub hl [1, 0] rfl)
      · refine lv_aload_n hx hb dX6_minute_81 rfl (lv_at hl 0 rfl) ?_
        refine lv_iload_n hx hb dX6_minute_82 rfl (lv_at hl 1 rfl) ?_
        refine x_callVv (k := 285) hE hK hI (c_X6_comes l G o _ _ i h_i) mf_X6_comes mw_608 (by decide) ((e_285 G o) _ _) rfl rfl hl.1 rfl (Nat.le_of_ble_eq_true rfl) ⟨(Nat.le_of_ble_eq_true rfl), (Nat.le_of_ble_eq_true rfl)⟩ ⟨Nat.zero_le _, Nat.zero_le _⟩ dX6_minute_83 (fun H locs hI => ?_)
        refine lv_iinc (v := nI (i + 1)) (lv' := [(1, .int (nI (i + 1))), (0, .ref (o + 285))]) hx hb dX6_minute_86 hl (k := 1) rfl (nI_add i 1) (by decide) rfl (fun ls hl => ?_)
        refine lv_goto (tgt := 44) hx hb dX6_minute_89 (by decide) ?_
        have ih' := ih (i + 1) Z ⟨by omega, hi.2⟩ H locs
        rw [show tmX Z (i + 1) = cmX (tmX Z i) i from (if_pos c2).trans (if_pos c3)] at ih'
        exact ih' hI ls (lv_sub hl [1, 0] rfl)
set_option maxRecDepth 100000 in
set_option maxHeartbeats 4000000 in
theorem c_X6_minute_i (l : Launch) (G : GG) (o : Nat) (X : SX) (Y : SY) (cnt : Nat) (hS : MInv X cnt) (h : X 286 35 < 0) : Ct l yX6_minute cX6_minute 2 none 8 176 G o [.ref (o + 285)] X Y none (stM (tmX (sx X 286 30 (X 286 30 + 1)) cnt) cnt) Y := by
  refine Ct.mk (by decide +kernel) (Nat.le_of_ble_eq_true rfl) rfl ?_
  intro p9 e9 s9 m9 args9 below9 meth9 c9 hE hr hlocks hK hI ls hl
  have hx := hE.1
  have hb := hE.2.1
  have hl : lv_has ls 2 [(0, .ref (o + 285))] := hl
  refine lv_aload_n hx hb dX6_minute_0 rfl (lv_at hl 0 rfl) ?_
  refine x_get (k := 285) hE hK hI (by decide) inG6 (e_285 G o _ _) rfl 0 (by decide) mw_480 rfl dX6_minute_1 ?_
  refine lv_bipush (v := 30) hx hb dX6_minute_4 (by decide) ?_
  refine lv_dup2_11 hx hb dX6_minute_6 rfl rfl ?_
  refine x_iald (k := 286) (j := 30) hE hK hI (by decide) (e_286 G o) (by decide) (by decide) rfl dX6_minute_7 ?_
  refine lv_iconst (v := 1) hx hb dX6_minute_8 (by decide) ?_
  refine lv_iadd hx hb dX6_minute_9 ?_
  refine x_iast (k := 286) (j := 30) hE hK hI (by decide) (e_286 G o) (by decide) (by decide) rfl dX6_minute_10 (fun H locs hI => ?_)
  refine lv_aload_n hx hb dX6_minute_11 rfl (lv_at hl 0 rfl) ?_
  refine x_get (k := 285) hE hK hI (by decide) inG6 (e_285 G o _ _) rfl 0 (by decide) mw_480 rfl dX6_minute_12 ?_
  refine lv_bipush (v := 35) hx hb dX6_minute_15 (by decide) ?_
  refine x_iald (k := 286) (j := 35) hE hK hI (by decide) (e_286 G o) (by decide) (by decide) rfl dX6_minute_17 ?_
  refine lv_topi (fun z1 ez1 => ?_)
  obtain rfl : X 286 35 = z1 := (ez1.trans ((sx_o (by decide)))).symm
  refine lv_if_lt (tgt := 42) hx hb dX6_minute_18 (by decide) (fun _ => ?_) (fun q => absurd h q)
  refine lv_iconst (v := 0) hx hb dX6_minute_42 (by decide) ?_
  refine lv_istore_n (lv' := [(1, .int 0), (0, .ref (o + 285))]) hx hb dX6_minute_43 rfl hl (by decide) rfl (fun ls hl => ?_)
  exact lp_X6_minute l G o X Y cnt hE hr hlocks hK cnt 0 (sx X 286 30 (X 286 30 + 1)) ⟨by omega, hS.tm⟩ _ _ hI ls (lv_sub hl [1, 0] rfl)
set_option maxRecDepth 100000 in
set_option maxHeartbeats 4000000 in
theorem c_X6_minute_w (l : Launch) (G : GG) (o : Nat) (X : SX) (Y : SY) (cnt : Nat) (hS : MInv X cnt) (h : ¬ (X 286 35 < 0)) (h2 : ¬ (X 286 36 = X 286 30 + 1)) : Ct l yX6_minute cX6_minute 2 none 8 176 G o [.ref (o + 285)] X Y none (stM (tmX (sx X 286 30 (X 286 30 + 1)) cnt) cnt) Y := by
  refine Ct.mk (by decide +kernel) (Nat.le_of_ble_eq_true rfl) rfl ?_
  intro p9 e9 s9 m9 args9 below9 meth9 c9 hE hr hlocks hK hI ls hl
  have hx := hE.1
  have hb := hE.2.1
  have hl : lv_has ls 2 [(0, .ref (o + 285))] := hl
  refine lv_aload_n hx hb dX6_minute_0 rfl (lv_at hl 0 rfl) ?_
  refine x_get (k := 285) hE hK hI (by decide) inG6 (e_285 G o _ _) rfl 0 (by decide) mw_480 rfl dX6_minute_1 ?_
  refine lv_bipush (v := 30) hx hb dX6_minute_4 (by decide) ?_
  refine lv_dup2_11 hx hb dX6_minute_6 rfl rfl ?_
  refine x_iald (k := 286) (j := 30) hE hK hI (by decide) (e_286 G o) (by decide) (by decide) rfl dX6_minute_7 ?_
  refine lv_iconst (v := 1) hx hb dX6_minute_8 (by decide) ?_
  refine lv_iadd hx hb dX6_minute_9 ?_
  refine x_iast (k := 286) (j := 30) hE hK hI (by decide) (e_286 G o) (by decide) (by decide) rfl dX6_minute_10 (fun H locs hI => ?_)
  refine lv_aload_n hx hb dX6_minute_11 rfl (lv_at hl 0 rfl) ?_
  refine x_get (k := 285) hE hK hI (by decide) inG6 (e_285 G o _ _) rfl 0 (by decide) mw_480 rfl dX6_minute_12 ?_
  refine lv_bipush (v := 35) hx hb dX6_minute_15 (by decide) ?_
  refine x_iald (k := 286) (j := 35) hE hK hI (by decide) (e_286 G o) (by decide) (by decide) rfl dX6_minute_17 ?_
  refine lv_topi (fun z1 ez1 => ?_)
  obtain rfl : X 286 35 = z1 := (ez1.trans ((sx_o (by decide)))).symm
  refine lv_if_lt (tgt := 42) hx hb dX6_minute_18 (by decide) (fun q => absurd q h) (fun _ => ?_)
  refine lv_aload_n hx hb dX6_minute_21 rfl (lv_at hl 0 rfl) ?_
  refine x_get (k := 285) hE hK hI (by decide) inG6 (e_285 G o _ _) rfl 0 (by decide) mw_480 rfl dX6_minute_22 ?_
  refine lv_bipush (v := 36) hx hb dX6_minute_25 (by decide) ?_
  refine x_iald (k := 286) (j := 36) hE hK hI (by decide) (e_286 G o) (by decide) (by decide) rfl dX6_minute_27 ?_
  refine lv_topi (fun z2 ez2 => ?_)
  obtain rfl : X 286 36 = z2 := (ez2.trans ((sx_o (by decide)))).symm
  refine lv_aload_n hx hb dX6_minute_28 rfl (lv_at hl 0 rfl) ?_
  refine x_get (k := 285) hE hK hI (by decide) inG6 (e_285 G o _ _) rfl 0 (by decide) mw_480 rfl dX6_minute_29 ?_
  refine lv_bipush (v := 30) hx hb dX6_minute_32 (by decide) ?_
  refine x_iald (k := 286) (j := 30) hE hK hI (by decide) (e_286 G o) (by decide) (by decide) rfl dX6_minute_34 ?_
  refine lv_topi (fun z3 ez3 => ?_)
  obtain rfl : (X 286 30) + 1 = z3 := (ez3.trans (sx_e)).symm
  refine lv_icmp_ne (tgt := 42) hx hb dX6_minute_35 (by decide) (fun _ => ?_) (fun q => absurd q h2)
  refine lv_iconst (v := 0) hx hb dX6_minute_42 (by decide) ?_
  refine lv_istore_n (lv' := [(1, .int 0), (0, .ref (o + 285))]) hx hb dX6_minute_43 rfl hl (by decide) rfl (fun ls hl => ?_)
  exact lp_X6_minute l G o X Y cnt hE hr hlocks hK cnt 0 (sx X 286 30 (X 286 30 + 1)) ⟨by omega, hS.tm⟩ _ _ hI ls (lv_sub hl [1, 0] rfl)
set_option maxRecDepth 100000 in
set_option maxHeartbeats 4000000 in
theorem c_X6_minute_d (l : Launch) (G : GG) (o : Nat) (X : SX) (Y : SY) (cnt : Nat) (i : Nat) (hS : MInv X cnt) (hg : X 286 35 = nI i) (h_i : i < 40) (h : ¬ (X 286 35 < 0)) (h2 : X 286 36 = X 286 30 + 1) : Ct l yX6_minute cX6_minute 2 none 8 176 G o [.ref (o + 285)] X Y none (stM (tmX (fnmX (sx X 286 30 (X 286 30 + 1)) i) cnt) cnt) Y := by
  refine Ct.mk (by decide +kernel) (Nat.le_of_ble_eq_true rfl) rfl ?_
  intro p9 e9 s9 m9 args9 below9 meth9 c9 hE hr hlocks hK hI ls hl
  have hx := hE.1
  have hb := hE.2.1
  have hl : lv_has ls 2 [(0, .ref (o + 285))] := hl
  refine lv_aload_n hx hb dX6_minute_0 rfl (lv_at hl 0 rfl) ?_
  refine x_get (k := 285) hE hK hI (by decide) inG6 (e_285 G o _ _) rfl 0 (by decide) mw_480 rfl dX6_minute_1 ?_
  refine lv_bipush (v := 30) hx hb dX6_minute_4 (by decide) ?_
  refine lv_dup2_11 hx hb dX6_minute_6 rfl rfl ?_
  refine x_iald (k := 286) (j := 30) hE hK hI (by decide) (e_286 G o) (by decide) (by decide) rfl dX6_minute_7 ?_
  refine lv_iconst (v := 1) hx hb dX6_minute_8 (by decide) ?_
  refine lv_iadd hx hb dX6_minute_9 ?_
  refine x_iast (k := 286) (j := 30) hE hK hI (by decide) (e_286 G o) (by decide) (by decide) rfl dX6_minute_10 (fun H locs hI => ?_)
  refine lv_aload_n hx hb dX6_minute_11 rfl (lv_at hl 0 rfl) ?_
  refine x_get (k := 285) hE hK hI (by decide) inG6 (e_285 G o _ _) rfl 0 (by decide) mw_480 rfl dX6_minute_12 ?_
  refine lv_bipush (v := 35) hx hb dX6_minute_15 (by decide) ?_
  refine x_iald (k := 286) (j := 35) hE hK hI (by decide) (e_286 G o) (by decide) (by decide) rfl dX6_minute_17 ?_
  refine lv_topi (fun z1 ez1 => ?_)
  obtain rfl : nI i = z1 := (ez1.trans ((sx_o (by decide)).trans (hg))).symm
  refine lv_if_lt (tgt := 42) hx hb dX6_minute_18 (by decide) (fun q => absurd q (nI_pos (Nat.lt_trans h_i (by decide)))) (fun _ => ?_)
  refine lv_aload_n hx hb dX6_minute_21 rfl (lv_at hl 0 rfl) ?_
  refine x_get (k := 285) hE hK hI (by decide) inG6 (e_285 G o _ _) rfl 0 (by decide) mw_480 rfl dX6_minute_22 ?_
  refine lv_bipush (v := 36) hx hb dX6_minute_25 (by decide) ?_
  refine x_iald (k := 286) (j := 36) hE hK hI (by decide) (e_286 G o) (by decide) (by decide) rfl dX6_minute_27 ?_
  refine lv_topi (fun z2 ez2 => ?_)
  obtain rfl : X 286 36 = z2 := (ez2.trans ((sx_o (by decide)))).symm
  refine lv_aload_n hx hb dX6_minute_28 rfl (lv_at hl 0 rfl) ?_
  refine x_get (k := 285) hE hK hI (by decide) inG6 (e_285 G o _ _) rfl 0 (by decide) mw_480 rfl dX6_minute_29 ?_
  refine lv_bipush (v := 30) hx hb dX6_minute_32 (by decide) ?_
  refine x_iald (k := 286) (j := 30) hE hK hI (by decide) (e_286 G o) (by decide) (by decide) rfl dX6_minute_34 ?_
  refine lv_topi (fun z3 ez3 => ?_)
  obtain rfl : (X 286 30) + 1 = z3 := (ez3.trans (sx_e)).symm
  refine lv_icmp_ne (tgt := 42) hx hb dX6_minute_35 (by decide) (fun q => absurd h2 q) (fun _ => ?_)
  refine lv_aload_n hx hb dX6_minute_38 rfl (lv_at hl 0 rfl) ?_
  refine x_callVv (k := 285) hE hK hI (c_X6_finish l G o _ _ i ((sx_o (by decide)).trans (hg)) h_i) mf_X6_finish mw_652 (by decide) ((e_285 G o) _ _) rfl rfl hl.1 rfl (Nat.le_of_ble_eq_true rfl) ⟨(Nat.le_of_ble_eq_true rfl), (Nat.le_of_ble_eq_true rfl)⟩ ⟨Nat.zero_le _, Nat.zero_le _⟩ dX6_minute_39 (fun H locs hI => ?_)
  refine lv_iconst (v := 0) hx hb dX6_minute_42 (by decide) ?_
  refine lv_istore_n (lv' := [(1, .int 0), (0, .ref (o + 285))]) hx hb dX6_minute_43 rfl hl (by decide) rfl (fun ls hl => ?_)
  exact lp_X6_minute l G o X Y cnt hE hr hlocks hK cnt 0 (fnmX (sx X 286 30 (X 286 30 + 1)) i) ⟨by omega, hS.tm.fn⟩ _ _ hI ls (lv_sub hl [1, 0] rfl)
theorem c_X6_minute (l : Launch) (G : GG) (o : Nat) (X : SX) (Y : SY) (cnt : Nat) (hS : MInv X cnt) : Ct l yX6_minute cX6_minute 2 none 8 176 G o [.ref (o + 285)] X Y none (mnX X cnt) Y := by
  unfold mnX fnF
  rw [show (sx X 286 30 (X 286 30 + 1)) 286 35 = X 286 35 from sx_o (by decide), show (sx X 286 30 (X 286 30 + 1)) 286 36 = X 286 36 from sx_o (by decide), show (sx X 286 30 (X 286 30 + 1)) 286 30 = X 286 30 + 1 from sx_e]
  by_cases h : X 286 35 < 0
  · rw [if_pos h]
    exact c_X6_minute_i l G o X Y cnt hS h
  · rw [if_neg h]
    by_cases h2 : X 286 36 = X 286 30 + 1
    · rw [if_pos h2]
      obtain ⟨i, hi, hg⟩ := hS.2.2.1.resolve_left h
      have h4 := hS.2.1
      have e : (X 286 35).toNatClampNeg = i := by rw [hg]; exact nI_clamp (by omega)
      rw [e]
      exact c_X6_minute_d l G o X Y cnt i hS hg (by omega) h h2
    · rw [if_neg h2]
      exact c_X6_minute_w l G o X Y cnt hS h h2
def adM (cnt : Nat) : Nat → SX → SX
  | 0, Z => Z
  | n + 1, Z => adM cnt n (mnX Z cnt)
theorem MInv.ad {cnt : Nat} : ∀ (n : Nat) {X : SX}, MInv X cnt → MInv (adM cnt n X) cnt
  | 0, _, h => h
  | n + 1, _, h => MInv.ad n h.mn
set_option maxRecDepth 100000 in
set_option maxHeartbeats 4000000 in
theorem c_X6_advance_a (l : Launch) (G : GG) (o : Nat) (X : SX) (Y : SY) (v : Int32) (h : ¬ (Wi v 1 500)) : Ct l yX6_advance cX6_advance 3 (some .int) 1 22 G o [.ref (o + 285), .int v] X Y (some (.int (-3))) X Y := by
  refine Ct.mk (by decide +kernel) (Nat.le_of_ble_eq_true rfl) rfl ?_
  intro p9 e9 s9 m9 args9 below9 meth9 c9 hE hr hlocks hK hI ls hl
  have hx := hE.1
  have hb := hE.2.1
  have hl : lv_has ls 3 [(0, .ref (o + 285)), (1, .int v)] := hl
  refine lv_iload_n hx hb dX6_advance_0 rfl (lv_at hl 1 rfl) ?_
  refine lv_iconst (v := 1) hx hb dX6_advance_1 (by decide) ?_
  refine lv_sipush (v := 500) hx hb dX6_advance_2 (by decide) ?_
  refine x_callSi hE hK hI (c_X6_in l G o _ _ v 1 500 ) mf_X6_in mw_509 rfl hl.1 rfl (Nat.le_of_ble_eq_true rfl) ⟨(Nat.le_of_ble_eq_true rfl), (Nat.le_of_ble_eq_true rfl)⟩ ⟨Nat.zero_le _, Nat.zero_le _⟩ dX6_advance_5 (fun H locs hI => ?_)
  refine lv_topi (fun z1 ez1 => ?_)
  obtain rfl : 0 = z1 := (ez1.trans (bI_f h)).symm
  refine lv_if_ne (tgt := 14) hx hb dX6_advance_8 (by decide) (fun q => absurd (by decide) q) (fun _ => ?_)
  refine lv_bipush (v := (-3)) hx hb dX6_advance_11 (by decide) ?_
  exact x_iret hE hr hlocks hI rfl rfl rfl dX6_advance_13
set_option maxRecDepth 100000 in
set_option maxHeartbeats 4000000 in
theorem lp_X6_advance (l : Launch) (G : GG) (o : Nat) (X : SX) (Y : SY) (mm : Nat) (cnt : Nat) (hm : mm < 2 ^ 31) {p9 : Program} {e9 : Env} {s9 : State} {m9 : MethodId} {args9 : Array Value} {below9 : List Frame} {meth9 : Method} {c9 : Code} (hE : gE p9 m9 c9 cX6_advance 3 s9 args9 yX6_advance.cls) (hr : meth9.sig.returnType = (some .int)) (hlocks : meth9.locks = false) (hK : KK G s9) :
    ∀ (n : Nat) (i : Nat) (Z : SX), i + n = mm ∧ MInv Z cnt → ∀ (H : Heap) (locs : List Loc), In G o Z Y s9.heap H locs → ∀ ls : Array Slot, lv_has ls 3 [(0, .ref (o + 285)), (1, .int (nI mm)), (2, .int (nI i))] → W p9 l e9 (Rm 9 197) s9 m9 args9 below9 meth9 c9 H locs 0 0 (MQ below9 (Qw G o (some (.int (adM cnt n Z 286 30))) (adM cnt n Z) Y) args9 s9 0 0 (rg o)) (F0 m9 16 ls []) := by
  have hx := hE.1
  have hb := hE.2.1
  intro n
  induction n with
  | zero =>
    intro i Z hi H locs hI ls hl
    refine lv_iload_n hx hb dX6_advance_16 rfl (lv_at hl 2 rfl) ?_
    refine lv_iload_n hx hb dX6_advance_17 rfl (lv_at hl 1 rfl) ?_
    refine lv_icmp_ge (tgt := 31) hx hb dX6_advance_18 (by decide) (fun _ => ?_) (fun q => absurd (nI_le (by omega) (by omega)) q)
    refine lv_aload_n hx hb dX6_advance_31 rfl (lv_at hl 0 rfl) ?_
    refine x_get (k := 285) hE hK hI (by decide) inG6 (e_285 G o _ _) rfl 0 (by decide) mw_480 rfl dX6_advance_32 ?_
    refine lv_bipush (v := 30) hx hb dX6_advance_35 (by decide) ?_
    refine x_iald (k := 286) (j := 30) hE hK hI (by decide) (e_286 G o) (by decide) (by decide) rfl dX6_advance_37 ?_
    exact x_iret hE hr hlocks hI rfl rfl rfl dX6_advance_38
  | succ n ih =>
    intro i Z hi H locs hI ls hl
    refine lv_iload_n hx hb dX6_advance_16 rfl (lv_at hl 2 rfl) ?_
    refine lv_iload_n hx hb dX6_advance_17 rfl (lv_at hl 1 rfl) ?_
    refine lv_icmp_ge (tgt := 31) hx hb dX6_advance_18 (by decide) (fun q => absurd q (nI_ge (by omega) (by omega))) (fun _ => ?_)
    refine lv_aload_n hx hb dX6_advance_21 rfl (lv_at hl 0 rfl) ?_
    refine x_callVv (k := 285) hE hK hI (c_X6_minute l G o _ _ cnt hi.2) mf_X6_minute mw_648 (by decide) ((e_285 G o) _ _) rfl rfl hl.1 rfl (Nat.le_of_ble_eq_true rfl) ⟨(Nat.le_of_ble_eq_true rfl), (Nat.le_of_ble_eq_true rfl)⟩ ⟨Nat.zero_le _, Nat.zero_le _⟩ dX6_advance_22 (fun H locs hI => ?_)
    refine lv_iinc (v := nI (i + 1)) (lv' := [(2, .int (nI (i + 1))), (0, .ref (o + 285)), (1, .int (nI mm))]) hx hb dX6_advance_25 hl (k := 2) rfl (nI_add i 1) (by decide) rfl (fun ls hl => ?_)
    refine lv_goto (tgt := 16) hx hb dX6_advance_28 (by decide) ?_
    exact ih (i + 1) (mnX Z cnt) ⟨by omega, hi.2.mn⟩ H locs hI ls (lv_sub hl [1, 2, 0] rfl)
set_option maxRecDepth 100000 in
set_option maxHeartbeats 4000000 in
theorem c_X6_advance_y (l : Launch) (G : GG) (o : Nat) (X : SX) (Y : SY) (mm : Nat) (cnt : Nat) (hm : mm < 2 ^ 31) (h : Wi (nI mm) 1 500) (hS : MInv X cnt) : Ct l yX6_advance cX6_advance 3 (some .int) 9 197 G o [.ref (o + 285), .int (nI mm)] X Y (some (.int (adM cnt mm X 286 30))) (adM cnt mm X) Y := by
  refine Ct.mk (by decide +kernel) (Nat.le_of_ble_eq_true rfl) rfl ?_
  intro p9 e9 s9 m9 args9 below9 meth9 c9 hE hr hlocks hK hI ls hl
  have hx := hE.1
  have hb := hE.2.1
  have hl : lv_has ls 3 [(0, .ref (o + 285)), (1, .int (nI mm))] := hl
  refine lv_iload_n hx hb dX6_advance_0 rfl (lv_at hl 1 rfl) ?_
  refine lv_iconst (v := 1) hx hb dX6_advance_1 (by decide) ?_
  refine lv_sipush (v := 500) hx hb dX6_advance_2 (by decide) ?_
  refine x_callSi hE hK hI (c_X6_in l G o _ _ (nI mm) 1 500 ) mf_X6_in mw_509 rfl hl.1 rfl (Nat.le_of_ble_eq_true rfl) ⟨(Nat.le_of_ble_eq_true rfl), (Nat.le_of_ble_eq_true rfl)⟩ ⟨Nat.zero_le _, Nat.zero_le _⟩ dX6_advance_5 (fun H locs hI => ?_)
  refine lv_topi (fun z1 ez1 => ?_)
  obtain rfl : 1 = z1 := (ez1.trans (bI_t h)).symm
  refine lv_if_ne (tgt := 14) hx hb dX6_advance_8 (by decide) (fun _ => ?_) (fun q => absurd q (by decide))
  refine lv_iconst (v := 0) hx hb dX6_advance_14 (by decide) ?_
  refine lv_istore_n (lv' := [(2, .int 0), (0, .ref (o + 285)), (1, .int (nI mm))]) hx hb dX6_advance_15 rfl hl (by decide) rfl (fun ls hl => ?_)
  exact lp_X6_advance l G o X Y mm cnt hm hE hr hlocks hK mm 0 X ⟨by omega, hS⟩ _ _ hI ls (lv_sub hl [1, 2, 0] rfl)
def mkX (X : SX) (a : Int32) (b : Int32) (c : Int32) (d : Int32) (n : Nat) : SX := sx (sx (sx (sx (sx (sx (sx (sx X 286 ((41 + (8 * n)) + 0) a) 286 ((41 + (8 * n)) + 1) b) 286 ((41 + (8 * n)) + 2) c) 286 ((41 + (8 * n)) + 3) d) 286 ((41 + (8 * n)) + 4) 0) 286 ((41 + (8 * n)) + 6) (-7)) 286 ((41 + (8 * n)) + 7) 0) 286 31 (nI (n + 1))
set_option maxRecDepth 100000 in
set_option maxHeartbeats 4000000 in
theorem c_X6_make (l : Launch) (G : GG) (o : Nat) (X : SX) (Y : SY) (a : Int32) (b : Int32) (c : Int32) (d : Int32) (n : Nat) (hc : X 286 31 = nI n) (h_n : n < 40) : Ct l yX6_make cX6_make 6 (some .int) 1 21 G o [.ref (o + 285), .int a, .int b, .int c, .int d] X Y (some (.int (nI n))) (mkX X a b c d n) Y := by
  refine Ct.mk (by decide +kernel) (Nat.le_of_ble_eq_true rfl) rfl ?_
  intro p9 e9 s9 m9 args9 below9 meth9 c9 hE hr hlocks hK hI ls hl
  have hx := hE.1
  have hb := hE.2.1
  have hl : lv_has ls 6 [(0, .ref (o + 285)), (1, .int a), (2, .int b), (3, .int c), (4, .int d)] := hl
  refine lv_aload_n hx hb dX6_make_0 rfl (lv_at hl 0 rfl) ?_
  refine x_get (k := 285) hE hK hI (by decide) inG6 (e_285 G o _ _) rfl 0 (by decide) mw_480 rfl dX6_make_1 ?_
  refine lv_bipush (v := 31) hx hb dX6_make_4 (by decide) ?_
  refine x_iald (k := 286) (j := 31) hE hK hI (by decide) (e_286 G o) (by decide) (by decide) rfl dX6_make_6 ?_
  refine lv_topi (fun z1 ez1 => ?_)
  obtain rfl : nI n = z1 := (ez1.trans (hc)).symm
  refine lv_istore (lv' := [(5, .int (nI n)), (0, .ref (o + 285)), (1, .int a), (2, .int b), (3, .int c), (4, .int d)]) hx hb dX6_make_7 hl (by decide) rfl (fun ls hl => ?_)
  refine lv_aload_n hx hb dX6_make_9 rfl (lv_at hl 1 rfl) ?_
  refine x_get (k := 285) hE hK hI (by decide) inG6 (e_285 G o _ _) rfl 0 (by decide) mw_480 rfl dX6_make_10 ?_
  refine lv_iload hx hb dX6_make_13 (lv_at hl 0 rfl) ?_
  refine lv_iconst (v := 0) hx hb dX6_make_15 (by decide) ?_
  refine x_callSi hE hK hI (c_X6_lot l G o _ _ n 0 ) mf_X6_lot mw_605 rfl hl.1 rfl (Nat.le_of_ble_eq_true rfl) ⟨(Nat.le_of_ble_eq_true rfl), (Nat.le_of_ble_eq_true rfl)⟩ ⟨Nat.zero_le _, Nat.zero_le _⟩ dX6_make_16 (fun H locs hI => ?_)
  refine lv_iload_n hx hb dX6_make_19 rfl (lv_at hl 2 rfl) ?_
  refine x_iast (k := 286) (j := ((41 + (8 * n)) + 0)) hE hK hI (by decide) (e_286 G o) (by omega) (by decide) rfl dX6_make_20 (fun H locs hI => ?_)
  refine lv_aload_n hx hb dX6_make_21 rfl (lv_at hl 1 rfl) ?_
  refine x_get (k := 285) hE hK hI (by decide) inG6 (e_285 G o _ _) rfl 0 (by decide) mw_480 rfl dX6_make_22 ?_
  refine lv_iload hx hb dX6_make_25 (lv_at hl 0 rfl) ?_
  refine lv_iconst (v := 1) hx hb dX6_make_27 (by decide) ?_
  refine x_callSi hE hK hI (c_X6_lot l G o _ _ n 1 ) mf_X6_lot mw_605 rfl hl.1 rfl (Nat.le_of_ble_eq_true rfl) ⟨(Nat.le_of_ble_eq_true rfl), (Nat.le_of_ble_eq_true rfl)⟩ ⟨Nat.zero_le _, Nat.zero_le _⟩ dX6_make_28 (fun H locs hI => ?_)
  refine lv_iload_n hx hb dX6_make_31 rfl (lv_at hl 3 rfl) ?_
  refine x_iast (k := 286) (j := ((41 + (8 * n)) + 1)) hE hK hI (by decide) (e_286 G o) (by omega) (by decide) rfl dX6_make_32 (fun H locs hI => ?_)
  refine lv_aload_n hx hb dX6_make_33 rfl (lv_at hl 1 rfl) ?_
  refine x_get (k := 285) hE hK hI (by decide) inG6 (e_285 G o _ _) rfl 0 (by decide) mw_480 rfl dX6_make_34 ?_
  refine lv_iload hx hb dX6_make_37 (lv_at hl 0 rfl) ?_
  refine lv_iconst (v := 2) hx hb dX6_make_39 (by decide) ?_
  refine x_callSi hE hK hI (c_X6_lot l G o _ _ n 2 ) mf_X6_lot mw_605 rfl hl.1 rfl (Nat.le_of_ble_eq_true rfl) ⟨(Nat.le_of_ble_eq_true rfl), (Nat.le_of_ble_eq_true rfl)⟩ ⟨Nat.zero_le _, Nat.zero_le _⟩ dX6_make_40 (fun H locs hI => ?_)
  refine lv_iload_n hx hb dX6_make_43 rfl (lv_at hl 4 rfl) ?_
  refine x_iast (k := 286) (j := ((41 + (8 * n)) + 2)) hE hK hI (by decide) (e_286 G o) (by omega) (by decide) rfl dX6_make_44 (fun H locs hI => ?_)
  refine lv_aload_n hx hb dX6_make_45 rfl (lv_at hl 1 rfl) ?_
  refine x_get (k := 285) hE hK hI (by decide) inG6 (e_285 G o _ _) rfl 0 (by decide) mw_480 rfl dX6_make_46 ?_
  refine lv_iload hx hb dX6_make_49 (lv_at hl 0 rfl) ?_
  refine lv_iconst (v := 3) hx hb dX6_make_51 (by decide) ?_
  refine x_callSi hE hK hI (c_X6_lot l G o _ _ n 3 ) mf_X6_lot mw_605 rfl hl.1 rfl (Nat.le_of_ble_eq_true rfl) ⟨(Nat.le_of_ble_eq_true rfl), (Nat.le_of_ble_eq_true rfl)⟩ ⟨Nat.zero_le _, Nat.zero_le _⟩ dX6_make_52 (fun H locs hI => ?_)
  refine lv_iload hx hb dX6_make_55 (lv_at hl 5 rfl) ?_
  refine x_iast (k := 286) (j := ((41 + (8 * n)) + 3)) hE hK hI (by decide) (e_286 G o) (by omega) (by decide) rfl dX6_make_57 (fun H locs hI => ?_)
  refine lv_aload_n hx hb dX6_make_58 rfl (lv_at hl 1 rfl) ?_
  refine x_get (k := 285) hE hK hI (by decide) inG6 (e_285 G o _ _) rfl 0 (by decide) mw_480 rfl dX6_make_59 ?_
  refine lv_iload hx hb dX6_make_62 (lv_at hl 0 rfl) ?_
  refine lv_iconst (v := 4) hx hb dX6_make_64 (by decide) ?_
  refine x_callSi hE hK hI (c_X6_lot l G o _ _ n 4 ) mf_X6_lot mw_605 rfl hl.1 rfl (Nat.le_of_ble_eq_true rfl) ⟨(Nat.le_of_ble_eq_true rfl), (Nat.le_of_ble_eq_true rfl)⟩ ⟨Nat.zero_le _, Nat.zero_le _⟩ dX6_make_65 (fun H locs hI => ?_)
  refine lv_iconst (v := 0) hx hb dX6_make_68 (by decide) ?_
  refine x_iast (k := 286) (j := ((41 + (8 * n)) + 4)) hE hK hI (by decide) (e_286 G o) (by omega) (by decide) rfl dX6_make_69 (fun H locs hI => ?_)
  refine lv_aload_n hx hb dX6_make_70 rfl (lv_at hl 1 rfl) ?_
  refine x_get (k := 285) hE hK hI (by decide) inG6 (e_285 G o _ _) rfl 0 (by decide) mw_480 rfl dX6_make_71 ?_
  refine lv_iload hx hb dX6_make_74 (lv_at hl 0 rfl) ?_
  refine lv_bipush (v := 6) hx hb dX6_make_76 (by decide) ?_
  refine x_callSi hE hK hI (c_X6_lot l G o _ _ n 6 ) mf_X6_lot mw_605 rfl hl.1 rfl (Nat.le_of_ble_eq_true rfl) ⟨(Nat.le_of_ble_eq_true rfl), (Nat.le_of_ble_eq_true rfl)⟩ ⟨Nat.zero_le _, Nat.zero_le _⟩ dX6_make_78 (fun H locs hI => ?_)
  refine lv_bipush (v := (-7)) hx hb dX6_make_81 (by decide) ?_
  refine x_iast (k := 286) (j := ((41 + (8 * n)) + 6)) hE hK hI (by decide) (e_286 G o) (by omega) (by decide) rfl dX6_make_83 (fun H locs hI => ?_)
  refine lv_aload_n hx hb dX6_make_84 rfl (lv_at hl 1 rfl) ?_
  refine x_get (k := 285) hE hK hI (by decide) inG6 (e_285 G o _ _) rfl 0 (by decide) mw_480 rfl dX6_make_85 ?_
  refine lv_iload hx hb dX6_make_88 (lv_at hl 0 rfl) ?_
  refine lv_bipush (v := 7) hx hb dX6_make_90 (by decide) ?_
  refine x_callSi hE hK hI (c_X6_lot l G o _ _ n 7 ) mf_X6_lot mw_605 rfl hl.1 rfl (Nat.le_of_ble_eq_true rfl) ⟨(Nat.le_of_ble_eq_true rfl), (Nat.le_of_ble_eq_true rfl)⟩ ⟨Nat.zero_le _, Nat.zero_le _⟩ dX6_make_92 (fun H locs hI => ?_)
  refine lv_iconst (v := 0) hx hb dX6_make_95 (by decide) ?_
  refine x_iast (k := 286) (j := ((41 + (8 * n)) + 7)) hE hK hI (by decide) (e_286 G o) (by omega) (by decide) rfl dX6_make_96 (fun H locs hI => ?_)
  refine lv_aload_n hx hb dX6_make_97 rfl (lv_at hl 1 rfl) ?_
  refine x_get (k := 285) hE hK hI (by decide) inG6 (e_285 G o _ _) rfl 0 (by decide) mw_480 rfl dX6_make_98 ?_
  refine lv_bipush (v := 31) hx hb dX6_make_101 (by decide) ?_
  refine lv_dup2_11 hx hb dX6_make_103 rfl rfl ?_
  refine x_iald (k := 286) (j := 31) hE hK hI (by decide) (e_286 G o) (by decide) (by decide) rfl dX6_make_104 ?_
  refine lv_topi (fun z2 ez2 => ?_)
  obtain rfl : nI n = z2 := (ez2.trans ((sx_o (by omega)).trans ((sx_o (by omega)).trans ((sx_o (by omega)).trans ((sx_o (by omega)).trans ((sx_o (by omega)).trans ((sx_o (by omega)).trans ((sx_o (by omega)).trans (hc))))))))).symm
  refine lv_iconst (v := 1) hx hb dX6_make_105 (by decide) ?_
  refine lv_iadd hx hb dX6_make_106 ?_
  refine lv_topi (fun z3 ez3 => ?_)
  obtain rfl : nI (n + 1) = z3 := (ez3.trans (nI_add n 1)).symm
  refine x_iast (k := 286) (j := 31) hE hK hI (by decide) (e_286 G o) (by decide) (by decide) rfl dX6_make_107 (fun H locs hI => ?_)
  refine lv_iload hx hb dX6_make_108 (lv_at hl 0 rfl) ?_
  exact x_iret hE hr hlocks hI rfl rfl rfl dX6_make_110
theorem MInv.cm {X : SX} {cnt i : Nat} (h : MInv X cnt) : MInv (cmX X i) cnt := by
  unfold MInv
  rw [cmX_o (by omega), cmX_o (by omega), cmX_o (by omega)]
  exact h
theorem MInv.mk {X : SX} {n : Nat} {a b c d : Int32} (h : MInv X n) (hn : n < 40) : MInv (mkX X a b c d n) (n + 1) := by
  unfold MInv mkX
  simp (disch := omega) only [sx_o, sx_e]
  refine ⟨trivial, by omega, ?_, h.2.2.2⟩
  rcases h.2.2.1 with q | ⟨i, q1, q2⟩
  · exact Or.inl q
  · exact Or.inr ⟨i, by omega, q2⟩
set_option maxRecDepth 100000 in
set_option maxHeartbeats 4000000 in
theorem c_X6_addLot_a (l : Launch) (G : GG) (o : Nat) (X : SX) (Y : SY) (a : Int32) (b : Int32) (c : Int32) (d : Int32) (h : ¬ (MassOK a b c d)) : Ct l yX6_addLot cX6_addLot 6 (some .int) 3 65 G o [.ref (o + 285), .int a, .int b, .int c, .int d] X Y (some (.int (-3))) X Y := by
  refine Ct.mk (by decide +kernel) (Nat.le_of_ble_eq_true rfl) rfl ?_
  intro p9 e9 s9 m9 args9 below9 meth9 c9 hE hr hlocks hK hI ls hl
  have hx := hE.1
  have hb := hE.2.1
  have hl : lv_has ls 6 [(0, .ref (o + 285)), (1, .int a), (2, .int b), (3, .int c), (4, .int d)] := hl
  refine lv_iload_n hx hb dX6_addLot_0 rfl (lv_at hl 1 rfl) ?_
  refine lv_iload_n hx hb dX6_addLot_1 rfl (lv_at hl 2 rfl) ?_
  refine lv_iload_n hx hb dX6_addLot_2 rfl (lv_at hl 3 rfl) ?_
  refine lv_iload hx hb dX6_addLot_3 (lv_at hl 4 rfl) ?_
  refine x_callSi hE hK hI (c_X6_areMasses l G o _ _ a b c d ) mf_X6_areMasses mw_595 rfl hl.1 rfl (Nat.le_of_ble_eq_true rfl) ⟨(Nat.le_of_ble_eq_true rfl), (Nat.le_of_ble_eq_true rfl)⟩ ⟨Nat.zero_le _, Nat.zero_le _⟩ dX6_addLot_5 (fun H locs hI => ?_)
  refine lv_topi (fun z1 ez1 => ?_)
  obtain rfl : 0 = z1 := (ez1.trans (bI_f h)).symm
  refine lv_if_ne (tgt := 14) hx hb dX6_addLot_8 (by decide) (fun q => absurd (by decide) q) (fun _ => ?_)
  refine lv_bipush (v := (-3)) hx hb dX6_addLot_11 (by decide) ?_
  exact x_iret hE hr hlocks hI rfl rfl rfl dX6_addLot_13
set_option maxRecDepth 100000 in
set_option maxHeartbeats 4000000 in
theorem c_X6_addLot_f (l : Launch) (G : GG) (o : Nat) (X : SX) (Y : SY) (a : Int32) (b : Int32) (c : Int32) (d : Int32) (h : MassOK a b c d) (h2 : X 286 31 = 40) : Ct l yX6_addLot cX6_addLot 6 (some .int) 3 65 G o [.ref (o + 285), .int a, .int b, .int c, .int d] X Y (some (.int (-4))) X Y := by
  refine Ct.mk (by decide +kernel) (Nat.le_of_ble_eq_true rfl) rfl ?_
  intro p9 e9 s9 m9 args9 below9 meth9 c9 hE hr hlocks hK hI ls hl
  have hx := hE.1
  have hb := hE.2.1
  have hl : lv_has ls 6 [(0, .ref (o + 285)), (1, .int a), (2, .int b), (3, .int c), (4, .int d)] := hl
  refine lv_iload_n hx hb dX6_addLot_0 rfl (lv_at hl 1 rfl) ?_
  refine lv_iload_n hx hb dX6_addLot_1 rfl (lv_at hl 2 rfl) ?_
  refine lv_iload_n hx hb dX6_addLot_2 rfl (lv_at hl 3 rfl) ?_
  refine lv_iload hx hb dX6_addLot_3 (lv_at hl 4 rfl) ?_
  refine x_callSi hE hK hI (c_X6_areMasses l G o _ _ a b c d ) mf_X6_areMasses mw_595 rfl hl.1 rfl (Nat.le_of_ble_eq_true rfl) ⟨(Nat.le_of_ble_eq_true rfl), (Nat.le_of_ble_eq_true rfl)⟩ ⟨Nat.zero_le _, Nat.zero_le _⟩ dX6_addLot_5 (fun H locs hI => ?_)
  refine lv_topi (fun z1 ez1 => ?_)
  obtain rfl : 1 = z1 := (ez1.trans (bI_t h)).symm
  refine lv_if_ne (tgt := 14) hx hb dX6_addLot_8 (by decide) (fun _ => ?_) (fun q => absurd q (by decide))
  refine lv_aload_n hx hb dX6_addLot_14 rfl (lv_at hl 0 rfl) ?_
  refine x_get (k := 285) hE hK hI (by decide) inG6 (e_285 G o _ _) rfl 0 (by decide) mw_480 rfl dX6_addLot_15 ?_
  refine lv_bipush (v := 31) hx hb dX6_addLot_18 (by decide) ?_
  refine x_iald (k := 286) (j := 31) hE hK hI (by decide) (e_286 G o) (by decide) (by decide) rfl dX6_addLot_20 ?_
  refine lv_bipush (v := 40) hx hb dX6_addLot_21 (by decide) ?_
  refine lv_icmp_ne (tgt := 29) hx hb dX6_addLot_23 (by decide) (fun q => absurd h2 q) (fun _ => ?_)
  refine lv_bipush (v := (-4)) hx hb dX6_addLot_26 (by decide) ?_
  exact x_iret hE hr hlocks hI rfl rfl rfl dX6_addLot_28
set_option maxRecDepth 100000 in
set_option maxHeartbeats 4000000 in
theorem c_X6_addLot_y (l : Launch) (G : GG) (o : Nat) (X : SX) (Y : SY) (a : Int32) (b : Int32) (c : Int32) (d : Int32) (n : Nat) (h : MassOK a b c d) (h2 : ¬ (nI n = 40)) (hS : MInv X n) (h_n : n < 40) : Ct l yX6_addLot cX6_addLot 6 (some .int) 8 176 G o [.ref (o + 285), .int a, .int b, .int c, .int d] X Y (some (.int (nI n))) (stM (cmX (mkX X a b c d n) n) (n + 1)) Y := by
  refine Ct.mk (by decide +kernel) (Nat.le_of_ble_eq_true rfl) rfl ?_
  intro p9 e9 s9 m9 args9 below9 meth9 c9 hE hr hlocks hK hI ls hl
  have hx := hE.1
  have hb := hE.2.1
  have hl : lv_has ls 6 [(0, .ref (o + 285)), (1, .int a), (2, .int b), (3, .int c), (4, .int d)] := hl
  refine lv_iload_n hx hb dX6_addLot_0 rfl (lv_at hl 1 rfl) ?_
  refine lv_iload_n hx hb dX6_addLot_1 rfl (lv_at hl 2 rfl) ?_
  refine lv_iload_n hx hb dX6_addLot_2 rfl (lv_at hl 3 rfl) ?_
  refine lv_iload hx hb dX6_addLot_3 (lv_at hl 4 rfl) ?_
  refine x_callSi hE hK hI (c_X6_areMasses l G o _ _ a b c d ) mf_X6_areMasses mw_595 rfl hl.1 rfl (Nat.le_of_ble_eq_true rfl) ⟨(Nat.le_of_ble_eq_true rfl), (Nat.le_of_ble_eq_true rfl)⟩ ⟨Nat.zero_le _, Nat.zero_le _⟩ dX6_addLot_5 (fun H locs hI => ?_)
  refine lv_topi (fun z1 ez1 => ?_)
  obtain rfl : 1 = z1 := (ez1.trans (bI_t h)).symm
  refine lv_if_ne (tgt := 14) hx hb dX6_addLot_8 (by decide) (fun _ => ?_) (fun q => absurd q (by decide))
  refine lv_aload_n hx hb dX6_addLot_14 rfl (lv_at hl 0 rfl) ?_
  refine x_get (k := 285) hE hK hI (by decide) inG6 (e_285 G o _ _) rfl 0 (by decide) mw_480 rfl dX6_addLot_15 ?_
  refine lv_bipush (v := 31) hx hb dX6_addLot_18 (by decide) ?_
  refine x_iald (k := 286) (j := 31) hE hK hI (by decide) (e_286 G o) (by decide) (by decide) rfl dX6_addLot_20 ?_
  refine lv_topi (fun z2 ez2 => ?_)
  obtain rfl : nI n = z2 := (ez2.trans (hS.1)).symm
  refine lv_bipush (v := 40) hx hb dX6_addLot_21 (by decide) ?_
  refine lv_icmp_ne (tgt := 29) hx hb dX6_addLot_23 (by decide) (fun _ => ?_) (fun q => absurd q h2)
  refine lv_aload_n hx hb dX6_addLot_29 rfl (lv_at hl 0 rfl) ?_
  refine lv_iload_n hx hb dX6_addLot_30 rfl (lv_at hl 1 rfl) ?_
  refine lv_iload_n hx hb dX6_addLot_31 rfl (lv_at hl 2 rfl) ?_
  refine lv_iload_n hx hb dX6_addLot_32 rfl (lv_at hl 3 rfl) ?_
  refine lv_iload hx hb dX6_addLot_33 (lv_at hl 4 rfl) ?_
  refine x_callVi (k := 285) hE hK hI (c_X6_make l G o _ _ a b c d n hS.1 h_n) mf_X6_make mw_601 (by decide) ((e_285 G o) _ _) rfl rfl hl.1 rfl (Nat.le_of_ble_eq_true rfl) ⟨(Nat.le_of_ble_eq_true rfl), (Nat.le_of_ble_eq_true rfl)⟩ ⟨Nat.zero_le _, Nat.zero_le _⟩ dX6_addLot_35 (fun H locs hI => ?_)
  refine lv_istore (lv' := [(5, .int (nI n)), (0, .ref (o + 285)), (1, .int a), (2, .int b), (3, .int c), (4, .int d)]) hx hb dX6_addLot_38 hl (by decide) rfl (fun ls hl => ?_)
  refine lv_aload_n hx hb dX6_addLot_40 rfl (lv_at hl 1 rfl) ?_
  refine lv_iload hx hb dX6_addLot_41 (lv_at hl 0 rfl) ?_
  refine x_callVv (k := 285) hE hK hI (c_X6_comes l G o _ _ n h_n) mf_X6_comes mw_608 (by decide) ((e_285 G o) _ _) rfl rfl hl.1 rfl (Nat.le_of_ble_eq_true rfl) ⟨(Nat.le_of_ble_eq_true rfl), (Nat.le_of_ble_eq_true rfl)⟩ ⟨Nat.zero_le _, Nat.zero_le _⟩ dX6_addLot_43 (fun H locs hI => ?_)
  refine lv_aload_n hx hb dX6_addLot_46 rfl (lv_at hl 1 rfl) ?_
  refine x_callVv (k := 285) hE hK hI (c_X6_start l G o _ _ (n + 1) ((hS.mk h_n).cm)) mf_X6_start mw_612 (by decide) ((e_285 G o) _ _) rfl rfl hl.1 rfl (Nat.le_of_ble_eq_true rfl) ⟨(Nat.le_of_ble_eq_true rfl), (Nat.le_of_ble_eq_true rfl)⟩ ⟨Nat.zero_le _, Nat.zero_le _⟩ dX6_addLot_47 (fun H locs hI => ?_)
  refine lv_iload hx hb dX6_addLot_50 (lv_at hl 0 rfl) ?_
  exact x_iret hE hr hlocks hI rfl rfl rfl dX6_addLot_52
set_option maxRecDepth 100000 in
set_option maxHeartbeats 4000000 in
theorem c_X6_planLot_a (l : Launch) (G : GG) (o : Nat) (X : SX) (Y : SY) (w : Int32) (a : Int32) (b : Int32) (c : Int32) (d : Int32) (h : ¬ (Wi w 1 1000)) : Ct l yX6_planLot cX6_planLot 7 (some .int) 1 22 G o [.ref (o + 285), .int w, .int a, .int b, .int c, .int d] X Y (some (.int (-3))) X Y := by
  refine Ct.mk (by decide +kernel) (Nat.le_of_ble_eq_true rfl) rfl ?_
  intro p9 e9 s9 m9 args9 below9 meth9 c9 hE hr hlocks hK hI ls hl
  have hx := hE.1
  have hb := hE.2.1
  have hl : lv_has ls 7 [(0, .ref (o + 285)), (1, .int w), (2, .int a), (3, .int b), (4, .int c), (5, .int d)] := hl
  refine lv_iload_n hx hb dX6_planLot_0 rfl (lv_at hl 1 rfl) ?_
  refine lv_iconst (v := 1) hx hb dX6_planLot_1 (by decide) ?_
  refine lv_sipush (v := 1000) hx hb dX6_planLot_2 (by decide) ?_
  refine x_callSi hE hK hI (c_X6_in l G o _ _ w 1 1000 ) mf_X6_in mw_509 rfl hl.1 rfl (Nat.le_of_ble_eq_true rfl) ⟨(Nat.le_of_ble_eq_true rfl), (Nat.le_of_ble_eq_true rfl)⟩ ⟨Nat.zero_le _, Nat.zero_le _⟩ dX6_planLot_5 (fun H locs hI => ?_)
  refine lv_topi (fun z1 ez1 => ?_)
  obtain rfl : 0 = z1 := (ez1.trans (bI_f h)).symm
  refine lv_if_eq (tgt := 23) hx hb dX6_planLot_8 (by decide) (fun _ => ?_) (fun q => absurd (by decide) q)
  refine lv_bipush (v := (-3)) hx hb dX6_planLot_23 (by decide) ?_
  exact x_iret hE hr hlocks hI rfl rfl rfl dX6_planLot_25
set_option maxRecDepth 100000 in
set_option maxHeartbeats 4000000 in
theorem c_X6_planLot_b (l : Launch) (G : GG) (o : Nat) (X : SX) (Y : SY) (w : Int32) (a : Int32) (b : Int32) (c : Int32) (d : Int32) (h1 : Wi w 1 1000) (h : ¬ (MassOK a b c d)) : Ct l yX6_planLot cX6_planLot 7 (some .int) 3 65 G o [.ref (o + 285), .int w, .int a, .int b, .int c, .int d] X Y (some (.int (-3))) X Y := by
  refine Ct.mk (by decide +kernel) (Nat.le_of_ble_eq_true rfl) rfl ?_
  intro p9 e9 s9 m9 args9 below9 meth9 c9 hE hr hlocks hK hI ls hl
  have hx := hE.1
  have hb := hE.2.1
  have hl : lv_has ls 7 [(0, .ref (o + 285)), (1, .int w), (2, .int a), (3, .int b), (4, .int c), (5, .int d)] := hl
  refine lv_iload_n hx hb dX6_planLot_0 rfl (lv_at hl 1 rfl) ?_
  refine lv_iconst (v := 1) hx hb dX6_planLot_1 (by decide) ?_
  refine lv_sipush (v := 1000) hx hb dX6_planLot_2 (by decide) ?_
  refine x_callSi hE hK hI (c_X6_in l G o _ _ w 1 1000 ) mf_X6_in mw_509 rfl hl.1 rfl (Nat.le_of_ble_eq_true rfl) ⟨(Nat.le_of_ble_eq_true rfl), (Nat.le_of_ble_eq_true rfl)⟩ ⟨Nat.zero_le _, Nat.zero_le _⟩ dX6_planLot_5 (fun H locs hI => ?_)
  refine lv_topi (fun z1 ez1 => ?_)
  obtain rfl : 1 = z1 := (ez1.trans (bI_t h1)).symm
  refine lv_if_eq (tgt := 23) hx hb dX6_planLot_8 (by decide) (fun q => absurd q (by decide)) (fun _ => ?_)
  refine lv_iload_n hx hb dX6_planLot_11 rfl (lv_at hl 2 rfl) ?_
  refine lv_iload_n hx hb dX6_planLot_12 rfl (lv_at hl 3 rfl) ?_
  refine lv_iload hx hb dX6_planLot_13 (lv_at hl 4 rfl) ?_
  refine lv_iload hx hb dX6_planLot_15 (lv_at hl 5 rfl) ?_
  refine x_callSi hE hK hI (c_X6_areMasses l G o _ _ a b c d ) mf_X6_areMasses mw_595 rfl hl.1 rfl (Nat.le_of_ble_eq_true rfl) ⟨(Nat.le_of_ble_eq_true rfl), (Nat.le_of_ble_eq_true rfl)⟩ ⟨Nat.zero_le _, Nat.zero_le _⟩ dX6_planLot_17 (fun H locs hI => ?_)
  refine lv_topi (fun z2 ez2 => ?_)
  obtain rfl : 0 = z2 := (ez2.trans (bI_f h)).symm
  refine lv_if_ne (tgt := 26) hx hb dX6_planLot_20 (by decide) (fun q => absurd (by decide) q) (fun _ => ?_)
  refine lv_bipush (v := (-3)) hx hb dX6_planLot_23 (by decide) ?_
  exact x_iret hE hr hlocks hI rfl rfl rfl dX6_planLot_25
set_option maxRecDepth 100000 in
set_option maxHeartbeats 4000000 in
theorem c_X6_planLot_f (l : Launch) (G : GG) (o : Nat) (X : SX) (Y : SY) (w : Int32) (a : Int32) (b : Int32) (c : Int32) (d : Int32) (h1 : Wi w 1 1000) (h : MassOK a b c d) (h2 : X 286 31 = 40) : Ct l yX6_planLot cX6_planLot 7 (some .int) 3 65 G o [.ref (o + 285), .int w, .int a, .int b, .int c, .int d] X Y (some (.int (-4))) X Y := by
  refine Ct.mk (by decide +kernel) (Nat.le_of_ble_eq_true rfl) rfl ?_
  intro p9 e9 s9 m9 args9 below9 meth9 c9 hE hr hlocks hK hI ls hl
  have hx := hE.1
  have hb := hE.2.1
  have hl : lv_has ls 7 [(0, .ref (o + 285)), (1, .int w), (2, .int a), (3, .int b), (4, .int c), (5, .int d)] := hl
  refine lv_iload_n hx hb dX6_planLot_0 rfl (lv_at hl 1 rfl) ?_
  refine lv_iconst (v := 1) hx hb dX6_planLot_1 (by decide) ?_
  refine lv_sipush (v := 1000) hx hb dX6_planLot_2 (by decide) ?_
  refine x_callSi hE hK hI (c_X6_in l G o _ _ w 1 1000 ) mf_X6_in mw_509 rfl hl.1 rfl (Nat.le_of_ble_eq_true rfl) ⟨(Nat.le_of_ble_eq_true rfl), (Nat.le_of_ble_eq_true rfl)⟩ ⟨Nat.zero_le _, Nat.zero_le _⟩ dX6_planLot_5 (fun H locs hI => ?_)
  refine lv_topi (fun z1 ez1 => ?_)
  obtain rfl : 1 = z1 := (ez1.trans (bI_t h1)).symm
  refine lv_if_eq (tgt := 23) hx hb dX6_planLot_8 (by decide) (fun q => absurd q (by decide)) (fun _ => ?_)
  refine lv_iload_n hx hb dX6_planLot_11 rfl (lv_at hl 2 rfl) ?_
  refine lv_iload_n hx hb dX6_planLot_12 rfl (lv_at hl 3 rfl) ?_
  refine lv_iload hx hb dX6_planLot_13 (lv_at hl 4 rfl) ?_
  refine lv_iload hx hb dX6_planLot_15 (lv_at hl 5 rfl) ?_
  refine x_callSi hE hK hI (c_X6_areMasses l G o _ _ a b c d ) mf_X6_areMasses mw_595 rfl hl.1 rfl (Nat.le_of_ble_eq_true rfl) ⟨(Nat.le_of_ble_eq_true rfl), (Nat.le_of_ble_eq_true rfl)⟩ ⟨Nat.zero_le _, Nat.zero_le _⟩ dX6_planLot_17 (fun H locs hI => ?_)
  refine lv_topi (fun z2 ez2 => ?_)
  obtain rfl : 1 = z2 := (ez2.trans (bI_t h)).symm
  refine lv_if_ne (tgt := 26) hx hb dX6_planLot_20 (by decide) (fun _ => ?_) (fun q => absurd q (by decide))
  refine lv_aload_n hx hb dX6_planLot_26 rfl (lv_at hl 0 rfl) ?_
  refine x_get (k := 285) hE hK hI (by decide) inG6 (e_285 G o _ _) rfl 0 (by decide) mw_480 rfl dX6_planLot_27 ?_
  refine lv_bipush (v := 31) hx hb dX6_planLot_30 (by decide) ?_
  refine x_iald (k := 286) (j := 31) hE hK hI (by decide) (e_286 G o) (by decide) (by decide) rfl dX6_planLot_32 ?_
  refine lv_bipush (v := 40) hx hb dX6_planLot_33 (by decide) ?_
  refine lv_icmp_ne (tgt := 41) hx hb dX6_planLot_35 (by decide) (fun q => absurd h2 q) (fun _ => ?_)
  refine lv_bipush (v := (-4)) hx hb dX6_planLot_38 (by decide) ?_
  exact x_iret hE hr hlocks hI rfl rfl rfl dX6_planLot_40
set_option maxRecDepth 100000 in
set_option maxHeartbeats 4000000 in
theorem c_X6_planLot_y (l : Launch) (G : GG) (o : Nat) (X : SX) (Y : SY) (w : Int32) (a : Int32) (b : Int32) (c : Int32) (d : Int32) (n : Nat) (h1 : Wi w 1 1000) (h : MassOK a b c d) (h2 : ¬ (nI n = 40)) (hc : X 286 31 = nI n) (h_n : n < 40) : Ct l yX6_planLot cX6_planLot 7 (some .int) 3 65 G o [.ref (o + 285), .int w, .int a, .int b, .int c, .int d] X Y (some (.int (nI n))) (sx (mkX X a b c d n) 286 ((41 + (8 * n)) + 6) (((mkX X a b c d n) 286 30) + w)) Y := by
  refine Ct.mk (by decide +kernel) (Nat.le_of_ble_eq_true rfl) rfl ?_
  intro p9 e9 s9 m9 args9 below9 meth9 c9 hE hr hlocks hK hI ls hl
  have hx := hE.1
  have hb := hE.2.1
  have hl : lv_has ls 7 [(0, .ref (o + 285)), (1, .int w), (2, .int a), (3, .int b), (4, .int c), (5, .int d)] := hl
  refine lv_iload_n hx hb dX6_planLot_0 rfl (lv_at hl 1 rfl) ?_
  refine lv_iconst (v := 1) hx hb dX6_planLot_1 (by decide) ?_
  refine lv_sipush (v := 1000) hx hb dX6_planLot_2 (by decide) ?_
  refine x_callSi hE hK hI (c_X6_in l G o _ _ w 1 1000 ) mf_X6_in mw_509 rfl hl.1 rfl (Nat.le_of_ble_eq_true rfl) ⟨(Nat.le_of_ble_eq_true rfl), (Nat.le_of_ble_eq_true rfl)⟩ ⟨Nat.zero_le _, Nat.zero_le _⟩ dX6_planLot_5 (fun H locs hI => ?_)
  refine lv_topi (fun z1 ez1 => ?_)
  obtain rfl : 1 = z1 := (ez1.trans (bI_t h1)).symm
  refine lv_if_eq (tgt := 23) hx hb dX6_planLot_8 (by decide) (fun q => absurd q (by decide)) (fun _ => ?_)
  refine lv_iload_n hx hb dX6_planLot_11 rfl (lv_at hl 2 rfl) ?_
  refine lv_iload_n hx hb dX6_planLot_12 rfl (lv_at hl 3 rfl) ?_
  refine lv_iload hx hb dX6_planLot_13 (lv_at hl 4 rfl) ?_
  refine lv_iload hx hb dX6_planLot_15 (lv_at hl 5 rfl) ?_
  refine x_callSi hE hK hI (c_X6_areMasses l G o _ _ a b c d ) mf_X6_areMasses mw_595 rfl hl.1 rfl (Nat.le_of_ble_eq_true rfl) ⟨(Nat.le_of_ble_eq_true rfl), (Nat.le_of_ble_eq_true rfl)⟩ ⟨Nat.zero_le _, Nat.zero_le _⟩ dX6_planLot_17 (fun H locs hI => ?_)
  refine lv_topi (fun z2 ez2 => ?_)
  obtain rfl : 1 = z2 := (ez2.trans (bI_t h)).symm
  refine lv_if_ne (tgt := 26) hx hb dX6_planLot_20 (by decide) (fun _ => ?_) (fun q => absurd q (by decide))
  refine lv_aload_n hx hb dX6_planLot_26 rfl (lv_at hl 0 rfl) ?_
  refine x_get (k := 285) hE hK hI (by decide) inG6 (e_285 G o _ _) rfl 0 (by decide) mw_480 rfl dX6_planLot_27 ?_
  refine lv_bipush (v := 31) hx hb dX6_planLot_30 (by decide) ?_
  refine x_iald (k := 286) (j := 31) hE hK hI (by decide) (e_286 G o) (by decide) (by decide) rfl dX6_planLot_32 ?_
  refine lv_topi (fun z3 ez3 => ?_)
  obtain rfl : nI n = z3 := (ez3.trans (hc)).symm
  refine lv_bipush (v := 40) hx hb dX6_planLot_33 (by decide) ?_
  refine lv_icmp_ne (tgt := 41) hx hb dX6_planLot_35 (by decide) (fun _ => ?_) (fun q => absurd q h2)
  refine lv_aload_n hx hb dX6_planLot_41 rfl (lv_at hl 0 rfl) ?_
  refine lv_iload_n hx hb dX6_planLot_42 rfl (lv_at hl 2 rfl) ?_
  refine lv_iload_n hx hb dX6_planLot_43 rfl (lv_at hl 3 rfl) ?_
  refine lv_iload hx hb dX6_planLot_44 (lv_at hl 4 rfl) ?_
  refine lv_iload hx hb dX6_planLot_46 (lv_at hl 5 rfl) ?_
  refine x_callVi (k := 285) hE hK hI (c_X6_make l G o _ _ a b c d n hc h_n) mf_X6_make mw_601 (by decide) ((e_285 G o) _ _) rfl rfl hl.1 rfl (Nat.le_of_ble_eq_true rfl) ⟨(Nat.le_of_ble_eq_true rfl), (Nat.le_of_ble_eq_true rfl)⟩ ⟨Nat.zero_le _, Nat.zero_le _⟩ dX6_planLot_48 (fun H locs hI => ?_)
  refine lv_istore (lv' := [(6, .int (nI n)), (0, .ref (o + 285)), (1, .int w), (2, .int a), (3, .int b), (4, .int c), (5, .int d)]) hx hb dX6_planLot_51 hl (by decide) rfl (fun ls hl => ?_)
  refine lv_aload_n hx hb dX6_planLot_53 rfl (lv_at hl 1 rfl) ?_
  refine x_get (k := 285) hE hK hI (by decide) inG6 (e_285 G o _ _) rfl 0 (by decide) mw_480 rfl dX6_planLot_54 ?_
  refine lv_iload hx hb dX6_planLot_57 (lv_at hl 0 rfl) ?_
  refine lv_bipush (v := 6) hx hb dX6_planLot_59 (by decide) ?_
  refine x_callSi hE hK hI (c_X6_lot l G o _ _ n 6 ) mf_X6_lot mw_605 rfl hl.1 rfl (Nat.le_of_ble_eq_true rfl) ⟨(Nat.le_of_ble_eq_true rfl), (Nat.le_of_ble_eq_true rfl)⟩ ⟨Nat.zero_le _, Nat.zero_le _⟩ dX6_planLot_61 (fun H locs hI => ?_)
  refine lv_aload_n hx hb dX6_planLot_64 rfl (lv_at hl 1 rfl) ?_
  refine x_get (k := 285) hE hK hI (by decide) inG6 (e_285 G o _ _) rfl 0 (by decide) mw_480 rfl dX6_planLot_65 ?_
  refine lv_bipush (v := 30) hx hb dX6_planLot_68 (by decide) ?_
  refine x_iald (k := 286) (j := 30) hE hK hI (by decide) (e_286 G o) (by decide) (by decide) rfl dX6_planLot_70 ?_
  refine lv_iload_n hx hb dX6_planLot_71 rfl (lv_at hl 2 rfl) ?_
  refine lv_iadd hx hb dX6_planLot_72 ?_
  refine x_iast (k := 286) (j := ((41 + (8 * n)) + 6)) hE hK hI (by decide) (e_286 G o) (by omega) (by decide) rfl dX6_planLot_73 (fun H locs hI => ?_)
  refine lv_iload hx hb dX6_planLot_74 (lv_at hl 0 rfl) ?_
  exact x_iret hE hr hlocks hI rfl rfl rfl dX6_planLot_76
set_option maxRecDepth 100000 in
set_option maxHeartbeats 4000000 in
theorem c_X6_setRate_a (l : Launch) (G : GG) (o : Nat) (X : SX) (Y : SY) (v : Int32) (h : ¬ (Wi v 1 100)) : Ct l yX6_setRate cX6_setRate 2 (some .int) 1 22 G o [.ref (o + 285), .int v] X Y (some (.int (-3))) X Y := by
  refine Ct.mk (by decide +kernel) (Nat.le_of_ble_eq_true rfl) rfl ?_
  intro p9 e9 s9 m9 args9 below9 meth9 c9 hE hr hlocks hK hI ls hl
  have hx := hE.1
  have hb := hE.2.1
  have hl : lv_has ls 2 [(0, .ref (o + 285)), (1, .int v)] := hl
  refine lv_iload_n hx hb dX6_setRate_0 rfl (lv_at hl 1 rfl) ?_
  refine lv_iconst (v := 1) hx hb dX6_setRate_1 (by decide) ?_
  refine lv_bipush (v := 100) hx hb dX6_setRate_2 (by decide) ?_
  refine x_callSi hE hK hI (c_X6_in l G o _ _ v 1 100 ) mf_X6_in mw_509 rfl hl.1 rfl (Nat.le_of_ble_eq_true rfl) ⟨(Nat.le_of_ble_eq_true rfl), (Nat.le_of_ble_eq_true rfl)⟩ ⟨Nat.zero_le _, Nat.zero_le _⟩ dX6_setRate_4 (fun H locs hI => ?_)
  refine lv_topi (fun z1 ez1 => ?_)
  obtain rfl : 0 = z1 := (ez1.trans (bI_f h)).symm
  refine lv_if_eq (tgt := 20) hx hb dX6_setRate_7 (by decide) (fun _ => ?_) (fun q => absurd (by decide) q)
  refine lv_bipush (v := (-3)) hx hb dX6_setRate_20 (by decide) ?_
  exact x_iret hE hr hlocks hI rfl rfl rfl dX6_setRate_22
set_option maxRecDepth 100000 in
set_option maxHeartbeats 4000000 in
theorem c_X6_setRate_y (l : Launch) (G : GG) (o : Nat) (X : SX) (Y : SY) (v : Int32) (h : Wi v 1 100) : Ct l yX6_setRate cX6_setRate 2 (some .int) 1 23 G o [.ref (o + 285), .int v] X Y (some (.int (X 286 28))) (sx X 286 28 v) Y := by
  refine Ct.mk (by decide +kernel) (Nat.le_of_ble_eq_true rfl) rfl ?_
  intro p9 e9 s9 m9 args9 below9 meth9 c9 hE hr hlocks hK hI ls hl
  have hx := hE.1
  have hb := hE.2.1
  have hl : lv_has ls 2 [(0, .ref (o + 285)), (1, .int v)] := hl
  refine lv_iload_n hx hb dX6_setRate_0 rfl (lv_at hl 1 rfl) ?_
  refine lv_iconst (v := 1) hx hb dX6_setRate_1 (by decide) ?_
  refine lv_bipush (v := 100) hx hb dX6_setRate_2 (by decide) ?_
  refine x_callSi hE hK hI (c_X6_in l G o _ _ v 1 100 ) mf_X6_in mw_509 rfl hl.1 rfl (Nat.le_of_ble_eq_true rfl) ⟨(Nat.le_of_ble_eq_true rfl), (Nat.le_of_ble_eq_true rfl)⟩ ⟨Nat.zero_le _, Nat.zero_le _⟩ dX6_setRate_4 (fun H locs hI => ?_)
  refine lv_topi (fun z1 ez1 => ?_)
  obtain rfl : 1 = z1 := (ez1.trans (bI_t h)).symm
  refine lv_if_eq (tgt := 20) hx hb dX6_setRate_7 (by decide) (fun q => absurd q (by decide)) (fun _ => ?_)
  refine lv_aload_n hx hb dX6_setRate_10 rfl (lv_at hl 0 rfl) ?_
  refine lv_bipush (v := 28) hx hb dX6_setRate_11 (by decide) ?_
  refine lv_iload_n hx hb dX6_setRate_13 rfl (lv_at hl 1 rfl) ?_
  refine x_callVi (k := 285) hE hK hI (c_X6_set l G o _ _ 28 v (by decide)) mf_X6_set mw_524 (by decide) ((e_285 G o) _ _) rfl rfl hl.1 rfl (Nat.le_of_ble_eq_true rfl) ⟨(Nat.le_of_ble_eq_true rfl), (Nat.le_of_ble_eq_true rfl)⟩ ⟨Nat.zero_le _, Nat.zero_le _⟩ dX6_setRate_14 (fun H locs hI => ?_)
  refine lv_goto (tgt := 22) hx hb dX6_setRate_17 (by decide) ?_
  exact x_iret hE hr hlocks hI rfl rfl rfl dX6_setRate_22
set_option maxRecDepth 100000 in
set_option maxHeartbeats 4000000 in
theorem c_X6_setRule_a (l : Launch) (G : GG) (o : Nat) (X : SX) (Y : SY) (v : Int32) (h : ¬ (Wi v 0 2)) : Ct l yX6_setRule cX6_setRule 2 (some .int) 1 22 G o [.ref (o + 285), .int v] X Y (some (.int (-3))) X Y := by
  refine Ct.mk (by decide +kernel) (Nat.le_of_ble_eq_true rfl) rfl ?_
  intro p9 e9 s9 m9 args9 below9 meth9 c9 hE hr hlocks hK hI ls hl
  have hx := hE.1
  have hb := hE.2.1
  have hl : lv_has ls 2 [(0, .ref (o + 285)), (1, .int v)] := hl
  refine lv_iload_n hx hb dX6_setRule_0 rfl (lv_at hl 1 rfl) ?_
  refine lv_iconst (v := 0) hx hb dX6_setRule_1 (by decide) ?_
  refine lv_iconst (v := 2) hx hb dX6_setRule_2 (by decide) ?_
  refine x_callSi hE hK hI (c_X6_in l G o _ _ v 0 2 ) mf_X6_in mw_509 rfl hl.1 rfl (Nat.le_of_ble_eq_true rfl) ⟨(Nat.le_of_ble_eq_true rfl), (Nat.le_of_ble_eq_true rfl)⟩ ⟨Nat.zero_le _, Nat.zero_le _⟩ dX6_setRule_3 (fun H locs hI => ?_)
  refine lv_topi (fun z1 ez1 => ?_)
  obtain rfl : 0 = z1 := (ez1.trans (bI_f h)).symm
  refine lv_if_eq (tgt := 19) hx hb dX6_setRule_6 (by decide) (fun _ => ?_) (fun q => absurd (by decide) q)
  refine lv_bipush (v := (-3)) hx hb dX6_setRule_19 (by decide) ?_
  exact x_iret hE hr hlocks hI rfl rfl rfl dX6_setRule_21
set_option maxRecDepth 100000 in
set_option maxHeartbeats 4000000 in
theorem c_X6_setRule_y (l : Launch) (G : GG) (o : Nat) (X : SX) (Y : SY) (v : Int32) (h : Wi v 0 2) : Ct l yX6_setRule cX6_setRule 2 (some .int) 1 23 G o [.ref (o + 285), .int v] X Y (some (.int (X 286 29))) (sx X 286 29 v) Y := by
  refine Ct.mk (by decide +kernel) (Nat.le_of_ble_eq_true rfl) rfl ?_
  intro p9 e9 s9 m9 args9 below9 meth9 c9 hE hr hlocks hK hI ls hl
  have hx := hE.1
  have hb := hE.2.1
  have hl : lv_has ls 2 [(0, .ref (o + 285)), (1, .int v)] := hl
  refine lv_iload_n hx hb dX6_setRule_0 rfl (lv_at hl 1 rfl) ?_
  refine lv_iconst (v := 0) hx hb dX6_setRule_1 (by decide) ?_
  refine lv_iconst (v := 2) hx hb dX6_setRule_2 (by decide) ?_
  refine x_callSi hE hK hI (c_X6_in l G o _ _ v 0 2 ) mf_X6_in mw_509 rfl hl.1 rfl (Nat.le_of_ble_eq_true rfl) ⟨(Nat.le_of_ble_eq_true rfl), (Nat.le_of_ble_eq_true rfl)⟩ ⟨Nat.zero_le _, Nat.zero_le _⟩ dX6_setRule_3 (fun H locs hI => ?_)
  refine lv_topi (fun z1 ez1 => ?_)
  obtain rfl : 1 = z1 := (ez1.trans (bI_t h)).symm
  refine lv_if_eq (tgt := 19) hx hb dX6_setRule_6 (by decide) (fun q => absurd q (by decide)) (fun _ => ?_)
  refine lv_aload_n hx hb dX6_setRule_9 rfl (lv_at hl 0 rfl) ?_
  refine lv_bipush (v := 29) hx hb dX6_setRule_10 (by decide) ?_
  refine lv_iload_n hx hb dX6_setRule_12 rfl (lv_at hl 1 rfl) ?_
  refine x_callVi (k := 285) hE hK hI (c_X6_set l G o _ _ 29 v (by decide)) mf_X6_set mw_524 (by decide) ((e_285 G o) _ _) rfl rfl hl.1 rfl (Nat.le_of_ble_eq_true rfl) ⟨(Nat.le_of_ble_eq_true rfl), (Nat.le_of_ble_eq_true rfl)⟩ ⟨Nat.zero_le _, Nat.zero_le _⟩ dX6_setRule_13 (fun H locs hI => ?_)
  refine lv_goto (tgt := 21) hx hb dX6_setRule_16 (by decide) ?_
  exact x_iret hE hr hlocks hI rfl rfl rfl dX6_setRule_21
set_option maxRecDepth 100000 in
set_option maxHeartbeats 4000000 in
theorem lp_X6_bin (l : Launch) (G : GG) (o : Nat) (X : SX) (Y : SY) (cnt : Nat) (hc : X 286 31 = nI cnt) (h40 : cnt ≤ 40) {p9 : Program} {e9 : Env} {s9 : State} {m9 : MethodId} {args9 : Array Value} {below9 : List Frame} {meth9 : Method} {c9 : Code} (hE : gE p9 m9 c9 cX6_bin 4 s9 args9 yX6_bin.cls) (hr : meth9.sig.returnType = (some .int)) (hlocks : meth9.locks = false) (hK : KK G s9) :
    ∀ (n : Nat) (i : Nat), i + n = cnt → ∀ (H : Heap) (locs : List Loc), In G o X Y s9.heap H locs → ∀ ls : Array Slot, lv_has ls 4 [(0, .ref (o + 285)), (1, .int (-1)), (2, .int (nI (cntP (pBM X) i))), (3, .int (nI i))] → W p9 l e9 (Rm 2 43) s9 m9 args9 below9 meth9 c9 H locs 0 0 (MQ below9 (Qw G o (some (.int (nI (cntP (pBM X) cnt)))) X Y) args9 s9 0 0 (rg o)) (F0 m9 24 ls []) := by
  have hx := hE.1
  have hb := hE.2.1
  intro n
  induction n with
  | zero =>
    intro i hi H locs hI ls hl
    have ei : i = cnt := by omega
    refine lv_iload_n hx hb dX6_bin_24 rfl (lv_at hl 3 rfl) ?_
    refine lv_aload_n hx hb dX6_bin_25 rfl (lv_at hl 0 rfl) ?_
    refine x_get (k := 285) hE hK hI (by decide) inG6 (e_285 G o _ _) rfl 0 (by decide) mw_480 rfl dX6_bin_26 ?_
    refine lv_bipush (v := 31) hx hb dX6_bin_29 (by decide) ?_
    refine x_iald (k := 286) (j := 31) hE hK hI (by decide) (e_286 G o) (by decide) (by decide) rfl dX6_bin_31 ?_
    refine lv_topi (fun z1 ez1 => ?_)
    obtain rfl : nI cnt = z1 := (ez1.trans (hc)).symm
    refine lv_icmp_ge (tgt := 59) hx hb dX6_bin_32 (by decide) (fun _ => ?_) (fun q => absurd (nI_le (by omega) (by omega)) q)
    refine lv_iload_n hx hb dX6_bin_59 rfl (lv_at hl 2 rfl) ?_
    exact x_iret hE hr hlocks hI (by rw [ei]) rfl rfl dX6_bin_60
  | succ n ih =>
    intro i hi H locs hI ls hl
    have h_i : i < 40 := by omega
    refine lv_iload_n hx hb dX6_bin_24 rfl (lv_at hl 3 rfl) ?_
    refine lv_aload_n hx hb dX6_bin_25 rfl (lv_at hl 0 rfl) ?_
    refine x_get (k := 285) hE hK hI (by decide) inG6 (e_285 G o _ _) rfl 0 (by decide) mw_480 rfl dX6_bin_26 ?_
    refine lv_bipush (v := 31) hx hb dX6_bin_29 (by decide) ?_
    refine x_iald (k := 286) (j := 31) hE hK hI (by decide) (e_286 G o) (by decide) (by decide) rfl dX6_bin_31 ?_
    refine lv_topi (fun z1 ez1 => ?_)
    obtain rfl : nI cnt = z1 := (ez1.trans (hc)).symm
    refine lv_icmp_ge (tgt := 59) hx hb dX6_bin_32 (by decide) (fun q => absurd q (nI_ge (by omega) (by omega))) (fun _ => ?_)
    refine lv_iload_n hx hb dX6_bin_35 rfl (lv_at hl 2 rfl) ?_
    refine lv_aload_n hx hb dX6_bin_36 rfl (lv_at hl 0 rfl) ?_
    refine lv_iload_n hx hb dX6_bin_37 rfl (lv_at hl 3 rfl) ?_
    refine lv_iconst (v := 4) hx hb dX6_bin_38 (by decide) ?_
    refine x_callVi (k := 285) hE hK hI (c_X6_of l G o _ _ i 4 h_i (by decide)) mf_X6_of mw_620 (by decide) ((e_285 G o) _ _) rfl rfl hl.1 rfl (Nat.le_of_ble_eq_true rfl) ⟨(Nat.le_of_ble_eq_true rfl), (Nat.le_of_ble_eq_true rfl)⟩ ⟨Nat.zero_le _, Nat.zero_le _⟩ dX6_bin_39 (fun H locs hI => ?_)
    refine lv_iconst (v := 1) hx hb dX6_bin_42 (by decide) ?_
    refine lv_icmp_ne (tgt := 50) hx hb dX6_bin_43 (by decide) (fun c2 => ?_) (fun c2 => ?_)
    · refine lv_iconst (v := 0) hx hb dX6_bin_50 (by decide) ?_
      refine lv_iadd hx hb dX6_bin_51 ?_
      refine lv_topi (fun z3 ez3 => ?_)
      obtain rfl : nI ((cntP (pBM X) i) + 0) = z3 := (ez3.trans (nI_add (cntP (pBM X) i) 0)).symm
      refine lv_istore_n (lv' := [(2, .int (nI ((cntP (pBM X) i) + 0))), (0, .ref (o + 285)), (1, .int (-1)), (3, .int (nI i))]) hx hb dX6_bin_52 rfl hl (by decide) rfl (fun ls hl => ?_)
      refine lv_iinc (v := nI (i + 1)) (lv' := [(3, .int (nI (i + 1))), (2, .int (nI ((cntP (pBM X) i) + 0))), (0, .ref (o + 285)), (1, .int (-1))]) hx hb dX6_bin_53 hl (k := 3) rfl (nI_add i 1) (by decide) rfl (fun ls hl => ?_)
      refine lv_goto (tgt := 24) hx hb dX6_bin_56 (by decide) ?_
      have ih' := ih (i + 1) (by omega) H locs hI ls
      rw [show cntP (pBM X) (i + 1) = (cntP (pBM X) i) + 0 from if_neg c2] at ih'
      exact ih' (lv_sub hl [2, 3, 1, 0] rfl)
    · refine lv_iconst (v := 1) hx hb dX6_bin_46 (by decide) ?_
      refine lv_goto (tgt := 51) hx hb dX6_bin_47 (by decide) ?_
      refine lv_iadd hx hb dX6_bin_51 ?_
      refine lv_topi (fun z4 ez4 => ?_)
      obtain rfl : nI ((cntP (pBM X) i) + 1) = z4 := (ez4.trans (nI_add (cntP (pBM X) i) 1)).symm
      refine lv_istore_n (lv' := [(2, .int (nI ((cntP (pBM X) i) + 1))), (0, .ref (o + 285)), (1, .int (-1)), (3, .int (nI i))]) hx hb dX6_bin_52 rfl hl (by decide) rfl (fun ls hl => ?_)
      refine lv_iinc (v := nI (i + 1)) (lv' := [(3, .int (nI (i + 1))), (2, .int (nI ((cntP (pBM X) i) + 1))), (0, .ref (o + 285)), (1, .int (-1))]) hx hb dX6_bin_53 hl (k := 3) rfl (nI_add i 1) (by decide) rfl (fun ls hl => ?_)
      refine lv_goto (tgt := 24) hx hb dX6_bin_56 (by decide) ?_
      have ih' := ih (i + 1) (by omega) H locs hI ls
      rw [show cntP (pBM X) (i + 1) = (cntP (pBM X) i) + 1 from if_pos c2] at ih'
      exact ih' (lv_sub hl [2, 3, 1, 0] rfl)
set_option maxRecDepth 100000 in
set_option maxHeartbeats 4000000 in
theorem c_X6_bin_c (l : Launch) (G : GG) (o : Nat) (X : SX) (Y : SY) (cnt : Nat) (hc : X 286 31 = nI cnt) (h40 : cnt ≤ 40) : Ct l yX6_bin cX6_bin 4 (some .int) 2 43 G o [.ref (o + 285), .int (-1)] X Y (some (.int (nI (cntP (pBM X) cnt)))) X Y := by
  refine Ct.mk (by decide +kernel) (Nat.le_of_ble_eq_true rfl) rfl ?_
  intro p9 e9 s9 m9 args9 below9 meth9 c9 hE hr hlocks hK hI ls hl
  have hx := hE.1
  have hb := hE.2.1
  have hl : lv_has ls 4 [(0, .ref (o + 285)), (1, .int (-1))] := hl
  refine lv_iload_n hx hb dX6_bin_0 rfl (lv_at hl 1 rfl) ?_
  refine lv_iconst (v := (-1)) hx hb dX6_bin_1 (by decide) ?_
  refine lv_icmp_eq (tgt := 20) hx hb dX6_bin_2 (by decide) (fun _ => ?_) (fun q => absurd (by decide) q)
  refine lv_iconst (v := 0) hx hb dX6_bin_20 (by decide) ?_
  refine lv_istore_n (lv' := [(2, .int 0), (0, .ref (o + 285)), (1, .int (-1))]) hx hb dX6_bin_21 rfl hl (by decide) rfl (fun ls hl => ?_)
  refine lv_iconst (v := 0) hx hb dX6_bin_22 (by decide) ?_
  refine lv_istore_n (lv' := [(3, .int 0), (2, .int 0), (0, .ref (o + 285)), (1, .int (-1))]) hx hb dX6_bin_23 rfl hl (by decide) rfl (fun ls hl => ?_)
  exact lp_X6_bin l G o X Y cnt hc h40 hE hr hlocks hK cnt 0 (by omega) _ _ hI ls (lv_sub hl [2, 3, 1, 0] rfl)
set_option maxRecDepth 100000 in
set_option maxHeartbeats 4000000 in
theorem c_X6_bin_m (l : Launch) (G : GG) (o : Nat) (X : SX) (Y : SY) (v : Int32) (h1 : ¬ (v = (-1))) (h : ¬ (0 ≤ v)) : Ct l yX6_bin cX6_bin 4 (some .int) 0 0 G o [.ref (o + 285), .int v] X Y (some (.int (-7))) X Y := by
  refine Ct.mk (by decide +kernel) (Nat.le_of_ble_eq_true rfl) rfl ?_
  intro p9 e9 s9 m9 args9 below9 meth9 c9 hE hr hlocks hK hI ls hl
  have hx := hE.1
  have hb := hE.2.1
  have hl : lv_has ls 4 [(0, .ref (o + 285)), (1, .int v)] := hl
  refine lv_iload_n hx hb dX6_bin_0 rfl (lv_at hl 1 rfl) ?_
  refine lv_iconst (v := (-1)) hx hb dX6_bin_1 (by decide) ?_
  refine lv_icmp_eq (tgt := 20) hx hb dX6_bin_2 (by decide) (fun q => absurd q h1) (fun _ => ?_)
  refine lv_iload_n hx hb dX6_bin_5 rfl (lv_at hl 1 rfl) ?_
  refine lv_if_ge (tgt := 14) hx hb dX6_bin_6 (by decide) (fun q => absurd q h) (fun _ => ?_)
  refine lv_bipush (v := (-7)) hx hb dX6_bin_9 (by decide) ?_
  refine lv_goto (tgt := 19) hx hb dX6_bin_11 (by decide) ?_
  exact x_iret hE hr hlocks hI rfl rfl rfl dX6_bin_19
set_option maxRecDepth 100000 in
set_option maxHeartbeats 4000000 in
theorem c_X6_bin_y (l : Launch) (G : GG) (o : Nat) (X : SX) (Y : SY) (v : Int32) (cnt : Nat) (hc : X 286 31 = nI cnt) (h40 : cnt ≤ 40) (h1 : ¬ (v = (-1))) (h : 0 ≤ v) : Ct l yX6_bin cX6_bin 4 (some .int) 7 155 G o [.ref (o + 285), .int v] X Y (some (.int (oI (-7) (fndP (fun a => pBM X a ∧ nI (cntP (fun q => ¬ nI q = nI a ∧ pBM X q ∧ ahM X q a) cnt) = v) cnt 0)))) X Y := by
  refine Ct.mk (by decide +kernel) (Nat.le_of_ble_eq_true rfl) rfl ?_
  intro p9 e9 s9 m9 args9 below9 meth9 c9 hE hr hlocks hK hI ls hl
  have hx := hE.1
  have hb := hE.2.1
  have hl : lv_has ls 4 [(0, .ref (o + 285)), (1, .int v)] := hl
  refine lv_iload_n hx hb dX6_bin_0 rfl (lv_at hl 1 rfl) ?_
  refine lv_iconst (v := (-1)) hx hb dX6_bin_1 (by decide) ?_
  refine lv_icmp_eq (tgt := 20) hx hb dX6_bin_2 (by decide) (fun q => absurd q h1) (fun _ => ?_)
  refine lv_iload_n hx hb dX6_bin_5 rfl (lv_at hl 1 rfl) ?_
  refine lv_if_ge (tgt := 14) hx hb dX6_bin_6 (by decide) (fun _ => ?_) (fun q => absurd h q)
  refine lv_aload_n hx hb dX6_bin_14 rfl (lv_at hl 0 rfl) ?_
  refine lv_iload_n hx hb dX6_bin_15 rfl (lv_at hl 1 rfl) ?_
  refine x_callVi (k := 285) hE hK hI (c_X6_inBin l G o _ _ v cnt hc h40) mf_X6_inBin mw_616 (by decide) ((e_285 G o) _ _) rfl rfl hl.1 rfl (Nat.le_of_ble_eq_true rfl) ⟨(Nat.le_of_ble_eq_true rfl), (Nat.le_of_ble_eq_true rfl)⟩ ⟨Nat.zero_le _, Nat.zero_le _⟩ dX6_bin_16 (fun H locs hI => ?_)
  exact x_iret hE hr hlocks hI rfl rfl rfl dX6_bin_19
set_option maxRecDepth 100000 in
set_option maxHeartbeats 4000000 in
theorem c_X6_mill_a (l : Launch) (G : GG) (o : Nat) (X : SX) (Y : SY) (v : Int32) (h : ¬ (Wi v 0 1)) : Ct l yX6_mill cX6_mill 2 (some .int) 1 22 G o [.ref (o + 285), .int v] X Y (some (.int (-3))) X Y := by
  refine Ct.mk (by decide +kernel) (Nat.le_of_ble_eq_true rfl) rfl ?_
  intro p9 e9 s9 m9 args9 below9 meth9 c9 hE hr hlocks hK hI ls hl
  have hx := hE.1
  have hb := hE.2.1
  have hl : lv_has ls 2 [(0, .ref (o + 285)), (1, .int v)] := hl
  refine lv_iload_n hx hb dX6_mill_0 rfl (lv_at hl 1 rfl) ?_
  refine lv_iconst (v := 0) hx hb dX6_mill_1 (by decide) ?_
  refine lv_iconst (v := 1) hx hb dX6_mill_2 (by decide) ?_
  refine x_callSi hE hK hI (c_X6_in l G o _ _ v 0 1 ) mf_X6_in mw_509 rfl hl.1 rfl (Nat.le_of_ble_eq_true rfl) ⟨(Nat.le_of_ble_eq_true rfl), (Nat.le_of_ble_eq_true rfl)⟩ ⟨Nat.zero_le _, Nat.zero_le _⟩ dX6_mill_3 (fun H locs hI => ?_)
  refine lv_topi (fun z1 ez1 => ?_)
  obtain rfl : 0 = z1 := (ez1.trans (bI_f h)).symm
  refine lv_if_ne (tgt := 12) hx hb dX6_mill_6 (by decide) (fun q => absurd (by decide) q) (fun _ => ?_)
  refine lv_bipush (v := (-3)) hx hb dX6_mill_9 (by decide) ?_
  exact x_iret hE hr hlocks hI rfl rfl rfl dX6_mill_11
set_option maxRecDepth 100000 in
set_option maxHeartbeats 4000000 in
theorem c_X6_mill_i0 (l : Launch) (G : GG) (o : Nat) (X : SX) (Y : SY) (h : ¬ (0 ≤ X 286 35)) : Ct l yX6_mill cX6_mill 2 (some .int) 1 22 G o [.ref (o + 285), .int 0] X Y (some (.int (-7))) X Y := by
  refine Ct.mk (by decide +kernel) (Nat.le_of_ble_eq_true rfl) rfl ?_
  intro p9 e9 s9 m9 args9 below9 meth9 c9 hE hr hlocks hK hI ls hl
  have hx := hE.1
  have hb := hE.2.1
  have hl : lv_has ls 2 [(0, .ref (o + 285)), (1, .int 0)] := hl
  refine lv_iload_n hx hb dX6_mill_0 rfl (lv_at hl 1 rfl) ?_
  refine lv_iconst (v := 0) hx hb dX6_mill_1 (by decide) ?_
  refine lv_iconst (v := 1) hx hb dX6_mill_2 (by decide) ?_
  refine x_callSi hE hK hI (c_X6_in l G o _ _ 0 0 1 ) mf_X6_in mw_509 rfl hl.1 rfl (Nat.le_of_ble_eq_true rfl) ⟨(Nat.le_of_ble_eq_true rfl), (Nat.le_of_ble_eq_true rfl)⟩ ⟨Nat.zero_le _, Nat.zero_le _⟩ dX6_mill_3 (fun H locs hI => ?_)
  refine lv_topi (fun z1 ez1 => ?_)
  obtain rfl : 1 = z1 := (ez1.trans (bI_t (by decide))).symm
  refine lv_if_ne (tgt := 12) hx hb dX6_mill_6 (by decide) (fun _ => ?_) (fun q => absurd q (by decide))
  refine lv_aload_n hx hb dX6_mill_12 rfl (lv_at hl 0 rfl) ?_
  refine x_get (k := 285) hE hK hI (by decide) inG6 (e_285 G o _ _) rfl 0 (by decide) mw_480 rfl dX6_mill_13 ?_
  refine lv_bipush (v := 35) hx hb dX6_mill_16 (by decide) ?_
  refine x_iald (k := 286) (j := 35) hE hK hI (by decide) (e_286 G o) (by decide) (by decide) rfl dX6_mill_18 ?_
  refine lv_if_ge (tgt := 27) hx hb dX6_mill_19 (by decide) (fun q => absurd q h) (fun _ => ?_)
  refine lv_bipush (v := (-7)) hx hb dX6_mill_22 (by decide) ?_
  refine lv_goto (tgt := 56) hx hb dX6_mill_24 (by decide) ?_
  exact x_iret hE hr hlocks hI rfl rfl rfl dX6_mill_56
set_option maxRecDepth 100000 in
set_option maxHeartbeats 4000000 in
theorem c_X6_mill_y0 (l : Launch) (G : GG) (o : Nat) (X : SX) (Y : SY) (h : 0 ≤ X 286 35) : Ct l yX6_mill cX6_mill 2 (some .int) 1 22 G o [.ref (o + 285), .int 0] X Y (some (.int (X 286 35))) X Y := by
  refine Ct.mk (by decide +kernel) (Nat.le_of_ble_eq_true rfl) rfl ?_
  intro p9 e9 s9 m9 args9 below9 meth9 c9 hE hr hlocks hK hI ls hl
  have hx := hE.1
  have hb := hE.2.1
  have hl : lv_has ls 2 [(0, .ref (o + 285)), (1, .int 0)] := hl
  refine lv_iload_n hx hb dX6_mill_0 rfl (lv_at hl 1 rfl) ?_
  refine lv_iconst (v := 0) hx hb dX6_mill_1 (by decide) ?_
  refine lv_iconst (v := 1) hx hb dX6_mill_2 (by decide) ?_
  refine x_callSi hE hK hI (c_X6_in l G o _ _ 0 0 1 ) mf_X6_in mw_509 rfl hl.1 rfl (Nat.le_of_ble_eq_true rfl) ⟨(Nat.le_of_ble_eq_true rfl), (Nat.le_of_ble_eq_true rfl)⟩ ⟨Nat.zero_le _, Nat.zero_le _⟩ dX6_mill_3 (fun H locs hI => ?_)
  refine lv_topi (fun z1 ez1 => ?_)
  obtain rfl : 1 = z1 := (ez1.trans (bI_t (by decide))).symm
  refine lv_if_ne (tgt := 12) hx hb dX6_mill_6 (by decide) (fun _ => ?_) (fun q => absurd q (by decide))
  refine lv_aload_n hx hb dX6_mill_12 rfl (lv_at hl 0 rfl) ?_
  refine x_get (k := 285) hE hK hI (by decide) inG6 (e_285 G o _ _) rfl 0 (by decide) mw_480 rfl dX6_mill_13 ?_
  refine lv_bipush (v := 35) hx hb dX6_mill_16 (by decide) ?_
  refine x_iald (k := 286) (j := 35) hE hK hI (by decide) (e_286 G o) (by decide) (by decide) rfl dX6_mill_18 ?_
  refine lv_if_ge (tgt := 27) hx hb dX6_mill_19 (by decide) (fun _ => ?_) (fun q => absurd h q)
  refine lv_iload_n hx hb dX6_mill_27 rfl (lv_at hl 1 rfl) ?_
  refine lv_if_ne (tgt := 41) hx hb dX6_mill_28 (by decide) (fun q => absurd (by decide) q) (fun _ => ?_)
  refine lv_aload_n hx hb dX6_mill_31 rfl (lv_at hl 0 rfl) ?_
  refine x_get (k := 285) hE hK hI (by decide) inG6 (e_285 G o _ _) rfl 0 (by decide) mw_480 rfl dX6_mill_32 ?_
  refine lv_bipush (v := 35) hx hb dX6_mill_35 (by decide) ?_
  refine x_iald (k := 286) (j := 35) hE hK hI (by decide) (e_286 G o) (by decide) (by decide) rfl dX6_mill_37 ?_
  refine lv_goto (tgt := 56) hx hb dX6_mill_38 (by decide) ?_
  exact x_iret hE hr hlocks hI rfl rfl rfl dX6_mill_56
set_option maxRecDepth 100000 in
set_option maxHeartbeats 4000000 in
theorem c_X6_mill_i1 (l : Launch) (G : GG) (o : Nat) (X : SX) (Y : SY) (h : ¬ (0 ≤ X 286 35)) : Ct l yX6_mill cX6_mill 2 (some .int) 1 22 G o [.ref (o + 285), .int 1] X Y (some (.int (-7))) X Y := by
  refine Ct.mk (by decide +kernel) (Nat.le_of_ble_eq_true rfl) rfl ?_
  intro p9 e9 s9 m9 args9 below9 meth9 c9 hE hr hlocks hK hI ls hl
  have hx := hE.1
  have hb := hE.2.1
  have hl : lv_has ls 2 [(0, .ref (o + 285)), (1, .int 1)] := hl
  refine lv_iload_n hx hb dX6_mill_0 rfl (lv_at hl 1 rfl) ?_
  refine lv_iconst (v := 0) hx hb dX6_mill_1 (by decide) ?_
  refine lv_iconst (v := 1) hx hb dX6_mill_2 (by decide) ?_
  refine x_callSi hE hK hI (c_X6_in l G o _ _ 1 0 1 ) mf_X6_in mw_509 rfl hl.1 rfl (Nat.le_of_ble_eq_true rfl) ⟨(Nat.le_of_ble_eq_true rfl), (Nat.le_of_ble_eq_true rfl)⟩ ⟨Nat.zero_le _, Nat.zero_le _⟩ dX6_mill_3 (fun H locs hI => ?_)
  refine lv_topi (fun z1 ez1 => ?_)
  obtain rfl : 1 = z1 := (ez1.trans (bI_t (by decide))).symm
  refine lv_if_ne (tgt := 12) hx hb dX6_mill_6 (by decide) (fun _ => ?_) (fun q => absurd q (by decide))
  refine lv_aload_n hx hb dX6_mill_12 rfl (lv_at hl 0 rfl) ?_
  refine x_get (k := 285) hE hK hI (by decide) inG6 (e_285 G o _ _) rfl 0 (by decide) mw_480 rfl dX6_mill_13 ?_
  refine lv_bipush (v := 35) hx hb dX6_mill_16 (by decide) ?_
  refine x_iald (k := 286) (j := 35) hE hK hI (by decide) (e_286 G o) (by decide) (by decide) rfl dX6_mill_18 ?_
  refine lv_if_ge (tgt := 27) hx hb dX6_mill_19 (by decide) (fun q => absurd q h) (fun _ => ?_)
  refine lv_bipush (v := (-7)) hx hb dX6_mill_22 (by decide) ?_
  refine lv_goto (tgt := 56) hx hb dX6_mill_24 (by decide) ?_
  exact x_iret hE hr hlocks hI rfl rfl rfl dX6_mill_56
set_option maxRecDepth 100000 in
set_option maxHeartbeats 4000000 in
theorem c_X6_mill_y1 (l : Launch) (G : GG) (o : Nat) (X : SX) (Y : SY) (h : 0 ≤ X 286 35) : Ct l yX6_mill cX6_mill 2 (some .int) 1 22 G o [.ref (o + 285), .int 1] X Y (some (.int ((X 286 36) - (X 286 30)))) X Y := by
  refine Ct.mk (by decide +kernel) (Nat.le_of_ble_eq_true rfl) rfl ?_
  intro p9 e9 s9 m9 args9 below9 meth9 c9 hE hr hlocks hK hI ls hl
  have hx := hE.1
  have hb := hE.2.1
  have hl : lv_has ls 2 [(0, .ref (o + 285)), (1, .int 1)] := hl
  refine lv_iload_n hx hb dX6_mill_0 rfl (lv_at hl 1 rfl) ?_
  refine lv_iconst (v := 0) hx hb dX6_mill_1 (by decide) ?_
  refine lv_iconst (v := 1) hx hb dX6_mill_2 (by decide) ?_
  refine x_callSi hE hK hI (c_X6_in l G o _ _ 1 0 1 ) mf_X6_in mw_509 rfl hl.1 rfl (Nat.le_of_ble_eq_true rfl) ⟨(Nat.le_of_ble_eq_true rfl), (Nat.le_of_ble_eq_true rfl)⟩ ⟨Nat.zero_le _, Nat.zero_le _⟩ dX6_mill_3 (fun H locs hI => ?_)
  refine lv_topi (fun z1 ez1 => ?_)
  obtain rfl : 1 = z1 := (ez1.trans (bI_t (by decide))).symm
  refine lv_if_ne (tgt := 12) hx hb dX6_mill_6 (by decide) (fun _ => ?_) (fun q => absurd q (by decide))
  refine lv_aload_n hx hb dX6_mill_12 rfl (lv_at hl 0 rfl) ?_
  refine x_get (k := 285) hE hK hI (by decide) inG6 (e_285 G o _ _) rfl 0 (by decide) mw_480 rfl dX6_mill_13 ?_
  refine lv_bipush (v := 35) hx hb dX6_mill_16 (by decide) ?_
  refine x_iald (k := 286) (j := 35) hE hK hI (by decide) (e_286 G o) (by decide) (by decide) rfl dX6_mill_18 ?_
  refine lv_if_ge (tgt := 27) hx hb dX6_mill_19 (by decide) (fun _ => ?_) (fun q => absurd h q)
  refine lv_iload_n hx hb dX6_mill_27 rfl (lv_at hl 1 rfl) ?_
  refine lv_if_ne (tgt := 41) hx hb dX6_mill_28 (by decide) (fun _ => ?_) (fun q => absurd q (by decide))
  refine lv_aload_n hx hb dX6_mill_41 rfl (lv_at hl 0 rfl) ?_
  refine x_get (k := 285) hE hK hI (by decide) inG6 (e_285 G o _ _) rfl 0 (by decide) mw_480 rfl dX6_mill_42 ?_
  refine lv_bipush (v := 36) hx hb dX6_mill_45 (by decide) ?_
  refine x_iald (k := 286) (j := 36) hE hK hI (by decide) (e_286 G o) (by decide) (by decide) rfl dX6_mill_47 ?_
  refine lv_aload_n hx hb dX6_mill_48 rfl (lv_at hl 0 rfl) ?_
  refine x_get (k := 285) hE hK hI (by decide) inG6 (e_285 G o _ _) rfl 0 (by decide) mw_480 rfl dX6_mill_49 ?_
  refine lv_bipush (v := 30) hx hb dX6_mill_52 (by decide) ?_
  refine x_iald (k := 286) (j := 30) hE hK hI (by decide) (e_286 G o) (by decide) (by decide) rfl dX6_mill_54 ?_
  refine lv_isub hx hb dX6_mill_55 ?_
  exact x_iret hE hr hlocks hI rfl rfl rfl dX6_mill_56
set_option maxRecDepth 100000 in
set_option maxHeartbeats 4000000 in
theorem c_X6_isLot (l : Launch) (G : GG) (o : Nat) (X : SX) (Y : SY) (v : Int32) : Ct l yX6_isLot cX6_isLot 2 (some .boolean) 1 22 G o [.ref (o + 285), .int v] X Y (some (.int (bI (Wi v 0 ((X 286 31) - 1))))) X Y := by
  refine Ct.mk (by decide +kernel) (Nat.le_of_ble_eq_true rfl) rfl ?_
  intro p9 e9 s9 m9 args9 below9 meth9 c9 hE hr hlocks hK hI ls hl
  have hx := hE.1
  have hb := hE.2.1
  have hl : lv_has ls 2 [(0, .ref (o + 285)), (1, .int v)] := hl
  refine lv_iload_n hx hb dX6_isLot_0 rfl (lv_at hl 1 rfl) ?_
  refine lv_iconst (v := 0) hx hb dX6_isLot_1 (by decide) ?_
  refine lv_aload_n hx hb dX6_isLot_2 rfl (lv_at hl 0 rfl) ?_
  refine x_get (k := 285) hE hK hI (by decide) inG6 (e_285 G o _ _) rfl 0 (by decide) mw_480 rfl dX6_isLot_3 ?_
  refine lv_bipush (v := 31) hx hb dX6_isLot_6 (by decide) ?_
  refine x_iald (k := 286) (j := 31) hE hK hI (by decide) (e_286 G o) (by decide) (by decide) rfl dX6_isLot_8 ?_
  refine lv_iconst (v := 1) hx hb dX6_isLot_9 (by decide) ?_
  refine lv_isub hx hb dX6_isLot_10 ?_
  refine x_callSi hE hK hI (c_X6_in l G o _ _ v 0 ((X 286 31) - 1) ) mf_X6_in mw_509 rfl hl.1 rfl (Nat.le_of_ble_eq_true rfl) ⟨(Nat.le_of_ble_eq_true rfl), (Nat.le_of_ble_eq_true rfl)⟩ ⟨Nat.zero_le _, Nat.zero_le _⟩ dX6_isLot_11 (fun H locs hI => ?_)
  exact x_zret hE hr hlocks hI bI_01 rfl rfl rfl dX6_isLot_14
set_option maxRecDepth 100000 in
set_option maxHeartbeats 4000000 in
theorem c_X6_state_a (l : Launch) (G : GG) (o : Nat) (X : SX) (Y : SY) (u : Int32) (h : ¬ (Wi u 0 ((X 286 31) - 1))) : Ct l yX6_state cX6_state 2 (some .int) 2 43 G o [.ref (o + 285), .int u] X Y (some (.int (-2))) X Y := by
  refine Ct.mk (by decide +kernel) (Nat.le_of_ble_eq_true rfl) rfl ?_
  intro p9 e9 s9 m9 args9 below9 meth9 c9 hE hr hlocks hK hI ls hl
  have hx := hE.1
  have hb := hE.2.1
  have hl : lv_has ls 2 [(0, .ref (o + 285)), (1, .int u)] := hl
  refine lv_aload_n hx hb dX6_state_0 rfl (lv_at hl 0 rfl) ?_
  refine lv_iload_n hx hb dX6_state_1 rfl (lv_at hl 1 rfl) ?_
  refine x_callVi (k := 285) hE hK hI (c_X6_isLot l G o _ _ u ) mf_X6_isLot mw_676 (by decide) ((e_285 G o) _ _) rfl rfl hl.1 rfl (Nat.le_of_ble_eq_true rfl) ⟨(Nat.le_of_ble_eq_true rfl), (Nat.le_of_ble_eq_true rfl)⟩ ⟨Nat.zero_le _, Nat.zero_le _⟩ dX6_state_2 (fun H locs hI => ?_)
  refine lv_topi (fun z1 ez1 => ?_)
  obtain rfl : 0 = z1 := (ez1.trans (bI_f h)).symm
  refine lv_if_eq (tgt := 17) hx hb dX6_state_5 (by decide) (fun _ => ?_) (fun q => absurd (by decide) q)
  refine lv_bipush (v := (-2)) hx hb dX6_state_17 (by decide) ?_
  exact x_iret hE hr hlocks hI rfl rfl rfl dX6_state_19
set_option maxRecDepth 100000 in
set_option maxHeartbeats 4000000 in
theorem c_X6_state_y (l : Launch) (G : GG) (o : Nat) (X : SX) (Y : SY) (i : Nat) (h_i : i < 40) (h : Wi (nI i) 0 ((X 286 31) - 1)) : Ct l yX6_state cX6_state 2 (some .int) 2 43 G o [.ref (o + 285), .int (nI i)] X Y (some (.int (X 286 ((41 + (8 * i)) + 4)))) X Y := by
  refine Ct.mk (by decide +kernel) (Nat.le_of_ble_eq_true rfl) rfl ?_
  intro p9 e9 s9 m9 args9 below9 meth9 c9 hE hr hlocks hK hI ls hl
  have hx := hE.1
  have hb := hE.2.1
  have hl : lv_has ls 2 [(0, .ref (o + 285)), (1, .int (nI i))] := hl
  refine lv_aload_n hx hb dX6_state_0 rfl (lv_at hl 0 rfl) ?_
  refine lv_iload_n hx hb dX6_state_1 rfl (lv_at hl 1 rfl) ?_
  refine x_callVi (k := 285) hE hK hI (c_X6_isLot l G o _ _ (nI i) ) mf_X6_isLot mw_676 (by decide) ((e_285 G o) _ _) rfl rfl hl.1 rfl (Nat.le_of_ble_eq_true rfl) ⟨(Nat.le_of_ble_eq_true rfl), (Nat.le_of_ble_eq_true rfl)⟩ ⟨Nat.zero_le _, Nat.zero_le _⟩ dX6_state_2 (fun H locs hI => ?_)
  refine lv_topi (fun z1 ez1 => ?_)
  obtain rfl : 1 = z1 := (ez1.trans (bI_t h)).symm
  refine lv_if_eq (tgt := 17) hx hb dX6_state_5 (by decide) (fun q => absurd q (by decide)) (fun _ => ?_)
  refine lv_aload_n hx hb dX6_state_8 rfl (lv_at hl 0 rfl) ?_
  refine lv_iload_n hx hb dX6_state_9 rfl (lv_at hl 1 rfl) ?_
  refine lv_iconst (v := 4) hx hb dX6_state_10 (by decide) ?_
  refine x_callVi (k := 285) hE hK hI (c_X6_of l G o _ _ i 4 h_i (by decide)) mf_X6_of mw_620 (by decide) ((e_285 G o) _ _) rfl rfl hl.1 rfl (Nat.le_of_ble_eq_true rfl) ⟨(Nat.le_of_ble_eq_true rfl), (Nat.le_of_ble_eq_true rfl)⟩ ⟨Nat.zero_le _, Nat.zero_le _⟩ dX6_state_11 (fun H locs hI => ?_)
  refine lv_goto (tgt := 19) hx hb dX6_state_14 (by decide) ?_
  exact x_iret hE hr hlocks hI rfl rfl rfl dX6_state_19
set_option maxRecDepth 100000 in
set_option maxHeartbeats 4000000 in
theorem c_X6_passes_a (l : Launch) (G : GG) (o : Nat) (X : SX) (Y : SY) (u : Int32) (h : ¬ (Wi u 0 ((X 286 31) - 1))) : Ct l yX6_passes cX6_passes 2 (some .int) 2 43 G o [.ref (o + 285), .int u] X Y (some (.int (-2))) X Y := by
  refine Ct.mk (by decide +kernel) (Nat.le_of_ble_eq_true rfl) rfl ?_
  intro p9 e9 s9 m9 args9 below9 meth9 c9 hE hr hlocks hK hI ls hl
  have hx := hE.1
  have hb := hE.2.1
  have hl : lv_has ls 2 [(0, .ref (o + 285)), (1, .int u)] := hl
  refine lv_aload_n hx hb dX6_passes_0 rfl (lv_at hl 0 rfl) ?_
  refine lv_iload_n hx hb dX6_passes_1 rfl (lv_at hl 1 rfl) ?_
  refine x_callVi (k := 285) hE hK hI (c_X6_isLot l G o _ _ u ) mf_X6_isLot mw_676 (by decide) ((e_285 G o) _ _) rfl rfl hl.1 rfl (Nat.le_of_ble_eq_true rfl) ⟨(Nat.le_of_ble_eq_true rfl), (Nat.le_of_ble_eq_true rfl)⟩ ⟨Nat.zero_le _, Nat.zero_le _⟩ dX6_passes_2 (fun H locs hI => ?_)
  refine lv_topi (fun z1 ez1 => ?_)
  obtain rfl : 0 = z1 := (ez1.trans (bI_f h)).symm
  refine lv_if_eq (tgt := 18) hx hb dX6_passes_5 (by decide) (fun _ => ?_) (fun q => absurd (by decide) q)
  refine lv_bipush (v := (-2)) hx hb dX6_passes_18 (by decide) ?_
  exact x_iret hE hr hlocks hI rfl rfl rfl dX6_passes_20
set_option maxRecDepth 100000 in
set_option maxHeartbeats 4000000 in
theorem c_X6_passes_y (l : Launch) (G : GG) (o : Nat) (X : SX) (Y : SY) (i : Nat) (h_i : i < 40) (h : Wi (nI i) 0 ((X 286 31) - 1)) : Ct l yX6_passes cX6_passes 2 (some .int) 2 43 G o [.ref (o + 285), .int (nI i)] X Y (some (.int (X 286 ((41 + (8 * i)) + 7)))) X Y := by
  refine Ct.mk (by decide +kernel) (Nat.le_of_ble_eq_true rfl) rfl ?_
  intro p9 e9 s9 m9 args9 below9 meth9 c9 hE hr hlocks hK hI ls hl
  have hx := hE.1
  have hb := hE.2.1
  have hl : lv_has ls 2 [(0, .ref (o + 285)), (1, .int (nI i))] := hl
  refine lv_aload_n hx hb dX6_passes_0 rfl (lv_at hl 0 rfl) ?_
  refine lv_iload_n hx hb dX6_passes_1 rfl (lv_at hl 1 rfl) ?_
  refine x_callVi (k := 285) hE hK hI (c_X6_isLot l G o _ _ (nI i) ) mf_X6_isLot mw_676 (by decide) ((e_285 G o) _ _) rfl rfl hl.1 rfl (Nat.le_of_ble_eq_true rfl) ⟨(Nat.le_of_ble_eq_true rfl), (Nat.le_of_ble_eq_true rfl)⟩ ⟨Nat.zero_le _, Nat.zero_le _⟩ dX6_passes_2 (fun H locs hI => ?_)
  refine lv_topi (fun z1 ez1 => ?_)
  obtain rfl : 1 = z1 := (ez1.trans (bI_t h)).symm
  refine lv_if_eq (tgt := 18) hx hb dX6_passes_5 (by decide) (fun q => absurd q (by decide)) (fun _ => ?_)
  refine lv_aload_n hx hb dX6_passes_8 rfl (lv_at hl 0 rfl) ?_
  refine lv_iload_n hx hb dX6_passes_9 rfl (lv_at hl 1 rfl) ?_
  refine lv_bipush (v := 7) hx hb dX6_passes_10 (by decide) ?_
  refine x_callVi (k := 285) hE hK hI (c_X6_of l G o _ _ i 7 h_i (by decide)) mf_X6_of mw_620 (by decide) ((e_285 G o) _ _) rfl rfl hl.1 rfl (Nat.le_of_ble_eq_true rfl) ⟨(Nat.le_of_ble_eq_true rfl), (Nat.le_of_ble_eq_true rfl)⟩ ⟨Nat.zero_le _, Nat.zero_le _⟩ dX6_passes_12 (fun H locs hI => ?_)
  refine lv_goto (tgt := 20) hx hb dX6_passes_15 (by decide) ?_
  exact x_iret hE hr hlocks hI rfl rfl rfl dX6_passes_20
set_option maxRecDepth 100000 in
set_option maxHeartbeats 4000000 in
theorem c_X6_mass_a (l : Launch) (G : GG) (o : Nat) (X : SX) (Y : SY) (u : Int32) (v : Int32) (h : ¬ (Wi u 0 ((X 286 31) - 1))) : Ct l yX6_mass cX6_mass 3 (some .int) 2 43 G o [.ref (o + 285), .int u, .int v] X Y (some (.int (-2))) X Y := by
  refine Ct.mk (by decide +kernel) (Nat.le_of_ble_eq_true rfl) rfl ?_
  intro p9 e9 s9 m9 args9 below9 meth9 c9 hE hr hlocks hK hI ls hl
  have hx := hE.1
  have hb := hE.2.1
  have hl : lv_has ls 3 [(0, .ref (o + 285)), (1, .int u), (2, .int v)] := hl
  refine lv_aload_n hx hb dX6_mass_0 rfl (lv_at hl 0 rfl) ?_
  refine lv_iload_n hx hb dX6_mass_1 rfl (lv_at hl 1 rfl) ?_
  refine x_callVi (k := 285) hE hK hI (c_X6_isLot l G o _ _ u ) mf_X6_isLot mw_676 (by decide) ((e_285 G o) _ _) rfl rfl hl.1 rfl (Nat.le_of_ble_eq_true rfl) ⟨(Nat.le_of_ble_eq_true rfl), (Nat.le_of_ble_eq_true rfl)⟩ ⟨Nat.zero_le _, Nat.zero_le _⟩ dX6_mass_2 (fun H locs hI => ?_)
  refine lv_topi (fun z1 ez1 => ?_)
  obtain rfl : 0 = z1 := (ez1.trans (bI_f h)).symm
  refine lv_if_ne (tgt := 11) hx hb dX6_mass_5 (by decide) (fun q => absurd (by decide) q) (fun _ => ?_)
  refine lv_bipush (v := (-2)) hx hb dX6_mass_8 (by decide) ?_
  exact x_iret hE hr hlocks hI rfl rfl rfl dX6_mass_10
set_option maxRecDepth 100000 in
set_option maxHeartbeats 4000000 in
theorem c_X6_mass_m (l : Launch) (G : GG) (o : Nat) (X : SX) (Y : SY) (i : Nat) (h_i : i < 40) (h : Wi (nI i) 0 ((X 286 31) - 1)) : Ct l yX6_mass cX6_mass 3 (some .int) 3 64 G o [.ref (o + 285), .int (nI i), .int (-1)] X Y (some (.int (wgt (X 286) i))) X Y := by
  refine Ct.mk (by decide +kernel) (Nat.le_of_ble_eq_true rfl) rfl ?_
  intro p9 e9 s9 m9 args9 below9 meth9 c9 hE hr hlocks hK hI ls hl
  have hx := hE.1
  have hb := hE.2.1
  have hl : lv_has ls 3 [(0, .ref (o + 285)), (1, .int (nI i)), (2, .int (-1))] := hl
  refine lv_aload_n hx hb dX6_mass_0 rfl (lv_at hl 0 rfl) ?_
  refine lv_iload_n hx hb dX6_mass_1 rfl (lv_at hl 1 rfl) ?_
  refine x_callVi (k := 285) hE hK hI (c_X6_isLot l G o _ _ (nI i) ) mf_X6_isLot mw_676 (by decide) ((e_285 G o) _ _) rfl rfl hl.1 rfl (Nat.le_of_ble_eq_true rfl) ⟨(Nat.le_of_ble_eq_true rfl), (Nat.le_of_ble_eq_true rfl)⟩ ⟨Nat.zero_le _, Nat.zero_le _⟩ dX6_mass_2 (fun H locs hI => ?_)
  refine lv_topi (fun z1 ez1 => ?_)
  obtain rfl : 1 = z1 := (ez1.trans (bI_t h)).symm
  refine lv_if_ne (tgt := 11) hx hb dX6_mass_5 (by decide) (fun _ => ?_) (fun q => absurd q (by decide))
  refine lv_iload_n hx hb dX6_mass_11 rfl (lv_at hl 2 rfl) ?_
  refine lv_iconst (v := (-1)) hx hb dX6_mass_12 (by decide) ?_
  refine lv_icmp_ne (tgt := 24) hx hb dX6_mass_13 (by decide) (fun q => absurd (by decide) q) (fun _ => ?_)
  refine lv_aload_n hx hb dX6_mass_16 rfl (lv_at hl 0 rfl) ?_
  refine lv_iload_n hx hb dX6_mass_17 rfl (lv_at hl 1 rfl) ?_
  refine x_callVi (k := 285) hE hK hI (c_X6_weight l G o _ _ i h_i) mf_X6_weight mw_636 (by decide) ((e_285 G o) _ _) rfl rfl hl.1 rfl (Nat.le_of_ble_eq_true rfl) ⟨(Nat.le_of_ble_eq_true rfl), (Nat.le_of_ble_eq_true rfl)⟩ ⟨Nat.zero_le _, Nat.zero_le _⟩ dX6_mass_18 (fun H locs hI => ?_)
  refine lv_goto (tgt := 41) hx hb dX6_mass_21 (by decide) ?_
  exact x_iret hE hr hlocks hI rfl rfl rfl dX6_mass_41
set_option maxRecDepth 100000 in
set_option maxHeartbeats 4000000 in
theorem c_X6_mass_y (l : Launch) (G : GG) (o : Nat) (X : SX) (Y : SY) (i : Nat) (t : Nat) (h_i : i < 40) (h : Wi (nI i) 0 ((X 286 31) - 1)) (h0 : t < 4) (h1 : Wi (nI t) 0 3) (h2 : ¬ (nI t = (-1))) : Ct l yX6_mass cX6_mass 3 (some .int) 2 43 G o [.ref (o + 285), .int (nI i), .int (nI t)] X Y (some (.int (X 286 ((41 + (8 * i)) + t)))) X Y := by
  refine Ct.mk (by decide +kernel) (Nat.le_of_ble_eq_true rfl) rfl ?_
  intro p9 e9 s9 m9 args9 below9 meth9 c9 hE hr hlocks hK hI ls hl
  have hx := hE.1
  have hb := hE.2.1
  have hl : lv_has ls 3 [(0, .ref (o + 285)), (1, .int (nI i)), (2, .int (nI t))] := hl
  refine lv_aload_n hx hb dX6_mass_0 rfl (lv_at hl 0 rfl) ?_
  refine lv_iload_n hx hb dX6_mass_1 rfl (lv_at hl 1 rfl) ?_
  refine x_callVi (k := 285) hE hK hI (c_X6_isLot l G o _ _ (nI i) ) mf_X6_isLot mw_676 (by decide) ((e_285 G o) _ _) rfl rfl hl.1 rfl (Nat.le_of_ble_eq_true rfl) ⟨(Nat.le_of_ble_eq_true rfl), (Nat.le_of_ble_eq_true rfl)⟩ ⟨Nat.zero_le _, Nat.zero_le _⟩ dX6_mass_2 (fun H locs hI => ?_)
  refine lv_topi (fun z1 ez1 => ?_)
  obtain rfl : 1 = z1 := (ez1.trans (bI_t h)).symm
  refine lv_if_ne (tgt := 11) hx hb dX6_mass_5 (by decide) (fun _ => ?_) (fun q => absurd q (by decide))
  refine lv_iload_n hx hb dX6_mass_11 rfl (lv_at hl 2 rfl) ?_
  refine lv_iconst (v := (-1)) hx hb dX6_mass_12 (by decide) ?_
  refine lv_icmp_ne (tgt := 24) hx hb dX6_mass_13 (by decide) (fun _ => ?_) (fun q => absurd q h2)
  refine lv_iload_n hx hb dX6_mass_24 rfl (lv_at hl 2 rfl) ?_
  refine x_callSi hE hK hI (c_X6_isSize l G o _ _ (nI t) ) mf_X6_isSize mw_506 rfl hl.1 rfl (Nat.le_of_ble_eq_true rfl) ⟨(Nat.le_of_ble_eq_true rfl), (Nat.le_of_ble_eq_true rfl)⟩ ⟨Nat.zero_le _, Nat.zero_le _⟩ dX6_mass_25 (fun H locs hI => ?_)
  refine lv_topi (fun z2 ez2 => ?_)
  obtain rfl : 1 = z2 := (ez2.trans (bI_t h1)).symm
  refine lv_if_eq (tgt := 40) hx hb dX6_mass_28 (by decide) (fun q => absurd q (by decide)) (fun _ => ?_)
  refine lv_aload_n hx hb dX6_mass_31 rfl (lv_at hl 0 rfl) ?_
  refine lv_iload_n hx hb dX6_mass_32 rfl (lv_at hl 1 rfl) ?_
  refine lv_iload_n hx hb dX6_mass_33 rfl (lv_at hl 2 rfl) ?_
  refine x_callVi (k := 285) hE hK hI (c_X6_of l G o _ _ i t h_i (by omega)) mf_X6_of mw_620 (by decide) ((e_285 G o) _ _) rfl rfl hl.1 rfl (Nat.le_of_ble_eq_true rfl) ⟨(Nat.le_of_ble_eq_true rfl), (Nat.le_of_ble_eq_true rfl)⟩ ⟨Nat.zero_le _, Nat.zero_le _⟩ dX6_mass_34 (fun H locs hI => ?_)
  refine lv_goto (tgt := 41) hx hb dX6_mass_37 (by decide) ?_
  exact x_iret hE hr hlocks hI rfl rfl rfl dX6_mass_41
set_option maxRecDepth 100000 in
set_option maxHeartbeats 4000000 in
theorem c_X6_mass_s (l : Launch) (G : GG) (o : Nat) (X : SX) (Y : SY) (i : Nat) (v : Int32) (h_i : i < 40) (h : Wi (nI i) 0 ((X 286 31) - 1)) (h1 : ¬ (Wi v 0 3)) (h2 : ¬ (v = (-1))) : Ct l yX6_mass cX6_mass 3 (some .int) 2 43 G o [.ref (o + 285), .int (nI i), .int v] X Y (some (.int (-1))) X Y := by
  refine Ct.mk (by decide +kernel) (Nat.le_of_ble_eq_true rfl) rfl ?_
  intro p9 e9 s9 m9 args9 below9 meth9 c9 hE hr hlocks hK hI ls hl
  have hx := hE.1
  have hb := hE.2.1
  have hl : lv_has ls 3 [(0, .ref (o + 285)), (1, .int (nI i)), (2, .int v)] := hl
  refine lv_aload_n hx hb dX6_mass_0 rfl (lv_at hl 0 rfl) ?_
  refine lv_iload_n hx hb dX6_mass_1 rfl (lv_at hl 1 rfl) ?_
  refine x_callVi (k := 285) hE hK hI (c_X6_isLot l G o _ _ (nI i) ) mf_X6_isLot mw_676 (by decide) ((e_285 G o) _ _) rfl rfl hl.1 rfl (Nat.le_of_ble_eq_true rfl) ⟨(Nat.le_of_ble_eq_true rfl), (Nat.le_of_ble_eq_true rfl)⟩ ⟨Nat.zero_le _, Nat.zero_le _⟩ dX6_mass_2 (fun H locs hI => ?_)
  refine lv_topi (fun z1 ez1 => ?_)
  obtain rfl : 1 = z1 := (ez1.trans (bI_t h)).symm
  refine lv_if_ne (tgt := 11) hx hb dX6_mass_5 (by decide) (fun _ => ?_) (fun q => absurd q (by decide))
  refine lv_iload_n hx hb dX6_mass_11 rfl (lv_at hl 2 rfl) ?_
  refine lv_iconst (v := (-1)) hx hb dX6_mass_12 (by decide) ?_
  refine lv_icmp_ne (tgt := 24) hx hb dX6_mass_13 (by decide) (fun _ => ?_) (fun q => absurd q h2)
  refine lv_iload_n hx hb dX6_mass_24 rfl (lv_at hl 2 rfl) ?_
  refine x_callSi hE hK hI (c_X6_isSize l G o _ _ v ) mf_X6_isSize mw_506 rfl hl.1 rfl (Nat.le_of_ble_eq_true rfl) ⟨(Nat.le_of_ble_eq_true rfl), (Nat.le_of_ble_eq_true rfl)⟩ ⟨Nat.zero_le _, Nat.zero_le _⟩ dX6_mass_25 (fun H locs hI => ?_)
  refine lv_topi (fun z2 ez2 => ?_)
  obtain rfl : 0 = z2 := (ez2.trans (bI_f h1)).symm
  refine lv_if_eq (tgt := 40) hx hb dX6_mass_28 (by decide) (fun _ => ?_) (fun q => absurd (by decide) q)
  refine lv_iconst (v := (-1)) hx hb dX6_mass_40 (by decide) ?_
  exact x_iret hE hr hlocks hI rfl rfl rfl dX6_mass_41
set_option maxRecDepth 100000 in
set_option maxHeartbeats 4000000 in
theorem c_X6_produced_m (l : Launch) (G : GG) (o : Nat) (X : SX) (Y : SY) : Ct l yX6_produced cX6_produced 2 (some .int) 0 0 G o [.ref (o + 285), .int (-1)] X Y (some (.int ((((X 286 37) + (X 286 38)) + (X 286 39)) + (X 286 40)))) X Y := by
  refine Ct.mk (by decide +kernel) (Nat.le_of_ble_eq_true rfl) rfl ?_
  intro p9 e9 s9 m9 args9 below9 meth9 c9 hE hr hlocks hK hI ls hl
  have hx := hE.1
  have hb := hE.2.1
  have hl : lv_has ls 2 [(0, .ref (o + 285)), (1, .int (-1))] := hl
  refine lv_iload_n hx hb dX6_produced_0 rfl (lv_at hl 1 rfl) ?_
  refine lv_iconst (v := (-1)) hx hb dX6_produced_1 (by decide) ?_
  refine lv_icmp_ne (tgt := 37) hx hb dX6_produced_2 (by decide) (fun q => absurd (by decide) q) (fun _ => ?_)
  refine lv_aload_n hx hb dX6_produced_5 rfl (lv_at hl 0 rfl) ?_
  refine x_get (k := 285) hE hK hI (by decide) inG6 (e_285 G o _ _) rfl 0 (by decide) mw_480 rfl dX6_produced_6 ?_
  refine lv_bipush (v := 37) hx hb dX6_produced_9 (by decide) ?_
  refine x_iald (k := 286) (j := 37) hE hK hI (by decide) (e_286 G o) (by decide) (by decide) rfl dX6_produced_11 ?_
  refine lv_aload_n hx hb dX6_produced_12 rfl (lv_at hl 0 rfl) ?_
  refine x_get (k := 285) hE hK hI (by decide) inG6 (e_285 G o _ _) rfl 0 (by decide) mw_480 rfl dX6_produced_13 ?_
  refine lv_bipush (v := 38) hx hb dX6_produced_16 (by decide) ?_
  refine x_iald (k := 286) (j := 38) hE hK hI (by decide) (e_286 G o) (by decide) (by decide) rfl dX6_produced_18 ?_
  refine lv_iadd hx hb dX6_produced_19 ?_
  refine lv_aload_n hx hb dX6_produced_20 rfl (lv_at hl 0 rfl) ?_
  refine x_get (k := 285) hE hK hI (by decide) inG6 (e_285 G o _ _) rfl 0 (by decide) mw_480 rfl dX6_produced_21 ?_
  refine lv_bipush (v := 39) hx hb dX6_produced_24 (by decide) ?_
  refine x_iald (k := 286) (j := 39) hE hK hI (by decide) (e_286 G o) (by decide) (by decide) rfl dX6_produced_26 ?_
  refine lv_iadd hx hb dX6_produced_27 ?_
  refine lv_aload_n hx hb dX6_produced_28 rfl (lv_at hl 0 rfl) ?_
  refine x_get (k := 285) hE hK hI (by decide) inG6 (e_285 G o _ _) rfl 0 (by decide) mw_480 rfl dX6_produced_29 ?_
  refine lv_bipush (v := 40) hx hb dX6_produced_32 (by decide) ?_
  refine x_iald (k := 286) (j := 40) hE hK hI (by decide) (e_286 G o) (by decide) (by decide) rfl dX6_produced_34 ?_
  refine lv_iadd hx hb dX6_produced_35 ?_
  exact x_iret hE hr hlocks hI rfl rfl rfl dX6_produced_36
set_option maxRecDepth 100000 in
set_option maxHeartbeats 4000000 in
theorem c_X6_produced_y (l : Launch) (G : GG) (o : Nat) (X : SX) (Y : SY) (t : Nat) (h0 : t < 4) (h1 : Wi (nI t) 0 3) (h2 : ¬ (nI t = (-1))) : Ct l yX6_produced cX6_produced 2 (some .int) 2 42 G o [.ref (o + 285), .int (nI t)] X Y (some (.int (X 286 (37 + t)))) X Y := by
  refine Ct.mk (by decide +kernel) (Nat.le_of_ble_eq_true rfl) rfl ?_
  intro p9 e9 s9 m9 args9 below9 meth9 c9 hE hr hlocks hK hI ls hl
  have hx := hE.1
  have hb := hE.2.1
  have hl : lv_has ls 2 [(0, .ref (o + 285)), (1, .int (nI t))] := hl
  refine lv_iload_n hx hb dX6_produced_0 rfl (lv_at hl 1 rfl) ?_
  refine lv_iconst (v := (-1)) hx hb dX6_produced_1 (by decide) ?_
  refine lv_icmp_ne (tgt := 37) hx hb dX6_produced_2 (by decide) (fun _ => ?_) (fun q => absurd q h2)
  refine lv_iload_n hx hb dX6_produced_37 rfl (lv_at hl 1 rfl) ?_
  refine x_callSi hE hK hI (c_X6_isSize l G o _ _ (nI t) ) mf_X6_isSize mw_506 rfl hl.1 rfl (Nat.le_of_ble_eq_true rfl) ⟨(Nat.le_of_ble_eq_true rfl), (Nat.le_of_ble_eq_true rfl)⟩ ⟨Nat.zero_le _, Nat.zero_le _⟩ dX6_produced_38 (fun H locs hI => ?_)
  refine lv_topi (fun z1 ez1 => ?_)
  obtain rfl : 1 = z1 := (ez1.trans (bI_t h1)).symm
  refine lv_if_eq (tgt := 56) hx hb dX6_produced_41 (by decide) (fun q => absurd q (by decide)) (fun _ => ?_)
  refine lv_aload_n hx hb dX6_produced_44 rfl (lv_at hl 0 rfl) ?_
  refine x_get (k := 285) hE hK hI (by decide) inG6 (e_285 G o _ _) rfl 0 (by decide) mw_480 rfl dX6_produced_45 ?_
  refine lv_bipush (v := 37) hx hb dX6_produced_48 (by decide) ?_
  refine lv_iload_n hx hb dX6_produced_50 rfl (lv_at hl 1 rfl) ?_
  refine lv_iadd hx hb dX6_produced_51 ?_
  refine lv_topi (fun z2 ez2 => ?_)
  obtain rfl : nI (37 + t) = z2 := (ez2.trans (nI_add 37 t)).symm
  refine x_iald (k := 286) (j := (37 + t)) hE hK hI (by decide) (e_286 G o) (by omega) (by decide) rfl dX6_produced_52 ?_
  refine lv_goto (tgt := 57) hx hb dX6_produced_53 (by decide) ?_
  exact x_iret hE hr hlocks hI rfl rfl rfl dX6_produced_57
set_option maxRecDepth 100000 in
set_option maxHeartbeats 4000000 in
theorem c_X6_produced_a (l : Launch) (G : GG) (o : Nat) (X : SX) (Y : SY) (v : Int32) (h1 : ¬ (Wi v 0 3)) (h2 : ¬ (v = (-1))) : Ct l yX6_produced cX6_produced 2 (some .int) 2 42 G o [.ref (o + 285), .int v] X Y (some (.int (-1))) X Y := by
  refine Ct.mk (by decide +kernel) (Nat.le_of_ble_eq_true rfl) rfl ?_
  intro p9 e9 s9 m9 args9 below9 meth9 c9 hE hr hlocks hK hI ls hl
  have hx := hE.1
  have hb := hE.2.1
  have hl : lv_has ls 2 [(0, .ref (o + 285)), (1, .int v)] := hl
  refine lv_iload_n hx hb dX6_produced_0 rfl (lv_at hl 1 rfl) ?_
  refine lv_iconst (v := (-1)) hx hb dX6_produced_1 (by decide) ?_
  refine lv_icmp_ne (tgt := 37) hx hb dX6_produced_2 (by decide) (fun _ => ?_) (fun q => absurd q h2)
  refine lv_iload_n hx hb dX6_produced_37 rfl (lv_at hl 1 rfl) ?_
  refine x_callSi hE hK hI (c_X6_isSize l G o _ _ v ) mf_X6_isSize mw_506 rfl hl.1 rfl (Nat.le_of_ble_eq_true rfl) ⟨(Nat.le_of_ble_eq_true rfl), (Nat.le_of_ble_eq_true rfl)⟩ ⟨Nat.zero_le _, Nat.zero_le _⟩ dX6_produced_38 (fun H locs hI => ?_)
  refine lv_topi (fun z1 ez1 => ?_)
  obtain rfl : 0 = z1 := (ez1.trans (bI_f h1)).symm
  refine lv_if_eq (tgt := 56) hx hb dX6_produced_41 (by decide) (fun _ => ?_) (fun q => absurd (by decide) q)
  refine lv_iconst (v := (-1)) hx hb dX6_produced_56 (by decide) ?_
  exact x_iret hE hr hlocks hI rfl rfl rfl dX6_produced_57
set_option maxRecDepth 100000 in
set_option maxHeartbeats 4000000 in
theorem c_X6_total_0 (l : Launch) (G : GG) (o : Nat) (X : SX) (Y : SY) : Ct l yX6_total cX6_total 2 (some .int) 1 22 G o [.ref (o + 285), .int 0] X Y (some (.int (X 286 30))) X Y := by
  refine Ct.mk (by decide +kernel) (Nat.le_of_ble_eq_true rfl) rfl ?_
  intro p9 e9 s9 m9 args9 below9 meth9 c9 hE hr hlocks hK hI ls hl
  have hx := hE.1
  have hb := hE.2.1
  have hl : lv_has ls 2 [(0, .ref (o + 285)), (1, .int 0)] := hl
  refine lv_iload_n hx hb dX6_total_0 rfl (lv_at hl 1 rfl) ?_
  refine lv_iconst (v := 0) hx hb dX6_total_1 (by decide) ?_
  refine lv_iconst (v := 3) hx hb dX6_total_2 (by decide) ?_
  refine x_callSi hE hK hI (c_X6_in l G o _ _ 0 0 3 ) mf_X6_in mw_509 rfl hl.1 rfl (Nat.le_of_ble_eq_true rfl) ⟨(Nat.le_of_ble_eq_true rfl), (Nat.le_of_ble_eq_true rfl)⟩ ⟨Nat.zero_le _, Nat.zero_le _⟩ dX6_total_3 (fun H locs hI => ?_)
  refine lv_topi (fun z1 ez1 => ?_)
  obtain rfl : 1 = z1 := (ez1.trans (bI_t (by decide))).symm
  refine lv_if_eq (tgt := 21) hx hb dX6_total_6 (by decide) (fun q => absurd q (by decide)) (fun _ => ?_)
  refine lv_aload_n hx hb dX6_total_9 rfl (lv_at hl 0 rfl) ?_
  refine x_get (k := 285) hE hK hI (by decide) inG6 (e_285 G o _ _) rfl 0 (by decide) mw_480 rfl dX6_total_10 ?_
  refine lv_bipush (v := 30) hx hb dX6_total_13 (by decide) ?_
  refine lv_iload_n hx hb dX6_total_15 rfl (lv_at hl 1 rfl) ?_
  refine lv_iadd hx hb dX6_total_16 ?_
  refine lv_topi (fun z2 ez2 => ?_)
  obtain rfl : 30 = z2 := (ez2.trans (by decide)).symm
  refine x_iald (k := 286) (j := 30) hE hK hI (by decide) (e_286 G o) (by decide) (by decide) rfl dX6_total_17 ?_
  refine lv_goto (tgt := 23) hx hb dX6_total_18 (by decide) ?_
  exact x_iret hE hr hlocks hI rfl rfl rfl dX6_total_23
set_option maxRecDepth 100000 in
set_option maxHeartbeats 4000000 in
theorem c_X6_total_1 (l : Launch) (G : GG) (o : Nat) (X : SX) (Y : SY) : Ct l yX6_total cX6_total 2 (some .int) 1 22 G o [.ref (o + 285), .int 1] X Y (some (.int (X 286 31))) X Y := by
  refine Ct.mk (by decide +kernel) (Nat.le_of_ble_eq_true rfl) rfl ?_
  intro p9 e9 s9 m9 args9 below9 meth9 c9 hE hr hlocks hK hI ls hl
  have hx := hE.1
  have hb := hE.2.1
  have hl : lv_has ls 2 [(0, .ref (o + 285)), (1, .int 1)] := hl
  refine lv_iload_n hx hb dX6_total_0 rfl (lv_at hl 1 rfl) ?_
  refine lv_iconst (v := 0) hx hb dX6_total_1 (by decide) ?_
  refine lv_iconst (v := 3) hx hb dX6_total_2 (by decide) ?_
  refine x_callSi hE hK hI (c_X6_in l G o _ _ 1 0 3 ) mf_X6_in mw_509 rfl hl.1 rfl (Nat.le_of_ble_eq_true rfl) ⟨(Nat.le_of_ble_eq_true rfl), (Nat.le_of_ble_eq_true rfl)⟩ ⟨Nat.zero_le _, Nat.zero_le _⟩ dX6_total_3 (fun H locs hI => ?_)
  refine lv_topi (fun z1 ez1 => ?_)
  obtain rfl : 1 = z1 := (ez1.trans (bI_t (by decide))).symm
  refine lv_if_eq (tgt := 21) hx hb dX6_total_6 (by decide) (fun q => absurd q (by decide)) (fun _ => ?_)
  refine lv_aload_n hx hb dX6_total_9 rfl (lv_at hl 0 rfl) ?_
  refine x_get (k := 285) hE hK hI (by decide) inG6 (e_285 G o _ _) rfl 0 (by decide) mw_480 rfl dX6_total_10 ?_
  refine lv_bipush (v := 30) hx hb dX6_total_13 (by decide) ?_
  refine lv_iload_n hx hb dX6_total_15 rfl (lv_at hl 1 rfl) ?_
  refine lv_iadd hx hb dX6_total_16 ?_
  refine lv_topi (fun z2 ez2 => ?_)
  obtain rfl : 31 = z2 := (ez2.trans (by decide)).symm
  refine x_iald (k := 286) (j := 31) hE hK hI (by decide) (e_286 G o) (by decide) (by decide) rfl dX6_total_17 ?_
  refine lv_goto (tgt := 23) hx hb dX6_total_18 (by decide) ?_
  exact x_iret hE hr hlocks hI rfl rfl rfl dX6_total_23
set_option maxRecDepth 100000 in
set_option maxHeartbeats 4000000 in
theorem c_X6_total_2 (l : Launch) (G : GG) (o : Nat) (X : SX) (Y : SY) : Ct l yX6_total cX6_total 2 (some .int) 1 22 G o [.ref (o + 285), .int 2] X Y (some (.int (X 286 32))) X Y := by
  refine Ct.mk (by decide +kernel) (Nat.le_of_ble_eq_true rfl) rfl ?_
  intro p9 e9 s9 m9 args9 below9 meth9 c9 hE hr hlocks hK hI ls hl
  have hx := hE.1
  have hb := hE.2.1
  have hl : lv_has ls 2 [(0, .ref (o + 285)), (1, .int 2)] := hl
  refine lv_iload_n hx hb dX6_total_0 rfl (lv_at hl 1 rfl) ?_
  refine lv_iconst (v := 0) hx hb dX6_total_1 (by decide) ?_
  refine lv_iconst (v := 3) hx hb dX6_total_2 (by decide) ?_
  refine x_callSi hE hK hI (c_X6_in l G o _ _ 2 0 3 ) mf_X6_in mw_509 rfl hl.1 rfl (Nat.le_of_ble_eq_true rfl) ⟨(Nat.le_of_ble_eq_true rfl), (Nat.le_of_ble_eq_true rfl)⟩ ⟨Nat.zero_le _, Nat.zero_le _⟩ dX6_total_3 (fun H locs hI => ?_)
  refine lv_topi (fun z1 ez1 => ?_)
  obtain rfl : 1 = z1 := (ez1.trans (bI_t (by decide))).symm
  refine lv_if_eq (tgt := 21) hx hb dX6_total_6 (by decide) (fun q => absurd q (by decide)) (fun _ => ?_)
  refine lv_aload_n hx hb dX6_total_9 rfl (lv_at hl 0 rfl) ?_
  refine x_get (k := 285) hE hK hI (by decide) inG6 (e_285 G o _ _) rfl 0 (by decide) mw_480 rfl dX6_total_10 ?_
  refine lv_bipush (v := 30) hx hb dX6_total_13 (by decide) ?_
  refine lv_iload_n hx hb dX6_total_15 rfl (lv_at hl 1 rfl) ?_
  refine lv_iadd hx hb dX6_total_16 ?_
  refine lv_topi (fun z2 ez2 => ?_)
  obtain rfl : 32 = z2 := (ez2.trans (by decide)).symm
  refine x_iald (k := 286) (j := 32) hE hK hI (by decide) (e_286 G o) (by decide) (by decide) rfl dX6_total_17 ?_
  refine lv_goto (tgt := 23) hx hb dX6_total_18 (by decide) ?_
  exact x_iret hE hr hlocks hI rfl rfl rfl dX6_total_23
set_option maxRecDepth 100000 in
set_option maxHeartbeats 4000000 in
theorem c_X6_total_3 (l : Launch) (G : GG) (o : Nat) (X : SX) (Y : SY) : Ct l yX6_total cX6_total 2 (some .int) 1 22 G o [.ref (o + 285), .int 3] X Y (some (.int (X 286 33))) X Y := by
  refine Ct.mk (by decide +kernel) (Nat.le_of_ble_eq_true rfl) rfl ?_
  intro p9 e9 s9 m9 args9 below9 meth9 c9 hE hr hlocks hK hI ls hl
  have hx := hE.1
  have hb := hE.2.1
  have hl : lv_has ls 2 [(0, .ref (o + 285)), (1, .int 3)] := hl
  refine lv_iload_n hx hb dX6_total_0 rfl (lv_at hl 1 rfl) ?_
  refine lv_iconst (v := 0) hx hb dX6_total_1 (by decide) ?_
  refine lv_iconst (v := 3) hx hb dX6_total_2 (by decide) ?_
  refine x_callSi hE hK hI (c_X6_in l G o _ _ 3 0 3 ) mf_X6_in mw_509 rfl hl.1 rfl (Nat.le_of_ble_eq_true rfl) ⟨(Nat.le_of_ble_eq_true rfl), (Nat.le_of_ble_eq_true rfl)⟩ ⟨Nat.zero_le _, Nat.zero_le _⟩ dX6_total_3 (fun H locs hI => ?_)
  refine lv_topi (fun z1 ez1 => ?_)
  obtain rfl : 1 = z1 := (ez1.trans (bI_t (by decide))).symm
  refine lv_if_eq (tgt := 21) hx hb dX6_total_6 (by decide) (fun q => absurd q (by decide)) (fun _ => ?_)
  refine lv_aload_n hx hb dX6_total_9 rfl (lv_at hl 0 rfl) ?_
  refine x_get (k := 285) hE hK hI (by decide) inG6 (e_285 G o _ _) rfl 0 (by decide) mw_480 rfl dX6_total_10 ?_
  refine lv_bipush (v := 30) hx hb dX6_total_13 (by decide) ?_
  refine lv_iload_n hx hb dX6_total_15 rfl (lv_at hl 1 rfl) ?_
  refine lv_iadd hx hb dX6_total_16 ?_
  refine lv_topi (fun z2 ez2 => ?_)
  obtain rfl : 33 = z2 := (ez2.trans (by decide)).symm
  refine x_iald (k := 286) (j := 33) hE hK hI (by decide) (e_286 G o) (by decide) (by decide) rfl dX6_total_17 ?_
  refine lv_goto (tgt := 23) hx hb dX6_total_18 (by decide) ?_
  exact x_iret hE hr hlocks hI rfl rfl rfl dX6_total_23
set_option maxRecDepth 100000 in
set_option maxHeartbeats 4000000 in
theorem c_X6_total_a (l : Launch) (G : GG) (o : Nat) (X : SX) (Y : SY) (v : Int32) (h : ¬ (Wi v 0 3)) : Ct l yX6_total cX6_total 2 (some .int) 1 22 G o [.ref (o + 285), .int v] X Y (some (.int (-3))) X Y := by
  refine Ct.mk (by decide +kernel) (Nat.le_of_ble_eq_true rfl) rfl ?_
  intro p9 e9 s9 m9 args9 below9 meth9 c9 hE hr hlocks hK hI ls hl
  have hx := hE.1
  have hb := hE.2.1
  have hl : lv_has ls 2 [(0, .ref (o + 285)), (1, .int v)] := hl
  refine lv_iload_n hx hb dX6_total_0 rfl (lv_at hl 1 rfl) ?_
  refine lv_iconst (v := 0) hx hb dX6_total_1 (by decide) ?_
  refine lv_iconst (v := 3) hx hb dX6_total_2 (by decide) ?_
  refine x_callSi hE hK hI (c_X6_in l G o _ _ v 0 3 ) mf_X6_in mw_509 rfl hl.1 rfl (Nat.le_of_ble_eq_true rfl) ⟨(Nat.le_of_ble_eq_true rfl), (Nat.le_of_ble_eq_true rfl)⟩ ⟨Nat.zero_le _, Nat.zero_le _⟩ dX6_total_3 (fun H locs hI => ?_)
  refine lv_topi (fun z1 ez1 => ?_)
  obtain rfl : 0 = z1 := (ez1.trans (bI_f h)).symm
  refine lv_if_eq (tgt := 21) hx hb dX6_total_6 (by decide) (fun _ => ?_) (fun q => absurd (by decide) q)
  refine lv_bipush (v := (-3)) hx hb dX6_total_21 (by decide) ?_
  exact x_iret hE hr hlocks hI rfl rfl rfl dX6_total_23
set_option maxRecDepth 100000 in
set_option maxHeartbeats 4000000 in
theorem c_X6_save_a (l : Launch) (G : GG) (o : Nat) (X : SX) (Y : SY) (v : Int32) (h : ¬ (Wi v 0 1)) : Ct l yX6_save cX6_save 3 (some .int) 1 22 G o [.ref (o + 285), .int v] X Y (some (.int (-3))) X Y := by
  refine Ct.mk (by decide +kernel) (Nat.le_of_ble_eq_true rfl) rfl ?_
  intro p9 e9 s9 m9 args9 below9 meth9 c9 hE hr hlocks hK hI ls hl
  have hx := hE.1
  have hb := hE.2.1
  have hl : lv_has ls 3 [(0, .ref (o + 285)), (1, .int v)] := hl
  refine lv_iload_n hx hb dX6_save_0 rfl (lv_at hl 1 rfl) ?_
  refine lv_iconst (v := 0) hx hb dX6_save_1 (by decide) ?_
  refine lv_iconst (v := 1) hx hb dX6_save_2 (by decide) ?_
  refine x_callSi hE hK hI (c_X6_in l G o _ _ v 0 1 ) mf_X6_in mw_509 rfl hl.1 rfl (Nat.le_of_ble_eq_true rfl) ⟨(Nat.le_of_ble_eq_true rfl), (Nat.le_of_ble_eq_true rfl)⟩ ⟨Nat.zero_le _, Nat.zero_le _⟩ dX6_save_3 (fun H locs hI => ?_)
  refine lv_topi (fun z1 ez1 => ?_)
  obtain rfl : 0 = z1 := (ez1.trans (bI_f h)).symm
  refine lv_if_ne (tgt := 12) hx hb dX6_save_6 (by decide) (fun q => absurd (by decide) q) (fun _ => ?_)
  refine lv_bipush (v := (-3)) hx hb dX6_save_9 (by decide) ?_
  exact x_iret hE hr hlocks hI rfl rfl rfl dX6_save_11
set_option maxRecDepth 100000 in
set_option maxHeartbeats 4000000 in
theorem c_X6_restore_a (l : Launch) (G : GG) (o : Nat) (X : SX) (Y : SY) (v : Int32) (h : ¬ (Wi v 0 1)) : Ct l yX6_restore cX6_restore 3 (some .int) 1 22 G o [.ref (o + 285), .int v] X Y (some (.int (-3))) X Y := by
  refine Ct.mk (by decide +kernel) (Nat.le_of_ble_eq_true rfl) rfl ?_
  intro p9 e9 s9 m9 args9 below9 meth9 c9 hE hr hlocks hK hI ls hl
  have hx := hE.1
  have hb := hE.2.1
  have hl : lv_has ls 3 [(0, .ref (o + 285)), (1, .int v)] := hl
  refine lv_iload_n hx hb dX6_restore_0 rfl (lv_at hl 1 rfl) ?_
  refine lv_iconst (v := 0) hx hb dX6_restore_1 (by decide) ?_
  refine lv_iconst (v := 1) hx hb dX6_restore_2 (by decide) ?_
  refine x_callSi hE hK hI (c_X6_in l G o _ _ v 0 1 ) mf_X6_in mw_509 rfl hl.1 rfl (Nat.le_of_ble_eq_true rfl) ⟨(Nat.le_of_ble_eq_true rfl), (Nat.le_of_ble_eq_true rfl)⟩ ⟨Nat.zero_le _, Nat.zero_le _⟩ dX6_restore_3 (fun H locs hI => ?_)
  refine lv_topi (fun z1 ez1 => ?_)
  obtain rfl : 0 = z1 := (ez1.trans (bI_f h)).symm
  refine lv_if_ne (tgt := 12) hx hb dX6_restore_6 (by decide) (fun q => absurd (by decide) q) (fun _ => ?_)
  refine lv_bipush (v := (-3)) hx hb dX6_restore_9 (by decide) ?_
  exact x_iret hE hr hlocks hI rfl rfl rfl dX6_restore_11
set_option maxRecDepth 100000 in
set_option maxHeartbeats 4000000 in
theorem c_X6_restore_n0 (l : Launch) (G : GG) (o : Nat) (X : SX) (Y : SY) (h : X 288 0 = 0) : Ct l yX6_restore cX6_restore 3 (some .int) 1 22 G o [.ref (o + 285), .int 0] X Y (some (.int (-6))) X Y := by
  refine Ct.mk (by decide +kernel) (Nat.le_of_ble_eq_true rfl) rfl ?_
  intro p9 e9 s9 m9 args9 below9 meth9 c9 hE hr hlocks hK hI ls hl
  have hx := hE.1
  have hb := hE.2.1
  have hl : lv_has ls 3 [(0, .ref (o + 285)), (1, .int 0)] := hl
  refine lv_iload_n hx hb dX6_restore_0 rfl (lv_at hl 1 rfl) ?_
  refine lv_iconst (v := 0) hx hb dX6_restore_1 (by decide) ?_
  refine lv_iconst (v := 1) hx hb dX6_restore_2 (by decide) ?_
  refine x_callSi hE hK hI (c_X6_in l G o _ _ 0 0 1 ) mf_X6_in mw_509 rfl hl.1 rfl (Nat.le_of_ble_eq_true rfl) ⟨(Nat.le_of_ble_eq_true rfl), (Nat.le_of_ble_eq_true rfl)⟩ ⟨Nat.zero_le _, Nat.zero_le _⟩ dX6_restore_3 (fun H locs hI => ?_)
  refine lv_topi (fun z1 ez1 => ?_)
  obtain rfl : 1 = z1 := (ez1.trans (bI_t (by decide))).symm
  refine lv_if_ne (tgt := 12) hx hb dX6_restore_6 (by decide) (fun _ => ?_) (fun q => absurd q (by decide))
  refine lv_aload_n hx hb dX6_restore_12 rfl (lv_at hl 0 rfl) ?_
  refine x_get (k := 285) hE hK hI (by decide) inG6 (e_285 G o _ _) rfl 2 (by decide) mw_482 rfl dX6_restore_13 ?_
  refine lv_iload_n hx hb dX6_restore_16 rfl (lv_at hl 1 rfl) ?_
  refine x_zald (k := 288) (j := 0) hE hK hI (by decide) (e_288 G o) (by decide) (by decide) rfl dX6_restore_17 ?_
  refine lv_if_ne (tgt := 24) hx hb dX6_restore_18 (by decide) (fun q => absurd h q) (fun _ => ?_)
  refine lv_bipush (v := (-6)) hx hb dX6_restore_21 (by decide) ?_
  exact x_iret hE hr hlocks hI rfl rfl rfl dX6_restore_23
def svM0 (X : SX) : Nat → SX
  | 0 => X
  | k + 1 => sx (svM0 X k) 287 (0 + k) (svM0 X k 286 k)
theorem svM0_o {X : SX} {k j : Nat} (h : k ≠ 287) : ∀ n : Nat, svM0 X n k j = X k j
  | 0 => rfl
  | n + 1 => (sx_o (fun q => h q.1)).trans (svM0_o h n)
set_option maxRecDepth 100000 in
set_option maxHeartbeats 4000000 in
theorem lp_X6_save_0 (l : Launch) (G : GG) (o : Nat) (X : SX) (Y : SY) {p9 : Program} {e9 : Env} {s9 : State} {m9 : MethodId} {args9 : Array Value} {below9 : List Frame} {meth9 : Method} {c9 : Code} (hE : gE p9 m9 c9 cX6_save 3 s9 args9 yX6_save.cls) (hr : meth9.sig.returnType = (some .int)) (hlocks : meth9.locks = false) (hK : KK G s9) :
    ∀ (n : Nat) (i : Nat), i + n = 361 → ∀ (H : Heap) (locs : List Loc), In G o (svM0 X i) Y s9.heap H locs → ∀ ls : Array Slot, lv_has ls 3 [(0, .ref (o + 285)), (1, .int 0), (2, .int (nI i))] → W p9 l e9 (Rm 1 22) s9 m9 args9 below9 meth9 c9 H locs 0 0 (MQ below9 (Qw G o (some (.int (svM0 X 361 286 30))) (sx (svM0 X 361) 288 0 1) Y) args9 s9 0 0 (rg o)) (F0 m9 14 ls []) := by
  have hx := hE.1
  have hb := hE.2.1
  intro n
  induction n with
  | zero =>
    intro i hi H locs hI ls hl
    have ei : i = 361 := by omega
    refine lv_iload_n hx hb dX6_save_14 rfl (lv_at hl 2 rfl) ?_
    refine lv_sipush (v := 361) hx hb dX6_save_15 (by decide) ?_
    refine lv_icmp_ge (tgt := 45) hx hb dX6_save_18 (by decide) (fun _ => ?_) (fun q => absurd (nI_le (a := 361) (by omega) (by omega)) q)
    refine lv_aload_n hx hb dX6_save_45 rfl (lv_at hl 0 rfl) ?_
    refine x_get (k := 285) hE hK hI (by decide) inG6 (e_285 G o _ _) rfl 2 (by decide) mw_482 rfl dX6_save_46 ?_
    refine lv_iload_n hx hb dX6_save_49 rfl (lv_at hl 1 rfl) ?_
    refine lv_iconst (v := 1) hx hb dX6_save_50 (by decide) ?_
    refine x_zast (k := 288) (j := 0) hE hK hI (by decide) (e_288 G o) (by decide) (by decide) rfl (by decide) dX6_save_51 (fun H locs hI => ?_)
    refine lv_aload_n hx hb dX6_save_52 rfl (lv_at hl 0 rfl) ?_
    refine x_get (k := 285) hE hK hI (by decide) inG6 (e_285 G o _ _) rfl 0 (by decide) mw_480 rfl dX6_save_53 ?_
    refine lv_bipush (v := 30) hx hb dX6_save_56 (by decide) ?_
    refine x_iald (k := 286) (j := 30) hE hK hI (by decide) (e_286 G o) (by decide) (by decide) rfl dX6_save_58 ?_
    refine lv_topi (fun z1 ez1 => ?_)
    obtain rfl : (svM0 X i) 286 30 = z1 := (ez1.trans ((sx_o (by decide)))).symm
    exact x_iret hE hr hlocks hI (by rw [ei]) (by rw [ei]) rfl dX6_save_59
  | succ n ih =>
    intro i hi H locs hI ls hl
    refine lv_iload_n hx hb dX6_save_14 rfl (lv_at hl 2 rfl) ?_
    refine lv_sipush (v := 361) hx hb dX6_save_15 (by decide) ?_
    refine lv_icmp_ge (tgt := 45) hx hb dX6_save_18 (by decide) (fun q => absurd q (nI_ge (b := 361) (by omega) (by omega))) (fun _ => ?_)
    refine lv_aload_n hx hb dX6_save_21 rfl (lv_at hl 0 rfl) ?_
    refine x_get (k := 285) hE hK hI (by decide) inG6 (e_285 G o _ _) rfl 1 (by decide) mw_481 rfl dX6_save_22 ?_
    refine lv_sipush (v := 361) hx hb dX6_save_25 (by decide) ?_
    refine lv_iload_n hx hb dX6_save_28 rfl (lv_at hl 1 rfl) ?_
    refine lv_imul hx hb dX6_save_29 ?_
    refine lv_topi (fun z1 ez1 => ?_)
    obtain rfl : 0 = z1 := (ez1.trans (by decide)).symm
    refine lv_iload_n hx hb dX6_save_30 rfl (lv_at hl 2 rfl) ?_
    refine lv_iadd hx hb dX6_save_31 ?_
    refine lv_topi (fun z2 ez2 => ?_)
    obtain rfl : nI (0 + i) = z2 := (ez2.trans (nI_add 0 i)).symm
    refine lv_aload_n hx hb dX6_save_32 rfl (lv_at hl 0 rfl) ?_
    refine x_get (k := 285) hE hK hI (by decide) inG6 (e_285 G o _ _) rfl 0 (by decide) mw_480 rfl dX6_save_33 ?_
    refine lv_iload_n hx hb dX6_save_36 rfl (lv_at hl 2 rfl) ?_
    refine x_iald (k := 286) (j := i) hE hK hI (by decide) (e_286 G o) (by omega) (by decide) rfl dX6_save_37 ?_
    refine x_iast (k := 287) (j := (0 + i)) hE hK hI (by decide) (e_287 G o) (by omega) (by decide) rfl dX6_save_38 (fun H locs hI => ?_)
    refine lv_iinc (v := nI (i + 1)) (lv' := [(2, .int (nI (i + 1))), (0, .ref (o + 285)), (1, .int 0)]) hx hb dX6_save_39 hl (k := 2) rfl (nI_add i 1) (by decide) rfl (fun ls hl => ?_)
    refine lv_goto (tgt := 14) hx hb dX6_save_42 (by decide) ?_
    exact ih (i + 1) (by omega) H locs hI ls (lv_sub hl [1, 2, 0] rfl)
set_option maxRecDepth 100000 in
set_option maxHeartbeats 4000000 in
theorem c_X6_save_0 (l : Launch) (G : GG) (o : Nat) (X : SX) (Y : SY) : Ct l yX6_save cX6_save 3 (some .int) 1 22 G o [.ref (o + 285), .int 0] X Y (some (.int (svM0 X 361 286 30))) (sx (svM0 X 361) 288 0 1) Y := by
  refine Ct.mk (by decide +kernel) (Nat.le_of_ble_eq_true rfl) rfl ?_
  intro p9 e9 s9 m9 args9 below9 meth9 c9 hE hr hlocks hK hI ls hl
  have hx := hE.1
  have hb := hE.2.1
  have hl : lv_has ls 3 [(0, .ref (o + 285)), (1, .int 0)] := hl
  refine lv_iload_n hx hb dX6_save_0 rfl (lv_at hl 1 rfl) ?_
  refine lv_iconst (v := 0) hx hb dX6_save_1 (by decide) ?_
  refine lv_iconst (v := 1) hx hb dX6_save_2 (by decide) ?_
  refine x_callSi hE hK hI (c_X6_in l G o _ _ 0 0 1 ) mf_X6_in mw_509 rfl hl.1 rfl (Nat.le_of_ble_eq_true rfl) ⟨(Nat.le_of_ble_eq_true rfl), (Nat.le_of_ble_eq_true rfl)⟩ ⟨Nat.zero_le _, Nat.zero_le _⟩ dX6_save_3 (fun H locs hI => ?_)
  refine lv_topi (fun z1 ez1 => ?_)
  obtain rfl : 1 = z1 := (ez1.trans (bI_t (by decide))).symm
  refine lv_if_ne (tgt := 12) hx hb dX6_save_6 (by decide) (fun _ => ?_) (fun q => absurd q (by decide))
  refine lv_iconst (v := 0) hx hb dX6_save_12 (by decide) ?_
  refine lv_istore_n (lv' := [(2, .int 0), (0, .ref (o + 285)), (1, .int 0)]) hx hb dX6_save_13 rfl hl (by decide) rfl (fun ls hl => ?_)
  exact lp_X6_save_0 l G o X Y hE hr hlocks hK 361 0 (by omega) _ _ hI ls (lv_sub hl [1, 2, 0] rfl)
def rsM0 (X : SX) : Nat → SX
  | 0 => X
  | k + 1 => sx (rsM0 X k) 286 k (rsM0 X k 287 (0 + k))
theorem rsM0_o {X : SX} {k j : Nat} (h : k ≠ 286) : ∀ n : Nat, rsM0 X n k j = X k j
  | 0 => rfl
  | n + 1 => (sx_o (fun q => h q.1)).trans (rsM0_o h n)
set_option maxRecDepth 100000 in
set_option maxHeartbeats 4000000 in
theorem lp_X6_restore_0 (l : Launch) (G : GG) (o : Nat) (X : SX) (Y : SY) {p9 : Program} {e9 : Env} {s9 : State} {m9 : MethodId} {args9 : Array Value} {below9 : List Frame} {meth9 : Method} {c9 : Code} (hE : gE p9 m9 c9 cX6_restore 3 s9 args9 yX6_restore.cls) (hr : meth9.sig.returnType = (some .int)) (hlocks : meth9.locks = false) (hK : KK G s9) :
    ∀ (n : Nat) (i : Nat), i + n = 361 → ∀ (H : Heap) (locs : List Loc), In G o (rsM0 X i) Y s9.heap H locs → ∀ ls : Array Slot, lv_has ls 3 [(0, .ref (o + 285)), (1, .int 0), (2, .int (nI i))] → W p9 l e9 (Rm 1 22) s9 m9 args9 below9 meth9 c9 H locs 0 0 (MQ below9 (Qw G o (some (.int (rsM0 X 361 286 30))) (rsM0 X 361) Y) args9 s9 0 0 (rg o)) (F0 m9 26 ls []) := by
  have hx := hE.1
  have hb := hE.2.1
  intro n
  induction n with
  | zero =>
    intro i hi H locs hI ls hl
    have ei : i = 361 := by omega
    refine lv_iload_n hx hb dX6_restore_26 rfl (lv_at hl 2 rfl) ?_
    refine lv_sipush (v := 361) hx hb dX6_restore_27 (by decide) ?_
    refine lv_icmp_ge (tgt := 57) hx hb dX6_restore_30 (by decide) (fun _ => ?_) (fun q => absurd (nI_le (a := 361) (by omega) (by omega)) q)
    refine lv_aload_n hx hb dX6_restore_57 rfl (lv_at hl 0 rfl) ?_
    refine x_get (k := 285) hE hK hI (by decide) inG6 (e_285 G o _ _) rfl 0 (by decide) mw_480 rfl dX6_restore_58 ?_
    refine lv_bipush (v := 30) hx hb dX6_restore_61 (by decide) ?_
    refine x_iald (k := 286) (j := 30) hE hK hI (by decide) (e_286 G o) (by decide) (by decide) rfl dX6_restore_63 ?_
    exact x_iret hE hr hlocks hI (by rw [ei]) (by rw [ei]) rfl dX6_restore_64
  | succ n ih =>
    intro i hi H locs hI ls hl
    refine lv_iload_n hx hb dX6_restore_26 rfl (lv_at hl 2 rfl) ?_
    refine lv_sipush (v := 361) hx hb dX6_restore_27 (by decide) ?_
    refine lv_icmp_ge (tgt := 57) hx hb dX6_restore_30 (by decide) (fun q => absurd q (nI_ge (b := 361) (by omega) (by omega))) (fun _ => ?_)
    refine lv_aload_n hx hb dX6_restore_33 rfl (lv_at hl 0 rfl) ?_
    refine x_get (k := 285) hE hK hI (by decide) inG6 (e_285 G o _ _) rfl 0 (by decide) mw_480 rfl dX6_restore_34 ?_
    refine lv_iload_n hx hb dX6_restore_37 rfl (lv_at hl 2 rfl) ?_
    refine lv_aload_n hx hb dX6_restore_38 rfl (lv_at hl 0 rfl) ?_
    refine x_get (k := 285) hE hK hI (by decide) inG6 (e_285 G o _ _) rfl 1 (by decide) mw_481 rfl dX6_restore_39 ?_
    refine lv_sipush (v := 361) hx hb dX6_restore_42 (by decide) ?_
    refine lv_iload_n hx hb dX6_restore_45 rfl (lv_at hl 1 rfl) ?_
    refine lv_imul hx hb dX6_restore_46 ?_
    refine lv_topi (fun z1 ez1 => ?_)
    obtain rfl : 0 = z1 := (ez1.trans (by decide)).symm
    refine lv_iload_n hx hb dX6_restore_47 rfl (lv_at hl 2 rfl) ?_
    refine lv_iadd hx hb dX6_restore_48 ?_
    refine lv_topi (fun z2 ez2 => ?_)
    obtain rfl : nI (0 + i) = z2 := (ez2.trans (nI_add 0 i)).symm
    refine x_iald (k := 287) (j := (0 + i)) hE hK hI (by decide) (e_287 G o) (by omega) (by decide) rfl dX6_restore_49 ?_
    refine x_iast (k := 286) (j := i) hE hK hI (by decide) (e_286 G o) (by omega) (by decide) rfl dX6_restore_50 (fun H locs hI => ?_)
    refine lv_iinc (v := nI (i + 1)) (lv' := [(2, .int (nI (i + 1))), (0, .ref (o + 285)), (1, .int 0)]) hx hb dX6_restore_51 hl (k := 2) rfl (nI_add i 1) (by decide) rfl (fun ls hl => ?_)
    refine lv_goto (tgt := 26) hx hb dX6_restore_54 (by decide) ?_
    exact ih (i + 1) (by omega) H locs hI ls (lv_sub hl [1, 2, 0] rfl)
set_option maxRecDepth 100000 in
set_option maxHeartbeats 4000000 in
theorem c_X6_restore_0 (l : Launch) (G : GG) (o : Nat) (X : SX) (Y : SY) (h : ¬ (X 288 0 = 0)) : Ct l yX6_restore cX6_restore 3 (some .int) 1 22 G o [.ref (o + 285), .int 0] X Y (some (.int (rsM0 X 361 286 30))) (rsM0 X 361) Y := by
  refine Ct.mk (by decide +kernel) (Nat.le_of_ble_eq_true rfl) rfl ?_
  intro p9 e9 s9 m9 args9 below9 meth9 c9 hE hr hlocks hK hI ls hl
  have hx := hE.1
  have hb := hE.2.1
  have hl : lv_has ls 3 [(0, .ref (o + 285)), (1, .int 0)] := hl
  refine lv_iload_n hx hb dX6_restore_0 rfl (lv_at hl 1 rfl) ?_
  refine lv_iconst (v := 0) hx hb dX6_restore_1 (by decide) ?_
  refine lv_iconst (v := 1) hx hb dX6_restore_2 (by decide) ?_
  refine x_callSi hE hK hI (c_X6_in l G o _ _ 0 0 1 ) mf_X6_in mw_509 rfl hl.1 rfl (Nat.le_of_ble_eq_true rfl) ⟨(Nat.le_of_ble_eq_true rfl), (Nat.le_of_ble_eq_true rfl)⟩ ⟨Nat.zero_le _, Nat.zero_le _⟩ dX6_restore_3 (fun H locs hI => ?_)
  refine lv_topi (fun z1 ez1 => ?_)
  obtain rfl : 1 = z1 := (ez1.trans (bI_t (by decide))).symm
  refine lv_if_ne (tgt := 12) hx hb dX6_restore_6 (by decide) (fun _ => ?_) (fun q => absurd q (by decide))
  refine lv_aload_n hx hb dX6_restore_12 rfl (lv_at hl 0 rfl) ?_
  refine x_get (k := 285) hE hK hI (by decide) inG6 (e_285 G o _ _) rfl 2 (by decide) mw_482 rfl dX6_restore_13 ?_
  refine lv_iload_n hx hb dX6_restore_16 rfl (lv_at hl 1 rfl) ?_
  refine x_zald (k := 288) (j := 0) hE hK hI (by decide) (e_288 G o) (by decide) (by decide) rfl dX6_restore_17 ?_
  refine lv_if_ne (tgt := 24) hx hb dX6_restore_18 (by decide) (fun _ => ?_) (fun q => absurd q h)
  refine lv_iconst (v := 0) hx hb dX6_restore_24 (by decide) ?_
  refine lv_istore_n (lv' := [(2, .int 0), (0, .ref (o + 285)), (1, .int 0)]) hx hb dX6_restore_25 rfl hl (by decide) rfl (fun ls hl => ?_)
  exact lp_X6_restore_0 l G o X Y hE hr hlocks hK 361 0 (by omega) _ _ hI ls (lv_sub hl [1, 2, 0] rfl)
set_option maxRecDepth 100000 in
set_option maxHeartbeats 4000000 in
theorem c_X6_restore_n1 (l : Launch) (G : GG) (o : Nat) (X : SX) (Y : SY) (h : X 288 1 = 0) : Ct l yX6_restore cX6_restore 3 (some .int) 1 22 G o [.ref (o + 285), .int 1] X Y (some (.int (-6))) X Y := by
  refine Ct.mk (by decide +kernel) (Nat.le_of_ble_eq_true rfl) rfl ?_
  intro p9 e9 s9 m9 args9 below9 meth9 c9 hE hr hlocks hK hI ls hl
  have hx := hE.1
  have hb := hE.2.1
  have hl : lv_has ls 3 [(0, .ref (o + 285)), (1, .int 1)] := hl
  refine lv_iload_n hx hb dX6_restore_0 rfl (lv_at hl 1 rfl) ?_
  refine lv_iconst (v := 0) hx hb dX6_restore_1 (by decide) ?_
  refine lv_iconst (v := 1) hx hb dX6_restore_2 (by decide) ?_
  refine x_callSi hE hK hI (c_X6_in l G o _ _ 1 0 1 ) mf_X6_in mw_509 rfl hl.1 rfl (Nat.le_of_ble_eq_true rfl) ⟨(Nat.le_of_ble_eq_true rfl), (Nat.le_of_ble_eq_true rfl)⟩ ⟨Nat.zero_le _, Nat.zero_le _⟩ dX6_restore_3 (fun H locs hI => ?_)
  refine lv_topi (fun z1 ez1 => ?_)
  obtain rfl : 1 = z1 := (ez1.trans (bI_t (by decide))).symm
  refine lv_if_ne (tgt := 12) hx hb dX6_restore_6 (by decide) (fun _ => ?_) (fun q => absurd q (by decide))
  refine lv_aload_n hx hb dX6_restore_12 rfl (lv_at hl 0 rfl) ?_
  refine x_get (k := 285) hE hK hI (by decide) inG6 (e_285 G o _ _) rfl 2 (by decide) mw_482 rfl dX6_restore_13 ?_
  refine lv_iload_n hx hb dX6_restore_16 rfl (lv_at hl 1 rfl) ?_
  refine x_zald (k := 288) (j := 1) hE hK hI (by decide) (e_288 G o) (by decide) (by decide) rfl dX6_restore_17 ?_
  refine lv_if_ne (tgt := 24) hx hb dX6_restore_18 (by decide) (fun q => absurd h q) (fun _ => ?_)
  refine lv_bipush (v := (-6)) hx hb dX6_restore_21 (by decide) ?_
  exact x_iret hE hr hlocks hI rfl rfl rfl dX6_restore_23
def svM1 (X : SX) : Nat → SX
  | 0 => X
  | k + 1 => sx (svM1 X k) 287 (361 + k) (svM1 X k 286 k)
theorem svM1_o {X : SX} {k j : Nat} (h : k ≠ 287) : ∀ n : Nat, svM1 X n k j = X k j
  | 0 => rfl
  | n + 1 => (sx_o (fun q => h q.1)).trans (svM1_o h n)
set_option maxRecDepth 100000 in
set_option maxHeartbeats 4000000 in
theorem lp_X6_save_1 (l : Launch) (G : GG) (o : Nat) (X : SX) (Y : SY) {p9 : Program} {e9 : Env} {s9 : State} {m9 : MethodId} {args9 : Array Value} {below9 : List Frame} {meth9 : Method} {c9 : Code} (hE : gE p9 m9 c9 cX6_save 3 s9 args9 yX6_save.cls) (hr : meth9.sig.returnType = (some .int)) (hlocks : meth9.locks = false) (hK : KK G s9) :
    ∀ (n : Nat) (i : Nat), i + n = 361 → ∀ (H : Heap) (locs : List Loc), In G o (svM1 X i) Y s9.heap H locs → ∀ ls : Array Slot, lv_has ls 3 [(0, .ref (o + 285)), (1, .int 1), (2, .int (nI i))] → W p9 l e9 (Rm 1 22) s9 m9 args9 below9 meth9 c9 H locs 0 0 (MQ below9 (Qw G o (some (.int (svM1 X 361 286 30))) (sx (svM1 X 361) 288 1 1) Y) args9 s9 0 0 (rg o)) (F0 m9 14 ls []) := by
  have hx := hE.1
  have hb := hE.2.1
  intro n
  induction n with
  | zero =>
    intro i hi H locs hI ls hl
    have ei : i = 361 := by omega
    refine lv_iload_n hx hb dX6_save_14 rfl (lv_at hl 2 rfl) ?_
    refine lv_sipush (v := 361) hx hb dX6_save_15 (by decide) ?_
    refine lv_icmp_ge (tgt := 45) hx hb dX6_save_18 (by decide) (fun _ => ?_) (fun q => absurd (nI_le (a := 361) (by omega) (by omega)) q)
    refine lv_aload_n hx hb dX6_save_45 rfl (lv_at hl 0 rfl) ?_
    refine x_get (k := 285) hE hK hI (by decide) inG6 (e_285 G o _ _) rfl 2 (by decide) mw_482 rfl dX6_save_46 ?_
    refine lv_iload_n hx hb dX6_save_49 rfl (lv_at hl 1 rfl) ?_
    refine lv_iconst (v := 1) hx hb dX6_save_50 (by decide) ?_
    refine x_zast (k := 288) (j := 1) hE hK hI (by decide) (e_288 G o) (by decide) (by decide) rfl (by decide) dX6_save_51 (fun H locs hI => ?_)
    refine lv_aload_n hx hb dX6_save_52 rfl (lv_at hl 0 rfl) ?_
    refine x_get (k := 285) hE hK hI (by decide) inG6 (e_285 G o _ _) rfl 0 (by decide) mw_480 rfl dX6_save_53 ?_
    refine lv_bipush (v := 30) hx hb dX6_save_56 (by decide) ?_
    refine x_iald (k := 286) (j := 30) hE hK hI (by decide) (e_286 G o) (by decide) (by decide) rfl dX6_save_58 ?_
    refine lv_topi (fun z1 ez1 => ?_)
    obtain rfl : (svM1 X i) 286 30 = z1 := (ez1.trans ((sx_o (by decide)))).symm
    exact x_iret hE hr hlocks hI (by rw [ei]) (by rw [ei]) rfl dX6_save_59
  | succ n ih =>
    intro i hi H locs hI ls hl
    refine lv_iload_n hx hb dX6_save_14 rfl (lv_at hl 2 rfl) ?_
    refine lv_sipush (v := 361) hx hb dX6_save_15 (by decide) ?_
    refine lv_icmp_ge (tgt := 45) hx hb dX6_save_18 (by decide) (fun q => absurd q (nI_ge (b := 361) (by omega) (by omega))) (fun _ => ?_)
    refine lv_aload_n hx hb dX6_save_21 rfl (lv_at hl 0 rfl) ?_
    refine x_get (k := 285) hE hK hI (by decide) inG6 (e_285 G o _ _) rfl 1 (by decide) mw_481 rfl dX6_save_22 ?_
    refine lv_sipush (v := 361) hx hb dX6_save_25 (by decide) ?_
    refine lv_iload_n hx hb dX6_save_28 rfl (lv_at hl 1 rfl) ?_
    refine lv_imul hx hb dX6_save_29 ?_
    refine lv_topi (fun z1 ez1 => ?_)
    obtain rfl : 361 = z1 := (ez1.trans (by decide)).symm
    refine lv_iload_n hx hb dX6_save_30 rfl (lv_at hl 2 rfl) ?_
    refine lv_iadd hx hb dX6_save_31 ?_
    refine lv_topi (fun z2 ez2 => ?_)
    obtain rfl : nI (361 + i) = z2 := (ez2.trans (nI_add 361 i)).symm
    refine lv_aload_n hx hb dX6_save_32 rfl (lv_at hl 0 rfl) ?_
    refine x_get (k := 285) hE hK hI (by decide) inG6 (e_285 G o _ _) rfl 0 (by decide) mw_480 rfl dX6_save_33 ?_
    refine lv_iload_n hx hb dX6_save_36 rfl (lv_at hl 2 rfl) ?_
    refine x_iald (k := 286) (j := i) hE hK hI (by decide) (e_286 G o) (by omega) (by decide) rfl dX6_save_37 ?_
    refine x_iast (k := 287) (j := (361 + i)) hE hK hI (by decide) (e_287 G o) (by omega) (by decide) rfl dX6_save_38 (fun H locs hI => ?_)
    refine lv_iinc (v := nI (i + 1)) (lv' := [(2, .int (nI (i + 1))), (0, .ref (o + 285)), (1, .int 1)]) hx hb dX6_save_39 hl (k := 2) rfl (nI_add i 1) (by decide) rfl (fun ls hl => ?_)
    refine lv_goto (tgt := 14) hx hb dX6_save_42 (by decide) ?_
    exact ih (i + 1) (by omega) H locs hI ls (lv_sub hl [1, 2, 0] rfl)
set_option maxRecDepth 100000 in
set_option maxHeartbeats 4000000 in
theorem c_X6_save_1 (l : Launch) (G : GG) (o : Nat) (X : SX) (Y : SY) : Ct l yX6_save cX6_save 3 (some .int) 1 22 G o [.ref (o + 285), .int 1] X Y (some (.int (svM1 X 361 286 30))) (sx (svM1 X 361) 288 1 1) Y := by
  refine Ct.mk (by decide +kernel) (Nat.le_of_ble_eq_true rfl) rfl ?_
  intro p9 e9 s9 m9 args9 below9 meth9 c9 hE hr hlocks hK hI ls hl
  have hx := hE.1
  have hb := hE.2.1
  have hl : lv_has ls 3 [(0, .ref (o + 285)), (1, .int 1)] := hl
  refine lv_iload_n hx hb dX6_save_0 rfl (lv_at hl 1 rfl) ?_
  refine lv_iconst (v := 0) hx hb dX6_save_1 (by decide) ?_
  refine lv_iconst (v := 1) hx hb dX6_save_2 (by decide) ?_
  refine x_callSi hE hK hI (c_X6_in l G o _ _ 1 0 1 ) mf_X6_in mw_509 rfl hl.1 rfl (Nat.le_of_ble_eq_true rfl) ⟨(Nat.le_of_ble_eq_true rfl), (Nat.le_of_ble_eq_true rfl)⟩ ⟨Nat.zero_le _, Nat.zero_le _⟩ dX6_save_3 (fun H locs hI => ?_)
  refine lv_topi (fun z1 ez1 => ?_)
  obtain rfl : 1 = z1 := (ez1.trans (bI_t (by decide))).symm
  refine lv_if_ne (tgt := 12) hx hb dX6_save_6 (by decide) (fun _ => ?_) (fun q => absurd q (by decide))
  refine lv_iconst (v := 0) hx hb dX6_save_12 (by decide) ?_
  refine lv_istore_n (lv' := [(2, .int 0), (0, .ref (o + 285)), (1, .int 1)]) hx hb dX6_save_13 rfl hl (by decide) rfl (fun ls hl => ?_)
  exact lp_X6_save_1 l G o X Y hE hr hlocks hK 361 0 (by omega) _ _ hI ls (lv_sub hl [1, 2, 0] rfl)
def rsM1 (X : SX) : Nat → SX
  | 0 => X
  | k + 1 => sx (rsM1 X k) 286 k (rsM1 X k 287 (361 + k))
theorem rsM1_o {X : SX} {k j : Nat} (h : k ≠ 286) : ∀ n : Nat, rsM1 X n k j = X k j
  | 0 => rfl
  | n + 1 => (sx_o (fun q => h q.1)).trans (rsM1_o h n)
set_option maxRecDepth 100000 in
set_option maxHeartbeats 4000000 in
theorem lp_X6_restore_1 (l : Launch) (G : GG) (o : Nat) (X : SX) (Y : SY) {p9 : Program} {e9 : Env} {s9 : State} {m9 : MethodId} {args9 : Array Value} {below9 : List Frame} {meth9 : Method} {c9 : Code} (hE : gE p9 m9 c9 cX6_restore 3 s9 args9 yX6_restore.cls) (hr : meth9.sig.returnType = (some .int)) (hlocks : meth9.locks = false) (hK : KK G s9) :
    ∀ (n : Nat) (i : Nat), i + n = 361 → ∀ (H : Heap) (locs : List Loc), In G o (rsM1 X i) Y s9.heap H locs → ∀ ls : Array Slot, lv_has ls 3 [(0, .ref (o + 285)), (1, .int 1), (2, .int (nI i))] → W p9 l e9 (Rm 1 22) s9 m9 args9 below9 meth9 c9 H locs 0 0 (MQ below9 (Qw G o (some (.int (rsM1 X 361 286 30))) (rsM1 X 361) Y) args9 s9 0 0 (rg o)) (F0 m9 26 ls []) := by
  have hx := hE.1
  have hb := hE.2.1
  intro n
  induction n with
  | zero =>
    intro i hi H locs hI ls hl
    have ei : i = 361 := by omega
    refine lv_iload_n hx hb dX6_restore_26 rfl (lv_at hl 2 rfl) ?_
    refine lv_sipush (v := 361) hx hb dX6_restore_27 (by decide) ?_
    refine lv_icmp_ge (tgt := 57) hx hb dX6_restore_30 (by decide) (fun _ => ?_) (fun q => absurd (nI_le (a := 361) (by omega) (by omega)) q)
    refine lv_aload_n hx hb dX6_restore_57 rfl (lv_at hl 0 rfl) ?_
    refine x_get (k := 285) hE hK hI (by decide) inG6 (e_285 G o _ _) rfl 0 (by decide) mw_480 rfl dX6_restore_58 ?_
    refine lv_bipush (v := 30) hx hb dX6_restore_61 (by decide) ?_
    refine x_iald (k := 286) (j := 30) hE hK hI (by decide) (e_286 G o) (by decide) (by decide) rfl dX6_restore_63 ?_
    exact x_iret hE hr hlocks hI (by rw [ei]) (by rw [ei]) rfl dX6_restore_64
  | succ n ih =>
    intro i hi H locs hI ls hl
    refine lv_iload_n hx hb dX6_restore_26 rfl (lv_at hl 2 rfl) ?_
    refine lv_sipush (v := 361) hx hb dX6_restore_27 (by decide) ?_
    refine lv_icmp_ge (tgt := 57) hx hb dX6_restore_30 (by decide) (fun q => absurd q (nI_ge (b := 361) (by omega) (by omega))) (fun _ => ?_)
    refine lv_aload_n hx hb dX6_restore_33 rfl (lv_at hl 0 rfl) ?_
    refine x_get (k := 285) hE hK hI (by decide) inG6 (e_285 G o _ _) rfl 0 (by decide) mw_480 rfl dX6_restore_34 ?_
    refine lv_iload_n hx hb dX6_restore_37 rfl (lv_at hl 2 rfl) ?_
    refine lv_aload_n hx hb dX6_restore_38 rfl (lv_at hl 0 rfl) ?_
    refine x_get (k := 285) hE hK hI (by decide) inG6 (e_285 G o _ _) rfl 1 (by decide) mw_481 rfl dX6_restore_39 ?_
    refine lv_sipush (v := 361) hx hb dX6_restore_42 (by decide) ?_
    refine lv_iload_n hx hb dX6_restore_45 rfl (lv_at hl 1 rfl) ?_
    refine lv_imul hx hb dX6_restore_46 ?_
    refine lv_topi (fun z1 ez1 => ?_)
    obtain rfl : 361 = z1 := (ez1.trans (by decide)).symm
    refine lv_iload_n hx hb dX6_restore_47 rfl (lv_at hl 2 rfl) ?_
    refine lv_iadd hx hb dX6_restore_48 ?_
    refine lv_topi (fun z2 ez2 => ?_)
    obtain rfl : nI (361 + i) = z2 := (ez2.trans (nI_add 361 i)).symm
    refine x_iald (k := 287) (j := (361 + i)) hE hK hI (by decide) (e_287 G o) (by omega) (by decide) rfl dX6_restore_49 ?_
    refine x_iast (k := 286) (j := i) hE hK hI (by decide) (e_286 G o) (by omega) (by decide) rfl dX6_restore_50 (fun H locs hI => ?_)
    refine lv_iinc (v := nI (i + 1)) (lv' := [(2, .int (nI (i + 1))), (0, .ref (o + 285)), (1, .int 1)]) hx hb dX6_restore_51 hl (k := 2) rfl (nI_add i 1) (by decide) rfl (fun ls hl => ?_)
    refine lv_goto (tgt := 26) hx hb dX6_restore_54 (by decide) ?_
    exact ih (i + 1) (by omega) H locs hI ls (lv_sub hl [1, 2, 0] rfl)
set_option maxRecDepth 100000 in
set_option maxHeartbeats 4000000 in
theorem c_X6_restore_1 (l : Launch) (G : GG) (o : Nat) (X : SX) (Y : SY) (h : ¬ (X 288 1 = 0)) : Ct l yX6_restore cX6_restore 3 (some .int) 1 22 G o [.ref (o + 285), .int 1] X Y (some (.int (rsM1 X 361 286 30))) (rsM1 X 361) Y := by
  refine Ct.mk (by decide +kernel) (Nat.le_of_ble_eq_true rfl) rfl ?_
  intro p9 e9 s9 m9 args9 below9 meth9 c9 hE hr hlocks hK hI ls hl
  have hx := hE.1
  have hb := hE.2.1
  have hl : lv_has ls 3 [(0, .ref (o + 285)), (1, .int 1)] := hl
  refine lv_iload_n hx hb dX6_restore_0 rfl (lv_at hl 1 rfl) ?_
  refine lv_iconst (v := 0) hx hb dX6_restore_1 (by decide) ?_
  refine lv_iconst (v := 1) hx hb dX6_restore_2 (by decide) ?_
  refine x_callSi hE hK hI (c_X6_in l G o _ _ 1 0 1 ) mf_X6_in mw_509 rfl hl.1 rfl (Nat.le_of_ble_eq_true rfl) ⟨(Nat.le_of_ble_eq_true rfl), (Nat.le_of_ble_eq_true rfl)⟩ ⟨Nat.zero_le _, Nat.zero_le _⟩ dX6_restore_3 (fun H locs hI => ?_)
  refine lv_topi (fun z1 ez1 => ?_)
  obtain rfl : 1 = z1 := (ez1.trans (bI_t (by decide))).symm
  refine lv_if_ne (tgt := 12) hx hb dX6_restore_6 (by decide) (fun _ => ?_) (fun q => absurd q (by decide))
  refine lv_aload_n hx hb dX6_restore_12 rfl (lv_at hl 0 rfl) ?_
  refine x_get (k := 285) hE hK hI (by decide) inG6 (e_285 G o _ _) rfl 2 (by decide) mw_482 rfl dX6_restore_13 ?_
  refine lv_iload_n hx hb dX6_restore_16 rfl (lv_at hl 1 rfl) ?_
  refine x_zald (k := 288) (j := 1) hE hK hI (by decide) (e_288 G o) (by decide) (by decide) rfl dX6_restore_17 ?_
  refine lv_if_ne (tgt := 24) hx hb dX6_restore_18 (by decide) (fun _ => ?_) (fun q => absurd q h)
  refine lv_iconst (v := 0) hx hb dX6_restore_24 (by decide) ?_
  refine lv_istore_n (lv' := [(2, .int 0), (0, .ref (o + 285)), (1, .int 1)]) hx hb dX6_restore_25 rfl hl (by decide) rfl (fun ls hl => ?_)
  exact lp_X6_restore_1 l G o X Y hE hr hlocks hK 361 0 (by omega) _ _ hI ls (lv_sub hl [1, 2, 0] rfl)
