abbrev wo_X6_takesLetter : List Cond := .code yX6_takesLetter cX6_takesLetter 3 (some .boolean) :: wsL_law
set_option maxHeartbeats 4000000 in
set_option maxRecDepth 100000 in
theorem core_X6_takesLetter {N : Nat} (D : va_G) (k : Nat → ClassId) (a : Nat → Nat) (xLen : Nat → Int32) (xHits : Nat → Int32) (xUns : Nat → Int32) (xItems : Nat → Nat → Int32) (xLost : Nat → Int32) (xKind : Nat → Int32) (xSize : Nat → Int32) (xLet : Nat → Int32) (xRel : Nat → Int32) (xLim : Nat → Int32) (xOpen : Nat → Int32) (xMeas : Nat → Int32) (xSL : Int32) (xST : Int32) (xSD : Int32) (xSK : Int32) (xTal : Nat → Nat → Int32) (xKn : Nat → Int32) (xFT : Nat → Int32) (xFA : Int32) (xFE : Int32) (xOdds : Int32) (xPat : Int32) (xFind : Int32) (zb zv : Nat) (x1 : Int32) {p : Program} {l : Launch} {e : Env} {s : State} {m : MethodId} {args : Array Value} {below : List Frame} {meth : Method} {c : Code} {ls : Array Slot} (hx : p.tables.exec = Jvm.exec) (hb : c.code = cX6_takesLetter) (hml : c.maxLocals = 3) (hr : meth.sig.returnType = some .boolean) (hts : ∀ w ∈ wo_X6_takesLetter, w.before args s = true) (hown : s.vm.findClass RX6 = some m.cls) (hlocks : meth.locks = false) (hl : lv_has ls 3 [(0, .ref (a 3)), (1, .int x1)]) (hK : va_K D vwCl (xTys k) s) (hP : va_P D vwCl (wX k a xLen xHits xUns xItems xLost xKind xSize xLet xRel xLim xOpen xMeas xSL xST xSD xSK xTal xKn xFT xFA xFE xOdds xPat xFind) s.heap) {A : Nat → Prop} (hD : va_D A (wX k a xLen xHits xUns xItems xLost xKind xSize xLet xRel xLim xOpen xMeas xSL xST xSD xSK xTal xKn xFT xFA xFE xOdds xPat xFind)) (hA : ∀ q : Nat, s.heap.size ≤ q → A q) (hZ : zS zb zv A s s.heap) {o : Int32 × (Nat → Int32) × (Int32)} (h : f_X6_takesLetter N x1 xLet xST xSD = some o) : gQi p l e wo_X6_takesLetter 4 s m args below meth c D k A o.1 (wX k a xLen xHits xUns xItems xLost xKind xSize o.2.1 xRel xLim xOpen xMeas xSL xST o.2.2 xSK xTal xKn xFT xFA xFE xOdds xPat xFind) s.heap [] (F0 m 0 ls []) := by
  have hi6 := (fun w h => List.mem_cons_of_mem _ (inlX6 w h) : ∀ w ∈ wsX60, w ∈ wo_X6_takesLetter)
  have kf35 := hts _ (List.mem_cons_of_mem _ wm_282)
  have kf11 := hts _ (List.mem_cons_of_mem _ wm_49)
  have kf38 := hts _ (List.mem_cons_of_mem _ wm_277)
  unfold f_X6_takesLetter at h
  have hS : va_S A s.heap s.heap [] := va_S.rf
  obtain ⟨H, hH⟩ : ∃ H : Heap, H = s.heap := ⟨_, rfl⟩
  obtain ⟨locs, hlc⟩ : ∃ locs : List Loc, locs = [] := ⟨_, rfl⟩
  have hS : va_S A s.heap H locs := by rw [hH, hlc]; exact va_S.rf
  have hP : va_P D vwCl (wX k a xLen xHits xUns xItems xLost xKind xSize xLet xRel xLim xOpen xMeas xSL xST xSD xSK xTal xKn xFT xFA xFE xOdds xPat xFind) H := by rw [hH]; exact hP
  suffices hGo : gQi p l e wo_X6_takesLetter 4 s m args below meth c D k A o.1 (wX k a xLen xHits xUns xItems xLost xKind xSize o.2.1 xRel xLim xOpen xMeas xSL xST o.2.2 xSK xTal xKn xFT xFA xFE xOdds xPat xFind) H locs (F0 m 0 ls []) by rw [hH, hlc] at hGo; exact hGo
  refine va_ldcS (q := zb) hx hb hown hZ.2.2 dX6_takesLetter_0 ?_
  refine lv_iload_n hx hb dX6_takesLetter_2 rfl (lv_at hl 1 rfl) ?_
  refine lv_i2c (v := (x1.toUInt32 % 65536).toInt32) hx hb dX6_takesLetter_3 rfl ?_
  obtain ⟨o1, eq2, h⟩ := bnd_some h
  refine kZiV (rest := []) ⟨hx, hb, hml, hown, hts⟩ (c_J0_indexOf_0f7a4 l zb zv ((x1.toUInt32 % 65536).toInt32) eq2) (cwV 1 hts (gAV wm_283 wm_284 wm_285 wm_286 wm_287) rfl rfl rfl qd_J0_indexOf_0f7a4 ⟨Nat.le_of_ble_eq_true rfl, Nat.le_of_ble_eq_true rfl⟩) hZ hS rfl hl.1 rfl (Nat.le_of_ble_eq_true rfl) dX6_takesLetter_4 ⟨Nat.zero_le _, Nat.zero_le _⟩ ?_
  refine lv_istore_n (lv' := [(2, .int o1), (0, .ref (a 3)), (1, .int x1)]) hx hb dX6_takesLetter_7 rfl hl (by decide) rfl (fun ls hl => ?_)
  refine lv_iload_n hx hb dX6_takesLetter_8 rfl (lv_at hl 0 rfl) ?_
  refine lv_if_lt (tgt := 21) hx hb dX6_takesLetter_9 (by decide) (fun c3 => ?_) (fun c3 => ?_)
  · replace h := (if_pos c3).symm.trans h
    refine lv_iconst (v := 0) hx hb dX6_takesLetter_21 (by decide) ?_
    have he := Option.some.inj h
    exact W.zret (v := 0) hx hb hr rfl (fun t ht hW => ⟨⟨0, wX k a xLen xHits xUns xItems xLost xKind xSize xLet xRel xLim xOpen xMeas xSL xST xSD xSK xTal xKn xFT xFA xFE xOdds xPat xFind, rfl, ⟨(congrArg (fun z => z.1) he), (congrArg (fun z => wX k a xLen xHits xUns xItems xLost xKind xSize z.2.1 xRel xLim xOpen xMeas xSL xST z.2.2 xSK xTal xKn xFT xFA xFE xOdds xPat xFind) he)⟩, by rw [ht]; exact hP, va_K.moved hW.alike hK, hD⟩, hS.F ht⟩) hS.2.2 dX6_takesLetter_22
  · replace h := (if_neg c3).symm.trans h
    refine lv_aload_n hx hb dX6_takesLetter_12 rfl (lv_at hl 1 rfl) ?_
    refine va_get (D := D) (ci := 2) (v := .int xST) (C := RX6) (T := TX6) (N := 9) hx hb hts hi6 hown hK hP (3) (rfl) rfl 6 (by decide) kf35 (fun _ h9 => h9) rfl dX6_takesLetter_13 ?_
    refine lv_bipush (v := 16) hx hb dX6_takesLetter_16 (by decide) ?_
    refine lv_icmp_lt (tgt := 23) hx hb dX6_takesLetter_18 (by decide) (fun c4 => ?_) (fun c4 => ?_)
    · replace h := (if_pos c4).symm.trans h
      refine lv_aload_n hx hb dX6_takesLetter_23 rfl (lv_at hl 1 rfl) ?_
      refine va_get (D := D) (ci := 2) (v := .ref (a 4)) (C := RX6) (T := TX6) (N := 9) hx hb hts hi6 hown hK hP (3) (rfl) rfl 0 (by decide) kf11 (fun _ h9 => h9) rfl dX6_takesLetter_24 ?_
      refine lv_aload_n hx hb dX6_takesLetter_27 rfl (lv_at hl 1 rfl) ?_
      refine va_get (D := D) (ci := 2) (v := .int xST) (C := RX6) (T := TX6) (N := 9) hx hb hts hi6 hown hK hP (3) (rfl) rfl 6 (by decide) kf35 (fun _ h9 => h9) rfl dX6_takesLetter_28 ?_
      refine lv_iload_n hx hb dX6_takesLetter_31 rfl (lv_at hl 0 rfl) ?_
      obtain ⟨g5, h⟩ := gIn_some h
      refine va_iast hx hb hK hP hD hS (4) 0 (rfl) rfl g5 dX6_takesLetter_32 (fun H locs hP hD hS => ?_)
      have hP : va_P D vwCl (wX k a xLen xHits xUns xItems xLost xKind xSize (upd xLet xST.toNatClampNeg o1) xRel xLim xOpen xMeas xSL xST xSD xSK xTal xKn xFT xFA xFE xOdds xPat xFind) H := hP
      have hD : va_D A (wX k a xLen xHits xUns xItems xLost xKind xSize (upd xLet xST.toNatClampNeg o1) xRel xLim xOpen xMeas xSL xST xSD xSK xTal xKn xFT xFA xFE xOdds xPat xFind) := hD
      refine lv_aload_n hx hb dX6_takesLetter_33 rfl (lv_at hl 1 rfl) ?_
      refine lv_iconst (v := 1) hx hb dX6_takesLetter_34 (by decide) ?_
      refine va_put (D := D) (ci := 2) (v := .int 1) (ty := .int) (C := RX6) (T := TX6) (N := 9) hx hb hts hi6 tyX6 tyX6_ok nmX6 hown hK hP hD hS (3) (rfl) rfl 7 (by decide) kf38 (fun _ h9 => h9) rfl (tyX6_ok 7 (by decide)) rfl rfl (Nat.le_of_ble_eq_true rfl) dX6_takesLetter_35 (fun H locs hP hD hS => ?_)
      have hP : va_P D vwCl (wX k a xLen xHits xUns xItems xLost xKind xSize (upd xLet xST.toNatClampNeg o1) xRel xLim xOpen xMeas xSL xST 1 xSK xTal xKn xFT xFA xFE xOdds xPat xFind) H := hP
      have hD : va_D A (wX k a xLen xHits xUns xItems xLost xKind xSize (upd xLet xST.toNatClampNeg o1) xRel xLim xOpen xMeas xSL xST 1 xSK xTal xKn xFT xFA xFE xOdds xPat xFind) := hD
      refine lv_iconst (v := 1) hx hb dX6_takesLetter_38 (by decide) ?_
      have he := Option.some.inj h
      exact W.zret (v := 1) hx hb hr rfl (fun t ht hW => ⟨⟨1, wX k a xLen xHits xUns xItems xLost xKind xSize (upd xLet xST.toNatClampNeg o1) xRel xLim xOpen xMeas xSL xST 1 xSK xTal xKn xFT xFA xFE xOdds xPat xFind, rfl, ⟨(congrArg (fun z => z.1) he), (congrArg (fun z => wX k a xLen xHits xUns xItems xLost xKind xSize z.2.1 xRel xLim xOpen xMeas xSL xST z.2.2 xSK xTal xKn xFT xFA xFE xOdds xPat xFind) he)⟩, by rw [ht]; exact hP, va_K.moved hW.alike hK, hD⟩, hS.F ht⟩) hS.2.2 dX6_takesLetter_39
    · replace h := (if_neg c4).symm.trans h
      refine lv_iconst (v := 0) hx hb dX6_takesLetter_21 (by decide) ?_
      have he := Option.some.inj h
      exact W.zret (v := 0) hx hb hr rfl (fun t ht hW => ⟨⟨0, wX k a xLen xHits xUns xItems xLost xKind xSize xLet xRel xLim xOpen xMeas xSL xST xSD xSK xTal xKn xFT xFA xFE xOdds xPat xFind, rfl, ⟨(congrArg (fun z => z.1) he), (congrArg (fun z => wX k a xLen xHits xUns xItems xLost xKind xSize z.2.1 xRel xLim xOpen xMeas xSL xST z.2.2 xSK xTal xKn xFT xFA xFE xOdds xPat xFind) he)⟩, by rw [ht]; exact hP, va_K.moved hW.alike hK, hD⟩, hS.F ht⟩) hS.2.2 dX6_takesLetter_22
set_option maxHeartbeats 4000000 in
set_option maxRecDepth 100000 in
theorem c_X6_takesLetter {N : Nat} (l : Launch) (D : va_G) (k : Nat → ClassId) (a : Nat → Nat) (xLen : Nat → Int32) (xHits : Nat → Int32) (xUns : Nat → Int32) (xItems : Nat → Nat → Int32) (xLost : Nat → Int32) (xKind : Nat → Int32) (xSize : Nat → Int32) (xLet : Nat → Int32) (xRel : Nat → Int32) (xLim : Nat → Int32) (xOpen : Nat → Int32) (xMeas : Nat → Int32) (xSL : Int32) (xST : Int32) (xSD : Int32) (xSK : Int32) (xTal : Nat → Nat → Int32) (xKn : Nat → Int32) (xFT : Nat → Int32) (xFA : Int32) (xFE : Int32) (xOdds : Int32) (xPat : Int32) (xFind : Int32) (zb zv : Nat) (x1 : Int32) {o : Int32 × (Nat → Int32) × (Int32)} (h : f_X6_takesLetter N x1 xLet xST xSD = some o) : zQi l yX6_takesLetter wo_X6_takesLetter 4 zb zv D k [.ref (a 3), .int x1] (wX k a xLen xHits xUns xItems xLost xKind xSize xLet xRel xLim xOpen xMeas xSL xST xSD xSK xTal xKn xFT xFA xFE xOdds xPat xFind) o.1 (wX k a xLen xHits xUns xItems xLost xKind xSize o.2.1 xRel xLim xOpen xMeas xSL xST o.2.2 xSK xTal xKn xFT xFA xFE xOdds xPat xFind) := by
  intro sz
  refine Met.ofW (cc := cX6_takesLetter) (maxL := 3) (ret := some .boolean) (by decide) rfl ?_
  intro p e s m args below meth c s₁ B hml hv
  obtain ⟨rfl, hsz, hP, hK, hD0, hZ⟩ := hv
  subst hsz
  rw [lg_entry_eq]
  exact core_X6_takesLetter D k a xLen xHits xUns xItems xLost xKind xSize xLet xRel xLim xOpen xMeas xSL xST xSD xSK xTal xKn xFT xFA xFE xOdds xPat xFind zb zv x1 B.exec B.bytes hml B.returns (atoms_spec (ws := wo_X6_takesLetter) B.pre) (findClass_of_methodNamed B.named) B.notSynchronized (lv_entry [.ref (a 3), .int x1] (n := 3) (Nat.le_of_ble_eq_true rfl)) hK hP hD0.self (fun q h => Or.inr h) hZ h
theorem qd_X6_takesLetter : yX6_takesLetter.cls = RX6 ∧ yX6_takesLetter.cls ≠ "java/lang/invoke/MethodHandle" ∧ yX6_takesLetter.cls ≠ "java/lang/invoke/VarHandle" ∧ (parseMethodDescriptor yX6_takesLetter.desc).map (fun d => d.parameters.length) = some 1 := by decide +kernel
abbrev wo_X6_goesOn : List Cond := .code yX6_goesOn cX6_goesOn 2 (some .boolean) :: wsL_law
set_option maxHeartbeats 4000000 in
set_option maxRecDepth 100000 in
theorem core_X6_goesOn {N : Nat} (D : va_G) (k : Nat → ClassId) (a : Nat → Nat) (xLen : Nat → Int32) (xHits : Nat → Int32) (xUns : Nat → Int32) (xItems : Nat → Nat → Int32) (xLost : Nat → Int32) (xKind : Nat → Int32) (xSize : Nat → Int32) (xLet : Nat → Int32) (xRel : Nat → Int32) (xLim : Nat → Int32) (xOpen : Nat → Int32) (xMeas : Nat → Int32) (xSL : Int32) (xST : Int32) (xSD : Int32) (xSK : Int32) (xTal : Nat → Nat → Int32) (xKn : Nat → Int32) (xFT : Nat → Int32) (xFA : Int32) (xFE : Int32) (xOdds : Int32) (xPat : Int32) (xFind : Int32) (zb zv : Nat) (x1 : Int32) {p : Program} {l : Launch} {e : Env} {s : State} {m : MethodId} {args : Array Value} {below : List Frame} {meth : Method} {c : Code} {ls : Array Slot} (hx : p.tables.exec = Jvm.exec) (hb : c.code = cX6_goesOn) (hml : c.maxLocals = 2) (hr : meth.sig.returnType = some .boolean) (hts : ∀ w ∈ wo_X6_goesOn, w.before args s = true) (hown : s.vm.findClass RX6 = some m.cls) (hlocks : meth.locks = false) (hl : lv_has ls 2 [(0, .ref (a 3)), (1, .int x1)]) (hK : va_K D vwCl (xTys k) s) (hP : va_P D vwCl (wX k a xLen xHits xUns xItems xLost xKind xSize xLet xRel xLim xOpen xMeas xSL xST xSD xSK xTal xKn xFT xFA xFE xOdds xPat xFind) s.heap) {A : Nat → Prop} (hD : va_D A (wX k a xLen xHits xUns xItems xLost xKind xSize xLet xRel xLim xOpen xMeas xSL xST xSD xSK xTal xKn xFT xFA xFE xOdds xPat xFind)) (hA : ∀ q : Nat, s.heap.size ≤ q → A q) (hZ : zS zb zv A s s.heap) {o : Int32 × (Nat → Int32) × (Nat → Int32) × (Nat → Int32) × (Nat → Int32) × (Int32) × (Int32)} (h : f_X6_goesOn N x1 xLet xRel xLim xOpen xST xSD = some o) : gQi p l e wo_X6_goesOn 5 s m args below meth c D k A o.1 (wX k a xLen xHits xUns xItems xLost xKind xSize o.2.1 o.2.2.1 o.2.2.2.1 o.2.2.2.2.1 xMeas xSL o.2.2.2.2.2.1 o.2.2.2.2.2.2 xSK xTal xKn xFT xFA xFE xOdds xPat xFind) s.heap [] (F0 m 0 ls []) := by
  have hi6 := (fun w h => List.mem_cons_of_mem _ (inlX6 w h) : ∀ w ∈ wsX60, w ∈ wo_X6_goesOn)
  have kf38 := hts _ (List.mem_cons_of_mem _ wm_277)
  unfold f_X6_goesOn at h
  have hS : va_S A s.heap s.heap [] := va_S.rf
  have J70 : ∀ (xLet : Nat → Int32) (xRel : Nat → Int32) (xLim : Nat → Int32) (xOpen : Nat → Int32) (xST : Int32) (xSD : Int32) (ls : Array Slot) (H : Heap) (locs : List Loc) (hl : lv_has ls 2 []) (hP : va_P D vwCl (wX k a xLen xHits xUns xItems xLost xKind xSize xLet xRel xLim xOpen xMeas xSL xST xSD xSK xTal xKn xFT xFA xFE xOdds xPat xFind) H) (hD : va_D A (wX k a xLen xHits xUns xItems xLost xKind xSize xLet xRel xLim xOpen xMeas xSL xST xSD xSK xTal xKn xFT xFA xFE xOdds xPat xFind)) (hS : va_S A s.heap H locs) (h : f_X6_goesOn_70 N xLet xRel xLim xOpen xST xSD = some o), gQi p l e wo_X6_goesOn 5 s m args below meth c D k A o.1 (wX k a xLen xHits xUns xItems xLost xKind xSize o.2.1 o.2.2.1 o.2.2.2.1 o.2.2.2.2.1 xMeas xSL o.2.2.2.2.2.1 o.2.2.2.2.2.2 xSK xTal xKn xFT xFA xFE xOdds xPat xFind) H locs (F0 m 70 ls []) := by
    intro xLet xRel xLim xOpen xST xSD ls H locs hl hP hD hS h
    unfold f_X6_goesOn_70 at h
    refine lv_iconst (v := 1) hx hb dX6_goesOn_70 (by decide) ?_
    refine lv_goto (tgt := 75) hx hb dX6_goesOn_71 (by decide) ?_
    have he := Option.some.inj h
    exact W.zret (v := 1) hx hb hr rfl (fun t ht hW => ⟨⟨1, wX k a xLen xHits xUns xItems xLost xKind xSize xLet xRel xLim xOpen xMeas xSL xST xSD xSK xTal xKn xFT xFA xFE xOdds xPat xFind, rfl, ⟨(congrArg (fun z => z.1) he), (congrArg (fun z => wX k a xLen xHits xUns xItems xLost xKind xSize z.2.1 z.2.2.1 z.2.2.2.1 z.2.2.2.2.1 xMeas xSL z.2.2.2.2.2.1 z.2.2.2.2.2.2 xSK xTal xKn xFT xFA xFE xOdds xPat xFind) he)⟩, by rw [ht]; exact hP, va_K.moved hW.alike hK, hD⟩, hS.F ht⟩) hS.2.2 dX6_goesOn_75
  obtain ⟨H, hH⟩ : ∃ H : Heap, H = s.heap := ⟨_, rfl⟩
  obtain ⟨locs, hlc⟩ : ∃ locs : List Loc, locs = [] := ⟨_, rfl⟩
  have hS : va_S A s.heap H locs := by rw [hH, hlc]; exact va_S.rf
  have hP : va_P D vwCl (wX k a xLen xHits xUns xItems xLost xKind xSize xLet xRel xLim xOpen xMeas xSL xST xSD xSK xTal xKn xFT xFA xFE xOdds xPat xFind) H := by rw [hH]; exact hP
  suffices hGo : gQi p l e wo_X6_goesOn 5 s m args below meth c D k A o.1 (wX k a xLen xHits xUns xItems xLost xKind xSize o.2.1 o.2.2.1 o.2.2.2.1 o.2.2.2.2.1 xMeas xSL o.2.2.2.2.2.1 o.2.2.2.2.2.2 xSK xTal xKn xFT xFA xFE xOdds xPat xFind) H locs (F0 m 0 ls []) by rw [hH, hlc] at hGo; exact hGo
  refine lv_aload_n hx hb dX6_goesOn_0 rfl (lv_at hl 0 rfl) ?_
  refine va_get (D := D) (ci := 2) (v := .int xSD) (C := RX6) (T := TX6) (N := 9) hx hb hts hi6 hown hK hP (3) (rfl) rfl 7 (by decide) kf38 (fun _ h9 => h9) rfl dX6_goesOn_1 ?_
  by_cases c1 : xSD = 0
  · replace h := (if_pos c1).symm.trans h
    refine lv_tableIn (tgt := 36) hx hb dX6_goesOn_4 (by rw [c1]; decide) (by rw [c1]; decide) (by rw [c1]; rfl) (by decide) ?_
    refine lv_aload_n hx hb dX6_goesOn_36 rfl (lv_at hl 0 rfl) ?_
    refine lv_iload_n hx hb dX6_goesOn_37 rfl (lv_at hl 1 rfl) ?_
    obtain ⟨o2, eq3, h⟩ := bnd_some h
    refine kZQiV (rest := []) (q0 := 3) ⟨hx, hb, hml, hown, hts⟩ (c_X6_takesLetter l D k a xLen xHits xUns xItems xLost xKind xSize xLet xRel xLim xOpen xMeas xSL xST xSD xSK xTal xKn xFT xFA xFE xOdds xPat xFind zb zv x1 eq3) (cwV 1 hts (gAV wm_278 wm_279 wm_280 wm_22 wm_281) rfl rfl rfl qd_X6_takesLetter ⟨Nat.le_of_ble_eq_true rfl, Nat.le_of_ble_eq_true rfl⟩) hZ hK hP hD hS hA (rfl) rfl rfl hl.1 rfl (Nat.le_of_ble_eq_true rfl) dX6_goesOn_38 ⟨Nat.zero_le _, Nat.zero_le _⟩ (fun H locs hP hD hS => ?_)
    have hP : va_P D vwCl (wX k a xLen xHits xUns xItems xLost xKind xSize o2.2.1 xRel xLim xOpen xMeas xSL xST o2.2.2 xSK xTal xKn xFT xFA xFE xOdds xPat xFind) H := hP
    have hD : va_D A (wX k a xLen xHits xUns xItems xLost xKind xSize o2.2.1 xRel xLim xOpen xMeas xSL xST o2.2.2 xSK xTal xKn xFT xFA xFE xOdds xPat xFind) := hD
    obtain ⟨g4, h⟩ := gZ_some h
    have he := Option.some.inj h
    exact W.zret (v := o2.1) hx hb hr g4 (fun t ht hW => ⟨⟨o2.1, wX k a xLen xHits xUns xItems xLost xKind xSize o2.2.1 xRel xLim xOpen xMeas xSL xST o2.2.2 xSK xTal xKn xFT xFA xFE xOdds xPat xFind, rfl, ⟨(congrArg (fun z => z.1) he), (congrArg (fun z => wX k a xLen xHits xUns xItems xLost xKind xSize z.2.1 z.2.2.1 z.2.2.2.1 z.2.2.2.2.1 xMeas xSL z.2.2.2.2.2.1 z.2.2.2.2.2.2 xSK xTal xKn xFT xFA xFE xOdds xPat xFind) he)⟩, by rw [ht]; exact hP, va_K.moved hW.alike hK, hD⟩, hS.F ht⟩) hS.2.2 dX6_goesOn_41
  replace h := (if_neg c1).symm.trans h
  by_cases c5 : xSD = 1
  · replace h := (if_pos c5).symm.trans h
    refine lv_tableIn (tgt := 42) hx hb dX6_goesOn_4 (by rw [c5]; decide) (by rw [c5]; decide) (by rw [c5]; rfl) (by decide) ?_
    refine lv_aload_n hx hb dX6_goesOn_42 rfl (lv_at hl 0 rfl) ?_
    refine lv_iload_n hx hb dX6_goesOn_43 rfl (lv_at hl 1 rfl) ?_
    obtain ⟨o6, eq7, h⟩ := bnd_some h
    refine kQiV (rest := []) (q0 := 3) ⟨hx, hb, hml, hown, hts⟩ (c_X6_takesRelation l D k a xLen xHits xUns xItems xLost xKind xSize xLet xRel xLim xOpen xMeas xSL xST xSD xSK xTal xKn xFT xFA xFE xOdds xPat xFind x1 eq7) (cwV 1 hts (gAV wm_369 wm_370 wm_371 wm_22 wm_372) rfl rfl rfl qd_X6_takesRelation ⟨Nat.le_of_ble_eq_true rfl, Nat.le_of_ble_eq_true rfl⟩) hK hP hD hS hA (rfl) rfl rfl hl.1 rfl (Nat.le_of_ble_eq_true rfl) dX6_goesOn_44 ⟨Nat.zero_le _, Nat.zero_le _⟩ (fun H locs hP hD hS => ?_)
    have hP : va_P D vwCl (wX k a xLen xHits xUns xItems xLost xKind xSize xLet o6.2.1 xLim xOpen xMeas xSL xST o6.2.2 xSK xTal xKn xFT xFA xFE xOdds xPat xFind) H := hP
    have hD : va_D A (wX k a xLen xHits xUns xItems xLost xKind xSize xLet o6.2.1 xLim xOpen xMeas xSL xST o6.2.2 xSK xTal xKn xFT xFA xFE xOdds xPat xFind) := hD
    obtain ⟨g8, h⟩ := gZ_some h
    have he := Option.some.inj h
    exact W.zret (v := o6.1) hx hb hr g8 (fun t ht hW => ⟨⟨o6.1, wX k a xLen xHits xUns xItems xLost xKind xSize xLet o6.2.1 xLim xOpen xMeas xSL xST o6.2.2 xSK xTal xKn xFT xFA xFE xOdds xPat xFind, rfl, ⟨(congrArg (fun z => z.1) he), (congrArg (fun z => wX k a xLen xHits xUns xItems xLost xKind xSize z.2.1 z.2.2.1 z.2.2.2.1 z.2.2.2.2.1 xMeas xSL z.2.2.2.2.2.1 z.2.2.2.2.2.2 xSK xTal xKn xFT xFA xFE xOdds xPat xFind) he)⟩, by rw [ht]; exact hP, va_K.moved hW.alike hK, hD⟩, hS.F ht⟩) hS.2.2 dX6_goesOn_47
  replace h := (if_neg c5).symm.trans h
  by_cases c9 : xSD = 2
  · replace h := (if_pos c9).symm.trans h
    refine lv_tableIn (tgt := 48) hx hb dX6_goesOn_4 (by rw [c9]; decide) (by rw [c9]; decide) (by rw [c9]; rfl) (by decide) ?_
    refine lv_aload_n hx hb dX6_goesOn_48 rfl (lv_at hl 0 rfl) ?_
    refine lv_iload_n hx hb dX6_goesOn_49 rfl (lv_at hl 1 rfl) ?_
    obtain ⟨o10, eq11, h⟩ := bnd_some h
    refine kQiV (rest := []) (q0 := 3) ⟨hx, hb, hml, hown, hts⟩ (c_X6_takesFigure l D k a xLen xHits xUns xItems xLost xKind xSize xLet xRel xLim xOpen xMeas xSL xST xSD xSK xTal xKn xFT xFA xFE xOdds xPat xFind x1 eq11) (cwV 1 hts (gAV wm_373 wm_374 wm_375 wm_22 wm_376) rfl rfl rfl qd_X6_takesFigure ⟨Nat.le_of_ble_eq_true rfl, Nat.le_of_ble_eq_true rfl⟩) hK hP hD hS hA (rfl) rfl rfl hl.1 rfl (Nat.le_of_ble_eq_true rfl) dX6_goesOn_50 ⟨Nat.zero_le _, Nat.zero_le _⟩ (fun H locs hP hD hS => ?_)
    have hP : va_P D vwCl (wX k a xLen xHits xUns xItems xLost xKind xSize xLet xRel o10.2.1 xOpen xMeas xSL o10.2.2.1 o10.2.2.2 xSK xTal xKn xFT xFA xFE xOdds xPat xFind) H := hP
    have hD : va_D A (wX k a xLen xHits xUns xItems xLost xKind xSize xLet xRel o10.2.1 xOpen xMeas xSL o10.2.2.1 o10.2.2.2 xSK xTal xKn xFT xFA xFE xOdds xPat xFind) := hD
    obtain ⟨g12, h⟩ := gZ_some h
    have he := Option.some.inj h
    exact W.zret (v := o10.1) hx hb hr g12 (fun t ht hW => ⟨⟨o10.1, wX k a xLen xHits xUns xItems xLost xKind xSize xLet xRel o10.2.1 xOpen xMeas xSL o10.2.2.1 o10.2.2.2 xSK xTal xKn xFT xFA xFE xOdds xPat xFind, rfl, ⟨(congrArg (fun z => z.1) he), (congrArg (fun z => wX k a xLen xHits xUns xItems xLost xKind xSize z.2.1 z.2.2.1 z.2.2.2.1 z.2.2.2.2.1 xMeas xSL z.2.2.2.2.2.1 z.2.2.2.2.2.2 xSK xTal xKn xFT xFA xFE xOdds xPat xFind) he)⟩, by rw [ht]; exact hP, va_K.moved hW.alike hK, hD⟩, hS.F ht⟩) hS.2.2 dX6_goesOn_53
  replace h := (if_neg c9).symm.trans h
  by_cases c13 : xSD = 3
  · replace h := (if_pos c13).symm.trans h
    refine lv_tableIn (tgt := 54) hx hb dX6_goesOn_4 (by rw [c13]; decide) (by rw [c13]; decide) (by rw [c13]; rfl) (by decide) ?_
    refine lv_aload_n hx hb dX6_goesOn_54 rfl (lv_at hl 0 rfl) ?_
    refine lv_iload_n hx hb dX6_goesOn_55 rfl (lv_at hl 1 rfl) ?_
    obtain ⟨o14, eq15, h⟩ := bnd_some h
    refine kQiV (rest := []) (q0 := 3) ⟨hx, hb, hml, hown, hts⟩ (c_X6_takesSecondFigure l D k a xLen xHits xUns xItems xLost xKind xSize xLet xRel xLim xOpen xMeas xSL xST xSD xSK xTal xKn xFT xFA xFE xOdds xPat xFind x1 eq15) (cwV 1 hts (gAV wm_377 wm_378 wm_379 wm_22 wm_380) rfl rfl rfl qd_X6_takesSecondFigure ⟨Nat.le_of_ble_eq_true rfl, Nat.le_of_ble_eq_true rfl⟩) hK hP hD hS hA (rfl) rfl rfl hl.1 rfl (Nat.le_of_ble_eq_true rfl) dX6_goesOn_56 ⟨Nat.zero_le _, Nat.zero_le _⟩ (fun H locs hP hD hS => ?_)
    have hP : va_P D vwCl (wX k a xLen xHits xUns xItems xLost xKind xSize xLet xRel o14.2.1 xOpen xMeas xSL xST o14.2.2 xSK xTal xKn xFT xFA xFE xOdds xPat xFind) H := hP
    have hD : va_D A (wX k a xLen xHits xUns xItems xLost xKind xSize xLet xRel o14.2.1 xOpen xMeas xSL xST o14.2.2 xSK xTal xKn xFT xFA xFE xOdds xPat xFind) := hD
    refine lv_if_ne (tgt := 70) hx hb dX6_goesOn_59 (by decide) (fun c16 => ?_) (fun c16 => ?_)
    · replace h := (if_neg c16).symm.trans h
      exact J70 xLet xRel o14.2.1 xOpen xST o14.2.2 ls H locs (lv_sub hl [] rfl) hP hD hS h
    · replace h := (if_pos c16).symm.trans h
      refine lv_aload_n hx hb dX6_goesOn_62 rfl (lv_at hl 0 rfl) ?_
      refine lv_iload_n hx hb dX6_goesOn_63 rfl (lv_at hl 1 rfl) ?_
      obtain ⟨o17, eq18, h⟩ := bnd_some h
      refine kQiV (rest := []) (q0 := 3) ⟨hx, hb, hml, hown, hts⟩ (c_X6_takesJoint l D k a xLen xHits xUns xItems xLost xKind xSize xLet xRel o14.2.1 xOpen xMeas xSL xST o14.2.2 xSK xTal xKn xFT xFA xFE xOdds xPat xFind x1 eq18) (cwV 1 hts (gAV wm_381 wm_382 wm_383 wm_22 wm_384) rfl rfl rfl qd_X6_takesJoint ⟨Nat.le_of_ble_eq_true rfl, Nat.le_of_ble_eq_true rfl⟩) hK hP hD hS hA (rfl) rfl rfl hl.1 rfl (Nat.le_of_ble_eq_true rfl) dX6_goesOn_64 ⟨Nat.zero_le _, Nat.zero_le _⟩ (fun H locs hP hD hS => ?_)
      have hP : va_P D vwCl (wX k a xLen xHits xUns xItems xLost xKind xSize xLet xRel o14.2.1 o17.2.1 xMeas xSL xST o17.2.2 xSK xTal xKn xFT xFA xFE xOdds xPat xFind) H := hP
      have hD : va_D A (wX k a xLen xHits xUns xItems xLost xKind xSize xLet xRel o14.2.1 o17.2.1 xMeas xSL xST o17.2.2 xSK xTal xKn xFT xFA xFE xOdds xPat xFind) := hD
      refine lv_if_eq (tgt := 74) hx hb dX6_goesOn_67 (by decide) (fun c19 => ?_) (fun c19 => ?_)
      · replace h := (if_pos c19).symm.trans h
        refine lv_iconst (v := 0) hx hb dX6_goesOn_74 (by decide) ?_
        have he := Option.some.inj h
        exact W.zret (v := 0) hx hb hr rfl (fun t ht hW => ⟨⟨0, wX k a xLen xHits xUns xItems xLost xKind xSize xLet xRel o14.2.1 o17.2.1 xMeas xSL xST o17.2.2 xSK xTal xKn xFT xFA xFE xOdds xPat xFind, rfl, ⟨(congrArg (fun z => z.1) he), (congrArg (fun z => wX k a xLen xHits xUns xItems xLost xKind xSize z.2.1 z.2.2.1 z.2.2.2.1 z.2.2.2.2.1 xMeas xSL z.2.2.2.2.2.1 z.2.2.2.2.2.2 xSK xTal xKn xFT xFA xFE xOdds xPat xFind) he)⟩, by rw [ht]; exact hP, va_K.moved hW.alike hK, hD⟩, hS.F ht⟩) hS.2.2 dX6_goesOn_75
      · replace h := (if_neg c19).symm.trans h
        exact J70 xLet xRel o14.2.1 o17.2.1 xST o17.2.2 ls H locs (lv_sub hl [] rfl) hP hD hS h
  replace h := (if_neg c13).symm.trans h
  refine lv_tableOut (tgt := 76) hx hb dX6_goesOn_4 (xOut_4 c1 c5 c9 c13) (by decide) ?_
  refine lv_aload_n hx hb dX6_goesOn_76 rfl (lv_at hl 0 rfl) ?_
  refine lv_iload_n hx hb dX6_goesOn_77 rfl (lv_at hl 1 rfl) ?_
  obtain ⟨o20, eq21, h⟩ := bnd_some h
  refine kQiV (rest := []) (q0 := 3) ⟨hx, hb, hml, hown, hts⟩ (c_X6_takesJoint l D k a xLen xHits xUns xItems xLost xKind xSize xLet xRel xLim xOpen xMeas xSL xST xSD xSK xTal xKn xFT xFA xFE xOdds xPat xFind x1 eq21) (cwV 1 hts (gAV wm_381 wm_382 wm_383 wm_22 wm_384) rfl rfl rfl qd_X6_takesJoint ⟨Nat.le_of_ble_eq_true rfl, Nat.le_of_ble_eq_true rfl⟩) hK hP hD hS hA (rfl) rfl rfl hl.1 rfl (Nat.le_of_ble_eq_true rfl) dX6_goesOn_78 ⟨Nat.zero_le _, Nat.zero_le _⟩ (fun H locs hP hD hS => ?_)
  have hP : va_P D vwCl (wX k a xLen xHits xUns xItems xLost xKind xSize xLet xRel xLim o20.2.1 xMeas xSL xST o20.2.2 xSK xTal xKn xFT xFA xFE xOdds xPat xFind) H := hP
  have hD : va_D A (wX k a xLen xHits xUns xItems xLost xKind xSize xLet xRel xLim o20.2.1 xMeas xSL xST o20.2.2 xSK xTal xKn xFT xFA xFE xOdds xPat xFind) := hD
  obtain ⟨g22, h⟩ := gZ_some h
  have he := Option.some.inj h
  exact W.zret (v := o20.1) hx hb hr g22 (fun t ht hW => ⟨⟨o20.1, wX k a xLen xHits xUns xItems xLost xKind xSize xLet xRel xLim o20.2.1 xMeas xSL xST o20.2.2 xSK xTal xKn xFT xFA xFE xOdds xPat xFind, rfl, ⟨(congrArg (fun z => z.1) he), (congrArg (fun z => wX k a xLen xHits xUns xItems xLost xKind xSize z.2.1 z.2.2.1 z.2.2.2.1 z.2.2.2.2.1 xMeas xSL z.2.2.2.2.2.1 z.2.2.2.2.2.2 xSK xTal xKn xFT xFA xFE xOdds xPat xFind) he)⟩, by rw [ht]; exact hP, va_K.moved hW.alike hK, hD⟩, hS.F ht⟩) hS.2.2 dX6_goesOn_81
set_option maxHeartbeats 4000000 in
set_option maxRecDepth 100000 in
theorem c_X6_goesOn {N : Nat} (l : Launch) (D : va_G) (k : Nat → ClassId) (a : Nat → Nat) (xLen : Nat → Int32) (xHits : Nat → Int32) (xUns : Nat → Int32) (xItems : Nat → Nat → Int32) (xLost : Nat → Int32) (xKind : Nat → Int32) (xSize : Nat → Int32) (xLet : Nat → Int32) (xRel : Nat → Int32) (xLim : Nat → Int32) (xOpen : Nat → Int32) (xMeas : Nat → Int32) (xSL : Int32) (xST : Int32) (xSD : Int32) (xSK : Int32) (xTal : Nat → Nat → Int32) (xKn : Nat → Int32) (xFT : Nat → Int32) (xFA : Int32) (xFE : Int32) (xOdds : Int32) (xPat : Int32) (xFind : Int32) (zb zv : Nat) (x1 : Int32) {o : Int32 × (Nat → Int32) × (Nat → Int32) × (Nat → Int32) × (Nat → Int32) × (Int32) × (Int32)} (h : f_X6_goesOn N x1 xLet xRel xLim xOpen xST xSD = some o) : zQi l yX6_goesOn wo_X6_goesOn 5 zb zv D k [.ref (a 3), .int x1] (wX k a xLen xHits xUns xItems xLost xKind xSize xLet xRel xLim xOpen xMeas xSL xST xSD xSK xTal xKn xFT xFA xFE xOdds xPat xFind) o.1 (wX k a xLen xHits xUns xItems xLost xKind xSize o.2.1 o.2.2.1 o.2.2.2.1 o.2.2.2.2.1 xMeas xSL o.2.2.2.2.2.1 o.2.2.2.2.2.2 xSK xTal xKn xFT xFA xFE xOdds xPat xFind) := by
  intro sz
  refine Met.ofW (cc := cX6_goesOn) (maxL := 2) (ret := some .boolean) (by decide) rfl ?_
  intro p e s m args below meth c s₁ B hml hv
  obtain ⟨rfl, hsz, hP, hK, hD0, hZ⟩ := hv
  subst hsz
  rw [lg_entry_eq]
  exact core_X6_goesOn D k a xLen xHits xUns xItems xLost xKind xSize xLet xRel xLim xOpen xMeas xSL xST xSD xSK xTal xKn xFT xFA xFE xOdds xPat xFind zb zv x1 B.exec B.bytes hml B.returns (atoms_spec (ws := wo_X6_goesOn) B.pre) (findClass_of_methodNamed B.named) B.notSynchronized (lv_entry [.ref (a 3), .int x1] (n := 2) (Nat.le_of_ble_eq_true rfl)) hK hP hD0.self (fun q h => Or.inr h) hZ h
theorem qd_X6_goesOn : yX6_goesOn.cls = RX6 ∧ yX6_goesOn.cls ≠ "java/lang/invoke/MethodHandle" ∧ yX6_goesOn.cls ≠ "java/lang/invoke/VarHandle" ∧ (parseMethodDescriptor yX6_goesOn.desc).map (fun d => d.parameters.length) = some 1 := by decide +kernel
abbrev wo_X6_append : List Cond := .code yX6_append cX6_append 2 none :: wsL_law
set_option maxHeartbeats 4000000 in
set_option maxRecDepth 100000 in
theorem core_X6_append {N : Nat} (D : va_G) (k : Nat → ClassId) (a : Nat → Nat) (xLen : Nat → Int32) (xHits : Nat → Int32) (xUns : Nat → Int32) (xItems : Nat → Nat → Int32) (xLost : Nat → Int32) (xKind : Nat → Int32) (xSize : Nat → Int32) (xLet : Nat → Int32) (xRel : Nat → Int32) (xLim : Nat → Int32) (xOpen : Nat → Int32) (xMeas : Nat → Int32) (xSL : Int32) (xST : Int32) (xSD : Int32) (xSK : Int32) (xTal : Nat → Nat → Int32) (xKn : Nat → Int32) (xFT : Nat → Int32) (xFA : Int32) (xFE : Int32) (xOdds : Int32) (xPat : Int32) (xFind : Int32) (zb zv : Nat) (x1 : Int32) {p : Program} {l : Launch} {e : Env} {s : State} {m : MethodId} {args : Array Value} {below : List Frame} {meth : Method} {c : Code} {ls : Array Slot} (hx : p.tables.exec = Jvm.exec) (hb : c.code = cX6_append) (hml : c.maxLocals = 2) (hr : meth.sig.returnType = none) (hts : ∀ w ∈ wo_X6_append, w.before args s = true) (hown : s.vm.findClass RX6 = some m.cls) (hlocks : meth.locks = false) (hl : lv_has ls 2 [(0, .ref (a 3)), (1, .int x1)]) (hK : va_K D vwCl (xTys k) s) (hP : va_P D vwCl (wX k a xLen xHits xUns xItems xLost xKind xSize xLet xRel xLim xOpen xMeas xSL xST xSD xSK xTal xKn xFT xFA xFE xOdds xPat xFind) s.heap) {A : Nat → Prop} (hD : va_D A (wX k a xLen xHits xUns xItems xLost xKind xSize xLet xRel xLim xOpen xMeas xSL xST xSD xSK xTal xKn xFT xFA xFE xOdds xPat xFind)) (hA : ∀ q : Nat, s.heap.size ≤ q → A q) (hZ : zS zb zv A s s.heap) {o : (Nat → Int32) × (Nat → Int32) × (Nat → Int32) × (Nat → Int32) × (Int32) × (Int32) × (Int32) × (Int32)} (h : f_X6_append N x1 xLet xRel xLim xOpen xSL xST xSD xSK = some o) : gQv p l e wo_X6_append 6 s m args below meth c D k A  (wX k a xLen xHits xUns xItems xLost xKind xSize o.1 o.2.1 o.2.2.1 o.2.2.2.1 xMeas o.2.2.2.2.1 o.2.2.2.2.2.1 o.2.2.2.2.2.2.1 o.2.2.2.2.2.2.2 xTal xKn xFT xFA xFE xOdds xPat xFind) s.heap [] (F0 m 0 ls []) := by
  have hi6 := (fun w h => List.mem_cons_of_mem _ (inlX6 w h) : ∀ w ∈ wsX60, w ∈ wo_X6_append)
  have kf32 := hts _ (List.mem_cons_of_mem _ wm_272)
  have kf28 := hts _ (List.mem_cons_of_mem _ wm_55)
  unfold f_X6_append at h
  have hS : va_S A s.heap s.heap [] := va_S.rf
  have J24 : ∀ (xLet : Nat → Int32) (xRel : Nat → Int32) (xLim : Nat → Int32) (xOpen : Nat → Int32) (xSL : Int32) (xST : Int32) (xSD : Int32) (xSK : Int32) (ls : Array Slot) (H : Heap) (locs : List Loc) (hl : lv_has ls 2 [(0, .ref (a 3))]) (hP : va_P D vwCl (wX k a xLen xHits xUns xItems xLost xKind xSize xLet xRel xLim xOpen xMeas xSL xST xSD xSK xTal xKn xFT xFA xFE xOdds xPat xFind) H) (hD : va_D A (wX k a xLen xHits xUns xItems xLost xKind xSize xLet xRel xLim xOpen xMeas xSL xST xSD xSK xTal xKn xFT xFA xFE xOdds xPat xFind)) (hS : va_S A s.heap H locs) (h : f_X6_append_24 N xLet xRel xLim xOpen xSL xST xSD xSK = some o), gQv p l e wo_X6_append 6 s m args below meth c D k A  (wX k a xLen xHits xUns xItems xLost xKind xSize o.1 o.2.1 o.2.2.1 o.2.2.2.1 xMeas o.2.2.2.2.1 o.2.2.2.2.2.1 o.2.2.2.2.2.2.1 o.2.2.2.2.2.2.2 xTal xKn xFT xFA xFE xOdds xPat xFind) H locs (F0 m 24 ls []) := by
    intro xLet xRel xLim xOpen xSL xST xSD xSK ls H locs hl hP hD hS h
    unfold f_X6_append_24 at h
    refine lv_aload_n hx hb dX6_append_24 rfl (lv_at hl 0 rfl) ?_
    refine lv_dup hx hb dX6_append_25 rfl ?_
    refine va_get (D := D) (ci := 2) (v := .int xSL) (C := RX6) (T := TX6) (N := 9) hx hb hts hi6 hown hK hP (3) (rfl) rfl 5 (by decide) kf32 (fun _ h9 => h9) rfl dX6_append_26 ?_
    refine lv_iconst (v := 1) hx hb dX6_append_29 (by decide) ?_
    refine lv_iadd hx hb dX6_append_30 ?_
    refine va_put (D := D) (ci := 2) (v := .int (xSL + 1)) (ty := .int) (C := RX6) (T := TX6) (N := 9) hx hb hts hi6 tyX6 tyX6_ok nmX6 hown hK hP hD hS (3) (rfl) rfl 5 (by decide) kf32 (fun _ h9 => h9) rfl (tyX6_ok 5 (by decide)) rfl rfl (Nat.le_of_ble_eq_true rfl) dX6_append_31 (fun H locs hP hD hS => ?_)
    have hP : va_P D vwCl (wX k a xLen xHits xUns xItems xLost xKind xSize xLet xRel xLim xOpen xMeas (xSL + 1) xST xSD xSK xTal xKn xFT xFA xFE xOdds xPat xFind) H := hP
    have hD : va_D A (wX k a xLen xHits xUns xItems xLost xKind xSize xLet xRel xLim xOpen xMeas (xSL + 1) xST xSD xSK xTal xKn xFT xFA xFE xOdds xPat xFind) := hD
    have he := Option.some.inj h
    exact W.vret hx hb hr (fun t ht hW => ⟨⟨wX k a xLen xHits xUns xItems xLost xKind xSize xLet xRel xLim xOpen xMeas (xSL + 1) xST xSD xSK xTal xKn xFT xFA xFE xOdds xPat xFind, rfl, (congrArg (fun z => wX k a xLen xHits xUns xItems xLost xKind xSize z.1 z.2.1 z.2.2.1 z.2.2.2.1 xMeas z.2.2.2.2.1 z.2.2.2.2.2.1 z.2.2.2.2.2.2.1 z.2.2.2.2.2.2.2 xTal xKn xFT xFA xFE xOdds xPat xFind) he), by rw [ht]; exact hP, va_K.moved hW.alike hK, hD⟩, hS.F ht⟩) hS.2.2 dX6_append_34
  obtain ⟨H, hH⟩ : ∃ H : Heap, H = s.heap := ⟨_, rfl⟩
  obtain ⟨locs, hlc⟩ : ∃ locs : List Loc, locs = [] := ⟨_, rfl⟩
  have hS : va_S A s.heap H locs := by rw [hH, hlc]; exact va_S.rf
  have hP : va_P D vwCl (wX k a xLen xHits xUns xItems xLost xKind xSize xLet xRel xLim xOpen xMeas xSL xST xSD xSK xTal xKn xFT xFA xFE xOdds xPat xFind) H := by rw [hH]; exact hP
  suffices hGo : gQv p l e wo_X6_append 6 s m args below meth c D k A  (wX k a xLen xHits xUns xItems xLost xKind xSize o.1 o.2.1 o.2.2.1 o.2.2.2.1 xMeas o.2.2.2.2.1 o.2.2.2.2.2.1 o.2.2.2.2.2.2.1 o.2.2.2.2.2.2.2 xTal xKn xFT xFA xFE xOdds xPat xFind) H locs (F0 m 0 ls []) by rw [hH, hlc] at hGo; exact hGo
  refine lv_aload_n hx hb dX6_append_0 rfl (lv_at hl 0 rfl) ?_
  refine va_get (D := D) (ci := 2) (v := .int xSK) (C := RX6) (T := TX6) (N := 9) hx hb hts hi6 hown hK hP (3) (rfl) rfl 8 (by decide) kf28 (fun _ h9 => h9) rfl dX6_append_1 ?_
  refine lv_iconst (v := (-1)) hx hb dX6_append_4 (by decide) ?_
  refine lv_icmp_ne (tgt := 24) hx hb dX6_append_5 (by decide) (fun c1 => ?_) (fun c1 => ?_)
  · replace h := (if_neg c1).symm.trans h
    exact J24 xLet xRel xLim xOpen xSL xST xSD xSK ls H locs (lv_sub hl [0] rfl) hP hD hS h
  · replace h := (if_pos c1).symm.trans h
    refine lv_aload_n hx hb dX6_append_8 rfl (lv_at hl 0 rfl) ?_
    refine lv_iload_n hx hb dX6_append_9 rfl (lv_at hl 1 rfl) ?_
    obtain ⟨o2, eq3, h⟩ := bnd_some h
    refine kZQiV (rest := []) (q0 := 3) ⟨hx, hb, hml, hown, hts⟩ (c_X6_goesOn l D k a xLen xHits xUns xItems xLost xKind xSize xLet xRel xLim xOpen xMeas xSL xST xSD xSK xTal xKn xFT xFA xFE xOdds xPat xFind zb zv x1 eq3) (cwV 1 hts (gAV wm_273 wm_274 wm_275 wm_22 wm_276) rfl rfl rfl qd_X6_goesOn ⟨Nat.le_of_ble_eq_true rfl, Nat.le_of_ble_eq_true rfl⟩) hZ hK hP hD hS hA (rfl) rfl rfl hl.1 rfl (Nat.le_of_ble_eq_true rfl) dX6_append_10 ⟨Nat.zero_le _, Nat.zero_le _⟩ (fun H locs hP hD hS => ?_)
    have hP : va_P D vwCl (wX k a xLen xHits xUns xItems xLost xKind xSize o2.2.1 o2.2.2.1 o2.2.2.2.1 o2.2.2.2.2.1 xMeas xSL o2.2.2.2.2.2.1 o2.2.2.2.2.2.2 xSK xTal xKn xFT xFA xFE xOdds xPat xFind) H := hP
    have hD : va_D A (wX k a xLen xHits xUns xItems xLost xKind xSize o2.2.1 o2.2.2.1 o2.2.2.2.1 o2.2.2.2.2.1 xMeas xSL o2.2.2.2.2.2.1 o2.2.2.2.2.2.2 xSK xTal xKn xFT xFA xFE xOdds xPat xFind) := hD
    refine lv_if_ne (tgt := 24) hx hb dX6_append_13 (by decide) (fun c4 => ?_) (fun c4 => ?_)
    · replace h := (if_neg c4).symm.trans h
      exact J24 o2.2.1 o2.2.2.1 o2.2.2.2.1 o2.2.2.2.2.1 xSL o2.2.2.2.2.2.1 o2.2.2.2.2.2.2 xSK ls H locs (lv_sub hl [0] rfl) hP hD hS h
    · replace h := (if_pos c4).symm.trans h
      refine lv_aload_n hx hb dX6_append_16 rfl (lv_at hl 0 rfl) ?_
      refine lv_aload_n hx hb dX6_append_17 rfl (lv_at hl 0 rfl) ?_
      refine va_get (D := D) (ci := 2) (v := .int xSL) (C := RX6) (T := TX6) (N := 9) hx hb hts hi6 hown hK hP (3) (rfl) rfl 5 (by decide) kf32 (fun _ h9 => h9) rfl dX6_append_18 ?_
      refine va_put (D := D) (ci := 2) (v := .int xSL) (ty := .int) (C := RX6) (T := TX6) (N := 9) hx hb hts hi6 tyX6 tyX6_ok nmX6 hown hK hP hD hS (3) (rfl) rfl 8 (by decide) kf28 (fun _ h9 => h9) rfl (tyX6_ok 8 (by decide)) rfl rfl (Nat.le_of_ble_eq_true rfl) dX6_append_21 (fun H locs hP hD hS => ?_)
      have hP : va_P D vwCl (wX k a xLen xHits xUns xItems xLost xKind xSize o2.2.1 o2.2.2.1 o2.2.2.2.1 o2.2.2.2.2.1 xMeas xSL o2.2.2.2.2.2.1 o2.2.2.2.2.2.2 xSL xTal xKn xFT xFA xFE xOdds xPat xFind) H := hP
      have hD : va_D A (wX k a xLen xHits xUns xItems xLost xKind xSize o2.2.1 o2.2.2.1 o2.2.2.2.1 o2.2.2.2.2.1 xMeas xSL o2.2.2.2.2.2.1 o2.2.2.2.2.2.2 xSL xTal xKn xFT xFA xFE xOdds xPat xFind) := hD
      exact J24 o2.2.1 o2.2.2.1 o2.2.2.2.1 o2.2.2.2.2.1 xSL o2.2.2.2.2.2.1 o2.2.2.2.2.2.2 xSL ls H locs (lv_sub hl [0] rfl) hP hD hS h
set_option maxHeartbeats 4000000 in
set_option maxRecDepth 100000 in
theorem c_X6_append {N : Nat} (l : Launch) (D : va_G) (k : Nat → ClassId) (a : Nat → Nat) (xLen : Nat → Int32) (xHits : Nat → Int32) (xUns : Nat → Int32) (xItems : Nat → Nat → Int32) (xLost : Nat → Int32) (xKind : Nat → Int32) (xSize : Nat → Int32) (xLet : Nat → Int32) (xRel : Nat → Int32) (xLim : Nat → Int32) (xOpen : Nat → Int32) (xMeas : Nat → Int32) (xSL : Int32) (xST : Int32) (xSD : Int32) (xSK : Int32) (xTal : Nat → Nat → Int32) (xKn : Nat → Int32) (xFT : Nat → Int32) (xFA : Int32) (xFE : Int32) (xOdds : Int32) (xPat : Int32) (xFind : Int32) (zb zv : Nat) (x1 : Int32) {o : (Nat → Int32) × (Nat → Int32) × (Nat → Int32) × (Nat → Int32) × (Int32) × (Int32) × (Int32) × (Int32)} (h : f_X6_append N x1 xLet xRel xLim xOpen xSL xST xSD xSK = some o) : zQv l yX6_append wo_X6_append 6 zb zv D k [.ref (a 3), .int x1] (wX k a xLen xHits xUns xItems xLost xKind xSize xLet xRel xLim xOpen xMeas xSL xST xSD xSK xTal xKn xFT xFA xFE xOdds xPat xFind) (wX k a xLen xHits xUns xItems xLost xKind xSize o.1 o.2.1 o.2.2.1 o.2.2.2.1 xMeas o.2.2.2.2.1 o.2.2.2.2.2.1 o.2.2.2.2.2.2.1 o.2.2.2.2.2.2.2 xTal xKn xFT xFA xFE xOdds xPat xFind) := by
  intro sz
  refine Met.ofW (cc := cX6_append) (maxL := 2) (ret := none) (by decide) rfl ?_
  intro p e s m args below meth c s₁ B hml hv
  obtain ⟨rfl, hsz, hP, hK, hD0, hZ⟩ := hv
  subst hsz
  rw [lg_entry_eq]
  exact core_X6_append D k a xLen xHits xUns xItems xLost xKind xSize xLet xRel xLim xOpen xMeas xSL xST xSD xSK xTal xKn xFT xFA xFE xOdds xPat xFind zb zv x1 B.exec B.bytes hml B.returns (atoms_spec (ws := wo_X6_append) B.pre) (findClass_of_methodNamed B.named) B.notSynchronized (lv_entry [.ref (a 3), .int x1] (n := 2) (Nat.le_of_ble_eq_true rfl)) hK hP hD0.self (fun q h => Or.inr h) hZ h
theorem qd_X6_append : yX6_append.cls = RX6 ∧ yX6_append.cls ≠ "java/lang/invoke/MethodHandle" ∧ yX6_append.cls ≠ "java/lang/invoke/VarHandle" ∧ (parseMethodDescriptor yX6_append.desc).map (fun d => d.parameters.length) = some 1 := by decide +kernel
abbrev wo_X6_isDone : List Cond := .code yX6_isDone cX6_isDone 3 (some .boolean) :: wsL_law
set_option maxHeartbeats 4000000 in
set_option maxRecDepth 100000 in
theorem core_X6_isDone (D : va_G) (k : Nat → ClassId) (a : Nat → Nat) (xLen : Nat → Int32) (xHits : Nat → Int32) (xUns : Nat → Int32) (xItems : Nat → Nat → Int32) (xLost : Nat → Int32) (xKind : Nat → Int32) (xSize : Nat → Int32) (xLet : Nat → Int32) (xRel : Nat → Int32) (xLim : Nat → Int32) (xOpen : Nat → Int32) (xMeas : Nat → Int32) (xSL : Int32) (xST : Int32) (xSD : Int32) (xSK : Int32) (xTal : Nat → Nat → Int32) (xKn : Nat → Int32) (xFT : Nat → Int32) (xFA : Int32) (xFE : Int32) (xOdds : Int32) (xPat : Int32) (xFind : Int32) (x1 : Int32) {p : Program} {l : Launch} {e : Env} {s : State} {m : MethodId} {args : Array Value} {below : List Frame} {meth : Method} {c : Code} {ls : Array Slot} (hx : p.tables.exec = Jvm.exec) (hb : c.code = cX6_isDone) (hml : c.maxLocals = 3) (hr : meth.sig.returnType = some .boolean) (hts : ∀ w ∈ wo_X6_isDone, w.before args s = true) (hown : s.vm.findClass RX6 = some m.cls) (hlocks : meth.locks = false) (hl : lv_has ls 3 [(0, .ref (a 3)), (1, .int x1)]) (hK : va_K D vwCl (xTys k) s) (hP : va_P D vwCl (wX k a xLen xHits xUns xItems xLost xKind xSize xLet xRel xLim xOpen xMeas xSL xST xSD xSK xTal xKn xFT xFA xFE xOdds xPat xFind) s.heap) {o : Int32} (h : f_X6_isDone x1 xLet xRel xLim xMeas = some o) : gRi p l e wo_X6_isDone 0 s m args below meth c o (F0 m 0 ls []) := by
  have hi6 := (fun w h => List.mem_cons_of_mem _ (inlX6 w h) : ∀ w ∈ wsX60, w ∈ wo_X6_isDone)
  have kf25 := hts _ (List.mem_cons_of_mem _ wm_54)
  have kf11 := hts _ (List.mem_cons_of_mem _ wm_49)
  have kf15 := hts _ (List.mem_cons_of_mem _ wm_50)
  have kf18 := hts _ (List.mem_cons_of_mem _ wm_51)
  unfold f_X6_isDone at h
  refine lv_aload_n hx hb dX6_isDone_0 rfl (lv_at hl 0 rfl) ?_
  refine va_get (D := D) (ci := 2) (v := .ref (a 8)) (C := RX6) (T := TX6) (N := 9) hx hb hts hi6 hown hK hP (3) (rfl) rfl 4 (by decide) kf25 (fun _ h9 => h9) rfl dX6_isDone_1 ?_
  refine lv_aload_n hx hb dX6_isDone_4 rfl (lv_at hl 0 rfl) ?_
  refine va_get (D := D) (ci := 2) (v := .ref (a 4)) (C := RX6) (T := TX6) (N := 9) hx hb hts hi6 hown hK hP (3) (rfl) rfl 0 (by decide) kf11 (fun _ h9 => h9) rfl dX6_isDone_5 ?_
  refine lv_iload_n hx hb dX6_isDone_8 rfl (lv_at hl 1 rfl) ?_
  obtain ⟨g1, h⟩ := gIn_some h
  refine va_iald hx hb hK hP (4) 0 (rfl) rfl g1 dX6_isDone_9 ?_
  obtain ⟨g2, h⟩ := gIn_some h
  refine va_iald hx hb hK hP (8) 0 (rfl) rfl g2 dX6_isDone_10 ?_
  refine lv_istore_n (lv' := [(2, .int (xMeas (xLet x1.toNatClampNeg).toNatClampNeg)), (0, .ref (a 3)), (1, .int x1)]) hx hb dX6_isDone_11 rfl hl (by decide) rfl (fun ls hl => ?_)
  refine lv_aload_n hx hb dX6_isDone_12 rfl (lv_at hl 1 rfl) ?_
  refine va_get (D := D) (ci := 2) (v := .ref (a 5)) (C := RX6) (T := TX6) (N := 9) hx hb hts hi6 hown hK hP (3) (rfl) rfl 1 (by decide) kf15 (fun _ h9 => h9) rfl dX6_isDone_13 ?_
  refine lv_iload_n hx hb dX6_isDone_16 rfl (lv_at hl 2 rfl) ?_
  refine va_iald hx hb hK hP (5) 0 (rfl) rfl g1 dX6_isDone_17 ?_
  by_cases c3 : (xRel x1.toNatClampNeg) = 60
  · replace h := (if_pos c3).symm.trans h
    refine lv_lookup (tgt := 44) (off := 26) hx hb dX6_isDone_18 (by decide) (by rw [c3]; decide) (by decide) ?_
    refine lv_iload_n hx hb dX6_isDone_44 rfl (lv_at hl 0 rfl) ?_
    refine lv_aload_n hx hb dX6_isDone_45 rfl (lv_at hl 1 rfl) ?_
    refine va_get (D := D) (ci := 2) (v := .ref (a 6)) (C := RX6) (T := TX6) (N := 9) hx hb hts hi6 hown hK hP (3) (rfl) rfl 2 (by decide) kf18 (fun _ h9 => h9) rfl dX6_isDone_46 ?_
    refine lv_iload_n hx hb dX6_isDone_49 rfl (lv_at hl 2 rfl) ?_
    refine va_iald hx hb hK hP (6) 0 (rfl) rfl g1 dX6_isDone_50 ?_
    refine lv_icmp_ge (tgt := 58) hx hb dX6_isDone_51 (by decide) (fun c4 => ?_) (fun c4 => ?_)
    · replace h := (if_pos c4).symm.trans h
      refine lv_iconst (v := 0) hx hb dX6_isDone_58 (by decide) ?_
      exact W.zret (v := 0) hx hb hr rfl (fun t ht hW => ⟨_, rfl, Option.some.inj h, ht⟩) (fun q hq => by cases hq) dX6_isDone_59
    · replace h := (if_neg c4).symm.trans h
      refine lv_iconst (v := 1) hx hb dX6_isDone_54 (by decide) ?_
      refine lv_goto (tgt := 59) hx hb dX6_isDone_55 (by decide) ?_
      exact W.zret (v := 1) hx hb hr rfl (fun t ht hW => ⟨_, rfl, Option.some.inj h, ht⟩) (fun q hq => by cases hq) dX6_isDone_59
  replace h := (if_neg c3).symm.trans h
  by_cases c5 : (xRel x1.toNatClampNeg) = 62
  · replace h := (if_pos c5).symm.trans h
    refine lv_lookup (tgt := 60) (off := 42) hx hb dX6_isDone_18 (by decide) (by rw [c5]; decide) (by decide) ?_
    refine lv_iload_n hx hb dX6_isDone_60 rfl (lv_at hl 0 rfl) ?_
    refine lv_aload_n hx hb dX6_isDone_61 rfl (lv_at hl 1 rfl) ?_
    refine va_get (D := D) (ci := 2) (v := .ref (a 6)) (C := RX6) (T := TX6) (N := 9) hx hb hts hi6 hown hK hP (3) (rfl) rfl 2 (by decide) kf18 (fun _ h9 => h9) rfl dX6_isDone_62 ?_
    refine lv_iload_n hx hb dX6_isDone_65 rfl (lv_at hl 2 rfl) ?_
    refine va_iald hx hb hK hP (6) 0 (rfl) rfl g1 dX6_isDone_66 ?_
    refine lv_icmp_le (tgt := 74) hx hb dX6_isDone_67 (by decide) (fun c6 => ?_) (fun c6 => ?_)
    · replace h := (if_pos c6).symm.trans h
      refine lv_iconst (v := 0) hx hb dX6_isDone_74 (by decide) ?_
      exact W.zret (v := 0) hx hb hr rfl (fun t ht hW => ⟨_, rfl, Option.some.inj h, ht⟩) (fun q hq => by cases hq) dX6_isDone_75
    · replace h := (if_neg c6).symm.trans h
      refine lv_iconst (v := 1) hx hb dX6_isDone_70 (by decide) ?_
      refine lv_goto (tgt := 75) hx hb dX6_isDone_71 (by decide) ?_
      exact W.zret (v := 1) hx hb hr rfl (fun t ht hW => ⟨_, rfl, Option.some.inj h, ht⟩) (fun q hq => by cases hq) dX6_isDone_75
  replace h := (if_neg c5).symm.trans h
  refine lv_lookup (tgt := 76) (off := 58) hx hb dX6_isDone_18 (by decide) (xLk_X6_isDone c3 c5) (by decide) ?_
  refine lv_iload_n hx hb dX6_isDone_76 rfl (lv_at hl 0 rfl) ?_
  refine lv_aload_n hx hb dX6_isDone_77 rfl (lv_at hl 1 rfl) ?_
  refine va_get (D := D) (ci := 2) (v := .ref (a 6)) (C := RX6) (T := TX6) (N := 9) hx hb hts hi6 hown hK hP (3) (rfl) rfl 2 (by decide) kf18 (fun _ h9 => h9) rfl dX6_isDone_78 ?_
  refine lv_iload_n hx hb dX6_isDone_81 rfl (lv_at hl 2 rfl) ?_
  refine va_iald hx hb hK hP (6) 0 (rfl) rfl g1 dX6_isDone_82 ?_
  refine lv_icmp_ne (tgt := 90) hx hb dX6_isDone_83 (by decide) (fun c7 => ?_) (fun c7 => ?_)
  · replace h := (if_neg c7).symm.trans h
    refine lv_iconst (v := 0) hx hb dX6_isDone_90 (by decide) ?_
    exact W.zret (v := 0) hx hb hr rfl (fun t ht hW => ⟨_, rfl, Option.some.inj h, ht⟩) (fun q hq => by cases hq) dX6_isDone_91
  · replace h := (if_pos c7).symm.trans h
    refine lv_iconst (v := 1) hx hb dX6_isDone_86 (by decide) ?_
    refine lv_goto (tgt := 91) hx hb dX6_isDone_87 (by decide) ?_
    exact W.zret (v := 1) hx hb hr rfl (fun t ht hW => ⟨_, rfl, Option.some.inj h, ht⟩) (fun q hq => by cases hq) dX6_isDone_91
set_option maxHeartbeats 4000000 in
set_option maxRecDepth 100000 in
theorem c_X6_isDone (l : Launch) (D : va_G) (k : Nat → ClassId) (a : Nat → Nat) (xLen : Nat → Int32) (xHits : Nat → Int32) (xUns : Nat → Int32) (xItems : Nat → Nat → Int32) (xLost : Nat → Int32) (xKind : Nat → Int32) (xSize : Nat → Int32) (xLet : Nat → Int32) (xRel : Nat → Int32) (xLim : Nat → Int32) (xOpen : Nat → Int32) (xMeas : Nat → Int32) (xSL : Int32) (xST : Int32) (xSD : Int32) (xSK : Int32) (xTal : Nat → Nat → Int32) (xKn : Nat → Int32) (xFT : Nat → Int32) (xFA : Int32) (xFE : Int32) (xOdds : Int32) (xPat : Int32) (xFind : Int32) (x1 : Int32) {o : Int32} (h : f_X6_isDone x1 xLet xRel xLim xMeas = some o) : mRi l yX6_isDone wo_X6_isDone 0 D k [.ref (a 3), .int x1] (wX k a xLen xHits xUns xItems xLost xKind xSize xLet xRel xLim xOpen xMeas xSL xST xSD xSK xTal xKn xFT xFA xFE xOdds xPat xFind) o := by
  refine Met.ofW (cc := cX6_isDone) (maxL := 3) (ret := some .boolean) (by decide) rfl ?_
  intro p e s m args below meth c s₁ B hml hv
  obtain ⟨rfl, hP, hK⟩ := hv
  rw [lg_entry_eq]
  exact core_X6_isDone D k a xLen xHits xUns xItems xLost xKind xSize xLet xRel xLim xOpen xMeas xSL xST xSD xSK xTal xKn xFT xFA xFE xOdds xPat xFind x1 B.exec B.bytes hml B.returns (atoms_spec (ws := wo_X6_isDone) B.pre) (findClass_of_methodNamed B.named) B.notSynchronized (lv_entry [.ref (a 3), .int x1] (n := 3) (Nat.le_of_ble_eq_true rfl)) hK hP h
theorem qd_X6_isDone : yX6_isDone.cls = RX6 ∧ yX6_isDone.cls ≠ "java/lang/invoke/MethodHandle" ∧ yX6_isDone.cls ≠ "java/lang/invoke/VarHandle" ∧ (parseMethodDescriptor yX6_isDone.desc).map (fun d => d.parameters.length) = some 1 := by decide +kernel
abbrev wo_X6_hold : List Cond := .code yX6_hold cX6_hold 8 (some .boolean) :: wsL_law
set_option maxHeartbeats 4000000 in
set_option maxRecDepth 100000 in
theorem core_X6_hold {N : Nat} (D : va_G) (k : Nat → ClassId) (a : Nat → Nat) (xLen : Nat → Int32) (xHits : Nat → Int32) (xUns : Nat → Int32) (xItems : Nat → Nat → Int32) (xLost : Nat → Int32) (xKind : Nat → Int32) (xSize : Nat → Int32) (xLet : Nat → Int32) (xRel : Nat → Int32) (xLim : Nat → Int32) (xOpen : Nat → Int32) (xMeas : Nat → Int32) (xSL : Int32) (xST : Int32) (xSD : Int32) (xSK : Int32) (xTal : Nat → Nat → Int32) (xKn : Nat → Int32) (xFT : Nat → Int32) (xFA : Int32) (xFE : Int32) (xOdds : Int32) (xPat : Int32) (xFind : Int32) (x1 : Int32) (x2 : Int32) (x3 : Int32) {p : Program} {l : Launch} {e : Env} {s : State} {m : MethodId} {args : Array Value} {below : List Frame} {meth : Method} {c : Code} {ls : Array Slot} (hx : p.tables.exec = Jvm.exec) (hb : c.code = cX6_hold) (hml : c.maxLocals = 8) (hr : meth.sig.returnType = some .boolean) (hts : ∀ w ∈ wo_X6_hold, w.before args s = true) (hown : s.vm.findClass RX6 = some m.cls) (hlocks : meth.locks = false) (hl : lv_has ls 8 [(0, .ref (a 3)), (1, .int x1), (2, .int x2), (3, .int x3)]) (hK : va_K D vwCl (xTys k) s) (hP : va_P D vwCl (wX k a xLen xHits xUns xItems xLost xKind xSize xLet xRel xLim xOpen xMeas xSL xST xSD xSK xTal xKn xFT xFA xFE xOdds xPat xFind) s.heap) {A : Nat → Prop} (hD : va_D A (wX k a xLen xHits xUns xItems xLost xKind xSize xLet xRel xLim xOpen xMeas xSL xST xSD xSK xTal xKn xFT xFA xFE xOdds xPat xFind)) (hA : ∀ q : Nat, s.heap.size ≤ q → A q) {o : Int32 × (Nat → Int32)} (h : f_X6_hold N x1 x2 x3 xLet xRel xLim xOpen xMeas xST = some o) : gQi p l e wo_X6_hold 3 s m args below meth c D k A o.1 (wX k a xLen xHits xUns xItems xLost xKind xSize xLet xRel xLim xOpen o.2 xSL xST xSD xSK xTal xKn xFT xFA xFE xOdds xPat xFind) s.heap [] (F0 m 0 ls []) := by
  have hi6 := (fun w h => List.mem_cons_of_mem _ (inlX6 w h) : ∀ w ∈ wsX60, w ∈ wo_X6_hold)
  have kf11 := hts _ (List.mem_cons_of_mem _ wm_49)
  have kf25 := hts _ (List.mem_cons_of_mem _ wm_54)
  have kf35 := hts _ (List.mem_cons_of_mem _ wm_282)
  have kf21 := hts _ (List.mem_cons_of_mem _ wm_53)
  unfold f_X6_hold at h
  have hS : va_S A s.heap s.heap [] := va_S.rf
  have L9 : ∀ (n9 : Nat) (x1 : Int32) (x2 : Int32) (x3 : Int32) (x4 : Int32) (x5 : Int32) (x6 : Int32) (xMeas : Nat → Int32) (ls : Array Slot) (H : Heap) (locs : List Loc) (hl : lv_has ls 8 [(0, .ref (a 3)), (1, .int x1), (2, .int x2), (3, .int x3), (4, .int x4), (5, .int x5), (6, .int x6)]) (hP : va_P D vwCl (wX k a xLen xHits xUns xItems xLost xKind xSize xLet xRel xLim xOpen xMeas xSL xST xSD xSK xTal xKn xFT xFA xFE xOdds xPat xFind) H) (hD : va_D A (wX k a xLen xHits xUns xItems xLost xKind xSize xLet xRel xLim xOpen xMeas xSL xST xSD xSK xTal xKn xFT xFA xFE xOdds xPat xFind)) (hS : va_S A s.heap H locs) (h : f_X6_hold_9 N n9 x1 x2 x3 x4 x5 x6 xLet xRel xLim xOpen xMeas xST = some o), gQi p l e wo_X6_hold 3 s m args below meth c D k A o.1 (wX k a xLen xHits xUns xItems xLost xKind xSize xLet xRel xLim xOpen o.2 xSL xST xSD xSK xTal xKn xFT xFA xFE xOdds xPat xFind) H locs (F0 m 9 ls []) := by
    intro n9
    induction n9 with
    | zero => intro x1 x2 x3 x4 x5 x6 xMeas ls H locs hl hP hD hS h; cases (show (none : Option (Int32 × (Nat → Int32))) = some o from h)
    | succ n9 ih9 =>
      have J94 : ∀ (x1 : Int32) (x2 : Int32) (x3 : Int32) (x4 : Int32) (x5 : Int32) (x6 : Int32) (xMeas : Nat → Int32) (ls : Array Slot) (H : Heap) (locs : List Loc) (hl : lv_has ls 8 [(0, .ref (a 3)), (1, .int x1), (2, .int x2), (3, .int x3), (4, .int x4), (5, .int x5), (6, .int x6)]) (hP : va_P D vwCl (wX k a xLen xHits xUns xItems xLost xKind xSize xLet xRel xLim xOpen xMeas xSL xST xSD xSK xTal xKn xFT xFA xFE xOdds xPat xFind) H) (hD : va_D A (wX k a xLen xHits xUns xItems xLost xKind xSize xLet xRel xLim xOpen xMeas xSL xST xSD xSK xTal xKn xFT xFA xFE xOdds xPat xFind)) (hS : va_S A s.heap H locs) (h : f_X6_hold_94 N (fun y0 y1 y2 y3 y4 y5 y6 y7 y8 y9 y10 y11 => f_X6_hold_9 N n9 y0 y1 y2 y3 y4 y5 y6 y7 y8 y9 y10 y11) x1 x2 x3 x4 x5 x6 xLet xRel xLim xOpen xMeas xST = some o), gQi p l e wo_X6_hold 3 s m args below meth c D k A o.1 (wX k a xLen xHits xUns xItems xLost xKind xSize xLet xRel xLim xOpen o.2 xSL xST xSD xSK xTal xKn xFT xFA xFE xOdds xPat xFind) H locs (F0 m 94 ls []) := by
        intro x1 x2 x3 x4 x5 x6 xMeas ls H locs hl hP hD hS h
        unfold f_X6_hold_94 at h
        refine lv_iinc (v := (x6 + 1)) (lv' := [(6, .int (x6 + 1)), (0, .ref (a 3)), (1, .int x1), (2, .int x2), (3, .int x3), (4, .int x4), (5, .int x5)]) hx hb dX6_hold_94 hl (k := 6) rfl rfl (by decide) rfl (fun ls hl => ?_)
        refine lv_goto (tgt := 9) hx hb dX6_hold_97 (by decide) ?_
        exact ih9 x1 x2 x3 x4 x5 (x6 + 1) xMeas ls H locs (lv_sub hl [1, 2, 3, 4, 5, 6, 0] rfl) hP hD hS h
      have J86 : ∀ (x1 : Int32) (x2 : Int32) (x3 : Int32) (x5 : Int32) (x6 : Int32) (xMeas : Nat → Int32) (ls : Array Slot) (H : Heap) (locs : List Loc) (hl : lv_has ls 8 [(0, .ref (a 3)), (1, .int x1), (2, .int x2), (3, .int x3), (5, .int x5), (6, .int x6)]) (hP : va_P D vwCl (wX k a xLen xHits xUns xItems xLost xKind xSize xLet xRel xLim xOpen xMeas xSL xST xSD xSK xTal xKn xFT xFA xFE xOdds xPat xFind) H) (hD : va_D A (wX k a xLen xHits xUns xItems xLost xKind xSize xLet xRel xLim xOpen xMeas xSL xST xSD xSK xTal xKn xFT xFA xFE xOdds xPat xFind)) (hS : va_S A s.heap H locs) (h : f_X6_hold_86 N (fun y0 y1 y2 y3 y4 y5 y6 y7 y8 y9 y10 y11 => f_X6_hold_9 N n9 y0 y1 y2 y3 y4 y5 y6 y7 y8 y9 y10 y11) x1 x2 x3 x5 x6 xLet xRel xLim xOpen xMeas xST = some o), gQi p l e wo_X6_hold 3 s m args below meth c D k A o.1 (wX k a xLen xHits xUns xItems xLost xKind xSize xLet xRel xLim xOpen o.2 xSL xST xSD xSK xTal xKn xFT xFA xFE xOdds xPat xFind) H locs (F0 m 86 ls []) := by
        intro x1 x2 x3 x5 x6 xMeas ls H locs hl hP hD hS h
        unfold f_X6_hold_86 at h
        refine lv_aload_n hx hb dX6_hold_86 rfl (lv_at hl 0 rfl) ?_
        refine lv_iload hx hb dX6_hold_87 (lv_at hl 5 rfl) ?_
        obtain ⟨o1, eq2, h⟩ := bnd_some h
        refine kRiV (rest := []) (q0 := 3) ⟨hx, hb, hml, hown, hts⟩ (c_X6_isDone l D k a xLen xHits xUns xItems xLost xKind xSize xLet xRel xLim xOpen xMeas xSL xST xSD xSK xTal xKn xFT xFA xFE xOdds xPat xFind x6 eq2) (cwV 1 hts (gAV wm_447 wm_448 wm_449 wm_22 wm_450) rfl rfl rfl qd_X6_isDone ⟨Nat.le_of_ble_eq_true rfl, Nat.le_of_ble_eq_true rfl⟩) hK hP (rfl) rfl rfl hl.1 rfl (Nat.le_of_ble_eq_true rfl) dX6_hold_89 ⟨Nat.zero_le _, Nat.zero_le _⟩ ?_
        refine lv_istore (lv' := [(4, .int o1), (0, .ref (a 3)), (1, .int x1), (2, .int x2), (3, .int x3), (5, .int x5), (6, .int x6)]) hx hb dX6_hold_92 hl (by decide) rfl (fun ls hl => ?_)
        exact J94 x1 x2 x3 o1 x5 x6 xMeas ls H locs (lv_sub hl [1, 2, 3, 4, 0, 5, 6] rfl) hP hD hS h
      have J38 : ∀ (x1 : Int32) (x2 : Int32) (x3 : Int32) (x4 : Int32) (x5 : Int32) (x6 : Int32) (xMeas : Nat → Int32) (ls : Array Slot) (H : Heap) (locs : List Loc) (hl : lv_has ls 8 [(0, .ref (a 3)), (1, .int x1), (2, .int x2), (3, .int x3), (4, .int x4), (5, .int x5), (6, .int x6)]) (hP : va_P D vwCl (wX k a xLen xHits xUns xItems xLost xKind xSize xLet xRel xLim xOpen xMeas xSL xST xSD xSK xTal xKn xFT xFA xFE xOdds xPat xFind) H) (hD : va_D A (wX k a xLen xHits xUns xItems xLost xKind xSize xLet xRel xLim xOpen xMeas xSL xST xSD xSK xTal xKn xFT xFA xFE xOdds xPat xFind)) (hS : va_S A s.heap H locs) (h : f_X6_hold_38 N (fun y0 y1 y2 y3 y4 y5 y6 y7 y8 y9 y10 y11 => f_X6_hold_9 N n9 y0 y1 y2 y3 y4 y5 y6 y7 y8 y9 y10 y11) x1 x2 x3 x4 x5 x6 xLet xRel xLim xOpen xMeas xST = some o), gQi p l e wo_X6_hold 3 s m args below meth c D k A o.1 (wX k a xLen xHits xUns xItems xLost xKind xSize xLet xRel xLim xOpen o.2 xSL xST xSD xSK xTal xKn xFT xFA xFE xOdds xPat xFind) H locs (F0 m 38 ls []) := by
        intro x1 x2 x3 x4 x5 x6 xMeas ls H locs hl hP hD hS h
        unfold f_X6_hold_38 at h
        refine lv_iload hx hb dX6_hold_38 (lv_at hl 4 rfl) ?_
        refine lv_if_eq (tgt := 94) hx hb dX6_hold_40 (by decide) (fun c3 => ?_) (fun c3 => ?_)
        · replace h := (if_pos c3).symm.trans h
          exact J94 x1 x2 x3 x4 x5 x6 xMeas ls H locs (lv_sub hl [0, 1, 2, 3, 4, 5, 6] rfl) hP hD hS h
        · replace h := (if_neg c3).symm.trans h
          refine lv_aload_n hx hb dX6_hold_43 rfl (lv_at hl 0 rfl) ?_
          refine va_get (D := D) (ci := 2) (v := .ref (a 4)) (C := RX6) (T := TX6) (N := 9) hx hb hts hi6 hown hK hP (3) (rfl) rfl 0 (by decide) kf11 (fun _ h9 => h9) rfl dX6_hold_44 ?_
          refine lv_iload hx hb dX6_hold_47 (lv_at hl 6 rfl) ?_
          obtain ⟨g4, h⟩ := gIn_some h
          refine va_iald hx hb hK hP (4) 0 (rfl) rfl g4 dX6_hold_49 ?_
          refine lv_istore (lv' := [(7, .int (xLet x6.toNatClampNeg)), (0, .ref (a 3)), (1, .int x1), (2, .int x2), (3, .int x3), (4, .int x4), (5, .int x5), (6, .int x6)]) hx hb dX6_hold_50 hl (by decide) rfl (fun ls hl => ?_)
          refine lv_iload hx hb dX6_hold_52 (lv_at hl 6 rfl) ?_
          refine lv_iload hx hb dX6_hold_54 (lv_at hl 0 rfl) ?_
          refine lv_ishr hx hb dX6_hold_56 ?_
          refine lv_iconst (v := 1) hx hb dX6_hold_57 (by decide) ?_
          refine lv_iand hx hb dX6_hold_58 ?_
          refine lv_if_ne (tgt := 86) hx hb dX6_hold_59 (by decide) (fun c5 => ?_) (fun c5 => ?_)
          · replace h := (if_neg c5).symm.trans h
            exact J86 x1 x2 x3 x5 x6 xMeas ls H locs (lv_sub hl [1, 2, 3, 4, 6, 7] rfl) hP hD hS h
          · replace h := (if_pos c5).symm.trans h
            refine lv_aload_n hx hb dX6_hold_62 rfl (lv_at hl 1 rfl) ?_
            refine va_get (D := D) (ci := 2) (v := .ref (a 8)) (C := RX6) (T := TX6) (N := 9) hx hb hts hi6 hown hK hP (3) (rfl) rfl 4 (by decide) kf25 (fun _ h9 => h9) rfl dX6_hold_63 ?_
            refine lv_iload hx hb dX6_hold_66 (lv_at hl 0 rfl) ?_
            refine lv_iload hx hb dX6_hold_68 (lv_at hl 0 rfl) ?_
            refine lv_iload_n hx hb dX6_hold_70 rfl (lv_at hl 2 rfl) ?_
            refine lv_iload_n hx hb dX6_hold_71 rfl (lv_at hl 3 rfl) ?_
            refine lv_iload_n hx hb dX6_hold_72 rfl (lv_at hl 4 rfl) ?_
            obtain ⟨o6, eq7, h⟩ := bnd_some h
            refine kPi (rest := [.int (xLet x6.toNatClampNeg), .ref (a 8)]) ⟨hx, hb, hml, hown, hts⟩ (c_X3_measure l (xLet x6.toNatClampNeg) x1 x2 x3 eq7) (va_cwS 4 hts (gAS wm_446 wm_202 wm_203 wm_204) rfl rfl rfl qd_X3_measure ⟨Nat.le_of_ble_eq_true rfl, Nat.le_of_ble_eq_true rfl⟩) rfl hl.1 rfl (Nat.le_of_ble_eq_true rfl) dX6_hold_73 ⟨Nat.zero_le _, Nat.zero_le _⟩ ?_
            obtain ⟨g8, h⟩ := gIn_some h
            refine va_iast hx hb hK hP hD hS (8) 0 (rfl) rfl g8 dX6_hold_76 (fun H locs hP hD hS => ?_)
            have hP : va_P D vwCl (wX k a xLen xHits xUns xItems xLost xKind xSize xLet xRel xLim xOpen (upd xMeas (xLet x6.toNatClampNeg).toNatClampNeg o6) xSL xST xSD xSK xTal xKn xFT xFA xFE xOdds xPat xFind) H := hP
            have hD : va_D A (wX k a xLen xHits xUns xItems xLost xKind xSize xLet xRel xLim xOpen (upd xMeas (xLet x6.toNatClampNeg).toNatClampNeg o6) xSL xST xSD xSK xTal xKn xFT xFA xFE xOdds xPat xFind) := hD
            refine lv_iload hx hb dX6_hold_77 (lv_at hl 6 rfl) ?_
            refine lv_iconst (v := 1) hx hb dX6_hold_79 (by decide) ?_
            refine lv_iload hx hb dX6_hold_80 (lv_at hl 0 rfl) ?_
            refine lv_ishl hx hb dX6_hold_82 ?_
            refine lv_ior hx hb dX6_hold_83 ?_
            refine lv_istore (lv' := [(5, .int (x5 ||| ((1 : Int32) <<< ((xLet x6.toNatClampNeg) &&& 31)))), (7, .int (xLet x6.toNatClampNeg)), (0, .ref (a 3)), (1, .int x1), (2, .int x2), (3, .int x3), (4, .int x4), (6, .int x6)]) hx hb dX6_hold_84 hl (by decide) rfl (fun ls hl => ?_)
            exact J86 x1 x2 x3 (x5 ||| ((1 : Int32) <<< ((xLet x6.toNatClampNeg) &&& 31))) x6 (upd xMeas (xLet x6.toNatClampNeg).toNatClampNeg o6) ls H locs (lv_sub hl [2, 3, 4, 5, 0, 7] rfl) hP hD hS h
      intro x1 x2 x3 x4 x5 x6 xMeas ls H locs hl hP hD hS h
      rw [f_X6_hold_9] at h
      refine lv_iload hx hb dX6_hold_9 (lv_at hl 6 rfl) ?_
      refine lv_aload_n hx hb dX6_hold_11 rfl (lv_at hl 0 rfl) ?_
      refine va_get (D := D) (ci := 2) (v := .int xST) (C := RX6) (T := TX6) (N := 9) hx hb hts hi6 hown hK hP (3) (rfl) rfl 6 (by decide) kf35 (fun _ h9 => h9) rfl dX6_hold_12 ?_
      refine lv_icmp_ge (tgt := 100) hx hb dX6_hold_15 (by decide) (fun c9 => ?_) (fun c9 => ?_)
      · replace h := (if_pos c9).symm.trans h
        refine lv_iload hx hb dX6_hold_100 (lv_at hl 4 rfl) ?_
        obtain ⟨g10, h⟩ := gZ_some h
        have he := Option.some.inj h
        exact W.zret (v := x4) hx hb hr g10 (fun t ht hW => ⟨⟨x4, wX k a xLen xHits xUns xItems xLost xKind xSize xLet xRel xLim xOpen xMeas xSL xST xSD xSK xTal xKn xFT xFA xFE xOdds xPat xFind, rfl, ⟨(congrArg (fun z => z.1) he), (congrArg (fun z => wX k a xLen xHits xUns xItems xLost xKind xSize xLet xRel xLim xOpen z.2 xSL xST xSD xSK xTal xKn xFT xFA xFE xOdds xPat xFind) he)⟩, by rw [ht]; exact hP, va_K.moved hW.alike hK, hD⟩, hS.F ht⟩) hS.2.2 dX6_hold_102
      · replace h := (if_neg c9).symm.trans h
        refine lv_aload_n hx hb dX6_hold_18 rfl (lv_at hl 0 rfl) ?_
        refine va_get (D := D) (ci := 2) (v := .ref (a 7)) (C := RX6) (T := TX6) (N := 9) hx hb hts hi6 hown hK hP (3) (rfl) rfl 3 (by decide) kf21 (fun _ h9 => h9) rfl dX6_hold_19 ?_
        refine lv_iload hx hb dX6_hold_22 (lv_at hl 6 rfl) ?_
        obtain ⟨g11, h⟩ := gIn_some h
        refine va_zald hx hb hK hP (7) 1 (rfl) rfl g11 dX6_hold_24 ?_
        refine lv_if_eq (tgt := 38) hx hb dX6_hold_25 (by decide) (fun c12 => ?_) (fun c12 => ?_)
        · replace h := (if_pos c12).symm.trans h
          exact J38 x1 x2 x3 x4 x5 x6 xMeas ls H locs (lv_sub hl [0, 1, 2, 3, 4, 5, 6] rfl) hP hD hS h
        · replace h := (if_neg c12).symm.trans h
          refine lv_iload hx hb dX6_hold_28 (lv_at hl 4 rfl) ?_
          refine lv_if_eq (tgt := 35) hx hb dX6_hold_30 (by decide) (fun c13 => ?_) (fun c13 => ?_)
          · replace h := (if_pos c13).symm.trans h
            refine lv_iconst (v := 1) hx hb dX6_hold_35 (by decide) ?_
            refine lv_istore (lv' := [(4, .int 1), (0, .ref (a 3)), (1, .int x1), (2, .int x2), (3, .int x3), (5, .int x5), (6, .int x6)]) hx hb dX6_hold_36 hl (by decide) rfl (fun ls hl => ?_)
            exact J38 x1 x2 x3 1 x5 x6 xMeas ls H locs (lv_sub hl [1, 2, 3, 4, 0, 5, 6] rfl) hP hD hS h
          · replace h := (if_neg c13).symm.trans h
            refine lv_iconst (v := 1) hx hb dX6_hold_33 (by decide) ?_
            have he := Option.some.inj h
            exact W.zret (v := 1) hx hb hr rfl (fun t ht hW => ⟨⟨1, wX k a xLen xHits xUns xItems xLost xKind xSize xLet xRel xLim xOpen xMeas xSL xST xSD xSK xTal xKn xFT xFA xFE xOdds xPat xFind, rfl, ⟨(congrArg (fun z => z.1) he), (congrArg (fun z => wX k a xLen xHits xUns xItems xLost xKind xSize xLet xRel xLim xOpen z.2 xSL xST xSD xSK xTal xKn xFT xFA xFE xOdds xPat xFind) he)⟩, by rw [ht]; exact hP, va_K.moved hW.alike hK, hD⟩, hS.F ht⟩) hS.2.2 dX6_hold_34
  obtain ⟨H, hH⟩ : ∃ H : Heap, H = s.heap := ⟨_, rfl⟩
  obtain ⟨locs, hlc⟩ : ∃ locs : List Loc, locs = [] := ⟨_, rfl⟩
  have hS : va_S A s.heap H locs := by rw [hH, hlc]; exact va_S.rf
  have hP : va_P D vwCl (wX k a xLen xHits xUns xItems xLost xKind xSize xLet xRel xLim xOpen xMeas xSL xST xSD xSK xTal xKn xFT xFA xFE xOdds xPat xFind) H := by rw [hH]; exact hP
  suffices hGo : gQi p l e wo_X6_hold 3 s m args below meth c D k A o.1 (wX k a xLen xHits xUns xItems xLost xKind xSize xLet xRel xLim xOpen o.2 xSL xST xSD xSK xTal xKn xFT xFA xFE xOdds xPat xFind) H locs (F0 m 0 ls []) by rw [hH, hlc] at hGo; exact hGo
  refine lv_iconst (v := 1) hx hb dX6_hold_0 (by decide) ?_
  refine lv_istore (lv' := [(4, .int 1), (0, .ref (a 3)), (1, .int x1), (2, .int x2), (3, .int x3)]) hx hb dX6_hold_1 hl (by decide) rfl (fun ls hl => ?_)
  refine lv_iconst (v := 0) hx hb dX6_hold_3 (by decide) ?_
  refine lv_istore (lv' := [(5, .int 0), (4, .int 1), (0, .ref (a 3)), (1, .int x1), (2, .int x2), (3, .int x3)]) hx hb dX6_hold_4 hl (by decide) rfl (fun ls hl => ?_)
  refine lv_iconst (v := 0) hx hb dX6_hold_6 (by decide) ?_
  refine lv_istore (lv' := [(6, .int 0), (5, .int 0), (4, .int 1), (0, .ref (a 3)), (1, .int x1), (2, .int x2), (3, .int x3)]) hx hb dX6_hold_7 hl (by decide) rfl (fun ls hl => ?_)
  exact L9 N x1 x2 x3 1 0 0 xMeas ls H locs (lv_sub hl [3, 4, 5, 6, 2, 1, 0] rfl) hP hD hS h
set_option maxHeartbeats 4000000 in
set_option maxRecDepth 100000 in
theorem c_X6_hold {N : Nat} (l : Launch) (D : va_G) (k : Nat → ClassId) (a : Nat → Nat) (xLen : Nat → Int32) (xHits : Nat → Int32) (xUns : Nat → Int32) (xItems : Nat → Nat → Int32) (xLost : Nat → Int32) (xKind : Nat → Int32) (xSize : Nat → Int32) (xLet : Nat → Int32) (xRel : Nat → Int32) (xLim : Nat → Int32) (xOpen : Nat → Int32) (xMeas : Nat → Int32) (xSL : Int32) (xST : Int32) (xSD : Int32) (xSK : Int32) (xTal : Nat → Nat → Int32) (xKn : Nat → Int32) (xFT : Nat → Int32) (xFA : Int32) (xFE : Int32) (xOdds : Int32) (xPat : Int32) (xFind : Int32) (x1 : Int32) (x2 : Int32) (x3 : Int32) {o : Int32 × (Nat → Int32)} (h : f_X6_hold N x1 x2 x3 xLet xRel xLim xOpen xMeas xST = some o) : mQi l yX6_hold wo_X6_hold 3 D k [.ref (a 3), .int x1, .int x2, .int x3] (wX k a xLen xHits xUns xItems xLost xKind xSize xLet xRel xLim xOpen xMeas xSL xST xSD xSK xTal xKn xFT xFA xFE xOdds xPat xFind) o.1 (wX k a xLen xHits xUns xItems xLost xKind xSize xLet xRel xLim xOpen o.2 xSL xST xSD xSK xTal xKn xFT xFA xFE xOdds xPat xFind) := by
  intro sz
  refine Met.ofW (cc := cX6_hold) (maxL := 8) (ret := some .boolean) (by decide) rfl ?_
  intro p e s m args below meth c s₁ B hml hv
  obtain ⟨rfl, hsz, hP, hK, hD0⟩ := hv
  subst hsz
  rw [lg_entry_eq]
  exact core_X6_hold D k a xLen xHits xUns xItems xLost xKind xSize xLet xRel xLim xOpen xMeas xSL xST xSD xSK xTal xKn xFT xFA xFE xOdds xPat xFind x1 x2 x3 B.exec B.bytes hml B.returns (atoms_spec (ws := wo_X6_hold) B.pre) (findClass_of_methodNamed B.named) B.notSynchronized (lv_entry [.ref (a 3), .int x1, .int x2, .int x3] (n := 8) (Nat.le_of_ble_eq_true rfl)) hK hP hD0.self (fun q h => Or.inr h) h
theorem qd_X6_hold : yX6_hold.cls = RX6 ∧ yX6_hold.cls ≠ "java/lang/invoke/MethodHandle" ∧ yX6_hold.cls ≠ "java/lang/invoke/VarHandle" ∧ (parseMethodDescriptor yX6_hold.desc).map (fun d => d.parameters.length) = some 3 := by decide +kernel
abbrev wo_X9_sum : List Cond := .code yX9_sum cX9_sum 6 (some .int) :: wsL_law
set_option maxHeartbeats 4000000 in
set_option maxRecDepth 100000 in
theorem core_X9_sum {N : Nat} (D : va_G) (k : Nat → ClassId) (ws : va_W) (q b : Nat) (gf : Nat → Int32) (hq : ws[q]? = some (b, .inl (k 0, 16, .inl gf)))  {p : Program} {l : Launch} {e : Env} {s : State} {m : MethodId} {args : Array Value} {below : List Frame} {meth : Method} {c : Code} {ls : Array Slot} (hx : p.tables.exec = Jvm.exec) (hb : c.code = cX9_sum) (hml : c.maxLocals = 6) (hr : meth.sig.returnType = some .int) (hts : ∀ w ∈ wo_X9_sum, w.before args s = true) (hown : s.vm.findClass RX9 = some m.cls) (hlocks : meth.locks = false) (hl : lv_has ls 6 [(0, .ref b)]) (hK : va_K D vwCl (xTys k) s) (hP : va_P D vwCl (ws) s.heap) {o : Int32} (h : f_X9_sum N gf = some o) : gRi p l e wo_X9_sum 0 s m args below meth c o (F0 m 0 ls []) := by
  unfold f_X9_sum at h
  have L10 : ∀ (n10 : Nat) (x1 : Int32) (x3 : Int32) (x4 : Int32) (ls : Array Slot) (hl : lv_has ls 6 [(1, .int x1), (2, .ref b), (3, .int x3), (4, .int x4)]) (h : f_X9_sum_10 N gf n10 x1 x3 x4 = some o), gRi p l e wo_X9_sum 0 s m args below meth c o (F0 m 10 ls []) := by
    intro n10
    induction n10 with
    | zero => intro x1 x3 x4 ls hl h; cases (show (none : Option (Int32)) = some o from h)
    | succ n10 ih10 =>
      intro x1 x3 x4 ls hl h
      rw [f_X9_sum_10] at h
      refine lv_iload hx hb dX9_sum_10 (lv_at hl 3 rfl) ?_
      refine lv_iload_n hx hb dX9_sum_12 rfl (lv_at hl 2 rfl) ?_
      refine lv_icmp_ge (tgt := 33) hx hb dX9_sum_13 (by decide) (fun c1 => ?_) (fun c1 => ?_)
      · replace h := (if_pos c1).symm.trans h
        refine lv_iload_n hx hb dX9_sum_33 rfl (lv_at hl 0 rfl) ?_
        exact W.iret (v := x1) hx hb hr (fun t ht hW => ⟨_, rfl, Option.some.inj h, ht⟩) (fun q hq => by cases hq) dX9_sum_34
      · replace h := (if_neg c1).symm.trans h
        refine lv_aload_n hx hb dX9_sum_16 rfl (lv_at hl 1 rfl) ?_
        refine lv_iload hx hb dX9_sum_17 (lv_at hl 3 rfl) ?_
        obtain ⟨g2, h⟩ := gIn_some h
        refine va_iald hx hb hK hP (q) 0 (hq) rfl g2 dX9_sum_19 ?_
        refine lv_istore (lv' := [(5, .int (gf x4.toNatClampNeg)), (1, .int x1), (2, .ref b), (3, .int x3), (4, .int x4)]) hx hb dX9_sum_20 hl (by decide) rfl (fun ls hl => ?_)
        refine lv_iload_n hx hb dX9_sum_22 rfl (lv_at hl 1 rfl) ?_
        refine lv_iload hx hb dX9_sum_23 (lv_at hl 0 rfl) ?_
        refine lv_iadd hx hb dX9_sum_25 ?_
        refine lv_istore_n (lv' := [(1, .int (x1 + (gf x4.toNatClampNeg))), (5, .int (gf x4.toNatClampNeg)), (2, .ref b), (3, .int x3), (4, .int x4)]) hx hb dX9_sum_26 rfl hl (by decide) rfl (fun ls hl => ?_)
        refine lv_iinc (v := (x4 + 1)) (lv' := [(4, .int (x4 + 1)), (1, .int (x1 + (gf x4.toNatClampNeg))), (5, .int (gf x4.toNatClampNeg)), (2, .ref b), (3, .int x3)]) hx hb dX9_sum_27 hl (k := 4) rfl rfl (by decide) rfl (fun ls hl => ?_)
        refine lv_goto (tgt := 10) hx hb dX9_sum_30 (by decide) ?_
        exact ih10 (x1 + (gf x4.toNatClampNeg)) x3 (x4 + 1) ls (lv_sub hl [1, 3, 4, 0] rfl) h
  refine lv_iconst (v := 0) hx hb dX9_sum_0 (by decide) ?_
  refine lv_istore_n (lv' := [(1, .int 0), (0, .ref b)]) hx hb dX9_sum_1 rfl hl (by decide) rfl (fun ls hl => ?_)
  refine lv_aload_n hx hb dX9_sum_2 rfl (lv_at hl 1 rfl) ?_
  refine lv_astore_n (lv' := [(2, .ref b), (1, .int 0), (0, .ref b)]) hx hb dX9_sum_3 rfl hl (by decide) rfl (fun ls hl => ?_)
  refine lv_aload_n hx hb dX9_sum_4 rfl (lv_at hl 0 rfl) ?_
  refine va_alen (v := 16) hx hb hK hP (q) 0 (hq) rfl rfl dX9_sum_5 ?_
  refine lv_istore_n (lv' := [(3, .int 16), (2, .ref b), (1, .int 0), (0, .ref b)]) hx hb dX9_sum_6 rfl hl (by decide) rfl (fun ls hl => ?_)
  refine lv_iconst (v := 0) hx hb dX9_sum_7 (by decide) ?_
  refine lv_istore (lv' := [(4, .int 0), (3, .int 16), (2, .ref b), (1, .int 0), (0, .ref b)]) hx hb dX9_sum_8 hl (by decide) rfl (fun ls hl => ?_)
  exact L10 N 0 16 0 ls (lv_sub hl [3, 2, 1, 0] rfl) h
set_option maxHeartbeats 4000000 in
set_option maxRecDepth 100000 in
theorem c_X9_sum {N : Nat} (l : Launch) (D : va_G) (k : Nat → ClassId) (ws : va_W) (q b : Nat) (gf : Nat → Int32) (hq : ws[q]? = some (b, .inl (k 0, 16, .inl gf)))  {o : Int32} (h : f_X9_sum N gf = some o) : mRi l yX9_sum wo_X9_sum 0 D k [.ref b] (ws) o := by
  refine Met.ofW (cc := cX9_sum) (maxL := 6) (ret := some .int) (by decide) rfl ?_
  intro p e s m args below meth c s₁ B hml hv
  obtain ⟨rfl, hP, hK⟩ := hv
  rw [lg_entry_eq]
  exact core_X9_sum D k ws q b gf hq  B.exec B.bytes hml B.returns (atoms_spec (ws := wo_X9_sum) B.pre) (findClass_of_methodNamed B.named) B.notSynchronized (lv_entry [.ref b] (n := 6) (Nat.le_of_ble_eq_true rfl)) hK hP h
theorem qd_X9_sum : yX9_sum.cls ≠ "java/lang/invoke/MethodHandle" ∧ yX9_sum.cls ≠ "java/lang/invoke/VarHandle" ∧ (parseMethodDescriptor yX9_sum.desc).map (fun d => d.parameters.length) = some 1 := by decide +kernel
abbrev wo_X9_sharePart : List Cond := .code yX9_sharePart cX9_sharePart 9 (some .long) :: wsL_law
set_option maxHeartbeats 4000000 in
set_option maxRecDepth 100000 in
theorem core_X9_sharePart {N : Nat} (D : va_G) (k : Nat → ClassId) (ws : va_W) (q b : Nat) (gf : Nat → Int32) (hq : ws[q]? = some (b, .inl (k 0, 16, .inl gf))) (x1 : Int32) (x2 : Int32) (x3 : Int32) {p : Program} {l : Launch} {e : Env} {s : State} {m : MethodId} {args : Array Value} {below : List Frame} {meth : Method} {c : Code} {ls : Array Slot} (hx : p.tables.exec = Jvm.exec) (hb : c.code = cX9_sharePart) (hml : c.maxLocals = 9) (hr : meth.sig.returnType = some .long) (hts : ∀ w ∈ wo_X9_sharePart, w.before args s = true) (hown : s.vm.findClass RX9 = some m.cls) (hlocks : meth.locks = false) (hl : lv_has ls 9 [(0, .ref b), (1, .int x1), (2, .int x2), (3, .int x3)]) (hK : va_K D vwCl (xTys k) s) (hP : va_P D vwCl (ws) s.heap) {o : Int64} (h : f_X9_sharePart N x1 x2 x3 gf = some o) : gRl p l e wo_X9_sharePart 2 s m args below meth c o (F0 m 0 ls []) := by
  have kc15 := hts _ (List.mem_cons_of_mem _ wm_507)
  unfold f_X9_sharePart at h
  have J60 : ∀ (x1 : Int32) (x3 : Int32) (x4 : Int64) (ls : Array Slot) (hl : lv_has ls 9 [(1, .int x1), (3, .int x3), (4, .long x4)]) (h : f_X9_sharePart_60 N gf x1 x3 x4 = some o), gRl p l e wo_X9_sharePart 2 s m args below meth c o (F0 m 60 ls []) := by
    intro x1 x3 x4 ls hl h
    unfold f_X9_sharePart_60 at h
    refine lv_lload hx hb dX9_sharePart_60 (lv_at hl 2 rfl) ?_
    refine lv_ldc2 (v := 16) hx hb hown kc15 dX9_sharePart_62 ?_
    refine lv_iload_n hx hb dX9_sharePart_65 rfl (lv_at hl 0 rfl) ?_
    obtain ⟨o1, eq2, h⟩ := bnd_some h
    refine kPl (rest := [.long x4]) ⟨hx, hb, hml, hown, hts⟩ (c_X1_power l 16 x1 eq2) (va_cwS 2 hts (gAS wm_508 wm_509 wm_510 wm_511) rfl rfl rfl qd_X1_power ⟨Nat.le_of_ble_eq_true rfl, Nat.le_of_ble_eq_true rfl⟩) rfl hl.1 rfl (Nat.le_of_ble_eq_true rfl) dX9_sharePart_66 ⟨Nat.zero_le _, Nat.zero_le _⟩ ?_
    refine lv_iload_n hx hb dX9_sharePart_69 rfl (lv_at hl 1 rfl) ?_
    obtain ⟨o3, eq4, h⟩ := bnd_some h
    refine kPl (rest := []) ⟨hx, hb, hml, hown, hts⟩ (c_X1_part l x4 o1 x3 eq4) (va_cwS 3 hts (gAS wm_512 wm_513 wm_510 wm_514) rfl rfl rfl qd_X1_part ⟨Nat.le_of_ble_eq_true rfl, Nat.le_of_ble_eq_true rfl⟩) rfl hl.1 rfl (Nat.le_of_ble_eq_true rfl) dX9_sharePart_70 ⟨Nat.zero_le _, Nat.zero_le _⟩ ?_
    exact W.lret (v := o3) hx hb hr (fun t ht hW => ⟨_, rfl, Option.some.inj h, ht⟩) (fun q hq => by cases hq) dX9_sharePart_73
  have L6 : ∀ (n6 : Nat) (x1 : Int32) (x2 : Int32) (x3 : Int32) (x4 : Int64) (x6 : Int32) (ls : Array Slot) (hl : lv_has ls 9 [(0, .ref b), (1, .int x1), (2, .int x2), (3, .int x3), (4, .long x4), (6, .int x6)]) (h : f_X9_sharePart_6 N gf n6 x1 x2 x3 x4 x6 = some o), gRl p l e wo_X9_sharePart 2 s m args below meth c o (F0 m 6 ls []) := by
    intro n6
    induction n6 with
    | zero => intro x1 x2 x3 x4 x6 ls hl h; cases (show (none : Option (Int64)) = some o from h)
    | succ n6 ih6 =>
      intro x1 x2 x3 x4 x6 ls hl h
      rw [f_X9_sharePart_6] at h
      refine lv_iload hx hb dX9_sharePart_6 (lv_at hl 5 rfl) ?_
      refine lv_iload_n hx hb dX9_sharePart_8 rfl (lv_at hl 1 rfl) ?_
      refine lv_icmp_gt (tgt := 60) hx hb dX9_sharePart_9 (by decide) (fun c5 => ?_) (fun c5 => ?_)
      · replace h := (if_pos c5).symm.trans h
        exact J60 x1 x3 x4 ls (lv_sub hl [1, 3, 4] rfl) h
      · replace h := (if_neg c5).symm.trans h
        refine lv_iload hx hb dX9_sharePart_12 (lv_at hl 5 rfl) ?_
        refine lv_aload_n hx hb dX9_sharePart_14 rfl (lv_at hl 0 rfl) ?_
        refine va_alen (v := 16) hx hb hK hP (q) 0 (hq) rfl rfl dX9_sharePart_15 ?_
        refine lv_icmp_ge (tgt := 60) hx hb dX9_sharePart_16 (by decide) (fun c6 => ?_) (fun c6 => ?_)
        · replace h := (if_pos c6).symm.trans h
          exact J60 x1 x3 x4 ls (lv_sub hl [1, 3, 4] rfl) h
        · replace h := (if_neg c6).symm.trans h
          refine lv_iload_n hx hb dX9_sharePart_19 rfl (lv_at hl 2 rfl) ?_
          refine lv_i2l (v := x2.toInt64) hx hb dX9_sharePart_20 rfl ?_
          refine lv_iload hx hb dX9_sharePart_21 (lv_at hl 5 rfl) ?_
          obtain ⟨o7, eq8, h⟩ := bnd_some h
          refine kPl (rest := []) ⟨hx, hb, hml, hown, hts⟩ (c_X1_power l x2.toInt64 x6 eq8) (va_cwS 2 hts (gAS wm_508 wm_509 wm_510 wm_511) rfl rfl rfl qd_X1_power ⟨Nat.le_of_ble_eq_true rfl, Nat.le_of_ble_eq_true rfl⟩) rfl hl.1 rfl (Nat.le_of_ble_eq_true rfl) dX9_sharePart_23 ⟨Nat.zero_le _, Nat.zero_le _⟩ ?_
          refine lv_bipush (v := 16) hx hb dX9_sharePart_26 (by decide) ?_
          refine lv_iload_n hx hb dX9_sharePart_28 rfl (lv_at hl 2 rfl) ?_
          refine lv_isub hx hb dX9_sharePart_29 ?_
          refine lv_i2l (v := ((16 : Int32) - x2).toInt64) hx hb dX9_sharePart_30 rfl ?_
          refine lv_iload_n hx hb dX9_sharePart_31 rfl (lv_at hl 1 rfl) ?_
          refine lv_iload hx hb dX9_sharePart_32 (lv_at hl 5 rfl) ?_
          refine lv_isub hx hb dX9_sharePart_34 ?_
          obtain ⟨o9, eq10, h⟩ := bnd_some h
          refine kPl (rest := [.long o7]) ⟨hx, hb, hml, hown, hts⟩ (c_X1_power l (((16 : Int32) - x2).toInt64) (x1 - x6) eq10) (va_cwS 2 hts (gAS wm_508 wm_509 wm_510 wm_511) rfl rfl rfl qd_X1_power ⟨Nat.le_of_ble_eq_true rfl, Nat.le_of_ble_eq_true rfl⟩) rfl hl.1 rfl (Nat.le_of_ble_eq_true rfl) dX9_sharePart_35 ⟨Nat.zero_le _, Nat.zero_le _⟩ ?_
          refine lv_lmul hx hb dX9_sharePart_38 ?_
          refine lv_lstore (lv' := [(7, .long (o7 * o9)), (0, .ref b), (1, .int x1), (2, .int x2), (3, .int x3), (4, .long x4), (6, .int x6)]) hx hb dX9_sharePart_39 hl (by decide) rfl (fun ls hl => ?_)
          refine lv_lload hx hb dX9_sharePart_41 (lv_at hl 5 rfl) ?_
          refine lv_aload_n hx hb dX9_sharePart_43 rfl (lv_at hl 1 rfl) ?_
          refine lv_iload hx hb dX9_sharePart_44 (lv_at hl 6 rfl) ?_
          obtain ⟨g11, h⟩ := gIn_some h
          refine va_iald hx hb hK hP (q) 0 (hq) rfl g11 dX9_sharePart_46 ?_
          refine lv_i2l (v := (gf x6.toNatClampNeg).toInt64) hx hb dX9_sharePart_47 rfl ?_
          refine lv_lload hx hb dX9_sharePart_48 (lv_at hl 0 rfl) ?_
          refine lv_lmul hx hb dX9_sharePart_50 ?_
          refine lv_ladd hx hb dX9_sharePart_51 ?_
          refine lv_lstore (lv' := [(4, .long (x4 + ((gf x6.toNatClampNeg).toInt64 * (o7 * o9)))), (7, .long (o7 * o9)), (0, .ref b), (1, .int x1), (2, .int x2), (3, .int x3), (6, .int x6)]) hx hb dX9_sharePart_52 hl (by decide) rfl (fun ls hl => ?_)
          refine lv_iinc (v := (x6 + 1)) (lv' := [(6, .int (x6 + 1)), (4, .long (x4 + ((gf x6.toNatClampNeg).toInt64 * (o7 * o9)))), (7, .long (o7 * o9)), (0, .ref b), (1, .int x1), (2, .int x2), (3, .int x3)]) hx hb dX9_sharePart_54 hl (k := 6) rfl rfl (by decide) rfl (fun ls hl => ?_)
          refine lv_goto (tgt := 6) hx hb dX9_sharePart_57 (by decide) ?_
          exact ih6 x1 x2 x3 (x4 + ((gf x6.toNatClampNeg).toInt64 * (o7 * o9))) (x6 + 1) ls (lv_sub hl [3, 4, 5, 6, 1, 0] rfl) h
  refine lv_lconst (v := 0) hx hb dX9_sharePart_0 rfl ?_
  refine lv_lstore (lv' := [(4, .long 0), (0, .ref b), (1, .int x1), (2, .int x2), (3, .int x3)]) hx hb dX9_sharePart_1 hl (by decide) rfl (fun ls hl => ?_)
  refine lv_iconst (v := 0) hx hb dX9_sharePart_3 (by decide) ?_
  refine lv_istore (lv' := [(6, .int 0), (4, .long 0), (0, .ref b), (1, .int x1), (2, .int x2), (3, .int x3)]) hx hb dX9_sharePart_4 hl (by decide) rfl (fun ls hl => ?_)
  exact L6 N x1 x2 x3 0 0 ls (lv_sub hl [2, 3, 4, 5, 1, 0] rfl) h
set_option maxHeartbeats 4000000 in
set_option maxRecDepth 100000 in
theorem c_X9_sharePart {N : Nat} (l : Launch) (D : va_G) (k : Nat → ClassId) (ws : va_W) (q b : Nat) (gf : Nat → Int32) (hq : ws[q]? = some (b, .inl (k 0, 16, .inl gf))) (x1 : Int32) (x2 : Int32) (x3 : Int32) {o : Int64} (h : f_X9_sharePart N x1 x2 x3 gf = some o) : mRl l yX9_sharePart wo_X9_sharePart 2 D k [.ref b, .int x1, .int x2, .int x3] (ws) o := by
  refine Met.ofW (cc := cX9_sharePart) (maxL := 9) (ret := some .long) (by decide) rfl ?_
  intro p e s m args below meth c s₁ B hml hv
  obtain ⟨rfl, hP, hK⟩ := hv
  rw [lg_entry_eq]
  exact core_X9_sharePart D k ws q b gf hq x1 x2 x3 B.exec B.bytes hml B.returns (atoms_spec (ws := wo_X9_sharePart) B.pre) (findClass_of_methodNamed B.named) B.notSynchronized (lv_entry [.ref b, .int x1, .int x2, .int x3] (n := 9) (Nat.le_of_ble_eq_true rfl)) hK hP h
theorem qd_X9_sharePart : yX9_sharePart.cls ≠ "java/lang/invoke/MethodHandle" ∧ yX9_sharePart.cls ≠ "java/lang/invoke/VarHandle" ∧ (parseMethodDescriptor yX9_sharePart.desc).map (fun d => d.parameters.length) = some 4 := by decide +kernel
abbrev wo_X8_forget : List Cond := .code yX8_forget cX8_forget 2 none :: wsL_law
set_option maxHeartbeats 4000000 in
set_option maxRecDepth 100000 in
theorem core_X8_forget {N : Nat} (D : va_G) (k : Nat → ClassId) (a : Nat → Nat) (xLen : Nat → Int32) (xHits : Nat → Int32) (xUns : Nat → Int32) (xItems : Nat → Nat → Int32) (xLost : Nat → Int32) (xKind : Nat → Int32) (xSize : Nat → Int32) (xLet : Nat → Int32) (xRel : Nat → Int32) (xLim : Nat → Int32) (xOpen : Nat → Int32) (xMeas : Nat → Int32) (xSL : Int32) (xST : Int32) (xSD : Int32) (xSK : Int32) (xTal : Nat → Nat → Int32) (xKn : Nat → Int32) (xFT : Nat → Int32) (xFA : Int32) (xFE : Int32) (xOdds : Int32) (xPat : Int32) (xFind : Int32)  {p : Program} {l : Launch} {e : Env} {s : State} {m : MethodId} {args : Array Value} {below : List Frame} {meth : Method} {c : Code} {ls : Array Slot} (hx : p.tables.exec = Jvm.exec) (hb : c.code = cX8_forget) (hml : c.maxLocals = 2) (hr : meth.sig.returnType = none) (hts : ∀ w ∈ wo_X8_forget, w.before args s = true) (hown : s.vm.findClass RX8 = some m.cls) (hlocks : meth.locks = false) (hl : lv_has ls 2 [(0, .ref (a 9))]) (hK : va_K D vwCl (xTys k) s) (hP : va_P D vwCl (wX k a xLen xHits xUns xItems xLost xKind xSize xLet xRel xLim xOpen xMeas xSL xST xSD xSK xTal xKn xFT xFA xFE xOdds xPat xFind) s.heap) {A : Nat → Prop} (hD : va_D A (wX k a xLen xHits xUns xItems xLost xKind xSize xLet xRel xLim xOpen xMeas xSL xST xSD xSK xTal xKn xFT xFA xFE xOdds xPat xFind)) (hA : ∀ q : Nat, s.heap.size ≤ q → A q) {o : (Nat → Int32)} (h : f_X8_forget N xKn = some o) : gQv p l e wo_X8_forget 0 s m args below meth c D k A  (wX k a xLen xHits xUns xItems xLost xKind xSize xLet xRel xLim xOpen xMeas xSL xST xSD xSK xTal o xFT xFA xFE xOdds xPat xFind) s.heap [] (F0 m 0 ls []) := by
  have hi8 := (fun w h => List.mem_cons_of_mem _ (inlX8 w h) : ∀ w ∈ wsX80, w ∈ wo_X8_forget)
  have kf16 := hts _ (List.mem_cons_of_mem _ wm_62)
  unfold f_X8_forget at h
  have hS : va_S A s.heap s.heap [] := va_S.rf
  have L2 : ∀ (n2 : Nat) (x1 : Int32) (xKn : Nat → Int32) (ls : Array Slot) (H : Heap) (locs : List Loc) (hl : lv_has ls 2 [(0, .ref (a 9)), (1, .int x1)]) (hP : va_P D vwCl (wX k a xLen xHits xUns xItems xLost xKind xSize xLet xRel xLim xOpen xMeas xSL xST xSD xSK xTal xKn xFT xFA xFE xOdds xPat xFind) H) (hD : va_D A (wX k a xLen xHits xUns xItems xLost xKind xSize xLet xRel xLim xOpen xMeas xSL xST xSD xSK xTal xKn xFT xFA xFE xOdds xPat xFind)) (hS : va_S A s.heap H locs) (h : f_X8_forget_2 N n2 x1 xKn = some o), gQv p l e wo_X8_forget 0 s m args below meth c D k A  (wX k a xLen xHits xUns xItems xLost xKind xSize xLet xRel xLim xOpen xMeas xSL xST xSD xSK xTal o xFT xFA xFE xOdds xPat xFind) H locs (F0 m 2 ls []) := by
    intro n2
    induction n2 with
    | zero => intro x1 xKn ls H locs hl hP hD hS h; cases (show (none : Option ((Nat → Int32))) = some o from h)
    | succ n2 ih2 =>
      intro x1 xKn ls H locs hl hP hD hS h
      rw [f_X8_forget_2] at h
      refine lv_iload_n hx hb dX8_forget_2 rfl (lv_at hl 1 rfl) ?_
      refine lv_bipush (v := 15) hx hb dX8_forget_3 (by decide) ?_
      refine lv_icmp_gt (tgt := 21) hx hb dX8_forget_5 (by decide) (fun c1 => ?_) (fun c1 => ?_)
      · replace h := (if_pos c1).symm.trans h
        have he := Option.some.inj h
        exact W.vret hx hb hr (fun t ht hW => ⟨⟨wX k a xLen xHits xUns xItems xLost xKind xSize xLet xRel xLim xOpen xMeas xSL xST xSD xSK xTal xKn xFT xFA xFE xOdds xPat xFind, rfl, (congrArg (fun z => wX k a xLen xHits xUns xItems xLost xKind xSize xLet xRel xLim xOpen xMeas xSL xST xSD xSK xTal z xFT xFA xFE xOdds xPat xFind) he), by rw [ht]; exact hP, va_K.moved hW.alike hK, hD⟩, hS.F ht⟩) hS.2.2 dX8_forget_21
      · replace h := (if_neg c1).symm.trans h
        refine lv_aload_n hx hb dX8_forget_8 rfl (lv_at hl 0 rfl) ?_
        refine va_get (D := D) (ci := 4) (v := .ref (a 11)) (C := RX8) (T := TX8) (N := 2) hx hb hts hi8 hown hK hP (9) (rfl) rfl 1 (by decide) kf16 (fun _ h9 => h9) rfl dX8_forget_9 ?_
        refine lv_iload_n hx hb dX8_forget_12 rfl (lv_at hl 1 rfl) ?_
        refine lv_iconst (v := 0) hx hb dX8_forget_13 (by decide) ?_
        obtain ⟨g2, h⟩ := gIn_some h
        refine va_zast hx hb hK hP hD hS (11) 1 (rfl) rfl g2 dX8_forget_14 (fun H locs hP hD hS => ?_)
        have hP : va_P D vwCl (wX k a xLen xHits xUns xItems xLost xKind xSize xLet xRel xLim xOpen xMeas xSL xST xSD xSK xTal (upd xKn x1.toNatClampNeg (vp_nar .boolean 0)) xFT xFA xFE xOdds xPat xFind) H := hP
        have hD : va_D A (wX k a xLen xHits xUns xItems xLost xKind xSize xLet xRel xLim xOpen xMeas xSL xST xSD xSK xTal (upd xKn x1.toNatClampNeg (vp_nar .boolean 0)) xFT xFA xFE xOdds xPat xFind) := hD
        refine lv_iinc (v := (x1 + 1)) (lv' := [(1, .int (x1 + 1)), (0, .ref (a 9))]) hx hb dX8_forget_15 hl (k := 1) rfl rfl (by decide) rfl (fun ls hl => ?_)
        refine lv_goto (tgt := 2) hx hb dX8_forget_18 (by decide) ?_
        exact ih2 (x1 + 1) (upd xKn x1.toNatClampNeg (vp_nar .boolean 0)) ls H locs (lv_sub hl [1, 0] rfl) hP hD hS h
  obtain ⟨H, hH⟩ : ∃ H : Heap, H = s.heap := ⟨_, rfl⟩
  obtain ⟨locs, hlc⟩ : ∃ locs : List Loc, locs = [] := ⟨_, rfl⟩
  have hS : va_S A s.heap H locs := by rw [hH, hlc]; exact va_S.rf
  have hP : va_P D vwCl (wX k a xLen xHits xUns xItems xLost xKind xSize xLet xRel xLim xOpen xMeas xSL xST xSD xSK xTal xKn xFT xFA xFE xOdds xPat xFind) H := by rw [hH]; exact hP
  suffices hGo : gQv p l e wo_X8_forget 0 s m args below meth c D k A  (wX k a xLen xHits xUns xItems xLost xKind xSize xLet xRel xLim xOpen xMeas xSL xST xSD xSK xTal o xFT xFA xFE xOdds xPat xFind) H locs (F0 m 0 ls []) by rw [hH, hlc] at hGo; exact hGo
  refine lv_iconst (v := 0) hx hb dX8_forget_0 (by decide) ?_
  refine lv_istore_n (lv' := [(1, .int 0), (0, .ref (a 9))]) hx hb dX8_forget_1 rfl hl (by decide) rfl (fun ls hl => ?_)
  exact L2 N 0 xKn ls H locs (lv_sub hl [1, 0] rfl) hP hD hS h
set_option maxHeartbeats 4000000 in
set_option maxRecDepth 100000 in
theorem c_X8_forget {N : Nat} (l : Launch) (D : va_G) (k : Nat → ClassId) (a : Nat → Nat) (xLen : Nat → Int32) (xHits : Nat → Int32) (xUns : Nat → Int32) (xItems : Nat → Nat → Int32) (xLost : Nat → Int32) (xKind : Nat → Int32) (xSize : Nat → Int32) (xLet : Nat → Int32) (xRel : Nat → Int32) (xLim : Nat → Int32) (xOpen : Nat → Int32) (xMeas : Nat → Int32) (xSL : Int32) (xST : Int32) (xSD : Int32) (xSK : Int32) (xTal : Nat → Nat → Int32) (xKn : Nat → Int32) (xFT : Nat → Int32) (xFA : Int32) (xFE : Int32) (xOdds : Int32) (xPat : Int32) (xFind : Int32)  {o : (Nat → Int32)} (h : f_X8_forget N xKn = some o) : mQv l yX8_forget wo_X8_forget 0 D k [.ref (a 9)] (wX k a xLen xHits xUns xItems xLost xKind xSize xLet xRel xLim xOpen xMeas xSL xST xSD xSK xTal xKn xFT xFA xFE xOdds xPat xFind) (wX k a xLen xHits xUns xItems xLost xKind xSize xLet xRel xLim xOpen xMeas xSL xST xSD xSK xTal o xFT xFA xFE xOdds xPat xFind) := by
  intro sz
  refine Met.ofW (cc := cX8_forget) (maxL := 2) (ret := none) (by decide) rfl ?_
  intro p e s m args below meth c s₁ B hml hv
  obtain ⟨rfl, hsz, hP, hK, hD0⟩ := hv
  subst hsz
  rw [lg_entry_eq]
  exact core_X8_forget D k a xLen xHits xUns xItems xLost xKind xSize xLet xRel xLim xOpen xMeas xSL xST xSD xSK xTal xKn xFT xFA xFE xOdds xPat xFind  B.exec B.bytes hml B.returns (atoms_spec (ws := wo_X8_forget) B.pre) (findClass_of_methodNamed B.named) B.notSynchronized (lv_entry [.ref (a 9)] (n := 2) (Nat.le_of_ble_eq_true rfl)) hK hP hD0.self (fun q h => Or.inr h) h
theorem qd_X8_forget : yX8_forget.cls = RX8 ∧ yX8_forget.cls ≠ "java/lang/invoke/MethodHandle" ∧ yX8_forget.cls ≠ "java/lang/invoke/VarHandle" ∧ (parseMethodDescriptor yX8_forget.desc).map (fun d => d.parameters.length) = some 0 := by decide +kernel
abbrev wo_X8_learn : List Cond := .code yX8_learn cX8_learn 6 none :: wsL_law
set_option maxHeartbeats 4000000 in
set_option maxRecDepth 100000 in
theorem core_X8_learn {N : Nat} (D : va_G) (k : Nat → ClassId) (a : Nat → Nat) (xLen : Nat → Int32) (xHits : Nat → Int32) (xUns : Nat → Int32) (xItems : Nat → Nat → Int32) (xLost : Nat → Int32) (xKind : Nat → Int32) (xSize : Nat → Int32) (xLet : Nat → Int32) (xRel : Nat → Int32) (xLim : Nat → Int32) (xOpen : Nat → Int32) (xMeas : Nat → Int32) (xSL : Int32) (xST : Int32) (xSD : Int32) (xSK : Int32) (xTal : Nat → Nat → Int32) (xKn : Nat → Int32) (xFT : Nat → Int32) (xFA : Int32) (xFE : Int32) (xOdds : Int32) (xPat : Int32) (xFind : Int32) (x1 : Int32) (x3 : Int32) {p : Program} {l : Launch} {e : Env} {s : State} {m : MethodId} {args : Array Value} {below : List Frame} {meth : Method} {c : Code} {ls : Array Slot} (hx : p.tables.exec = Jvm.exec) (hb : c.code = cX8_learn) (hml : c.maxLocals = 6) (hr : meth.sig.returnType = none) (hts : ∀ w ∈ wo_X8_learn, w.before args s = true) (hown : s.vm.findClass RX8 = some m.cls) (hlocks : meth.locks = false) (hl : lv_has ls 6 [(0, .ref (a 9)), (1, .int x1), (2, .ref (a 3)), (3, .int x3)]) (hK : va_K D vwCl (xTys k) s) (hP : va_P D vwCl (wX k a xLen xHits xUns xItems xLost xKind xSize xLet xRel xLim xOpen xMeas xSL xST xSD xSK xTal xKn xFT xFA xFE xOdds xPat xFind) s.heap) {A : Nat → Prop} (hD : va_D A (wX k a xLen xHits xUns xItems xLost xKind xSize xLet xRel xLim xOpen xMeas xSL xST xSD xSK xTal xKn xFT xFA xFE xOdds xPat xFind)) (hA : ∀ q : Nat, s.heap.size ≤ q → A q) {o : (Nat → Int32) × (Nat → Nat → Int32) × (Nat → Int32)} (h : f_X8_learn N x1 x3 xLet xRel xLim xOpen xMeas xST xTal xKn = some o) : gQv p l e wo_X8_learn 4 s m args below meth c D k A  (wX k a xLen xHits xUns xItems xLost xKind xSize xLet xRel xLim xOpen o.1 xSL xST xSD xSK o.2.1 o.2.2 xFT xFA xFE xOdds xPat xFind) s.heap [] (F0 m 0 ls []) := by
  have hi8 := (fun w h => List.mem_cons_of_mem _ (inlX8 w h) : ∀ w ∈ wsX80, w ∈ wo_X8_learn)
  have kf16 := hts _ (List.mem_cons_of_mem _ wm_62)
  have kf11 := hts _ (List.mem_cons_of_mem _ wm_61)
  unfold f_X8_learn at h
  have hS : va_S A s.heap s.heap [] := va_S.rf
  have L43 : ∀ (n43 : Nat) (x1 : Int32) (x3 : Int32) (e4 : Nat) (x5 : Int32) (xMeas : Nat → Int32) (xTal : Nat → Nat → Int32) (xKn : Nat → Int32) (ls : Array Slot) (H : Heap) (locs : List Loc) (he4 : e4 < 16) (hl : lv_has ls 6 [(0, .ref (a 9)), (1, .int x1), (2, .ref (a 3)), (3, .int x3), (4, .ref (a (26 + e4))), (5, .int x5)]) (hP : va_P D vwCl (wX k a xLen xHits xUns xItems xLost xKind xSize xLet xRel xLim xOpen xMeas xSL xST xSD xSK xTal xKn xFT xFA xFE xOdds xPat xFind) H) (hD : va_D A (wX k a xLen xHits xUns xItems xLost xKind xSize xLet xRel xLim xOpen xMeas xSL xST xSD xSK xTal xKn xFT xFA xFE xOdds xPat xFind)) (hS : va_S A s.heap H locs) (h : f_X8_learn_43 N n43 x1 x3 e4 x5 xLet xRel xLim xOpen xMeas xST xTal xKn = some o), gQv p l e wo_X8_learn 4 s m args below meth c D k A  (wX k a xLen xHits xUns xItems xLost xKind xSize xLet xRel xLim xOpen o.1 xSL xST xSD xSK o.2.1 o.2.2 xFT xFA xFE xOdds xPat xFind) H locs (F0 m 43 ls []) := by
    intro n43
    induction n43 with
    | zero => intro x1 x3 e4 x5 xMeas xTal xKn ls H locs he4 hl hP hD hS h; cases (show (none : Option ((Nat → Int32) × (Nat → Nat → Int32) × (Nat → Int32))) = some o from h)
    | succ n43 ih43 =>
      have J74 : ∀ (x1 : Int32) (x3 : Int32) (e4 : Nat) (x5 : Int32) (xMeas : Nat → Int32) (xTal : Nat → Nat → Int32) (xKn : Nat → Int32) (ls : Array Slot) (H : Heap) (locs : List Loc) (he4 : e4 < 16) (hl : lv_has ls 6 [(0, .ref (a 9)), (1, .int x1), (2, .ref (a 3)), (3, .int x3), (4, .ref (a (26 + e4))), (5, .int x5)]) (hP : va_P D vwCl (wX k a xLen xHits xUns xItems xLost xKind xSize xLet xRel xLim xOpen xMeas xSL xST xSD xSK xTal xKn xFT xFA xFE xOdds xPat xFind) H) (hD : va_D A (wX k a xLen xHits xUns xItems xLost xKind xSize xLet xRel xLim xOpen xMeas xSL xST xSD xSK xTal xKn xFT xFA xFE xOdds xPat xFind)) (hS : va_S A s.heap H locs) (h : f_X8_learn_74 N (fun y0 y1 y2 y3 y4 y5 y6 y7 y8 y9 y10 y11 => f_X8_learn_43 N n43 y0 y1 y2 y3 y4 y5 y6 y7 y8 y9 y10 y11) x1 x3 e4 x5 xLet xRel xLim xOpen xMeas xST xTal xKn = some o), gQv p l e wo_X8_learn 4 s m args below meth c D k A  (wX k a xLen xHits xUns xItems xLost xKind xSize xLet xRel xLim xOpen o.1 xSL xST xSD xSK o.2.1 o.2.2 xFT xFA xFE xOdds xPat xFind) H locs (F0 m 74 ls []) := by
        intro x1 x3 e4 x5 xMeas xTal xKn ls H locs he4 hl hP hD hS h
        unfold f_X8_learn_74 at h
        refine lv_iinc (v := (x5 + 1)) (lv' := [(5, .int (x5 + 1)), (0, .ref (a 9)), (1, .int x1), (2, .ref (a 3)), (3, .int x3), (4, .ref (a (26 + e4)))]) hx hb dX8_learn_74 hl (k := 5) rfl rfl (by decide) rfl (fun ls hl => ?_)
        refine lv_goto (tgt := 43) hx hb dX8_learn_77 (by decide) ?_
        exact ih43 x1 x3 e4 (x5 + 1) xMeas xTal xKn ls H locs he4 (lv_sub hl [1, 2, 3, 4, 5, 0] rfl) hP hD hS h
      intro x1 x3 e4 x5 xMeas xTal xKn ls H locs he4 hl hP hD hS h
      rw [f_X8_learn_43] at h
      refine lv_iload hx hb dX8_learn_43 (lv_at hl 5 rfl) ?_
      refine lv_iconst (v := 1) hx hb dX8_learn_45 (by decide) ?_
      refine lv_iload_n hx hb dX8_learn_46 rfl (lv_at hl 1 rfl) ?_
      refine lv_ishl hx hb dX8_learn_47 ?_
      refine lv_icmp_ge (tgt := 80) hx hb dX8_learn_48 (by decide) (fun c1 => ?_) (fun c1 => ?_)
      · replace h := (if_pos c1).symm.trans h
        refine lv_aload_n hx hb dX8_learn_80 rfl (lv_at hl 0 rfl) ?_
        refine va_get (D := D) (ci := 4) (v := .ref (a 11)) (C := RX8) (T := TX8) (N := 2) hx hb hts hi8 hown hK hP (9) (rfl) rfl 1 (by decide) kf16 (fun _ h9 => h9) rfl dX8_learn_81 ?_
        refine lv_iload_n hx hb dX8_learn_84 rfl (lv_at hl 1 rfl) ?_
        refine lv_iconst (v := 1) hx hb dX8_learn_85 (by decide) ?_
        obtain ⟨g2, h⟩ := gIn_some h
        refine va_zast hx hb hK hP hD hS (11) 1 (rfl) rfl g2 dX8_learn_86 (fun H locs hP hD hS => ?_)
        have hP : va_P D vwCl (wX k a xLen xHits xUns xItems xLost xKind xSize xLet xRel xLim xOpen xMeas xSL xST xSD xSK xTal (upd xKn x1.toNatClampNeg (vp_nar .boolean 1)) xFT xFA xFE xOdds xPat xFind) H := hP
        have hD : va_D A (wX k a xLen xHits xUns xItems xLost xKind xSize xLet xRel xLim xOpen xMeas xSL xST xSD xSK xTal (upd xKn x1.toNatClampNeg (vp_nar .boolean 1)) xFT xFA xFE xOdds xPat xFind) := hD
        have he := Option.some.inj h
        exact W.vret hx hb hr (fun t ht hW => ⟨⟨wX k a xLen xHits xUns xItems xLost xKind xSize xLet xRel xLim xOpen xMeas xSL xST xSD xSK xTal (upd xKn x1.toNatClampNeg (vp_nar .boolean 1)) xFT xFA xFE xOdds xPat xFind, rfl, (congrArg (fun z => wX k a xLen xHits xUns xItems xLost xKind xSize xLet xRel xLim xOpen z.1 xSL xST xSD xSK z.2.1 z.2.2 xFT xFA xFE xOdds xPat xFind) he), by rw [ht]; exact hP, va_K.moved hW.alike hK, hD⟩, hS.F ht⟩) hS.2.2 dX8_learn_87
      · replace h := (if_neg c1).symm.trans h
        refine lv_aload_n hx hb dX8_learn_51 rfl (lv_at hl 2 rfl) ?_
        refine lv_iload_n hx hb dX8_learn_52 rfl (lv_at hl 1 rfl) ?_
        refine lv_iload hx hb dX8_learn_53 (lv_at hl 5 rfl) ?_
        refine lv_iload_n hx hb dX8_learn_55 rfl (lv_at hl 3 rfl) ?_
        obtain ⟨o3, eq4, h⟩ := bnd_some h
        refine kQiV (rest := []) (q0 := 3) ⟨hx, hb, hml, hown, hts⟩ (c_X6_hold l D k a xLen xHits xUns xItems xLost xKind xSize xLet xRel xLim xOpen xMeas xSL xST xSD xSK xTal xKn xFT xFA xFE xOdds xPat xFind x1 x5 x3 eq4) (cwV 3 hts (gAV wm_471 wm_443 wm_444 wm_22 wm_445) rfl rfl rfl qd_X6_hold ⟨Nat.le_of_ble_eq_true rfl, Nat.le_of_ble_eq_true rfl⟩) hK hP hD hS hA (rfl) rfl rfl hl.1 rfl (Nat.le_of_ble_eq_true rfl) dX8_learn_56 ⟨Nat.zero_le _, Nat.zero_le _⟩ (fun H locs hP hD hS => ?_)
        have hP : va_P D vwCl (wX k a xLen xHits xUns xItems xLost xKind xSize xLet xRel xLim xOpen o3.2 xSL xST xSD xSK xTal xKn xFT xFA xFE xOdds xPat xFind) H := hP
        have hD : va_D A (wX k a xLen xHits xUns xItems xLost xKind xSize xLet xRel xLim xOpen o3.2 xSL xST xSD xSK xTal xKn xFT xFA xFE xOdds xPat xFind) := hD
        refine lv_if_eq (tgt := 74) hx hb dX8_learn_59 (by decide) (fun c5 => ?_) (fun c5 => ?_)
        · replace h := (if_pos c5).symm.trans h
          exact J74 x1 x3 e4 x5 o3.2 xTal xKn ls H locs he4 (lv_sub hl [0, 1, 2, 3, 4, 5] rfl) hP hD hS h
        · replace h := (if_neg c5).symm.trans h
          refine lv_aload hx hb dX8_learn_62 (lv_at hl 4 rfl) ?_
          refine lv_iload hx hb dX8_learn_64 (lv_at hl 5 rfl) ?_
          obtain ⟨o6, eq7, h⟩ := bnd_some h
          refine kPi (rest := [.ref (a (26 + e4))]) ⟨hx, hb, hml, hown, hts⟩ (c_J6_bitCount_0f7a4 l x5 eq7) (va_cwS 1 hts (gAS wm_472 wm_210 wm_211 wm_212) rfl rfl rfl qd_J6_bitCount_0f7a4 ⟨Nat.le_of_ble_eq_true rfl, Nat.le_of_ble_eq_true rfl⟩) rfl hl.1 rfl (Nat.le_of_ble_eq_true rfl) dX8_learn_66 ⟨Nat.zero_le _, Nat.zero_le _⟩ ?_
          refine lv_dup2_11 hx hb dX8_learn_69 rfl rfl ?_
          obtain ⟨g8, h⟩ := gIn_some h
          refine va_iald hx hb hK hP ((26 + e4)) 0 (wX_tal he4) rfl g8 dX8_learn_70 ?_
          refine lv_iconst (v := 1) hx hb dX8_learn_71 (by decide) ?_
          refine lv_iadd hx hb dX8_learn_72 ?_
          refine va_iast hx hb hK hP hD hS ((26 + e4)) 0 (wX_tal he4) rfl g8 dX8_learn_73 (fun H locs hP hD hS => ?_)
          have hP : va_P D vwCl (wX k a xLen xHits xUns xItems xLost xKind xSize xLet xRel xLim xOpen o3.2 xSL xST xSD xSK (va_up xTal e4 (upd (xTal e4) o6.toNatClampNeg ((xTal e4 o6.toNatClampNeg) + 1))) xKn xFT xFA xFE xOdds xPat xFind) H := by rw [← wX_s_xTal he4]; exact hP
          have hD : va_D A (wX k a xLen xHits xUns xItems xLost xKind xSize xLet xRel xLim xOpen o3.2 xSL xST xSD xSK (va_up xTal e4 (upd (xTal e4) o6.toNatClampNeg ((xTal e4 o6.toNatClampNeg) + 1))) xKn xFT xFA xFE xOdds xPat xFind) := by rw [← wX_s_xTal he4]; exact hD
          exact J74 x1 x3 e4 x5 o3.2 (va_up xTal e4 (upd (xTal e4) o6.toNatClampNeg ((xTal e4 o6.toNatClampNeg) + 1))) xKn ls H locs he4 (lv_sub hl [0, 1, 2, 3, 4, 5] rfl) hP hD hS h
  have L21 : ∀ (n21 : Nat) (x1 : Int32) (x3 : Int32) (e4 : Nat) (x5 : Int32) (xMeas : Nat → Int32) (xTal : Nat → Nat → Int32) (xKn : Nat → Int32) (ls : Array Slot) (H : Heap) (locs : List Loc) (he4 : e4 < 16) (hl : lv_has ls 6 [(0, .ref (a 9)), (1, .int x1), (2, .ref (a 3)), (3, .int x3), (4, .ref (a (26 + e4))), (5, .int x5)]) (hP : va_P D vwCl (wX k a xLen xHits xUns xItems xLost xKind xSize xLet xRel xLim xOpen xMeas xSL xST xSD xSK xTal xKn xFT xFA xFE xOdds xPat xFind) H) (hD : va_D A (wX k a xLen xHits xUns xItems xLost xKind xSize xLet xRel xLim xOpen xMeas xSL xST xSD xSK xTal xKn xFT xFA xFE xOdds xPat xFind)) (hS : va_S A s.heap H locs) (h : f_X8_learn_21 N n21 x1 x3 e4 x5 xLet xRel xLim xOpen xMeas xST xTal xKn = some o), gQv p l e wo_X8_learn 4 s m args below meth c D k A  (wX k a xLen xHits xUns xItems xLost xKind xSize xLet xRel xLim xOpen o.1 xSL xST xSD xSK o.2.1 o.2.2 xFT xFA xFE xOdds xPat xFind) H locs (F0 m 21 ls []) := by
    intro n21
    induction n21 with
    | zero => intro x1 x3 e4 x5 xMeas xTal xKn ls H locs he4 hl hP hD hS h; cases (show (none : Option ((Nat → Int32) × (Nat → Nat → Int32) × (Nat → Int32))) = some o from h)
    | succ n21 ih21 =>
      intro x1 x3 e4 x5 xMeas xTal xKn ls H locs he4 hl hP hD hS h
      rw [f_X8_learn_21] at h
      refine lv_iload hx hb dX8_learn_21 (lv_at hl 5 rfl) ?_
      refine lv_bipush (v := 15) hx hb dX8_learn_23 (by decide) ?_
      refine lv_icmp_gt (tgt := 40) hx hb dX8_learn_25 (by decide) (fun c9 => ?_) (fun c9 => ?_)
      · replace h := (if_pos c9).symm.trans h
        refine lv_iconst (v := 0) hx hb dX8_learn_40 (by decide) ?_
        refine lv_istore (lv' := [(5, .int 0), (0, .ref (a 9)), (1, .int x1), (2, .ref (a 3)), (3, .int x3), (4, .ref (a (26 + e4)))]) hx hb dX8_learn_41 hl (by decide) rfl (fun ls hl => ?_)
        exact L43 N x1 x3 e4 0 xMeas xTal xKn ls H locs he4 (lv_sub hl [1, 2, 3, 4, 5, 0] rfl) hP hD hS h
      · replace h := (if_neg c9).symm.trans h
        refine lv_aload hx hb dX8_learn_28 (lv_at hl 4 rfl) ?_
        refine lv_iload hx hb dX8_learn_30 (lv_at hl 5 rfl) ?_
        refine lv_iconst (v := 0) hx hb dX8_learn_32 (by decide) ?_
        obtain ⟨g10, h⟩ := gIn_some h
        refine va_iast hx hb hK hP hD hS ((26 + e4)) 0 (wX_tal he4) rfl g10 dX8_learn_33 (fun H locs hP hD hS => ?_)
        have hP : va_P D vwCl (wX k a xLen xHits xUns xItems xLost xKind xSize xLet xRel xLim xOpen xMeas xSL xST xSD xSK (va_up xTal e4 (upd (xTal e4) x5.toNatClampNeg 0)) xKn xFT xFA xFE xOdds xPat xFind) H := by rw [← wX_s_xTal he4]; exact hP
        have hD : va_D A (wX k a xLen xHits xUns xItems xLost xKind xSize xLet xRel xLim xOpen xMeas xSL xST xSD xSK (va_up xTal e4 (upd (xTal e4) x5.toNatClampNeg 0)) xKn xFT xFA xFE xOdds xPat xFind) := by rw [← wX_s_xTal he4]; exact hD
        refine lv_iinc (v := (x5 + 1)) (lv' := [(5, .int (x5 + 1)), (0, .ref (a 9)), (1, .int x1), (2, .ref (a 3)), (3, .int x3), (4, .ref (a (26 + e4)))]) hx hb dX8_learn_34 hl (k := 5) rfl rfl (by decide) rfl (fun ls hl => ?_)
        refine lv_goto (tgt := 21) hx hb dX8_learn_37 (by decide) ?_
        exact ih21 x1 x3 e4 (x5 + 1) xMeas (va_up xTal e4 (upd (xTal e4) x5.toNatClampNeg 0)) xKn ls H locs he4 (lv_sub hl [1, 2, 3, 4, 5, 0] rfl) hP hD hS h
  obtain ⟨H, hH⟩ : ∃ H : Heap, H = s.heap := ⟨_, rfl⟩
  obtain ⟨locs, hlc⟩ : ∃ locs : List Loc, locs = [] := ⟨_, rfl⟩
  have hS : va_S A s.heap H locs := by rw [hH, hlc]; exact va_S.rf
  have hP : va_P D vwCl (wX k a xLen xHits xUns xItems xLost xKind xSize xLet xRel xLim xOpen xMeas xSL xST xSD xSK xTal xKn xFT xFA xFE xOdds xPat xFind) H := by rw [hH]; exact hP
  suffices hGo : gQv p l e wo_X8_learn 4 s m args below meth c D k A  (wX k a xLen xHits xUns xItems xLost xKind xSize xLet xRel xLim xOpen o.1 xSL xST xSD xSK o.2.1 o.2.2 xFT xFA xFE xOdds xPat xFind) H locs (F0 m 0 ls []) by rw [hH, hlc] at hGo; exact hGo
  refine lv_aload_n hx hb dX8_learn_0 rfl (lv_at hl 0 rfl) ?_
  refine va_get (D := D) (ci := 4) (v := .ref (a 11)) (C := RX8) (T := TX8) (N := 2) hx hb hts hi8 hown hK hP (9) (rfl) rfl 1 (by decide) kf16 (fun _ h9 => h9) rfl dX8_learn_1 ?_
  refine lv_iload_n hx hb dX8_learn_4 rfl (lv_at hl 1 rfl) ?_
  obtain ⟨g11, h⟩ := gIn_some h
  refine va_zald hx hb hK hP (11) 1 (rfl) rfl g11 dX8_learn_5 ?_
  refine lv_if_eq (tgt := 10) hx hb dX8_learn_6 (by decide) (fun c12 => ?_) (fun c12 => ?_)
  · replace h := (if_pos c12).symm.trans h
    refine lv_aload_n hx hb dX8_learn_10 rfl (lv_at hl 0 rfl) ?_
    refine va_get (D := D) (ci := 4) (v := .ref (a 10)) (C := RX8) (T := TX8) (N := 2) hx hb hts hi8 hown hK hP (9) (rfl) rfl 0 (by decide) kf11 (fun _ h9 => h9) rfl dX8_learn_11 ?_
    refine lv_iload_n hx hb dX8_learn_14 rfl (lv_at hl 1 rfl) ?_
    refine xa_aldA hx hb hK hP (10) 4 rfl rfl g11 dX8_learn_15 ?_
    refine W.eq (g2 := F0 m 16 ls [.ref (a (26 + x1.toNatClampNeg))]) rfl ?_
    refine lv_astore (lv' := [(4, .ref (a (26 + x1.toNatClampNeg))), (0, .ref (a 9)), (1, .int x1), (2, .ref (a 3)), (3, .int x3)]) hx hb dX8_learn_16 hl (by decide) rfl (fun ls hl => ?_)
    refine lv_iconst (v := 0) hx hb dX8_learn_18 (by decide) ?_
    refine lv_istore (lv' := [(5, .int 0), (4, .ref (a (26 + x1.toNatClampNeg))), (0, .ref (a 9)), (1, .int x1), (2, .ref (a 3)), (3, .int x3)]) hx hb dX8_learn_19 hl (by decide) rfl (fun ls hl => ?_)
    exact L21 N x1 x3 x1.toNatClampNeg 0 xMeas xTal xKn ls H locs (vp_in_lt g11) (lv_sub hl [2, 3, 4, 5, 1, 0] rfl) hP hD hS h
  · replace h := (if_neg c12).symm.trans h
    have he := Option.some.inj h
    exact W.vret hx hb hr (fun t ht hW => ⟨⟨wX k a xLen xHits xUns xItems xLost xKind xSize xLet xRel xLim xOpen xMeas xSL xST xSD xSK xTal xKn xFT xFA xFE xOdds xPat xFind, rfl, (congrArg (fun z => wX k a xLen xHits xUns xItems xLost xKind xSize xLet xRel xLim xOpen z.1 xSL xST xSD xSK z.2.1 z.2.2 xFT xFA xFE xOdds xPat xFind) he), by rw [ht]; exact hP, va_K.moved hW.alike hK, hD⟩, hS.F ht⟩) hS.2.2 dX8_learn_9
set_option maxHeartbeats 4000000 in
set_option maxRecDepth 100000 in
theorem c_X8_learn {N : Nat} (l : Launch) (D : va_G) (k : Nat → ClassId) (a : Nat → Nat) (xLen : Nat → Int32) (xHits : Nat → Int32) (xUns : Nat → Int32) (xItems : Nat → Nat → Int32) (xLost : Nat → Int32) (xKind : Nat → Int32) (xSize : Nat → Int32) (xLet : Nat → Int32) (xRel : Nat → Int32) (xLim : Nat → Int32) (xOpen : Nat → Int32) (xMeas : Nat → Int32) (xSL : Int32) (xST : Int32) (xSD : Int32) (xSK : Int32) (xTal : Nat → Nat → Int32) (xKn : Nat → Int32) (xFT : Nat → Int32) (xFA : Int32) (xFE : Int32) (xOdds : Int32) (xPat : Int32) (xFind : Int32) (x1 : Int32) (x3 : Int32) {o : (Nat → Int32) × (Nat → Nat → Int32) × (Nat → Int32)} (h : f_X8_learn N x1 x3 xLet xRel xLim xOpen xMeas xST xTal xKn = some o) : mQv l yX8_learn wo_X8_learn 4 D k [.ref (a 9), .int x1, .ref (a 3), .int x3] (wX k a xLen xHits xUns xItems xLost xKind xSize xLet xRel xLim xOpen xMeas xSL xST xSD xSK xTal xKn xFT xFA xFE xOdds xPat xFind) (wX k a xLen xHits xUns xItems xLost xKind xSize xLet xRel xLim xOpen o.1 xSL xST xSD xSK o.2.1 o.2.2 xFT xFA xFE xOdds xPat xFind) := by
  intro sz
  refine Met.ofW (cc := cX8_learn) (maxL := 6) (ret := none) (by decide) rfl ?_
  intro p e s m args below meth c s₁ B hml hv
  obtain ⟨rfl, hsz, hP, hK, hD0⟩ := hv
  subst hsz
  rw [lg_entry_eq]
  exact core_X8_learn D k a xLen xHits xUns xItems xLost xKind xSize xLet xRel xLim xOpen xMeas xSL xST xSD xSK xTal xKn xFT xFA xFE xOdds xPat xFind x1 x3 B.exec B.bytes hml B.returns (atoms_spec (ws := wo_X8_learn) B.pre) (findClass_of_methodNamed B.named) B.notSynchronized (lv_entry [.ref (a 9), .int x1, .ref (a 3), .int x3] (n := 6) (Nat.le_of_ble_eq_true rfl)) hK hP hD0.self (fun q h => Or.inr h) h
theorem qd_X8_learn : yX8_learn.cls = RX8 ∧ yX8_learn.cls ≠ "java/lang/invoke/MethodHandle" ∧ yX8_learn.cls ≠ "java/lang/invoke/VarHandle" ∧ (parseMethodDescriptor yX8_learn.desc).map (fun d => d.parameters.length) = some 3 := by decide +kernel
