abbrev wo_X10_clear : List Cond := .code yX10_clear cX10_clear 3 (some .int) :: wsL_law
set_option maxHeartbeats 4000000 in
set_option maxRecDepth 100000 in
theorem core_X10_clear (D : va_G) (k : Nat → ClassId) (a : Nat → Nat) (xLen : Nat → Int32) (xHits : Nat → Int32) (xUns : Nat → Int32) (xItems : Nat → Nat → Int32) (xLost : Nat → Int32) (xKind : Nat → Int32) (xSize : Nat → Int32) (xLet : Nat → Int32) (xRel : Nat → Int32) (xLim : Nat → Int32) (xOpen : Nat → Int32) (xMeas : Nat → Int32) (xSL : Int32) (xST : Int32) (xSD : Int32) (xSK : Int32) (xTal : Nat → Nat → Int32) (xKn : Nat → Int32) (xFT : Nat → Int32) (xFA : Int32) (xFE : Int32) (xOdds : Int32) (xPat : Int32) (xFind : Int32) (x1 : Int32) {p : Program} {l : Launch} {e : Env} {s : State} {m : MethodId} {args : Array Value} {below : List Frame} {meth : Method} {c : Code} {ls : Array Slot} (hx : p.tables.exec = Jvm.exec) (hb : c.code = cX10_clear) (hml : c.maxLocals = 3) (hr : meth.sig.returnType = some .int) (hts : ∀ w ∈ wo_X10_clear, w.before args s = true) (hown : s.vm.findClass RX10 = some m.cls) (hlocks : meth.locks = false) (hl : lv_has ls 3 [(0, .ref (a 0)), (1, .int x1)]) (hK : va_K D vwCl (xTys k) s) (hP : va_P D vwCl (wX k a xLen xHits xUns xItems xLost xKind xSize xLet xRel xLim xOpen xMeas xSL xST xSD xSK xTal xKn xFT xFA xFE xOdds xPat xFind) s.heap) {A : Nat → Prop} (hD : va_D A (wX k a xLen xHits xUns xItems xLost xKind xSize xLet xRel xLim xOpen xMeas xSL xST xSD xSK xTal xKn xFT xFA xFE xOdds xPat xFind)) (hA : ∀ q : Nat, s.heap.size ≤ q → A q) {o : Int32 × (Nat → Int32) × (Nat → Int32) × (Nat → Int32)} (h : f_X10_clear x1 xLen xHits xUns = some o) : gQi p l e wo_X10_clear 1 s m args below meth c D k A o.1 (wX k a o.2.1 o.2.2.1 o.2.2.2 xItems xLost xKind xSize xLet xRel xLim xOpen xMeas xSL xST xSD xSK xTal xKn xFT xFA xFE xOdds xPat xFind) s.heap [] (F0 m 0 ls []) := by
  have hi10 := (fun w h => List.mem_cons_of_mem _ (inlX10 w h) : ∀ w ∈ wsX100, w ∈ wo_X10_clear)
  have kf11 := hts _ (List.mem_cons_of_mem _ wm_13)
  have hi5 := (fun w h => List.mem_cons_of_mem _ (inlX5 w h) : ∀ w ∈ wsX50, w ∈ wo_X10_clear)
  have kf69 := hts _ (List.mem_cons_of_mem _ wm_91)
  unfold f_X10_clear at h
  have hS : va_S A s.heap s.heap [] := va_S.rf
  obtain ⟨H, hH⟩ : ∃ H : Heap, H = s.heap := ⟨_, rfl⟩
  obtain ⟨locs, hlc⟩ : ∃ locs : List Loc, locs = [] := ⟨_, rfl⟩
  have hS : va_S A s.heap H locs := by rw [hH, hlc]; exact va_S.rf
  have hP : va_P D vwCl (wX k a xLen xHits xUns xItems xLost xKind xSize xLet xRel xLim xOpen xMeas xSL xST xSD xSK xTal xKn xFT xFA xFE xOdds xPat xFind) H := by rw [hH]; exact hP
  suffices hGo : gQi p l e wo_X10_clear 1 s m args below meth c D k A o.1 (wX k a o.2.1 o.2.2.1 o.2.2.2 xItems xLost xKind xSize xLet xRel xLim xOpen xMeas xSL xST xSD xSK xTal xKn xFT xFA xFE xOdds xPat xFind) H locs (F0 m 0 ls []) by rw [hH, hlc] at hGo; exact hGo
  refine lv_iload_n hx hb dX10_clear_0 rfl (lv_at hl 1 rfl) ?_
  obtain ⟨o1, eq2, h⟩ := bnd_some h
  refine kPi (rest := []) ⟨hx, hb, hml, hown, hts⟩ (c_X10_isRow l x1 eq2) (va_cwS 1 hts (gAS wm_92 wm_93 wm_2 wm_94) rfl rfl rfl qd_X10_isRow ⟨Nat.le_of_ble_eq_true rfl, Nat.le_of_ble_eq_true rfl⟩) rfl hl.1 rfl (Nat.le_of_ble_eq_true rfl) dX10_clear_1 ⟨Nat.zero_le _, Nat.zero_le _⟩ ?_
  refine lv_if_ne (tgt := 10) hx hb dX10_clear_4 (by decide) (fun c3 => ?_) (fun c3 => ?_)
  · replace h := (if_neg c3).symm.trans h
    refine lv_aload_n hx hb dX10_clear_10 rfl (lv_at hl 0 rfl) ?_
    refine va_get (D := D) (ci := 5) (v := .ref (a 1)) (C := RX10) (T := TX10) (N := 8) hx hb hts hi10 hown hK hP (0) (rfl) rfl 0 (by decide) kf11 (fun _ h9 => h9) rfl dX10_clear_11 ?_
    refine lv_iload_n hx hb dX10_clear_14 rfl (lv_at hl 1 rfl) ?_
    obtain ⟨g4, h⟩ := gIn_some h
    refine va_aldq hx hb hK hP (1) 2 rfl rfl g4 dX10_clear_15 ?_
    refine W.eq (g2 := F0 m 16 ls [.ref (a (14 + x1.toNatClampNeg))]) rfl ?_
    refine va_get (D := D) (ci := 1) (v := .int (xLen x1.toNatClampNeg)) (C := RX5) (T := TX5) (N := 3) hx hb hts hi5 hown hK hP ((14 + x1.toNatClampNeg)) (wX_row (vp_in_lt g4)) rfl 0 (by decide) kf69 (fun _ h9 => h9) rfl dX10_clear_16 ?_
    refine lv_istore_n (lv' := [(2, .int (xLen x1.toNatClampNeg)), (0, .ref (a 0)), (1, .int x1)]) hx hb dX10_clear_19 rfl hl (by decide) rfl (fun ls hl => ?_)
    refine lv_aload_n hx hb dX10_clear_20 rfl (lv_at hl 1 rfl) ?_
    refine va_get (D := D) (ci := 5) (v := .ref (a 1)) (C := RX10) (T := TX10) (N := 8) hx hb hts hi10 hown hK hP (0) (rfl) rfl 0 (by decide) kf11 (fun _ h9 => h9) rfl dX10_clear_21 ?_
    refine lv_iload_n hx hb dX10_clear_24 rfl (lv_at hl 2 rfl) ?_
    refine va_aldq hx hb hK hP (1) 2 rfl rfl g4 dX10_clear_25 ?_
    refine W.eq (g2 := F0 m 26 ls [.ref (a (14 + x1.toNatClampNeg))]) rfl ?_
    obtain ⟨o5, eq6, h⟩ := bnd_some h
    refine kQvV (rest := []) (q0 := (14 + x1.toNatClampNeg)) ⟨hx, hb, hml, hown, hts⟩ (c_X5_empty l D k a xLen xHits xUns xItems xLost xKind xSize xLet xRel xLim xOpen xMeas xSL xST xSD xSK xTal xKn xFT xFA xFE xOdds xPat xFind x1.toNatClampNeg (vp_in_lt g4) eq6) (cwV 0 hts (gAV wm_153 wm_154 wm_155 wm_15 wm_156) rfl rfl rfl qd_X5_empty ⟨Nat.le_of_ble_eq_true rfl, Nat.le_of_ble_eq_true rfl⟩) hK hP hD hS hA (wX_row (vp_in_lt g4)) rfl rfl hl.1 rfl (Nat.le_of_ble_eq_true rfl) dX10_clear_26 ⟨Nat.zero_le _, Nat.zero_le _⟩ (fun H locs hP hD hS => ?_)
    have hP : va_P D vwCl (wX k a o5.1 o5.2.1 o5.2.2 xItems xLost xKind xSize xLet xRel xLim xOpen xMeas xSL xST xSD xSK xTal xKn xFT xFA xFE xOdds xPat xFind) H := hP
    have hD : va_D A (wX k a o5.1 o5.2.1 o5.2.2 xItems xLost xKind xSize xLet xRel xLim xOpen xMeas xSL xST xSD xSK xTal xKn xFT xFA xFE xOdds xPat xFind) := hD
    refine lv_iload_n hx hb dX10_clear_29 rfl (lv_at hl 0 rfl) ?_
    have he := Option.some.inj h
    exact W.iret (v := (xLen x1.toNatClampNeg)) hx hb hr (fun t ht hW => ⟨⟨(xLen x1.toNatClampNeg), wX k a o5.1 o5.2.1 o5.2.2 xItems xLost xKind xSize xLet xRel xLim xOpen xMeas xSL xST xSD xSK xTal xKn xFT xFA xFE xOdds xPat xFind, rfl, ⟨(congrArg (fun z => z.1) he), (congrArg (fun z => wX k a z.2.1 z.2.2.1 z.2.2.2 xItems xLost xKind xSize xLet xRel xLim xOpen xMeas xSL xST xSD xSK xTal xKn xFT xFA xFE xOdds xPat xFind) he)⟩, by rw [ht]; exact hP, va_K.moved hW.alike hK, hD⟩, hS.F ht⟩) hS.2.2 dX10_clear_30
  · replace h := (if_pos c3).symm.trans h
    refine lv_bipush (v := (-2)) hx hb dX10_clear_7 (by decide) ?_
    have he := Option.some.inj h
    exact W.iret (v := (-2)) hx hb hr (fun t ht hW => ⟨⟨(-2), wX k a xLen xHits xUns xItems xLost xKind xSize xLet xRel xLim xOpen xMeas xSL xST xSD xSK xTal xKn xFT xFA xFE xOdds xPat xFind, rfl, ⟨(congrArg (fun z => z.1) he), (congrArg (fun z => wX k a z.2.1 z.2.2.1 z.2.2.2 xItems xLost xKind xSize xLet xRel xLim xOpen xMeas xSL xST xSD xSK xTal xKn xFT xFA xFE xOdds xPat xFind) he)⟩, by rw [ht]; exact hP, va_K.moved hW.alike hK, hD⟩, hS.F ht⟩) hS.2.2 dX10_clear_9
set_option maxHeartbeats 4000000 in
set_option maxRecDepth 100000 in
theorem c_X10_clear (l : Launch) (D : va_G) (k : Nat → ClassId) (a : Nat → Nat) (xLen : Nat → Int32) (xHits : Nat → Int32) (xUns : Nat → Int32) (xItems : Nat → Nat → Int32) (xLost : Nat → Int32) (xKind : Nat → Int32) (xSize : Nat → Int32) (xLet : Nat → Int32) (xRel : Nat → Int32) (xLim : Nat → Int32) (xOpen : Nat → Int32) (xMeas : Nat → Int32) (xSL : Int32) (xST : Int32) (xSD : Int32) (xSK : Int32) (xTal : Nat → Nat → Int32) (xKn : Nat → Int32) (xFT : Nat → Int32) (xFA : Int32) (xFE : Int32) (xOdds : Int32) (xPat : Int32) (xFind : Int32) (x1 : Int32) {o : Int32 × (Nat → Int32) × (Nat → Int32) × (Nat → Int32)} (h : f_X10_clear x1 xLen xHits xUns = some o) : mQi l yX10_clear wo_X10_clear 1 D k [.ref (a 0), .int x1] (wX k a xLen xHits xUns xItems xLost xKind xSize xLet xRel xLim xOpen xMeas xSL xST xSD xSK xTal xKn xFT xFA xFE xOdds xPat xFind) o.1 (wX k a o.2.1 o.2.2.1 o.2.2.2 xItems xLost xKind xSize xLet xRel xLim xOpen xMeas xSL xST xSD xSK xTal xKn xFT xFA xFE xOdds xPat xFind) := by
  intro sz
  refine Met.ofW (cc := cX10_clear) (maxL := 3) (ret := some .int) (by decide) rfl ?_
  intro p e s m args below meth c s₁ B hml hv
  obtain ⟨rfl, hsz, hP, hK, hD0⟩ := hv
  subst hsz
  rw [lg_entry_eq]
  exact core_X10_clear D k a xLen xHits xUns xItems xLost xKind xSize xLet xRel xLim xOpen xMeas xSL xST xSD xSK xTal xKn xFT xFA xFE xOdds xPat xFind x1 B.exec B.bytes hml B.returns (atoms_spec (ws := wo_X10_clear) B.pre) (findClass_of_methodNamed B.named) B.notSynchronized (lv_entry [.ref (a 0), .int x1] (n := 3) (Nat.le_of_ble_eq_true rfl)) hK hP hD0.self (fun q h => Or.inr h) h
theorem qd_X10_clear : yX10_clear.cls = RX10 ∧ yX10_clear.cls ≠ "java/lang/invoke/MethodHandle" ∧ yX10_clear.cls ≠ "java/lang/invoke/VarHandle" ∧ (parseMethodDescriptor yX10_clear.desc).map (fun d => d.parameters.length) = some 1 := by decide +kernel
abbrev wo_X10_at : List Cond := .code yX10_at cX10_at 3 (some .int) :: wsL_law
set_option maxHeartbeats 4000000 in
set_option maxRecDepth 100000 in
theorem core_X10_at (D : va_G) (k : Nat → ClassId) (a : Nat → Nat) (xLen : Nat → Int32) (xHits : Nat → Int32) (xUns : Nat → Int32) (xItems : Nat → Nat → Int32) (xLost : Nat → Int32) (xKind : Nat → Int32) (xSize : Nat → Int32) (xLet : Nat → Int32) (xRel : Nat → Int32) (xLim : Nat → Int32) (xOpen : Nat → Int32) (xMeas : Nat → Int32) (xSL : Int32) (xST : Int32) (xSD : Int32) (xSK : Int32) (xTal : Nat → Nat → Int32) (xKn : Nat → Int32) (xFT : Nat → Int32) (xFA : Int32) (xFE : Int32) (xOdds : Int32) (xPat : Int32) (xFind : Int32) (x1 : Int32) (x2 : Int32) {p : Program} {l : Launch} {e : Env} {s : State} {m : MethodId} {args : Array Value} {below : List Frame} {meth : Method} {c : Code} {ls : Array Slot} (hx : p.tables.exec = Jvm.exec) (hb : c.code = cX10_at) (hml : c.maxLocals = 3) (hr : meth.sig.returnType = some .int) (hts : ∀ w ∈ wo_X10_at, w.before args s = true) (hown : s.vm.findClass RX10 = some m.cls) (hlocks : meth.locks = false) (hl : lv_has ls 3 [(0, .ref (a 0)), (1, .int x1), (2, .int x2)]) (hK : va_K D vwCl (xTys k) s) (hP : va_P D vwCl (wX k a xLen xHits xUns xItems xLost xKind xSize xLet xRel xLim xOpen xMeas xSL xST xSD xSK xTal xKn xFT xFA xFE xOdds xPat xFind) s.heap) {o : Int32} (h : f_X10_at x1 x2 xLen xHits xUns = some o) : gRi p l e wo_X10_at 1 s m args below meth c o (F0 m 0 ls []) := by
  have hi10 := (fun w h => List.mem_cons_of_mem _ (inlX10 w h) : ∀ w ∈ wsX100, w ∈ wo_X10_at)
  have kf11 := hts _ (List.mem_cons_of_mem _ wm_13)
  have hi5 := (fun w h => List.mem_cons_of_mem _ (inlX5 w h) : ∀ w ∈ wsX50, w ∈ wo_X10_at)
  have kf69 := hts _ (List.mem_cons_of_mem _ wm_91)
  unfold f_X10_at at h
  refine lv_iload_n hx hb dX10_at_0 rfl (lv_at hl 1 rfl) ?_
  obtain ⟨o1, eq2, h⟩ := bnd_some h
  refine kPi (rest := []) ⟨hx, hb, hml, hown, hts⟩ (c_X10_isRow l x1 eq2) (va_cwS 1 hts (gAS wm_92 wm_93 wm_2 wm_94) rfl rfl rfl qd_X10_isRow ⟨Nat.le_of_ble_eq_true rfl, Nat.le_of_ble_eq_true rfl⟩) rfl hl.1 rfl (Nat.le_of_ble_eq_true rfl) dX10_at_1 ⟨Nat.zero_le _, Nat.zero_le _⟩ ?_
  refine lv_if_eq (tgt := 11) hx hb dX10_at_4 (by decide) (fun c3 => ?_) (fun c3 => ?_)
  · replace h := (if_pos c3).symm.trans h
    refine lv_bipush (v := (-2)) hx hb dX10_at_11 (by decide) ?_
    exact W.iret (v := (-2)) hx hb hr (fun t ht hW => ⟨_, rfl, Option.some.inj h, ht⟩) (fun q hq => by cases hq) dX10_at_13
  · replace h := (if_neg c3).symm.trans h
    refine lv_iload_n hx hb dX10_at_7 rfl (lv_at hl 2 rfl) ?_
    refine lv_if_ge (tgt := 14) hx hb dX10_at_8 (by decide) (fun c4 => ?_) (fun c4 => ?_)
    · replace h := (if_pos c4).symm.trans h
      refine lv_iload_n hx hb dX10_at_14 rfl (lv_at hl 2 rfl) ?_
      refine lv_aload_n hx hb dX10_at_15 rfl (lv_at hl 0 rfl) ?_
      refine va_get (D := D) (ci := 5) (v := .ref (a 1)) (C := RX10) (T := TX10) (N := 8) hx hb hts hi10 hown hK hP (0) (rfl) rfl 0 (by decide) kf11 (fun _ h9 => h9) rfl dX10_at_16 ?_
      refine lv_iload_n hx hb dX10_at_19 rfl (lv_at hl 1 rfl) ?_
      obtain ⟨g5, h⟩ := gIn_some h
      refine va_aldq hx hb hK hP (1) 2 rfl rfl g5 dX10_at_20 ?_
      refine W.eq (g2 := F0 m 21 ls [.ref (a (14 + x1.toNatClampNeg)), .int x2]) rfl ?_
      refine va_get (D := D) (ci := 1) (v := .int (xLen x1.toNatClampNeg)) (C := RX5) (T := TX5) (N := 3) hx hb hts hi5 hown hK hP ((14 + x1.toNatClampNeg)) (wX_row (vp_in_lt g5)) rfl 0 (by decide) kf69 (fun _ h9 => h9) rfl dX10_at_21 ?_
      refine lv_icmp_ge (tgt := 40) hx hb dX10_at_24 (by decide) (fun c6 => ?_) (fun c6 => ?_)
      · replace h := (if_pos c6).symm.trans h
        refine lv_bipush (v := (-3)) hx hb dX10_at_40 (by decide) ?_
        exact W.iret (v := (-3)) hx hb hr (fun t ht hW => ⟨_, rfl, Option.some.inj h, ht⟩) (fun q hq => by cases hq) dX10_at_42
      · replace h := (if_neg c6).symm.trans h
        refine lv_aload_n hx hb dX10_at_27 rfl (lv_at hl 0 rfl) ?_
        refine va_get (D := D) (ci := 5) (v := .ref (a 1)) (C := RX10) (T := TX10) (N := 8) hx hb hts hi10 hown hK hP (0) (rfl) rfl 0 (by decide) kf11 (fun _ h9 => h9) rfl dX10_at_28 ?_
        refine lv_iload_n hx hb dX10_at_31 rfl (lv_at hl 1 rfl) ?_
        refine va_aldq hx hb hK hP (1) 2 rfl rfl g5 dX10_at_32 ?_
        refine W.eq (g2 := F0 m 33 ls [.ref (a (14 + x1.toNatClampNeg))]) rfl ?_
        refine lv_iload_n hx hb dX10_at_33 rfl (lv_at hl 2 rfl) ?_
        obtain ⟨o7, eq8, h⟩ := bnd_some h
        refine kRiV (rest := []) (q0 := (14 + x1.toNatClampNeg)) ⟨hx, hb, hml, hown, hts⟩ (c_X5_signAt l D k a xLen xHits xUns xItems xLost xKind xSize xLet xRel xLim xOpen xMeas xSL xST xSD xSK xTal xKn xFT xFA xFE xOdds xPat xFind x1.toNatClampNeg (vp_in_lt g5) x2 eq8) (cwV 1 hts (gAV wm_165 wm_166 wm_167 wm_15 wm_168) rfl rfl rfl qd_X5_signAt ⟨Nat.le_of_ble_eq_true rfl, Nat.le_of_ble_eq_true rfl⟩) hK hP (wX_row (vp_in_lt g5)) rfl rfl hl.1 rfl (Nat.le_of_ble_eq_true rfl) dX10_at_34 ⟨Nat.zero_le _, Nat.zero_le _⟩ ?_
        refine lv_goto (tgt := 42) hx hb dX10_at_37 (by decide) ?_
        exact W.iret (v := o7) hx hb hr (fun t ht hW => ⟨_, rfl, Option.some.inj h, ht⟩) (fun q hq => by cases hq) dX10_at_42
    · replace h := (if_neg c4).symm.trans h
      refine lv_bipush (v := (-2)) hx hb dX10_at_11 (by decide) ?_
      exact W.iret (v := (-2)) hx hb hr (fun t ht hW => ⟨_, rfl, Option.some.inj h, ht⟩) (fun q hq => by cases hq) dX10_at_13
set_option maxHeartbeats 4000000 in
set_option maxRecDepth 100000 in
theorem c_X10_at (l : Launch) (D : va_G) (k : Nat → ClassId) (a : Nat → Nat) (xLen : Nat → Int32) (xHits : Nat → Int32) (xUns : Nat → Int32) (xItems : Nat → Nat → Int32) (xLost : Nat → Int32) (xKind : Nat → Int32) (xSize : Nat → Int32) (xLet : Nat → Int32) (xRel : Nat → Int32) (xLim : Nat → Int32) (xOpen : Nat → Int32) (xMeas : Nat → Int32) (xSL : Int32) (xST : Int32) (xSD : Int32) (xSK : Int32) (xTal : Nat → Nat → Int32) (xKn : Nat → Int32) (xFT : Nat → Int32) (xFA : Int32) (xFE : Int32) (xOdds : Int32) (xPat : Int32) (xFind : Int32) (x1 : Int32) (x2 : Int32) {o : Int32} (h : f_X10_at x1 x2 xLen xHits xUns = some o) : mRi l yX10_at wo_X10_at 1 D k [.ref (a 0), .int x1, .int x2] (wX k a xLen xHits xUns xItems xLost xKind xSize xLet xRel xLim xOpen xMeas xSL xST xSD xSK xTal xKn xFT xFA xFE xOdds xPat xFind) o := by
  refine Met.ofW (cc := cX10_at) (maxL := 3) (ret := some .int) (by decide) rfl ?_
  intro p e s m args below meth c s₁ B hml hv
  obtain ⟨rfl, hP, hK⟩ := hv
  rw [lg_entry_eq]
  exact core_X10_at D k a xLen xHits xUns xItems xLost xKind xSize xLet xRel xLim xOpen xMeas xSL xST xSD xSK xTal xKn xFT xFA xFE xOdds xPat xFind x1 x2 B.exec B.bytes hml B.returns (atoms_spec (ws := wo_X10_at) B.pre) (findClass_of_methodNamed B.named) B.notSynchronized (lv_entry [.ref (a 0), .int x1, .int x2] (n := 3) (Nat.le_of_ble_eq_true rfl)) hK hP h
theorem qd_X10_at : yX10_at.cls = RX10 ∧ yX10_at.cls ≠ "java/lang/invoke/MethodHandle" ∧ yX10_at.cls ≠ "java/lang/invoke/VarHandle" ∧ (parseMethodDescriptor yX10_at.desc).map (fun d => d.parameters.length) = some 2 := by decide +kernel
abbrev wo_X10_set : List Cond := .code yX10_set cX10_set 4 (some .int) :: wsL_law
set_option maxHeartbeats 4000000 in
set_option maxRecDepth 100000 in
theorem core_X10_set {N : Nat} (D : va_G) (k : Nat → ClassId) (a : Nat → Nat) (xLen : Nat → Int32) (xHits : Nat → Int32) (xUns : Nat → Int32) (xItems : Nat → Nat → Int32) (xLost : Nat → Int32) (xKind : Nat → Int32) (xSize : Nat → Int32) (xLet : Nat → Int32) (xRel : Nat → Int32) (xLim : Nat → Int32) (xOpen : Nat → Int32) (xMeas : Nat → Int32) (xSL : Int32) (xST : Int32) (xSD : Int32) (xSK : Int32) (xTal : Nat → Nat → Int32) (xKn : Nat → Int32) (xFT : Nat → Int32) (xFA : Int32) (xFE : Int32) (xOdds : Int32) (xPat : Int32) (xFind : Int32) (x1 : Int32) (x2 : Int32) {p : Program} {l : Launch} {e : Env} {s : State} {m : MethodId} {args : Array Value} {below : List Frame} {meth : Method} {c : Code} {ls : Array Slot} (hx : p.tables.exec = Jvm.exec) (hb : c.code = cX10_set) (hml : c.maxLocals = 4) (hr : meth.sig.returnType = some .int) (hts : ∀ w ∈ wo_X10_set, w.before args s = true) (hown : s.vm.findClass RX10 = some m.cls) (hlocks : meth.locks = false) (hl : lv_has ls 4 [(0, .ref (a 0)), (1, .int x1), (2, .int x2)]) (hK : va_K D vwCl (xTys k) s) (hP : va_P D vwCl (wX k a xLen xHits xUns xItems xLost xKind xSize xLet xRel xLim xOpen xMeas xSL xST xSD xSK xTal xKn xFT xFA xFE xOdds xPat xFind) s.heap) {A : Nat → Prop} (hD : va_D A (wX k a xLen xHits xUns xItems xLost xKind xSize xLet xRel xLim xOpen xMeas xSL xST xSD xSK xTal xKn xFT xFA xFE xOdds xPat xFind)) (hA : ∀ q : Nat, s.heap.size ≤ q → A q) {o : Int32 × (Nat → Int32) × (Int32) × (Int32)} (h : f_X10_set N x1 x2 xKn xOdds xPat = some o) : gQi p l e wo_X10_set 1 s m args below meth c D k A o.1 (wX k a xLen xHits xUns xItems xLost xKind xSize xLet xRel xLim xOpen xMeas xSL xST xSD xSK xTal o.2.1 xFT xFA xFE o.2.2.1 o.2.2.2 xFind) s.heap [] (F0 m 0 ls []) := by
  have hi10 := (fun w h => List.mem_cons_of_mem _ (inlX10 w h) : ∀ w ∈ wsX100, w ∈ wo_X10_set)
  have kf48 := hts _ (List.mem_cons_of_mem _ wm_33)
  have kf33 := hts _ (List.mem_cons_of_mem _ wm_27)
  have kf44 := hts _ (List.mem_cons_of_mem _ wm_32)
  unfold f_X10_set at h
  have hS : va_S A s.heap s.heap [] := va_S.rf
  have J27 : ∀ (x1 : Int32) (x2 : Int32) (xKn : Nat → Int32) (xOdds : Int32) (xPat : Int32) (ls : Array Slot) (H : Heap) (locs : List Loc) (hl : lv_has ls 4 [(0, .ref (a 0)), (1, .int x1), (2, .int x2)]) (hP : va_P D vwCl (wX k a xLen xHits xUns xItems xLost xKind xSize xLet xRel xLim xOpen xMeas xSL xST xSD xSK xTal xKn xFT xFA xFE xOdds xPat xFind) H) (hD : va_D A (wX k a xLen xHits xUns xItems xLost xKind xSize xLet xRel xLim xOpen xMeas xSL xST xSD xSK xTal xKn xFT xFA xFE xOdds xPat xFind)) (hS : va_S A s.heap H locs) (h : f_X10_set_27 N x1 x2 xKn xOdds xPat = some o), gQi p l e wo_X10_set 1 s m args below meth c D k A o.1 (wX k a xLen xHits xUns xItems xLost xKind xSize xLet xRel xLim xOpen xMeas xSL xST xSD xSK xTal o.2.1 xFT xFA xFE o.2.2.1 o.2.2.2 xFind) H locs (F0 m 27 ls []) := by
    intro x1 x2 xKn xOdds xPat ls H locs hl hP hD hS h
    unfold f_X10_set_27 at h
    refine lv_iload_n hx hb dX10_set_27 rfl (lv_at hl 1 rfl) ?_
    refine lv_iconst (v := 1) hx hb dX10_set_28 (by decide) ?_
    refine lv_icmp_ne (tgt := 62) hx hb dX10_set_29 (by decide) (fun c1 => ?_) (fun c1 => ?_)
    · replace h := (if_neg c1).symm.trans h
      refine lv_bipush (v := (-2)) hx hb dX10_set_62 (by decide) ?_
      have he := Option.some.inj h
      exact W.iret (v := (-2)) hx hb hr (fun t ht hW => ⟨⟨(-2), wX k a xLen xHits xUns xItems xLost xKind xSize xLet xRel xLim xOpen xMeas xSL xST xSD xSK xTal xKn xFT xFA xFE xOdds xPat xFind, rfl, ⟨(congrArg (fun z => z.1) he), (congrArg (fun z => wX k a xLen xHits xUns xItems xLost xKind xSize xLet xRel xLim xOpen xMeas xSL xST xSD xSK xTal z.2.1 xFT xFA xFE z.2.2.1 z.2.2.2 xFind) he)⟩, by rw [ht]; exact hP, va_K.moved hW.alike hK, hD⟩, hS.F ht⟩) hS.2.2 dX10_set_64
    · replace h := (if_pos c1).symm.trans h
      refine lv_iload_n hx hb dX10_set_32 rfl (lv_at hl 2 rfl) ?_
      refine lv_iconst (v := 2) hx hb dX10_set_33 (by decide) ?_
      refine lv_icmp_lt (tgt := 62) hx hb dX10_set_34 (by decide) (fun c2 => ?_) (fun c2 => ?_)
      · replace h := (if_pos c2).symm.trans h
        refine lv_bipush (v := (-2)) hx hb dX10_set_62 (by decide) ?_
        have he := Option.some.inj h
        exact W.iret (v := (-2)) hx hb hr (fun t ht hW => ⟨⟨(-2), wX k a xLen xHits xUns xItems xLost xKind xSize xLet xRel xLim xOpen xMeas xSL xST xSD xSK xTal xKn xFT xFA xFE xOdds xPat xFind, rfl, ⟨(congrArg (fun z => z.1) he), (congrArg (fun z => wX k a xLen xHits xUns xItems xLost xKind xSize xLet xRel xLim xOpen xMeas xSL xST xSD xSK xTal z.2.1 xFT xFA xFE z.2.2.1 z.2.2.2 xFind) he)⟩, by rw [ht]; exact hP, va_K.moved hW.alike hK, hD⟩, hS.F ht⟩) hS.2.2 dX10_set_64
      · replace h := (if_neg c2).symm.trans h
        refine lv_iload_n hx hb dX10_set_37 rfl (lv_at hl 2 rfl) ?_
        refine lv_bipush (v := 127) hx hb dX10_set_38 (by decide) ?_
        refine lv_icmp_gt (tgt := 62) hx hb dX10_set_40 (by decide) (fun c3 => ?_) (fun c3 => ?_)
        · replace h := (if_pos c3).symm.trans h
          refine lv_bipush (v := (-2)) hx hb dX10_set_62 (by decide) ?_
          have he := Option.some.inj h
          exact W.iret (v := (-2)) hx hb hr (fun t ht hW => ⟨⟨(-2), wX k a xLen xHits xUns xItems xLost xKind xSize xLet xRel xLim xOpen xMeas xSL xST xSD xSK xTal xKn xFT xFA xFE xOdds xPat xFind, rfl, ⟨(congrArg (fun z => z.1) he), (congrArg (fun z => wX k a xLen xHits xUns xItems xLost xKind xSize xLet xRel xLim xOpen xMeas xSL xST xSD xSK xTal z.2.1 xFT xFA xFE z.2.2.1 z.2.2.2 xFind) he)⟩, by rw [ht]; exact hP, va_K.moved hW.alike hK, hD⟩, hS.F ht⟩) hS.2.2 dX10_set_64
        · replace h := (if_neg c3).symm.trans h
          refine lv_aload_n hx hb dX10_set_43 rfl (lv_at hl 0 rfl) ?_
          refine va_get (D := D) (ci := 5) (v := .int xPat) (C := RX10) (T := TX10) (N := 8) hx hb hts hi10 hown hK hP (0) (rfl) rfl 6 (by decide) kf48 (fun _ h9 => h9) rfl dX10_set_44 ?_
          refine lv_istore_n (lv' := [(3, .int xPat), (0, .ref (a 0)), (1, .int x1), (2, .int x2)]) hx hb dX10_set_47 rfl hl (by decide) rfl (fun ls hl => ?_)
          refine lv_aload_n hx hb dX10_set_48 rfl (lv_at hl 1 rfl) ?_
          refine lv_iload_n hx hb dX10_set_49 rfl (lv_at hl 3 rfl) ?_
          refine va_put (D := D) (ci := 5) (v := .int x2) (ty := .int) (C := RX10) (T := TX10) (N := 8) hx hb hts hi10 tyX10 tyX10_ok nmX10 hown hK hP hD hS (0) (rfl) rfl 6 (by decide) kf48 (fun _ h9 => h9) rfl (tyX10_ok 6 (by decide)) rfl rfl (Nat.le_of_ble_eq_true rfl) dX10_set_50 (fun H locs hP hD hS => ?_)
          have hP : va_P D vwCl (wX k a xLen xHits xUns xItems xLost xKind xSize xLet xRel xLim xOpen xMeas xSL xST xSD xSK xTal xKn xFT xFA xFE xOdds x2 xFind) H := hP
          have hD : va_D A (wX k a xLen xHits xUns xItems xLost xKind xSize xLet xRel xLim xOpen xMeas xSL xST xSD xSK xTal xKn xFT xFA xFE xOdds x2 xFind) := hD
          refine lv_aload_n hx hb dX10_set_53 rfl (lv_at hl 1 rfl) ?_
          refine va_get (D := D) (ci := 5) (v := .ref (a 9)) (C := RX10) (T := TX10) (N := 8) hx hb hts hi10 hown hK hP (0) (rfl) rfl 3 (by decide) kf33 (fun _ h9 => h9) rfl dX10_set_54 ?_
          obtain ⟨o4, eq5, h⟩ := bnd_some h
          refine kQvV (rest := []) (q0 := 9) ⟨hx, hb, hml, hown, hts⟩ (c_X8_forget l D k a xLen xHits xUns xItems xLost xKind xSize xLet xRel xLim xOpen xMeas xSL xST xSD xSK xTal xKn xFT xFA xFE xOdds x2 xFind  eq5) (cwV 0 hts (gAV wm_177 wm_178 wm_179 wm_26 wm_180) rfl rfl rfl qd_X8_forget ⟨Nat.le_of_ble_eq_true rfl, Nat.le_of_ble_eq_true rfl⟩) hK hP hD hS hA (rfl) rfl rfl hl.1 rfl (Nat.le_of_ble_eq_true rfl) dX10_set_57 ⟨Nat.zero_le _, Nat.zero_le _⟩ (fun H locs hP hD hS => ?_)
          have hP : va_P D vwCl (wX k a xLen xHits xUns xItems xLost xKind xSize xLet xRel xLim xOpen xMeas xSL xST xSD xSK xTal o4 xFT xFA xFE xOdds x2 xFind) H := hP
          have hD : va_D A (wX k a xLen xHits xUns xItems xLost xKind xSize xLet xRel xLim xOpen xMeas xSL xST xSD xSK xTal o4 xFT xFA xFE xOdds x2 xFind) := hD
          refine lv_iload_n hx hb dX10_set_60 rfl (lv_at hl 0 rfl) ?_
          have he := Option.some.inj h
          exact W.iret (v := xPat) hx hb hr (fun t ht hW => ⟨⟨xPat, wX k a xLen xHits xUns xItems xLost xKind xSize xLet xRel xLim xOpen xMeas xSL xST xSD xSK xTal o4 xFT xFA xFE xOdds x2 xFind, rfl, ⟨(congrArg (fun z => z.1) he), (congrArg (fun z => wX k a xLen xHits xUns xItems xLost xKind xSize xLet xRel xLim xOpen xMeas xSL xST xSD xSK xTal z.2.1 xFT xFA xFE z.2.2.1 z.2.2.2 xFind) he)⟩, by rw [ht]; exact hP, va_K.moved hW.alike hK, hD⟩, hS.F ht⟩) hS.2.2 dX10_set_61
  obtain ⟨H, hH⟩ : ∃ H : Heap, H = s.heap := ⟨_, rfl⟩
  obtain ⟨locs, hlc⟩ : ∃ locs : List Loc, locs = [] := ⟨_, rfl⟩
  have hS : va_S A s.heap H locs := by rw [hH, hlc]; exact va_S.rf
  have hP : va_P D vwCl (wX k a xLen xHits xUns xItems xLost xKind xSize xLet xRel xLim xOpen xMeas xSL xST xSD xSK xTal xKn xFT xFA xFE xOdds xPat xFind) H := by rw [hH]; exact hP
  suffices hGo : gQi p l e wo_X10_set 1 s m args below meth c D k A o.1 (wX k a xLen xHits xUns xItems xLost xKind xSize xLet xRel xLim xOpen xMeas xSL xST xSD xSK xTal o.2.1 xFT xFA xFE o.2.2.1 o.2.2.2 xFind) H locs (F0 m 0 ls []) by rw [hH, hlc] at hGo; exact hGo
  refine lv_iload_n hx hb dX10_set_0 rfl (lv_at hl 1 rfl) ?_
  refine lv_if_ne (tgt := 27) hx hb dX10_set_1 (by decide) (fun c6 => ?_) (fun c6 => ?_)
  · replace h := (if_neg c6).symm.trans h
    exact J27 x1 x2 xKn xOdds xPat ls H locs (lv_sub hl [0, 1, 2] rfl) hP hD hS h
  · replace h := (if_pos c6).symm.trans h
    refine lv_iload_n hx hb dX10_set_4 rfl (lv_at hl 2 rfl) ?_
    refine lv_iconst (v := 1) hx hb dX10_set_5 (by decide) ?_
    refine lv_icmp_lt (tgt := 27) hx hb dX10_set_6 (by decide) (fun c7 => ?_) (fun c7 => ?_)
    · replace h := (if_pos c7).symm.trans h
      exact J27 x1 x2 xKn xOdds xPat ls H locs (lv_sub hl [0, 1, 2] rfl) hP hD hS h
    · replace h := (if_neg c7).symm.trans h
      refine lv_iload_n hx hb dX10_set_9 rfl (lv_at hl 2 rfl) ?_
      refine lv_bipush (v := 16) hx hb dX10_set_10 (by decide) ?_
      refine lv_icmp_ge (tgt := 27) hx hb dX10_set_12 (by decide) (fun c8 => ?_) (fun c8 => ?_)
      · replace h := (if_pos c8).symm.trans h
        exact J27 x1 x2 xKn xOdds xPat ls H locs (lv_sub hl [0, 1, 2] rfl) hP hD hS h
      · replace h := (if_neg c8).symm.trans h
        refine lv_aload_n hx hb dX10_set_15 rfl (lv_at hl 0 rfl) ?_
        refine va_get (D := D) (ci := 5) (v := .int xOdds) (C := RX10) (T := TX10) (N := 8) hx hb hts hi10 hown hK hP (0) (rfl) rfl 5 (by decide) kf44 (fun _ h9 => h9) rfl dX10_set_16 ?_
        refine lv_istore_n (lv' := [(3, .int xOdds), (0, .ref (a 0)), (1, .int x1), (2, .int x2)]) hx hb dX10_set_19 rfl hl (by decide) rfl (fun ls hl => ?_)
        refine lv_aload_n hx hb dX10_set_20 rfl (lv_at hl 1 rfl) ?_
        refine lv_iload_n hx hb dX10_set_21 rfl (lv_at hl 3 rfl) ?_
        refine va_put (D := D) (ci := 5) (v := .int x2) (ty := .int) (C := RX10) (T := TX10) (N := 8) hx hb hts hi10 tyX10 tyX10_ok nmX10 hown hK hP hD hS (0) (rfl) rfl 5 (by decide) kf44 (fun _ h9 => h9) rfl (tyX10_ok 5 (by decide)) rfl rfl (Nat.le_of_ble_eq_true rfl) dX10_set_22 (fun H locs hP hD hS => ?_)
        have hP : va_P D vwCl (wX k a xLen xHits xUns xItems xLost xKind xSize xLet xRel xLim xOpen xMeas xSL xST xSD xSK xTal xKn xFT xFA xFE x2 xPat xFind) H := hP
        have hD : va_D A (wX k a xLen xHits xUns xItems xLost xKind xSize xLet xRel xLim xOpen xMeas xSL xST xSD xSK xTal xKn xFT xFA xFE x2 xPat xFind) := hD
        refine lv_iload_n hx hb dX10_set_25 rfl (lv_at hl 0 rfl) ?_
        have he := Option.some.inj h
        exact W.iret (v := xOdds) hx hb hr (fun t ht hW => ⟨⟨xOdds, wX k a xLen xHits xUns xItems xLost xKind xSize xLet xRel xLim xOpen xMeas xSL xST xSD xSK xTal xKn xFT xFA xFE x2 xPat xFind, rfl, ⟨(congrArg (fun z => z.1) he), (congrArg (fun z => wX k a xLen xHits xUns xItems xLost xKind xSize xLet xRel xLim xOpen xMeas xSL xST xSD xSK xTal z.2.1 xFT xFA xFE z.2.2.1 z.2.2.2 xFind) he)⟩, by rw [ht]; exact hP, va_K.moved hW.alike hK, hD⟩, hS.F ht⟩) hS.2.2 dX10_set_26
set_option maxHeartbeats 4000000 in
set_option maxRecDepth 100000 in
theorem c_X10_set {N : Nat} (l : Launch) (D : va_G) (k : Nat → ClassId) (a : Nat → Nat) (xLen : Nat → Int32) (xHits : Nat → Int32) (xUns : Nat → Int32) (xItems : Nat → Nat → Int32) (xLost : Nat → Int32) (xKind : Nat → Int32) (xSize : Nat → Int32) (xLet : Nat → Int32) (xRel : Nat → Int32) (xLim : Nat → Int32) (xOpen : Nat → Int32) (xMeas : Nat → Int32) (xSL : Int32) (xST : Int32) (xSD : Int32) (xSK : Int32) (xTal : Nat → Nat → Int32) (xKn : Nat → Int32) (xFT : Nat → Int32) (xFA : Int32) (xFE : Int32) (xOdds : Int32) (xPat : Int32) (xFind : Int32) (x1 : Int32) (x2 : Int32) {o : Int32 × (Nat → Int32) × (Int32) × (Int32)} (h : f_X10_set N x1 x2 xKn xOdds xPat = some o) : mQi l yX10_set wo_X10_set 1 D k [.ref (a 0), .int x1, .int x2] (wX k a xLen xHits xUns xItems xLost xKind xSize xLet xRel xLim xOpen xMeas xSL xST xSD xSK xTal xKn xFT xFA xFE xOdds xPat xFind) o.1 (wX k a xLen xHits xUns xItems xLost xKind xSize xLet xRel xLim xOpen xMeas xSL xST xSD xSK xTal o.2.1 xFT xFA xFE o.2.2.1 o.2.2.2 xFind) := by
  intro sz
  refine Met.ofW (cc := cX10_set) (maxL := 4) (ret := some .int) (by decide) rfl ?_
  intro p e s m args below meth c s₁ B hml hv
  obtain ⟨rfl, hsz, hP, hK, hD0⟩ := hv
  subst hsz
  rw [lg_entry_eq]
  exact core_X10_set D k a xLen xHits xUns xItems xLost xKind xSize xLet xRel xLim xOpen xMeas xSL xST xSD xSK xTal xKn xFT xFA xFE xOdds xPat xFind x1 x2 B.exec B.bytes hml B.returns (atoms_spec (ws := wo_X10_set) B.pre) (findClass_of_methodNamed B.named) B.notSynchronized (lv_entry [.ref (a 0), .int x1, .int x2] (n := 4) (Nat.le_of_ble_eq_true rfl)) hK hP hD0.self (fun q h => Or.inr h) h
theorem qd_X10_set : yX10_set.cls = RX10 ∧ yX10_set.cls ≠ "java/lang/invoke/MethodHandle" ∧ yX10_set.cls ≠ "java/lang/invoke/VarHandle" ∧ (parseMethodDescriptor yX10_set.desc).map (fun d => d.parameters.length) = some 2 := by decide +kernel
abbrev wo_X10_numberOf : List Cond := .code yX10_numberOf cX10_numberOf 3 (some .int) :: wsL_law
set_option maxHeartbeats 4000000 in
set_option maxRecDepth 100000 in
theorem core_X10_numberOf {N : Nat} (D : va_G) (k : Nat → ClassId) (a : Nat → Nat) (xLen : Nat → Int32) (xHits : Nat → Int32) (xUns : Nat → Int32) (xItems : Nat → Nat → Int32) (xLost : Nat → Int32) (xKind : Nat → Int32) (xSize : Nat → Int32) (xLet : Nat → Int32) (xRel : Nat → Int32) (xLim : Nat → Int32) (xOpen : Nat → Int32) (xMeas : Nat → Int32) (xSL : Int32) (xST : Int32) (xSD : Int32) (xSK : Int32) (xTal : Nat → Nat → Int32) (xKn : Nat → Int32) (xFT : Nat → Int32) (xFA : Int32) (xFE : Int32) (xOdds : Int32) (xPat : Int32) (xFind : Int32) (e1 : Nat) (x2 : Int32) (he1 : e1 < 4) {p : Program} {l : Launch} {e : Env} {s : State} {m : MethodId} {args : Array Value} {below : List Frame} {meth : Method} {c : Code} {ls : Array Slot} (hx : p.tables.exec = Jvm.exec) (hb : c.code = cX10_numberOf) (hml : c.maxLocals = 3) (hr : meth.sig.returnType = some .int) (hts : ∀ w ∈ wo_X10_numberOf, w.before args s = true) (hown : s.vm.findClass RX10 = some m.cls) (hlocks : meth.locks = false) (hl : lv_has ls 3 [(0, .ref (a 0)), (1, .ref (a (14 + e1))), (2, .int x2)]) (hK : va_K D vwCl (xTys k) s) (hP : va_P D vwCl (wX k a xLen xHits xUns xItems xLost xKind xSize xLet xRel xLim xOpen xMeas xSL xST xSD xSK xTal xKn xFT xFA xFE xOdds xPat xFind) s.heap) {o : Int32} (h : f_X10_numberOf N e1 x2 xLen xHits xPat = some o) : gRi p l e wo_X10_numberOf 3 s m args below meth c o (F0 m 0 ls []) := by
  have hi5 := (fun w h => List.mem_cons_of_mem _ (inlX5 w h) : ∀ w ∈ wsX50, w ∈ wo_X10_numberOf)
  have kf69 := hts _ (List.mem_cons_of_mem _ wm_91)
  have kf119 := hts _ (List.mem_cons_of_mem _ wm_200)
  have hi10 := (fun w h => List.mem_cons_of_mem _ (inlX10 w h) : ∀ w ∈ wsX100, w ∈ wo_X10_numberOf)
  have kf48 := hts _ (List.mem_cons_of_mem _ wm_33)
  unfold f_X10_numberOf at h
  refine lv_iload_n hx hb dX10_numberOf_0 rfl (lv_at hl 2 rfl) ?_
  refine lv_aload_n hx hb dX10_numberOf_1 rfl (lv_at hl 1 rfl) ?_
  refine va_get (D := D) (ci := 1) (v := .int (xLen e1)) (C := RX5) (T := TX5) (N := 3) hx hb hts hi5 hown hK hP ((14 + e1)) (wX_row he1) rfl 0 (by decide) kf69 (fun _ h9 => h9) rfl dX10_numberOf_2 ?_
  refine lv_aload_n hx hb dX10_numberOf_5 rfl (lv_at hl 1 rfl) ?_
  refine va_get (D := D) (ci := 1) (v := .int (xHits e1)) (C := RX5) (T := TX5) (N := 3) hx hb hts hi5 hown hK hP ((14 + e1)) (wX_row he1) rfl 1 (by decide) kf119 (fun _ h9 => h9) rfl dX10_numberOf_6 ?_
  refine lv_aload_n hx hb dX10_numberOf_9 rfl (lv_at hl 0 rfl) ?_
  refine va_get (D := D) (ci := 5) (v := .int xPat) (C := RX10) (T := TX10) (N := 8) hx hb hts hi10 hown hK hP (0) (rfl) rfl 6 (by decide) kf48 (fun _ h9 => h9) rfl dX10_numberOf_10 ?_
  obtain ⟨o1, eq2, h⟩ := bnd_some h
  refine kPi (rest := []) ⟨hx, hb, hml, hown, hts⟩ (c_X3_measure l x2 (xLen e1) (xHits e1) xPat eq2) (va_cwS 4 hts (gAS wm_201 wm_202 wm_203 wm_204) rfl rfl rfl qd_X3_measure ⟨Nat.le_of_ble_eq_true rfl, Nat.le_of_ble_eq_true rfl⟩) rfl hl.1 rfl (Nat.le_of_ble_eq_true rfl) dX10_numberOf_13 ⟨Nat.zero_le _, Nat.zero_le _⟩ ?_
  exact W.iret (v := o1) hx hb hr (fun t ht hW => ⟨_, rfl, Option.some.inj h, ht⟩) (fun q hq => by cases hq) dX10_numberOf_16
set_option maxHeartbeats 4000000 in
set_option maxRecDepth 100000 in
theorem c_X10_numberOf {N : Nat} (l : Launch) (D : va_G) (k : Nat → ClassId) (a : Nat → Nat) (xLen : Nat → Int32) (xHits : Nat → Int32) (xUns : Nat → Int32) (xItems : Nat → Nat → Int32) (xLost : Nat → Int32) (xKind : Nat → Int32) (xSize : Nat → Int32) (xLet : Nat → Int32) (xRel : Nat → Int32) (xLim : Nat → Int32) (xOpen : Nat → Int32) (xMeas : Nat → Int32) (xSL : Int32) (xST : Int32) (xSD : Int32) (xSK : Int32) (xTal : Nat → Nat → Int32) (xKn : Nat → Int32) (xFT : Nat → Int32) (xFA : Int32) (xFE : Int32) (xOdds : Int32) (xPat : Int32) (xFind : Int32) (e1 : Nat) (he1 : e1 < 4) (x2 : Int32) {o : Int32} (h : f_X10_numberOf N e1 x2 xLen xHits xPat = some o) : mRi l yX10_numberOf wo_X10_numberOf 3 D k [.ref (a 0), .ref (a (14 + e1)), .int x2] (wX k a xLen xHits xUns xItems xLost xKind xSize xLet xRel xLim xOpen xMeas xSL xST xSD xSK xTal xKn xFT xFA xFE xOdds xPat xFind) o := by
  refine Met.ofW (cc := cX10_numberOf) (maxL := 3) (ret := some .int) (by decide) rfl ?_
  intro p e s m args below meth c s₁ B hml hv
  obtain ⟨rfl, hP, hK⟩ := hv
  rw [lg_entry_eq]
  exact core_X10_numberOf D k a xLen xHits xUns xItems xLost xKind xSize xLet xRel xLim xOpen xMeas xSL xST xSD xSK xTal xKn xFT xFA xFE xOdds xPat xFind e1 x2 he1 B.exec B.bytes hml B.returns (atoms_spec (ws := wo_X10_numberOf) B.pre) (findClass_of_methodNamed B.named) B.notSynchronized (lv_entry [.ref (a 0), .ref (a (14 + e1)), .int x2] (n := 3) (Nat.le_of_ble_eq_true rfl)) hK hP h
theorem qd_X10_numberOf : yX10_numberOf.cls = RX10 ∧ yX10_numberOf.cls ≠ "java/lang/invoke/MethodHandle" ∧ yX10_numberOf.cls ≠ "java/lang/invoke/VarHandle" ∧ (parseMethodDescriptor yX10_numberOf.desc).map (fun d => d.parameters.length) = some 2 := by decide +kernel
abbrev wo_X10_dealtAsFar : List Cond := .code yX10_dealtAsFar cX10_dealtAsFar 10 (some .int) :: wsL_law
set_option maxHeartbeats 4000000 in
set_option maxRecDepth 100000 in
theorem core_X10_dealtAsFar {N : Nat} (D : va_G) (k : Nat → ClassId) (a : Nat → Nat) (xLen : Nat → Int32) (xHits : Nat → Int32) (xUns : Nat → Int32) (xItems : Nat → Nat → Int32) (xLost : Nat → Int32) (xKind : Nat → Int32) (xSize : Nat → Int32) (xLet : Nat → Int32) (xRel : Nat → Int32) (xLim : Nat → Int32) (xOpen : Nat → Int32) (xMeas : Nat → Int32) (xSL : Int32) (xST : Int32) (xSD : Int32) (xSK : Int32) (xTal : Nat → Nat → Int32) (xKn : Nat → Int32) (xFT : Nat → Int32) (xFA : Int32) (xFE : Int32) (xOdds : Int32) (xPat : Int32) (xFind : Int32) (e1 : Nat) (x2 : Int32) (x3 : Int32) (he1 : e1 < 4) {p : Program} {l : Launch} {e : Env} {s : State} {m : MethodId} {args : Array Value} {below : List Frame} {meth : Method} {c : Code} {ls : Array Slot} (hx : p.tables.exec = Jvm.exec) (hb : c.code = cX10_dealtAsFar) (hml : c.maxLocals = 10) (hr : meth.sig.returnType = some .int) (hts : ∀ w ∈ wo_X10_dealtAsFar, w.before args s = true) (hown : s.vm.findClass RX10 = some m.cls) (hlocks : meth.locks = false) (hl : lv_has ls 10 [(0, .ref (a 0)), (1, .ref (a (14 + e1))), (2, .int x2), (3, .int x3)]) (hK : va_K D vwCl (xTys k) s) (hP : va_P D vwCl (wX k a xLen xHits xUns xItems xLost xKind xSize xLet xRel xLim xOpen xMeas xSL xST xSD xSK xTal xKn xFT xFA xFE xOdds xPat xFind) s.heap) {o : Int32} (h : f_X10_dealtAsFar N e1 x2 x3 xLen xHits xPat = some o) : gRi p l e wo_X10_dealtAsFar 4 s m args below meth c o (F0 m 0 ls []) := by
  have hi5 := (fun w h => List.mem_cons_of_mem _ (inlX5 w h) : ∀ w ∈ wsX50, w ∈ wo_X10_dealtAsFar)
  have kf69 := hts _ (List.mem_cons_of_mem _ wm_91)
  have hi10 := (fun w h => List.mem_cons_of_mem _ (inlX10 w h) : ∀ w ∈ wsX100, w ∈ wo_X10_dealtAsFar)
  have kf48 := hts _ (List.mem_cons_of_mem _ wm_33)
  unfold f_X10_dealtAsFar at h
  have L26 : ∀ (n26 : Nat) (e1 : Nat) (x2 : Int32) (x3 : Int32) (x4 : Int32) (x5 : Int32) (x6 : Int32) (x7 : Int32) (x8 : Int32) (ls : Array Slot) (he1 : e1 < 4) (hl : lv_has ls 10 [(0, .ref (a 0)), (1, .ref (a (14 + e1))), (2, .int x2), (3, .int x3), (4, .int x4), (5, .int x5), (6, .int x6), (7, .int x7), (8, .int x8)]) (h : f_X10_dealtAsFar_26 N n26 e1 x2 x3 x4 x5 x6 x7 x8 xLen xHits xPat = some o), gRi p l e wo_X10_dealtAsFar 4 s m args below meth c o (F0 m 26 ls []) := by
    intro n26
    induction n26 with
    | zero => intro e1 x2 x3 x4 x5 x6 x7 x8 ls he1 hl h; cases (show (none : Option (Int32)) = some o from h)
    | succ n26 ih26 =>
      have J73 : ∀ (e1 : Nat) (x2 : Int32) (x3 : Int32) (x4 : Int32) (x5 : Int32) (x6 : Int32) (x7 : Int32) (x8 : Int32) (ls : Array Slot) (he1 : e1 < 4) (hl : lv_has ls 10 [(0, .ref (a 0)), (1, .ref (a (14 + e1))), (2, .int x2), (3, .int x3), (4, .int x4), (5, .int x5), (6, .int x6), (7, .int x7), (8, .int x8)]) (h : f_X10_dealtAsFar_73 N (fun y0 y1 y2 y3 y4 y5 y6 y7 y8 y9 y10 => f_X10_dealtAsFar_26 N n26 y0 y1 y2 y3 y4 y5 y6 y7 y8 y9 y10) e1 x2 x3 x4 x5 x6 x7 x8 xLen xHits xPat = some o), gRi p l e wo_X10_dealtAsFar 4 s m args below meth c o (F0 m 73 ls []) := by
        intro e1 x2 x3 x4 x5 x6 x7 x8 ls he1 hl h
        unfold f_X10_dealtAsFar_73 at h
        refine lv_iload hx hb dX10_dealtAsFar_73 (lv_at hl 6 rfl) ?_
        obtain ⟨o1, eq2, h⟩ := bnd_some h
        refine kPi (rest := []) ⟨hx, hb, hml, hown, hts⟩ (c_X2_after l x6 eq2) (va_cwS 1 hts (gAS wm_600 wm_601 wm_592 wm_602) rfl rfl rfl qd_X2_after ⟨Nat.le_of_ble_eq_true rfl, Nat.le_of_ble_eq_true rfl⟩) rfl hl.1 rfl (Nat.le_of_ble_eq_true rfl) dX10_dealtAsFar_75 ⟨Nat.zero_le _, Nat.zero_le _⟩ ?_
        refine lv_istore (lv' := [(6, .int o1), (0, .ref (a 0)), (1, .ref (a (14 + e1))), (2, .int x2), (3, .int x3), (4, .int x4), (5, .int x5), (7, .int x7), (8, .int x8)]) hx hb dX10_dealtAsFar_78 hl (by decide) rfl (fun ls hl => ?_)
        refine lv_iinc (v := (x8 + 1)) (lv' := [(8, .int (x8 + 1)), (6, .int o1), (0, .ref (a 0)), (1, .ref (a (14 + e1))), (2, .int x2), (3, .int x3), (4, .int x4), (5, .int x5), (7, .int x7)]) hx hb dX10_dealtAsFar_80 hl (k := 8) rfl rfl (by decide) rfl (fun ls hl => ?_)
        refine lv_goto (tgt := 26) hx hb dX10_dealtAsFar_83 (by decide) ?_
        exact ih26 e1 x2 x3 x4 x5 o1 x7 (x8 + 1) ls he1 (lv_sub hl [2, 3, 4, 5, 6, 7, 1, 8, 0] rfl) h
      have J70 : ∀ (e1 : Nat) (x2 : Int32) (x3 : Int32) (x4 : Int32) (x5 : Int32) (x6 : Int32) (x7 : Int32) (x8 : Int32) (ls : Array Slot) (he1 : e1 < 4) (hl : lv_has ls 10 [(0, .ref (a 0)), (1, .ref (a (14 + e1))), (2, .int x2), (3, .int x3), (4, .int x4), (5, .int x5), (6, .int x6), (7, .int x7), (8, .int x8)]) (h : f_X10_dealtAsFar_70 N (fun y0 y1 y2 y3 y4 y5 y6 y7 y8 y9 y10 => f_X10_dealtAsFar_26 N n26 y0 y1 y2 y3 y4 y5 y6 y7 y8 y9 y10) e1 x2 x3 x4 x5 x6 x7 x8 xLen xHits xPat = some o), gRi p l e wo_X10_dealtAsFar 4 s m args below meth c o (F0 m 70 ls []) := by
        intro e1 x2 x3 x4 x5 x6 x7 x8 ls he1 hl h
        unfold f_X10_dealtAsFar_70 at h
        refine lv_iinc (v := (x7 + 1)) (lv' := [(7, .int (x7 + 1)), (0, .ref (a 0)), (1, .ref (a (14 + e1))), (2, .int x2), (3, .int x3), (4, .int x4), (5, .int x5), (6, .int x6), (8, .int x8)]) hx hb dX10_dealtAsFar_70 hl (k := 7) rfl rfl (by decide) rfl (fun ls hl => ?_)
        exact J73 e1 x2 x3 x4 x5 x6 (x7 + 1) x8 ls he1 (lv_sub hl [1, 2, 3, 4, 5, 6, 7, 0, 8] rfl) h
      intro e1 x2 x3 x4 x5 x6 x7 x8 ls he1 hl h
      rw [f_X10_dealtAsFar_26] at h
      refine lv_iload hx hb dX10_dealtAsFar_26 (lv_at hl 8 rfl) ?_
      refine lv_iload hx hb dX10_dealtAsFar_28 (lv_at hl 5 rfl) ?_
      refine lv_icmp_ge (tgt := 86) hx hb dX10_dealtAsFar_30 (by decide) (fun c3 => ?_) (fun c3 => ?_)
      · replace h := (if_pos c3).symm.trans h
        refine lv_iload hx hb dX10_dealtAsFar_86 (lv_at hl 7 rfl) ?_
        exact W.iret (v := x7) hx hb hr (fun t ht hW => ⟨_, rfl, Option.some.inj h, ht⟩) (fun q hq => by cases hq) dX10_dealtAsFar_88
      · replace h := (if_neg c3).symm.trans h
        refine lv_iload_n hx hb dX10_dealtAsFar_33 rfl (lv_at hl 2 rfl) ?_
        refine lv_aload_n hx hb dX10_dealtAsFar_34 rfl (lv_at hl 1 rfl) ?_
        refine va_get (D := D) (ci := 1) (v := .int (xLen e1)) (C := RX5) (T := TX5) (N := 3) hx hb hts hi5 hown hK hP ((14 + e1)) (wX_row he1) rfl 0 (by decide) kf69 (fun _ h9 => h9) rfl dX10_dealtAsFar_35 ?_
        refine lv_iload hx hb dX10_dealtAsFar_38 (lv_at hl 6 rfl) ?_
        refine lv_aload_n hx hb dX10_dealtAsFar_40 rfl (lv_at hl 0 rfl) ?_
        refine va_get (D := D) (ci := 5) (v := .int xPat) (C := RX10) (T := TX10) (N := 8) hx hb hts hi10 hown hK hP (0) (rfl) rfl 6 (by decide) kf48 (fun _ h9 => h9) rfl dX10_dealtAsFar_41 ?_
        obtain ⟨o4, eq5, h⟩ := bnd_some h
        refine kPi (rest := []) ⟨hx, hb, hml, hown, hts⟩ (c_X3_measure l x2 (xLen e1) x6 xPat eq5) (va_cwS 4 hts (gAS wm_201 wm_202 wm_203 wm_204) rfl rfl rfl qd_X3_measure ⟨Nat.le_of_ble_eq_true rfl, Nat.le_of_ble_eq_true rfl⟩) rfl hl.1 rfl (Nat.le_of_ble_eq_true rfl) dX10_dealtAsFar_44 ⟨Nat.zero_le _, Nat.zero_le _⟩ ?_
        refine lv_istore (lv' := [(9, .int o4), (0, .ref (a 0)), (1, .ref (a (14 + e1))), (2, .int x2), (3, .int x3), (4, .int x4), (5, .int x5), (6, .int x6), (7, .int x7), (8, .int x8)]) hx hb dX10_dealtAsFar_47 hl (by decide) rfl (fun ls hl => ?_)
        refine lv_iload_n hx hb dX10_dealtAsFar_49 rfl (lv_at hl 4 rfl) ?_
        refine lv_if_eq (tgt := 63) hx hb dX10_dealtAsFar_50 (by decide) (fun c6 => ?_) (fun c6 => ?_)
        · replace h := (if_pos c6).symm.trans h
          refine lv_iload hx hb dX10_dealtAsFar_63 (lv_at hl 0 rfl) ?_
          refine lv_iload hx hb dX10_dealtAsFar_65 (lv_at hl 5 rfl) ?_
          refine lv_icmp_gt (tgt := 73) hx hb dX10_dealtAsFar_67 (by decide) (fun c7 => ?_) (fun c7 => ?_)
          · replace h := (if_pos c7).symm.trans h
            exact J73 e1 x2 x3 x4 x5 x6 x7 x8 ls he1 (lv_sub hl [1, 2, 3, 4, 5, 6, 7, 8, 9] rfl) h
          · replace h := (if_neg c7).symm.trans h
            exact J70 e1 x2 x3 x4 x5 x6 x7 x8 ls he1 (lv_sub hl [1, 2, 3, 4, 5, 6, 7, 8, 9] rfl) h
        · replace h := (if_neg c6).symm.trans h
          refine lv_iload hx hb dX10_dealtAsFar_53 (lv_at hl 0 rfl) ?_
          refine lv_iload hx hb dX10_dealtAsFar_55 (lv_at hl 5 rfl) ?_
          refine lv_icmp_lt (tgt := 73) hx hb dX10_dealtAsFar_57 (by decide) (fun c8 => ?_) (fun c8 => ?_)
          · replace h := (if_pos c8).symm.trans h
            exact J73 e1 x2 x3 x4 x5 x6 x7 x8 ls he1 (lv_sub hl [1, 2, 3, 4, 5, 6, 7, 8, 9] rfl) h
          · replace h := (if_neg c8).symm.trans h
            refine lv_goto (tgt := 70) hx hb dX10_dealtAsFar_60 (by decide) ?_
            exact J70 e1 x2 x3 x4 x5 x6 x7 x8 ls he1 (lv_sub hl [1, 2, 3, 4, 5, 6, 7, 8, 9] rfl) h
  refine lv_aload_n hx hb dX10_dealtAsFar_0 rfl (lv_at hl 0 rfl) ?_
  refine lv_aload_n hx hb dX10_dealtAsFar_1 rfl (lv_at hl 1 rfl) ?_
  refine lv_iload_n hx hb dX10_dealtAsFar_2 rfl (lv_at hl 2 rfl) ?_
  obtain ⟨o9, eq10, h⟩ := bnd_some h
  refine kRiV (rest := []) (q0 := 0) ⟨hx, hb, hml, hown, hts⟩ (c_X10_numberOf l D k a xLen xHits xUns xItems xLost xKind xSize xLet xRel xLim xOpen xMeas xSL xST xSD xSK xTal xKn xFT xFA xFE xOdds xPat xFind e1 he1 x2 eq10) (cwV 2 hts (gAV wm_196 wm_197 wm_198 wm_2 wm_199) rfl rfl rfl qd_X10_numberOf ⟨Nat.le_of_ble_eq_true rfl, Nat.le_of_ble_eq_true rfl⟩) hK hP (rfl) rfl rfl hl.1 rfl (Nat.le_of_ble_eq_true rfl) dX10_dealtAsFar_3 ⟨Nat.zero_le _, Nat.zero_le _⟩ ?_
  refine lv_istore (lv' := [(4, .int o9), (0, .ref (a 0)), (1, .ref (a (14 + e1))), (2, .int x2), (3, .int x3)]) hx hb dX10_dealtAsFar_6 hl (by decide) rfl (fun ls hl => ?_)
  refine lv_aload_n hx hb dX10_dealtAsFar_8 rfl (lv_at hl 2 rfl) ?_
  obtain ⟨o11, eq12, h⟩ := bnd_some h
  refine kRiS (rest := []) ⟨hx, hb, hml, hown, hts⟩ (c_X2_howMany l D k a xLen xHits xUns xItems xLost xKind xSize xLet xRel xLim xOpen xMeas xSL xST xSD xSK xTal xKn xFT xFA xFE xOdds xPat xFind e1 he1 eq12) (va_cwS 1 hts (gAS wm_590 wm_591 wm_592 wm_593) rfl rfl rfl qd_X2_howMany ⟨Nat.le_of_ble_eq_true rfl, Nat.le_of_ble_eq_true rfl⟩) hK hP rfl hl.1 rfl (Nat.le_of_ble_eq_true rfl) dX10_dealtAsFar_9 ⟨Nat.zero_le _, Nat.zero_le _⟩ ?_
  refine lv_istore (lv' := [(5, .int o11), (4, .int o9), (0, .ref (a 0)), (1, .ref (a (14 + e1))), (2, .int x2), (3, .int x3)]) hx hb dX10_dealtAsFar_12 hl (by decide) rfl (fun ls hl => ?_)
  refine lv_aload_n hx hb dX10_dealtAsFar_14 rfl (lv_at hl 3 rfl) ?_
  obtain ⟨o13, eq14, h⟩ := bnd_some h
  refine kRiS (rest := []) ⟨hx, hb, hml, hown, hts⟩ (c_X2_lowest l D k a xLen xHits xUns xItems xLost xKind xSize xLet xRel xLim xOpen xMeas xSL xST xSD xSK xTal xKn xFT xFA xFE xOdds xPat xFind e1 he1 eq14) (va_cwS 1 hts (gAS wm_597 wm_598 wm_592 wm_599) rfl rfl rfl qd_X2_lowest ⟨Nat.le_of_ble_eq_true rfl, Nat.le_of_ble_eq_true rfl⟩) hK hP rfl hl.1 rfl (Nat.le_of_ble_eq_true rfl) dX10_dealtAsFar_15 ⟨Nat.zero_le _, Nat.zero_le _⟩ ?_
  refine lv_istore (lv' := [(6, .int o13), (5, .int o11), (4, .int o9), (0, .ref (a 0)), (1, .ref (a (14 + e1))), (2, .int x2), (3, .int x3)]) hx hb dX10_dealtAsFar_18 hl (by decide) rfl (fun ls hl => ?_)
  refine lv_iconst (v := 0) hx hb dX10_dealtAsFar_20 (by decide) ?_
  refine lv_istore (lv' := [(7, .int 0), (6, .int o13), (5, .int o11), (4, .int o9), (0, .ref (a 0)), (1, .ref (a (14 + e1))), (2, .int x2), (3, .int x3)]) hx hb dX10_dealtAsFar_21 hl (by decide) rfl (fun ls hl => ?_)
  refine lv_iconst (v := 0) hx hb dX10_dealtAsFar_23 (by decide) ?_
  refine lv_istore (lv' := [(8, .int 0), (7, .int 0), (6, .int o13), (5, .int o11), (4, .int o9), (0, .ref (a 0)), (1, .ref (a (14 + e1))), (2, .int x2), (3, .int x3)]) hx hb dX10_dealtAsFar_24 hl (by decide) rfl (fun ls hl => ?_)
  exact L26 N e1 x2 x3 o9 o11 o13 0 0 ls he1 (lv_sub hl [5, 6, 7, 8, 4, 3, 2, 1, 0] rfl) h
set_option maxHeartbeats 4000000 in
set_option maxRecDepth 100000 in
theorem c_X10_dealtAsFar {N : Nat} (l : Launch) (D : va_G) (k : Nat → ClassId) (a : Nat → Nat) (xLen : Nat → Int32) (xHits : Nat → Int32) (xUns : Nat → Int32) (xItems : Nat → Nat → Int32) (xLost : Nat → Int32) (xKind : Nat → Int32) (xSize : Nat → Int32) (xLet : Nat → Int32) (xRel : Nat → Int32) (xLim : Nat → Int32) (xOpen : Nat → Int32) (xMeas : Nat → Int32) (xSL : Int32) (xST : Int32) (xSD : Int32) (xSK : Int32) (xTal : Nat → Nat → Int32) (xKn : Nat → Int32) (xFT : Nat → Int32) (xFA : Int32) (xFE : Int32) (xOdds : Int32) (xPat : Int32) (xFind : Int32) (e1 : Nat) (he1 : e1 < 4) (x2 : Int32) (x3 : Int32) {o : Int32} (h : f_X10_dealtAsFar N e1 x2 x3 xLen xHits xPat = some o) : mRi l yX10_dealtAsFar wo_X10_dealtAsFar 4 D k [.ref (a 0), .ref (a (14 + e1)), .int x2, .int x3] (wX k a xLen xHits xUns xItems xLost xKind xSize xLet xRel xLim xOpen xMeas xSL xST xSD xSK xTal xKn xFT xFA xFE xOdds xPat xFind) o := by
  refine Met.ofW (cc := cX10_dealtAsFar) (maxL := 10) (ret := some .int) (by decide) rfl ?_
  intro p e s m args below meth c s₁ B hml hv
  obtain ⟨rfl, hP, hK⟩ := hv
  rw [lg_entry_eq]
  exact core_X10_dealtAsFar D k a xLen xHits xUns xItems xLost xKind xSize xLet xRel xLim xOpen xMeas xSL xST xSD xSK xTal xKn xFT xFA xFE xOdds xPat xFind e1 x2 x3 he1 B.exec B.bytes hml B.returns (atoms_spec (ws := wo_X10_dealtAsFar) B.pre) (findClass_of_methodNamed B.named) B.notSynchronized (lv_entry [.ref (a 0), .ref (a (14 + e1)), .int x2, .int x3] (n := 10) (Nat.le_of_ble_eq_true rfl)) hK hP h
theorem qd_X10_dealtAsFar : yX10_dealtAsFar.cls = RX10 ∧ yX10_dealtAsFar.cls ≠ "java/lang/invoke/MethodHandle" ∧ yX10_dealtAsFar.cls ≠ "java/lang/invoke/VarHandle" ∧ (parseMethodDescriptor yX10_dealtAsFar.desc).map (fun d => d.parameters.length) = some 3 := by decide +kernel
abbrev wo_X10_shows : List Cond := .code yX10_shows cX10_shows 3 (some .int) :: wsL_law
set_option maxHeartbeats 4000000 in
set_option maxRecDepth 100000 in
theorem core_X10_shows {N : Nat} (D : va_G) (k : Nat → ClassId) (a : Nat → Nat) (xLen : Nat → Int32) (xHits : Nat → Int32) (xUns : Nat → Int32) (xItems : Nat → Nat → Int32) (xLost : Nat → Int32) (xKind : Nat → Int32) (xSize : Nat → Int32) (xLet : Nat → Int32) (xRel : Nat → Int32) (xLim : Nat → Int32) (xOpen : Nat → Int32) (xMeas : Nat → Int32) (xSL : Int32) (xST : Int32) (xSD : Int32) (xSK : Int32) (xTal : Nat → Nat → Int32) (xKn : Nat → Int32) (xFT : Nat → Int32) (xFA : Int32) (xFE : Int32) (xOdds : Int32) (xPat : Int32) (xFind : Int32) (x1 : Int32) (x2 : Int32) {p : Program} {l : Launch} {e : Env} {s : State} {m : MethodId} {args : Array Value} {below : List Frame} {meth : Method} {c : Code} {ls : Array Slot} (hx : p.tables.exec = Jvm.exec) (hb : c.code = cX10_shows) (hml : c.maxLocals = 3) (hr : meth.sig.returnType = some .int) (hts : ∀ w ∈ wo_X10_shows, w.before args s = true) (hown : s.vm.findClass RX10 = some m.cls) (hlocks : meth.locks = false) (hl : lv_has ls 3 [(0, .ref (a 0)), (1, .int x1), (2, .int x2)]) (hK : va_K D vwCl (xTys k) s) (hP : va_P D vwCl (wX k a xLen xHits xUns xItems xLost xKind xSize xLet xRel xLim xOpen xMeas xSL xST xSD xSK xTal xKn xFT xFA xFE xOdds xPat xFind) s.heap) {o : Int32} (h : f_X10_shows N x1 x2 xLen xHits xUns xPat = some o) : gRi p l e wo_X10_shows 4 s m args below meth c o (F0 m 0 ls []) := by
  have hi10 := (fun w h => List.mem_cons_of_mem _ (inlX10 w h) : ∀ w ∈ wsX100, w ∈ wo_X10_shows)
  have kf11 := hts _ (List.mem_cons_of_mem _ wm_13)
  unfold f_X10_shows at h
  refine lv_iload_n hx hb dX10_shows_0 rfl (lv_at hl 1 rfl) ?_
  obtain ⟨o1, eq2, h⟩ := bnd_some h
  refine kPi (rest := []) ⟨hx, hb, hml, hown, hts⟩ (c_X10_isRow l x1 eq2) (va_cwS 1 hts (gAS wm_92 wm_93 wm_2 wm_94) rfl rfl rfl qd_X10_isRow ⟨Nat.le_of_ble_eq_true rfl, Nat.le_of_ble_eq_true rfl⟩) rfl hl.1 rfl (Nat.le_of_ble_eq_true rfl) dX10_shows_1 ⟨Nat.zero_le _, Nat.zero_le _⟩ ?_
  refine lv_if_eq (tgt := 14) hx hb dX10_shows_4 (by decide) (fun c3 => ?_) (fun c3 => ?_)
  · replace h := (if_pos c3).symm.trans h
    refine lv_bipush (v := (-2)) hx hb dX10_shows_14 (by decide) ?_
    exact W.iret (v := (-2)) hx hb hr (fun t ht hW => ⟨_, rfl, Option.some.inj h, ht⟩) (fun q hq => by cases hq) dX10_shows_16
  · replace h := (if_neg c3).symm.trans h
    refine lv_iload_n hx hb dX10_shows_7 rfl (lv_at hl 2 rfl) ?_
    obtain ⟨o4, eq5, h⟩ := bnd_some h
    refine kPi (rest := []) ⟨hx, hb, hml, hown, hts⟩ (c_X10_isNumber l x2 eq5) (va_cwS 1 hts (gAS wm_189 wm_190 wm_2 wm_191) rfl rfl rfl qd_X10_isNumber ⟨Nat.le_of_ble_eq_true rfl, Nat.le_of_ble_eq_true rfl⟩) rfl hl.1 rfl (Nat.le_of_ble_eq_true rfl) dX10_shows_8 ⟨Nat.zero_le _, Nat.zero_le _⟩ ?_
    refine lv_if_ne (tgt := 17) hx hb dX10_shows_11 (by decide) (fun c6 => ?_) (fun c6 => ?_)
    · replace h := (if_neg c6).symm.trans h
      refine lv_aload_n hx hb dX10_shows_17 rfl (lv_at hl 0 rfl) ?_
      refine va_get (D := D) (ci := 5) (v := .ref (a 1)) (C := RX10) (T := TX10) (N := 8) hx hb hts hi10 hown hK hP (0) (rfl) rfl 0 (by decide) kf11 (fun _ h9 => h9) rfl dX10_shows_18 ?_
      refine lv_iload_n hx hb dX10_shows_21 rfl (lv_at hl 1 rfl) ?_
      obtain ⟨g7, h⟩ := gIn_some h
      refine va_aldq hx hb hK hP (1) 2 rfl rfl g7 dX10_shows_22 ?_
      refine W.eq (g2 := F0 m 23 ls [.ref (a (14 + x1.toNatClampNeg))]) rfl ?_
      obtain ⟨o8, eq9, h⟩ := bnd_some h
      refine kRiV (rest := []) (q0 := (14 + x1.toNatClampNeg)) ⟨hx, hb, hml, hown, hts⟩ (c_X5_isWhole l D k a xLen xHits xUns xItems xLost xKind xSize xLet xRel xLim xOpen xMeas xSL xST xSD xSK xTal xKn xFT xFA xFE xOdds xPat xFind x1.toNatClampNeg (vp_in_lt g7) eq9) (cwV 0 hts (gAV wm_192 wm_193 wm_194 wm_15 wm_195) rfl rfl rfl qd_X5_isWhole ⟨Nat.le_of_ble_eq_true rfl, Nat.le_of_ble_eq_true rfl⟩) hK hP (wX_row (vp_in_lt g7)) rfl rfl hl.1 rfl (Nat.le_of_ble_eq_true rfl) dX10_shows_23 ⟨Nat.zero_le _, Nat.zero_le _⟩ ?_
      refine lv_if_eq (tgt := 43) hx hb dX10_shows_26 (by decide) (fun c10 => ?_) (fun c10 => ?_)
      · replace h := (if_pos c10).symm.trans h
        refine lv_bipush (v := (-3)) hx hb dX10_shows_43 (by decide) ?_
        exact W.iret (v := (-3)) hx hb hr (fun t ht hW => ⟨_, rfl, Option.some.inj h, ht⟩) (fun q hq => by cases hq) dX10_shows_45
      · replace h := (if_neg c10).symm.trans h
        refine lv_aload_n hx hb dX10_shows_29 rfl (lv_at hl 0 rfl) ?_
        refine lv_aload_n hx hb dX10_shows_30 rfl (lv_at hl 0 rfl) ?_
        refine va_get (D := D) (ci := 5) (v := .ref (a 1)) (C := RX10) (T := TX10) (N := 8) hx hb hts hi10 hown hK hP (0) (rfl) rfl 0 (by decide) kf11 (fun _ h9 => h9) rfl dX10_shows_31 ?_
        refine lv_iload_n hx hb dX10_shows_34 rfl (lv_at hl 1 rfl) ?_
        refine va_aldq hx hb hK hP (1) 2 rfl rfl g7 dX10_shows_35 ?_
        refine W.eq (g2 := F0 m 36 ls [.ref (a (14 + x1.toNatClampNeg)), .ref (a 0)]) rfl ?_
        refine lv_iload_n hx hb dX10_shows_36 rfl (lv_at hl 2 rfl) ?_
        obtain ⟨o11, eq12, h⟩ := bnd_some h
        refine kRiV (rest := []) (q0 := 0) ⟨hx, hb, hml, hown, hts⟩ (c_X10_numberOf l D k a xLen xHits xUns xItems xLost xKind xSize xLet xRel xLim xOpen xMeas xSL xST xSD xSK xTal xKn xFT xFA xFE xOdds xPat xFind x1.toNatClampNeg (vp_in_lt g7) x2 eq12) (cwV 2 hts (gAV wm_196 wm_197 wm_198 wm_2 wm_199) rfl rfl rfl qd_X10_numberOf ⟨Nat.le_of_ble_eq_true rfl, Nat.le_of_ble_eq_true rfl⟩) hK hP (rfl) rfl rfl hl.1 rfl (Nat.le_of_ble_eq_true rfl) dX10_shows_37 ⟨Nat.zero_le _, Nat.zero_le _⟩ ?_
        refine lv_goto (tgt := 45) hx hb dX10_shows_40 (by decide) ?_
        exact W.iret (v := o11) hx hb hr (fun t ht hW => ⟨_, rfl, Option.some.inj h, ht⟩) (fun q hq => by cases hq) dX10_shows_45
    · replace h := (if_pos c6).symm.trans h
      refine lv_bipush (v := (-2)) hx hb dX10_shows_14 (by decide) ?_
      exact W.iret (v := (-2)) hx hb hr (fun t ht hW => ⟨_, rfl, Option.some.inj h, ht⟩) (fun q hq => by cases hq) dX10_shows_16
set_option maxHeartbeats 4000000 in
set_option maxRecDepth 100000 in
theorem c_X10_shows {N : Nat} (l : Launch) (D : va_G) (k : Nat → ClassId) (a : Nat → Nat) (xLen : Nat → Int32) (xHits : Nat → Int32) (xUns : Nat → Int32) (xItems : Nat → Nat → Int32) (xLost : Nat → Int32) (xKind : Nat → Int32) (xSize : Nat → Int32) (xLet : Nat → Int32) (xRel : Nat → Int32) (xLim : Nat → Int32) (xOpen : Nat → Int32) (xMeas : Nat → Int32) (xSL : Int32) (xST : Int32) (xSD : Int32) (xSK : Int32) (xTal : Nat → Nat → Int32) (xKn : Nat → Int32) (xFT : Nat → Int32) (xFA : Int32) (xFE : Int32) (xOdds : Int32) (xPat : Int32) (xFind : Int32) (x1 : Int32) (x2 : Int32) {o : Int32} (h : f_X10_shows N x1 x2 xLen xHits xUns xPat = some o) : mRi l yX10_shows wo_X10_shows 4 D k [.ref (a 0), .int x1, .int x2] (wX k a xLen xHits xUns xItems xLost xKind xSize xLet xRel xLim xOpen xMeas xSL xST xSD xSK xTal xKn xFT xFA xFE xOdds xPat xFind) o := by
  refine Met.ofW (cc := cX10_shows) (maxL := 3) (ret := some .int) (by decide) rfl ?_
  intro p e s m args below meth c s₁ B hml hv
  obtain ⟨rfl, hP, hK⟩ := hv
  rw [lg_entry_eq]
  exact core_X10_shows D k a xLen xHits xUns xItems xLost xKind xSize xLet xRel xLim xOpen xMeas xSL xST xSD xSK xTal xKn xFT xFA xFE xOdds xPat xFind x1 x2 B.exec B.bytes hml B.returns (atoms_spec (ws := wo_X10_shows) B.pre) (findClass_of_methodNamed B.named) B.notSynchronized (lv_entry [.ref (a 0), .int x1, .int x2] (n := 3) (Nat.le_of_ble_eq_true rfl)) hK hP h
theorem qd_X10_shows : yX10_shows.cls = RX10 ∧ yX10_shows.cls ≠ "java/lang/invoke/MethodHandle" ∧ yX10_shows.cls ≠ "java/lang/invoke/VarHandle" ∧ (parseMethodDescriptor yX10_shows.desc).map (fun d => d.parameters.length) = some 2 := by decide +kernel
abbrev wo_X10_type : List Cond := .code yX10_type cX10_type 2 (some .int) :: wsL_law
set_option maxHeartbeats 4000000 in
set_option maxRecDepth 100000 in
theorem core_X10_type {N : Nat} (D : va_G) (k : Nat → ClassId) (a : Nat → Nat) (xLen : Nat → Int32) (xHits : Nat → Int32) (xUns : Nat → Int32) (xItems : Nat → Nat → Int32) (xLost : Nat → Int32) (xKind : Nat → Int32) (xSize : Nat → Int32) (xLet : Nat → Int32) (xRel : Nat → Int32) (xLim : Nat → Int32) (xOpen : Nat → Int32) (xMeas : Nat → Int32) (xSL : Int32) (xST : Int32) (xSD : Int32) (xSK : Int32) (xTal : Nat → Nat → Int32) (xKn : Nat → Int32) (xFT : Nat → Int32) (xFA : Int32) (xFE : Int32) (xOdds : Int32) (xPat : Int32) (xFind : Int32) (zb zv : Nat) (x1 : Int32) {p : Program} {l : Launch} {e : Env} {s : State} {m : MethodId} {args : Array Value} {below : List Frame} {meth : Method} {c : Code} {ls : Array Slot} (hx : p.tables.exec = Jvm.exec) (hb : c.code = cX10_type) (hml : c.maxLocals = 2) (hr : meth.sig.returnType = some .int) (hts : ∀ w ∈ wo_X10_type, w.before args s = true) (hown : s.vm.findClass RX10 = some m.cls) (hlocks : meth.locks = false) (hl : lv_has ls 2 [(0, .ref (a 0)), (1, .int x1)]) (hK : va_K D vwCl (xTys k) s) (hP : va_P D vwCl (wX k a xLen xHits xUns xItems xLost xKind xSize xLet xRel xLim xOpen xMeas xSL xST xSD xSK xTal xKn xFT xFA xFE xOdds xPat xFind) s.heap) {A : Nat → Prop} (hD : va_D A (wX k a xLen xHits xUns xItems xLost xKind xSize xLet xRel xLim xOpen xMeas xSL xST xSD xSK xTal xKn xFT xFA xFE xOdds xPat xFind)) (hA : ∀ q : Nat, s.heap.size ≤ q → A q) (hZ : zS zb zv A s s.heap) {o : Int32 × (Nat → Int32) × (Nat → Int32) × (Nat → Int32) × (Nat → Int32) × (Int32) × (Int32) × (Int32) × (Int32) × (Nat → Int32)} (h : f_X10_type N x1 xLet xRel xLim xOpen xSL xST xSD xSK xKn = some o) : gQi p l e wo_X10_type 7 s m args below meth c D k A o.1 (wX k a xLen xHits xUns xItems xLost xKind xSize o.2.1 o.2.2.1 o.2.2.2.1 o.2.2.2.2.1 xMeas o.2.2.2.2.2.1 o.2.2.2.2.2.2.1 o.2.2.2.2.2.2.2.1 o.2.2.2.2.2.2.2.2.1 xTal o.2.2.2.2.2.2.2.2.2 xFT xFA xFE xOdds xPat xFind) s.heap [] (F0 m 0 ls []) := by
  have hi10 := (fun w h => List.mem_cons_of_mem _ (inlX10 w h) : ∀ w ∈ wsX100, w ∈ wo_X10_type)
  have kf26 := hts _ (List.mem_cons_of_mem _ wm_23)
  have hi6 := (fun w h => List.mem_cons_of_mem _ (inlX6 w h) : ∀ w ∈ wsX60, w ∈ wo_X10_type)
  have kf109 := hts _ (List.mem_cons_of_mem _ wm_267)
  have kf33 := hts _ (List.mem_cons_of_mem _ wm_27)
  unfold f_X10_type at h
  have hS : va_S A s.heap s.heap [] := va_S.rf
  obtain ⟨H, hH⟩ : ∃ H : Heap, H = s.heap := ⟨_, rfl⟩
  obtain ⟨locs, hlc⟩ : ∃ locs : List Loc, locs = [] := ⟨_, rfl⟩
  have hS : va_S A s.heap H locs := by rw [hH, hlc]; exact va_S.rf
  have hP : va_P D vwCl (wX k a xLen xHits xUns xItems xLost xKind xSize xLet xRel xLim xOpen xMeas xSL xST xSD xSK xTal xKn xFT xFA xFE xOdds xPat xFind) H := by rw [hH]; exact hP
  suffices hGo : gQi p l e wo_X10_type 7 s m args below meth c D k A o.1 (wX k a xLen xHits xUns xItems xLost xKind xSize o.2.1 o.2.2.1 o.2.2.2.1 o.2.2.2.2.1 xMeas o.2.2.2.2.2.1 o.2.2.2.2.2.2.1 o.2.2.2.2.2.2.2.1 o.2.2.2.2.2.2.2.2.1 xTal o.2.2.2.2.2.2.2.2.2 xFT xFA xFE xOdds xPat xFind) H locs (F0 m 0 ls []) by rw [hH, hlc] at hGo; exact hGo
  refine lv_iload_n hx hb dX10_type_0 rfl (lv_at hl 1 rfl) ?_
  refine lv_if_lt (tgt := 11) hx hb dX10_type_1 (by decide) (fun c1 => ?_) (fun c1 => ?_)
  · replace h := (if_pos c1).symm.trans h
    refine lv_bipush (v := (-2)) hx hb dX10_type_11 (by decide) ?_
    have he := Option.some.inj h
    exact W.iret (v := (-2)) hx hb hr (fun t ht hW => ⟨⟨(-2), wX k a xLen xHits xUns xItems xLost xKind xSize xLet xRel xLim xOpen xMeas xSL xST xSD xSK xTal xKn xFT xFA xFE xOdds xPat xFind, rfl, ⟨(congrArg (fun z => z.1) he), (congrArg (fun z => wX k a xLen xHits xUns xItems xLost xKind xSize z.2.1 z.2.2.1 z.2.2.2.1 z.2.2.2.2.1 xMeas z.2.2.2.2.2.1 z.2.2.2.2.2.2.1 z.2.2.2.2.2.2.2.1 z.2.2.2.2.2.2.2.2.1 xTal z.2.2.2.2.2.2.2.2.2 xFT xFA xFE xOdds xPat xFind) he)⟩, by rw [ht]; exact hP, va_K.moved hW.alike hK, hD⟩, hS.F ht⟩) hS.2.2 dX10_type_13
  · replace h := (if_neg c1).symm.trans h
    refine lv_iload_n hx hb dX10_type_4 rfl (lv_at hl 1 rfl) ?_
    refine lv_sipush (v := 255) hx hb dX10_type_5 (by decide) ?_
    refine lv_icmp_le (tgt := 14) hx hb dX10_type_8 (by decide) (fun c2 => ?_) (fun c2 => ?_)
    · replace h := (if_pos c2).symm.trans h
      refine lv_aload_n hx hb dX10_type_14 rfl (lv_at hl 0 rfl) ?_
      refine va_get (D := D) (ci := 5) (v := .ref (a 3)) (C := RX10) (T := TX10) (N := 8) hx hb hts hi10 hown hK hP (0) (rfl) rfl 2 (by decide) kf26 (fun _ h9 => h9) rfl dX10_type_15 ?_
      refine va_get (D := D) (ci := 2) (v := .int xSL) (C := RX6) (T := TX6) (N := 9) hx hb hts hi6 hown hK hP (3) (rfl) rfl 5 (by decide) kf109 (fun _ h9 => h9) rfl dX10_type_18 ?_
      refine lv_bipush (v := 60) hx hb dX10_type_21 (by decide) ?_
      refine lv_icmp_lt (tgt := 29) hx hb dX10_type_23 (by decide) (fun c3 => ?_) (fun c3 => ?_)
      · replace h := (if_pos c3).symm.trans h
        refine lv_aload_n hx hb dX10_type_29 rfl (lv_at hl 0 rfl) ?_
        refine va_get (D := D) (ci := 5) (v := .ref (a 3)) (C := RX10) (T := TX10) (N := 8) hx hb hts hi10 hown hK hP (0) (rfl) rfl 2 (by decide) kf26 (fun _ h9 => h9) rfl dX10_type_30 ?_
        refine lv_iload_n hx hb dX10_type_33 rfl (lv_at hl 1 rfl) ?_
        obtain ⟨o4, eq5, h⟩ := bnd_some h
        refine kZQvV (rest := []) (q0 := 3) ⟨hx, hb, hml, hown, hts⟩ (c_X6_append l D k a xLen xHits xUns xItems xLost xKind xSize xLet xRel xLim xOpen xMeas xSL xST xSD xSK xTal xKn xFT xFA xFE xOdds xPat xFind zb zv x1 eq5) (cwV 1 hts (gAV wm_268 wm_269 wm_270 wm_22 wm_271) rfl rfl rfl qd_X6_append ⟨Nat.le_of_ble_eq_true rfl, Nat.le_of_ble_eq_true rfl⟩) hZ hK hP hD hS hA (rfl) rfl rfl hl.1 rfl (Nat.le_of_ble_eq_true rfl) dX10_type_34 ⟨Nat.zero_le _, Nat.zero_le _⟩ (fun H locs hP hD hS => ?_)
        have hP : va_P D vwCl (wX k a xLen xHits xUns xItems xLost xKind xSize o4.1 o4.2.1 o4.2.2.1 o4.2.2.2.1 xMeas o4.2.2.2.2.1 o4.2.2.2.2.2.1 o4.2.2.2.2.2.2.1 o4.2.2.2.2.2.2.2 xTal xKn xFT xFA xFE xOdds xPat xFind) H := hP
        have hD : va_D A (wX k a xLen xHits xUns xItems xLost xKind xSize o4.1 o4.2.1 o4.2.2.1 o4.2.2.2.1 xMeas o4.2.2.2.2.1 o4.2.2.2.2.2.1 o4.2.2.2.2.2.2.1 o4.2.2.2.2.2.2.2 xTal xKn xFT xFA xFE xOdds xPat xFind) := hD
        refine lv_aload_n hx hb dX10_type_37 rfl (lv_at hl 0 rfl) ?_
        refine va_get (D := D) (ci := 5) (v := .ref (a 9)) (C := RX10) (T := TX10) (N := 8) hx hb hts hi10 hown hK hP (0) (rfl) rfl 3 (by decide) kf33 (fun _ h9 => h9) rfl dX10_type_38 ?_
        obtain ⟨o6, eq7, h⟩ := bnd_some h
        refine kQvV (rest := []) (q0 := 9) ⟨hx, hb, hml, hown, hts⟩ (c_X8_forget l D k a xLen xHits xUns xItems xLost xKind xSize o4.1 o4.2.1 o4.2.2.1 o4.2.2.2.1 xMeas o4.2.2.2.2.1 o4.2.2.2.2.2.1 o4.2.2.2.2.2.2.1 o4.2.2.2.2.2.2.2 xTal xKn xFT xFA xFE xOdds xPat xFind  eq7) (cwV 0 hts (gAV wm_177 wm_178 wm_179 wm_26 wm_180) rfl rfl rfl qd_X8_forget ⟨Nat.le_of_ble_eq_true rfl, Nat.le_of_ble_eq_true rfl⟩) hK hP hD hS hA (rfl) rfl rfl hl.1 rfl (Nat.le_of_ble_eq_true rfl) dX10_type_41 ⟨Nat.zero_le _, Nat.zero_le _⟩ (fun H locs hP hD hS => ?_)
        have hP : va_P D vwCl (wX k a xLen xHits xUns xItems xLost xKind xSize o4.1 o4.2.1 o4.2.2.1 o4.2.2.2.1 xMeas o4.2.2.2.2.1 o4.2.2.2.2.2.1 o4.2.2.2.2.2.2.1 o4.2.2.2.2.2.2.2 xTal o6 xFT xFA xFE xOdds xPat xFind) H := hP
        have hD : va_D A (wX k a xLen xHits xUns xItems xLost xKind xSize o4.1 o4.2.1 o4.2.2.1 o4.2.2.2.1 xMeas o4.2.2.2.2.1 o4.2.2.2.2.2.1 o4.2.2.2.2.2.2.1 o4.2.2.2.2.2.2.2 xTal o6 xFT xFA xFE xOdds xPat xFind) := hD
        refine lv_aload_n hx hb dX10_type_44 rfl (lv_at hl 0 rfl) ?_
        refine va_get (D := D) (ci := 5) (v := .ref (a 3)) (C := RX10) (T := TX10) (N := 8) hx hb hts hi10 hown hK hP (0) (rfl) rfl 2 (by decide) kf26 (fun _ h9 => h9) rfl dX10_type_45 ?_
        refine va_get (D := D) (ci := 2) (v := .int o4.2.2.2.2.1) (C := RX6) (T := TX6) (N := 9) hx hb hts hi6 hown hK hP (3) (rfl) rfl 5 (by decide) kf109 (fun _ h9 => h9) rfl dX10_type_48 ?_
        have he := Option.some.inj h
        exact W.iret (v := o4.2.2.2.2.1) hx hb hr (fun t ht hW => ⟨⟨o4.2.2.2.2.1, wX k a xLen xHits xUns xItems xLost xKind xSize o4.1 o4.2.1 o4.2.2.1 o4.2.2.2.1 xMeas o4.2.2.2.2.1 o4.2.2.2.2.2.1 o4.2.2.2.2.2.2.1 o4.2.2.2.2.2.2.2 xTal o6 xFT xFA xFE xOdds xPat xFind, rfl, ⟨(congrArg (fun z => z.1) he), (congrArg (fun z => wX k a xLen xHits xUns xItems xLost xKind xSize z.2.1 z.2.2.1 z.2.2.2.1 z.2.2.2.2.1 xMeas z.2.2.2.2.2.1 z.2.2.2.2.2.2.1 z.2.2.2.2.2.2.2.1 z.2.2.2.2.2.2.2.2.1 xTal z.2.2.2.2.2.2.2.2.2 xFT xFA xFE xOdds xPat xFind) he)⟩, by rw [ht]; exact hP, va_K.moved hW.alike hK, hD⟩, hS.F ht⟩) hS.2.2 dX10_type_51
      · replace h := (if_neg c3).symm.trans h
        refine lv_bipush (v := (-4)) hx hb dX10_type_26 (by decide) ?_
        have he := Option.some.inj h
        exact W.iret (v := (-4)) hx hb hr (fun t ht hW => ⟨⟨(-4), wX k a xLen xHits xUns xItems xLost xKind xSize xLet xRel xLim xOpen xMeas xSL xST xSD xSK xTal xKn xFT xFA xFE xOdds xPat xFind, rfl, ⟨(congrArg (fun z => z.1) he), (congrArg (fun z => wX k a xLen xHits xUns xItems xLost xKind xSize z.2.1 z.2.2.1 z.2.2.2.1 z.2.2.2.2.1 xMeas z.2.2.2.2.2.1 z.2.2.2.2.2.2.1 z.2.2.2.2.2.2.2.1 z.2.2.2.2.2.2.2.2.1 xTal z.2.2.2.2.2.2.2.2.2 xFT xFA xFE xOdds xPat xFind) he)⟩, by rw [ht]; exact hP, va_K.moved hW.alike hK, hD⟩, hS.F ht⟩) hS.2.2 dX10_type_28
    · replace h := (if_neg c2).symm.trans h
      refine lv_bipush (v := (-2)) hx hb dX10_type_11 (by decide) ?_
      have he := Option.some.inj h
      exact W.iret (v := (-2)) hx hb hr (fun t ht hW => ⟨⟨(-2), wX k a xLen xHits xUns xItems xLost xKind xSize xLet xRel xLim xOpen xMeas xSL xST xSD xSK xTal xKn xFT xFA xFE xOdds xPat xFind, rfl, ⟨(congrArg (fun z => z.1) he), (congrArg (fun z => wX k a xLen xHits xUns xItems xLost xKind xSize z.2.1 z.2.2.1 z.2.2.2.1 z.2.2.2.2.1 xMeas z.2.2.2.2.2.1 z.2.2.2.2.2.2.1 z.2.2.2.2.2.2.2.1 z.2.2.2.2.2.2.2.2.1 xTal z.2.2.2.2.2.2.2.2.2 xFT xFA xFE xOdds xPat xFind) he)⟩, by rw [ht]; exact hP, va_K.moved hW.alike hK, hD⟩, hS.F ht⟩) hS.2.2 dX10_type_13
set_option maxHeartbeats 4000000 in
set_option maxRecDepth 100000 in
theorem c_X10_type {N : Nat} (l : Launch) (D : va_G) (k : Nat → ClassId) (a : Nat → Nat) (xLen : Nat → Int32) (xHits : Nat → Int32) (xUns : Nat → Int32) (xItems : Nat → Nat → Int32) (xLost : Nat → Int32) (xKind : Nat → Int32) (xSize : Nat → Int32) (xLet : Nat → Int32) (xRel : Nat → Int32) (xLim : Nat → Int32) (xOpen : Nat → Int32) (xMeas : Nat → Int32) (xSL : Int32) (xST : Int32) (xSD : Int32) (xSK : Int32) (xTal : Nat → Nat → Int32) (xKn : Nat → Int32) (xFT : Nat → Int32) (xFA : Int32) (xFE : Int32) (xOdds : Int32) (xPat : Int32) (xFind : Int32) (zb zv : Nat) (x1 : Int32) {o : Int32 × (Nat → Int32) × (Nat → Int32) × (Nat → Int32) × (Nat → Int32) × (Int32) × (Int32) × (Int32) × (Int32) × (Nat → Int32)} (h : f_X10_type N x1 xLet xRel xLim xOpen xSL xST xSD xSK xKn = some o) : zQi l yX10_type wo_X10_type 7 zb zv D k [.ref (a 0), .int x1] (wX k a xLen xHits xUns xItems xLost xKind xSize xLet xRel xLim xOpen xMeas xSL xST xSD xSK xTal xKn xFT xFA xFE xOdds xPat xFind) o.1 (wX k a xLen xHits xUns xItems xLost xKind xSize o.2.1 o.2.2.1 o.2.2.2.1 o.2.2.2.2.1 xMeas o.2.2.2.2.2.1 o.2.2.2.2.2.2.1 o.2.2.2.2.2.2.2.1 o.2.2.2.2.2.2.2.2.1 xTal o.2.2.2.2.2.2.2.2.2 xFT xFA xFE xOdds xPat xFind) := by
  intro sz
  refine Met.ofW (cc := cX10_type) (maxL := 2) (ret := some .int) (by decide) rfl ?_
  intro p e s m args below meth c s₁ B hml hv
  obtain ⟨rfl, hsz, hP, hK, hD0, hZ⟩ := hv
  subst hsz
  rw [lg_entry_eq]
  exact core_X10_type D k a xLen xHits xUns xItems xLost xKind xSize xLet xRel xLim xOpen xMeas xSL xST xSD xSK xTal xKn xFT xFA xFE xOdds xPat xFind zb zv x1 B.exec B.bytes hml B.returns (atoms_spec (ws := wo_X10_type) B.pre) (findClass_of_methodNamed B.named) B.notSynchronized (lv_entry [.ref (a 0), .int x1] (n := 2) (Nat.le_of_ble_eq_true rfl)) hK hP hD0.self (fun q h => Or.inr h) hZ h
theorem qd_X10_type : yX10_type.cls = RX10 ∧ yX10_type.cls ≠ "java/lang/invoke/MethodHandle" ∧ yX10_type.cls ≠ "java/lang/invoke/VarHandle" ∧ (parseMethodDescriptor yX10_type.desc).map (fun d => d.parameters.length) = some 1 := by decide +kernel
abbrev wo_X10_wipe : List Cond := .code yX10_wipe cX10_wipe 2 (some .int) :: wsL_law
set_option maxHeartbeats 4000000 in
set_option maxRecDepth 100000 in
theorem core_X10_wipe {N : Nat} (D : va_G) (k : Nat → ClassId) (a : Nat → Nat) (xLen : Nat → Int32) (xHits : Nat → Int32) (xUns : Nat → Int32) (xItems : Nat → Nat → Int32) (xLost : Nat → Int32) (xKind : Nat → Int32) (xSize : Nat → Int32) (xLet : Nat → Int32) (xRel : Nat → Int32) (xLim : Nat → Int32) (xOpen : Nat → Int32) (xMeas : Nat → Int32) (xSL : Int32) (xST : Int32) (xSD : Int32) (xSK : Int32) (xTal : Nat → Nat → Int32) (xKn : Nat → Int32) (xFT : Nat → Int32) (xFA : Int32) (xFE : Int32) (xOdds : Int32) (xPat : Int32) (xFind : Int32)  {p : Program} {l : Launch} {e : Env} {s : State} {m : MethodId} {args : Array Value} {below : List Frame} {meth : Method} {c : Code} {ls : Array Slot} (hx : p.tables.exec = Jvm.exec) (hb : c.code = cX10_wipe) (hml : c.maxLocals = 2) (hr : meth.sig.returnType = some .int) (hts : ∀ w ∈ wo_X10_wipe, w.before args s = true) (hown : s.vm.findClass RX10 = some m.cls) (hlocks : meth.locks = false) (hl : lv_has ls 2 [(0, .ref (a 0))]) (hK : va_K D vwCl (xTys k) s) (hP : va_P D vwCl (wX k a xLen xHits xUns xItems xLost xKind xSize xLet xRel xLim xOpen xMeas xSL xST xSD xSK xTal xKn xFT xFA xFE xOdds xPat xFind) s.heap) {A : Nat → Prop} (hD : va_D A (wX k a xLen xHits xUns xItems xLost xKind xSize xLet xRel xLim xOpen xMeas xSL xST xSD xSK xTal xKn xFT xFA xFE xOdds xPat xFind)) (hA : ∀ q : Nat, s.heap.size ≤ q → A q) {o : Int32 × (Int32) × (Int32) × (Int32) × (Int32) × (Nat → Int32)} (h : f_X10_wipe N xSL xST xSD xSK xKn = some o) : gQi p l e wo_X10_wipe 1 s m args below meth c D k A o.1 (wX k a xLen xHits xUns xItems xLost xKind xSize xLet xRel xLim xOpen xMeas o.2.1 o.2.2.1 o.2.2.2.1 o.2.2.2.2.1 xTal o.2.2.2.2.2 xFT xFA xFE xOdds xPat xFind) s.heap [] (F0 m 0 ls []) := by
  have hi10 := (fun w h => List.mem_cons_of_mem _ (inlX10 w h) : ∀ w ∈ wsX100, w ∈ wo_X10_wipe)
  have kf26 := hts _ (List.mem_cons_of_mem _ wm_23)
  have hi6 := (fun w h => List.mem_cons_of_mem _ (inlX6 w h) : ∀ w ∈ wsX60, w ∈ wo_X10_wipe)
  have kf109 := hts _ (List.mem_cons_of_mem _ wm_267)
  have kf33 := hts _ (List.mem_cons_of_mem _ wm_27)
  unfold f_X10_wipe at h
  have hS : va_S A s.heap s.heap [] := va_S.rf
  obtain ⟨H, hH⟩ : ∃ H : Heap, H = s.heap := ⟨_, rfl⟩
  obtain ⟨locs, hlc⟩ : ∃ locs : List Loc, locs = [] := ⟨_, rfl⟩
  have hS : va_S A s.heap H locs := by rw [hH, hlc]; exact va_S.rf
  have hP : va_P D vwCl (wX k a xLen xHits xUns xItems xLost xKind xSize xLet xRel xLim xOpen xMeas xSL xST xSD xSK xTal xKn xFT xFA xFE xOdds xPat xFind) H := by rw [hH]; exact hP
  suffices hGo : gQi p l e wo_X10_wipe 1 s m args below meth c D k A o.1 (wX k a xLen xHits xUns xItems xLost xKind xSize xLet xRel xLim xOpen xMeas o.2.1 o.2.2.1 o.2.2.2.1 o.2.2.2.2.1 xTal o.2.2.2.2.2 xFT xFA xFE xOdds xPat xFind) H locs (F0 m 0 ls []) by rw [hH, hlc] at hGo; exact hGo
  refine lv_aload_n hx hb dX10_wipe_0 rfl (lv_at hl 0 rfl) ?_
  refine va_get (D := D) (ci := 5) (v := .ref (a 3)) (C := RX10) (T := TX10) (N := 8) hx hb hts hi10 hown hK hP (0) (rfl) rfl 2 (by decide) kf26 (fun _ h9 => h9) rfl dX10_wipe_1 ?_
  refine va_get (D := D) (ci := 2) (v := .int xSL) (C := RX6) (T := TX6) (N := 9) hx hb hts hi6 hown hK hP (3) (rfl) rfl 5 (by decide) kf109 (fun _ h9 => h9) rfl dX10_wipe_4 ?_
  refine lv_istore_n (lv' := [(1, .int xSL), (0, .ref (a 0))]) hx hb dX10_wipe_7 rfl hl (by decide) rfl (fun ls hl => ?_)
  refine lv_aload_n hx hb dX10_wipe_8 rfl (lv_at hl 1 rfl) ?_
  refine va_get (D := D) (ci := 5) (v := .ref (a 3)) (C := RX10) (T := TX10) (N := 8) hx hb hts hi10 hown hK hP (0) (rfl) rfl 2 (by decide) kf26 (fun _ h9 => h9) rfl dX10_wipe_9 ?_
  obtain ⟨o1, eq2, h⟩ := bnd_some h
  refine kQvV (rest := []) (q0 := 3) ⟨hx, hb, hml, hown, hts⟩ (c_X6_empty l D k a xLen xHits xUns xItems xLost xKind xSize xLet xRel xLim xOpen xMeas xSL xST xSD xSK xTal xKn xFT xFA xFE xOdds xPat xFind  eq2) (cwV 0 hts (gAV wm_395 wm_396 wm_397 wm_22 wm_398) rfl rfl rfl qd_X6_empty ⟨Nat.le_of_ble_eq_true rfl, Nat.le_of_ble_eq_true rfl⟩) hK hP hD hS hA (rfl) rfl rfl hl.1 rfl (Nat.le_of_ble_eq_true rfl) dX10_wipe_12 ⟨Nat.zero_le _, Nat.zero_le _⟩ (fun H locs hP hD hS => ?_)
  have hP : va_P D vwCl (wX k a xLen xHits xUns xItems xLost xKind xSize xLet xRel xLim xOpen xMeas o1.1 o1.2.1 o1.2.2.1 o1.2.2.2 xTal xKn xFT xFA xFE xOdds xPat xFind) H := hP
  have hD : va_D A (wX k a xLen xHits xUns xItems xLost xKind xSize xLet xRel xLim xOpen xMeas o1.1 o1.2.1 o1.2.2.1 o1.2.2.2 xTal xKn xFT xFA xFE xOdds xPat xFind) := hD
  refine lv_aload_n hx hb dX10_wipe_15 rfl (lv_at hl 1 rfl) ?_
  refine va_get (D := D) (ci := 5) (v := .ref (a 9)) (C := RX10) (T := TX10) (N := 8) hx hb hts hi10 hown hK hP (0) (rfl) rfl 3 (by decide) kf33 (fun _ h9 => h9) rfl dX10_wipe_16 ?_
  obtain ⟨o3, eq4, h⟩ := bnd_some h
  refine kQvV (rest := []) (q0 := 9) ⟨hx, hb, hml, hown, hts⟩ (c_X8_forget l D k a xLen xHits xUns xItems xLost xKind xSize xLet xRel xLim xOpen xMeas o1.1 o1.2.1 o1.2.2.1 o1.2.2.2 xTal xKn xFT xFA xFE xOdds xPat xFind  eq4) (cwV 0 hts (gAV wm_177 wm_178 wm_179 wm_26 wm_180) rfl rfl rfl qd_X8_forget ⟨Nat.le_of_ble_eq_true rfl, Nat.le_of_ble_eq_true rfl⟩) hK hP hD hS hA (rfl) rfl rfl hl.1 rfl (Nat.le_of_ble_eq_true rfl) dX10_wipe_19 ⟨Nat.zero_le _, Nat.zero_le _⟩ (fun H locs hP hD hS => ?_)
  have hP : va_P D vwCl (wX k a xLen xHits xUns xItems xLost xKind xSize xLet xRel xLim xOpen xMeas o1.1 o1.2.1 o1.2.2.1 o1.2.2.2 xTal o3 xFT xFA xFE xOdds xPat xFind) H := hP
  have hD : va_D A (wX k a xLen xHits xUns xItems xLost xKind xSize xLet xRel xLim xOpen xMeas o1.1 o1.2.1 o1.2.2.1 o1.2.2.2 xTal o3 xFT xFA xFE xOdds xPat xFind) := hD
  refine lv_iload_n hx hb dX10_wipe_22 rfl (lv_at hl 0 rfl) ?_
  have he := Option.some.inj h
  exact W.iret (v := xSL) hx hb hr (fun t ht hW => ⟨⟨xSL, wX k a xLen xHits xUns xItems xLost xKind xSize xLet xRel xLim xOpen xMeas o1.1 o1.2.1 o1.2.2.1 o1.2.2.2 xTal o3 xFT xFA xFE xOdds xPat xFind, rfl, ⟨(congrArg (fun z => z.1) he), (congrArg (fun z => wX k a xLen xHits xUns xItems xLost xKind xSize xLet xRel xLim xOpen xMeas z.2.1 z.2.2.1 z.2.2.2.1 z.2.2.2.2.1 xTal z.2.2.2.2.2 xFT xFA xFE xOdds xPat xFind) he)⟩, by rw [ht]; exact hP, va_K.moved hW.alike hK, hD⟩, hS.F ht⟩) hS.2.2 dX10_wipe_23
set_option maxHeartbeats 4000000 in
set_option maxRecDepth 100000 in
theorem c_X10_wipe {N : Nat} (l : Launch) (D : va_G) (k : Nat → ClassId) (a : Nat → Nat) (xLen : Nat → Int32) (xHits : Nat → Int32) (xUns : Nat → Int32) (xItems : Nat → Nat → Int32) (xLost : Nat → Int32) (xKind : Nat → Int32) (xSize : Nat → Int32) (xLet : Nat → Int32) (xRel : Nat → Int32) (xLim : Nat → Int32) (xOpen : Nat → Int32) (xMeas : Nat → Int32) (xSL : Int32) (xST : Int32) (xSD : Int32) (xSK : Int32) (xTal : Nat → Nat → Int32) (xKn : Nat → Int32) (xFT : Nat → Int32) (xFA : Int32) (xFE : Int32) (xOdds : Int32) (xPat : Int32) (xFind : Int32)  {o : Int32 × (Int32) × (Int32) × (Int32) × (Int32) × (Nat → Int32)} (h : f_X10_wipe N xSL xST xSD xSK xKn = some o) : mQi l yX10_wipe wo_X10_wipe 1 D k [.ref (a 0)] (wX k a xLen xHits xUns xItems xLost xKind xSize xLet xRel xLim xOpen xMeas xSL xST xSD xSK xTal xKn xFT xFA xFE xOdds xPat xFind) o.1 (wX k a xLen xHits xUns xItems xLost xKind xSize xLet xRel xLim xOpen xMeas o.2.1 o.2.2.1 o.2.2.2.1 o.2.2.2.2.1 xTal o.2.2.2.2.2 xFT xFA xFE xOdds xPat xFind) := by
  intro sz
  refine Met.ofW (cc := cX10_wipe) (maxL := 2) (ret := some .int) (by decide) rfl ?_
  intro p e s m args below meth c s₁ B hml hv
  obtain ⟨rfl, hsz, hP, hK, hD0⟩ := hv
  subst hsz
  rw [lg_entry_eq]
  exact core_X10_wipe D k a xLen xHits xUns xItems xLost xKind xSize xLet xRel xLim xOpen xMeas xSL xST xSD xSK xTal xKn xFT xFA xFE xOdds xPat xFind  B.exec B.bytes hml B.returns (atoms_spec (ws := wo_X10_wipe) B.pre) (findClass_of_methodNamed B.named) B.notSynchronized (lv_entry [.ref (a 0)] (n := 2) (Nat.le_of_ble_eq_true rfl)) hK hP hD0.self (fun q h => Or.inr h) h
theorem qd_X10_wipe : yX10_wipe.cls = RX10 ∧ yX10_wipe.cls ≠ "java/lang/invoke/MethodHandle" ∧ yX10_wipe.cls ≠ "java/lang/invoke/VarHandle" ∧ (parseMethodDescriptor yX10_wipe.desc).map (fun d => d.parameters.length) = some 0 := by decide +kernel
abbrev wo_X10_fault : List Cond := .code yX10_fault cX10_fault 1 (some .int) :: wsL_law
set_option maxHeartbeats 4000000 in
set_option maxRecDepth 100000 in
theorem core_X10_fault (D : va_G) (k : Nat → ClassId) (a : Nat → Nat) (xLen : Nat → Int32) (xHits : Nat → Int32) (xUns : Nat → Int32) (xItems : Nat → Nat → Int32) (xLost : Nat → Int32) (xKind : Nat → Int32) (xSize : Nat → Int32) (xLet : Nat → Int32) (xRel : Nat → Int32) (xLim : Nat → Int32) (xOpen : Nat → Int32) (xMeas : Nat → Int32) (xSL : Int32) (xST : Int32) (xSD : Int32) (xSK : Int32) (xTal : Nat → Nat → Int32) (xKn : Nat → Int32) (xFT : Nat → Int32) (xFA : Int32) (xFE : Int32) (xOdds : Int32) (xPat : Int32) (xFind : Int32)  {p : Program} {l : Launch} {e : Env} {s : State} {m : MethodId} {args : Array Value} {below : List Frame} {meth : Method} {c : Code} {ls : Array Slot} (hx : p.tables.exec = Jvm.exec) (hb : c.code = cX10_fault) (hml : c.maxLocals = 1) (hr : meth.sig.returnType = some .int) (hts : ∀ w ∈ wo_X10_fault, w.before args s = true) (hown : s.vm.findClass RX10 = some m.cls) (hlocks : meth.locks = false) (hl : lv_has ls 1 [(0, .ref (a 0))]) (hK : va_K D vwCl (xTys k) s) (hP : va_P D vwCl (wX k a xLen xHits xUns xItems xLost xKind xSize xLet xRel xLim xOpen xMeas xSL xST xSD xSK xTal xKn xFT xFA xFE xOdds xPat xFind) s.heap) {o : Int32} (h : f_X10_fault xSL xSD xSK = some o) : gRi p l e wo_X10_fault 1 s m args below meth c o (F0 m 0 ls []) := by
  have hi10 := (fun w h => List.mem_cons_of_mem _ (inlX10 w h) : ∀ w ∈ wsX100, w ∈ wo_X10_fault)
  have kf26 := hts _ (List.mem_cons_of_mem _ wm_23)
  unfold f_X10_fault at h
  refine lv_aload_n hx hb dX10_fault_0 rfl (lv_at hl 0 rfl) ?_
  refine va_get (D := D) (ci := 5) (v := .ref (a 3)) (C := RX10) (T := TX10) (N := 8) hx hb hts hi10 hown hK hP (0) (rfl) rfl 2 (by decide) kf26 (fun _ h9 => h9) rfl dX10_fault_1 ?_
  obtain ⟨o1, eq2, h⟩ := bnd_some h
  refine kRiV (rest := []) (q0 := 3) ⟨hx, hb, hml, hown, hts⟩ (c_X6_faultPlace l D k a xLen xHits xUns xItems xLost xKind xSize xLet xRel xLim xOpen xMeas xSL xST xSD xSK xTal xKn xFT xFA xFE xOdds xPat xFind  eq2) (cwV 0 hts (gAV wm_407 wm_408 wm_409 wm_22 wm_410) rfl rfl rfl qd_X6_faultPlace ⟨Nat.le_of_ble_eq_true rfl, Nat.le_of_ble_eq_true rfl⟩) hK hP (rfl) rfl rfl hl.1 rfl (Nat.le_of_ble_eq_true rfl) dX10_fault_4 ⟨Nat.zero_le _, Nat.zero_le _⟩ ?_
  exact W.iret (v := o1) hx hb hr (fun t ht hW => ⟨_, rfl, Option.some.inj h, ht⟩) (fun q hq => by cases hq) dX10_fault_7
set_option maxHeartbeats 4000000 in
set_option maxRecDepth 100000 in
theorem c_X10_fault (l : Launch) (D : va_G) (k : Nat → ClassId) (a : Nat → Nat) (xLen : Nat → Int32) (xHits : Nat → Int32) (xUns : Nat → Int32) (xItems : Nat → Nat → Int32) (xLost : Nat → Int32) (xKind : Nat → Int32) (xSize : Nat → Int32) (xLet : Nat → Int32) (xRel : Nat → Int32) (xLim : Nat → Int32) (xOpen : Nat → Int32) (xMeas : Nat → Int32) (xSL : Int32) (xST : Int32) (xSD : Int32) (xSK : Int32) (xTal : Nat → Nat → Int32) (xKn : Nat → Int32) (xFT : Nat → Int32) (xFA : Int32) (xFE : Int32) (xOdds : Int32) (xPat : Int32) (xFind : Int32)  {o : Int32} (h : f_X10_fault xSL xSD xSK = some o) : mRi l yX10_fault wo_X10_fault 1 D k [.ref (a 0)] (wX k a xLen xHits xUns xItems xLost xKind xSize xLet xRel xLim xOpen xMeas xSL xST xSD xSK xTal xKn xFT xFA xFE xOdds xPat xFind) o := by
  refine Met.ofW (cc := cX10_fault) (maxL := 1) (ret := some .int) (by decide) rfl ?_
  intro p e s m args below meth c s₁ B hml hv
  obtain ⟨rfl, hP, hK⟩ := hv
  rw [lg_entry_eq]
  exact core_X10_fault D k a xLen xHits xUns xItems xLost xKind xSize xLet xRel xLim xOpen xMeas xSL xST xSD xSK xTal xKn xFT xFA xFE xOdds xPat xFind  B.exec B.bytes hml B.returns (atoms_spec (ws := wo_X10_fault) B.pre) (findClass_of_methodNamed B.named) B.notSynchronized (lv_entry [.ref (a 0)] (n := 1) (Nat.le_of_ble_eq_true rfl)) hK hP h
theorem qd_X10_fault : yX10_fault.cls = RX10 ∧ yX10_fault.cls ≠ "java/lang/invoke/MethodHandle" ∧ yX10_fault.cls ≠ "java/lang/invoke/VarHandle" ∧ (parseMethodDescriptor yX10_fault.desc).map (fun d => d.parameters.length) = some 0 := by decide +kernel
abbrev wo_X10_holds : List Cond := .code yX10_holds cX10_holds 3 (some .int) :: wsL_law
set_option maxHeartbeats 4000000 in
set_option maxRecDepth 100000 in
theorem core_X10_holds {N : Nat} (D : va_G) (k : Nat → ClassId) (a : Nat → Nat) (xLen : Nat → Int32) (xHits : Nat → Int32) (xUns : Nat → Int32) (xItems : Nat → Nat → Int32) (xLost : Nat → Int32) (xKind : Nat → Int32) (xSize : Nat → Int32) (xLet : Nat → Int32) (xRel : Nat → Int32) (xLim : Nat → Int32) (xOpen : Nat → Int32) (xMeas : Nat → Int32) (xSL : Int32) (xST : Int32) (xSD : Int32) (xSK : Int32) (xTal : Nat → Nat → Int32) (xKn : Nat → Int32) (xFT : Nat → Int32) (xFA : Int32) (xFE : Int32) (xOdds : Int32) (xPat : Int32) (xFind : Int32) (x1 : Int32) {p : Program} {l : Launch} {e : Env} {s : State} {m : MethodId} {args : Array Value} {below : List Frame} {meth : Method} {c : Code} {ls : Array Slot} (hx : p.tables.exec = Jvm.exec) (hb : c.code = cX10_holds) (hml : c.maxLocals = 3) (hr : meth.sig.returnType = some .int) (hts : ∀ w ∈ wo_X10_holds, w.before args s = true) (hown : s.vm.findClass RX10 = some m.cls) (hlocks : meth.locks = false) (hl : lv_has ls 3 [(0, .ref (a 0)), (1, .int x1)]) (hK : va_K D vwCl (xTys k) s) (hP : va_P D vwCl (wX k a xLen xHits xUns xItems xLost xKind xSize xLet xRel xLim xOpen xMeas xSL xST xSD xSK xTal xKn xFT xFA xFE xOdds xPat xFind) s.heap) {A : Nat → Prop} (hD : va_D A (wX k a xLen xHits xUns xItems xLost xKind xSize xLet xRel xLim xOpen xMeas xSL xST xSD xSK xTal xKn xFT xFA xFE xOdds xPat xFind)) (hA : ∀ q : Nat, s.heap.size ≤ q → A q) {o : Int32 × (Nat → Int32)} (h : f_X10_holds N x1 xLen xHits xUns xLet xRel xLim xOpen xMeas xSL xST xSD xSK xPat = some o) : gQi p l e wo_X10_holds 4 s m args below meth c D k A o.1 (wX k a xLen xHits xUns xItems xLost xKind xSize xLet xRel xLim xOpen o.2 xSL xST xSD xSK xTal xKn xFT xFA xFE xOdds xPat xFind) s.heap [] (F0 m 0 ls []) := by
  have hi10 := (fun w h => List.mem_cons_of_mem _ (inlX10 w h) : ∀ w ∈ wsX100, w ∈ wo_X10_holds)
  have kf11 := hts _ (List.mem_cons_of_mem _ wm_13)
  have kf26 := hts _ (List.mem_cons_of_mem _ wm_23)
  have hi5 := (fun w h => List.mem_cons_of_mem _ (inlX5 w h) : ∀ w ∈ wsX50, w ∈ wo_X10_holds)
  have kf69 := hts _ (List.mem_cons_of_mem _ wm_91)
  have kf119 := hts _ (List.mem_cons_of_mem _ wm_200)
  have kf48 := hts _ (List.mem_cons_of_mem _ wm_33)
  unfold f_X10_holds at h
  have hS : va_S A s.heap s.heap [] := va_S.rf
  obtain ⟨H, hH⟩ : ∃ H : Heap, H = s.heap := ⟨_, rfl⟩
  obtain ⟨locs, hlc⟩ : ∃ locs : List Loc, locs = [] := ⟨_, rfl⟩
  have hS : va_S A s.heap H locs := by rw [hH, hlc]; exact va_S.rf
  have hP : va_P D vwCl (wX k a xLen xHits xUns xItems xLost xKind xSize xLet xRel xLim xOpen xMeas xSL xST xSD xSK xTal xKn xFT xFA xFE xOdds xPat xFind) H := by rw [hH]; exact hP
  suffices hGo : gQi p l e wo_X10_holds 4 s m args below meth c D k A o.1 (wX k a xLen xHits xUns xItems xLost xKind xSize xLet xRel xLim xOpen o.2 xSL xST xSD xSK xTal xKn xFT xFA xFE xOdds xPat xFind) H locs (F0 m 0 ls []) by rw [hH, hlc] at hGo; exact hGo
  refine lv_iload_n hx hb dX10_holds_0 rfl (lv_at hl 1 rfl) ?_
  obtain ⟨o1, eq2, h⟩ := bnd_some h
  refine kPi (rest := []) ⟨hx, hb, hml, hown, hts⟩ (c_X10_isRow l x1 eq2) (va_cwS 1 hts (gAS wm_92 wm_93 wm_2 wm_94) rfl rfl rfl qd_X10_isRow ⟨Nat.le_of_ble_eq_true rfl, Nat.le_of_ble_eq_true rfl⟩) rfl hl.1 rfl (Nat.le_of_ble_eq_true rfl) dX10_holds_1 ⟨Nat.zero_le _, Nat.zero_le _⟩ ?_
  refine lv_if_ne (tgt := 10) hx hb dX10_holds_4 (by decide) (fun c3 => ?_) (fun c3 => ?_)
  · replace h := (if_neg c3).symm.trans h
    refine lv_aload_n hx hb dX10_holds_10 rfl (lv_at hl 0 rfl) ?_
    refine va_get (D := D) (ci := 5) (v := .ref (a 1)) (C := RX10) (T := TX10) (N := 8) hx hb hts hi10 hown hK hP (0) (rfl) rfl 0 (by decide) kf11 (fun _ h9 => h9) rfl dX10_holds_11 ?_
    refine lv_iload_n hx hb dX10_holds_14 rfl (lv_at hl 1 rfl) ?_
    obtain ⟨g4, h⟩ := gIn_some h
    refine va_aldq hx hb hK hP (1) 2 rfl rfl g4 dX10_holds_15 ?_
    refine W.eq (g2 := F0 m 16 ls [.ref (a (14 + x1.toNatClampNeg))]) rfl ?_
    refine lv_astore_n (lv' := [(2, .ref (a (14 + x1.toNatClampNeg))), (0, .ref (a 0)), (1, .int x1)]) hx hb dX10_holds_16 rfl hl (by decide) rfl (fun ls hl => ?_)
    refine lv_aload_n hx hb dX10_holds_17 rfl (lv_at hl 0 rfl) ?_
    obtain ⟨o5, eq6, h⟩ := bnd_some h
    refine kRiV (rest := []) (q0 := (14 + x1.toNatClampNeg)) ⟨hx, hb, hml, hown, hts⟩ (c_X5_isWhole l D k a xLen xHits xUns xItems xLost xKind xSize xLet xRel xLim xOpen xMeas xSL xST xSD xSK xTal xKn xFT xFA xFE xOdds xPat xFind x1.toNatClampNeg (vp_in_lt g4) eq6) (cwV 0 hts (gAV wm_192 wm_193 wm_194 wm_15 wm_195) rfl rfl rfl qd_X5_isWhole ⟨Nat.le_of_ble_eq_true rfl, Nat.le_of_ble_eq_true rfl⟩) hK hP (wX_row (vp_in_lt g4)) rfl rfl hl.1 rfl (Nat.le_of_ble_eq_true rfl) dX10_holds_18 ⟨Nat.zero_le _, Nat.zero_le _⟩ ?_
    refine lv_if_eq (tgt := 34) hx hb dX10_holds_21 (by decide) (fun c7 => ?_) (fun c7 => ?_)
    · replace h := (if_pos c7).symm.trans h
      refine lv_bipush (v := (-3)) hx hb dX10_holds_34 (by decide) ?_
      have he := Option.some.inj h
      exact W.iret (v := (-3)) hx hb hr (fun t ht hW => ⟨⟨(-3), wX k a xLen xHits xUns xItems xLost xKind xSize xLet xRel xLim xOpen xMeas xSL xST xSD xSK xTal xKn xFT xFA xFE xOdds xPat xFind, rfl, ⟨(congrArg (fun z => z.1) he), (congrArg (fun z => wX k a xLen xHits xUns xItems xLost xKind xSize xLet xRel xLim xOpen z.2 xSL xST xSD xSK xTal xKn xFT xFA xFE xOdds xPat xFind) he)⟩, by rw [ht]; exact hP, va_K.moved hW.alike hK, hD⟩, hS.F ht⟩) hS.2.2 dX10_holds_36
    · replace h := (if_neg c7).symm.trans h
      refine lv_aload_n hx hb dX10_holds_24 rfl (lv_at hl 1 rfl) ?_
      refine va_get (D := D) (ci := 5) (v := .ref (a 3)) (C := RX10) (T := TX10) (N := 8) hx hb hts hi10 hown hK hP (0) (rfl) rfl 2 (by decide) kf26 (fun _ h9 => h9) rfl dX10_holds_25 ?_
      obtain ⟨o8, eq9, h⟩ := bnd_some h
      refine kRiV (rest := []) (q0 := 3) ⟨hx, hb, hml, hown, hts⟩ (c_X6_isFaulty l D k a xLen xHits xUns xItems xLost xKind xSize xLet xRel xLim xOpen xMeas xSL xST xSD xSK xTal xKn xFT xFA xFE xOdds xPat xFind  eq9) (cwV 0 hts (gAV wm_437 wm_438 wm_439 wm_22 wm_440) rfl rfl rfl qd_X6_isFaulty ⟨Nat.le_of_ble_eq_true rfl, Nat.le_of_ble_eq_true rfl⟩) hK hP (rfl) rfl rfl hl.1 rfl (Nat.le_of_ble_eq_true rfl) dX10_holds_28 ⟨Nat.zero_le _, Nat.zero_le _⟩ ?_
      refine lv_if_eq (tgt := 37) hx hb dX10_holds_31 (by decide) (fun c10 => ?_) (fun c10 => ?_)
      · replace h := (if_pos c10).symm.trans h
        refine lv_aload_n hx hb dX10_holds_37 rfl (lv_at hl 1 rfl) ?_
        refine va_get (D := D) (ci := 5) (v := .ref (a 3)) (C := RX10) (T := TX10) (N := 8) hx hb hts hi10 hown hK hP (0) (rfl) rfl 2 (by decide) kf26 (fun _ h9 => h9) rfl dX10_holds_38 ?_
        refine lv_aload_n hx hb dX10_holds_41 rfl (lv_at hl 0 rfl) ?_
        refine va_get (D := D) (ci := 1) (v := .int (xLen x1.toNatClampNeg)) (C := RX5) (T := TX5) (N := 3) hx hb hts hi5 hown hK hP ((14 + x1.toNatClampNeg)) (wX_row (vp_in_lt g4)) rfl 0 (by decide) kf69 (fun _ h9 => h9) rfl dX10_holds_42 ?_
        refine lv_aload_n hx hb dX10_holds_45 rfl (lv_at hl 0 rfl) ?_
        refine va_get (D := D) (ci := 1) (v := .int (xHits x1.toNatClampNeg)) (C := RX5) (T := TX5) (N := 3) hx hb hts hi5 hown hK hP ((14 + x1.toNatClampNeg)) (wX_row (vp_in_lt g4)) rfl 1 (by decide) kf119 (fun _ h9 => h9) rfl dX10_holds_46 ?_
        refine lv_aload_n hx hb dX10_holds_49 rfl (lv_at hl 1 rfl) ?_
        refine va_get (D := D) (ci := 5) (v := .int xPat) (C := RX10) (T := TX10) (N := 8) hx hb hts hi10 hown hK hP (0) (rfl) rfl 6 (by decide) kf48 (fun _ h9 => h9) rfl dX10_holds_50 ?_
        obtain ⟨o11, eq12, h⟩ := bnd_some h
        refine kQiV (rest := []) (q0 := 3) ⟨hx, hb, hml, hown, hts⟩ (c_X6_hold l D k a xLen xHits xUns xItems xLost xKind xSize xLet xRel xLim xOpen xMeas xSL xST xSD xSK xTal xKn xFT xFA xFE xOdds xPat xFind (xLen x1.toNatClampNeg) (xHits x1.toNatClampNeg) xPat eq12) (cwV 3 hts (gAV wm_442 wm_443 wm_444 wm_22 wm_445) rfl rfl rfl qd_X6_hold ⟨Nat.le_of_ble_eq_true rfl, Nat.le_of_ble_eq_true rfl⟩) hK hP hD hS hA (rfl) rfl rfl hl.1 rfl (Nat.le_of_ble_eq_true rfl) dX10_holds_53 ⟨Nat.zero_le _, Nat.zero_le _⟩ (fun H locs hP hD hS => ?_)
        have hP : va_P D vwCl (wX k a xLen xHits xUns xItems xLost xKind xSize xLet xRel xLim xOpen o11.2 xSL xST xSD xSK xTal xKn xFT xFA xFE xOdds xPat xFind) H := hP
        have hD : va_D A (wX k a xLen xHits xUns xItems xLost xKind xSize xLet xRel xLim xOpen o11.2 xSL xST xSD xSK xTal xKn xFT xFA xFE xOdds xPat xFind) := hD
        refine lv_if_eq (tgt := 63) hx hb dX10_holds_56 (by decide) (fun c13 => ?_) (fun c13 => ?_)
        · replace h := (if_pos c13).symm.trans h
          refine lv_iconst (v := 0) hx hb dX10_holds_63 (by decide) ?_
          have he := Option.some.inj h
          exact W.iret (v := 0) hx hb hr (fun t ht hW => ⟨⟨0, wX k a xLen xHits xUns xItems xLost xKind xSize xLet xRel xLim xOpen o11.2 xSL xST xSD xSK xTal xKn xFT xFA xFE xOdds xPat xFind, rfl, ⟨(congrArg (fun z => z.1) he), (congrArg (fun z => wX k a xLen xHits xUns xItems xLost xKind xSize xLet xRel xLim xOpen z.2 xSL xST xSD xSK xTal xKn xFT xFA xFE xOdds xPat xFind) he)⟩, by rw [ht]; exact hP, va_K.moved hW.alike hK, hD⟩, hS.F ht⟩) hS.2.2 dX10_holds_64
        · replace h := (if_neg c13).symm.trans h
          refine lv_iconst (v := 1) hx hb dX10_holds_59 (by decide) ?_
          refine lv_goto (tgt := 64) hx hb dX10_holds_60 (by decide) ?_
          have he := Option.some.inj h
          exact W.iret (v := 1) hx hb hr (fun t ht hW => ⟨⟨1, wX k a xLen xHits xUns xItems xLost xKind xSize xLet xRel xLim xOpen o11.2 xSL xST xSD xSK xTal xKn xFT xFA xFE xOdds xPat xFind, rfl, ⟨(congrArg (fun z => z.1) he), (congrArg (fun z => wX k a xLen xHits xUns xItems xLost xKind xSize xLet xRel xLim xOpen z.2 xSL xST xSD xSK xTal xKn xFT xFA xFE xOdds xPat xFind) he)⟩, by rw [ht]; exact hP, va_K.moved hW.alike hK, hD⟩, hS.F ht⟩) hS.2.2 dX10_holds_64
      · replace h := (if_neg c10).symm.trans h
        refine lv_bipush (v := (-3)) hx hb dX10_holds_34 (by decide) ?_
        have he := Option.some.inj h
        exact W.iret (v := (-3)) hx hb hr (fun t ht hW => ⟨⟨(-3), wX k a xLen xHits xUns xItems xLost xKind xSize xLet xRel xLim xOpen xMeas xSL xST xSD xSK xTal xKn xFT xFA xFE xOdds xPat xFind, rfl, ⟨(congrArg (fun z => z.1) he), (congrArg (fun z => wX k a xLen xHits xUns xItems xLost xKind xSize xLet xRel xLim xOpen z.2 xSL xST xSD xSK xTal xKn xFT xFA xFE xOdds xPat xFind) he)⟩, by rw [ht]; exact hP, va_K.moved hW.alike hK, hD⟩, hS.F ht⟩) hS.2.2 dX10_holds_36
  · replace h := (if_pos c3).symm.trans h
    refine lv_bipush (v := (-2)) hx hb dX10_holds_7 (by decide) ?_
    have he := Option.some.inj h
    exact W.iret (v := (-2)) hx hb hr (fun t ht hW => ⟨⟨(-2), wX k a xLen xHits xUns xItems xLost xKind xSize xLet xRel xLim xOpen xMeas xSL xST xSD xSK xTal xKn xFT xFA xFE xOdds xPat xFind, rfl, ⟨(congrArg (fun z => z.1) he), (congrArg (fun z => wX k a xLen xHits xUns xItems xLost xKind xSize xLet xRel xLim xOpen z.2 xSL xST xSD xSK xTal xKn xFT xFA xFE xOdds xPat xFind) he)⟩, by rw [ht]; exact hP, va_K.moved hW.alike hK, hD⟩, hS.F ht⟩) hS.2.2 dX10_holds_9
set_option maxHeartbeats 4000000 in
set_option maxRecDepth 100000 in
theorem c_X10_holds {N : Nat} (l : Launch) (D : va_G) (k : Nat → ClassId) (a : Nat → Nat) (xLen : Nat → Int32) (xHits : Nat → Int32) (xUns : Nat → Int32) (xItems : Nat → Nat → Int32) (xLost : Nat → Int32) (xKind : Nat → Int32) (xSize : Nat → Int32) (xLet : Nat → Int32) (xRel : Nat → Int32) (xLim : Nat → Int32) (xOpen : Nat → Int32) (xMeas : Nat → Int32) (xSL : Int32) (xST : Int32) (xSD : Int32) (xSK : Int32) (xTal : Nat → Nat → Int32) (xKn : Nat → Int32) (xFT : Nat → Int32) (xFA : Int32) (xFE : Int32) (xOdds : Int32) (xPat : Int32) (xFind : Int32) (x1 : Int32) {o : Int32 × (Nat → Int32)} (h : f_X10_holds N x1 xLen xHits xUns xLet xRel xLim xOpen xMeas xSL xST xSD xSK xPat = some o) : mQi l yX10_holds wo_X10_holds 4 D k [.ref (a 0), .int x1] (wX k a xLen xHits xUns xItems xLost xKind xSize xLet xRel xLim xOpen xMeas xSL xST xSD xSK xTal xKn xFT xFA xFE xOdds xPat xFind) o.1 (wX k a xLen xHits xUns xItems xLost xKind xSize xLet xRel xLim xOpen o.2 xSL xST xSD xSK xTal xKn xFT xFA xFE xOdds xPat xFind) := by
  intro sz
  refine Met.ofW (cc := cX10_holds) (maxL := 3) (ret := some .int) (by decide) rfl ?_
  intro p e s m args below meth c s₁ B hml hv
  obtain ⟨rfl, hsz, hP, hK, hD0⟩ := hv
  subst hsz
  rw [lg_entry_eq]
  exact core_X10_holds D k a xLen xHits xUns xItems xLost xKind xSize xLet xRel xLim xOpen xMeas xSL xST xSD xSK xTal xKn xFT xFA xFE xOdds xPat xFind x1 B.exec B.bytes hml B.returns (atoms_spec (ws := wo_X10_holds) B.pre) (findClass_of_methodNamed B.named) B.notSynchronized (lv_entry [.ref (a 0), .int x1] (n := 3) (Nat.le_of_ble_eq_true rfl)) hK hP hD0.self (fun q h => Or.inr h) h
theorem qd_X10_holds : yX10_holds.cls = RX10 ∧ yX10_holds.cls ≠ "java/lang/invoke/MethodHandle" ∧ yX10_holds.cls ≠ "java/lang/invoke/VarHandle" ∧ (parseMethodDescriptor yX10_holds.desc).map (fun d => d.parameters.length) = some 1 := by decide +kernel
abbrev wo_X10_shown : List Cond := .code yX10_shown cX10_shown 3 (some .int) :: wsL_law
set_option maxHeartbeats 4000000 in
set_option maxRecDepth 100000 in
theorem core_X10_shown {N : Nat} (D : va_G) (k : Nat → ClassId) (a : Nat → Nat) (xLen : Nat → Int32) (xHits : Nat → Int32) (xUns : Nat → Int32) (xItems : Nat → Nat → Int32) (xLost : Nat → Int32) (xKind : Nat → Int32) (xSize : Nat → Int32) (xLet : Nat → Int32) (xRel : Nat → Int32) (xLim : Nat → Int32) (xOpen : Nat → Int32) (xMeas : Nat → Int32) (xSL : Int32) (xST : Int32) (xSD : Int32) (xSK : Int32) (xTal : Nat → Nat → Int32) (xKn : Nat → Int32) (xFT : Nat → Int32) (xFA : Int32) (xFE : Int32) (xOdds : Int32) (xPat : Int32) (xFind : Int32) (x1 : Int32) (x2 : Int32) {p : Program} {l : Launch} {e : Env} {s : State} {m : MethodId} {args : Array Value} {below : List Frame} {meth : Method} {c : Code} {ls : Array Slot} (hx : p.tables.exec = Jvm.exec) (hb : c.code = cX10_shown) (hml : c.maxLocals = 3) (hr : meth.sig.returnType = some .int) (hts : ∀ w ∈ wo_X10_shown, w.before args s = true) (hown : s.vm.findClass RX10 = some m.cls) (hlocks : meth.locks = false) (hl : lv_has ls 3 [(0, .ref (a 0)), (1, .int x1), (2, .int x2)]) (hK : va_K D vwCl (xTys k) s) (hP : va_P D vwCl (wX k a xLen xHits xUns xItems xLost xKind xSize xLet xRel xLim xOpen xMeas xSL xST xSD xSK xTal xKn xFT xFA xFE xOdds xPat xFind) s.heap) {A : Nat → Prop} (hD : va_D A (wX k a xLen xHits xUns xItems xLost xKind xSize xLet xRel xLim xOpen xMeas xSL xST xSD xSK xTal xKn xFT xFA xFE xOdds xPat xFind)) (hA : ∀ q : Nat, s.heap.size ≤ q → A q) {o : Int32 × (Nat → Int32) × (Nat → Nat → Int32) × (Nat → Int32)} (h : f_X10_shown N x1 x2 xLet xRel xLim xOpen xMeas xSL xST xSD xSK xTal xKn xPat = some o) : gQi p l e wo_X10_shown 5 s m args below meth c D k A o.1 (wX k a xLen xHits xUns xItems xLost xKind xSize xLet xRel xLim xOpen o.2.1 xSL xST xSD xSK o.2.2.1 o.2.2.2 xFT xFA xFE xOdds xPat xFind) s.heap [] (F0 m 0 ls []) := by
  have hi10 := (fun w h => List.mem_cons_of_mem _ (inlX10 w h) : ∀ w ∈ wsX100, w ∈ wo_X10_shown)
  have kf26 := hts _ (List.mem_cons_of_mem _ wm_23)
  have kf33 := hts _ (List.mem_cons_of_mem _ wm_27)
  have kf48 := hts _ (List.mem_cons_of_mem _ wm_33)
  have hi8 := (fun w h => List.mem_cons_of_mem _ (inlX8 w h) : ∀ w ∈ wsX80, w ∈ wo_X10_shown)
  have kf133 := hts _ (List.mem_cons_of_mem _ wm_463)
  unfold f_X10_shown at h
  have hS : va_S A s.heap s.heap [] := va_S.rf
  obtain ⟨H, hH⟩ : ∃ H : Heap, H = s.heap := ⟨_, rfl⟩
  obtain ⟨locs, hlc⟩ : ∃ locs : List Loc, locs = [] := ⟨_, rfl⟩
  have hS : va_S A s.heap H locs := by rw [hH, hlc]; exact va_S.rf
  have hP : va_P D vwCl (wX k a xLen xHits xUns xItems xLost xKind xSize xLet xRel xLim xOpen xMeas xSL xST xSD xSK xTal xKn xFT xFA xFE xOdds xPat xFind) H := by rw [hH]; exact hP
  suffices hGo : gQi p l e wo_X10_shown 5 s m args below meth c D k A o.1 (wX k a xLen xHits xUns xItems xLost xKind xSize xLet xRel xLim xOpen o.2.1 xSL xST xSD xSK o.2.2.1 o.2.2.2 xFT xFA xFE xOdds xPat xFind) H locs (F0 m 0 ls []) by rw [hH, hlc] at hGo; exact hGo
  refine lv_iload_n hx hb dX10_shown_0 rfl (lv_at hl 1 rfl) ?_
  obtain ⟨o1, eq2, h⟩ := bnd_some h
  refine kPi (rest := []) ⟨hx, hb, hml, hown, hts⟩ (c_X10_isLength l x1 eq2) (va_cwS 1 hts (gAS wm_464 wm_465 wm_2 wm_466) rfl rfl rfl qd_X10_isLength ⟨Nat.le_of_ble_eq_true rfl, Nat.le_of_ble_eq_true rfl⟩) rfl hl.1 rfl (Nat.le_of_ble_eq_true rfl) dX10_shown_1 ⟨Nat.zero_le _, Nat.zero_le _⟩ ?_
  refine lv_if_eq (tgt := 18) hx hb dX10_shown_4 (by decide) (fun c3 => ?_) (fun c3 => ?_)
  · replace h := (if_pos c3).symm.trans h
    refine lv_bipush (v := (-2)) hx hb dX10_shown_18 (by decide) ?_
    have he := Option.some.inj h
    exact W.iret (v := (-2)) hx hb hr (fun t ht hW => ⟨⟨(-2), wX k a xLen xHits xUns xItems xLost xKind xSize xLet xRel xLim xOpen xMeas xSL xST xSD xSK xTal xKn xFT xFA xFE xOdds xPat xFind, rfl, ⟨(congrArg (fun z => z.1) he), (congrArg (fun z => wX k a xLen xHits xUns xItems xLost xKind xSize xLet xRel xLim xOpen z.2.1 xSL xST xSD xSK z.2.2.1 z.2.2.2 xFT xFA xFE xOdds xPat xFind) he)⟩, by rw [ht]; exact hP, va_K.moved hW.alike hK, hD⟩, hS.F ht⟩) hS.2.2 dX10_shown_20
  · replace h := (if_neg c3).symm.trans h
    refine lv_iload_n hx hb dX10_shown_7 rfl (lv_at hl 2 rfl) ?_
    refine lv_iconst (v := (-1)) hx hb dX10_shown_8 (by decide) ?_
    refine lv_icmp_lt (tgt := 18) hx hb dX10_shown_9 (by decide) (fun c4 => ?_) (fun c4 => ?_)
    · replace h := (if_pos c4).symm.trans h
      refine lv_bipush (v := (-2)) hx hb dX10_shown_18 (by decide) ?_
      have he := Option.some.inj h
      exact W.iret (v := (-2)) hx hb hr (fun t ht hW => ⟨⟨(-2), wX k a xLen xHits xUns xItems xLost xKind xSize xLet xRel xLim xOpen xMeas xSL xST xSD xSK xTal xKn xFT xFA xFE xOdds xPat xFind, rfl, ⟨(congrArg (fun z => z.1) he), (congrArg (fun z => wX k a xLen xHits xUns xItems xLost xKind xSize xLet xRel xLim xOpen z.2.1 xSL xST xSD xSK z.2.2.1 z.2.2.2 xFT xFA xFE xOdds xPat xFind) he)⟩, by rw [ht]; exact hP, va_K.moved hW.alike hK, hD⟩, hS.F ht⟩) hS.2.2 dX10_shown_20
    · replace h := (if_neg c4).symm.trans h
      refine lv_iload_n hx hb dX10_shown_12 rfl (lv_at hl 2 rfl) ?_
      refine lv_bipush (v := 15) hx hb dX10_shown_13 (by decide) ?_
      refine lv_icmp_le (tgt := 21) hx hb dX10_shown_15 (by decide) (fun c5 => ?_) (fun c5 => ?_)
      · replace h := (if_pos c5).symm.trans h
        refine lv_aload_n hx hb dX10_shown_21 rfl (lv_at hl 0 rfl) ?_
        refine va_get (D := D) (ci := 5) (v := .ref (a 3)) (C := RX10) (T := TX10) (N := 8) hx hb hts hi10 hown hK hP (0) (rfl) rfl 2 (by decide) kf26 (fun _ h9 => h9) rfl dX10_shown_22 ?_
        obtain ⟨o6, eq7, h⟩ := bnd_some h
        refine kRiV (rest := []) (q0 := 3) ⟨hx, hb, hml, hown, hts⟩ (c_X6_isFaulty l D k a xLen xHits xUns xItems xLost xKind xSize xLet xRel xLim xOpen xMeas xSL xST xSD xSK xTal xKn xFT xFA xFE xOdds xPat xFind  eq7) (cwV 0 hts (gAV wm_437 wm_438 wm_439 wm_22 wm_440) rfl rfl rfl qd_X6_isFaulty ⟨Nat.le_of_ble_eq_true rfl, Nat.le_of_ble_eq_true rfl⟩) hK hP (rfl) rfl rfl hl.1 rfl (Nat.le_of_ble_eq_true rfl) dX10_shown_25 ⟨Nat.zero_le _, Nat.zero_le _⟩ ?_
        refine lv_if_eq (tgt := 34) hx hb dX10_shown_28 (by decide) (fun c8 => ?_) (fun c8 => ?_)
        · replace h := (if_pos c8).symm.trans h
          refine lv_aload_n hx hb dX10_shown_34 rfl (lv_at hl 0 rfl) ?_
          refine va_get (D := D) (ci := 5) (v := .ref (a 9)) (C := RX10) (T := TX10) (N := 8) hx hb hts hi10 hown hK hP (0) (rfl) rfl 3 (by decide) kf33 (fun _ h9 => h9) rfl dX10_shown_35 ?_
          refine lv_iload_n hx hb dX10_shown_38 rfl (lv_at hl 1 rfl) ?_
          refine lv_aload_n hx hb dX10_shown_39 rfl (lv_at hl 0 rfl) ?_
          refine va_get (D := D) (ci := 5) (v := .ref (a 3)) (C := RX10) (T := TX10) (N := 8) hx hb hts hi10 hown hK hP (0) (rfl) rfl 2 (by decide) kf26 (fun _ h9 => h9) rfl dX10_shown_40 ?_
          refine lv_aload_n hx hb dX10_shown_43 rfl (lv_at hl 0 rfl) ?_
          refine va_get (D := D) (ci := 5) (v := .int xPat) (C := RX10) (T := TX10) (N := 8) hx hb hts hi10 hown hK hP (0) (rfl) rfl 6 (by decide) kf48 (fun _ h9 => h9) rfl dX10_shown_44 ?_
          obtain ⟨o9, eq10, h⟩ := bnd_some h
          refine kQvV (rest := []) (q0 := 9) ⟨hx, hb, hml, hown, hts⟩ (c_X8_learn l D k a xLen xHits xUns xItems xLost xKind xSize xLet xRel xLim xOpen xMeas xSL xST xSD xSK xTal xKn xFT xFA xFE xOdds xPat xFind x1 xPat eq10) (cwV 3 hts (gAV wm_467 wm_468 wm_469 wm_26 wm_470) rfl rfl rfl qd_X8_learn ⟨Nat.le_of_ble_eq_true rfl, Nat.le_of_ble_eq_true rfl⟩) hK hP hD hS hA (rfl) rfl rfl hl.1 rfl (Nat.le_of_ble_eq_true rfl) dX10_shown_47 ⟨Nat.zero_le _, Nat.zero_le _⟩ (fun H locs hP hD hS => ?_)
          have hP : va_P D vwCl (wX k a xLen xHits xUns xItems xLost xKind xSize xLet xRel xLim xOpen o9.1 xSL xST xSD xSK o9.2.1 o9.2.2 xFT xFA xFE xOdds xPat xFind) H := hP
          have hD : va_D A (wX k a xLen xHits xUns xItems xLost xKind xSize xLet xRel xLim xOpen o9.1 xSL xST xSD xSK o9.2.1 o9.2.2 xFT xFA xFE xOdds xPat xFind) := hD
          refine lv_iload_n hx hb dX10_shown_50 rfl (lv_at hl 2 rfl) ?_
          refine lv_iconst (v := (-1)) hx hb dX10_shown_51 (by decide) ?_
          refine lv_icmp_ne (tgt := 70) hx hb dX10_shown_52 (by decide) (fun c11 => ?_) (fun c11 => ?_)
          · replace h := (if_neg c11).symm.trans h
            refine lv_aload_n hx hb dX10_shown_70 rfl (lv_at hl 0 rfl) ?_
            refine va_get (D := D) (ci := 5) (v := .ref (a 9)) (C := RX10) (T := TX10) (N := 8) hx hb hts hi10 hown hK hP (0) (rfl) rfl 3 (by decide) kf33 (fun _ h9 => h9) rfl dX10_shown_71 ?_
            refine va_get (D := D) (ci := 4) (v := .ref (a 10)) (C := RX8) (T := TX8) (N := 2) hx hb hts hi8 hown hK hP (9) (rfl) rfl 0 (by decide) kf133 (fun _ h9 => h9) rfl dX10_shown_74 ?_
            refine lv_iload_n hx hb dX10_shown_77 rfl (lv_at hl 1 rfl) ?_
            obtain ⟨g12, h⟩ := gIn_some h
            refine xa_aldA hx hb hK hP (10) 4 rfl rfl g12 dX10_shown_78 ?_
            refine W.eq (g2 := F0 m 79 ls [.ref (a (26 + x1.toNatClampNeg))]) rfl ?_
            refine lv_iload_n hx hb dX10_shown_79 rfl (lv_at hl 2 rfl) ?_
            obtain ⟨g13, h⟩ := gIn_some h
            refine va_iald hx hb hK hP ((26 + x1.toNatClampNeg)) 0 (wX_tal (vp_in_lt g12)) rfl g13 dX10_shown_80 ?_
            have he := Option.some.inj h
            exact W.iret (v := (o9.2.1 x1.toNatClampNeg x2.toNatClampNeg)) hx hb hr (fun t ht hW => ⟨⟨(o9.2.1 x1.toNatClampNeg x2.toNatClampNeg), wX k a xLen xHits xUns xItems xLost xKind xSize xLet xRel xLim xOpen o9.1 xSL xST xSD xSK o9.2.1 o9.2.2 xFT xFA xFE xOdds xPat xFind, rfl, ⟨(congrArg (fun z => z.1) he), (congrArg (fun z => wX k a xLen xHits xUns xItems xLost xKind xSize xLet xRel xLim xOpen z.2.1 xSL xST xSD xSK z.2.2.1 z.2.2.2 xFT xFA xFE xOdds xPat xFind) he)⟩, by rw [ht]; exact hP, va_K.moved hW.alike hK, hD⟩, hS.F ht⟩) hS.2.2 dX10_shown_81
          · replace h := (if_pos c11).symm.trans h
            refine lv_aload_n hx hb dX10_shown_55 rfl (lv_at hl 0 rfl) ?_
            refine va_get (D := D) (ci := 5) (v := .ref (a 9)) (C := RX10) (T := TX10) (N := 8) hx hb hts hi10 hown hK hP (0) (rfl) rfl 3 (by decide) kf33 (fun _ h9 => h9) rfl dX10_shown_56 ?_
            refine va_get (D := D) (ci := 4) (v := .ref (a 10)) (C := RX8) (T := TX8) (N := 2) hx hb hts hi8 hown hK hP (9) (rfl) rfl 0 (by decide) kf133 (fun _ h9 => h9) rfl dX10_shown_59 ?_
            refine lv_iload_n hx hb dX10_shown_62 rfl (lv_at hl 1 rfl) ?_
            obtain ⟨g14, h⟩ := gIn_some h
            refine xa_aldA hx hb hK hP (10) 4 rfl rfl g14 dX10_shown_63 ?_
            refine W.eq (g2 := F0 m 64 ls [.ref (a (26 + x1.toNatClampNeg))]) rfl ?_
            obtain ⟨o15, eq16, h⟩ := bnd_some h
            refine kRiS (rest := []) ⟨hx, hb, hml, hown, hts⟩ (c_X9_sum l D k (wX k a xLen xHits xUns xItems xLost xKind xSize xLet xRel xLim xOpen o9.1 xSL xST xSD xSK o9.2.1 o9.2.2 xFT xFA xFE xOdds xPat xFind) ((26 + x1.toNatClampNeg)) (a (26 + x1.toNatClampNeg)) (o9.2.1 x1.toNatClampNeg) (wX_tal (vp_in_lt g14))  eq16) (va_cwS 1 hts (gAS wm_473 wm_474 wm_475 wm_476) rfl rfl rfl qd_X9_sum ⟨Nat.le_of_ble_eq_true rfl, Nat.le_of_ble_eq_true rfl⟩) hK hP rfl hl.1 rfl (Nat.le_of_ble_eq_true rfl) dX10_shown_64 ⟨Nat.zero_le _, Nat.zero_le _⟩ ?_
            refine lv_goto (tgt := 81) hx hb dX10_shown_67 (by decide) ?_
            have he := Option.some.inj h
            exact W.iret (v := o15) hx hb hr (fun t ht hW => ⟨⟨o15, wX k a xLen xHits xUns xItems xLost xKind xSize xLet xRel xLim xOpen o9.1 xSL xST xSD xSK o9.2.1 o9.2.2 xFT xFA xFE xOdds xPat xFind, rfl, ⟨(congrArg (fun z => z.1) he), (congrArg (fun z => wX k a xLen xHits xUns xItems xLost xKind xSize xLet xRel xLim xOpen z.2.1 xSL xST xSD xSK z.2.2.1 z.2.2.2 xFT xFA xFE xOdds xPat xFind) he)⟩, by rw [ht]; exact hP, va_K.moved hW.alike hK, hD⟩, hS.F ht⟩) hS.2.2 dX10_shown_81
        · replace h := (if_neg c8).symm.trans h
          refine lv_bipush (v := (-3)) hx hb dX10_shown_31 (by decide) ?_
          have he := Option.some.inj h
          exact W.iret (v := (-3)) hx hb hr (fun t ht hW => ⟨⟨(-3), wX k a xLen xHits xUns xItems xLost xKind xSize xLet xRel xLim xOpen xMeas xSL xST xSD xSK xTal xKn xFT xFA xFE xOdds xPat xFind, rfl, ⟨(congrArg (fun z => z.1) he), (congrArg (fun z => wX k a xLen xHits xUns xItems xLost xKind xSize xLet xRel xLim xOpen z.2.1 xSL xST xSD xSK z.2.2.1 z.2.2.2 xFT xFA xFE xOdds xPat xFind) he)⟩, by rw [ht]; exact hP, va_K.moved hW.alike hK, hD⟩, hS.F ht⟩) hS.2.2 dX10_shown_33
      · replace h := (if_neg c5).symm.trans h
        refine lv_bipush (v := (-2)) hx hb dX10_shown_18 (by decide) ?_
        have he := Option.some.inj h
        exact W.iret (v := (-2)) hx hb hr (fun t ht hW => ⟨⟨(-2), wX k a xLen xHits xUns xItems xLost xKind xSize xLet xRel xLim xOpen xMeas xSL xST xSD xSK xTal xKn xFT xFA xFE xOdds xPat xFind, rfl, ⟨(congrArg (fun z => z.1) he), (congrArg (fun z => wX k a xLen xHits xUns xItems xLost xKind xSize xLet xRel xLim xOpen z.2.1 xSL xST xSD xSK z.2.2.1 z.2.2.2 xFT xFA xFE xOdds xPat xFind) he)⟩, by rw [ht]; exact hP, va_K.moved hW.alike hK, hD⟩, hS.F ht⟩) hS.2.2 dX10_shown_20
set_option maxHeartbeats 4000000 in
set_option maxRecDepth 100000 in
theorem c_X10_shown {N : Nat} (l : Launch) (D : va_G) (k : Nat → ClassId) (a : Nat → Nat) (xLen : Nat → Int32) (xHits : Nat → Int32) (xUns : Nat → Int32) (xItems : Nat → Nat → Int32) (xLost : Nat → Int32) (xKind : Nat → Int32) (xSize : Nat → Int32) (xLet : Nat → Int32) (xRel : Nat → Int32) (xLim : Nat → Int32) (xOpen : Nat → Int32) (xMeas : Nat → Int32) (xSL : Int32) (xST : Int32) (xSD : Int32) (xSK : Int32) (xTal : Nat → Nat → Int32) (xKn : Nat → Int32) (xFT : Nat → Int32) (xFA : Int32) (xFE : Int32) (xOdds : Int32) (xPat : Int32) (xFind : Int32) (x1 : Int32) (x2 : Int32) {o : Int32 × (Nat → Int32) × (Nat → Nat → Int32) × (Nat → Int32)} (h : f_X10_shown N x1 x2 xLet xRel xLim xOpen xMeas xSL xST xSD xSK xTal xKn xPat = some o) : mQi l yX10_shown wo_X10_shown 5 D k [.ref (a 0), .int x1, .int x2] (wX k a xLen xHits xUns xItems xLost xKind xSize xLet xRel xLim xOpen xMeas xSL xST xSD xSK xTal xKn xFT xFA xFE xOdds xPat xFind) o.1 (wX k a xLen xHits xUns xItems xLost xKind xSize xLet xRel xLim xOpen o.2.1 xSL xST xSD xSK o.2.2.1 o.2.2.2 xFT xFA xFE xOdds xPat xFind) := by
  intro sz
  refine Met.ofW (cc := cX10_shown) (maxL := 3) (ret := some .int) (by decide) rfl ?_
  intro p e s m args below meth c s₁ B hml hv
  obtain ⟨rfl, hsz, hP, hK, hD0⟩ := hv
  subst hsz
  rw [lg_entry_eq]
  exact core_X10_shown D k a xLen xHits xUns xItems xLost xKind xSize xLet xRel xLim xOpen xMeas xSL xST xSD xSK xTal xKn xFT xFA xFE xOdds xPat xFind x1 x2 B.exec B.bytes hml B.returns (atoms_spec (ws := wo_X10_shown) B.pre) (findClass_of_methodNamed B.named) B.notSynchronized (lv_entry [.ref (a 0), .int x1, .int x2] (n := 3) (Nat.le_of_ble_eq_true rfl)) hK hP hD0.self (fun q h => Or.inr h) h
theorem qd_X10_shown : yX10_shown.cls = RX10 ∧ yX10_shown.cls ≠ "java/lang/invoke/MethodHandle" ∧ yX10_shown.cls ≠ "java/lang/invoke/VarHandle" ∧ (parseMethodDescriptor yX10_shown.desc).map (fun d => d.parameters.length) = some 2 := by decide +kernel
