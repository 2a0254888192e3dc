abbrev wo_X10_sheet : List Cond := .code yX10_sheet cX10_sheet 4 (some .int) :: wsL_law
set_option maxHeartbeats 4000000 in
set_option maxRecDepth 100000 in
theorem core_X10_sheet {N : Nat} (D : va_G) (k : Nat → ClassId) (a : Nat → Nat) (xLen : Nat → Int32) (xHits : Nat → Int32) (xUns : Nat → Int32) (xItems : Nat → Nat → Int32) (xLost : Nat → Int32) (xKind : Nat → Int32) (xSize : Nat → Int32) (xLet : Nat → Int32) (xRel : Nat → Int32) (xLim : Nat → Int32) (xOpen : Nat → Int32) (xMeas : Nat → Int32) (xSL : Int32) (xST : Int32) (xSD : Int32) (xSK : Int32) (xTal : Nat → Nat → Int32) (xKn : Nat → Int32) (xFT : Nat → Int32) (xFA : Int32) (xFE : Int32) (xOdds : Int32) (xPat : Int32) (xFind : Int32) (x1 : Int32) (x2 : Int32) (x3 : Int32) {p : Program} {l : Launch} {e : Env} {s : State} {m : MethodId} {args : Array Value} {below : List Frame} {meth : Method} {c : Code} {ls : Array Slot} (hx : p.tables.exec = Jvm.exec) (hb : c.code = cX10_sheet) (hml : c.maxLocals = 4) (hr : meth.sig.returnType = some .int) (hts : ∀ w ∈ wo_X10_sheet, w.before args s = true) (hown : s.vm.findClass RX10 = some m.cls) (hlocks : meth.locks = false) (hl : lv_has ls 4 [(0, .ref (a 0)), (1, .int x1), (2, .int x2), (3, .int x3)]) (hK : va_K D vwCl (xTys k) s) (hP : va_P D vwCl (wX k a xLen xHits xUns xItems xLost xKind xSize xLet xRel xLim xOpen xMeas xSL xST xSD xSK xTal xKn xFT xFA xFE xOdds xPat xFind) s.heap) {A : Nat → Prop} (hD : va_D A (wX k a xLen xHits xUns xItems xLost xKind xSize xLet xRel xLim xOpen xMeas xSL xST xSD xSK xTal xKn xFT xFA xFE xOdds xPat xFind)) (hA : ∀ q : Nat, s.heap.size ≤ q → A q) {o : Int32 × (Nat → Nat → Int32) × (Nat → Int32) × (Nat → Int32) × (Nat → Int32) × (Int32)} (h : f_X10_sheet N x1 x2 x3 xItems xLost xKind xSize xFind = some o) : gQi p l e wo_X10_sheet 1 s m args below meth c D k A o.1 (wX k a xLen xHits xUns o.2.1 o.2.2.1 o.2.2.2.1 o.2.2.2.2.1 xLet xRel xLim xOpen xMeas xSL xST xSD xSK xTal xKn xFT xFA xFE xOdds xPat o.2.2.2.2.2) s.heap [] (F0 m 0 ls []) := by
  have hi10 := (fun w h => List.mem_cons_of_mem _ (inlX10 w h) : ∀ w ∈ wsX100, w ∈ wo_X10_sheet)
  have kf18 := hts _ (List.mem_cons_of_mem _ wm_17)
  unfold f_X10_sheet at h
  have hS : va_S A s.heap s.heap [] := va_S.rf
  obtain ⟨H, hH⟩ : ∃ H : Heap, H = s.heap := ⟨_, rfl⟩
  obtain ⟨locs, hlc⟩ : ∃ locs : List Loc, locs = [] := ⟨_, rfl⟩
  have hS : va_S A s.heap H locs := by rw [hH, hlc]; exact va_S.rf
  have hP : va_P D vwCl (wX k a xLen xHits xUns xItems xLost xKind xSize xLet xRel xLim xOpen xMeas xSL xST xSD xSK xTal xKn xFT xFA xFE xOdds xPat xFind) H := by rw [hH]; exact hP
  suffices hGo : gQi p l e wo_X10_sheet 1 s m args below meth c D k A o.1 (wX k a xLen xHits xUns o.2.1 o.2.2.1 o.2.2.2.1 o.2.2.2.2.1 xLet xRel xLim xOpen xMeas xSL xST xSD xSK xTal xKn xFT xFA xFE xOdds xPat o.2.2.2.2.2) H locs (F0 m 0 ls []) by rw [hH, hlc] at hGo; exact hGo
  refine lv_iload_n hx hb dX10_sheet_0 rfl (lv_at hl 1 rfl) ?_
  obtain ⟨o1, eq2, h⟩ := bnd_some h
  refine kPi (rest := []) ⟨hx, hb, hml, hown, hts⟩ (c_X10_isSheet l x1 eq2) (va_cwS 1 hts (gAS wm_130 wm_131 wm_2 wm_132) rfl rfl rfl qd_X10_isSheet ⟨Nat.le_of_ble_eq_true rfl, Nat.le_of_ble_eq_true rfl⟩) rfl hl.1 rfl (Nat.le_of_ble_eq_true rfl) dX10_sheet_1 ⟨Nat.zero_le _, Nat.zero_le _⟩ ?_
  refine lv_if_eq (tgt := 20) hx hb dX10_sheet_4 (by decide) (fun c3 => ?_) (fun c3 => ?_)
  · replace h := (if_pos c3).symm.trans h
    refine lv_bipush (v := (-2)) hx hb dX10_sheet_20 (by decide) ?_
    have he := Option.some.inj h
    exact W.iret (v := (-2)) hx hb hr (fun t ht hW => ⟨⟨(-2), wX k a xLen xHits xUns xItems xLost xKind xSize xLet xRel xLim xOpen xMeas xSL xST xSD xSK xTal xKn xFT xFA xFE xOdds xPat xFind, rfl, ⟨(congrArg (fun z => z.1) he), (congrArg (fun z => wX k a xLen xHits xUns z.2.1 z.2.2.1 z.2.2.2.1 z.2.2.2.2.1 xLet xRel xLim xOpen xMeas xSL xST xSD xSK xTal xKn xFT xFA xFE xOdds xPat z.2.2.2.2.2) he)⟩, by rw [ht]; exact hP, va_K.moved hW.alike hK, hD⟩, hS.F ht⟩) hS.2.2 dX10_sheet_22
  · replace h := (if_neg c3).symm.trans h
    refine lv_iload_n hx hb dX10_sheet_7 rfl (lv_at hl 2 rfl) ?_
    obtain ⟨o4, eq5, h⟩ := bnd_some h
    refine kPi (rest := []) ⟨hx, hb, hml, hown, hts⟩ (c_X10_isType l x2 eq5) (va_cwS 1 hts (gAS wm_754 wm_755 wm_2 wm_756) rfl rfl rfl qd_X10_isType ⟨Nat.le_of_ble_eq_true rfl, Nat.le_of_ble_eq_true rfl⟩) rfl hl.1 rfl (Nat.le_of_ble_eq_true rfl) dX10_sheet_8 ⟨Nat.zero_le _, Nat.zero_le _⟩ ?_
    refine lv_if_eq (tgt := 20) hx hb dX10_sheet_11 (by decide) (fun c6 => ?_) (fun c6 => ?_)
    · replace h := (if_pos c6).symm.trans h
      refine lv_bipush (v := (-2)) hx hb dX10_sheet_20 (by decide) ?_
      have he := Option.some.inj h
      exact W.iret (v := (-2)) hx hb hr (fun t ht hW => ⟨⟨(-2), wX k a xLen xHits xUns xItems xLost xKind xSize xLet xRel xLim xOpen xMeas xSL xST xSD xSK xTal xKn xFT xFA xFE xOdds xPat xFind, rfl, ⟨(congrArg (fun z => z.1) he), (congrArg (fun z => wX k a xLen xHits xUns z.2.1 z.2.2.1 z.2.2.2.1 z.2.2.2.2.1 xLet xRel xLim xOpen xMeas xSL xST xSD xSK xTal xKn xFT xFA xFE xOdds xPat z.2.2.2.2.2) he)⟩, by rw [ht]; exact hP, va_K.moved hW.alike hK, hD⟩, hS.F ht⟩) hS.2.2 dX10_sheet_22
    · replace h := (if_neg c6).symm.trans h
      refine lv_iload_n hx hb dX10_sheet_14 rfl (lv_at hl 3 rfl) ?_
      refine lv_bipush (v := 40) hx hb dX10_sheet_15 (by decide) ?_
      refine lv_icmp_le (tgt := 23) hx hb dX10_sheet_17 (by decide) (fun c7 => ?_) (fun c7 => ?_)
      · replace h := (if_pos c7).symm.trans h
        refine lv_iload_n hx hb dX10_sheet_23 rfl (lv_at hl 3 rfl) ?_
        refine lv_if_ge (tgt := 33) hx hb dX10_sheet_24 (by decide) (fun c8 => ?_) (fun c8 => ?_)
        · replace h := (if_pos c8).symm.trans h
          refine lv_aload_n hx hb dX10_sheet_33 rfl (lv_at hl 0 rfl) ?_
          refine va_get (D := D) (ci := 5) (v := .ref (a 2)) (C := RX10) (T := TX10) (N := 8) hx hb hts hi10 hown hK hP (0) (rfl) rfl 1 (by decide) kf18 (fun _ h9 => h9) rfl dX10_sheet_34 ?_
          refine lv_iload_n hx hb dX10_sheet_37 rfl (lv_at hl 1 rfl) ?_
          obtain ⟨g9, h⟩ := gIn_some h
          refine va_aldq hx hb hK hP (2) 3 rfl rfl g9 dX10_sheet_38 ?_
          refine W.eq (g2 := F0 m 39 ls [.ref (a (18 + x1.toNatClampNeg))]) rfl ?_
          refine lv_iload_n hx hb dX10_sheet_39 rfl (lv_at hl 2 rfl) ?_
          refine lv_iload_n hx hb dX10_sheet_40 rfl (lv_at hl 3 rfl) ?_
          obtain ⟨o10, eq11, h⟩ := bnd_some h
          refine kQvV (rest := []) (q0 := (18 + x1.toNatClampNeg)) ⟨hx, hb, hml, hown, hts⟩ (c_X7_renew l D k a xLen xHits xUns xItems xLost xKind xSize xLet xRel xLim xOpen xMeas xSL xST xSD xSK xTal xKn xFT xFA xFE xOdds xPat xFind x1.toNatClampNeg (vp_in_lt g9) x2 x3 eq11) (cwV 2 hts (gAV wm_757 wm_758 wm_759 wm_19 wm_760) rfl rfl rfl qd_X7_renew ⟨Nat.le_of_ble_eq_true rfl, Nat.le_of_ble_eq_true rfl⟩) hK hP hD hS hA (wX_sheet (vp_in_lt g9)) rfl rfl hl.1 rfl (Nat.le_of_ble_eq_true rfl) dX10_sheet_41 ⟨Nat.zero_le _, Nat.zero_le _⟩ (fun H locs hP hD hS => ?_)
          have hP : va_P D vwCl (wX k a xLen xHits xUns o10.1 o10.2.1 o10.2.2.1 o10.2.2.2 xLet xRel xLim xOpen xMeas xSL xST xSD xSK xTal xKn xFT xFA xFE xOdds xPat xFind) H := hP
          have hD : va_D A (wX k a xLen xHits xUns o10.1 o10.2.1 o10.2.2.1 o10.2.2.2 xLet xRel xLim xOpen xMeas xSL xST xSD xSK xTal xKn xFT xFA xFE xOdds xPat xFind) := hD
          refine lv_iload_n hx hb dX10_sheet_44 rfl (lv_at hl 3 rfl) ?_
          have he := Option.some.inj h
          exact W.iret (v := x3) hx hb hr (fun t ht hW => ⟨⟨x3, wX k a xLen xHits xUns o10.1 o10.2.1 o10.2.2.1 o10.2.2.2 xLet xRel xLim xOpen xMeas xSL xST xSD xSK xTal xKn xFT xFA xFE xOdds xPat xFind, rfl, ⟨(congrArg (fun z => z.1) he), (congrArg (fun z => wX k a xLen xHits xUns z.2.1 z.2.2.1 z.2.2.2.1 z.2.2.2.2.1 xLet xRel xLim xOpen xMeas xSL xST xSD xSK xTal xKn xFT xFA xFE xOdds xPat z.2.2.2.2.2) he)⟩, by rw [ht]; exact hP, va_K.moved hW.alike hK, hD⟩, hS.F ht⟩) hS.2.2 dX10_sheet_45
        · replace h := (if_neg c8).symm.trans h
          refine lv_aload_n hx hb dX10_sheet_27 rfl (lv_at hl 0 rfl) ?_
          refine lv_iconst (v := 5) hx hb dX10_sheet_28 (by decide) ?_
          obtain ⟨o12, eq13, h⟩ := bnd_some h
          refine kQiV (rest := []) (q0 := 0) ⟨hx, hb, hml, hown, hts⟩ (c_X10_found l D k a xLen xHits xUns xItems xLost xKind xSize xLet xRel xLim xOpen xMeas xSL xST xSD xSK xTal xKn xFT xFA xFE xOdds xPat xFind 5 eq13) (cwV 1 hts (gAV wm_133 wm_134 wm_135 wm_2 wm_136) rfl rfl rfl qd_X10_found ⟨Nat.le_of_ble_eq_true rfl, Nat.le_of_ble_eq_true rfl⟩) hK hP hD hS hA (rfl) rfl rfl hl.1 rfl (Nat.le_of_ble_eq_true rfl) dX10_sheet_29 ⟨Nat.zero_le _, Nat.zero_le _⟩ (fun H locs hP hD hS => ?_)
          have hP : va_P D vwCl (wX k a xLen xHits xUns xItems xLost xKind xSize xLet xRel xLim xOpen xMeas xSL xST xSD xSK xTal xKn xFT xFA xFE xOdds xPat o12.2) H := hP
          have hD : va_D A (wX k a xLen xHits xUns xItems xLost xKind xSize xLet xRel xLim xOpen xMeas xSL xST xSD xSK xTal xKn xFT xFA xFE xOdds xPat o12.2) := hD
          have he := Option.some.inj h
          exact W.iret (v := o12.1) hx hb hr (fun t ht hW => ⟨⟨o12.1, wX k a xLen xHits xUns xItems xLost xKind xSize xLet xRel xLim xOpen xMeas xSL xST xSD xSK xTal xKn xFT xFA xFE xOdds xPat o12.2, rfl, ⟨(congrArg (fun z => z.1) he), (congrArg (fun z => wX k a xLen xHits xUns z.2.1 z.2.2.1 z.2.2.2.1 z.2.2.2.2.1 xLet xRel xLim xOpen xMeas xSL xST xSD xSK xTal xKn xFT xFA xFE xOdds xPat z.2.2.2.2.2) he)⟩, by rw [ht]; exact hP, va_K.moved hW.alike hK, hD⟩, hS.F ht⟩) hS.2.2 dX10_sheet_32
      · replace h := (if_neg c7).symm.trans h
        refine lv_bipush (v := (-2)) hx hb dX10_sheet_20 (by decide) ?_
        have he := Option.some.inj h
        exact W.iret (v := (-2)) hx hb hr (fun t ht hW => ⟨⟨(-2), wX k a xLen xHits xUns xItems xLost xKind xSize xLet xRel xLim xOpen xMeas xSL xST xSD xSK xTal xKn xFT xFA xFE xOdds xPat xFind, rfl, ⟨(congrArg (fun z => z.1) he), (congrArg (fun z => wX k a xLen xHits xUns z.2.1 z.2.2.1 z.2.2.2.1 z.2.2.2.2.1 xLet xRel xLim xOpen xMeas xSL xST xSD xSK xTal xKn xFT xFA xFE xOdds xPat z.2.2.2.2.2) he)⟩, by rw [ht]; exact hP, va_K.moved hW.alike hK, hD⟩, hS.F ht⟩) hS.2.2 dX10_sheet_22
set_option maxHeartbeats 4000000 in
set_option maxRecDepth 100000 in
theorem c_X10_sheet {N : Nat} (l : Launch) (D : va_G) (k : Nat → ClassId) (a : Nat → Nat) (xLen : Nat → Int32) (xHits : Nat → Int32) (xUns : Nat → Int32) (xItems : Nat → Nat → Int32) (xLost : Nat → Int32) (xKind : Nat → Int32) (xSize : Nat → Int32) (xLet : Nat → Int32) (xRel : Nat → Int32) (xLim : Nat → Int32) (xOpen : Nat → Int32) (xMeas : Nat → Int32) (xSL : Int32) (xST : Int32) (xSD : Int32) (xSK : Int32) (xTal : Nat → Nat → Int32) (xKn : Nat → Int32) (xFT : Nat → Int32) (xFA : Int32) (xFE : Int32) (xOdds : Int32) (xPat : Int32) (xFind : Int32) (x1 : Int32) (x2 : Int32) (x3 : Int32) {o : Int32 × (Nat → Nat → Int32) × (Nat → Int32) × (Nat → Int32) × (Nat → Int32) × (Int32)} (h : f_X10_sheet N x1 x2 x3 xItems xLost xKind xSize xFind = some o) : mQi l yX10_sheet wo_X10_sheet 1 D k [.ref (a 0), .int x1, .int x2, .int x3] (wX k a xLen xHits xUns xItems xLost xKind xSize xLet xRel xLim xOpen xMeas xSL xST xSD xSK xTal xKn xFT xFA xFE xOdds xPat xFind) o.1 (wX k a xLen xHits xUns o.2.1 o.2.2.1 o.2.2.2.1 o.2.2.2.2.1 xLet xRel xLim xOpen xMeas xSL xST xSD xSK xTal xKn xFT xFA xFE xOdds xPat o.2.2.2.2.2) := by
  intro sz
  refine Met.ofW (cc := cX10_sheet) (maxL := 4) (ret := some .int) (by decide) rfl ?_
  intro p e s m args below meth c s₁ B hml hv
  obtain ⟨rfl, hsz, hP, hK, hD0⟩ := hv
  subst hsz
  rw [lg_entry_eq]
  exact core_X10_sheet D k a xLen xHits xUns xItems xLost xKind xSize xLet xRel xLim xOpen xMeas xSL xST xSD xSK xTal xKn xFT xFA xFE xOdds xPat xFind x1 x2 x3 B.exec B.bytes hml B.returns (atoms_spec (ws := wo_X10_sheet) B.pre) (findClass_of_methodNamed B.named) B.notSynchronized (lv_entry [.ref (a 0), .int x1, .int x2, .int x3] (n := 4) (Nat.le_of_ble_eq_true rfl)) hK hP hD0.self (fun q h => Or.inr h) h
theorem qd_X10_sheet : yX10_sheet.cls = RX10 ∧ yX10_sheet.cls ≠ "java/lang/invoke/MethodHandle" ∧ yX10_sheet.cls ≠ "java/lang/invoke/VarHandle" ∧ (parseMethodDescriptor yX10_sheet.desc).map (fun d => d.parameters.length) = some 3 := by decide +kernel
abbrev wo_X10_lose : List Cond := .code yX10_lose cX10_lose 2 (some .int) :: wsL_law
set_option maxHeartbeats 4000000 in
set_option maxRecDepth 100000 in
theorem core_X10_lose (D : va_G) (k : Nat → ClassId) (a : Nat → Nat) (xLen : Nat → Int32) (xHits : Nat → Int32) (xUns : Nat → Int32) (xItems : Nat → Nat → Int32) (xLost : Nat → Int32) (xKind : Nat → Int32) (xSize : Nat → Int32) (xLet : Nat → Int32) (xRel : Nat → Int32) (xLim : Nat → Int32) (xOpen : Nat → Int32) (xMeas : Nat → Int32) (xSL : Int32) (xST : Int32) (xSD : Int32) (xSK : Int32) (xTal : Nat → Nat → Int32) (xKn : Nat → Int32) (xFT : Nat → Int32) (xFA : Int32) (xFE : Int32) (xOdds : Int32) (xPat : Int32) (xFind : Int32) (x1 : Int32) {p : Program} {l : Launch} {e : Env} {s : State} {m : MethodId} {args : Array Value} {below : List Frame} {meth : Method} {c : Code} {ls : Array Slot} (hx : p.tables.exec = Jvm.exec) (hb : c.code = cX10_lose) (hml : c.maxLocals = 2) (hr : meth.sig.returnType = some .int) (hts : ∀ w ∈ wo_X10_lose, w.before args s = true) (hown : s.vm.findClass RX10 = some m.cls) (hlocks : meth.locks = false) (hl : lv_has ls 2 [(0, .ref (a 0)), (1, .int x1)]) (hK : va_K D vwCl (xTys k) s) (hP : va_P D vwCl (wX k a xLen xHits xUns xItems xLost xKind xSize xLet xRel xLim xOpen xMeas xSL xST xSD xSK xTal xKn xFT xFA xFE xOdds xPat xFind) s.heap) {A : Nat → Prop} (hD : va_D A (wX k a xLen xHits xUns xItems xLost xKind xSize xLet xRel xLim xOpen xMeas xSL xST xSD xSK xTal xKn xFT xFA xFE xOdds xPat xFind)) (hA : ∀ q : Nat, s.heap.size ≤ q → A q) {o : Int32 × (Nat → Int32) × (Int32)} (h : f_X10_lose x1 xLost xSize xFind = some o) : gQi p l e wo_X10_lose 1 s m args below meth c D k A o.1 (wX k a xLen xHits xUns xItems o.2.1 xKind xSize xLet xRel xLim xOpen xMeas xSL xST xSD xSK xTal xKn xFT xFA xFE xOdds xPat o.2.2) s.heap [] (F0 m 0 ls []) := by
  have hi10 := (fun w h => List.mem_cons_of_mem _ (inlX10 w h) : ∀ w ∈ wsX100, w ∈ wo_X10_lose)
  have kf18 := hts _ (List.mem_cons_of_mem _ wm_17)
  have hi7 := (fun w h => List.mem_cons_of_mem _ (inlX7 w h) : ∀ w ∈ wsX70, w ∈ wo_X10_lose)
  have kf75 := hts _ (List.mem_cons_of_mem _ wm_127)
  have kf83 := hts _ (List.mem_cons_of_mem _ wm_128)
  unfold f_X10_lose at h
  have hS : va_S A s.heap s.heap [] := va_S.rf
  obtain ⟨H, hH⟩ : ∃ H : Heap, H = s.heap := ⟨_, rfl⟩
  obtain ⟨locs, hlc⟩ : ∃ locs : List Loc, locs = [] := ⟨_, rfl⟩
  have hS : va_S A s.heap H locs := by rw [hH, hlc]; exact va_S.rf
  have hP : va_P D vwCl (wX k a xLen xHits xUns xItems xLost xKind xSize xLet xRel xLim xOpen xMeas xSL xST xSD xSK xTal xKn xFT xFA xFE xOdds xPat xFind) H := by rw [hH]; exact hP
  suffices hGo : gQi p l e wo_X10_lose 1 s m args below meth c D k A o.1 (wX k a xLen xHits xUns xItems o.2.1 xKind xSize xLet xRel xLim xOpen xMeas xSL xST xSD xSK xTal xKn xFT xFA xFE xOdds xPat o.2.2) H locs (F0 m 0 ls []) by rw [hH, hlc] at hGo; exact hGo
  refine lv_iload_n hx hb dX10_lose_0 rfl (lv_at hl 1 rfl) ?_
  obtain ⟨o1, eq2, h⟩ := bnd_some h
  refine kPi (rest := []) ⟨hx, hb, hml, hown, hts⟩ (c_X10_isSheet l x1 eq2) (va_cwS 1 hts (gAS wm_130 wm_131 wm_2 wm_132) rfl rfl rfl qd_X10_isSheet ⟨Nat.le_of_ble_eq_true rfl, Nat.le_of_ble_eq_true rfl⟩) rfl hl.1 rfl (Nat.le_of_ble_eq_true rfl) dX10_lose_1 ⟨Nat.zero_le _, Nat.zero_le _⟩ ?_
  refine lv_if_ne (tgt := 10) hx hb dX10_lose_4 (by decide) (fun c3 => ?_) (fun c3 => ?_)
  · replace h := (if_neg c3).symm.trans h
    refine lv_aload_n hx hb dX10_lose_10 rfl (lv_at hl 0 rfl) ?_
    refine va_get (D := D) (ci := 5) (v := .ref (a 2)) (C := RX10) (T := TX10) (N := 8) hx hb hts hi10 hown hK hP (0) (rfl) rfl 1 (by decide) kf18 (fun _ h9 => h9) rfl dX10_lose_11 ?_
    refine lv_iload_n hx hb dX10_lose_14 rfl (lv_at hl 1 rfl) ?_
    obtain ⟨g4, h⟩ := gIn_some h
    refine va_aldq hx hb hK hP (2) 3 rfl rfl g4 dX10_lose_15 ?_
    refine W.eq (g2 := F0 m 16 ls [.ref (a (18 + x1.toNatClampNeg))]) rfl ?_
    refine va_get (D := D) (ci := 3) (v := .int (xLost x1.toNatClampNeg)) (C := RX7) (T := TX7) (N := 4) hx hb hts hi7 hown hK hP ((18 + x1.toNatClampNeg)) (wX_sheet (vp_in_lt g4)) rfl 1 (by decide) kf75 (fun _ h9 => h9) rfl dX10_lose_16 ?_
    refine lv_if_eq (tgt := 28) hx hb dX10_lose_19 (by decide) (fun c5 => ?_) (fun c5 => ?_)
    · replace h := (if_pos c5).symm.trans h
      refine lv_aload_n hx hb dX10_lose_28 rfl (lv_at hl 0 rfl) ?_
      refine va_get (D := D) (ci := 5) (v := .ref (a 2)) (C := RX10) (T := TX10) (N := 8) hx hb hts hi10 hown hK hP (0) (rfl) rfl 1 (by decide) kf18 (fun _ h9 => h9) rfl dX10_lose_29 ?_
      refine lv_iload_n hx hb dX10_lose_32 rfl (lv_at hl 1 rfl) ?_
      refine va_aldq hx hb hK hP (2) 3 rfl rfl g4 dX10_lose_33 ?_
      refine W.eq (g2 := F0 m 34 ls [.ref (a (18 + x1.toNatClampNeg))]) rfl ?_
      refine lv_iconst (v := 1) hx hb dX10_lose_34 (by decide) ?_
      refine va_put (D := D) (ci := 3) (v := .int 1) (ty := .boolean) (C := RX7) (T := TX7) (N := 4) hx hb hts hi7 tyX7 tyX7_ok nmX7 hown hK hP hD hS ((18 + x1.toNatClampNeg)) (wX_sheet (vp_in_lt g4)) rfl 1 (by decide) kf75 (fun _ h9 => h9) rfl (tyX7_ok 1 (by decide)) rfl rfl (Nat.le_of_ble_eq_true rfl) dX10_lose_35 (fun H locs hP hD hS => ?_)
      have hP : va_P D vwCl (wX k a xLen xHits xUns xItems (va_up xLost x1.toNatClampNeg 1) xKind xSize xLet xRel xLim xOpen xMeas xSL xST xSD xSK xTal xKn xFT xFA xFE xOdds xPat xFind) H := by rw [← wX_s_xLost (vp_in_lt g4)]; exact hP
      have hD : va_D A (wX k a xLen xHits xUns xItems (va_up xLost x1.toNatClampNeg 1) xKind xSize xLet xRel xLim xOpen xMeas xSL xST xSD xSK xTal xKn xFT xFA xFE xOdds xPat xFind) := by rw [← wX_s_xLost (vp_in_lt g4)]; exact hD
      refine lv_aload_n hx hb dX10_lose_38 rfl (lv_at hl 0 rfl) ?_
      refine va_get (D := D) (ci := 5) (v := .ref (a 2)) (C := RX10) (T := TX10) (N := 8) hx hb hts hi10 hown hK hP (0) (rfl) rfl 1 (by decide) kf18 (fun _ h9 => h9) rfl dX10_lose_39 ?_
      refine lv_iload_n hx hb dX10_lose_42 rfl (lv_at hl 1 rfl) ?_
      refine va_aldq hx hb hK hP (2) 3 rfl rfl g4 dX10_lose_43 ?_
      refine W.eq (g2 := F0 m 44 ls [.ref (a (18 + x1.toNatClampNeg))]) rfl ?_
      refine va_get (D := D) (ci := 3) (v := .int (xSize x1.toNatClampNeg)) (C := RX7) (T := TX7) (N := 4) hx hb hts hi7 hown hK hP ((18 + x1.toNatClampNeg)) (wX_sheet (vp_in_lt g4)) rfl 3 (by decide) kf83 (fun _ h9 => h9) rfl dX10_lose_44 ?_
      have he := Option.some.inj h
      exact W.iret (v := (xSize x1.toNatClampNeg)) hx hb hr (fun t ht hW => ⟨⟨(xSize x1.toNatClampNeg), wX k a xLen xHits xUns xItems (va_up xLost x1.toNatClampNeg 1) xKind xSize xLet xRel xLim xOpen xMeas xSL xST xSD xSK xTal xKn xFT xFA xFE xOdds xPat xFind, rfl, ⟨(congrArg (fun z => z.1) he), (congrArg (fun z => wX k a xLen xHits xUns xItems z.2.1 xKind xSize xLet xRel xLim xOpen xMeas xSL xST xSD xSK xTal xKn xFT xFA xFE xOdds xPat z.2.2) he)⟩, by rw [ht]; exact hP, va_K.moved hW.alike hK, hD⟩, hS.F ht⟩) hS.2.2 dX10_lose_47
    · replace h := (if_neg c5).symm.trans h
      refine lv_aload_n hx hb dX10_lose_22 rfl (lv_at hl 0 rfl) ?_
      refine lv_iconst (v := 1) hx hb dX10_lose_23 (by decide) ?_
      obtain ⟨o6, eq7, h⟩ := bnd_some h
      refine kQiV (rest := []) (q0 := 0) ⟨hx, hb, hml, hown, hts⟩ (c_X10_found l D k a xLen xHits xUns xItems xLost xKind xSize xLet xRel xLim xOpen xMeas xSL xST xSD xSK xTal xKn xFT xFA xFE xOdds xPat xFind 1 eq7) (cwV 1 hts (gAV wm_133 wm_134 wm_135 wm_2 wm_136) rfl rfl rfl qd_X10_found ⟨Nat.le_of_ble_eq_true rfl, Nat.le_of_ble_eq_true rfl⟩) hK hP hD hS hA (rfl) rfl rfl hl.1 rfl (Nat.le_of_ble_eq_true rfl) dX10_lose_24 ⟨Nat.zero_le _, Nat.zero_le _⟩ (fun H locs hP hD hS => ?_)
      have hP : va_P D vwCl (wX k a xLen xHits xUns xItems xLost xKind xSize xLet xRel xLim xOpen xMeas xSL xST xSD xSK xTal xKn xFT xFA xFE xOdds xPat o6.2) H := hP
      have hD : va_D A (wX k a xLen xHits xUns xItems xLost xKind xSize xLet xRel xLim xOpen xMeas xSL xST xSD xSK xTal xKn xFT xFA xFE xOdds xPat o6.2) := hD
      have he := Option.some.inj h
      exact W.iret (v := o6.1) hx hb hr (fun t ht hW => ⟨⟨o6.1, wX k a xLen xHits xUns xItems xLost xKind xSize xLet xRel xLim xOpen xMeas xSL xST xSD xSK xTal xKn xFT xFA xFE xOdds xPat o6.2, rfl, ⟨(congrArg (fun z => z.1) he), (congrArg (fun z => wX k a xLen xHits xUns xItems z.2.1 xKind xSize xLet xRel xLim xOpen xMeas xSL xST xSD xSK xTal xKn xFT xFA xFE xOdds xPat z.2.2) he)⟩, by rw [ht]; exact hP, va_K.moved hW.alike hK, hD⟩, hS.F ht⟩) hS.2.2 dX10_lose_27
  · replace h := (if_pos c3).symm.trans h
    refine lv_bipush (v := (-2)) hx hb dX10_lose_7 (by decide) ?_
    have he := Option.some.inj h
    exact W.iret (v := (-2)) hx hb hr (fun t ht hW => ⟨⟨(-2), wX k a xLen xHits xUns xItems xLost xKind xSize xLet xRel xLim xOpen xMeas xSL xST xSD xSK xTal xKn xFT xFA xFE xOdds xPat xFind, rfl, ⟨(congrArg (fun z => z.1) he), (congrArg (fun z => wX k a xLen xHits xUns xItems z.2.1 xKind xSize xLet xRel xLim xOpen xMeas xSL xST xSD xSK xTal xKn xFT xFA xFE xOdds xPat z.2.2) he)⟩, by rw [ht]; exact hP, va_K.moved hW.alike hK, hD⟩, hS.F ht⟩) hS.2.2 dX10_lose_9
set_option maxHeartbeats 4000000 in
set_option maxRecDepth 100000 in
theorem c_X10_lose (l : Launch) (D : va_G) (k : Nat → ClassId) (a : Nat → Nat) (xLen : Nat → Int32) (xHits : Nat → Int32) (xUns : Nat → Int32) (xItems : Nat → Nat → Int32) (xLost : Nat → Int32) (xKind : Nat → Int32) (xSize : Nat → Int32) (xLet : Nat → Int32) (xRel : Nat → Int32) (xLim : Nat → Int32) (xOpen : Nat → Int32) (xMeas : Nat → Int32) (xSL : Int32) (xST : Int32) (xSD : Int32) (xSK : Int32) (xTal : Nat → Nat → Int32) (xKn : Nat → Int32) (xFT : Nat → Int32) (xFA : Int32) (xFE : Int32) (xOdds : Int32) (xPat : Int32) (xFind : Int32) (x1 : Int32) {o : Int32 × (Nat → Int32) × (Int32)} (h : f_X10_lose x1 xLost xSize xFind = some o) : mQi l yX10_lose wo_X10_lose 1 D k [.ref (a 0), .int x1] (wX k a xLen xHits xUns xItems xLost xKind xSize xLet xRel xLim xOpen xMeas xSL xST xSD xSK xTal xKn xFT xFA xFE xOdds xPat xFind) o.1 (wX k a xLen xHits xUns xItems o.2.1 xKind xSize xLet xRel xLim xOpen xMeas xSL xST xSD xSK xTal xKn xFT xFA xFE xOdds xPat o.2.2) := by
  intro sz
  refine Met.ofW (cc := cX10_lose) (maxL := 2) (ret := some .int) (by decide) rfl ?_
  intro p e s m args below meth c s₁ B hml hv
  obtain ⟨rfl, hsz, hP, hK, hD0⟩ := hv
  subst hsz
  rw [lg_entry_eq]
  exact core_X10_lose D k a xLen xHits xUns xItems xLost xKind xSize xLet xRel xLim xOpen xMeas xSL xST xSD xSK xTal xKn xFT xFA xFE xOdds xPat xFind x1 B.exec B.bytes hml B.returns (atoms_spec (ws := wo_X10_lose) B.pre) (findClass_of_methodNamed B.named) B.notSynchronized (lv_entry [.ref (a 0), .int x1] (n := 2) (Nat.le_of_ble_eq_true rfl)) hK hP hD0.self (fun q h => Or.inr h) h
theorem qd_X10_lose : yX10_lose.cls = RX10 ∧ yX10_lose.cls ≠ "java/lang/invoke/MethodHandle" ∧ yX10_lose.cls ≠ "java/lang/invoke/VarHandle" ∧ (parseMethodDescriptor yX10_lose.desc).map (fun d => d.parameters.length) = some 1 := by decide +kernel
abbrev wo_X10_put : List Cond := .code yX10_put cX10_put 6 (some .int) :: wsL_law
set_option maxHeartbeats 4000000 in
set_option maxRecDepth 100000 in
theorem core_X10_put (D : va_G) (k : Nat → ClassId) (a : Nat → Nat) (xLen : Nat → Int32) (xHits : Nat → Int32) (xUns : Nat → Int32) (xItems : Nat → Nat → Int32) (xLost : Nat → Int32) (xKind : Nat → Int32) (xSize : Nat → Int32) (xLet : Nat → Int32) (xRel : Nat → Int32) (xLim : Nat → Int32) (xOpen : Nat → Int32) (xMeas : Nat → Int32) (xSL : Int32) (xST : Int32) (xSD : Int32) (xSK : Int32) (xTal : Nat → Nat → Int32) (xKn : Nat → Int32) (xFT : Nat → Int32) (xFA : Int32) (xFE : Int32) (xOdds : Int32) (xPat : Int32) (xFind : Int32) (x1 : Int32) (x2 : Int32) (x3 : Int32) (x4 : Int32) {p : Program} {l : Launch} {e : Env} {s : State} {m : MethodId} {args : Array Value} {below : List Frame} {meth : Method} {c : Code} {ls : Array Slot} (hx : p.tables.exec = Jvm.exec) (hb : c.code = cX10_put) (hml : c.maxLocals = 6) (hr : meth.sig.returnType = some .int) (hts : ∀ w ∈ wo_X10_put, w.before args s = true) (hown : s.vm.findClass RX10 = some m.cls) (hlocks : meth.locks = false) (hl : lv_has ls 6 [(0, .ref (a 0)), (1, .int x1), (2, .int x2), (3, .int x3), (4, .int x4)]) (hK : va_K D vwCl (xTys k) s) (hP : va_P D vwCl (wX k a xLen xHits xUns xItems xLost xKind xSize xLet xRel xLim xOpen xMeas xSL xST xSD xSK xTal xKn xFT xFA xFE xOdds xPat xFind) s.heap) {A : Nat → Prop} (hD : va_D A (wX k a xLen xHits xUns xItems xLost xKind xSize xLet xRel xLim xOpen xMeas xSL xST xSD xSK xTal xKn xFT xFA xFE xOdds xPat xFind)) (hA : ∀ q : Nat, s.heap.size ≤ q → A q) {o : Int32 × (Nat → Nat → Int32) × (Int32)} (h : f_X10_put x1 x2 x3 x4 xItems xLost xKind xSize xFind = some o) : gQi p l e wo_X10_put 2 s m args below meth c D k A o.1 (wX k a xLen xHits xUns o.2.1 xLost xKind xSize xLet xRel xLim xOpen xMeas xSL xST xSD xSK xTal xKn xFT xFA xFE xOdds xPat o.2.2) s.heap [] (F0 m 0 ls []) := by
  have hi10 := (fun w h => List.mem_cons_of_mem _ (inlX10 w h) : ∀ w ∈ wsX100, w ∈ wo_X10_put)
  have kf18 := hts _ (List.mem_cons_of_mem _ wm_17)
  unfold f_X10_put at h
  have hS : va_S A s.heap s.heap [] := va_S.rf
  obtain ⟨H, hH⟩ : ∃ H : Heap, H = s.heap := ⟨_, rfl⟩
  obtain ⟨locs, hlc⟩ : ∃ locs : List Loc, locs = [] := ⟨_, rfl⟩
  have hS : va_S A s.heap H locs := by rw [hH, hlc]; exact va_S.rf
  have hP : va_P D vwCl (wX k a xLen xHits xUns xItems xLost xKind xSize xLet xRel xLim xOpen xMeas xSL xST xSD xSK xTal xKn xFT xFA xFE xOdds xPat xFind) H := by rw [hH]; exact hP
  suffices hGo : gQi p l e wo_X10_put 2 s m args below meth c D k A o.1 (wX k a xLen xHits xUns o.2.1 xLost xKind xSize xLet xRel xLim xOpen xMeas xSL xST xSD xSK xTal xKn xFT xFA xFE xOdds xPat o.2.2) H locs (F0 m 0 ls []) by rw [hH, hlc] at hGo; exact hGo
  refine lv_aload_n hx hb dX10_put_0 rfl (lv_at hl 0 rfl) ?_
  refine lv_iload_n hx hb dX10_put_1 rfl (lv_at hl 1 rfl) ?_
  refine lv_iload_n hx hb dX10_put_2 rfl (lv_at hl 2 rfl) ?_
  refine lv_iload_n hx hb dX10_put_3 rfl (lv_at hl 3 rfl) ?_
  obtain ⟨o1, eq2, h⟩ := bnd_some h
  refine kQiV (rest := []) (q0 := 0) ⟨hx, hb, hml, hown, hts⟩ (c_X10_refusesItem l D k a xLen xHits xUns xItems xLost xKind xSize xLet xRel xLim xOpen xMeas xSL xST xSD xSK xTal xKn xFT xFA xFE xOdds xPat xFind x1 x2 x3 eq2) (cwV 3 hts (gAV wm_779 wm_780 wm_781 wm_2 wm_782) rfl rfl rfl qd_X10_refusesItem ⟨Nat.le_of_ble_eq_true rfl, Nat.le_of_ble_eq_true rfl⟩) hK hP hD hS hA (rfl) rfl rfl hl.1 rfl (Nat.le_of_ble_eq_true rfl) dX10_put_4 ⟨Nat.zero_le _, Nat.zero_le _⟩ (fun H locs hP hD hS => ?_)
  have hP : va_P D vwCl (wX k a xLen xHits xUns xItems xLost xKind xSize xLet xRel xLim xOpen xMeas xSL xST xSD xSK xTal xKn xFT xFA xFE xOdds xPat o1.2) H := hP
  have hD : va_D A (wX k a xLen xHits xUns xItems xLost xKind xSize xLet xRel xLim xOpen xMeas xSL xST xSD xSK xTal xKn xFT xFA xFE xOdds xPat o1.2) := hD
  refine lv_istore (lv' := [(5, .int o1.1), (0, .ref (a 0)), (1, .int x1), (2, .int x2), (3, .int x3), (4, .int x4)]) hx hb dX10_put_7 hl (by decide) rfl (fun ls hl => ?_)
  refine lv_iload hx hb dX10_put_9 (lv_at hl 0 rfl) ?_
  refine lv_if_eq (tgt := 17) hx hb dX10_put_11 (by decide) (fun c3 => ?_) (fun c3 => ?_)
  · replace h := (if_pos c3).symm.trans h
    refine lv_aload_n hx hb dX10_put_17 rfl (lv_at hl 1 rfl) ?_
    refine va_get (D := D) (ci := 5) (v := .ref (a 2)) (C := RX10) (T := TX10) (N := 8) hx hb hts hi10 hown hK hP (0) (rfl) rfl 1 (by decide) kf18 (fun _ h9 => h9) rfl dX10_put_18 ?_
    refine lv_iload_n hx hb dX10_put_21 rfl (lv_at hl 2 rfl) ?_
    obtain ⟨g4, h⟩ := gIn_some h
    refine va_aldq hx hb hK hP (2) 3 rfl rfl g4 dX10_put_22 ?_
    refine W.eq (g2 := F0 m 23 ls [.ref (a (18 + x1.toNatClampNeg))]) rfl ?_
    refine lv_iload_n hx hb dX10_put_23 rfl (lv_at hl 4 rfl) ?_
    refine lv_iload hx hb dX10_put_24 (lv_at hl 5 rfl) ?_
    obtain ⟨o5, eq6, h⟩ := bnd_some h
    refine kQvV (rest := []) (q0 := (18 + x1.toNatClampNeg)) ⟨hx, hb, hml, hown, hts⟩ (c_X7_store l D k a xLen xHits xUns xItems xLost xKind xSize xLet xRel xLim xOpen xMeas xSL xST xSD xSK xTal xKn xFT xFA xFE xOdds xPat o1.2 x1.toNatClampNeg (vp_in_lt g4) x3 x4 eq6) (cwV 2 hts (gAV wm_784 wm_785 wm_786 wm_19 wm_787) rfl rfl rfl qd_X7_store ⟨Nat.le_of_ble_eq_true rfl, Nat.le_of_ble_eq_true rfl⟩) hK hP hD hS hA (wX_sheet (vp_in_lt g4)) rfl rfl hl.1 rfl (Nat.le_of_ble_eq_true rfl) dX10_put_26 ⟨Nat.zero_le _, Nat.zero_le _⟩ (fun H locs hP hD hS => ?_)
    have hP : va_P D vwCl (wX k a xLen xHits xUns o5 xLost xKind xSize xLet xRel xLim xOpen xMeas xSL xST xSD xSK xTal xKn xFT xFA xFE xOdds xPat o1.2) H := hP
    have hD : va_D A (wX k a xLen xHits xUns o5 xLost xKind xSize xLet xRel xLim xOpen xMeas xSL xST xSD xSK xTal xKn xFT xFA xFE xOdds xPat o1.2) := hD
    refine lv_iconst (v := 1) hx hb dX10_put_29 (by decide) ?_
    have he := Option.some.inj h
    exact W.iret (v := 1) hx hb hr (fun t ht hW => ⟨⟨1, wX k a xLen xHits xUns o5 xLost xKind xSize xLet xRel xLim xOpen xMeas xSL xST xSD xSK xTal xKn xFT xFA xFE xOdds xPat o1.2, rfl, ⟨(congrArg (fun z => z.1) he), (congrArg (fun z => wX k a xLen xHits xUns z.2.1 xLost xKind xSize xLet xRel xLim xOpen xMeas xSL xST xSD xSK xTal xKn xFT xFA xFE xOdds xPat z.2.2) he)⟩, by rw [ht]; exact hP, va_K.moved hW.alike hK, hD⟩, hS.F ht⟩) hS.2.2 dX10_put_30
  · replace h := (if_neg c3).symm.trans h
    refine lv_iload hx hb dX10_put_14 (lv_at hl 0 rfl) ?_
    have he := Option.some.inj h
    exact W.iret (v := o1.1) hx hb hr (fun t ht hW => ⟨⟨o1.1, wX k a xLen xHits xUns xItems xLost xKind xSize xLet xRel xLim xOpen xMeas xSL xST xSD xSK xTal xKn xFT xFA xFE xOdds xPat o1.2, rfl, ⟨(congrArg (fun z => z.1) he), (congrArg (fun z => wX k a xLen xHits xUns z.2.1 xLost xKind xSize xLet xRel xLim xOpen xMeas xSL xST xSD xSK xTal xKn xFT xFA xFE xOdds xPat z.2.2) he)⟩, by rw [ht]; exact hP, va_K.moved hW.alike hK, hD⟩, hS.F ht⟩) hS.2.2 dX10_put_16
set_option maxHeartbeats 4000000 in
set_option maxRecDepth 100000 in
theorem c_X10_put (l : Launch) (D : va_G) (k : Nat → ClassId) (a : Nat → Nat) (xLen : Nat → Int32) (xHits : Nat → Int32) (xUns : Nat → Int32) (xItems : Nat → Nat → Int32) (xLost : Nat → Int32) (xKind : Nat → Int32) (xSize : Nat → Int32) (xLet : Nat → Int32) (xRel : Nat → Int32) (xLim : Nat → Int32) (xOpen : Nat → Int32) (xMeas : Nat → Int32) (xSL : Int32) (xST : Int32) (xSD : Int32) (xSK : Int32) (xTal : Nat → Nat → Int32) (xKn : Nat → Int32) (xFT : Nat → Int32) (xFA : Int32) (xFE : Int32) (xOdds : Int32) (xPat : Int32) (xFind : Int32) (x1 : Int32) (x2 : Int32) (x3 : Int32) (x4 : Int32) {o : Int32 × (Nat → Nat → Int32) × (Int32)} (h : f_X10_put x1 x2 x3 x4 xItems xLost xKind xSize xFind = some o) : mQi l yX10_put wo_X10_put 2 D k [.ref (a 0), .int x1, .int x2, .int x3, .int x4] (wX k a xLen xHits xUns xItems xLost xKind xSize xLet xRel xLim xOpen xMeas xSL xST xSD xSK xTal xKn xFT xFA xFE xOdds xPat xFind) o.1 (wX k a xLen xHits xUns o.2.1 xLost xKind xSize xLet xRel xLim xOpen xMeas xSL xST xSD xSK xTal xKn xFT xFA xFE xOdds xPat o.2.2) := by
  intro sz
  refine Met.ofW (cc := cX10_put) (maxL := 6) (ret := some .int) (by decide) rfl ?_
  intro p e s m args below meth c s₁ B hml hv
  obtain ⟨rfl, hsz, hP, hK, hD0⟩ := hv
  subst hsz
  rw [lg_entry_eq]
  exact core_X10_put D k a xLen xHits xUns xItems xLost xKind xSize xLet xRel xLim xOpen xMeas xSL xST xSD xSK xTal xKn xFT xFA xFE xOdds xPat xFind x1 x2 x3 x4 B.exec B.bytes hml B.returns (atoms_spec (ws := wo_X10_put) B.pre) (findClass_of_methodNamed B.named) B.notSynchronized (lv_entry [.ref (a 0), .int x1, .int x2, .int x3, .int x4] (n := 6) (Nat.le_of_ble_eq_true rfl)) hK hP hD0.self (fun q h => Or.inr h) h
theorem qd_X10_put : yX10_put.cls = RX10 ∧ yX10_put.cls ≠ "java/lang/invoke/MethodHandle" ∧ yX10_put.cls ≠ "java/lang/invoke/VarHandle" ∧ (parseMethodDescriptor yX10_put.desc).map (fun d => d.parameters.length) = some 4 := by decide +kernel
abbrev wo_X10_get : List Cond := .code yX10_get cX10_get 4 (some .int) :: wsL_law
set_option maxHeartbeats 4000000 in
set_option maxRecDepth 100000 in
theorem core_X10_get (D : va_G) (k : Nat → ClassId) (a : Nat → Nat) (xLen : Nat → Int32) (xHits : Nat → Int32) (xUns : Nat → Int32) (xItems : Nat → Nat → Int32) (xLost : Nat → Int32) (xKind : Nat → Int32) (xSize : Nat → Int32) (xLet : Nat → Int32) (xRel : Nat → Int32) (xLim : Nat → Int32) (xOpen : Nat → Int32) (xMeas : Nat → Int32) (xSL : Int32) (xST : Int32) (xSD : Int32) (xSK : Int32) (xTal : Nat → Nat → Int32) (xKn : Nat → Int32) (xFT : Nat → Int32) (xFA : Int32) (xFE : Int32) (xOdds : Int32) (xPat : Int32) (xFind : Int32) (x1 : Int32) (x2 : Int32) (x3 : Int32) {p : Program} {l : Launch} {e : Env} {s : State} {m : MethodId} {args : Array Value} {below : List Frame} {meth : Method} {c : Code} {ls : Array Slot} (hx : p.tables.exec = Jvm.exec) (hb : c.code = cX10_get) (hml : c.maxLocals = 4) (hr : meth.sig.returnType = some .int) (hts : ∀ w ∈ wo_X10_get, w.before args s = true) (hown : s.vm.findClass RX10 = some m.cls) (hlocks : meth.locks = false) (hl : lv_has ls 4 [(0, .ref (a 0)), (1, .int x1), (2, .int x2), (3, .int x3)]) (hK : va_K D vwCl (xTys k) s) (hP : va_P D vwCl (wX k a xLen xHits xUns xItems xLost xKind xSize xLet xRel xLim xOpen xMeas xSL xST xSD xSK xTal xKn xFT xFA xFE xOdds xPat xFind) s.heap) {A : Nat → Prop} (hD : va_D A (wX k a xLen xHits xUns xItems xLost xKind xSize xLet xRel xLim xOpen xMeas xSL xST xSD xSK xTal xKn xFT xFA xFE xOdds xPat xFind)) (hA : ∀ q : Nat, s.heap.size ≤ q → A q) {o : Int32 × (Int32)} (h : f_X10_get x1 x2 x3 xItems xLost xKind xSize xFind = some o) : gQi p l e wo_X10_get 2 s m args below meth c D k A o.1 (wX k a xLen xHits xUns xItems xLost xKind xSize xLet xRel xLim xOpen xMeas xSL xST xSD xSK xTal xKn xFT xFA xFE xOdds xPat o.2) s.heap [] (F0 m 0 ls []) := by
  have hi10 := (fun w h => List.mem_cons_of_mem _ (inlX10 w h) : ∀ w ∈ wsX100, w ∈ wo_X10_get)
  have kf18 := hts _ (List.mem_cons_of_mem _ wm_17)
  have hi7 := (fun w h => List.mem_cons_of_mem _ (inlX7 w h) : ∀ w ∈ wsX70, w ∈ wo_X10_get)
  have kf86 := hts _ (List.mem_cons_of_mem _ wm_129)
  have kc250 := hts _ (List.mem_cons_of_mem _ wm_804)
  unfold f_X10_get at h
  have hS : va_S A s.heap s.heap [] := va_S.rf
  obtain ⟨H, hH⟩ : ∃ H : Heap, H = s.heap := ⟨_, rfl⟩
  obtain ⟨locs, hlc⟩ : ∃ locs : List Loc, locs = [] := ⟨_, rfl⟩
  have hS : va_S A s.heap H locs := by rw [hH, hlc]; exact va_S.rf
  have hP : va_P D vwCl (wX k a xLen xHits xUns xItems xLost xKind xSize xLet xRel xLim xOpen xMeas xSL xST xSD xSK xTal xKn xFT xFA xFE xOdds xPat xFind) H := by rw [hH]; exact hP
  suffices hGo : gQi p l e wo_X10_get 2 s m args below meth c D k A o.1 (wX k a xLen xHits xUns xItems xLost xKind xSize xLet xRel xLim xOpen xMeas xSL xST xSD xSK xTal xKn xFT xFA xFE xOdds xPat o.2) H locs (F0 m 0 ls []) by rw [hH, hlc] at hGo; exact hGo
  refine lv_aload_n hx hb dX10_get_0 rfl (lv_at hl 0 rfl) ?_
  refine lv_iload_n hx hb dX10_get_1 rfl (lv_at hl 1 rfl) ?_
  refine lv_iload_n hx hb dX10_get_2 rfl (lv_at hl 2 rfl) ?_
  refine lv_iload_n hx hb dX10_get_3 rfl (lv_at hl 3 rfl) ?_
  obtain ⟨o1, eq2, h⟩ := bnd_some h
  refine kQiV (rest := []) (q0 := 0) ⟨hx, hb, hml, hown, hts⟩ (c_X10_refusesItem l D k a xLen xHits xUns xItems xLost xKind xSize xLet xRel xLim xOpen xMeas xSL xST xSD xSK xTal xKn xFT xFA xFE xOdds xPat xFind x1 x2 x3 eq2) (cwV 3 hts (gAV wm_779 wm_780 wm_781 wm_2 wm_782) rfl rfl rfl qd_X10_refusesItem ⟨Nat.le_of_ble_eq_true rfl, Nat.le_of_ble_eq_true rfl⟩) hK hP hD hS hA (rfl) rfl rfl hl.1 rfl (Nat.le_of_ble_eq_true rfl) dX10_get_4 ⟨Nat.zero_le _, Nat.zero_le _⟩ (fun H locs hP hD hS => ?_)
  have hP : va_P D vwCl (wX k a xLen xHits xUns xItems xLost xKind xSize xLet xRel xLim xOpen xMeas xSL xST xSD xSK xTal xKn xFT xFA xFE xOdds xPat o1.2) H := hP
  have hD : va_D A (wX k a xLen xHits xUns xItems xLost xKind xSize xLet xRel xLim xOpen xMeas xSL xST xSD xSK xTal xKn xFT xFA xFE xOdds xPat o1.2) := hD
  refine lv_if_eq (tgt := 15) hx hb dX10_get_7 (by decide) (fun c3 => ?_) (fun c3 => ?_)
  · replace h := (if_pos c3).symm.trans h
    refine lv_aload_n hx hb dX10_get_15 rfl (lv_at hl 0 rfl) ?_
    refine va_get (D := D) (ci := 5) (v := .ref (a 2)) (C := RX10) (T := TX10) (N := 8) hx hb hts hi10 hown hK hP (0) (rfl) rfl 1 (by decide) kf18 (fun _ h9 => h9) rfl dX10_get_16 ?_
    refine lv_iload_n hx hb dX10_get_19 rfl (lv_at hl 1 rfl) ?_
    obtain ⟨g4, h⟩ := gIn_some h
    refine va_aldq hx hb hK hP (2) 3 rfl rfl g4 dX10_get_20 ?_
    refine W.eq (g2 := F0 m 21 ls [.ref (a (18 + x1.toNatClampNeg))]) rfl ?_
    refine va_get (D := D) (ci := 3) (v := .ref (a (22 + x1.toNatClampNeg))) (C := RX7) (T := TX7) (N := 4) hx hb hts hi7 hown hK hP ((18 + x1.toNatClampNeg)) (wX_sheet (vp_in_lt g4)) rfl 0 (by decide) kf86 (fun _ h9 => h9) rfl dX10_get_21 ?_
    refine lv_iload_n hx hb dX10_get_24 rfl (lv_at hl 3 rfl) ?_
    obtain ⟨g5, h⟩ := gIn_some h
    refine va_iald hx hb hK hP ((22 + x1.toNatClampNeg)) 0 (wX_items (vp_in_lt g4)) rfl g5 dX10_get_25 ?_
    have he := Option.some.inj h
    exact W.iret (v := (xItems x1.toNatClampNeg x3.toNatClampNeg)) hx hb hr (fun t ht hW => ⟨⟨(xItems x1.toNatClampNeg x3.toNatClampNeg), wX k a xLen xHits xUns xItems xLost xKind xSize xLet xRel xLim xOpen xMeas xSL xST xSD xSK xTal xKn xFT xFA xFE xOdds xPat o1.2, rfl, ⟨(congrArg (fun z => z.1) he), (congrArg (fun z => wX k a xLen xHits xUns xItems xLost xKind xSize xLet xRel xLim xOpen xMeas xSL xST xSD xSK xTal xKn xFT xFA xFE xOdds xPat z.2) he)⟩, by rw [ht]; exact hP, va_K.moved hW.alike hK, hD⟩, hS.F ht⟩) hS.2.2 dX10_get_26
  · replace h := (if_neg c3).symm.trans h
    refine lv_ldc (v := (-2147483648)) hx hb hown kc250 dX10_get_10 ?_
    refine lv_goto (tgt := 26) hx hb dX10_get_12 (by decide) ?_
    have he := Option.some.inj h
    exact W.iret (v := (-2147483648)) hx hb hr (fun t ht hW => ⟨⟨(-2147483648), wX k a xLen xHits xUns xItems xLost xKind xSize xLet xRel xLim xOpen xMeas xSL xST xSD xSK xTal xKn xFT xFA xFE xOdds xPat o1.2, rfl, ⟨(congrArg (fun z => z.1) he), (congrArg (fun z => wX k a xLen xHits xUns xItems xLost xKind xSize xLet xRel xLim xOpen xMeas xSL xST xSD xSK xTal xKn xFT xFA xFE xOdds xPat z.2) he)⟩, by rw [ht]; exact hP, va_K.moved hW.alike hK, hD⟩, hS.F ht⟩) hS.2.2 dX10_get_26
set_option maxHeartbeats 4000000 in
set_option maxRecDepth 100000 in
theorem c_X10_get (l : Launch) (D : va_G) (k : Nat → ClassId) (a : Nat → Nat) (xLen : Nat → Int32) (xHits : Nat → Int32) (xUns : Nat → Int32) (xItems : Nat → Nat → Int32) (xLost : Nat → Int32) (xKind : Nat → Int32) (xSize : Nat → Int32) (xLet : Nat → Int32) (xRel : Nat → Int32) (xLim : Nat → Int32) (xOpen : Nat → Int32) (xMeas : Nat → Int32) (xSL : Int32) (xST : Int32) (xSD : Int32) (xSK : Int32) (xTal : Nat → Nat → Int32) (xKn : Nat → Int32) (xFT : Nat → Int32) (xFA : Int32) (xFE : Int32) (xOdds : Int32) (xPat : Int32) (xFind : Int32) (x1 : Int32) (x2 : Int32) (x3 : Int32) {o : Int32 × (Int32)} (h : f_X10_get x1 x2 x3 xItems xLost xKind xSize xFind = some o) : mQi l yX10_get wo_X10_get 2 D k [.ref (a 0), .int x1, .int x2, .int x3] (wX k a xLen xHits xUns xItems xLost xKind xSize xLet xRel xLim xOpen xMeas xSL xST xSD xSK xTal xKn xFT xFA xFE xOdds xPat xFind) o.1 (wX k a xLen xHits xUns xItems xLost xKind xSize xLet xRel xLim xOpen xMeas xSL xST xSD xSK xTal xKn xFT xFA xFE xOdds xPat o.2) := by
  intro sz
  refine Met.ofW (cc := cX10_get) (maxL := 4) (ret := some .int) (by decide) rfl ?_
  intro p e s m args below meth c s₁ B hml hv
  obtain ⟨rfl, hsz, hP, hK, hD0⟩ := hv
  subst hsz
  rw [lg_entry_eq]
  exact core_X10_get D k a xLen xHits xUns xItems xLost xKind xSize xLet xRel xLim xOpen xMeas xSL xST xSD xSK xTal xKn xFT xFA xFE xOdds xPat xFind x1 x2 x3 B.exec B.bytes hml B.returns (atoms_spec (ws := wo_X10_get) B.pre) (findClass_of_methodNamed B.named) B.notSynchronized (lv_entry [.ref (a 0), .int x1, .int x2, .int x3] (n := 4) (Nat.le_of_ble_eq_true rfl)) hK hP hD0.self (fun q h => Or.inr h) h
theorem qd_X10_get : yX10_get.cls = RX10 ∧ yX10_get.cls ≠ "java/lang/invoke/MethodHandle" ∧ yX10_get.cls ≠ "java/lang/invoke/VarHandle" ∧ (parseMethodDescriptor yX10_get.desc).map (fun d => d.parameters.length) = some 3 := by decide +kernel
abbrev wo_X10_copy : List Cond := .code yX10_copy cX10_copy 8 (some .int) :: wsL_law
set_option maxHeartbeats 4000000 in
set_option maxRecDepth 100000 in
theorem core_X10_copy (D : va_G) (k : Nat → ClassId) (a : Nat → Nat) (xLen : Nat → Int32) (xHits : Nat → Int32) (xUns : Nat → Int32) (xItems : Nat → Nat → Int32) (xLost : Nat → Int32) (xKind : Nat → Int32) (xSize : Nat → Int32) (xLet : Nat → Int32) (xRel : Nat → Int32) (xLim : Nat → Int32) (xOpen : Nat → Int32) (xMeas : Nat → Int32) (xSL : Int32) (xST : Int32) (xSD : Int32) (xSK : Int32) (xTal : Nat → Nat → Int32) (xKn : Nat → Int32) (xFT : Nat → Int32) (xFA : Int32) (xFE : Int32) (xOdds : Int32) (xPat : Int32) (xFind : Int32) (x1 : Int32) (x2 : Int32) (x3 : Int32) (x4 : Int32) (x5 : Int32) {p : Program} {l : Launch} {e : Env} {s : State} {m : MethodId} {args : Array Value} {below : List Frame} {meth : Method} {c : Code} {ls : Array Slot} (hx : p.tables.exec = Jvm.exec) (hb : c.code = cX10_copy) (hml : c.maxLocals = 8) (hr : meth.sig.returnType = some .int) (hts : ∀ w ∈ wo_X10_copy, w.before args s = true) (hown : s.vm.findClass RX10 = some m.cls) (hlocks : meth.locks = false) (hl : lv_has ls 8 [(0, .ref (a 0)), (1, .int x1), (2, .int x2), (3, .int x3), (4, .int x4), (5, .int x5)]) (hK : va_K D vwCl (xTys k) s) (hP : va_P D vwCl (wX k a xLen xHits xUns xItems xLost xKind xSize xLet xRel xLim xOpen xMeas xSL xST xSD xSK xTal xKn xFT xFA xFE xOdds xPat xFind) s.heap) {A : Nat → Prop} (hD : va_D A (wX k a xLen xHits xUns xItems xLost xKind xSize xLet xRel xLim xOpen xMeas xSL xST xSD xSK xTal xKn xFT xFA xFE xOdds xPat xFind)) (hA : ∀ q : Nat, s.heap.size ≤ q → A q) {o : Int32 × (Nat → Nat → Int32) × (Int32)} (h : f_X10_copy x1 x2 x3 x4 x5 xItems xLost xKind xSize xFind = some o) : gQi p l e wo_X10_copy 1 s m args below meth c D k A o.1 (wX k a xLen xHits xUns o.2.1 xLost xKind xSize xLet xRel xLim xOpen xMeas xSL xST xSD xSK xTal xKn xFT xFA xFE xOdds xPat o.2.2) s.heap [] (F0 m 0 ls []) := by
  have hi10 := (fun w h => List.mem_cons_of_mem _ (inlX10 w h) : ∀ w ∈ wsX100, w ∈ wo_X10_copy)
  have kf18 := hts _ (List.mem_cons_of_mem _ wm_17)
  have hi7 := (fun w h => List.mem_cons_of_mem _ (inlX7 w h) : ∀ w ∈ wsX70, w ∈ wo_X10_copy)
  have kf75 := hts _ (List.mem_cons_of_mem _ wm_127)
  have kf251 := hts _ (List.mem_cons_of_mem _ wm_783)
  have kf86 := hts _ (List.mem_cons_of_mem _ wm_129)
  have ml257 := hts _ (List.mem_cons_of_mem _ wm_814)
  have mn257 := hts _ (List.mem_cons_of_mem _ wm_815)
  have ms257 := hts _ (List.mem_cons_of_mem _ wm_816)
  have mi257 := hts _ (List.mem_cons_of_mem _ wm_817)
  unfold f_X10_copy at h
  have hS : va_S A s.heap s.heap [] := va_S.rf
  have J97 : ∀ (xItems : Nat → Nat → Int32) (xFind : Int32) (ls : Array Slot) (H : Heap) (locs : List Loc) (hl : lv_has ls 8 [(0, .ref (a 0))]) (hP : va_P D vwCl (wX k a xLen xHits xUns xItems xLost xKind xSize xLet xRel xLim xOpen xMeas xSL xST xSD xSK xTal xKn xFT xFA xFE xOdds xPat xFind) H) (hD : va_D A (wX k a xLen xHits xUns xItems xLost xKind xSize xLet xRel xLim xOpen xMeas xSL xST xSD xSK xTal xKn xFT xFA xFE xOdds xPat xFind)) (hS : va_S A s.heap H locs) (h : f_X10_copy_97 xItems xLost xKind xSize xFind = some o), gQi p l e wo_X10_copy 1 s m args below meth c D k A o.1 (wX k a xLen xHits xUns o.2.1 xLost xKind xSize xLet xRel xLim xOpen xMeas xSL xST xSD xSK xTal xKn xFT xFA xFE xOdds xPat o.2.2) H locs (F0 m 97 ls []) := by
    intro xItems xFind ls H locs hl hP hD hS h
    unfold f_X10_copy_97 at h
    refine lv_aload_n hx hb dX10_copy_97 rfl (lv_at hl 0 rfl) ?_
    refine lv_iconst (v := 2) hx hb dX10_copy_98 (by decide) ?_
    obtain ⟨o1, eq2, h⟩ := bnd_some h
    refine kQiV (rest := []) (q0 := 0) ⟨hx, hb, hml, hown, hts⟩ (c_X10_found l D k a xLen xHits xUns xItems xLost xKind xSize xLet xRel xLim xOpen xMeas xSL xST xSD xSK xTal xKn xFT xFA xFE xOdds xPat xFind 2 eq2) (cwV 1 hts (gAV wm_133 wm_134 wm_135 wm_2 wm_136) rfl rfl rfl qd_X10_found ⟨Nat.le_of_ble_eq_true rfl, Nat.le_of_ble_eq_true rfl⟩) hK hP hD hS hA (rfl) rfl rfl hl.1 rfl (Nat.le_of_ble_eq_true rfl) dX10_copy_99 ⟨Nat.zero_le _, Nat.zero_le _⟩ (fun H locs hP hD hS => ?_)
    have hP : va_P D vwCl (wX k a xLen xHits xUns xItems xLost xKind xSize xLet xRel xLim xOpen xMeas xSL xST xSD xSK xTal xKn xFT xFA xFE xOdds xPat o1.2) H := hP
    have hD : va_D A (wX k a xLen xHits xUns xItems xLost xKind xSize xLet xRel xLim xOpen xMeas xSL xST xSD xSK xTal xKn xFT xFA xFE xOdds xPat o1.2) := hD
    have he := Option.some.inj h
    exact W.iret (v := o1.1) hx hb hr (fun t ht hW => ⟨⟨o1.1, wX k a xLen xHits xUns xItems xLost xKind xSize xLet xRel xLim xOpen xMeas xSL xST xSD xSK xTal xKn xFT xFA xFE xOdds xPat o1.2, rfl, ⟨(congrArg (fun z => z.1) he), (congrArg (fun z => wX k a xLen xHits xUns z.2.1 xLost xKind xSize xLet xRel xLim xOpen xMeas xSL xST xSD xSK xTal xKn xFT xFA xFE xOdds xPat z.2.2) he)⟩, by rw [ht]; exact hP, va_K.moved hW.alike hK, hD⟩, hS.F ht⟩) hS.2.2 dX10_copy_102
  have J49 : ∀ (xItems : Nat → Nat → Int32) (xFind : Int32) (ls : Array Slot) (H : Heap) (locs : List Loc) (hl : lv_has ls 8 [(0, .ref (a 0))]) (hP : va_P D vwCl (wX k a xLen xHits xUns xItems xLost xKind xSize xLet xRel xLim xOpen xMeas xSL xST xSD xSK xTal xKn xFT xFA xFE xOdds xPat xFind) H) (hD : va_D A (wX k a xLen xHits xUns xItems xLost xKind xSize xLet xRel xLim xOpen xMeas xSL xST xSD xSK xTal xKn xFT xFA xFE xOdds xPat xFind)) (hS : va_S A s.heap H locs) (h : f_X10_copy_49 xItems xLost xKind xSize xFind = some o), gQi p l e wo_X10_copy 1 s m args below meth c D k A o.1 (wX k a xLen xHits xUns o.2.1 xLost xKind xSize xLet xRel xLim xOpen xMeas xSL xST xSD xSK xTal xKn xFT xFA xFE xOdds xPat o.2.2) H locs (F0 m 49 ls []) := by
    intro xItems xFind ls H locs hl hP hD hS h
    unfold f_X10_copy_49 at h
    refine lv_aload_n hx hb dX10_copy_49 rfl (lv_at hl 0 rfl) ?_
    refine lv_iconst (v := 1) hx hb dX10_copy_50 (by decide) ?_
    obtain ⟨o3, eq4, h⟩ := bnd_some h
    refine kQiV (rest := []) (q0 := 0) ⟨hx, hb, hml, hown, hts⟩ (c_X10_found l D k a xLen xHits xUns xItems xLost xKind xSize xLet xRel xLim xOpen xMeas xSL xST xSD xSK xTal xKn xFT xFA xFE xOdds xPat xFind 1 eq4) (cwV 1 hts (gAV wm_133 wm_134 wm_135 wm_2 wm_136) rfl rfl rfl qd_X10_found ⟨Nat.le_of_ble_eq_true rfl, Nat.le_of_ble_eq_true rfl⟩) hK hP hD hS hA (rfl) rfl rfl hl.1 rfl (Nat.le_of_ble_eq_true rfl) dX10_copy_51 ⟨Nat.zero_le _, Nat.zero_le _⟩ (fun H locs hP hD hS => ?_)
    have hP : va_P D vwCl (wX k a xLen xHits xUns xItems xLost xKind xSize xLet xRel xLim xOpen xMeas xSL xST xSD xSK xTal xKn xFT xFA xFE xOdds xPat o3.2) H := hP
    have hD : va_D A (wX k a xLen xHits xUns xItems xLost xKind xSize xLet xRel xLim xOpen xMeas xSL xST xSD xSK xTal xKn xFT xFA xFE xOdds xPat o3.2) := hD
    have he := Option.some.inj h
    exact W.iret (v := o3.1) hx hb hr (fun t ht hW => ⟨⟨o3.1, wX k a xLen xHits xUns xItems xLost xKind xSize xLet xRel xLim xOpen xMeas xSL xST xSD xSK xTal xKn xFT xFA xFE xOdds xPat o3.2, rfl, ⟨(congrArg (fun z => z.1) he), (congrArg (fun z => wX k a xLen xHits xUns z.2.1 xLost xKind xSize xLet xRel xLim xOpen xMeas xSL xST xSD xSK xTal xKn xFT xFA xFE xOdds xPat z.2.2) he)⟩, by rw [ht]; exact hP, va_K.moved hW.alike hK, hD⟩, hS.F ht⟩) hS.2.2 dX10_copy_54
  obtain ⟨H, hH⟩ : ∃ H : Heap, H = s.heap := ⟨_, rfl⟩
  obtain ⟨locs, hlc⟩ : ∃ locs : List Loc, locs = [] := ⟨_, rfl⟩
  have hS : va_S A s.heap H locs := by rw [hH, hlc]; exact va_S.rf
  have hP : va_P D vwCl (wX k a xLen xHits xUns xItems xLost xKind xSize xLet xRel xLim xOpen xMeas xSL xST xSD xSK xTal xKn xFT xFA xFE xOdds xPat xFind) H := by rw [hH]; exact hP
  suffices hGo : gQi p l e wo_X10_copy 1 s m args below meth c D k A o.1 (wX k a xLen xHits xUns o.2.1 xLost xKind xSize xLet xRel xLim xOpen xMeas xSL xST xSD xSK xTal xKn xFT xFA xFE xOdds xPat o.2.2) H locs (F0 m 0 ls []) by rw [hH, hlc] at hGo; exact hGo
  refine lv_iload_n hx hb dX10_copy_0 rfl (lv_at hl 1 rfl) ?_
  obtain ⟨o5, eq6, h⟩ := bnd_some h
  refine kPi (rest := []) ⟨hx, hb, hml, hown, hts⟩ (c_X10_isSheet l x1 eq6) (va_cwS 1 hts (gAS wm_130 wm_131 wm_2 wm_132) rfl rfl rfl qd_X10_isSheet ⟨Nat.le_of_ble_eq_true rfl, Nat.le_of_ble_eq_true rfl⟩) rfl hl.1 rfl (Nat.le_of_ble_eq_true rfl) dX10_copy_1 ⟨Nat.zero_le _, Nat.zero_le _⟩ ?_
  refine lv_if_eq (tgt := 14) hx hb dX10_copy_4 (by decide) (fun c7 => ?_) (fun c7 => ?_)
  · replace h := (if_pos c7).symm.trans h
    refine lv_bipush (v := (-2)) hx hb dX10_copy_14 (by decide) ?_
    have he := Option.some.inj h
    exact W.iret (v := (-2)) hx hb hr (fun t ht hW => ⟨⟨(-2), wX k a xLen xHits xUns xItems xLost xKind xSize xLet xRel xLim xOpen xMeas xSL xST xSD xSK xTal xKn xFT xFA xFE xOdds xPat xFind, rfl, ⟨(congrArg (fun z => z.1) he), (congrArg (fun z => wX k a xLen xHits xUns z.2.1 xLost xKind xSize xLet xRel xLim xOpen xMeas xSL xST xSD xSK xTal xKn xFT xFA xFE xOdds xPat z.2.2) he)⟩, by rw [ht]; exact hP, va_K.moved hW.alike hK, hD⟩, hS.F ht⟩) hS.2.2 dX10_copy_16
  · replace h := (if_neg c7).symm.trans h
    refine lv_iload_n hx hb dX10_copy_7 rfl (lv_at hl 3 rfl) ?_
    obtain ⟨o8, eq9, h⟩ := bnd_some h
    refine kPi (rest := []) ⟨hx, hb, hml, hown, hts⟩ (c_X10_isSheet l x3 eq9) (va_cwS 1 hts (gAS wm_130 wm_131 wm_2 wm_132) rfl rfl rfl qd_X10_isSheet ⟨Nat.le_of_ble_eq_true rfl, Nat.le_of_ble_eq_true rfl⟩) rfl hl.1 rfl (Nat.le_of_ble_eq_true rfl) dX10_copy_8 ⟨Nat.zero_le _, Nat.zero_le _⟩ ?_
    refine lv_if_ne (tgt := 17) hx hb dX10_copy_11 (by decide) (fun c10 => ?_) (fun c10 => ?_)
    · replace h := (if_neg c10).symm.trans h
      refine lv_aload_n hx hb dX10_copy_17 rfl (lv_at hl 0 rfl) ?_
      refine va_get (D := D) (ci := 5) (v := .ref (a 2)) (C := RX10) (T := TX10) (N := 8) hx hb hts hi10 hown hK hP (0) (rfl) rfl 1 (by decide) kf18 (fun _ h9 => h9) rfl dX10_copy_18 ?_
      refine lv_iload_n hx hb dX10_copy_21 rfl (lv_at hl 1 rfl) ?_
      obtain ⟨g11, h⟩ := gIn_some h
      refine va_aldq hx hb hK hP (2) 3 rfl rfl g11 dX10_copy_22 ?_
      refine W.eq (g2 := F0 m 23 ls [.ref (a (18 + x1.toNatClampNeg))]) rfl ?_
      refine lv_astore (lv' := [(6, .ref (a (18 + x1.toNatClampNeg))), (0, .ref (a 0)), (1, .int x1), (2, .int x2), (3, .int x3), (4, .int x4), (5, .int x5)]) hx hb dX10_copy_23 hl (by decide) rfl (fun ls hl => ?_)
      refine lv_aload_n hx hb dX10_copy_25 rfl (lv_at hl 1 rfl) ?_
      refine va_get (D := D) (ci := 5) (v := .ref (a 2)) (C := RX10) (T := TX10) (N := 8) hx hb hts hi10 hown hK hP (0) (rfl) rfl 1 (by decide) kf18 (fun _ h9 => h9) rfl dX10_copy_26 ?_
      refine lv_iload_n hx hb dX10_copy_29 rfl (lv_at hl 4 rfl) ?_
      obtain ⟨g12, h⟩ := gIn_some h
      refine va_aldq hx hb hK hP (2) 3 rfl rfl g12 dX10_copy_30 ?_
      refine W.eq (g2 := F0 m 31 ls [.ref (a (18 + x3.toNatClampNeg))]) rfl ?_
      refine lv_astore (lv' := [(7, .ref (a (18 + x3.toNatClampNeg))), (6, .ref (a (18 + x1.toNatClampNeg))), (0, .ref (a 0)), (1, .int x1), (2, .int x2), (3, .int x3), (4, .int x4), (5, .int x5)]) hx hb dX10_copy_31 hl (by decide) rfl (fun ls hl => ?_)
      refine lv_aload hx hb dX10_copy_33 (lv_at hl 1 rfl) ?_
      refine va_get (D := D) (ci := 3) (v := .int (xLost x1.toNatClampNeg)) (C := RX7) (T := TX7) (N := 4) hx hb hts hi7 hown hK hP ((18 + x1.toNatClampNeg)) (wX_sheet (vp_in_lt g11)) rfl 1 (by decide) kf75 (fun _ h9 => h9) rfl dX10_copy_35 ?_
      refine lv_if_ne (tgt := 49) hx hb dX10_copy_38 (by decide) (fun c13 => ?_) (fun c13 => ?_)
      · replace h := (if_neg c13).symm.trans h
        exact J49 xItems xFind ls H locs (lv_sub hl [2] rfl) hP hD hS h
      · replace h := (if_pos c13).symm.trans h
        refine lv_aload hx hb dX10_copy_41 (lv_at hl 0 rfl) ?_
        refine va_get (D := D) (ci := 3) (v := .int (xLost x3.toNatClampNeg)) (C := RX7) (T := TX7) (N := 4) hx hb hts hi7 hown hK hP ((18 + x3.toNatClampNeg)) (wX_sheet (vp_in_lt g12)) rfl 1 (by decide) kf75 (fun _ h9 => h9) rfl dX10_copy_43 ?_
        refine lv_if_eq (tgt := 55) hx hb dX10_copy_46 (by decide) (fun c14 => ?_) (fun c14 => ?_)
        · replace h := (if_pos c14).symm.trans h
          refine lv_aload hx hb dX10_copy_55 (lv_at hl 1 rfl) ?_
          refine va_get (D := D) (ci := 3) (v := .int (xKind x1.toNatClampNeg)) (C := RX7) (T := TX7) (N := 4) hx hb hts hi7 hown hK hP ((18 + x1.toNatClampNeg)) (wX_sheet (vp_in_lt g11)) rfl 2 (by decide) kf251 (fun _ h9 => h9) rfl dX10_copy_57 ?_
          refine lv_aload hx hb dX10_copy_60 (lv_at hl 0 rfl) ?_
          refine va_get (D := D) (ci := 3) (v := .int (xKind x3.toNatClampNeg)) (C := RX7) (T := TX7) (N := 4) hx hb hts hi7 hown hK hP ((18 + x3.toNatClampNeg)) (wX_sheet (vp_in_lt g12)) rfl 2 (by decide) kf251 (fun _ h9 => h9) rfl dX10_copy_62 ?_
          refine lv_icmp_eq (tgt := 74) hx hb dX10_copy_65 (by decide) (fun c15 => ?_) (fun c15 => ?_)
          · replace h := (if_pos c15).symm.trans h
            refine lv_aload hx hb dX10_copy_74 (lv_at hl 1 rfl) ?_
            refine lv_iload_n hx hb dX10_copy_76 rfl (lv_at hl 4 rfl) ?_
            refine lv_iload hx hb dX10_copy_77 (lv_at hl 7 rfl) ?_
            obtain ⟨o16, eq17, h⟩ := bnd_some h
            refine kRiV (rest := []) (q0 := (18 + x1.toNatClampNeg)) ⟨hx, hb, hml, hown, hts⟩ (c_X7_hasSpan l D k a xLen xHits xUns xItems xLost xKind xSize xLet xRel xLim xOpen xMeas xSL xST xSD xSK xTal xKn xFT xFA xFE xOdds xPat xFind x1.toNatClampNeg (vp_in_lt g11) x2 x5 eq17) (cwV 2 hts (gAV wm_818 wm_819 wm_820 wm_19 wm_821) rfl rfl rfl qd_X7_hasSpan ⟨Nat.le_of_ble_eq_true rfl, Nat.le_of_ble_eq_true rfl⟩) hK hP (wX_sheet (vp_in_lt g11)) rfl rfl hl.1 rfl (Nat.le_of_ble_eq_true rfl) dX10_copy_79 ⟨Nat.zero_le _, Nat.zero_le _⟩ ?_
            refine lv_if_eq (tgt := 97) hx hb dX10_copy_82 (by decide) (fun c18 => ?_) (fun c18 => ?_)
            · replace h := (if_pos c18).symm.trans h
              exact J97 xItems xFind ls H locs (lv_sub hl [2] rfl) hP hD hS h
            · replace h := (if_neg c18).symm.trans h
              refine lv_aload hx hb dX10_copy_85 (lv_at hl 0 rfl) ?_
              refine lv_iload hx hb dX10_copy_87 (lv_at hl 6 rfl) ?_
              refine lv_iload hx hb dX10_copy_89 (lv_at hl 7 rfl) ?_
              obtain ⟨o19, eq20, h⟩ := bnd_some h
              refine kRiV (rest := []) (q0 := (18 + x3.toNatClampNeg)) ⟨hx, hb, hml, hown, hts⟩ (c_X7_hasSpan l D k a xLen xHits xUns xItems xLost xKind xSize xLet xRel xLim xOpen xMeas xSL xST xSD xSK xTal xKn xFT xFA xFE xOdds xPat xFind x3.toNatClampNeg (vp_in_lt g12) x4 x5 eq20) (cwV 2 hts (gAV wm_818 wm_819 wm_820 wm_19 wm_821) rfl rfl rfl qd_X7_hasSpan ⟨Nat.le_of_ble_eq_true rfl, Nat.le_of_ble_eq_true rfl⟩) hK hP (wX_sheet (vp_in_lt g12)) rfl rfl hl.1 rfl (Nat.le_of_ble_eq_true rfl) dX10_copy_91 ⟨Nat.zero_le _, Nat.zero_le _⟩ ?_
              refine lv_if_ne (tgt := 103) hx hb dX10_copy_94 (by decide) (fun c21 => ?_) (fun c21 => ?_)
              · replace h := (if_neg c21).symm.trans h
                refine lv_aload hx hb dX10_copy_103 (lv_at hl 1 rfl) ?_
                refine va_get (D := D) (ci := 3) (v := .ref (a (22 + x1.toNatClampNeg))) (C := RX7) (T := TX7) (N := 4) hx hb hts hi7 hown hK hP ((18 + x1.toNatClampNeg)) (wX_sheet (vp_in_lt g11)) rfl 0 (by decide) kf86 (fun _ h9 => h9) rfl dX10_copy_105 ?_
                refine lv_iload_n hx hb dX10_copy_108 rfl (lv_at hl 4 rfl) ?_
                refine lv_aload hx hb dX10_copy_109 (lv_at hl 0 rfl) ?_
                refine va_get (D := D) (ci := 3) (v := .ref (a (22 + x3.toNatClampNeg))) (C := RX7) (T := TX7) (N := 4) hx hb hts hi7 hown hK hP ((18 + x3.toNatClampNeg)) (wX_sheet (vp_in_lt g12)) rfl 0 (by decide) kf86 (fun _ h9 => h9) rfl dX10_copy_111 ?_
                refine lv_iload hx hb dX10_copy_114 (lv_at hl 6 rfl) ?_
                refine lv_iload hx hb dX10_copy_116 (lv_at hl 7 rfl) ?_
                obtain ⟨g22, h⟩ := gCp_some h
                refine va_copyi hx hb (hml.trans hl.1.symm) hown ml257 mn257 ms257 mi257 hK hP hD hS ((22 + x1.toNatClampNeg)) ((22 + x3.toNatClampNeg)) 0 0 (wX_items (vp_in_lt g11)) (wX_items (vp_in_lt g12)) rfl rfl rfl g22.1 g22.2.1 g22.2.2.1 g22.2.2.2.1 g22.2.2.2.2 (fun _ _ => rfl) (Nat.le_of_ble_eq_true rfl) (Nat.le_of_ble_eq_true rfl) dX10_copy_118 (fun H locs hP hD hS => ?_)
                have hP : va_P D vwCl (wX k a xLen xHits xUns (va_up xItems x3.toNatClampNeg (va_cpy (xItems x1.toNatClampNeg) (xItems x3.toNatClampNeg) x2.toNatClampNeg x4.toNatClampNeg x5.toNatClampNeg)) xLost xKind xSize xLet xRel xLim xOpen xMeas xSL xST xSD xSK xTal xKn xFT xFA xFE xOdds xPat xFind) H := by rw [← wX_s_xItems (vp_in_lt g12)]; exact hP
                have hD : va_D A (wX k a xLen xHits xUns (va_up xItems x3.toNatClampNeg (va_cpy (xItems x1.toNatClampNeg) (xItems x3.toNatClampNeg) x2.toNatClampNeg x4.toNatClampNeg x5.toNatClampNeg)) xLost xKind xSize xLet xRel xLim xOpen xMeas xSL xST xSD xSK xTal xKn xFT xFA xFE xOdds xPat xFind) := by rw [← wX_s_xItems (vp_in_lt g12)]; exact hD
                refine lv_iconst (v := 1) hx hb dX10_copy_121 (by decide) ?_
                have he := Option.some.inj h
                exact W.iret (v := 1) hx hb hr (fun t ht hW => ⟨⟨1, wX k a xLen xHits xUns (va_up xItems x3.toNatClampNeg (va_cpy (xItems x1.toNatClampNeg) (xItems x3.toNatClampNeg) x2.toNatClampNeg x4.toNatClampNeg x5.toNatClampNeg)) xLost xKind xSize xLet xRel xLim xOpen xMeas xSL xST xSD xSK xTal xKn xFT xFA xFE xOdds xPat xFind, rfl, ⟨(congrArg (fun z => z.1) he), (congrArg (fun z => wX k a xLen xHits xUns z.2.1 xLost xKind xSize xLet xRel xLim xOpen xMeas xSL xST xSD xSK xTal xKn xFT xFA xFE xOdds xPat z.2.2) he)⟩, by rw [ht]; exact hP, va_K.moved hW.alike hK, hD⟩, hS.F ht⟩) hS.2.2 dX10_copy_122
              · replace h := (if_pos c21).symm.trans h
                exact J97 xItems xFind ls H locs (lv_sub hl [2] rfl) hP hD hS h
          · replace h := (if_neg c15).symm.trans h
            refine lv_aload_n hx hb dX10_copy_68 rfl (lv_at hl 2 rfl) ?_
            refine lv_iconst (v := 4) hx hb dX10_copy_69 (by decide) ?_
            obtain ⟨o23, eq24, h⟩ := bnd_some h
            refine kQiV (rest := []) (q0 := 0) ⟨hx, hb, hml, hown, hts⟩ (c_X10_found l D k a xLen xHits xUns xItems xLost xKind xSize xLet xRel xLim xOpen xMeas xSL xST xSD xSK xTal xKn xFT xFA xFE xOdds xPat xFind 4 eq24) (cwV 1 hts (gAV wm_133 wm_134 wm_135 wm_2 wm_136) rfl rfl rfl qd_X10_found ⟨Nat.le_of_ble_eq_true rfl, Nat.le_of_ble_eq_true rfl⟩) hK hP hD hS hA (rfl) rfl rfl hl.1 rfl (Nat.le_of_ble_eq_true rfl) dX10_copy_70 ⟨Nat.zero_le _, Nat.zero_le _⟩ (fun H locs hP hD hS => ?_)
            have hP : va_P D vwCl (wX k a xLen xHits xUns xItems xLost xKind xSize xLet xRel xLim xOpen xMeas xSL xST xSD xSK xTal xKn xFT xFA xFE xOdds xPat o23.2) H := hP
            have hD : va_D A (wX k a xLen xHits xUns xItems xLost xKind xSize xLet xRel xLim xOpen xMeas xSL xST xSD xSK xTal xKn xFT xFA xFE xOdds xPat o23.2) := hD
            have he := Option.some.inj h
            exact W.iret (v := o23.1) hx hb hr (fun t ht hW => ⟨⟨o23.1, wX k a xLen xHits xUns xItems xLost xKind xSize xLet xRel xLim xOpen xMeas xSL xST xSD xSK xTal xKn xFT xFA xFE xOdds xPat o23.2, rfl, ⟨(congrArg (fun z => z.1) he), (congrArg (fun z => wX k a xLen xHits xUns z.2.1 xLost xKind xSize xLet xRel xLim xOpen xMeas xSL xST xSD xSK xTal xKn xFT xFA xFE xOdds xPat z.2.2) he)⟩, by rw [ht]; exact hP, va_K.moved hW.alike hK, hD⟩, hS.F ht⟩) hS.2.2 dX10_copy_73
        · replace h := (if_neg c14).symm.trans h
          exact J49 xItems xFind ls H locs (lv_sub hl [2] rfl) hP hD hS h
    · replace h := (if_pos c10).symm.trans h
      refine lv_bipush (v := (-2)) hx hb dX10_copy_14 (by decide) ?_
      have he := Option.some.inj h
      exact W.iret (v := (-2)) hx hb hr (fun t ht hW => ⟨⟨(-2), wX k a xLen xHits xUns xItems xLost xKind xSize xLet xRel xLim xOpen xMeas xSL xST xSD xSK xTal xKn xFT xFA xFE xOdds xPat xFind, rfl, ⟨(congrArg (fun z => z.1) he), (congrArg (fun z => wX k a xLen xHits xUns z.2.1 xLost xKind xSize xLet xRel xLim xOpen xMeas xSL xST xSD xSK xTal xKn xFT xFA xFE xOdds xPat z.2.2) he)⟩, by rw [ht]; exact hP, va_K.moved hW.alike hK, hD⟩, hS.F ht⟩) hS.2.2 dX10_copy_16
set_option maxHeartbeats 4000000 in
set_option maxRecDepth 100000 in
theorem c_X10_copy (l : Launch) (D : va_G) (k : Nat → ClassId) (a : Nat → Nat) (xLen : Nat → Int32) (xHits : Nat → Int32) (xUns : Nat → Int32) (xItems : Nat → Nat → Int32) (xLost : Nat → Int32) (xKind : Nat → Int32) (xSize : Nat → Int32) (xLet : Nat → Int32) (xRel : Nat → Int32) (xLim : Nat → Int32) (xOpen : Nat → Int32) (xMeas : Nat → Int32) (xSL : Int32) (xST : Int32) (xSD : Int32) (xSK : Int32) (xTal : Nat → Nat → Int32) (xKn : Nat → Int32) (xFT : Nat → Int32) (xFA : Int32) (xFE : Int32) (xOdds : Int32) (xPat : Int32) (xFind : Int32) (x1 : Int32) (x2 : Int32) (x3 : Int32) (x4 : Int32) (x5 : Int32) {o : Int32 × (Nat → Nat → Int32) × (Int32)} (h : f_X10_copy x1 x2 x3 x4 x5 xItems xLost xKind xSize xFind = some o) : mQi l yX10_copy wo_X10_copy 1 D k [.ref (a 0), .int x1, .int x2, .int x3, .int x4, .int x5] (wX k a xLen xHits xUns xItems xLost xKind xSize xLet xRel xLim xOpen xMeas xSL xST xSD xSK xTal xKn xFT xFA xFE xOdds xPat xFind) o.1 (wX k a xLen xHits xUns o.2.1 xLost xKind xSize xLet xRel xLim xOpen xMeas xSL xST xSD xSK xTal xKn xFT xFA xFE xOdds xPat o.2.2) := by
  intro sz
  refine Met.ofW (cc := cX10_copy) (maxL := 8) (ret := some .int) (by decide) rfl ?_
  intro p e s m args below meth c s₁ B hml hv
  obtain ⟨rfl, hsz, hP, hK, hD0⟩ := hv
  subst hsz
  rw [lg_entry_eq]
  exact core_X10_copy D k a xLen xHits xUns xItems xLost xKind xSize xLet xRel xLim xOpen xMeas xSL xST xSD xSK xTal xKn xFT xFA xFE xOdds xPat xFind x1 x2 x3 x4 x5 B.exec B.bytes hml B.returns (atoms_spec (ws := wo_X10_copy) B.pre) (findClass_of_methodNamed B.named) B.notSynchronized (lv_entry [.ref (a 0), .int x1, .int x2, .int x3, .int x4, .int x5] (n := 8) (Nat.le_of_ble_eq_true rfl)) hK hP hD0.self (fun q h => Or.inr h) h
theorem qd_X10_copy : yX10_copy.cls = RX10 ∧ yX10_copy.cls ≠ "java/lang/invoke/MethodHandle" ∧ yX10_copy.cls ≠ "java/lang/invoke/VarHandle" ∧ (parseMethodDescriptor yX10_copy.desc).map (fun d => d.parameters.length) = some 5 := by decide +kernel
abbrev wo_X10_write : List Cond := .code yX10_write cX10_write 6 (some .int) :: wsL_law
set_option maxHeartbeats 4000000 in
set_option maxRecDepth 100000 in
theorem core_X10_write {N : Nat} (D : va_G) (k : Nat → ClassId) (a : Nat → Nat) (xLen : Nat → Int32) (xHits : Nat → Int32) (xUns : Nat → Int32) (xItems : Nat → Nat → Int32) (xLost : Nat → Int32) (xKind : Nat → Int32) (xSize : Nat → Int32) (xLet : Nat → Int32) (xRel : Nat → Int32) (xLim : Nat → Int32) (xOpen : Nat → Int32) (xMeas : Nat → Int32) (xSL : Int32) (xST : Int32) (xSD : Int32) (xSK : Int32) (xTal : Nat → Nat → Int32) (xKn : Nat → Int32) (xFT : Nat → Int32) (xFA : Int32) (xFE : Int32) (xOdds : Int32) (xPat : Int32) (xFind : Int32) (x1 : Int32) (x2 : Int32) {p : Program} {l : Launch} {e : Env} {s : State} {m : MethodId} {args : Array Value} {below : List Frame} {meth : Method} {c : Code} {ls : Array Slot} (hx : p.tables.exec = Jvm.exec) (hb : c.code = cX10_write) (hml : c.maxLocals = 6) (hr : meth.sig.returnType = some .int) (hts : ∀ w ∈ wo_X10_write, w.before args s = true) (hown : s.vm.findClass RX10 = some m.cls) (hlocks : meth.locks = false) (hl : lv_has ls 6 [(0, .ref (a 0)), (1, .int x1), (2, .int x2)]) (hK : va_K D vwCl (xTys k) s) (hP : va_P D vwCl (wX k a xLen xHits xUns xItems xLost xKind xSize xLet xRel xLim xOpen xMeas xSL xST xSD xSK xTal xKn xFT xFA xFE xOdds xPat xFind) s.heap) {A : Nat → Prop} (hD : va_D A (wX k a xLen xHits xUns xItems xLost xKind xSize xLet xRel xLim xOpen xMeas xSL xST xSD xSK xTal xKn xFT xFA xFE xOdds xPat xFind)) (hA : ∀ q : Nat, s.heap.size ≤ q → A q) {o : Int32 × (Nat → Nat → Int32) × (Int32)} (h : f_X10_write N x1 x2 xLen xHits xUns xItems xLost xKind xSize xFind = some o) : gQi p l e wo_X10_write 1 s m args below meth c D k A o.1 (wX k a xLen xHits xUns o.2.1 xLost xKind xSize xLet xRel xLim xOpen xMeas xSL xST xSD xSK xTal xKn xFT xFA xFE xOdds xPat o.2.2) s.heap [] (F0 m 0 ls []) := by
  have hi10 := (fun w h => List.mem_cons_of_mem _ (inlX10 w h) : ∀ w ∈ wsX100, w ∈ wo_X10_write)
  have kf11 := hts _ (List.mem_cons_of_mem _ wm_13)
  have kf18 := hts _ (List.mem_cons_of_mem _ wm_17)
  have hi7 := (fun w h => List.mem_cons_of_mem _ (inlX7 w h) : ∀ w ∈ wsX70, w ∈ wo_X10_write)
  have kf75 := hts _ (List.mem_cons_of_mem _ wm_127)
  have kf83 := hts _ (List.mem_cons_of_mem _ wm_128)
  have hi5 := (fun w h => List.mem_cons_of_mem _ (inlX5 w h) : ∀ w ∈ wsX50, w ∈ wo_X10_write)
  have kf69 := hts _ (List.mem_cons_of_mem _ wm_91)
  have ml263 := hts _ (List.mem_cons_of_mem _ wm_830)
  have ms263 := hts _ (List.mem_cons_of_mem _ wm_313)
  have mi263 := hts _ (List.mem_cons_of_mem _ wm_207)
  have mc263 := hts _ (List.mem_cons_of_mem _ wm_314)
  unfold f_X10_write at h
  have hS : va_S A s.heap s.heap [] := va_S.rf
  have L58 : ∀ (n58 : Nat) (x1 : Int32) (e3 : Nat) (x4 : Int32) (x5 : Int32) (xItems : Nat → Nat → Int32) (xFind : Int32) (ls : Array Slot) (H : Heap) (locs : List Loc) (he3 : e3 < 4) (hl : lv_has ls 6 [(0, .ref (a 0)), (1, .int x1), (3, .ref (a (18 + e3))), (4, .int x4), (5, .int x5)]) (hP : va_P D vwCl (wX k a xLen xHits xUns xItems xLost xKind xSize xLet xRel xLim xOpen xMeas xSL xST xSD xSK xTal xKn xFT xFA xFE xOdds xPat xFind) H) (hD : va_D A (wX k a xLen xHits xUns xItems xLost xKind xSize xLet xRel xLim xOpen xMeas xSL xST xSD xSK xTal xKn xFT xFA xFE xOdds xPat xFind)) (hS : va_S A s.heap H locs) (h : f_X10_write_58 N n58 x1 e3 x4 x5 xLen xHits xUns xItems xLost xKind xSize xFind = some o), gQi p l e wo_X10_write 1 s m args below meth c D k A o.1 (wX k a xLen xHits xUns o.2.1 xLost xKind xSize xLet xRel xLim xOpen xMeas xSL xST xSD xSK xTal xKn xFT xFA xFE xOdds xPat o.2.2) H locs (F0 m 58 ls []) := by
    intro n58
    induction n58 with
    | zero => intro x1 e3 x4 x5 xItems xFind ls H locs he3 hl hP hD hS h; cases (show (none : Option (Int32 × (Nat → Nat → Int32) × (Int32))) = some o from h)
    | succ n58 ih58 =>
      intro x1 e3 x4 x5 xItems xFind ls H locs he3 hl hP hD hS h
      rw [f_X10_write_58] at h
      refine lv_iload hx hb dX10_write_58 (lv_at hl 4 rfl) ?_
      refine lv_iload hx hb dX10_write_60 (lv_at hl 3 rfl) ?_
      refine lv_icmp_ge (tgt := 88) hx hb dX10_write_62 (by decide) (fun c1 => ?_) (fun c1 => ?_)
      · replace h := (if_pos c1).symm.trans h
        refine lv_iload hx hb dX10_write_88 (lv_at hl 3 rfl) ?_
        have he := Option.some.inj h
        exact W.iret (v := x4) hx hb hr (fun t ht hW => ⟨⟨x4, wX k a xLen xHits xUns xItems xLost xKind xSize xLet xRel xLim xOpen xMeas xSL xST xSD xSK xTal xKn xFT xFA xFE xOdds xPat xFind, rfl, ⟨(congrArg (fun z => z.1) he), (congrArg (fun z => wX k a xLen xHits xUns z.2.1 xLost xKind xSize xLet xRel xLim xOpen xMeas xSL xST xSD xSK xTal xKn xFT xFA xFE xOdds xPat z.2.2) he)⟩, by rw [ht]; exact hP, va_K.moved hW.alike hK, hD⟩, hS.F ht⟩) hS.2.2 dX10_write_90
      · replace h := (if_neg c1).symm.trans h
        refine lv_aload_n hx hb dX10_write_65 rfl (lv_at hl 2 rfl) ?_
        refine lv_iload hx hb dX10_write_66 (lv_at hl 4 rfl) ?_
        refine lv_aload_n hx hb dX10_write_68 rfl (lv_at hl 0 rfl) ?_
        refine va_get (D := D) (ci := 5) (v := .ref (a 1)) (C := RX10) (T := TX10) (N := 8) hx hb hts hi10 hown hK hP (0) (rfl) rfl 0 (by decide) kf11 (fun _ h9 => h9) rfl dX10_write_69 ?_
        refine lv_iload_n hx hb dX10_write_72 rfl (lv_at hl 1 rfl) ?_
        obtain ⟨g2, h⟩ := gIn_some h
        refine va_aldq hx hb hK hP (1) 2 rfl rfl g2 dX10_write_73 ?_
        refine W.eq (g2 := F0 m 74 ls [.ref (a (14 + x1.toNatClampNeg)), .int x5, .ref (a (18 + e3))]) rfl ?_
        refine lv_iload hx hb dX10_write_74 (lv_at hl 4 rfl) ?_
        obtain ⟨o3, eq4, h⟩ := bnd_some h
        refine kRiV (rest := [.int x5, .ref (a (18 + e3))]) (q0 := (14 + x1.toNatClampNeg)) ⟨hx, hb, hml, hown, hts⟩ (c_X5_signAt l D k a xLen xHits xUns xItems xLost xKind xSize xLet xRel xLim xOpen xMeas xSL xST xSD xSK xTal xKn xFT xFA xFE xOdds xPat xFind x1.toNatClampNeg (vp_in_lt g2) x5 eq4) (cwV 1 hts (gAV wm_165 wm_166 wm_167 wm_15 wm_168) rfl rfl rfl qd_X5_signAt ⟨Nat.le_of_ble_eq_true rfl, Nat.le_of_ble_eq_true rfl⟩) hK hP (wX_row (vp_in_lt g2)) rfl rfl hl.1 rfl (Nat.le_of_ble_eq_true rfl) dX10_write_76 ⟨Nat.zero_le _, Nat.zero_le _⟩ ?_
        obtain ⟨o5, eq6, h⟩ := bnd_some h
        refine kQvV (rest := []) (q0 := (18 + e3)) ⟨hx, hb, hml, hown, hts⟩ (c_X7_store l D k a xLen xHits xUns xItems xLost xKind xSize xLet xRel xLim xOpen xMeas xSL xST xSD xSK xTal xKn xFT xFA xFE xOdds xPat xFind e3 he3 x5 o3 eq6) (cwV 2 hts (gAV wm_784 wm_785 wm_786 wm_19 wm_787) rfl rfl rfl qd_X7_store ⟨Nat.le_of_ble_eq_true rfl, Nat.le_of_ble_eq_true rfl⟩) hK hP hD hS hA (wX_sheet he3) rfl rfl hl.1 rfl (Nat.le_of_ble_eq_true rfl) dX10_write_79 ⟨Nat.zero_le _, Nat.zero_le _⟩ (fun H locs hP hD hS => ?_)
        have hP : va_P D vwCl (wX k a xLen xHits xUns o5 xLost xKind xSize xLet xRel xLim xOpen xMeas xSL xST xSD xSK xTal xKn xFT xFA xFE xOdds xPat xFind) H := hP
        have hD : va_D A (wX k a xLen xHits xUns o5 xLost xKind xSize xLet xRel xLim xOpen xMeas xSL xST xSD xSK xTal xKn xFT xFA xFE xOdds xPat xFind) := hD
        refine lv_iinc (v := (x5 + 1)) (lv' := [(5, .int (x5 + 1)), (0, .ref (a 0)), (1, .int x1), (3, .ref (a (18 + e3))), (4, .int x4)]) hx hb dX10_write_82 hl (k := 4) rfl rfl (by decide) rfl (fun ls hl => ?_)
        refine lv_goto (tgt := 58) hx hb dX10_write_85 (by decide) ?_
        exact ih58 x1 e3 x4 (x5 + 1) o5 xFind ls H locs he3 (lv_sub hl [1, 2, 3, 4, 0] rfl) hP hD hS h
  obtain ⟨H, hH⟩ : ∃ H : Heap, H = s.heap := ⟨_, rfl⟩
  obtain ⟨locs, hlc⟩ : ∃ locs : List Loc, locs = [] := ⟨_, rfl⟩
  have hS : va_S A s.heap H locs := by rw [hH, hlc]; exact va_S.rf
  have hP : va_P D vwCl (wX k a xLen xHits xUns xItems xLost xKind xSize xLet xRel xLim xOpen xMeas xSL xST xSD xSK xTal xKn xFT xFA xFE xOdds xPat xFind) H := by rw [hH]; exact hP
  suffices hGo : gQi p l e wo_X10_write 1 s m args below meth c D k A o.1 (wX k a xLen xHits xUns o.2.1 xLost xKind xSize xLet xRel xLim xOpen xMeas xSL xST xSD xSK xTal xKn xFT xFA xFE xOdds xPat o.2.2) H locs (F0 m 0 ls []) by rw [hH, hlc] at hGo; exact hGo
  refine lv_iload_n hx hb dX10_write_0 rfl (lv_at hl 1 rfl) ?_
  obtain ⟨o7, eq8, h⟩ := bnd_some h
  refine kPi (rest := []) ⟨hx, hb, hml, hown, hts⟩ (c_X10_isRow l x1 eq8) (va_cwS 1 hts (gAS wm_92 wm_93 wm_2 wm_94) rfl rfl rfl qd_X10_isRow ⟨Nat.le_of_ble_eq_true rfl, Nat.le_of_ble_eq_true rfl⟩) rfl hl.1 rfl (Nat.le_of_ble_eq_true rfl) dX10_write_1 ⟨Nat.zero_le _, Nat.zero_le _⟩ ?_
  refine lv_if_eq (tgt := 14) hx hb dX10_write_4 (by decide) (fun c9 => ?_) (fun c9 => ?_)
  · replace h := (if_pos c9).symm.trans h
    refine lv_bipush (v := (-2)) hx hb dX10_write_14 (by decide) ?_
    have he := Option.some.inj h
    exact W.iret (v := (-2)) hx hb hr (fun t ht hW => ⟨⟨(-2), wX k a xLen xHits xUns xItems xLost xKind xSize xLet xRel xLim xOpen xMeas xSL xST xSD xSK xTal xKn xFT xFA xFE xOdds xPat xFind, rfl, ⟨(congrArg (fun z => z.1) he), (congrArg (fun z => wX k a xLen xHits xUns z.2.1 xLost xKind xSize xLet xRel xLim xOpen xMeas xSL xST xSD xSK xTal xKn xFT xFA xFE xOdds xPat z.2.2) he)⟩, by rw [ht]; exact hP, va_K.moved hW.alike hK, hD⟩, hS.F ht⟩) hS.2.2 dX10_write_16
  · replace h := (if_neg c9).symm.trans h
    refine lv_iload_n hx hb dX10_write_7 rfl (lv_at hl 2 rfl) ?_
    obtain ⟨o10, eq11, h⟩ := bnd_some h
    refine kPi (rest := []) ⟨hx, hb, hml, hown, hts⟩ (c_X10_isSheet l x2 eq11) (va_cwS 1 hts (gAS wm_130 wm_131 wm_2 wm_132) rfl rfl rfl qd_X10_isSheet ⟨Nat.le_of_ble_eq_true rfl, Nat.le_of_ble_eq_true rfl⟩) rfl hl.1 rfl (Nat.le_of_ble_eq_true rfl) dX10_write_8 ⟨Nat.zero_le _, Nat.zero_le _⟩ ?_
    refine lv_if_ne (tgt := 17) hx hb dX10_write_11 (by decide) (fun c12 => ?_) (fun c12 => ?_)
    · replace h := (if_neg c12).symm.trans h
      refine lv_aload_n hx hb dX10_write_17 rfl (lv_at hl 0 rfl) ?_
      refine va_get (D := D) (ci := 5) (v := .ref (a 2)) (C := RX10) (T := TX10) (N := 8) hx hb hts hi10 hown hK hP (0) (rfl) rfl 1 (by decide) kf18 (fun _ h9 => h9) rfl dX10_write_18 ?_
      refine lv_iload_n hx hb dX10_write_21 rfl (lv_at hl 2 rfl) ?_
      obtain ⟨g13, h⟩ := gIn_some h
      refine va_aldq hx hb hK hP (2) 3 rfl rfl g13 dX10_write_22 ?_
      refine W.eq (g2 := F0 m 23 ls [.ref (a (18 + x2.toNatClampNeg))]) rfl ?_
      refine lv_astore_n (lv' := [(3, .ref (a (18 + x2.toNatClampNeg))), (0, .ref (a 0)), (1, .int x1), (2, .int x2)]) hx hb dX10_write_23 rfl hl (by decide) rfl (fun ls hl => ?_)
      refine lv_aload_n hx hb dX10_write_24 rfl (lv_at hl 0 rfl) ?_
      refine va_get (D := D) (ci := 3) (v := .int (xLost x2.toNatClampNeg)) (C := RX7) (T := TX7) (N := 4) hx hb hts hi7 hown hK hP ((18 + x2.toNatClampNeg)) (wX_sheet (vp_in_lt g13)) rfl 1 (by decide) kf75 (fun _ h9 => h9) rfl dX10_write_25 ?_
      refine lv_if_eq (tgt := 37) hx hb dX10_write_28 (by decide) (fun c14 => ?_) (fun c14 => ?_)
      · replace h := (if_pos c14).symm.trans h
        refine lv_aload_n hx hb dX10_write_37 rfl (lv_at hl 0 rfl) ?_
        refine va_get (D := D) (ci := 3) (v := .int (xSize x2.toNatClampNeg)) (C := RX7) (T := TX7) (N := 4) hx hb hts hi7 hown hK hP ((18 + x2.toNatClampNeg)) (wX_sheet (vp_in_lt g13)) rfl 3 (by decide) kf83 (fun _ h9 => h9) rfl dX10_write_38 ?_
        refine lv_aload_n hx hb dX10_write_41 rfl (lv_at hl 1 rfl) ?_
        refine va_get (D := D) (ci := 5) (v := .ref (a 1)) (C := RX10) (T := TX10) (N := 8) hx hb hts hi10 hown hK hP (0) (rfl) rfl 0 (by decide) kf11 (fun _ h9 => h9) rfl dX10_write_42 ?_
        refine lv_iload_n hx hb dX10_write_45 rfl (lv_at hl 2 rfl) ?_
        obtain ⟨g15, h⟩ := gIn_some h
        refine va_aldq hx hb hK hP (1) 2 rfl rfl g15 dX10_write_46 ?_
        refine W.eq (g2 := F0 m 47 ls [.ref (a (14 + x1.toNatClampNeg)), .int (xSize x2.toNatClampNeg)]) rfl ?_
        refine va_get (D := D) (ci := 1) (v := .int (xLen x1.toNatClampNeg)) (C := RX5) (T := TX5) (N := 3) hx hb hts hi5 hown hK hP ((14 + x1.toNatClampNeg)) (wX_row (vp_in_lt g15)) rfl 0 (by decide) kf69 (fun _ h9 => h9) rfl dX10_write_47 ?_
        refine va_mmin hx hb (hml.trans hl.1.symm) hown ml263 ms263 mi263 mc263 (Nat.le_of_ble_eq_true rfl) (Nat.le_of_ble_eq_true rfl) (Nat.zero_le _) (Nat.zero_le _) dX10_write_50 ?_
        refine lv_istore (lv' := [(4, .int (if (xLen x1.toNatClampNeg) < (xSize x2.toNatClampNeg) then (xLen x1.toNatClampNeg) else (xSize x2.toNatClampNeg))), (3, .ref (a (18 + x2.toNatClampNeg))), (0, .ref (a 0)), (1, .int x1), (2, .int x2)]) hx hb dX10_write_53 hl (by decide) rfl (fun ls hl => ?_)
        refine lv_iconst (v := 0) hx hb dX10_write_55 (by decide) ?_
        refine lv_istore (lv' := [(5, .int 0), (4, .int (if (xLen x1.toNatClampNeg) < (xSize x2.toNatClampNeg) then (xLen x1.toNatClampNeg) else (xSize x2.toNatClampNeg))), (3, .ref (a (18 + x2.toNatClampNeg))), (0, .ref (a 0)), (1, .int x1), (2, .int x2)]) hx hb dX10_write_56 hl (by decide) rfl (fun ls hl => ?_)
        exact L58 N x1 x2.toNatClampNeg (if (xLen x1.toNatClampNeg) < (xSize x2.toNatClampNeg) then (xLen x1.toNatClampNeg) else (xSize x2.toNatClampNeg)) 0 xItems xFind ls H locs (vp_in_lt g13) (lv_sub hl [3, 4, 2, 1, 0] rfl) hP hD hS h
      · replace h := (if_neg c14).symm.trans h
        refine lv_aload_n hx hb dX10_write_31 rfl (lv_at hl 1 rfl) ?_
        refine lv_iconst (v := 1) hx hb dX10_write_32 (by decide) ?_
        obtain ⟨o16, eq17, h⟩ := bnd_some h
        refine kQiV (rest := []) (q0 := 0) ⟨hx, hb, hml, hown, hts⟩ (c_X10_found l D k a xLen xHits xUns xItems xLost xKind xSize xLet xRel xLim xOpen xMeas xSL xST xSD xSK xTal xKn xFT xFA xFE xOdds xPat xFind 1 eq17) (cwV 1 hts (gAV wm_133 wm_134 wm_135 wm_2 wm_136) rfl rfl rfl qd_X10_found ⟨Nat.le_of_ble_eq_true rfl, Nat.le_of_ble_eq_true rfl⟩) hK hP hD hS hA (rfl) rfl rfl hl.1 rfl (Nat.le_of_ble_eq_true rfl) dX10_write_33 ⟨Nat.zero_le _, Nat.zero_le _⟩ (fun H locs hP hD hS => ?_)
        have hP : va_P D vwCl (wX k a xLen xHits xUns xItems xLost xKind xSize xLet xRel xLim xOpen xMeas xSL xST xSD xSK xTal xKn xFT xFA xFE xOdds xPat o16.2) H := hP
        have hD : va_D A (wX k a xLen xHits xUns xItems xLost xKind xSize xLet xRel xLim xOpen xMeas xSL xST xSD xSK xTal xKn xFT xFA xFE xOdds xPat o16.2) := hD
        have he := Option.some.inj h
        exact W.iret (v := o16.1) hx hb hr (fun t ht hW => ⟨⟨o16.1, wX k a xLen xHits xUns xItems xLost xKind xSize xLet xRel xLim xOpen xMeas xSL xST xSD xSK xTal xKn xFT xFA xFE xOdds xPat o16.2, rfl, ⟨(congrArg (fun z => z.1) he), (congrArg (fun z => wX k a xLen xHits xUns z.2.1 xLost xKind xSize xLet xRel xLim xOpen xMeas xSL xST xSD xSK xTal xKn xFT xFA xFE xOdds xPat z.2.2) he)⟩, by rw [ht]; exact hP, va_K.moved hW.alike hK, hD⟩, hS.F ht⟩) hS.2.2 dX10_write_36
    · replace h := (if_pos c12).symm.trans h
      refine lv_bipush (v := (-2)) hx hb dX10_write_14 (by decide) ?_
      have he := Option.some.inj h
      exact W.iret (v := (-2)) hx hb hr (fun t ht hW => ⟨⟨(-2), wX k a xLen xHits xUns xItems xLost xKind xSize xLet xRel xLim xOpen xMeas xSL xST xSD xSK xTal xKn xFT xFA xFE xOdds xPat xFind, rfl, ⟨(congrArg (fun z => z.1) he), (congrArg (fun z => wX k a xLen xHits xUns z.2.1 xLost xKind xSize xLet xRel xLim xOpen xMeas xSL xST xSD xSK xTal xKn xFT xFA xFE xOdds xPat z.2.2) he)⟩, by rw [ht]; exact hP, va_K.moved hW.alike hK, hD⟩, hS.F ht⟩) hS.2.2 dX10_write_16
set_option maxHeartbeats 4000000 in
set_option maxRecDepth 100000 in
theorem c_X10_write {N : Nat} (l : Launch) (D : va_G) (k : Nat → ClassId) (a : Nat → Nat) (xLen : Nat → Int32) (xHits : Nat → Int32) (xUns : Nat → Int32) (xItems : Nat → Nat → Int32) (xLost : Nat → Int32) (xKind : Nat → Int32) (xSize : Nat → Int32) (xLet : Nat → Int32) (xRel : Nat → Int32) (xLim : Nat → Int32) (xOpen : Nat → Int32) (xMeas : Nat → Int32) (xSL : Int32) (xST : Int32) (xSD : Int32) (xSK : Int32) (xTal : Nat → Nat → Int32) (xKn : Nat → Int32) (xFT : Nat → Int32) (xFA : Int32) (xFE : Int32) (xOdds : Int32) (xPat : Int32) (xFind : Int32) (x1 : Int32) (x2 : Int32) {o : Int32 × (Nat → Nat → Int32) × (Int32)} (h : f_X10_write N x1 x2 xLen xHits xUns xItems xLost xKind xSize xFind = some o) : mQi l yX10_write wo_X10_write 1 D k [.ref (a 0), .int x1, .int x2] (wX k a xLen xHits xUns xItems xLost xKind xSize xLet xRel xLim xOpen xMeas xSL xST xSD xSK xTal xKn xFT xFA xFE xOdds xPat xFind) o.1 (wX k a xLen xHits xUns o.2.1 xLost xKind xSize xLet xRel xLim xOpen xMeas xSL xST xSD xSK xTal xKn xFT xFA xFE xOdds xPat o.2.2) := by
  intro sz
  refine Met.ofW (cc := cX10_write) (maxL := 6) (ret := some .int) (by decide) rfl ?_
  intro p e s m args below meth c s₁ B hml hv
  obtain ⟨rfl, hsz, hP, hK, hD0⟩ := hv
  subst hsz
  rw [lg_entry_eq]
  exact core_X10_write D k a xLen xHits xUns xItems xLost xKind xSize xLet xRel xLim xOpen xMeas xSL xST xSD xSK xTal xKn xFT xFA xFE xOdds xPat xFind x1 x2 B.exec B.bytes hml B.returns (atoms_spec (ws := wo_X10_write) B.pre) (findClass_of_methodNamed B.named) B.notSynchronized (lv_entry [.ref (a 0), .int x1, .int x2] (n := 6) (Nat.le_of_ble_eq_true rfl)) hK hP hD0.self (fun q h => Or.inr h) h
theorem qd_X10_write : yX10_write.cls = RX10 ∧ yX10_write.cls ≠ "java/lang/invoke/MethodHandle" ∧ yX10_write.cls ≠ "java/lang/invoke/VarHandle" ∧ (parseMethodDescriptor yX10_write.desc).map (fun d => d.parameters.length) = some 2 := by decide +kernel
abbrev wo_X10_count : List Cond := .code yX10_count cX10_count 2 (some .int) :: wsL_law
set_option maxHeartbeats 4000000 in
set_option maxRecDepth 100000 in
theorem core_X10_count {N : Nat} (D : va_G) (k : Nat → ClassId) (a : Nat → Nat) (xLen : Nat → Int32) (xHits : Nat → Int32) (xUns : Nat → Int32) (xItems : Nat → Nat → Int32) (xLost : Nat → Int32) (xKind : Nat → Int32) (xSize : Nat → Int32) (xLet : Nat → Int32) (xRel : Nat → Int32) (xLim : Nat → Int32) (xOpen : Nat → Int32) (xMeas : Nat → Int32) (xSL : Int32) (xST : Int32) (xSD : Int32) (xSK : Int32) (xTal : Nat → Nat → Int32) (xKn : Nat → Int32) (xFT : Nat → Int32) (xFA : Int32) (xFE : Int32) (xOdds : Int32) (xPat : Int32) (xFind : Int32) (x1 : Int32) {p : Program} {l : Launch} {e : Env} {s : State} {m : MethodId} {args : Array Value} {below : List Frame} {meth : Method} {c : Code} {ls : Array Slot} (hx : p.tables.exec = Jvm.exec) (hb : c.code = cX10_count) (hml : c.maxLocals = 2) (hr : meth.sig.returnType = some .int) (hts : ∀ w ∈ wo_X10_count, w.before args s = true) (hown : s.vm.findClass RX10 = some m.cls) (hlocks : meth.locks = false) (hl : lv_has ls 2 [(0, .ref (a 0)), (1, .int x1)]) (hK : va_K D vwCl (xTys k) s) (hP : va_P D vwCl (wX k a xLen xHits xUns xItems xLost xKind xSize xLet xRel xLim xOpen xMeas xSL xST xSD xSK xTal xKn xFT xFA xFE xOdds xPat xFind) s.heap) {o : Int32} (h : f_X10_count N x1 xLen xUns xSL xOdds xPat xFind = some o) : gRi p l e wo_X10_count 2 s m args below meth c o (F0 m 0 ls []) := by
  have hi10 := (fun w h => List.mem_cons_of_mem _ (inlX10 w h) : ∀ w ∈ wsX100, w ∈ wo_X10_count)
  have kf26 := hts _ (List.mem_cons_of_mem _ wm_23)
  have hi6 := (fun w h => List.mem_cons_of_mem _ (inlX6 w h) : ∀ w ∈ wsX60, w ∈ wo_X10_count)
  have kf109 := hts _ (List.mem_cons_of_mem _ wm_267)
  have kf44 := hts _ (List.mem_cons_of_mem _ wm_32)
  have kf48 := hts _ (List.mem_cons_of_mem _ wm_33)
  have kf51 := hts _ (List.mem_cons_of_mem _ wm_34)
  have kf11 := hts _ (List.mem_cons_of_mem _ wm_13)
  have hi5 := (fun w h => List.mem_cons_of_mem _ (inlX5 w h) : ∀ w ∈ wsX50, w ∈ wo_X10_count)
  have kf69 := hts _ (List.mem_cons_of_mem _ wm_91)
  unfold f_X10_count at h
  refine lv_iload_n hx hb dX10_count_0 rfl (lv_at hl 1 rfl) ?_
  obtain ⟨o1, eq2, h⟩ := bnd_some h
  refine kPi (rest := []) ⟨hx, hb, hml, hown, hts⟩ (c_X10_isRow l x1 eq2) (va_cwS 1 hts (gAS wm_92 wm_93 wm_2 wm_94) rfl rfl rfl qd_X10_isRow ⟨Nat.le_of_ble_eq_true rfl, Nat.le_of_ble_eq_true rfl⟩) rfl hl.1 rfl (Nat.le_of_ble_eq_true rfl) dX10_count_1 ⟨Nat.zero_le _, Nat.zero_le _⟩ ?_
  refine lv_if_eq (tgt := 17) hx hb dX10_count_4 (by decide) (fun c3 => ?_) (fun c3 => ?_)
  · replace h := (if_pos c3).symm.trans h
    refine lv_iload_n hx hb dX10_count_17 rfl (lv_at hl 1 rfl) ?_
    by_cases c4 : x1 = 4
    · replace h := (if_pos c4).symm.trans h
      refine lv_tableIn (tgt := 52) hx hb dX10_count_18 (by rw [c4]; decide) (by rw [c4]; decide) (by rw [c4]; rfl) (by decide) ?_
      refine lv_aload_n hx hb dX10_count_52 rfl (lv_at hl 0 rfl) ?_
      refine va_get (D := D) (ci := 5) (v := .ref (a 3)) (C := RX10) (T := TX10) (N := 8) hx hb hts hi10 hown hK hP (0) (rfl) rfl 2 (by decide) kf26 (fun _ h9 => h9) rfl dX10_count_53 ?_
      refine va_get (D := D) (ci := 2) (v := .int xSL) (C := RX6) (T := TX6) (N := 9) hx hb hts hi6 hown hK hP (3) (rfl) rfl 5 (by decide) kf109 (fun _ h9 => h9) rfl dX10_count_56 ?_
      exact W.iret (v := xSL) hx hb hr (fun t ht hW => ⟨_, rfl, Option.some.inj h, ht⟩) (fun q hq => by cases hq) dX10_count_59
    replace h := (if_neg c4).symm.trans h
    by_cases c5 : x1 = 5
    · replace h := (if_pos c5).symm.trans h
      refine lv_tableIn (tgt := 60) hx hb dX10_count_18 (by rw [c5]; decide) (by rw [c5]; decide) (by rw [c5]; rfl) (by decide) ?_
      refine lv_aload_n hx hb dX10_count_60 rfl (lv_at hl 0 rfl) ?_
      refine va_get (D := D) (ci := 5) (v := .int xOdds) (C := RX10) (T := TX10) (N := 8) hx hb hts hi10 hown hK hP (0) (rfl) rfl 5 (by decide) kf44 (fun _ h9 => h9) rfl dX10_count_61 ?_
      exact W.iret (v := xOdds) hx hb hr (fun t ht hW => ⟨_, rfl, Option.some.inj h, ht⟩) (fun q hq => by cases hq) dX10_count_64
    replace h := (if_neg c5).symm.trans h
    by_cases c6 : x1 = 6
    · replace h := (if_pos c6).symm.trans h
      refine lv_tableIn (tgt := 65) hx hb dX10_count_18 (by rw [c6]; decide) (by rw [c6]; decide) (by rw [c6]; rfl) (by decide) ?_
      refine lv_aload_n hx hb dX10_count_65 rfl (lv_at hl 0 rfl) ?_
      refine va_get (D := D) (ci := 5) (v := .int xPat) (C := RX10) (T := TX10) (N := 8) hx hb hts hi10 hown hK hP (0) (rfl) rfl 6 (by decide) kf48 (fun _ h9 => h9) rfl dX10_count_66 ?_
      exact W.iret (v := xPat) hx hb hr (fun t ht hW => ⟨_, rfl, Option.some.inj h, ht⟩) (fun q hq => by cases hq) dX10_count_69
    replace h := (if_neg c6).symm.trans h
    by_cases c7 : x1 = 7
    · replace h := (if_pos c7).symm.trans h
      refine lv_tableIn (tgt := 70) hx hb dX10_count_18 (by rw [c7]; decide) (by rw [c7]; decide) (by rw [c7]; rfl) (by decide) ?_
      refine lv_aload_n hx hb dX10_count_70 rfl (lv_at hl 0 rfl) ?_
      obtain ⟨o8, eq9, h⟩ := bnd_some h
      refine kRiV (rest := []) (q0 := 0) ⟨hx, hb, hml, hown, hts⟩ (c_X10_wholeRows l D k a xLen xHits xUns xItems xLost xKind xSize xLet xRel xLim xOpen xMeas xSL xST xSD xSK xTal xKn xFT xFA xFE xOdds xPat xFind  eq9) (cwV 0 hts (gAV wm_839 wm_840 wm_841 wm_2 wm_842) rfl rfl rfl qd_X10_wholeRows ⟨Nat.le_of_ble_eq_true rfl, Nat.le_of_ble_eq_true rfl⟩) hK hP (rfl) rfl rfl hl.1 rfl (Nat.le_of_ble_eq_true rfl) dX10_count_71 ⟨Nat.zero_le _, Nat.zero_le _⟩ ?_
      exact W.iret (v := o8) hx hb hr (fun t ht hW => ⟨_, rfl, Option.some.inj h, ht⟩) (fun q hq => by cases hq) dX10_count_74
    replace h := (if_neg c7).symm.trans h
    by_cases c10 : x1 = 8
    · replace h := (if_pos c10).symm.trans h
      refine lv_tableIn (tgt := 75) hx hb dX10_count_18 (by rw [c10]; decide) (by rw [c10]; decide) (by rw [c10]; rfl) (by decide) ?_
      refine lv_aload_n hx hb dX10_count_75 rfl (lv_at hl 0 rfl) ?_
      refine va_get (D := D) (ci := 5) (v := .int xFind) (C := RX10) (T := TX10) (N := 8) hx hb hts hi10 hown hK hP (0) (rfl) rfl 7 (by decide) kf51 (fun _ h9 => h9) rfl dX10_count_76 ?_
      exact W.iret (v := xFind) hx hb hr (fun t ht hW => ⟨_, rfl, Option.some.inj h, ht⟩) (fun q hq => by cases hq) dX10_count_79
    replace h := (if_neg c10).symm.trans h
    refine lv_tableOut (tgt := 80) hx hb dX10_count_18 (xOut_5 c4 c5 c6 c7 c10) (by decide) ?_
    refine lv_bipush (v := (-2)) hx hb dX10_count_80 (by decide) ?_
    exact W.iret (v := (-2)) hx hb hr (fun t ht hW => ⟨_, rfl, Option.some.inj h, ht⟩) (fun q hq => by cases hq) dX10_count_82
  · replace h := (if_neg c3).symm.trans h
    refine lv_aload_n hx hb dX10_count_7 rfl (lv_at hl 0 rfl) ?_
    refine va_get (D := D) (ci := 5) (v := .ref (a 1)) (C := RX10) (T := TX10) (N := 8) hx hb hts hi10 hown hK hP (0) (rfl) rfl 0 (by decide) kf11 (fun _ h9 => h9) rfl dX10_count_8 ?_
    refine lv_iload_n hx hb dX10_count_11 rfl (lv_at hl 1 rfl) ?_
    obtain ⟨g11, h⟩ := gIn_some h
    refine va_aldq hx hb hK hP (1) 2 rfl rfl g11 dX10_count_12 ?_
    refine W.eq (g2 := F0 m 13 ls [.ref (a (14 + x1.toNatClampNeg))]) rfl ?_
    refine va_get (D := D) (ci := 1) (v := .int (xLen x1.toNatClampNeg)) (C := RX5) (T := TX5) (N := 3) hx hb hts hi5 hown hK hP ((14 + x1.toNatClampNeg)) (wX_row (vp_in_lt g11)) rfl 0 (by decide) kf69 (fun _ h9 => h9) rfl dX10_count_13 ?_
    exact W.iret (v := (xLen x1.toNatClampNeg)) hx hb hr (fun t ht hW => ⟨_, rfl, Option.some.inj h, ht⟩) (fun q hq => by cases hq) dX10_count_16
set_option maxHeartbeats 4000000 in
set_option maxRecDepth 100000 in
theorem c_X10_count {N : Nat} (l : Launch) (D : va_G) (k : Nat → ClassId) (a : Nat → Nat) (xLen : Nat → Int32) (xHits : Nat → Int32) (xUns : Nat → Int32) (xItems : Nat → Nat → Int32) (xLost : Nat → Int32) (xKind : Nat → Int32) (xSize : Nat → Int32) (xLet : Nat → Int32) (xRel : Nat → Int32) (xLim : Nat → Int32) (xOpen : Nat → Int32) (xMeas : Nat → Int32) (xSL : Int32) (xST : Int32) (xSD : Int32) (xSK : Int32) (xTal : Nat → Nat → Int32) (xKn : Nat → Int32) (xFT : Nat → Int32) (xFA : Int32) (xFE : Int32) (xOdds : Int32) (xPat : Int32) (xFind : Int32) (x1 : Int32) {o : Int32} (h : f_X10_count N x1 xLen xUns xSL xOdds xPat xFind = some o) : mRi l yX10_count wo_X10_count 2 D k [.ref (a 0), .int x1] (wX k a xLen xHits xUns xItems xLost xKind xSize xLet xRel xLim xOpen xMeas xSL xST xSD xSK xTal xKn xFT xFA xFE xOdds xPat xFind) o := by
  refine Met.ofW (cc := cX10_count) (maxL := 2) (ret := some .int) (by decide) rfl ?_
  intro p e s m args below meth c s₁ B hml hv
  obtain ⟨rfl, hP, hK⟩ := hv
  rw [lg_entry_eq]
  exact core_X10_count D k a xLen xHits xUns xItems xLost xKind xSize xLet xRel xLim xOpen xMeas xSL xST xSD xSK xTal xKn xFT xFA xFE xOdds xPat xFind x1 B.exec B.bytes hml B.returns (atoms_spec (ws := wo_X10_count) B.pre) (findClass_of_methodNamed B.named) B.notSynchronized (lv_entry [.ref (a 0), .int x1] (n := 2) (Nat.le_of_ble_eq_true rfl)) hK hP h
theorem qd_X10_count : yX10_count.cls = RX10 ∧ yX10_count.cls ≠ "java/lang/invoke/MethodHandle" ∧ yX10_count.cls ≠ "java/lang/invoke/VarHandle" ∧ (parseMethodDescriptor yX10_count.desc).map (fun d => d.parameters.length) = some 1 := by decide +kernel
abbrev wo_X10_digest : List Cond := .code yX10_digest cX10_digest 5 (some .long) :: wsL_law
set_option maxHeartbeats 4000000 in
set_option maxRecDepth 100000 in
theorem core_X10_digest {N : Nat} (D : va_G) (k : Nat → ClassId) (a : Nat → Nat) (xLen : Nat → Int32) (xHits : Nat → Int32) (xUns : Nat → Int32) (xItems : Nat → Nat → Int32) (xLost : Nat → Int32) (xKind : Nat → Int32) (xSize : Nat → Int32) (xLet : Nat → Int32) (xRel : Nat → Int32) (xLim : Nat → Int32) (xOpen : Nat → Int32) (xMeas : Nat → Int32) (xSL : Int32) (xST : Int32) (xSD : Int32) (xSK : Int32) (xTal : Nat → Nat → Int32) (xKn : Nat → Int32) (xFT : Nat → Int32) (xFA : Int32) (xFE : Int32) (xOdds : Int32) (xPat : Int32) (xFind : Int32)  {p : Program} {l : Launch} {e : Env} {s : State} {m : MethodId} {args : Array Value} {below : List Frame} {meth : Method} {c : Code} {ls : Array Slot} (hx : p.tables.exec = Jvm.exec) (hb : c.code = cX10_digest) (hml : c.maxLocals = 5) (hr : meth.sig.returnType = some .long) (hts : ∀ w ∈ wo_X10_digest, w.before args s = true) (hown : s.vm.findClass RX10 = some m.cls) (hlocks : meth.locks = false) (hl : lv_has ls 5 [(0, .ref (a 0))]) (hK : va_K D vwCl (xTys k) s) (hP : va_P D vwCl (wX k a xLen xHits xUns xItems xLost xKind xSize xLet xRel xLim xOpen xMeas xSL xST xSD xSK xTal xKn xFT xFA xFE xOdds xPat xFind) s.heap) {A : Nat → Prop} (hD : va_D A (wX k a xLen xHits xUns xItems xLost xKind xSize xLet xRel xLim xOpen xMeas xSL xST xSD xSK xTal xKn xFT xFA xFE xOdds xPat xFind)) (hA : ∀ q : Nat, s.heap.size ≤ q → A q) {o : Int64 × (Nat → Int32) × (Nat → Nat → Int32) × (Nat → Int32) × (Nat → Int32) × (Int32) × (Int32)} (h : f_X10_digest N xLen xHits xUns xLet xRel xLim xOpen xMeas xSL xST xSD xSK xTal xKn xFT xFA xFE xOdds xPat xFind = some o) : gQl p l e wo_X10_digest 6 s m args below meth c D k A o.1 (wX k a xLen xHits xUns xItems xLost xKind xSize xLet xRel xLim xOpen o.2.1 xSL xST xSD xSK o.2.2.1 o.2.2.2.1 o.2.2.2.2.1 o.2.2.2.2.2.1 o.2.2.2.2.2.2 xOdds xPat xFind) s.heap [] (F0 m 0 ls []) := by
  have kc273 := hts _ (List.mem_cons_of_mem _ wm_856)
  have hi10 := (fun w h => List.mem_cons_of_mem _ (inlX10 w h) : ∀ w ∈ wsX100, w ∈ wo_X10_digest)
  have kf11 := hts _ (List.mem_cons_of_mem _ wm_13)
  have hi5 := (fun w h => List.mem_cons_of_mem _ (inlX5 w h) : ∀ w ∈ wsX50, w ∈ wo_X10_digest)
  have kf69 := hts _ (List.mem_cons_of_mem _ wm_91)
  have kc271 := hts _ (List.mem_cons_of_mem _ wm_855)
  unfold f_X10_digest at h
  have hS : va_S A s.heap s.heap [] := va_S.rf
  have L33 : ∀ (n33 : Nat) (x1 : Int64) (x3 : Int32) (xMeas : Nat → Int32) (xTal : Nat → Nat → Int32) (xKn : Nat → Int32) (xFT : Nat → Int32) (xFA : Int32) (xFE : Int32) (ls : Array Slot) (H : Heap) (locs : List Loc) (hl : lv_has ls 5 [(0, .ref (a 0)), (1, .long x1), (3, .int x3)]) (hP : va_P D vwCl (wX k a xLen xHits xUns xItems xLost xKind xSize xLet xRel xLim xOpen xMeas xSL xST xSD xSK xTal xKn xFT xFA xFE xOdds xPat xFind) H) (hD : va_D A (wX k a xLen xHits xUns xItems xLost xKind xSize xLet xRel xLim xOpen xMeas xSL xST xSD xSK xTal xKn xFT xFA xFE xOdds xPat xFind)) (hS : va_S A s.heap H locs) (h : f_X10_digest_33 N n33 x1 x3 xLen xHits xUns xLet xRel xLim xOpen xMeas xSL xST xSD xSK xTal xKn xFT xFA xFE xOdds xPat xFind = some o), gQl p l e wo_X10_digest 6 s m args below meth c D k A o.1 (wX k a xLen xHits xUns xItems xLost xKind xSize xLet xRel xLim xOpen o.2.1 xSL xST xSD xSK o.2.2.1 o.2.2.2.1 o.2.2.2.2.1 o.2.2.2.2.2.1 o.2.2.2.2.2.2 xOdds xPat xFind) H locs (F0 m 33 ls []) := by
    intro n33
    induction n33 with
    | zero => intro x1 x3 xMeas xTal xKn xFT xFA xFE ls H locs hl hP hD hS h; cases (show (none : Option (Int64 × (Nat → Int32) × (Nat → Nat → Int32) × (Nat → Int32) × (Nat → Int32) × (Int32) × (Int32))) = some o from h)
    | succ n33 ih33 =>
      have L83 : ∀ (n83 : Nat) (x1 : Int64) (x3 : Int32) (x4 : Int32) (xMeas : Nat → Int32) (xTal : Nat → Nat → Int32) (xKn : Nat → Int32) (xFT : Nat → Int32) (xFA : Int32) (xFE : Int32) (ls : Array Slot) (H : Heap) (locs : List Loc) (hl : lv_has ls 5 [(0, .ref (a 0)), (1, .long x1), (3, .int x3), (4, .int x4)]) (hP : va_P D vwCl (wX k a xLen xHits xUns xItems xLost xKind xSize xLet xRel xLim xOpen xMeas xSL xST xSD xSK xTal xKn xFT xFA xFE xOdds xPat xFind) H) (hD : va_D A (wX k a xLen xHits xUns xItems xLost xKind xSize xLet xRel xLim xOpen xMeas xSL xST xSD xSK xTal xKn xFT xFA xFE xOdds xPat xFind)) (hS : va_S A s.heap H locs) (h : f_X10_digest_83 N (fun y0 y1 y2 y3 y4 y5 y6 y7 y8 y9 y10 y11 y12 y13 y14 y15 y16 y17 y18 y19 y20 y21 => f_X10_digest_33 N n33 y0 y1 y2 y3 y4 y5 y6 y7 y8 y9 y10 y11 y12 y13 y14 y15 y16 y17 y18 y19 y20 y21) n83 x1 x3 x4 xLen xHits xUns xLet xRel xLim xOpen xMeas xSL xST xSD xSK xTal xKn xFT xFA xFE xOdds xPat xFind = some o), gQl p l e wo_X10_digest 6 s m args below meth c D k A o.1 (wX k a xLen xHits xUns xItems xLost xKind xSize xLet xRel xLim xOpen o.2.1 xSL xST xSD xSK o.2.2.1 o.2.2.2.1 o.2.2.2.2.1 o.2.2.2.2.2.1 o.2.2.2.2.2.2 xOdds xPat xFind) H locs (F0 m 83 ls []) := by
        intro n83
        induction n83 with
        | zero => intro x1 x3 x4 xMeas xTal xKn xFT xFA xFE ls H locs hl hP hD hS h; cases (show (none : Option (Int64 × (Nat → Int32) × (Nat → Nat → Int32) × (Nat → Int32) × (Nat → Int32) × (Int32) × (Int32))) = some o from h)
        | succ n83 ih83 =>
          intro x1 x3 x4 xMeas xTal xKn xFT xFA xFE ls H locs hl hP hD hS h
          rw [f_X10_digest_83] at h
          refine lv_iload hx hb dX10_digest_83 (lv_at hl 3 rfl) ?_
          refine lv_bipush (v := 7) hx hb dX10_digest_85 (by decide) ?_
          refine lv_icmp_ge (tgt := 111) hx hb dX10_digest_87 (by decide) (fun c1 => ?_) (fun c1 => ?_)
          · replace h := (if_pos c1).symm.trans h
            refine lv_iinc (v := (x3 + 1)) (lv' := [(3, .int (x3 + 1)), (0, .ref (a 0)), (1, .long x1), (4, .int x4)]) hx hb dX10_digest_111 hl (k := 2) rfl rfl (by decide) rfl (fun ls hl => ?_)
            refine lv_goto (tgt := 33) hx hb dX10_digest_114 (by decide) ?_
            exact ih33 x1 (x3 + 1) xMeas xTal xKn xFT xFA xFE ls H locs (lv_sub hl [1, 2, 0] rfl) hP hD hS h
          · replace h := (if_neg c1).symm.trans h
            refine lv_ldc2 (v := 31) hx hb hown kc273 dX10_digest_90 ?_
            refine lv_lload_n hx hb dX10_digest_93 rfl (lv_at hl 1 rfl) ?_
            refine lv_lmul hx hb dX10_digest_94 ?_
            refine lv_aload_n hx hb dX10_digest_95 rfl (lv_at hl 0 rfl) ?_
            refine lv_iload_n hx hb dX10_digest_96 rfl (lv_at hl 2 rfl) ?_
            refine lv_iload hx hb dX10_digest_97 (lv_at hl 3 rfl) ?_
            obtain ⟨o2, eq3, h⟩ := bnd_some h
            refine kRiV (rest := [.long ((31 : Int64) * x1)]) (q0 := 0) ⟨hx, hb, hml, hown, hts⟩ (c_X10_shows l D k a xLen xHits xUns xItems xLost xKind xSize xLet xRel xLim xOpen xMeas xSL xST xSD xSK xTal xKn xFT xFA xFE xOdds xPat xFind x3 x4 eq3) (cwV 2 hts (gAV wm_858 wm_186 wm_187 wm_2 wm_188) rfl rfl rfl qd_X10_shows ⟨Nat.le_of_ble_eq_true rfl, Nat.le_of_ble_eq_true rfl⟩) hK hP (rfl) rfl rfl hl.1 rfl (Nat.le_of_ble_eq_true rfl) dX10_digest_99 ⟨Nat.zero_le _, Nat.zero_le _⟩ ?_
            refine lv_i2l (v := o2.toInt64) hx hb dX10_digest_102 rfl ?_
            refine lv_ladd hx hb dX10_digest_103 ?_
            refine lv_lstore_n (lv' := [(1, .long (((31 : Int64) * x1) + o2.toInt64)), (0, .ref (a 0)), (3, .int x3), (4, .int x4)]) hx hb dX10_digest_104 rfl hl (by decide) rfl (fun ls hl => ?_)
            refine lv_iinc (v := (x4 + 1)) (lv' := [(4, .int (x4 + 1)), (1, .long (((31 : Int64) * x1) + o2.toInt64)), (0, .ref (a 0)), (3, .int x3)]) hx hb dX10_digest_105 hl (k := 3) rfl rfl (by decide) rfl (fun ls hl => ?_)
            refine lv_goto (tgt := 83) hx hb dX10_digest_108 (by decide) ?_
            exact ih83 (((31 : Int64) * x1) + o2.toInt64) x3 (x4 + 1) xMeas xTal xKn xFT xFA xFE ls H locs (lv_sub hl [2, 1, 3, 0] rfl) hP hD hS h
      have L41 : ∀ (n41 : Nat) (x1 : Int64) (x3 : Int32) (x4 : Int32) (xMeas : Nat → Int32) (xTal : Nat → Nat → Int32) (xKn : Nat → Int32) (xFT : Nat → Int32) (xFA : Int32) (xFE : Int32) (ls : Array Slot) (H : Heap) (locs : List Loc) (hl : lv_has ls 5 [(0, .ref (a 0)), (1, .long x1), (3, .int x3), (4, .int x4)]) (hP : va_P D vwCl (wX k a xLen xHits xUns xItems xLost xKind xSize xLet xRel xLim xOpen xMeas xSL xST xSD xSK xTal xKn xFT xFA xFE xOdds xPat xFind) H) (hD : va_D A (wX k a xLen xHits xUns xItems xLost xKind xSize xLet xRel xLim xOpen xMeas xSL xST xSD xSK xTal xKn xFT xFA xFE xOdds xPat xFind)) (hS : va_S A s.heap H locs) (h : f_X10_digest_41 N (fun y0 y1 y2 y3 y4 y5 y6 y7 y8 y9 y10 y11 y12 y13 y14 y15 y16 y17 y18 y19 y20 y21 => f_X10_digest_33 N n33 y0 y1 y2 y3 y4 y5 y6 y7 y8 y9 y10 y11 y12 y13 y14 y15 y16 y17 y18 y19 y20 y21) n41 x1 x3 x4 xLen xHits xUns xLet xRel xLim xOpen xMeas xSL xST xSD xSK xTal xKn xFT xFA xFE xOdds xPat xFind = some o), gQl p l e wo_X10_digest 6 s m args below meth c D k A o.1 (wX k a xLen xHits xUns xItems xLost xKind xSize xLet xRel xLim xOpen o.2.1 xSL xST xSD xSK o.2.2.1 o.2.2.2.1 o.2.2.2.2.1 o.2.2.2.2.2.1 o.2.2.2.2.2.2 xOdds xPat xFind) H locs (F0 m 41 ls []) := by
        intro n41
        induction n41 with
        | zero => intro x1 x3 x4 xMeas xTal xKn xFT xFA xFE ls H locs hl hP hD hS h; cases (show (none : Option (Int64 × (Nat → Int32) × (Nat → Nat → Int32) × (Nat → Int32) × (Nat → Int32) × (Int32) × (Int32))) = some o from h)
        | succ n41 ih41 =>
          intro x1 x3 x4 xMeas xTal xKn xFT xFA xFE ls H locs hl hP hD hS h
          rw [f_X10_digest_41] at h
          refine lv_iload hx hb dX10_digest_41 (lv_at hl 3 rfl) ?_
          refine lv_aload_n hx hb dX10_digest_43 rfl (lv_at hl 0 rfl) ?_
          refine va_get (D := D) (ci := 5) (v := .ref (a 1)) (C := RX10) (T := TX10) (N := 8) hx hb hts hi10 hown hK hP (0) (rfl) rfl 0 (by decide) kf11 (fun _ h9 => h9) rfl dX10_digest_44 ?_
          refine lv_iload_n hx hb dX10_digest_47 rfl (lv_at hl 2 rfl) ?_
          obtain ⟨g4, h⟩ := gIn_some h
          refine va_aldq hx hb hK hP (1) 2 rfl rfl g4 dX10_digest_48 ?_
          refine W.eq (g2 := F0 m 49 ls [.ref (a (14 + x3.toNatClampNeg)), .int x4]) rfl ?_
          refine va_get (D := D) (ci := 1) (v := .int (xLen x3.toNatClampNeg)) (C := RX5) (T := TX5) (N := 3) hx hb hts hi5 hown hK hP ((14 + x3.toNatClampNeg)) (wX_row (vp_in_lt g4)) rfl 0 (by decide) kf69 (fun _ h9 => h9) rfl dX10_digest_49 ?_
          refine lv_icmp_ge (tgt := 80) hx hb dX10_digest_52 (by decide) (fun c5 => ?_) (fun c5 => ?_)
          · replace h := (if_pos c5).symm.trans h
            refine lv_iconst (v := 0) hx hb dX10_digest_80 (by decide) ?_
            refine lv_istore (lv' := [(4, .int 0), (0, .ref (a 0)), (1, .long x1), (3, .int x3)]) hx hb dX10_digest_81 hl (by decide) rfl (fun ls hl => ?_)
            exact L83 N x1 x3 0 xMeas xTal xKn xFT xFA xFE ls H locs (lv_sub hl [1, 2, 3, 0] rfl) hP hD hS h
          · replace h := (if_neg c5).symm.trans h
            refine lv_ldc2 (v := 31) hx hb hown kc273 dX10_digest_55 ?_
            refine lv_lload_n hx hb dX10_digest_58 rfl (lv_at hl 1 rfl) ?_
            refine lv_lmul hx hb dX10_digest_59 ?_
            refine lv_aload_n hx hb dX10_digest_60 rfl (lv_at hl 0 rfl) ?_
            refine va_get (D := D) (ci := 5) (v := .ref (a 1)) (C := RX10) (T := TX10) (N := 8) hx hb hts hi10 hown hK hP (0) (rfl) rfl 0 (by decide) kf11 (fun _ h9 => h9) rfl dX10_digest_61 ?_
            refine lv_iload_n hx hb dX10_digest_64 rfl (lv_at hl 2 rfl) ?_
            refine va_aldq hx hb hK hP (1) 2 rfl rfl g4 dX10_digest_65 ?_
            refine W.eq (g2 := F0 m 66 ls [.ref (a (14 + x3.toNatClampNeg)), .long ((31 : Int64) * x1)]) rfl ?_
            refine lv_iload hx hb dX10_digest_66 (lv_at hl 3 rfl) ?_
            obtain ⟨o6, eq7, h⟩ := bnd_some h
            refine kRiV (rest := [.long ((31 : Int64) * x1)]) (q0 := (14 + x3.toNatClampNeg)) ⟨hx, hb, hml, hown, hts⟩ (c_X5_signAt l D k a xLen xHits xUns xItems xLost xKind xSize xLet xRel xLim xOpen xMeas xSL xST xSD xSK xTal xKn xFT xFA xFE xOdds xPat xFind x3.toNatClampNeg (vp_in_lt g4) x4 eq7) (cwV 1 hts (gAV wm_165 wm_166 wm_167 wm_15 wm_168) rfl rfl rfl qd_X5_signAt ⟨Nat.le_of_ble_eq_true rfl, Nat.le_of_ble_eq_true rfl⟩) hK hP (wX_row (vp_in_lt g4)) rfl rfl hl.1 rfl (Nat.le_of_ble_eq_true rfl) dX10_digest_68 ⟨Nat.zero_le _, Nat.zero_le _⟩ ?_
            refine lv_i2l (v := o6.toInt64) hx hb dX10_digest_71 rfl ?_
            refine lv_ladd hx hb dX10_digest_72 ?_
            refine lv_lstore_n (lv' := [(1, .long (((31 : Int64) * x1) + o6.toInt64)), (0, .ref (a 0)), (3, .int x3), (4, .int x4)]) hx hb dX10_digest_73 rfl hl (by decide) rfl (fun ls hl => ?_)
            refine lv_iinc (v := (x4 + 1)) (lv' := [(4, .int (x4 + 1)), (1, .long (((31 : Int64) * x1) + o6.toInt64)), (0, .ref (a 0)), (3, .int x3)]) hx hb dX10_digest_74 hl (k := 3) rfl rfl (by decide) rfl (fun ls hl => ?_)
            refine lv_goto (tgt := 41) hx hb dX10_digest_77 (by decide) ?_
            exact ih41 (((31 : Int64) * x1) + o6.toInt64) x3 (x4 + 1) xMeas xTal xKn xFT xFA xFE ls H locs (lv_sub hl [2, 1, 3, 0] rfl) hP hD hS h
      intro x1 x3 xMeas xTal xKn xFT xFA xFE ls H locs hl hP hD hS h
      rw [f_X10_digest_33] at h
      refine lv_iload_n hx hb dX10_digest_33 rfl (lv_at hl 2 rfl) ?_
      refine lv_iconst (v := 4) hx hb dX10_digest_34 (by decide) ?_
      refine lv_icmp_ge (tgt := 117) hx hb dX10_digest_35 (by decide) (fun c8 => ?_) (fun c8 => ?_)
      · replace h := (if_pos c8).symm.trans h
        refine lv_ldc2 (v := 31) hx hb hown kc273 dX10_digest_117 ?_
        refine lv_lload_n hx hb dX10_digest_120 rfl (lv_at hl 1 rfl) ?_
        refine lv_lmul hx hb dX10_digest_121 ?_
        refine lv_aload_n hx hb dX10_digest_122 rfl (lv_at hl 0 rfl) ?_
        obtain ⟨o9, eq10, h⟩ := bnd_some h
        refine kRiV (rest := [.long ((31 : Int64) * x1)]) (q0 := 0) ⟨hx, hb, hml, hown, hts⟩ (c_X10_fault l D k a xLen xHits xUns xItems xLost xKind xSize xLet xRel xLim xOpen xMeas xSL xST xSD xSK xTal xKn xFT xFA xFE xOdds xPat xFind  eq10) (cwV 0 hts (gAV wm_859 wm_404 wm_405 wm_2 wm_406) rfl rfl rfl qd_X10_fault ⟨Nat.le_of_ble_eq_true rfl, Nat.le_of_ble_eq_true rfl⟩) hK hP (rfl) rfl rfl hl.1 rfl (Nat.le_of_ble_eq_true rfl) dX10_digest_123 ⟨Nat.zero_le _, Nat.zero_le _⟩ ?_
        refine lv_i2l (v := o9.toInt64) hx hb dX10_digest_126 rfl ?_
        refine lv_ladd hx hb dX10_digest_127 ?_
        refine lv_lstore_n (lv' := [(1, .long (((31 : Int64) * x1) + o9.toInt64)), (0, .ref (a 0)), (3, .int x3)]) hx hb dX10_digest_128 rfl hl (by decide) rfl (fun ls hl => ?_)
        refine lv_ldc2 (v := 31) hx hb hown kc273 dX10_digest_129 ?_
        refine lv_lload_n hx hb dX10_digest_132 rfl (lv_at hl 0 rfl) ?_
        refine lv_lmul hx hb dX10_digest_133 ?_
        refine lv_aload_n hx hb dX10_digest_134 rfl (lv_at hl 1 rfl) ?_
        refine lv_bipush (v := 10) hx hb dX10_digest_135 (by decide) ?_
        refine lv_iconst (v := (-1)) hx hb dX10_digest_137 (by decide) ?_
        obtain ⟨o11, eq12, h⟩ := bnd_some h
        refine kQiV (rest := [.long ((31 : Int64) * (((31 : Int64) * x1) + o9.toInt64))]) (q0 := 0) ⟨hx, hb, hml, hown, hts⟩ (c_X10_shown l D k a xLen xHits xUns xItems xLost xKind xSize xLet xRel xLim xOpen xMeas xSL xST xSD xSK xTal xKn xFT xFA xFE xOdds xPat xFind 10 (-1) eq12) (cwV 2 hts (gAV wm_860 wm_460 wm_461 wm_2 wm_462) rfl rfl rfl qd_X10_shown ⟨Nat.le_of_ble_eq_true rfl, Nat.le_of_ble_eq_true rfl⟩) hK hP hD hS hA (rfl) rfl rfl hl.1 rfl (Nat.le_of_ble_eq_true rfl) dX10_digest_138 ⟨Nat.zero_le _, Nat.zero_le _⟩ (fun H locs hP hD hS => ?_)
        have hP : va_P D vwCl (wX k a xLen xHits xUns xItems xLost xKind xSize xLet xRel xLim xOpen o11.2.1 xSL xST xSD xSK o11.2.2.1 o11.2.2.2 xFT xFA xFE xOdds xPat xFind) H := hP
        have hD : va_D A (wX k a xLen xHits xUns xItems xLost xKind xSize xLet xRel xLim xOpen o11.2.1 xSL xST xSD xSK o11.2.2.1 o11.2.2.2 xFT xFA xFE xOdds xPat xFind) := hD
        refine lv_i2l (v := o11.1.toInt64) hx hb dX10_digest_141 rfl ?_
        refine lv_ladd hx hb dX10_digest_142 ?_
        refine lv_lstore_n (lv' := [(1, .long (((31 : Int64) * (((31 : Int64) * x1) + o9.toInt64)) + o11.1.toInt64)), (0, .ref (a 0)), (3, .int x3)]) hx hb dX10_digest_143 rfl hl (by decide) rfl (fun ls hl => ?_)
        refine lv_ldc2 (v := 31) hx hb hown kc273 dX10_digest_144 ?_
        refine lv_lload_n hx hb dX10_digest_147 rfl (lv_at hl 0 rfl) ?_
        refine lv_lmul hx hb dX10_digest_148 ?_
        refine lv_aload_n hx hb dX10_digest_149 rfl (lv_at hl 1 rfl) ?_
        refine lv_iconst (v := 0) hx hb dX10_digest_150 (by decide) ?_
        obtain ⟨o13, eq14, h⟩ := bnd_some h
        refine kRlV (rest := [.long ((31 : Int64) * (((31 : Int64) * (((31 : Int64) * x1) + o9.toInt64)) + o11.1.toInt64))]) (q0 := 0) ⟨hx, hb, hml, hown, hts⟩ (c_X10_waits l D k a xLen xHits xUns xItems xLost xKind xSize xLet xRel xLim xOpen o11.2.1 xSL xST xSD xSK o11.2.2.1 o11.2.2.2 xFT xFA xFE xOdds xPat xFind 0 eq14) (cwV 1 hts (gAV wm_861 wm_667 wm_668 wm_2 wm_669) rfl rfl rfl qd_X10_waits ⟨Nat.le_of_ble_eq_true rfl, Nat.le_of_ble_eq_true rfl⟩) hK hP (rfl) rfl rfl hl.1 rfl (Nat.le_of_ble_eq_true rfl) dX10_digest_151 ⟨Nat.zero_le _, Nat.zero_le _⟩ ?_
        refine lv_ladd hx hb dX10_digest_154 ?_
        refine lv_lstore_n (lv' := [(1, .long (((31 : Int64) * (((31 : Int64) * (((31 : Int64) * x1) + o9.toInt64)) + o11.1.toInt64)) + o13)), (0, .ref (a 0)), (3, .int x3)]) hx hb dX10_digest_155 rfl hl (by decide) rfl (fun ls hl => ?_)
        refine lv_ldc2 (v := 31) hx hb hown kc273 dX10_digest_156 ?_
        refine lv_lload_n hx hb dX10_digest_159 rfl (lv_at hl 0 rfl) ?_
        refine lv_lmul hx hb dX10_digest_160 ?_
        refine lv_aload_n hx hb dX10_digest_161 rfl (lv_at hl 1 rfl) ?_
        refine lv_iconst (v := 1) hx hb dX10_digest_162 (by decide) ?_
        obtain ⟨o15, eq16, h⟩ := bnd_some h
        refine kRlV (rest := [.long ((31 : Int64) * (((31 : Int64) * (((31 : Int64) * (((31 : Int64) * x1) + o9.toInt64)) + o11.1.toInt64)) + o13))]) (q0 := 0) ⟨hx, hb, hml, hown, hts⟩ (c_X10_waits l D k a xLen xHits xUns xItems xLost xKind xSize xLet xRel xLim xOpen o11.2.1 xSL xST xSD xSK o11.2.2.1 o11.2.2.2 xFT xFA xFE xOdds xPat xFind 1 eq16) (cwV 1 hts (gAV wm_861 wm_667 wm_668 wm_2 wm_669) rfl rfl rfl qd_X10_waits ⟨Nat.le_of_ble_eq_true rfl, Nat.le_of_ble_eq_true rfl⟩) hK hP (rfl) rfl rfl hl.1 rfl (Nat.le_of_ble_eq_true rfl) dX10_digest_163 ⟨Nat.zero_le _, Nat.zero_le _⟩ ?_
        refine lv_ladd hx hb dX10_digest_166 ?_
        refine lv_lstore_n (lv' := [(1, .long (((31 : Int64) * (((31 : Int64) * (((31 : Int64) * (((31 : Int64) * x1) + o9.toInt64)) + o11.1.toInt64)) + o13)) + o15)), (0, .ref (a 0)), (3, .int x3)]) hx hb dX10_digest_167 rfl hl (by decide) rfl (fun ls hl => ?_)
        refine lv_ldc2 (v := 31) hx hb hown kc273 dX10_digest_168 ?_
        refine lv_lload_n hx hb dX10_digest_171 rfl (lv_at hl 0 rfl) ?_
        refine lv_lmul hx hb dX10_digest_172 ?_
        refine lv_aload_n hx hb dX10_digest_173 rfl (lv_at hl 1 rfl) ?_
        refine lv_iconst (v := 0) hx hb dX10_digest_174 (by decide) ?_
        refine lv_iconst (v := 0) hx hb dX10_digest_175 (by decide) ?_
        obtain ⟨o17, eq18, h⟩ := bnd_some h
        refine kQiV (rest := [.long ((31 : Int64) * (((31 : Int64) * (((31 : Int64) * (((31 : Int64) * (((31 : Int64) * x1) + o9.toInt64)) + o11.1.toInt64)) + o13)) + o15))]) (q0 := 0) ⟨hx, hb, hml, hown, hts⟩ (c_X10_fills l D k a xLen xHits xUns xItems xLost xKind xSize xLet xRel xLim xOpen o11.2.1 xSL xST xSD xSK o11.2.2.1 o11.2.2.2 xFT xFA xFE xOdds xPat xFind 0 0 eq18) (cwV 2 hts (gAV wm_862 wm_534 wm_535 wm_2 wm_536) rfl rfl rfl qd_X10_fills ⟨Nat.le_of_ble_eq_true rfl, Nat.le_of_ble_eq_true rfl⟩) hK hP hD hS hA (rfl) rfl rfl hl.1 rfl (Nat.le_of_ble_eq_true rfl) dX10_digest_176 ⟨Nat.zero_le _, Nat.zero_le _⟩ (fun H locs hP hD hS => ?_)
        have hP : va_P D vwCl (wX k a xLen xHits xUns xItems xLost xKind xSize xLet xRel xLim xOpen o17.2.1 xSL xST xSD xSK o11.2.2.1 o11.2.2.2 o17.2.2.1 o17.2.2.2.1 o17.2.2.2.2 xOdds xPat xFind) H := hP
        have hD : va_D A (wX k a xLen xHits xUns xItems xLost xKind xSize xLet xRel xLim xOpen o17.2.1 xSL xST xSD xSK o11.2.2.1 o11.2.2.2 o17.2.2.1 o17.2.2.2.1 o17.2.2.2.2 xOdds xPat xFind) := hD
        refine lv_i2l (v := o17.1.toInt64) hx hb dX10_digest_179 rfl ?_
        refine lv_ladd hx hb dX10_digest_180 ?_
        have he := Option.some.inj h
        exact W.lret (v := (((31 : Int64) * (((31 : Int64) * (((31 : Int64) * (((31 : Int64) * (((31 : Int64) * x1) + o9.toInt64)) + o11.1.toInt64)) + o13)) + o15)) + o17.1.toInt64)) hx hb hr (fun t ht hW => ⟨⟨(((31 : Int64) * (((31 : Int64) * (((31 : Int64) * (((31 : Int64) * (((31 : Int64) * x1) + o9.toInt64)) + o11.1.toInt64)) + o13)) + o15)) + o17.1.toInt64), wX k a xLen xHits xUns xItems xLost xKind xSize xLet xRel xLim xOpen o17.2.1 xSL xST xSD xSK o11.2.2.1 o11.2.2.2 o17.2.2.1 o17.2.2.2.1 o17.2.2.2.2 xOdds xPat xFind, rfl, ⟨(congrArg (fun z => z.1) he), (congrArg (fun z => wX k a xLen xHits xUns xItems xLost xKind xSize xLet xRel xLim xOpen z.2.1 xSL xST xSD xSK z.2.2.1 z.2.2.2.1 z.2.2.2.2.1 z.2.2.2.2.2.1 z.2.2.2.2.2.2 xOdds xPat xFind) he)⟩, by rw [ht]; exact hP, va_K.moved hW.alike hK, hD⟩, hS.F ht⟩) hS.2.2 dX10_digest_181
      · replace h := (if_neg c8).symm.trans h
        refine lv_iconst (v := 0) hx hb dX10_digest_38 (by decide) ?_
        refine lv_istore (lv' := [(4, .int 0), (0, .ref (a 0)), (1, .long x1), (3, .int x3)]) hx hb dX10_digest_39 hl (by decide) rfl (fun ls hl => ?_)
        exact L41 N x1 x3 0 xMeas xTal xKn xFT xFA xFE ls H locs (lv_sub hl [1, 2, 3, 0] rfl) hP hD hS h
  have L6 : ∀ (n6 : Nat) (x1 : Int64) (x3 : Int32) (xMeas : Nat → Int32) (xTal : Nat → Nat → Int32) (xKn : Nat → Int32) (xFT : Nat → Int32) (xFA : Int32) (xFE : Int32) (ls : Array Slot) (H : Heap) (locs : List Loc) (hl : lv_has ls 5 [(0, .ref (a 0)), (1, .long x1), (3, .int x3)]) (hP : va_P D vwCl (wX k a xLen xHits xUns xItems xLost xKind xSize xLet xRel xLim xOpen xMeas xSL xST xSD xSK xTal xKn xFT xFA xFE xOdds xPat xFind) H) (hD : va_D A (wX k a xLen xHits xUns xItems xLost xKind xSize xLet xRel xLim xOpen xMeas xSL xST xSD xSK xTal xKn xFT xFA xFE xOdds xPat xFind)) (hS : va_S A s.heap H locs) (h : f_X10_digest_6 N n6 x1 x3 xLen xHits xUns xLet xRel xLim xOpen xMeas xSL xST xSD xSK xTal xKn xFT xFA xFE xOdds xPat xFind = some o), gQl p l e wo_X10_digest 6 s m args below meth c D k A o.1 (wX k a xLen xHits xUns xItems xLost xKind xSize xLet xRel xLim xOpen o.2.1 xSL xST xSD xSK o.2.2.1 o.2.2.2.1 o.2.2.2.2.1 o.2.2.2.2.2.1 o.2.2.2.2.2.2 xOdds xPat xFind) H locs (F0 m 6 ls []) := by
    intro n6
    induction n6 with
    | zero => intro x1 x3 xMeas xTal xKn xFT xFA xFE ls H locs hl hP hD hS h; cases (show (none : Option (Int64 × (Nat → Int32) × (Nat → Nat → Int32) × (Nat → Int32) × (Nat → Int32) × (Int32) × (Int32))) = some o from h)
    | succ n6 ih6 =>
      intro x1 x3 xMeas xTal xKn xFT xFA xFE ls H locs hl hP hD hS h
      rw [f_X10_digest_6] at h
      refine lv_iload_n hx hb dX10_digest_6 rfl (lv_at hl 2 rfl) ?_
      refine lv_bipush (v := 7) hx hb dX10_digest_7 (by decide) ?_
      refine lv_icmp_gt (tgt := 31) hx hb dX10_digest_9 (by decide) (fun c19 => ?_) (fun c19 => ?_)
      · replace h := (if_pos c19).symm.trans h
        refine lv_iconst (v := 0) hx hb dX10_digest_31 (by decide) ?_
        refine lv_istore_n (lv' := [(3, .int 0), (0, .ref (a 0)), (1, .long x1)]) hx hb dX10_digest_32 rfl hl (by decide) rfl (fun ls hl => ?_)
        exact L33 N x1 0 xMeas xTal xKn xFT xFA xFE ls H locs (lv_sub hl [1, 2, 0] rfl) hP hD hS h
      · replace h := (if_neg c19).symm.trans h
        refine lv_ldc2 (v := 31) hx hb hown kc273 dX10_digest_12 ?_
        refine lv_lload_n hx hb dX10_digest_15 rfl (lv_at hl 1 rfl) ?_
        refine lv_lmul hx hb dX10_digest_16 ?_
        refine lv_aload_n hx hb dX10_digest_17 rfl (lv_at hl 0 rfl) ?_
        refine lv_iload_n hx hb dX10_digest_18 rfl (lv_at hl 2 rfl) ?_
        obtain ⟨o20, eq21, h⟩ := bnd_some h
        refine kRiV (rest := [.long ((31 : Int64) * x1)]) (q0 := 0) ⟨hx, hb, hml, hown, hts⟩ (c_X10_count l D k a xLen xHits xUns xItems xLost xKind xSize xLet xRel xLim xOpen xMeas xSL xST xSD xSK xTal xKn xFT xFA xFE xOdds xPat xFind x3 eq21) (cwV 1 hts (gAV wm_857 wm_836 wm_837 wm_2 wm_838) rfl rfl rfl qd_X10_count ⟨Nat.le_of_ble_eq_true rfl, Nat.le_of_ble_eq_true rfl⟩) hK hP (rfl) rfl rfl hl.1 rfl (Nat.le_of_ble_eq_true rfl) dX10_digest_19 ⟨Nat.zero_le _, Nat.zero_le _⟩ ?_
        refine lv_i2l (v := o20.toInt64) hx hb dX10_digest_22 rfl ?_
        refine lv_ladd hx hb dX10_digest_23 ?_
        refine lv_lstore_n (lv' := [(1, .long (((31 : Int64) * x1) + o20.toInt64)), (0, .ref (a 0)), (3, .int x3)]) hx hb dX10_digest_24 rfl hl (by decide) rfl (fun ls hl => ?_)
        refine lv_iinc (v := (x3 + 1)) (lv' := [(3, .int (x3 + 1)), (1, .long (((31 : Int64) * x1) + o20.toInt64)), (0, .ref (a 0))]) hx hb dX10_digest_25 hl (k := 2) rfl rfl (by decide) rfl (fun ls hl => ?_)
        refine lv_goto (tgt := 6) hx hb dX10_digest_28 (by decide) ?_
        exact ih6 (((31 : Int64) * x1) + o20.toInt64) (x3 + 1) xMeas xTal xKn xFT xFA xFE ls H locs (lv_sub hl [2, 1, 0] rfl) hP hD hS h
  obtain ⟨H, hH⟩ : ∃ H : Heap, H = s.heap := ⟨_, rfl⟩
  obtain ⟨locs, hlc⟩ : ∃ locs : List Loc, locs = [] := ⟨_, rfl⟩
  have hS : va_S A s.heap H locs := by rw [hH, hlc]; exact va_S.rf
  have hP : va_P D vwCl (wX k a xLen xHits xUns xItems xLost xKind xSize xLet xRel xLim xOpen xMeas xSL xST xSD xSK xTal xKn xFT xFA xFE xOdds xPat xFind) H := by rw [hH]; exact hP
  suffices hGo : gQl p l e wo_X10_digest 6 s m args below meth c D k A o.1 (wX k a xLen xHits xUns xItems xLost xKind xSize xLet xRel xLim xOpen o.2.1 xSL xST xSD xSK o.2.2.1 o.2.2.2.1 o.2.2.2.2.1 o.2.2.2.2.2.1 o.2.2.2.2.2.2 xOdds xPat xFind) H locs (F0 m 0 ls []) by rw [hH, hlc] at hGo; exact hGo
  refine lv_ldc2 (v := 17) hx hb hown kc271 dX10_digest_0 ?_
  refine lv_lstore_n (lv' := [(1, .long 17), (0, .ref (a 0))]) hx hb dX10_digest_3 rfl hl (by decide) rfl (fun ls hl => ?_)
  refine lv_iconst (v := 0) hx hb dX10_digest_4 (by decide) ?_
  refine lv_istore_n (lv' := [(3, .int 0), (1, .long 17), (0, .ref (a 0))]) hx hb dX10_digest_5 rfl hl (by decide) rfl (fun ls hl => ?_)
  exact L6 N 17 0 xMeas xTal xKn xFT xFA xFE ls H locs (lv_sub hl [2, 1, 0] rfl) hP hD hS h
set_option maxHeartbeats 4000000 in
set_option maxRecDepth 100000 in
theorem c_X10_digest {N : Nat} (l : Launch) (D : va_G) (k : Nat → ClassId) (a : Nat → Nat) (xLen : Nat → Int32) (xHits : Nat → Int32) (xUns : Nat → Int32) (xItems : Nat → Nat → Int32) (xLost : Nat → Int32) (xKind : Nat → Int32) (xSize : Nat → Int32) (xLet : Nat → Int32) (xRel : Nat → Int32) (xLim : Nat → Int32) (xOpen : Nat → Int32) (xMeas : Nat → Int32) (xSL : Int32) (xST : Int32) (xSD : Int32) (xSK : Int32) (xTal : Nat → Nat → Int32) (xKn : Nat → Int32) (xFT : Nat → Int32) (xFA : Int32) (xFE : Int32) (xOdds : Int32) (xPat : Int32) (xFind : Int32)  {o : Int64 × (Nat → Int32) × (Nat → Nat → Int32) × (Nat → Int32) × (Nat → Int32) × (Int32) × (Int32)} (h : f_X10_digest N xLen xHits xUns xLet xRel xLim xOpen xMeas xSL xST xSD xSK xTal xKn xFT xFA xFE xOdds xPat xFind = some o) : mQl l yX10_digest wo_X10_digest 6 D k [.ref (a 0)] (wX k a xLen xHits xUns xItems xLost xKind xSize xLet xRel xLim xOpen xMeas xSL xST xSD xSK xTal xKn xFT xFA xFE xOdds xPat xFind) o.1 (wX k a xLen xHits xUns xItems xLost xKind xSize xLet xRel xLim xOpen o.2.1 xSL xST xSD xSK o.2.2.1 o.2.2.2.1 o.2.2.2.2.1 o.2.2.2.2.2.1 o.2.2.2.2.2.2 xOdds xPat xFind) := by
  intro sz
  refine Met.ofW (cc := cX10_digest) (maxL := 5) (ret := some .long) (by decide) rfl ?_
  intro p e s m args below meth c s₁ B hml hv
  obtain ⟨rfl, hsz, hP, hK, hD0⟩ := hv
  subst hsz
  rw [lg_entry_eq]
  exact core_X10_digest D k a xLen xHits xUns xItems xLost xKind xSize xLet xRel xLim xOpen xMeas xSL xST xSD xSK xTal xKn xFT xFA xFE xOdds xPat xFind  B.exec B.bytes hml B.returns (atoms_spec (ws := wo_X10_digest) B.pre) (findClass_of_methodNamed B.named) B.notSynchronized (lv_entry [.ref (a 0)] (n := 5) (Nat.le_of_ble_eq_true rfl)) hK hP hD0.self (fun q h => Or.inr h) h
theorem qd_X10_digest : yX10_digest.cls = RX10 ∧ yX10_digest.cls ≠ "java/lang/invoke/MethodHandle" ∧ yX10_digest.cls ≠ "java/lang/invoke/VarHandle" ∧ (parseMethodDescriptor yX10_digest.desc).map (fun d => d.parameters.length) = some 0 := by decide +kernel
