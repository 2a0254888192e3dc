abbrev wo_X10_hot : List Cond := .code yX10_hot cX10_hot 7 (some .long) :: wsL_law
set_option maxHeartbeats 4000000 in
set_option maxRecDepth 100000 in
theorem core_X10_hot {N : Nat} (D : va_G) (k : Nat → ClassId) (a : Nat → Nat) (xLen : Nat → Int32) (xHits : Nat → Int32) (xUns : Nat → Int32) (xItems : Nat → Nat → Int32) (xLost : Nat → Int32) (xKind : Nat → Int32) (xSize : Nat → Int32) (xLet : Nat → Int32) (xRel : Nat → Int32) (xLim : Nat → Int32) (xOpen : Nat → Int32) (xMeas : Nat → Int32) (xSL : Int32) (xST : Int32) (xSD : Int32) (xSK : Int32) (xTal : Nat → Nat → Int32) (xKn : Nat → Int32) (xFT : Nat → Int32) (xFA : Int32) (xFE : Int32) (xOdds : Int32) (xPat : Int32) (xFind : Int32) (x1 : Int32) (x2 : Int32) (x3 : Int32) {p : Program} {l : Launch} {e : Env} {s : State} {m : MethodId} {args : Array Value} {below : List Frame} {meth : Method} {c : Code} {ls : Array Slot} (hx : p.tables.exec = Jvm.exec) (hb : c.code = cX10_hot) (hml : c.maxLocals = 7) (hr : meth.sig.returnType = some .long) (hts : ∀ w ∈ wo_X10_hot, w.before args s = true) (hown : s.vm.findClass RX10 = some m.cls) (hlocks : meth.locks = false) (hl : lv_has ls 7 [(0, .ref (a 0)), (1, .int x1), (2, .int x2), (3, .int x3)]) (hK : va_K D vwCl (xTys k) s) (hP : va_P D vwCl (wX k a xLen xHits xUns xItems xLost xKind xSize xLet xRel xLim xOpen xMeas xSL xST xSD xSK xTal xKn xFT xFA xFE xOdds xPat xFind) s.heap) {o : Int64} (h : f_X10_hot N x1 x2 x3 xHits xUns = some o) : gRl p l e wo_X10_hot 2 s m args below meth c o (F0 m 0 ls []) := by
  have hi10 := (fun w h => List.mem_cons_of_mem _ (inlX10 w h) : ∀ w ∈ wsX100, w ∈ wo_X10_hot)
  have kf11 := hts _ (List.mem_cons_of_mem _ wm_13)
  have hi5 := (fun w h => List.mem_cons_of_mem _ (inlX5 w h) : ∀ w ∈ wsX50, w ∈ wo_X10_hot)
  have kf119 := hts _ (List.mem_cons_of_mem _ wm_200)
  unfold f_X10_hot at h
  refine lv_iload_n hx hb dX10_hot_0 rfl (lv_at hl 1 rfl) ?_
  obtain ⟨o1, eq2, h⟩ := bnd_some h
  refine kPi (rest := []) ⟨hx, hb, hml, hown, hts⟩ (c_X10_isRow l x1 eq2) (va_cwS 1 hts (gAS wm_92 wm_93 wm_2 wm_94) rfl rfl rfl qd_X10_isRow ⟨Nat.le_of_ble_eq_true rfl, Nat.le_of_ble_eq_true rfl⟩) rfl hl.1 rfl (Nat.le_of_ble_eq_true rfl) dX10_hot_1 ⟨Nat.zero_le _, Nat.zero_le _⟩ ?_
  refine lv_if_eq (tgt := 21) hx hb dX10_hot_4 (by decide) (fun c3 => ?_) (fun c3 => ?_)
  · replace h := (if_pos c3).symm.trans h
    refine lv_bipush (v := (-2)) hx hb dX10_hot_21 (by decide) ?_
    obtain ⟨o4, eq5, h⟩ := bnd_some h
    refine kPl (rest := []) ⟨hx, hb, hml, hown, hts⟩ (c_X10_refusal l (-2) eq5) (va_cwS 1 hts (gAS wm_500 wm_501 wm_2 wm_502) rfl rfl rfl qd_X10_refusal ⟨Nat.le_of_ble_eq_true rfl, Nat.le_of_ble_eq_true rfl⟩) rfl hl.1 rfl (Nat.le_of_ble_eq_true rfl) dX10_hot_23 ⟨Nat.zero_le _, Nat.zero_le _⟩ ?_
    exact W.lret (v := o4) hx hb hr (fun t ht hW => ⟨_, rfl, Option.some.inj h, ht⟩) (fun q hq => by cases hq) dX10_hot_26
  · replace h := (if_neg c3).symm.trans h
    refine lv_iload_n hx hb dX10_hot_7 rfl (lv_at hl 2 rfl) ?_
    obtain ⟨o6, eq7, h⟩ := bnd_some h
    refine kPi (rest := []) ⟨hx, hb, hml, hown, hts⟩ (c_X10_isBehind l x2 eq7) (va_cwS 1 hts (gAS wm_635 wm_636 wm_2 wm_637) rfl rfl rfl qd_X10_isBehind ⟨Nat.le_of_ble_eq_true rfl, Nat.le_of_ble_eq_true rfl⟩) rfl hl.1 rfl (Nat.le_of_ble_eq_true rfl) dX10_hot_8 ⟨Nat.zero_le _, Nat.zero_le _⟩ ?_
    refine lv_if_eq (tgt := 21) hx hb dX10_hot_11 (by decide) (fun c8 => ?_) (fun c8 => ?_)
    · replace h := (if_pos c8).symm.trans h
      refine lv_bipush (v := (-2)) hx hb dX10_hot_21 (by decide) ?_
      obtain ⟨o9, eq10, h⟩ := bnd_some h
      refine kPl (rest := []) ⟨hx, hb, hml, hown, hts⟩ (c_X10_refusal l (-2) eq10) (va_cwS 1 hts (gAS wm_500 wm_501 wm_2 wm_502) rfl rfl rfl qd_X10_refusal ⟨Nat.le_of_ble_eq_true rfl, Nat.le_of_ble_eq_true rfl⟩) rfl hl.1 rfl (Nat.le_of_ble_eq_true rfl) dX10_hot_23 ⟨Nat.zero_le _, Nat.zero_le _⟩ ?_
      exact W.lret (v := o9) hx hb hr (fun t ht hW => ⟨_, rfl, Option.some.inj h, ht⟩) (fun q hq => by cases hq) dX10_hot_26
    · replace h := (if_neg c8).symm.trans h
      refine lv_iload_n hx hb dX10_hot_14 rfl (lv_at hl 3 rfl) ?_
      obtain ⟨o11, eq12, h⟩ := bnd_some h
      refine kPi (rest := []) ⟨hx, hb, hml, hown, hts⟩ (c_X10_isPart l x3 eq12) (va_cwS 1 hts (gAS wm_497 wm_498 wm_2 wm_499) rfl rfl rfl qd_X10_isPart ⟨Nat.le_of_ble_eq_true rfl, Nat.le_of_ble_eq_true rfl⟩) rfl hl.1 rfl (Nat.le_of_ble_eq_true rfl) dX10_hot_15 ⟨Nat.zero_le _, Nat.zero_le _⟩ ?_
      refine lv_if_ne (tgt := 27) hx hb dX10_hot_18 (by decide) (fun c13 => ?_) (fun c13 => ?_)
      · replace h := (if_neg c13).symm.trans h
        refine lv_aload_n hx hb dX10_hot_27 rfl (lv_at hl 0 rfl) ?_
        refine va_get (D := D) (ci := 5) (v := .ref (a 1)) (C := RX10) (T := TX10) (N := 8) hx hb hts hi10 hown hK hP (0) (rfl) rfl 0 (by decide) kf11 (fun _ h9 => h9) rfl dX10_hot_28 ?_
        refine lv_iload_n hx hb dX10_hot_31 rfl (lv_at hl 1 rfl) ?_
        obtain ⟨g14, h⟩ := gIn_some h
        refine va_aldq hx hb hK hP (1) 2 rfl rfl g14 dX10_hot_32 ?_
        refine W.eq (g2 := F0 m 33 ls [.ref (a (14 + x1.toNatClampNeg))]) rfl ?_
        refine lv_astore (lv' := [(4, .ref (a (14 + x1.toNatClampNeg))), (0, .ref (a 0)), (1, .int x1), (2, .int x2), (3, .int x3)]) hx hb dX10_hot_33 hl (by decide) rfl (fun ls hl => ?_)
        refine lv_aload hx hb dX10_hot_35 (lv_at hl 0 rfl) ?_
        obtain ⟨o15, eq16, h⟩ := bnd_some h
        refine kRiV (rest := []) (q0 := (14 + x1.toNatClampNeg)) ⟨hx, hb, hml, hown, hts⟩ (c_X5_isWhole l D k a xLen xHits xUns xItems xLost xKind xSize xLet xRel xLim xOpen xMeas xSL xST xSD xSK xTal xKn xFT xFA xFE xOdds xPat xFind x1.toNatClampNeg (vp_in_lt g14) eq16) (cwV 0 hts (gAV wm_192 wm_193 wm_194 wm_15 wm_195) rfl rfl rfl qd_X5_isWhole ⟨Nat.le_of_ble_eq_true rfl, Nat.le_of_ble_eq_true rfl⟩) hK hP (wX_row (vp_in_lt g14)) rfl rfl hl.1 rfl (Nat.le_of_ble_eq_true rfl) dX10_hot_37 ⟨Nat.zero_le _, Nat.zero_le _⟩ ?_
        refine lv_if_ne (tgt := 49) hx hb dX10_hot_40 (by decide) (fun c17 => ?_) (fun c17 => ?_)
        · replace h := (if_neg c17).symm.trans h
          refine lv_aload hx hb dX10_hot_49 (lv_at hl 0 rfl) ?_
          refine va_get (D := D) (ci := 1) (v := .int (xHits x1.toNatClampNeg)) (C := RX5) (T := TX5) (N := 3) hx hb hts hi5 hown hK hP ((14 + x1.toNatClampNeg)) (wX_row (vp_in_lt g14)) rfl 1 (by decide) kf119 (fun _ h9 => h9) rfl dX10_hot_51 ?_
          refine lv_iload_n hx hb dX10_hot_54 rfl (lv_at hl 3 rfl) ?_
          obtain ⟨o18, eq19, h⟩ := bnd_some h
          refine kPi (rest := []) ⟨hx, hb, hml, hown, hts⟩ (c_X2_behindHits l (xHits x1.toNatClampNeg) x2 eq19) (va_cwS 2 hts (gAS wm_638 wm_639 wm_592 wm_640) rfl rfl rfl qd_X2_behindHits ⟨Nat.le_of_ble_eq_true rfl, Nat.le_of_ble_eq_true rfl⟩) rfl hl.1 rfl (Nat.le_of_ble_eq_true rfl) dX10_hot_55 ⟨Nat.zero_le _, Nat.zero_le _⟩ ?_
          refine lv_istore (lv' := [(5, .int o18), (4, .ref (a (14 + x1.toNatClampNeg))), (0, .ref (a 0)), (1, .int x1), (2, .int x2), (3, .int x3)]) hx hb dX10_hot_58 hl (by decide) rfl (fun ls hl => ?_)
          refine lv_iload hx hb dX10_hot_60 (lv_at hl 0 rfl) ?_
          refine lv_if_ne (tgt := 71) hx hb dX10_hot_62 (by decide) (fun c20 => ?_) (fun c20 => ?_)
          · replace h := (if_neg c20).symm.trans h
            refine lv_iload hx hb dX10_hot_71 (lv_at hl 0 rfl) ?_
            refine lv_aload hx hb dX10_hot_73 (lv_at hl 1 rfl) ?_
            refine va_get (D := D) (ci := 1) (v := .int (xHits x1.toNatClampNeg)) (C := RX5) (T := TX5) (N := 3) hx hb hts hi5 hown hK hP ((14 + x1.toNatClampNeg)) (wX_row (vp_in_lt g14)) rfl 1 (by decide) kf119 (fun _ h9 => h9) rfl dX10_hot_75 ?_
            refine lv_iand hx hb dX10_hot_78 ?_
            obtain ⟨o21, eq22, h⟩ := bnd_some h
            refine kPi (rest := []) ⟨hx, hb, hml, hown, hts⟩ (c_J6_bitCount_0f7a4 l (o18 &&& (xHits x1.toNatClampNeg)) eq22) (va_cwS 1 hts (gAS wm_539 wm_210 wm_211 wm_212) rfl rfl rfl qd_J6_bitCount_0f7a4 ⟨Nat.le_of_ble_eq_true rfl, Nat.le_of_ble_eq_true rfl⟩) rfl hl.1 rfl (Nat.le_of_ble_eq_true rfl) dX10_hot_79 ⟨Nat.zero_le _, Nat.zero_le _⟩ ?_
            refine lv_istore (lv' := [(6, .int o21), (5, .int o18), (4, .ref (a (14 + x1.toNatClampNeg))), (0, .ref (a 0)), (1, .int x1), (2, .int x2), (3, .int x3)]) hx hb dX10_hot_82 hl (by decide) rfl (fun ls hl => ?_)
            refine lv_iload hx hb dX10_hot_84 (lv_at hl 0 rfl) ?_
            refine lv_i2l (v := o21.toInt64) hx hb dX10_hot_86 rfl ?_
            refine lv_iload hx hb dX10_hot_87 (lv_at hl 1 rfl) ?_
            obtain ⟨o23, eq24, h⟩ := bnd_some h
            refine kPi (rest := [.long o21.toInt64]) ⟨hx, hb, hml, hown, hts⟩ (c_J6_bitCount_0f7a4 l o18 eq24) (va_cwS 1 hts (gAS wm_539 wm_210 wm_211 wm_212) rfl rfl rfl qd_J6_bitCount_0f7a4 ⟨Nat.le_of_ble_eq_true rfl, Nat.le_of_ble_eq_true rfl⟩) rfl hl.1 rfl (Nat.le_of_ble_eq_true rfl) dX10_hot_89 ⟨Nat.zero_le _, Nat.zero_le _⟩ ?_
            refine lv_i2l (v := o23.toInt64) hx hb dX10_hot_92 rfl ?_
            refine lv_iload_n hx hb dX10_hot_93 rfl (lv_at hl 6 rfl) ?_
            obtain ⟨o25, eq26, h⟩ := bnd_some h
            refine kPl (rest := []) ⟨hx, hb, hml, hown, hts⟩ (c_X1_part l o21.toInt64 o23.toInt64 x3 eq26) (va_cwS 3 hts (gAS wm_641 wm_513 wm_510 wm_514) rfl rfl rfl qd_X1_part ⟨Nat.le_of_ble_eq_true rfl, Nat.le_of_ble_eq_true rfl⟩) rfl hl.1 rfl (Nat.le_of_ble_eq_true rfl) dX10_hot_94 ⟨Nat.zero_le _, Nat.zero_le _⟩ ?_
            exact W.lret (v := o25) hx hb hr (fun t ht hW => ⟨_, rfl, Option.some.inj h, ht⟩) (fun q hq => by cases hq) dX10_hot_97
          · replace h := (if_pos c20).symm.trans h
            refine lv_bipush (v := (-3)) hx hb dX10_hot_65 (by decide) ?_
            obtain ⟨o27, eq28, h⟩ := bnd_some h
            refine kPl (rest := []) ⟨hx, hb, hml, hown, hts⟩ (c_X10_refusal l (-3) eq28) (va_cwS 1 hts (gAS wm_500 wm_501 wm_2 wm_502) rfl rfl rfl qd_X10_refusal ⟨Nat.le_of_ble_eq_true rfl, Nat.le_of_ble_eq_true rfl⟩) rfl hl.1 rfl (Nat.le_of_ble_eq_true rfl) dX10_hot_67 ⟨Nat.zero_le _, Nat.zero_le _⟩ ?_
            exact W.lret (v := o27) hx hb hr (fun t ht hW => ⟨_, rfl, Option.some.inj h, ht⟩) (fun q hq => by cases hq) dX10_hot_70
        · replace h := (if_pos c17).symm.trans h
          refine lv_bipush (v := (-3)) hx hb dX10_hot_43 (by decide) ?_
          obtain ⟨o29, eq30, h⟩ := bnd_some h
          refine kPl (rest := []) ⟨hx, hb, hml, hown, hts⟩ (c_X10_refusal l (-3) eq30) (va_cwS 1 hts (gAS wm_500 wm_501 wm_2 wm_502) rfl rfl rfl qd_X10_refusal ⟨Nat.le_of_ble_eq_true rfl, Nat.le_of_ble_eq_true rfl⟩) rfl hl.1 rfl (Nat.le_of_ble_eq_true rfl) dX10_hot_45 ⟨Nat.zero_le _, Nat.zero_le _⟩ ?_
          exact W.lret (v := o29) hx hb hr (fun t ht hW => ⟨_, rfl, Option.some.inj h, ht⟩) (fun q hq => by cases hq) dX10_hot_48
      · replace h := (if_pos c13).symm.trans h
        refine lv_bipush (v := (-2)) hx hb dX10_hot_21 (by decide) ?_
        obtain ⟨o31, eq32, h⟩ := bnd_some h
        refine kPl (rest := []) ⟨hx, hb, hml, hown, hts⟩ (c_X10_refusal l (-2) eq32) (va_cwS 1 hts (gAS wm_500 wm_501 wm_2 wm_502) rfl rfl rfl qd_X10_refusal ⟨Nat.le_of_ble_eq_true rfl, Nat.le_of_ble_eq_true rfl⟩) rfl hl.1 rfl (Nat.le_of_ble_eq_true rfl) dX10_hot_23 ⟨Nat.zero_le _, Nat.zero_le _⟩ ?_
        exact W.lret (v := o31) hx hb hr (fun t ht hW => ⟨_, rfl, Option.some.inj h, ht⟩) (fun q hq => by cases hq) dX10_hot_26
set_option maxHeartbeats 4000000 in
set_option maxRecDepth 100000 in
theorem c_X10_hot {N : Nat} (l : Launch) (D : va_G) (k : Nat → ClassId) (a : Nat → Nat) (xLen : Nat → Int32) (xHits : Nat → Int32) (xUns : Nat → Int32) (xItems : Nat → Nat → Int32) (xLost : Nat → Int32) (xKind : Nat → Int32) (xSize : Nat → Int32) (xLet : Nat → Int32) (xRel : Nat → Int32) (xLim : Nat → Int32) (xOpen : Nat → Int32) (xMeas : Nat → Int32) (xSL : Int32) (xST : Int32) (xSD : Int32) (xSK : Int32) (xTal : Nat → Nat → Int32) (xKn : Nat → Int32) (xFT : Nat → Int32) (xFA : Int32) (xFE : Int32) (xOdds : Int32) (xPat : Int32) (xFind : Int32) (x1 : Int32) (x2 : Int32) (x3 : Int32) {o : Int64} (h : f_X10_hot N x1 x2 x3 xHits xUns = some o) : mRl l yX10_hot wo_X10_hot 2 D k [.ref (a 0), .int x1, .int x2, .int x3] (wX k a xLen xHits xUns xItems xLost xKind xSize xLet xRel xLim xOpen xMeas xSL xST xSD xSK xTal xKn xFT xFA xFE xOdds xPat xFind) o := by
  refine Met.ofW (cc := cX10_hot) (maxL := 7) (ret := some .long) (by decide) rfl ?_
  intro p e s m args below meth c s₁ B hml hv
  obtain ⟨rfl, hP, hK⟩ := hv
  rw [lg_entry_eq]
  exact core_X10_hot D k a xLen xHits xUns xItems xLost xKind xSize xLet xRel xLim xOpen xMeas xSL xST xSD xSK xTal xKn xFT xFA xFE xOdds xPat xFind x1 x2 x3 B.exec B.bytes hml B.returns (atoms_spec (ws := wo_X10_hot) B.pre) (findClass_of_methodNamed B.named) B.notSynchronized (lv_entry [.ref (a 0), .int x1, .int x2, .int x3] (n := 7) (Nat.le_of_ble_eq_true rfl)) hK hP h
theorem qd_X10_hot : yX10_hot.cls = RX10 ∧ yX10_hot.cls ≠ "java/lang/invoke/MethodHandle" ∧ yX10_hot.cls ≠ "java/lang/invoke/VarHandle" ∧ (parseMethodDescriptor yX10_hot.desc).map (fun d => d.parameters.length) = some 3 := by decide +kernel
abbrev wo_X10_already : List Cond := .code yX10_already cX10_already 12 (some .long) :: wsL_law
set_option maxHeartbeats 4000000 in
set_option maxRecDepth 100000 in
theorem core_X10_already {N : Nat} (D : va_G) (k : Nat → ClassId) (a : Nat → Nat) (xLen : Nat → Int32) (xHits : Nat → Int32) (xUns : Nat → Int32) (xItems : Nat → Nat → Int32) (xLost : Nat → Int32) (xKind : Nat → Int32) (xSize : Nat → Int32) (xLet : Nat → Int32) (xRel : Nat → Int32) (xLim : Nat → Int32) (xOpen : Nat → Int32) (xMeas : Nat → Int32) (xSL : Int32) (xST : Int32) (xSD : Int32) (xSK : Int32) (xTal : Nat → Nat → Int32) (xKn : Nat → Int32) (xFT : Nat → Int32) (xFA : Int32) (xFE : Int32) (xOdds : Int32) (xPat : Int32) (xFind : Int32) (x1 : Int32) (x2 : Int32) (x3 : Int32) {p : Program} {l : Launch} {e : Env} {s : State} {m : MethodId} {args : Array Value} {below : List Frame} {meth : Method} {c : Code} {ls : Array Slot} (hx : p.tables.exec = Jvm.exec) (hb : c.code = cX10_already) (hml : c.maxLocals = 12) (hr : meth.sig.returnType = some .long) (hts : ∀ w ∈ wo_X10_already, w.before args s = true) (hown : s.vm.findClass RX10 = some m.cls) (hlocks : meth.locks = false) (hl : lv_has ls 12 [(0, .ref (a 0)), (1, .int x1), (2, .int x2), (3, .int x3)]) (hK : va_K D vwCl (xTys k) s) (hP : va_P D vwCl (wX k a xLen xHits xUns xItems xLost xKind xSize xLet xRel xLim xOpen xMeas xSL xST xSD xSK xTal xKn xFT xFA xFE xOdds xPat xFind) s.heap) {o : Int64} (h : f_X10_already N x1 x2 x3 xLen xHits xUns = some o) : gRl p l e wo_X10_already 2 s m args below meth c o (F0 m 0 ls []) := by
  have kc212 := hts _ (List.mem_cons_of_mem _ wm_656)
  have hi10 := (fun w h => List.mem_cons_of_mem _ (inlX10 w h) : ∀ w ∈ wsX100, w ∈ wo_X10_already)
  have kf11 := hts _ (List.mem_cons_of_mem _ wm_13)
  unfold f_X10_already at h
  have L72 : ∀ (n72 : Nat) (x2 : Int32) (x3 : Int32) (x5 : Int32) (x6 : Int32) (x7 : Int32) (x8 : Int64) (x10 : Int32) (ls : Array Slot) (hl : lv_has ls 12 [(2, .int x2), (3, .int x3), (5, .int x5), (6, .int x6), (7, .int x7), (8, .long x8), (10, .int x10)]) (h : f_X10_already_72 N n72 x2 x3 x5 x6 x7 x8 x10 xLen xHits xUns = some o), gRl p l e wo_X10_already 2 s m args below meth c o (F0 m 72 ls []) := by
    intro n72
    induction n72 with
    | zero => intro x2 x3 x5 x6 x7 x8 x10 ls hl h; cases (show (none : Option (Int64)) = some o from h)
    | succ n72 ih72 =>
      have J107 : ∀ (x2 : Int32) (x3 : Int32) (x5 : Int32) (x6 : Int32) (x7 : Int32) (x8 : Int64) (x10 : Int32) (ls : Array Slot) (hl : lv_has ls 12 [(2, .int x2), (3, .int x3), (5, .int x5), (6, .int x6), (7, .int x7), (8, .long x8), (10, .int x10)]) (h : f_X10_already_107 N (fun y0 y1 y2 y3 y4 y5 y6 y7 y8 y9 => f_X10_already_72 N n72 y0 y1 y2 y3 y4 y5 y6 y7 y8 y9) x2 x3 x5 x6 x7 x8 x10 xLen xHits xUns = some o), gRl p l e wo_X10_already 2 s m args below meth c o (F0 m 107 ls []) := by
        intro x2 x3 x5 x6 x7 x8 x10 ls hl h
        unfold f_X10_already_107 at h
        refine lv_iload hx hb dX10_already_107 (lv_at hl 3 rfl) ?_
        obtain ⟨o1, eq2, h⟩ := bnd_some h
        refine kPi (rest := []) ⟨hx, hb, hml, hown, hts⟩ (c_X2_after l x6 eq2) (va_cwS 1 hts (gAS wm_600 wm_601 wm_592 wm_602) rfl rfl rfl qd_X2_after ⟨Nat.le_of_ble_eq_true rfl, Nat.le_of_ble_eq_true rfl⟩) rfl hl.1 rfl (Nat.le_of_ble_eq_true rfl) dX10_already_109 ⟨Nat.zero_le _, Nat.zero_le _⟩ ?_
        refine lv_istore (lv' := [(6, .int o1), (2, .int x2), (3, .int x3), (5, .int x5), (7, .int x7), (8, .long x8), (10, .int x10)]) hx hb dX10_already_112 hl (by decide) rfl (fun ls hl => ?_)
        refine lv_iinc (v := (x10 + 1)) (lv' := [(10, .int (x10 + 1)), (6, .int o1), (2, .int x2), (3, .int x3), (5, .int x5), (7, .int x7), (8, .long x8)]) hx hb dX10_already_114 hl (k := 6) rfl rfl (by decide) rfl (fun ls hl => ?_)
        refine lv_goto (tgt := 72) hx hb dX10_already_117 (by decide) ?_
        exact ih72 x2 x3 x5 o1 x7 x8 (x10 + 1) ls (lv_sub hl [2, 3, 4, 1, 5, 6, 0] rfl) h
      intro x2 x3 x5 x6 x7 x8 x10 ls hl h
      rw [f_X10_already_72] at h
      refine lv_iload hx hb dX10_already_72 (lv_at hl 6 rfl) ?_
      refine lv_iload hx hb dX10_already_74 (lv_at hl 2 rfl) ?_
      refine lv_icmp_ge (tgt := 120) hx hb dX10_already_76 (by decide) (fun c3 => ?_) (fun c3 => ?_)
      · replace h := (if_pos c3).symm.trans h
        refine lv_iload hx hb dX10_already_120 (lv_at hl 4 rfl) ?_
        refine lv_if_ne (tgt := 133) hx hb dX10_already_122 (by decide) (fun c4 => ?_) (fun c4 => ?_)
        · replace h := (if_neg c4).symm.trans h
          refine lv_lload hx hb dX10_already_133 (lv_at hl 5 rfl) ?_
          refine lv_iload hx hb dX10_already_135 (lv_at hl 4 rfl) ?_
          refine lv_i2l (v := x7.toInt64) hx hb dX10_already_137 rfl ?_
          refine lv_ldc2 (v := 360360) hx hb hown kc212 dX10_already_138 ?_
          refine lv_lmul hx hb dX10_already_141 ?_
          refine lv_iload_n hx hb dX10_already_142 rfl (lv_at hl 1 rfl) ?_
          obtain ⟨o5, eq6, h⟩ := bnd_some h
          refine kPl (rest := []) ⟨hx, hb, hml, hown, hts⟩ (c_X1_part l x8 (x7.toInt64 * 360360) x3 eq6) (va_cwS 3 hts (gAS wm_641 wm_513 wm_510 wm_514) rfl rfl rfl qd_X1_part ⟨Nat.le_of_ble_eq_true rfl, Nat.le_of_ble_eq_true rfl⟩) rfl hl.1 rfl (Nat.le_of_ble_eq_true rfl) dX10_already_143 ⟨Nat.zero_le _, Nat.zero_le _⟩ ?_
          exact W.lret (v := o5) hx hb hr (fun t ht hW => ⟨_, rfl, Option.some.inj h, ht⟩) (fun q hq => by cases hq) dX10_already_146
        · replace h := (if_pos c4).symm.trans h
          refine lv_bipush (v := (-3)) hx hb dX10_already_125 (by decide) ?_
          obtain ⟨o7, eq8, h⟩ := bnd_some h
          refine kPl (rest := []) ⟨hx, hb, hml, hown, hts⟩ (c_X10_refusal l (-3) eq8) (va_cwS 1 hts (gAS wm_500 wm_501 wm_2 wm_502) rfl rfl rfl qd_X10_refusal ⟨Nat.le_of_ble_eq_true rfl, Nat.le_of_ble_eq_true rfl⟩) rfl hl.1 rfl (Nat.le_of_ble_eq_true rfl) dX10_already_127 ⟨Nat.zero_le _, Nat.zero_le _⟩ ?_
          refine lv_goto (tgt := 146) hx hb dX10_already_130 (by decide) ?_
          exact W.lret (v := o7) hx hb hr (fun t ht hW => ⟨_, rfl, Option.some.inj h, ht⟩) (fun q hq => by cases hq) dX10_already_146
      · replace h := (if_neg c3).symm.trans h
        refine lv_iload hx hb dX10_already_79 (lv_at hl 3 rfl) ?_
        refine lv_iload_n hx hb dX10_already_81 rfl (lv_at hl 0 rfl) ?_
        obtain ⟨o9, eq10, h⟩ := bnd_some h
        refine kPi (rest := []) ⟨hx, hb, hml, hown, hts⟩ (c_X2_behindHits l x6 x2 eq10) (va_cwS 2 hts (gAS wm_638 wm_639 wm_592 wm_640) rfl rfl rfl qd_X2_behindHits ⟨Nat.le_of_ble_eq_true rfl, Nat.le_of_ble_eq_true rfl⟩) rfl hl.1 rfl (Nat.le_of_ble_eq_true rfl) dX10_already_82 ⟨Nat.zero_le _, Nat.zero_le _⟩ ?_
        refine lv_istore (lv' := [(11, .int o9), (2, .int x2), (3, .int x3), (5, .int x5), (6, .int x6), (7, .int x7), (8, .long x8), (10, .int x10)]) hx hb dX10_already_85 hl (by decide) rfl (fun ls hl => ?_)
        refine lv_iload hx hb dX10_already_87 (lv_at hl 0 rfl) ?_
        refine lv_if_eq (tgt := 107) hx hb dX10_already_89 (by decide) (fun c11 => ?_) (fun c11 => ?_)
        · replace h := (if_pos c11).symm.trans h
          exact J107 x2 x3 x5 x6 x7 x8 x10 ls (lv_sub hl [1, 2, 3, 4, 5, 6, 7] rfl) h
        · replace h := (if_neg c11).symm.trans h
          refine lv_iinc (v := (x7 + 1)) (lv' := [(7, .int (x7 + 1)), (11, .int o9), (2, .int x2), (3, .int x3), (5, .int x5), (6, .int x6), (8, .long x8), (10, .int x10)]) hx hb dX10_already_92 hl (k := 5) rfl rfl (by decide) rfl (fun ls hl => ?_)
          refine lv_lload hx hb dX10_already_95 (lv_at hl 6 rfl) ?_
          refine lv_iload hx hb dX10_already_97 (lv_at hl 5 rfl) ?_
          refine lv_iload hx hb dX10_already_99 (lv_at hl 1 rfl) ?_
          obtain ⟨o12, eq13, h⟩ := bnd_some h
          refine kPl (rest := [.long x8]) ⟨hx, hb, hml, hown, hts⟩ (c_X2_heat l x6 o9 eq13) (va_cwS 2 hts (gAS wm_657 wm_658 wm_592 wm_659) rfl rfl rfl qd_X2_heat ⟨Nat.le_of_ble_eq_true rfl, Nat.le_of_ble_eq_true rfl⟩) rfl hl.1 rfl (Nat.le_of_ble_eq_true rfl) dX10_already_101 ⟨Nat.zero_le _, Nat.zero_le _⟩ ?_
          refine lv_ladd hx hb dX10_already_104 ?_
          refine lv_lstore (lv' := [(8, .long (x8 + o12)), (7, .int (x7 + 1)), (11, .int o9), (2, .int x2), (3, .int x3), (5, .int x5), (6, .int x6), (10, .int x10)]) hx hb dX10_already_105 hl (by decide) rfl (fun ls hl => ?_)
          exact J107 x2 x3 x5 x6 (x7 + 1) (x8 + o12) x10 ls (lv_sub hl [3, 4, 5, 6, 1, 0, 7] rfl) h
  refine lv_iload_n hx hb dX10_already_0 rfl (lv_at hl 1 rfl) ?_
  obtain ⟨o14, eq15, h⟩ := bnd_some h
  refine kPi (rest := []) ⟨hx, hb, hml, hown, hts⟩ (c_X10_isRow l x1 eq15) (va_cwS 1 hts (gAS wm_92 wm_93 wm_2 wm_94) rfl rfl rfl qd_X10_isRow ⟨Nat.le_of_ble_eq_true rfl, Nat.le_of_ble_eq_true rfl⟩) rfl hl.1 rfl (Nat.le_of_ble_eq_true rfl) dX10_already_1 ⟨Nat.zero_le _, Nat.zero_le _⟩ ?_
  refine lv_if_eq (tgt := 21) hx hb dX10_already_4 (by decide) (fun c16 => ?_) (fun c16 => ?_)
  · replace h := (if_pos c16).symm.trans h
    refine lv_bipush (v := (-2)) hx hb dX10_already_21 (by decide) ?_
    obtain ⟨o17, eq18, h⟩ := bnd_some h
    refine kPl (rest := []) ⟨hx, hb, hml, hown, hts⟩ (c_X10_refusal l (-2) eq18) (va_cwS 1 hts (gAS wm_500 wm_501 wm_2 wm_502) rfl rfl rfl qd_X10_refusal ⟨Nat.le_of_ble_eq_true rfl, Nat.le_of_ble_eq_true rfl⟩) rfl hl.1 rfl (Nat.le_of_ble_eq_true rfl) dX10_already_23 ⟨Nat.zero_le _, Nat.zero_le _⟩ ?_
    exact W.lret (v := o17) hx hb hr (fun t ht hW => ⟨_, rfl, Option.some.inj h, ht⟩) (fun q hq => by cases hq) dX10_already_26
  · replace h := (if_neg c16).symm.trans h
    refine lv_iload_n hx hb dX10_already_7 rfl (lv_at hl 2 rfl) ?_
    obtain ⟨o19, eq20, h⟩ := bnd_some h
    refine kPi (rest := []) ⟨hx, hb, hml, hown, hts⟩ (c_X10_isBehind l x2 eq20) (va_cwS 1 hts (gAS wm_635 wm_636 wm_2 wm_637) rfl rfl rfl qd_X10_isBehind ⟨Nat.le_of_ble_eq_true rfl, Nat.le_of_ble_eq_true rfl⟩) rfl hl.1 rfl (Nat.le_of_ble_eq_true rfl) dX10_already_8 ⟨Nat.zero_le _, Nat.zero_le _⟩ ?_
    refine lv_if_eq (tgt := 21) hx hb dX10_already_11 (by decide) (fun c21 => ?_) (fun c21 => ?_)
    · replace h := (if_pos c21).symm.trans h
      refine lv_bipush (v := (-2)) hx hb dX10_already_21 (by decide) ?_
      obtain ⟨o22, eq23, h⟩ := bnd_some h
      refine kPl (rest := []) ⟨hx, hb, hml, hown, hts⟩ (c_X10_refusal l (-2) eq23) (va_cwS 1 hts (gAS wm_500 wm_501 wm_2 wm_502) rfl rfl rfl qd_X10_refusal ⟨Nat.le_of_ble_eq_true rfl, Nat.le_of_ble_eq_true rfl⟩) rfl hl.1 rfl (Nat.le_of_ble_eq_true rfl) dX10_already_23 ⟨Nat.zero_le _, Nat.zero_le _⟩ ?_
      exact W.lret (v := o22) hx hb hr (fun t ht hW => ⟨_, rfl, Option.some.inj h, ht⟩) (fun q hq => by cases hq) dX10_already_26
    · replace h := (if_neg c21).symm.trans h
      refine lv_iload_n hx hb dX10_already_14 rfl (lv_at hl 3 rfl) ?_
      obtain ⟨o24, eq25, h⟩ := bnd_some h
      refine kPi (rest := []) ⟨hx, hb, hml, hown, hts⟩ (c_X10_isPart l x3 eq25) (va_cwS 1 hts (gAS wm_497 wm_498 wm_2 wm_499) rfl rfl rfl qd_X10_isPart ⟨Nat.le_of_ble_eq_true rfl, Nat.le_of_ble_eq_true rfl⟩) rfl hl.1 rfl (Nat.le_of_ble_eq_true rfl) dX10_already_15 ⟨Nat.zero_le _, Nat.zero_le _⟩ ?_
      refine lv_if_ne (tgt := 27) hx hb dX10_already_18 (by decide) (fun c26 => ?_) (fun c26 => ?_)
      · replace h := (if_neg c26).symm.trans h
        refine lv_aload_n hx hb dX10_already_27 rfl (lv_at hl 0 rfl) ?_
        refine va_get (D := D) (ci := 5) (v := .ref (a 1)) (C := RX10) (T := TX10) (N := 8) hx hb hts hi10 hown hK hP (0) (rfl) rfl 0 (by decide) kf11 (fun _ h9 => h9) rfl dX10_already_28 ?_
        refine lv_iload_n hx hb dX10_already_31 rfl (lv_at hl 1 rfl) ?_
        obtain ⟨g27, h⟩ := gIn_some h
        refine va_aldq hx hb hK hP (1) 2 rfl rfl g27 dX10_already_32 ?_
        refine W.eq (g2 := F0 m 33 ls [.ref (a (14 + x1.toNatClampNeg))]) rfl ?_
        refine lv_astore (lv' := [(4, .ref (a (14 + x1.toNatClampNeg))), (0, .ref (a 0)), (1, .int x1), (2, .int x2), (3, .int x3)]) hx hb dX10_already_33 hl (by decide) rfl (fun ls hl => ?_)
        refine lv_aload hx hb dX10_already_35 (lv_at hl 0 rfl) ?_
        obtain ⟨o28, eq29, h⟩ := bnd_some h
        refine kRiV (rest := []) (q0 := (14 + x1.toNatClampNeg)) ⟨hx, hb, hml, hown, hts⟩ (c_X5_isWhole l D k a xLen xHits xUns xItems xLost xKind xSize xLet xRel xLim xOpen xMeas xSL xST xSD xSK xTal xKn xFT xFA xFE xOdds xPat xFind x1.toNatClampNeg (vp_in_lt g27) eq29) (cwV 0 hts (gAV wm_192 wm_193 wm_194 wm_15 wm_195) rfl rfl rfl qd_X5_isWhole ⟨Nat.le_of_ble_eq_true rfl, Nat.le_of_ble_eq_true rfl⟩) hK hP (wX_row (vp_in_lt g27)) rfl rfl hl.1 rfl (Nat.le_of_ble_eq_true rfl) dX10_already_37 ⟨Nat.zero_le _, Nat.zero_le _⟩ ?_
        refine lv_if_ne (tgt := 49) hx hb dX10_already_40 (by decide) (fun c30 => ?_) (fun c30 => ?_)
        · replace h := (if_neg c30).symm.trans h
          refine lv_aload hx hb dX10_already_49 (lv_at hl 0 rfl) ?_
          obtain ⟨o31, eq32, h⟩ := bnd_some h
          refine kRiS (rest := []) ⟨hx, hb, hml, hown, hts⟩ (c_X2_howMany l D k a xLen xHits xUns xItems xLost xKind xSize xLet xRel xLim xOpen xMeas xSL xST xSD xSK xTal xKn xFT xFA xFE xOdds xPat xFind x1.toNatClampNeg (vp_in_lt g27) eq32) (va_cwS 1 hts (gAS wm_590 wm_591 wm_592 wm_593) rfl rfl rfl qd_X2_howMany ⟨Nat.le_of_ble_eq_true rfl, Nat.le_of_ble_eq_true rfl⟩) hK hP rfl hl.1 rfl (Nat.le_of_ble_eq_true rfl) dX10_already_51 ⟨Nat.zero_le _, Nat.zero_le _⟩ ?_
          refine lv_istore (lv' := [(5, .int o31), (4, .ref (a (14 + x1.toNatClampNeg))), (0, .ref (a 0)), (1, .int x1), (2, .int x2), (3, .int x3)]) hx hb dX10_already_54 hl (by decide) rfl (fun ls hl => ?_)
          refine lv_aload hx hb dX10_already_56 (lv_at hl 1 rfl) ?_
          obtain ⟨o33, eq34, h⟩ := bnd_some h
          refine kRiS (rest := []) ⟨hx, hb, hml, hown, hts⟩ (c_X2_lowest l D k a xLen xHits xUns xItems xLost xKind xSize xLet xRel xLim xOpen xMeas xSL xST xSD xSK xTal xKn xFT xFA xFE xOdds xPat xFind x1.toNatClampNeg (vp_in_lt g27) eq34) (va_cwS 1 hts (gAS wm_597 wm_598 wm_592 wm_599) rfl rfl rfl qd_X2_lowest ⟨Nat.le_of_ble_eq_true rfl, Nat.le_of_ble_eq_true rfl⟩) hK hP rfl hl.1 rfl (Nat.le_of_ble_eq_true rfl) dX10_already_58 ⟨Nat.zero_le _, Nat.zero_le _⟩ ?_
          refine lv_istore (lv' := [(6, .int o33), (5, .int o31), (4, .ref (a (14 + x1.toNatClampNeg))), (0, .ref (a 0)), (1, .int x1), (2, .int x2), (3, .int x3)]) hx hb dX10_already_61 hl (by decide) rfl (fun ls hl => ?_)
          refine lv_iconst (v := 0) hx hb dX10_already_63 (by decide) ?_
          refine lv_istore (lv' := [(7, .int 0), (6, .int o33), (5, .int o31), (4, .ref (a (14 + x1.toNatClampNeg))), (0, .ref (a 0)), (1, .int x1), (2, .int x2), (3, .int x3)]) hx hb dX10_already_64 hl (by decide) rfl (fun ls hl => ?_)
          refine lv_lconst (v := 0) hx hb dX10_already_66 rfl ?_
          refine lv_lstore (lv' := [(8, .long 0), (7, .int 0), (6, .int o33), (5, .int o31), (4, .ref (a (14 + x1.toNatClampNeg))), (0, .ref (a 0)), (1, .int x1), (2, .int x2), (3, .int x3)]) hx hb dX10_already_67 hl (by decide) rfl (fun ls hl => ?_)
          refine lv_iconst (v := 0) hx hb dX10_already_69 (by decide) ?_
          refine lv_istore (lv' := [(10, .int 0), (8, .long 0), (7, .int 0), (6, .int o33), (5, .int o31), (4, .ref (a (14 + x1.toNatClampNeg))), (0, .ref (a 0)), (1, .int x1), (2, .int x2), (3, .int x3)]) hx hb dX10_already_70 hl (by decide) rfl (fun ls hl => ?_)
          exact L72 N x2 x3 o31 o33 0 0 0 ls (lv_sub hl [8, 9, 4, 3, 2, 1, 0] rfl) h
        · replace h := (if_pos c30).symm.trans h
          refine lv_bipush (v := (-3)) hx hb dX10_already_43 (by decide) ?_
          obtain ⟨o35, eq36, h⟩ := bnd_some h
          refine kPl (rest := []) ⟨hx, hb, hml, hown, hts⟩ (c_X10_refusal l (-3) eq36) (va_cwS 1 hts (gAS wm_500 wm_501 wm_2 wm_502) rfl rfl rfl qd_X10_refusal ⟨Nat.le_of_ble_eq_true rfl, Nat.le_of_ble_eq_true rfl⟩) rfl hl.1 rfl (Nat.le_of_ble_eq_true rfl) dX10_already_45 ⟨Nat.zero_le _, Nat.zero_le _⟩ ?_
          exact W.lret (v := o35) hx hb hr (fun t ht hW => ⟨_, rfl, Option.some.inj h, ht⟩) (fun q hq => by cases hq) dX10_already_48
      · replace h := (if_pos c26).symm.trans h
        refine lv_bipush (v := (-2)) hx hb dX10_already_21 (by decide) ?_
        obtain ⟨o37, eq38, h⟩ := bnd_some h
        refine kPl (rest := []) ⟨hx, hb, hml, hown, hts⟩ (c_X10_refusal l (-2) eq38) (va_cwS 1 hts (gAS wm_500 wm_501 wm_2 wm_502) rfl rfl rfl qd_X10_refusal ⟨Nat.le_of_ble_eq_true rfl, Nat.le_of_ble_eq_true rfl⟩) rfl hl.1 rfl (Nat.le_of_ble_eq_true rfl) dX10_already_23 ⟨Nat.zero_le _, Nat.zero_le _⟩ ?_
        exact W.lret (v := o37) hx hb hr (fun t ht hW => ⟨_, rfl, Option.some.inj h, ht⟩) (fun q hq => by cases hq) dX10_already_26
set_option maxHeartbeats 4000000 in
set_option maxRecDepth 100000 in
theorem c_X10_already {N : Nat} (l : Launch) (D : va_G) (k : Nat → ClassId) (a : Nat → Nat) (xLen : Nat → Int32) (xHits : Nat → Int32) (xUns : Nat → Int32) (xItems : Nat → Nat → Int32) (xLost : Nat → Int32) (xKind : Nat → Int32) (xSize : Nat → Int32) (xLet : Nat → Int32) (xRel : Nat → Int32) (xLim : Nat → Int32) (xOpen : Nat → Int32) (xMeas : Nat → Int32) (xSL : Int32) (xST : Int32) (xSD : Int32) (xSK : Int32) (xTal : Nat → Nat → Int32) (xKn : Nat → Int32) (xFT : Nat → Int32) (xFA : Int32) (xFE : Int32) (xOdds : Int32) (xPat : Int32) (xFind : Int32) (x1 : Int32) (x2 : Int32) (x3 : Int32) {o : Int64} (h : f_X10_already N x1 x2 x3 xLen xHits xUns = some o) : mRl l yX10_already wo_X10_already 2 D k [.ref (a 0), .int x1, .int x2, .int x3] (wX k a xLen xHits xUns xItems xLost xKind xSize xLet xRel xLim xOpen xMeas xSL xST xSD xSK xTal xKn xFT xFA xFE xOdds xPat xFind) o := by
  refine Met.ofW (cc := cX10_already) (maxL := 12) (ret := some .long) (by decide) rfl ?_
  intro p e s m args below meth c s₁ B hml hv
  obtain ⟨rfl, hP, hK⟩ := hv
  rw [lg_entry_eq]
  exact core_X10_already D k a xLen xHits xUns xItems xLost xKind xSize xLet xRel xLim xOpen xMeas xSL xST xSD xSK xTal xKn xFT xFA xFE xOdds xPat xFind x1 x2 x3 B.exec B.bytes hml B.returns (atoms_spec (ws := wo_X10_already) B.pre) (findClass_of_methodNamed B.named) B.notSynchronized (lv_entry [.ref (a 0), .int x1, .int x2, .int x3] (n := 12) (Nat.le_of_ble_eq_true rfl)) hK hP h
theorem qd_X10_already : yX10_already.cls = RX10 ∧ yX10_already.cls ≠ "java/lang/invoke/MethodHandle" ∧ yX10_already.cls ≠ "java/lang/invoke/VarHandle" ∧ (parseMethodDescriptor yX10_already.desc).map (fun d => d.parameters.length) = some 3 := by decide +kernel
abbrev wo_X10_waits : List Cond := .code yX10_waits cX10_waits 2 (some .long) :: wsL_law
set_option maxHeartbeats 4000000 in
set_option maxRecDepth 100000 in
theorem core_X10_waits {N : Nat} (D : va_G) (k : Nat → ClassId) (a : Nat → Nat) (xLen : Nat → Int32) (xHits : Nat → Int32) (xUns : Nat → Int32) (xItems : Nat → Nat → Int32) (xLost : Nat → Int32) (xKind : Nat → Int32) (xSize : Nat → Int32) (xLet : Nat → Int32) (xRel : Nat → Int32) (xLim : Nat → Int32) (xOpen : Nat → Int32) (xMeas : Nat → Int32) (xSL : Int32) (xST : Int32) (xSD : Int32) (xSK : Int32) (xTal : Nat → Nat → Int32) (xKn : Nat → Int32) (xFT : Nat → Int32) (xFA : Int32) (xFE : Int32) (xOdds : Int32) (xPat : Int32) (xFind : Int32) (x1 : Int32) {p : Program} {l : Launch} {e : Env} {s : State} {m : MethodId} {args : Array Value} {below : List Frame} {meth : Method} {c : Code} {ls : Array Slot} (hx : p.tables.exec = Jvm.exec) (hb : c.code = cX10_waits) (hml : c.maxLocals = 2) (hr : meth.sig.returnType = some .long) (hts : ∀ w ∈ wo_X10_waits, w.before args s = true) (hown : s.vm.findClass RX10 = some m.cls) (hlocks : meth.locks = false) (hl : lv_has ls 2 [(0, .ref (a 0)), (1, .int x1)]) (hK : va_K D vwCl (xTys k) s) (hP : va_P D vwCl (wX k a xLen xHits xUns xItems xLost xKind xSize xLet xRel xLim xOpen xMeas xSL xST xSD xSK xTal xKn xFT xFA xFE xOdds xPat xFind) s.heap) {o : Int64} (h : f_X10_waits N x1 xOdds xPat = some o) : gRl p l e wo_X10_waits 3 s m args below meth c o (F0 m 0 ls []) := by
  have hi10 := (fun w h => List.mem_cons_of_mem _ (inlX10 w h) : ∀ w ∈ wsX100, w ∈ wo_X10_waits)
  have kf48 := hts _ (List.mem_cons_of_mem _ wm_33)
  have kf44 := hts _ (List.mem_cons_of_mem _ wm_32)
  unfold f_X10_waits at h
  refine lv_iload_n hx hb dX10_waits_0 rfl (lv_at hl 1 rfl) ?_
  obtain ⟨o1, eq2, h⟩ := bnd_some h
  refine kPi (rest := []) ⟨hx, hb, hml, hown, hts⟩ (c_X10_isPart l x1 eq2) (va_cwS 1 hts (gAS wm_497 wm_498 wm_2 wm_499) rfl rfl rfl qd_X10_isPart ⟨Nat.le_of_ble_eq_true rfl, Nat.le_of_ble_eq_true rfl⟩) rfl hl.1 rfl (Nat.le_of_ble_eq_true rfl) dX10_waits_1 ⟨Nat.zero_le _, Nat.zero_le _⟩ ?_
  refine lv_if_ne (tgt := 13) hx hb dX10_waits_4 (by decide) (fun c3 => ?_) (fun c3 => ?_)
  · replace h := (if_neg c3).symm.trans h
    refine lv_aload_n hx hb dX10_waits_13 rfl (lv_at hl 0 rfl) ?_
    refine va_get (D := D) (ci := 5) (v := .int xPat) (C := RX10) (T := TX10) (N := 8) hx hb hts hi10 hown hK hP (0) (rfl) rfl 6 (by decide) kf48 (fun _ h9 => h9) rfl dX10_waits_14 ?_
    refine lv_aload_n hx hb dX10_waits_17 rfl (lv_at hl 0 rfl) ?_
    refine va_get (D := D) (ci := 5) (v := .int xPat) (C := RX10) (T := TX10) (N := 8) hx hb hts hi10 hown hK hP (0) (rfl) rfl 6 (by decide) kf48 (fun _ h9 => h9) rfl dX10_waits_18 ?_
    refine lv_aload_n hx hb dX10_waits_21 rfl (lv_at hl 0 rfl) ?_
    refine va_get (D := D) (ci := 5) (v := .int xOdds) (C := RX10) (T := TX10) (N := 8) hx hb hts hi10 hown hK hP (0) (rfl) rfl 5 (by decide) kf44 (fun _ h9 => h9) rfl dX10_waits_22 ?_
    obtain ⟨o4, eq5, h⟩ := bnd_some h
    refine kPl (rest := []) ⟨hx, hb, hml, hown, hts⟩ (c_X4_lead l xPat xPat xOdds eq5) (va_cwS 3 hts (gAS wm_670 wm_671 wm_227 wm_672) rfl rfl rfl qd_X4_lead ⟨Nat.le_of_ble_eq_true rfl, Nat.le_of_ble_eq_true rfl⟩) rfl hl.1 rfl (Nat.le_of_ble_eq_true rfl) dX10_waits_25 ⟨Nat.zero_le _, Nat.zero_le _⟩ ?_
    refine lv_aload_n hx hb dX10_waits_28 rfl (lv_at hl 0 rfl) ?_
    refine va_get (D := D) (ci := 5) (v := .int xOdds) (C := RX10) (T := TX10) (N := 8) hx hb hts hi10 hown hK hP (0) (rfl) rfl 5 (by decide) kf44 (fun _ h9 => h9) rfl dX10_waits_29 ?_
    obtain ⟨o6, eq7, h⟩ := bnd_some h
    refine kPl (rest := [.long o4]) ⟨hx, hb, hml, hown, hts⟩ (c_X4_leadUnit l xOdds eq7) (va_cwS 1 hts (gAS wm_678 wm_679 wm_227 wm_680) rfl rfl rfl qd_X4_leadUnit ⟨Nat.le_of_ble_eq_true rfl, Nat.le_of_ble_eq_true rfl⟩) rfl hl.1 rfl (Nat.le_of_ble_eq_true rfl) dX10_waits_32 ⟨Nat.zero_le _, Nat.zero_le _⟩ ?_
    refine lv_iload_n hx hb dX10_waits_35 rfl (lv_at hl 1 rfl) ?_
    obtain ⟨o8, eq9, h⟩ := bnd_some h
    refine kPl (rest := []) ⟨hx, hb, hml, hown, hts⟩ (c_X1_part l o4 o6 x1 eq9) (va_cwS 3 hts (gAS wm_641 wm_513 wm_510 wm_514) rfl rfl rfl qd_X1_part ⟨Nat.le_of_ble_eq_true rfl, Nat.le_of_ble_eq_true rfl⟩) rfl hl.1 rfl (Nat.le_of_ble_eq_true rfl) dX10_waits_36 ⟨Nat.zero_le _, Nat.zero_le _⟩ ?_
    exact W.lret (v := o8) hx hb hr (fun t ht hW => ⟨_, rfl, Option.some.inj h, ht⟩) (fun q hq => by cases hq) dX10_waits_39
  · replace h := (if_pos c3).symm.trans h
    refine lv_bipush (v := (-2)) hx hb dX10_waits_7 (by decide) ?_
    obtain ⟨o10, eq11, h⟩ := bnd_some h
    refine kPl (rest := []) ⟨hx, hb, hml, hown, hts⟩ (c_X10_refusal l (-2) eq11) (va_cwS 1 hts (gAS wm_500 wm_501 wm_2 wm_502) rfl rfl rfl qd_X10_refusal ⟨Nat.le_of_ble_eq_true rfl, Nat.le_of_ble_eq_true rfl⟩) rfl hl.1 rfl (Nat.le_of_ble_eq_true rfl) dX10_waits_9 ⟨Nat.zero_le _, Nat.zero_le _⟩ ?_
    exact W.lret (v := o10) hx hb hr (fun t ht hW => ⟨_, rfl, Option.some.inj h, ht⟩) (fun q hq => by cases hq) dX10_waits_12
set_option maxHeartbeats 4000000 in
set_option maxRecDepth 100000 in
theorem c_X10_waits {N : Nat} (l : Launch) (D : va_G) (k : Nat → ClassId) (a : Nat → Nat) (xLen : Nat → Int32) (xHits : Nat → Int32) (xUns : Nat → Int32) (xItems : Nat → Nat → Int32) (xLost : Nat → Int32) (xKind : Nat → Int32) (xSize : Nat → Int32) (xLet : Nat → Int32) (xRel : Nat → Int32) (xLim : Nat → Int32) (xOpen : Nat → Int32) (xMeas : Nat → Int32) (xSL : Int32) (xST : Int32) (xSD : Int32) (xSK : Int32) (xTal : Nat → Nat → Int32) (xKn : Nat → Int32) (xFT : Nat → Int32) (xFA : Int32) (xFE : Int32) (xOdds : Int32) (xPat : Int32) (xFind : Int32) (x1 : Int32) {o : Int64} (h : f_X10_waits N x1 xOdds xPat = some o) : mRl l yX10_waits wo_X10_waits 3 D k [.ref (a 0), .int x1] (wX k a xLen xHits xUns xItems xLost xKind xSize xLet xRel xLim xOpen xMeas xSL xST xSD xSK xTal xKn xFT xFA xFE xOdds xPat xFind) o := by
  refine Met.ofW (cc := cX10_waits) (maxL := 2) (ret := some .long) (by decide) rfl ?_
  intro p e s m args below meth c s₁ B hml hv
  obtain ⟨rfl, hP, hK⟩ := hv
  rw [lg_entry_eq]
  exact core_X10_waits D k a xLen xHits xUns xItems xLost xKind xSize xLet xRel xLim xOpen xMeas xSL xST xSD xSK xTal xKn xFT xFA xFE xOdds xPat xFind x1 B.exec B.bytes hml B.returns (atoms_spec (ws := wo_X10_waits) B.pre) (findClass_of_methodNamed B.named) B.notSynchronized (lv_entry [.ref (a 0), .int x1] (n := 2) (Nat.le_of_ble_eq_true rfl)) hK hP h
theorem qd_X10_waits : yX10_waits.cls = RX10 ∧ yX10_waits.cls ≠ "java/lang/invoke/MethodHandle" ∧ yX10_waits.cls ≠ "java/lang/invoke/VarHandle" ∧ (parseMethodDescriptor yX10_waits.desc).map (fun d => d.parameters.length) = some 1 := by decide +kernel
abbrev wo_X10_first : List Cond := .code yX10_first cX10_first 8 (some .long) :: wsL_law
set_option maxHeartbeats 4000000 in
set_option maxRecDepth 100000 in
theorem core_X10_first {N : Nat} (D : va_G) (k : Nat → ClassId) (a : Nat → Nat) (xLen : Nat → Int32) (xHits : Nat → Int32) (xUns : Nat → Int32) (xItems : Nat → Nat → Int32) (xLost : Nat → Int32) (xKind : Nat → Int32) (xSize : Nat → Int32) (xLet : Nat → Int32) (xRel : Nat → Int32) (xLim : Nat → Int32) (xOpen : Nat → Int32) (xMeas : Nat → Int32) (xSL : Int32) (xST : Int32) (xSD : Int32) (xSK : Int32) (xTal : Nat → Nat → Int32) (xKn : Nat → Int32) (xFT : Nat → Int32) (xFA : Int32) (xFE : Int32) (xOdds : Int32) (xPat : Int32) (xFind : Int32) (x1 : Int32) (x2 : Int32) (x3 : Int32) {p : Program} {l : Launch} {e : Env} {s : State} {m : MethodId} {args : Array Value} {below : List Frame} {meth : Method} {c : Code} {ls : Array Slot} (hx : p.tables.exec = Jvm.exec) (hb : c.code = cX10_first) (hml : c.maxLocals = 8) (hr : meth.sig.returnType = some .long) (hts : ∀ w ∈ wo_X10_first, w.before args s = true) (hown : s.vm.findClass RX10 = some m.cls) (hlocks : meth.locks = false) (hl : lv_has ls 8 [(0, .ref (a 0)), (1, .int x1), (2, .int x2), (3, .int x3)]) (hK : va_K D vwCl (xTys k) s) (hP : va_P D vwCl (wX k a xLen xHits xUns xItems xLost xKind xSize xLet xRel xLim xOpen xMeas xSL xST xSD xSK xTal xKn xFT xFA xFE xOdds xPat xFind) s.heap) {o : Int64} (h : f_X10_first N x1 x2 x3 xOdds = some o) : gRl p l e wo_X10_first 3 s m args below meth c o (F0 m 0 ls []) := by
  have hi10 := (fun w h => List.mem_cons_of_mem _ (inlX10 w h) : ∀ w ∈ wsX100, w ∈ wo_X10_first)
  have kf44 := hts _ (List.mem_cons_of_mem _ wm_32)
  unfold f_X10_first at h
  refine lv_iload_n hx hb dX10_first_0 rfl (lv_at hl 1 rfl) ?_
  obtain ⟨o1, eq2, h⟩ := bnd_some h
  refine kPi (rest := []) ⟨hx, hb, hml, hown, hts⟩ (c_X10_isFirstTold l x1 eq2) (va_cwS 1 hts (gAS wm_704 wm_705 wm_2 wm_706) rfl rfl rfl qd_X10_isFirstTold ⟨Nat.le_of_ble_eq_true rfl, Nat.le_of_ble_eq_true rfl⟩) rfl hl.1 rfl (Nat.le_of_ble_eq_true rfl) dX10_first_1 ⟨Nat.zero_le _, Nat.zero_le _⟩ ?_
  refine lv_if_eq (tgt := 21) hx hb dX10_first_4 (by decide) (fun c3 => ?_) (fun c3 => ?_)
  · replace h := (if_pos c3).symm.trans h
    refine lv_bipush (v := (-2)) hx hb dX10_first_21 (by decide) ?_
    obtain ⟨o4, eq5, h⟩ := bnd_some h
    refine kPl (rest := []) ⟨hx, hb, hml, hown, hts⟩ (c_X10_refusal l (-2) eq5) (va_cwS 1 hts (gAS wm_500 wm_501 wm_2 wm_502) rfl rfl rfl qd_X10_refusal ⟨Nat.le_of_ble_eq_true rfl, Nat.le_of_ble_eq_true rfl⟩) rfl hl.1 rfl (Nat.le_of_ble_eq_true rfl) dX10_first_23 ⟨Nat.zero_le _, Nat.zero_le _⟩ ?_
    exact W.lret (v := o4) hx hb hr (fun t ht hW => ⟨_, rfl, Option.some.inj h, ht⟩) (fun q hq => by cases hq) dX10_first_26
  · replace h := (if_neg c3).symm.trans h
    refine lv_iload_n hx hb dX10_first_7 rfl (lv_at hl 2 rfl) ?_
    obtain ⟨o6, eq7, h⟩ := bnd_some h
    refine kPi (rest := []) ⟨hx, hb, hml, hown, hts⟩ (c_X10_isFirstTold l x2 eq7) (va_cwS 1 hts (gAS wm_704 wm_705 wm_2 wm_706) rfl rfl rfl qd_X10_isFirstTold ⟨Nat.le_of_ble_eq_true rfl, Nat.le_of_ble_eq_true rfl⟩) rfl hl.1 rfl (Nat.le_of_ble_eq_true rfl) dX10_first_8 ⟨Nat.zero_le _, Nat.zero_le _⟩ ?_
    refine lv_if_eq (tgt := 21) hx hb dX10_first_11 (by decide) (fun c8 => ?_) (fun c8 => ?_)
    · replace h := (if_pos c8).symm.trans h
      refine lv_bipush (v := (-2)) hx hb dX10_first_21 (by decide) ?_
      obtain ⟨o9, eq10, h⟩ := bnd_some h
      refine kPl (rest := []) ⟨hx, hb, hml, hown, hts⟩ (c_X10_refusal l (-2) eq10) (va_cwS 1 hts (gAS wm_500 wm_501 wm_2 wm_502) rfl rfl rfl qd_X10_refusal ⟨Nat.le_of_ble_eq_true rfl, Nat.le_of_ble_eq_true rfl⟩) rfl hl.1 rfl (Nat.le_of_ble_eq_true rfl) dX10_first_23 ⟨Nat.zero_le _, Nat.zero_le _⟩ ?_
      exact W.lret (v := o9) hx hb hr (fun t ht hW => ⟨_, rfl, Option.some.inj h, ht⟩) (fun q hq => by cases hq) dX10_first_26
    · replace h := (if_neg c8).symm.trans h
      refine lv_iload_n hx hb dX10_first_14 rfl (lv_at hl 3 rfl) ?_
      obtain ⟨o11, eq12, h⟩ := bnd_some h
      refine kPi (rest := []) ⟨hx, hb, hml, hown, hts⟩ (c_X10_isPart l x3 eq12) (va_cwS 1 hts (gAS wm_497 wm_498 wm_2 wm_499) rfl rfl rfl qd_X10_isPart ⟨Nat.le_of_ble_eq_true rfl, Nat.le_of_ble_eq_true rfl⟩) rfl hl.1 rfl (Nat.le_of_ble_eq_true rfl) dX10_first_15 ⟨Nat.zero_le _, Nat.zero_le _⟩ ?_
      refine lv_if_ne (tgt := 27) hx hb dX10_first_18 (by decide) (fun c13 => ?_) (fun c13 => ?_)
      · replace h := (if_neg c13).symm.trans h
        refine lv_iload_n hx hb dX10_first_27 rfl (lv_at hl 1 rfl) ?_
        refine lv_iload_n hx hb dX10_first_28 rfl (lv_at hl 2 rfl) ?_
        obtain ⟨o14, eq15, h⟩ := bnd_some h
        refine kPi (rest := []) ⟨hx, hb, hml, hown, hts⟩ (c_X4_standsIn l x1 x2 eq15) (va_cwS 2 hts (gAS wm_707 wm_708 wm_227 wm_709) rfl rfl rfl qd_X4_standsIn ⟨Nat.le_of_ble_eq_true rfl, Nat.le_of_ble_eq_true rfl⟩) rfl hl.1 rfl (Nat.le_of_ble_eq_true rfl) dX10_first_29 ⟨Nat.zero_le _, Nat.zero_le _⟩ ?_
        refine lv_if_ne (tgt := 43) hx hb dX10_first_32 (by decide) (fun c16 => ?_) (fun c16 => ?_)
        · replace h := (if_neg c16).symm.trans h
          refine lv_bipush (v := (-3)) hx hb dX10_first_43 (by decide) ?_
          obtain ⟨o17, eq18, h⟩ := bnd_some h
          refine kPl (rest := []) ⟨hx, hb, hml, hown, hts⟩ (c_X10_refusal l (-3) eq18) (va_cwS 1 hts (gAS wm_500 wm_501 wm_2 wm_502) rfl rfl rfl qd_X10_refusal ⟨Nat.le_of_ble_eq_true rfl, Nat.le_of_ble_eq_true rfl⟩) rfl hl.1 rfl (Nat.le_of_ble_eq_true rfl) dX10_first_45 ⟨Nat.zero_le _, Nat.zero_le _⟩ ?_
          exact W.lret (v := o17) hx hb hr (fun t ht hW => ⟨_, rfl, Option.some.inj h, ht⟩) (fun q hq => by cases hq) dX10_first_48
        · replace h := (if_pos c16).symm.trans h
          refine lv_iload_n hx hb dX10_first_35 rfl (lv_at hl 2 rfl) ?_
          refine lv_iload_n hx hb dX10_first_36 rfl (lv_at hl 1 rfl) ?_
          obtain ⟨o19, eq20, h⟩ := bnd_some h
          refine kPi (rest := []) ⟨hx, hb, hml, hown, hts⟩ (c_X4_standsIn l x2 x1 eq20) (va_cwS 2 hts (gAS wm_707 wm_708 wm_227 wm_709) rfl rfl rfl qd_X4_standsIn ⟨Nat.le_of_ble_eq_true rfl, Nat.le_of_ble_eq_true rfl⟩) rfl hl.1 rfl (Nat.le_of_ble_eq_true rfl) dX10_first_37 ⟨Nat.zero_le _, Nat.zero_le _⟩ ?_
          refine lv_if_eq (tgt := 49) hx hb dX10_first_40 (by decide) (fun c21 => ?_) (fun c21 => ?_)
          · replace h := (if_pos c21).symm.trans h
            refine lv_iload_n hx hb dX10_first_49 rfl (lv_at hl 2 rfl) ?_
            refine lv_iload_n hx hb dX10_first_50 rfl (lv_at hl 2 rfl) ?_
            refine lv_aload_n hx hb dX10_first_51 rfl (lv_at hl 0 rfl) ?_
            refine va_get (D := D) (ci := 5) (v := .int xOdds) (C := RX10) (T := TX10) (N := 8) hx hb hts hi10 hown hK hP (0) (rfl) rfl 5 (by decide) kf44 (fun _ h9 => h9) rfl dX10_first_52 ?_
            obtain ⟨o22, eq23, h⟩ := bnd_some h
            refine kPl (rest := []) ⟨hx, hb, hml, hown, hts⟩ (c_X4_lead l x2 x2 xOdds eq23) (va_cwS 3 hts (gAS wm_670 wm_671 wm_227 wm_672) rfl rfl rfl qd_X4_lead ⟨Nat.le_of_ble_eq_true rfl, Nat.le_of_ble_eq_true rfl⟩) rfl hl.1 rfl (Nat.le_of_ble_eq_true rfl) dX10_first_55 ⟨Nat.zero_le _, Nat.zero_le _⟩ ?_
            refine lv_iload_n hx hb dX10_first_58 rfl (lv_at hl 2 rfl) ?_
            refine lv_iload_n hx hb dX10_first_59 rfl (lv_at hl 1 rfl) ?_
            refine lv_aload_n hx hb dX10_first_60 rfl (lv_at hl 0 rfl) ?_
            refine va_get (D := D) (ci := 5) (v := .int xOdds) (C := RX10) (T := TX10) (N := 8) hx hb hts hi10 hown hK hP (0) (rfl) rfl 5 (by decide) kf44 (fun _ h9 => h9) rfl dX10_first_61 ?_
            obtain ⟨o24, eq25, h⟩ := bnd_some h
            refine kPl (rest := [.long o22]) ⟨hx, hb, hml, hown, hts⟩ (c_X4_lead l x2 x1 xOdds eq25) (va_cwS 3 hts (gAS wm_670 wm_671 wm_227 wm_672) rfl rfl rfl qd_X4_lead ⟨Nat.le_of_ble_eq_true rfl, Nat.le_of_ble_eq_true rfl⟩) rfl hl.1 rfl (Nat.le_of_ble_eq_true rfl) dX10_first_64 ⟨Nat.zero_le _, Nat.zero_le _⟩ ?_
            refine lv_lsub hx hb dX10_first_67 ?_
            refine lv_lstore (lv' := [(4, .long (o22 - o24)), (0, .ref (a 0)), (1, .int x1), (2, .int x2), (3, .int x3)]) hx hb dX10_first_68 hl (by decide) rfl (fun ls hl => ?_)
            refine lv_iload_n hx hb dX10_first_70 rfl (lv_at hl 2 rfl) ?_
            refine lv_iload_n hx hb dX10_first_71 rfl (lv_at hl 2 rfl) ?_
            refine lv_aload_n hx hb dX10_first_72 rfl (lv_at hl 1 rfl) ?_
            refine va_get (D := D) (ci := 5) (v := .int xOdds) (C := RX10) (T := TX10) (N := 8) hx hb hts hi10 hown hK hP (0) (rfl) rfl 5 (by decide) kf44 (fun _ h9 => h9) rfl dX10_first_73 ?_
            obtain ⟨o26, eq27, h⟩ := bnd_some h
            refine kPl (rest := []) ⟨hx, hb, hml, hown, hts⟩ (c_X4_lead l x1 x1 xOdds eq27) (va_cwS 3 hts (gAS wm_670 wm_671 wm_227 wm_672) rfl rfl rfl qd_X4_lead ⟨Nat.le_of_ble_eq_true rfl, Nat.le_of_ble_eq_true rfl⟩) rfl hl.1 rfl (Nat.le_of_ble_eq_true rfl) dX10_first_76 ⟨Nat.zero_le _, Nat.zero_le _⟩ ?_
            refine lv_iload_n hx hb dX10_first_79 rfl (lv_at hl 2 rfl) ?_
            refine lv_iload_n hx hb dX10_first_80 rfl (lv_at hl 3 rfl) ?_
            refine lv_aload_n hx hb dX10_first_81 rfl (lv_at hl 1 rfl) ?_
            refine va_get (D := D) (ci := 5) (v := .int xOdds) (C := RX10) (T := TX10) (N := 8) hx hb hts hi10 hown hK hP (0) (rfl) rfl 5 (by decide) kf44 (fun _ h9 => h9) rfl dX10_first_82 ?_
            obtain ⟨o28, eq29, h⟩ := bnd_some h
            refine kPl (rest := [.long o26]) ⟨hx, hb, hml, hown, hts⟩ (c_X4_lead l x1 x2 xOdds eq29) (va_cwS 3 hts (gAS wm_670 wm_671 wm_227 wm_672) rfl rfl rfl qd_X4_lead ⟨Nat.le_of_ble_eq_true rfl, Nat.le_of_ble_eq_true rfl⟩) rfl hl.1 rfl (Nat.le_of_ble_eq_true rfl) dX10_first_85 ⟨Nat.zero_le _, Nat.zero_le _⟩ ?_
            refine lv_lsub hx hb dX10_first_88 ?_
            refine lv_lstore (lv' := [(6, .long (o26 - o28)), (4, .long (o22 - o24)), (0, .ref (a 0)), (1, .int x1), (2, .int x2), (3, .int x3)]) hx hb dX10_first_89 hl (by decide) rfl (fun ls hl => ?_)
            refine lv_lload hx hb dX10_first_91 (lv_at hl 1 rfl) ?_
            refine lv_lload hx hb dX10_first_93 (lv_at hl 1 rfl) ?_
            refine lv_lload hx hb dX10_first_95 (lv_at hl 0 rfl) ?_
            refine lv_ladd hx hb dX10_first_97 ?_
            refine lv_iload_n hx hb dX10_first_98 rfl (lv_at hl 5 rfl) ?_
            obtain ⟨o30, eq31, h⟩ := bnd_some h
            refine kPl (rest := []) ⟨hx, hb, hml, hown, hts⟩ (c_X1_part l (o22 - o24) ((o22 - o24) + (o26 - o28)) x3 eq31) (va_cwS 3 hts (gAS wm_641 wm_513 wm_510 wm_514) rfl rfl rfl qd_X1_part ⟨Nat.le_of_ble_eq_true rfl, Nat.le_of_ble_eq_true rfl⟩) rfl hl.1 rfl (Nat.le_of_ble_eq_true rfl) dX10_first_99 ⟨Nat.zero_le _, Nat.zero_le _⟩ ?_
            exact W.lret (v := o30) hx hb hr (fun t ht hW => ⟨_, rfl, Option.some.inj h, ht⟩) (fun q hq => by cases hq) dX10_first_102
          · replace h := (if_neg c21).symm.trans h
            refine lv_bipush (v := (-3)) hx hb dX10_first_43 (by decide) ?_
            obtain ⟨o32, eq33, h⟩ := bnd_some h
            refine kPl (rest := []) ⟨hx, hb, hml, hown, hts⟩ (c_X10_refusal l (-3) eq33) (va_cwS 1 hts (gAS wm_500 wm_501 wm_2 wm_502) rfl rfl rfl qd_X10_refusal ⟨Nat.le_of_ble_eq_true rfl, Nat.le_of_ble_eq_true rfl⟩) rfl hl.1 rfl (Nat.le_of_ble_eq_true rfl) dX10_first_45 ⟨Nat.zero_le _, Nat.zero_le _⟩ ?_
            exact W.lret (v := o32) hx hb hr (fun t ht hW => ⟨_, rfl, Option.some.inj h, ht⟩) (fun q hq => by cases hq) dX10_first_48
      · replace h := (if_pos c13).symm.trans h
        refine lv_bipush (v := (-2)) hx hb dX10_first_21 (by decide) ?_
        obtain ⟨o34, eq35, h⟩ := bnd_some h
        refine kPl (rest := []) ⟨hx, hb, hml, hown, hts⟩ (c_X10_refusal l (-2) eq35) (va_cwS 1 hts (gAS wm_500 wm_501 wm_2 wm_502) rfl rfl rfl qd_X10_refusal ⟨Nat.le_of_ble_eq_true rfl, Nat.le_of_ble_eq_true rfl⟩) rfl hl.1 rfl (Nat.le_of_ble_eq_true rfl) dX10_first_23 ⟨Nat.zero_le _, Nat.zero_le _⟩ ?_
        exact W.lret (v := o34) hx hb hr (fun t ht hW => ⟨_, rfl, Option.some.inj h, ht⟩) (fun q hq => by cases hq) dX10_first_26
set_option maxHeartbeats 4000000 in
set_option maxRecDepth 100000 in
theorem c_X10_first {N : Nat} (l : Launch) (D : va_G) (k : Nat → ClassId) (a : Nat → Nat) (xLen : Nat → Int32) (xHits : Nat → Int32) (xUns : Nat → Int32) (xItems : Nat → Nat → Int32) (xLost : Nat → Int32) (xKind : Nat → Int32) (xSize : Nat → Int32) (xLet : Nat → Int32) (xRel : Nat → Int32) (xLim : Nat → Int32) (xOpen : Nat → Int32) (xMeas : Nat → Int32) (xSL : Int32) (xST : Int32) (xSD : Int32) (xSK : Int32) (xTal : Nat → Nat → Int32) (xKn : Nat → Int32) (xFT : Nat → Int32) (xFA : Int32) (xFE : Int32) (xOdds : Int32) (xPat : Int32) (xFind : Int32) (x1 : Int32) (x2 : Int32) (x3 : Int32) {o : Int64} (h : f_X10_first N x1 x2 x3 xOdds = some o) : mRl l yX10_first wo_X10_first 3 D k [.ref (a 0), .int x1, .int x2, .int x3] (wX k a xLen xHits xUns xItems xLost xKind xSize xLet xRel xLim xOpen xMeas xSL xST xSD xSK xTal xKn xFT xFA xFE xOdds xPat xFind) o := by
  refine Met.ofW (cc := cX10_first) (maxL := 8) (ret := some .long) (by decide) rfl ?_
  intro p e s m args below meth c s₁ B hml hv
  obtain ⟨rfl, hP, hK⟩ := hv
  rw [lg_entry_eq]
  exact core_X10_first D k a xLen xHits xUns xItems xLost xKind xSize xLet xRel xLim xOpen xMeas xSL xST xSD xSK xTal xKn xFT xFA xFE xOdds xPat xFind x1 x2 x3 B.exec B.bytes hml B.returns (atoms_spec (ws := wo_X10_first) B.pre) (findClass_of_methodNamed B.named) B.notSynchronized (lv_entry [.ref (a 0), .int x1, .int x2, .int x3] (n := 8) (Nat.le_of_ble_eq_true rfl)) hK hP h
theorem qd_X10_first : yX10_first.cls = RX10 ∧ yX10_first.cls ≠ "java/lang/invoke/MethodHandle" ∧ yX10_first.cls ≠ "java/lang/invoke/VarHandle" ∧ (parseMethodDescriptor yX10_first.desc).map (fun d => d.parameters.length) = some 3 := by decide +kernel
abbrev wo_X10_agree : List Cond := .code yX10_agree cX10_agree 11 (some .int) :: wsL_law
set_option maxHeartbeats 4000000 in
set_option maxRecDepth 100000 in
theorem core_X10_agree {N : Nat} (D : va_G) (k : Nat → ClassId) (a : Nat → Nat) (xLen : Nat → Int32) (xHits : Nat → Int32) (xUns : Nat → Int32) (xItems : Nat → Nat → Int32) (xLost : Nat → Int32) (xKind : Nat → Int32) (xSize : Nat → Int32) (xLet : Nat → Int32) (xRel : Nat → Int32) (xLim : Nat → Int32) (xOpen : Nat → Int32) (xMeas : Nat → Int32) (xSL : Int32) (xST : Int32) (xSD : Int32) (xSK : Int32) (xTal : Nat → Nat → Int32) (xKn : Nat → Int32) (xFT : Nat → Int32) (xFA : Int32) (xFE : Int32) (xOdds : Int32) (xPat : Int32) (xFind : Int32) (x1 : Int32) (x2 : Int32) (x3 : Int32) {p : Program} {l : Launch} {e : Env} {s : State} {m : MethodId} {args : Array Value} {below : List Frame} {meth : Method} {c : Code} {ls : Array Slot} (hx : p.tables.exec = Jvm.exec) (hb : c.code = cX10_agree) (hml : c.maxLocals = 11) (hr : meth.sig.returnType = some .int) (hts : ∀ w ∈ wo_X10_agree, w.before args s = true) (hown : s.vm.findClass RX10 = some m.cls) (hlocks : meth.locks = false) (hl : lv_has ls 11 [(0, .ref (a 0)), (1, .int x1), (2, .int x2), (3, .int x3)]) (hK : va_K D vwCl (xTys k) s) (hP : va_P D vwCl (wX k a xLen xHits xUns xItems xLost xKind xSize xLet xRel xLim xOpen xMeas xSL xST xSD xSK xTal xKn xFT xFA xFE xOdds xPat xFind) s.heap) {o : Int32} (h : f_X10_agree N x1 x2 x3 xLen xHits xUns = some o) : gRi p l e wo_X10_agree 2 s m args below meth c o (F0 m 0 ls []) := by
  have hi5 := (fun w h => List.mem_cons_of_mem _ (inlX5 w h) : ∀ w ∈ wsX50, w ∈ wo_X10_agree)
  have kf119 := hts _ (List.mem_cons_of_mem _ wm_200)
  have hi10 := (fun w h => List.mem_cons_of_mem _ (inlX10 w h) : ∀ w ∈ wsX100, w ∈ wo_X10_agree)
  have kf11 := hts _ (List.mem_cons_of_mem _ wm_13)
  have kf69 := hts _ (List.mem_cons_of_mem _ wm_91)
  unfold f_X10_agree at h
  have L126 : ∀ (n126 : Nat) (e4 : Nat) (x6 : Int32) (x7 : Int32) (x8 : Int32) (x9 : Int32) (x10 : Int32) (ls : Array Slot) (he4 : e4 < 4) (hl : lv_has ls 11 [(4, .ref (a (14 + e4))), (6, .int x6), (7, .int x7), (8, .int x8), (9, .int x9), (10, .int x10)]) (h : f_X10_agree_126 N n126 e4 x6 x7 x8 x9 x10 xLen xHits xUns = some o), gRi p l e wo_X10_agree 2 s m args below meth c o (F0 m 126 ls []) := by
    intro n126
    induction n126 with
    | zero => intro e4 x6 x7 x8 x9 x10 ls he4 hl h; cases (show (none : Option (Int32)) = some o from h)
    | succ n126 ih126 =>
      have J152 : ∀ (e4 : Nat) (x6 : Int32) (x7 : Int32) (x8 : Int32) (x9 : Int32) (x10 : Int32) (ls : Array Slot) (he4 : e4 < 4) (hl : lv_has ls 11 [(4, .ref (a (14 + e4))), (6, .int x6), (7, .int x7), (8, .int x8), (9, .int x9), (10, .int x10)]) (h : f_X10_agree_152 N (fun y0 y1 y2 y3 y4 y5 y6 y7 y8 => f_X10_agree_126 N n126 y0 y1 y2 y3 y4 y5 y6 y7 y8) e4 x6 x7 x8 x9 x10 xLen xHits xUns = some o), gRi p l e wo_X10_agree 2 s m args below meth c o (F0 m 152 ls []) := by
        intro e4 x6 x7 x8 x9 x10 ls he4 hl h
        unfold f_X10_agree_152 at h
        refine lv_iload hx hb dX10_agree_152 (lv_at hl 3 rfl) ?_
        obtain ⟨o1, eq2, h⟩ := bnd_some h
        refine kPi (rest := []) ⟨hx, hb, hml, hown, hts⟩ (c_X2_after l x8 eq2) (va_cwS 1 hts (gAS wm_600 wm_601 wm_592 wm_602) rfl rfl rfl qd_X2_after ⟨Nat.le_of_ble_eq_true rfl, Nat.le_of_ble_eq_true rfl⟩) rfl hl.1 rfl (Nat.le_of_ble_eq_true rfl) dX10_agree_154 ⟨Nat.zero_le _, Nat.zero_le _⟩ ?_
        refine lv_istore (lv' := [(8, .int o1), (4, .ref (a (14 + e4))), (6, .int x6), (7, .int x7), (9, .int x9), (10, .int x10)]) hx hb dX10_agree_157 hl (by decide) rfl (fun ls hl => ?_)
        refine lv_iinc (v := (x10 + 1)) (lv' := [(10, .int (x10 + 1)), (8, .int o1), (4, .ref (a (14 + e4))), (6, .int x6), (7, .int x7), (9, .int x9)]) hx hb dX10_agree_159 hl (k := 5) rfl rfl (by decide) rfl (fun ls hl => ?_)
        refine lv_goto (tgt := 126) hx hb dX10_agree_162 (by decide) ?_
        exact ih126 e4 x6 x7 o1 x9 (x10 + 1) ls he4 (lv_sub hl [2, 3, 4, 1, 5, 0] rfl) h
      intro e4 x6 x7 x8 x9 x10 ls he4 hl h
      rw [f_X10_agree_126] at h
      refine lv_iload hx hb dX10_agree_126 (lv_at hl 5 rfl) ?_
      refine lv_iload hx hb dX10_agree_128 (lv_at hl 2 rfl) ?_
      refine lv_icmp_ge (tgt := 165) hx hb dX10_agree_130 (by decide) (fun c3 => ?_) (fun c3 => ?_)
      · replace h := (if_pos c3).symm.trans h
        refine lv_iload hx hb dX10_agree_165 (lv_at hl 4 rfl) ?_
        refine lv_iload hx hb dX10_agree_167 (lv_at hl 2 rfl) ?_
        obtain ⟨o4, eq5, h⟩ := bnd_some h
        refine kPi (rest := []) ⟨hx, hb, hml, hown, hts⟩ (c_X10_millionths l x9 x7 eq5) (va_cwS 2 hts (gAS wm_603 wm_604 wm_2 wm_605) rfl rfl rfl qd_X10_millionths ⟨Nat.le_of_ble_eq_true rfl, Nat.le_of_ble_eq_true rfl⟩) rfl hl.1 rfl (Nat.le_of_ble_eq_true rfl) dX10_agree_169 ⟨Nat.zero_le _, Nat.zero_le _⟩ ?_
        exact W.iret (v := o4) hx hb hr (fun t ht hW => ⟨_, rfl, Option.some.inj h, ht⟩) (fun q hq => by cases hq) dX10_agree_172
      · replace h := (if_neg c3).symm.trans h
        refine lv_aload hx hb dX10_agree_133 (lv_at hl 0 rfl) ?_
        refine va_get (D := D) (ci := 1) (v := .int (xHits e4)) (C := RX5) (T := TX5) (N := 3) hx hb hts hi5 hown hK hP ((14 + e4)) (wX_row he4) rfl 1 (by decide) kf119 (fun _ h9 => h9) rfl dX10_agree_135 ?_
        refine lv_iload hx hb dX10_agree_138 (lv_at hl 3 rfl) ?_
        refine lv_ixor hx hb dX10_agree_140 ?_
        obtain ⟨o6, eq7, h⟩ := bnd_some h
        refine kPi (rest := []) ⟨hx, hb, hml, hown, hts⟩ (c_J6_bitCount_0f7a4 l ((xHits e4) ^^^ x8) eq7) (va_cwS 1 hts (gAS wm_539 wm_210 wm_211 wm_212) rfl rfl rfl qd_J6_bitCount_0f7a4 ⟨Nat.le_of_ble_eq_true rfl, Nat.le_of_ble_eq_true rfl⟩) rfl hl.1 rfl (Nat.le_of_ble_eq_true rfl) dX10_agree_141 ⟨Nat.zero_le _, Nat.zero_le _⟩ ?_
        refine lv_iload hx hb dX10_agree_144 (lv_at hl 1 rfl) ?_
        refine lv_icmp_gt (tgt := 152) hx hb dX10_agree_146 (by decide) (fun c8 => ?_) (fun c8 => ?_)
        · replace h := (if_pos c8).symm.trans h
          exact J152 e4 x6 x7 x8 x9 x10 ls he4 (lv_sub hl [0, 1, 2, 3, 4, 5] rfl) h
        · replace h := (if_neg c8).symm.trans h
          refine lv_iinc (v := (x9 + 1)) (lv' := [(9, .int (x9 + 1)), (4, .ref (a (14 + e4))), (6, .int x6), (7, .int x7), (8, .int x8), (10, .int x10)]) hx hb dX10_agree_149 hl (k := 4) rfl rfl (by decide) rfl (fun ls hl => ?_)
          exact J152 e4 x6 x7 x8 (x9 + 1) x10 ls he4 (lv_sub hl [1, 2, 3, 4, 0, 5] rfl) h
  refine lv_iload_n hx hb dX10_agree_0 rfl (lv_at hl 1 rfl) ?_
  obtain ⟨o9, eq10, h⟩ := bnd_some h
  refine kPi (rest := []) ⟨hx, hb, hml, hown, hts⟩ (c_X10_isRow l x1 eq10) (va_cwS 1 hts (gAS wm_92 wm_93 wm_2 wm_94) rfl rfl rfl qd_X10_isRow ⟨Nat.le_of_ble_eq_true rfl, Nat.le_of_ble_eq_true rfl⟩) rfl hl.1 rfl (Nat.le_of_ble_eq_true rfl) dX10_agree_1 ⟨Nat.zero_le _, Nat.zero_le _⟩ ?_
  refine lv_if_eq (tgt := 26) hx hb dX10_agree_4 (by decide) (fun c11 => ?_) (fun c11 => ?_)
  · replace h := (if_pos c11).symm.trans h
    refine lv_bipush (v := (-2)) hx hb dX10_agree_26 (by decide) ?_
    exact W.iret (v := (-2)) hx hb hr (fun t ht hW => ⟨_, rfl, Option.some.inj h, ht⟩) (fun q hq => by cases hq) dX10_agree_28
  · replace h := (if_neg c11).symm.trans h
    refine lv_iload_n hx hb dX10_agree_7 rfl (lv_at hl 2 rfl) ?_
    obtain ⟨o12, eq13, h⟩ := bnd_some h
    refine kPi (rest := []) ⟨hx, hb, hml, hown, hts⟩ (c_X10_isRow l x2 eq13) (va_cwS 1 hts (gAS wm_92 wm_93 wm_2 wm_94) rfl rfl rfl qd_X10_isRow ⟨Nat.le_of_ble_eq_true rfl, Nat.le_of_ble_eq_true rfl⟩) rfl hl.1 rfl (Nat.le_of_ble_eq_true rfl) dX10_agree_8 ⟨Nat.zero_le _, Nat.zero_le _⟩ ?_
    refine lv_if_eq (tgt := 26) hx hb dX10_agree_11 (by decide) (fun c14 => ?_) (fun c14 => ?_)
    · replace h := (if_pos c14).symm.trans h
      refine lv_bipush (v := (-2)) hx hb dX10_agree_26 (by decide) ?_
      exact W.iret (v := (-2)) hx hb hr (fun t ht hW => ⟨_, rfl, Option.some.inj h, ht⟩) (fun q hq => by cases hq) dX10_agree_28
    · replace h := (if_neg c14).symm.trans h
      refine lv_iload_n hx hb dX10_agree_14 rfl (lv_at hl 1 rfl) ?_
      refine lv_iload_n hx hb dX10_agree_15 rfl (lv_at hl 2 rfl) ?_
      refine lv_icmp_eq (tgt := 26) hx hb dX10_agree_16 (by decide) (fun c15 => ?_) (fun c15 => ?_)
      · replace h := (if_pos c15).symm.trans h
        refine lv_bipush (v := (-2)) hx hb dX10_agree_26 (by decide) ?_
        exact W.iret (v := (-2)) hx hb hr (fun t ht hW => ⟨_, rfl, Option.some.inj h, ht⟩) (fun q hq => by cases hq) dX10_agree_28
      · replace h := (if_neg c15).symm.trans h
        refine lv_iload_n hx hb dX10_agree_19 rfl (lv_at hl 3 rfl) ?_
        obtain ⟨o16, eq17, h⟩ := bnd_some h
        refine kPi (rest := []) ⟨hx, hb, hml, hown, hts⟩ (c_X10_isPart l x3 eq17) (va_cwS 1 hts (gAS wm_497 wm_498 wm_2 wm_499) rfl rfl rfl qd_X10_isPart ⟨Nat.le_of_ble_eq_true rfl, Nat.le_of_ble_eq_true rfl⟩) rfl hl.1 rfl (Nat.le_of_ble_eq_true rfl) dX10_agree_20 ⟨Nat.zero_le _, Nat.zero_le _⟩ ?_
        refine lv_if_ne (tgt := 29) hx hb dX10_agree_23 (by decide) (fun c18 => ?_) (fun c18 => ?_)
        · replace h := (if_neg c18).symm.trans h
          refine lv_aload_n hx hb dX10_agree_29 rfl (lv_at hl 0 rfl) ?_
          refine va_get (D := D) (ci := 5) (v := .ref (a 1)) (C := RX10) (T := TX10) (N := 8) hx hb hts hi10 hown hK hP (0) (rfl) rfl 0 (by decide) kf11 (fun _ h9 => h9) rfl dX10_agree_30 ?_
          refine lv_iload_n hx hb dX10_agree_33 rfl (lv_at hl 1 rfl) ?_
          obtain ⟨g19, h⟩ := gIn_some h
          refine va_aldq hx hb hK hP (1) 2 rfl rfl g19 dX10_agree_34 ?_
          refine W.eq (g2 := F0 m 35 ls [.ref (a (14 + x1.toNatClampNeg))]) rfl ?_
          refine lv_astore (lv' := [(4, .ref (a (14 + x1.toNatClampNeg))), (0, .ref (a 0)), (1, .int x1), (2, .int x2), (3, .int x3)]) hx hb dX10_agree_35 hl (by decide) rfl (fun ls hl => ?_)
          refine lv_aload_n hx hb dX10_agree_37 rfl (lv_at hl 1 rfl) ?_
          refine va_get (D := D) (ci := 5) (v := .ref (a 1)) (C := RX10) (T := TX10) (N := 8) hx hb hts hi10 hown hK hP (0) (rfl) rfl 0 (by decide) kf11 (fun _ h9 => h9) rfl dX10_agree_38 ?_
          refine lv_iload_n hx hb dX10_agree_41 rfl (lv_at hl 3 rfl) ?_
          obtain ⟨g20, h⟩ := gIn_some h
          refine va_aldq hx hb hK hP (1) 2 rfl rfl g20 dX10_agree_42 ?_
          refine W.eq (g2 := F0 m 43 ls [.ref (a (14 + x2.toNatClampNeg))]) rfl ?_
          refine lv_astore (lv' := [(5, .ref (a (14 + x2.toNatClampNeg))), (4, .ref (a (14 + x1.toNatClampNeg))), (0, .ref (a 0)), (1, .int x1), (2, .int x2), (3, .int x3)]) hx hb dX10_agree_43 hl (by decide) rfl (fun ls hl => ?_)
          refine lv_aload hx hb dX10_agree_45 (lv_at hl 1 rfl) ?_
          obtain ⟨o21, eq22, h⟩ := bnd_some h
          refine kRiV (rest := []) (q0 := (14 + x1.toNatClampNeg)) ⟨hx, hb, hml, hown, hts⟩ (c_X5_isWhole l D k a xLen xHits xUns xItems xLost xKind xSize xLet xRel xLim xOpen xMeas xSL xST xSD xSK xTal xKn xFT xFA xFE xOdds xPat xFind x1.toNatClampNeg (vp_in_lt g19) eq22) (cwV 0 hts (gAV wm_192 wm_193 wm_194 wm_15 wm_195) rfl rfl rfl qd_X5_isWhole ⟨Nat.le_of_ble_eq_true rfl, Nat.le_of_ble_eq_true rfl⟩) hK hP (wX_row (vp_in_lt g19)) rfl rfl hl.1 rfl (Nat.le_of_ble_eq_true rfl) dX10_agree_47 ⟨Nat.zero_le _, Nat.zero_le _⟩ ?_
          refine lv_if_eq (tgt := 74) hx hb dX10_agree_50 (by decide) (fun c23 => ?_) (fun c23 => ?_)
          · replace h := (if_pos c23).symm.trans h
            refine lv_bipush (v := (-3)) hx hb dX10_agree_74 (by decide) ?_
            exact W.iret (v := (-3)) hx hb hr (fun t ht hW => ⟨_, rfl, Option.some.inj h, ht⟩) (fun q hq => by cases hq) dX10_agree_76
          · replace h := (if_neg c23).symm.trans h
            refine lv_aload hx hb dX10_agree_53 (lv_at hl 0 rfl) ?_
            obtain ⟨o24, eq25, h⟩ := bnd_some h
            refine kRiV (rest := []) (q0 := (14 + x2.toNatClampNeg)) ⟨hx, hb, hml, hown, hts⟩ (c_X5_isWhole l D k a xLen xHits xUns xItems xLost xKind xSize xLet xRel xLim xOpen xMeas xSL xST xSD xSK xTal xKn xFT xFA xFE xOdds xPat xFind x2.toNatClampNeg (vp_in_lt g20) eq25) (cwV 0 hts (gAV wm_192 wm_193 wm_194 wm_15 wm_195) rfl rfl rfl qd_X5_isWhole ⟨Nat.le_of_ble_eq_true rfl, Nat.le_of_ble_eq_true rfl⟩) hK hP (wX_row (vp_in_lt g20)) rfl rfl hl.1 rfl (Nat.le_of_ble_eq_true rfl) dX10_agree_55 ⟨Nat.zero_le _, Nat.zero_le _⟩ ?_
            refine lv_if_eq (tgt := 74) hx hb dX10_agree_58 (by decide) (fun c26 => ?_) (fun c26 => ?_)
            · replace h := (if_pos c26).symm.trans h
              refine lv_bipush (v := (-3)) hx hb dX10_agree_74 (by decide) ?_
              exact W.iret (v := (-3)) hx hb hr (fun t ht hW => ⟨_, rfl, Option.some.inj h, ht⟩) (fun q hq => by cases hq) dX10_agree_76
            · replace h := (if_neg c26).symm.trans h
              refine lv_aload hx hb dX10_agree_61 (lv_at hl 1 rfl) ?_
              refine va_get (D := D) (ci := 1) (v := .int (xLen x1.toNatClampNeg)) (C := RX5) (T := TX5) (N := 3) hx hb hts hi5 hown hK hP ((14 + x1.toNatClampNeg)) (wX_row (vp_in_lt g19)) rfl 0 (by decide) kf69 (fun _ h9 => h9) rfl dX10_agree_63 ?_
              refine lv_aload hx hb dX10_agree_66 (lv_at hl 0 rfl) ?_
              refine va_get (D := D) (ci := 1) (v := .int (xLen x2.toNatClampNeg)) (C := RX5) (T := TX5) (N := 3) hx hb hts hi5 hown hK hP ((14 + x2.toNatClampNeg)) (wX_row (vp_in_lt g20)) rfl 0 (by decide) kf69 (fun _ h9 => h9) rfl dX10_agree_68 ?_
              refine lv_icmp_eq (tgt := 77) hx hb dX10_agree_71 (by decide) (fun c27 => ?_) (fun c27 => ?_)
              · replace h := (if_pos c27).symm.trans h
                refine lv_aload hx hb dX10_agree_77 (lv_at hl 1 rfl) ?_
                refine va_get (D := D) (ci := 1) (v := .int (xHits x1.toNatClampNeg)) (C := RX5) (T := TX5) (N := 3) hx hb hts hi5 hown hK hP ((14 + x1.toNatClampNeg)) (wX_row (vp_in_lt g19)) rfl 1 (by decide) kf119 (fun _ h9 => h9) rfl dX10_agree_79 ?_
                refine lv_aload hx hb dX10_agree_82 (lv_at hl 0 rfl) ?_
                refine va_get (D := D) (ci := 1) (v := .int (xHits x2.toNatClampNeg)) (C := RX5) (T := TX5) (N := 3) hx hb hts hi5 hown hK hP ((14 + x2.toNatClampNeg)) (wX_row (vp_in_lt g20)) rfl 1 (by decide) kf119 (fun _ h9 => h9) rfl dX10_agree_84 ?_
                refine lv_ixor hx hb dX10_agree_87 ?_
                obtain ⟨o28, eq29, h⟩ := bnd_some h
                refine kPi (rest := []) ⟨hx, hb, hml, hown, hts⟩ (c_J6_bitCount_0f7a4 l ((xHits x1.toNatClampNeg) ^^^ (xHits x2.toNatClampNeg)) eq29) (va_cwS 1 hts (gAS wm_539 wm_210 wm_211 wm_212) rfl rfl rfl qd_J6_bitCount_0f7a4 ⟨Nat.le_of_ble_eq_true rfl, Nat.le_of_ble_eq_true rfl⟩) rfl hl.1 rfl (Nat.le_of_ble_eq_true rfl) dX10_agree_88 ⟨Nat.zero_le _, Nat.zero_le _⟩ ?_
                refine lv_istore (lv' := [(6, .int o28), (5, .ref (a (14 + x2.toNatClampNeg))), (4, .ref (a (14 + x1.toNatClampNeg))), (0, .ref (a 0)), (1, .int x1), (2, .int x2), (3, .int x3)]) hx hb dX10_agree_91 hl (by decide) rfl (fun ls hl => ?_)
                refine lv_iload_n hx hb dX10_agree_93 rfl (lv_at hl 6 rfl) ?_
                refine lv_if_ne (tgt := 106) hx hb dX10_agree_94 (by decide) (fun c30 => ?_) (fun c30 => ?_)
                · replace h := (if_neg c30).symm.trans h
                  refine lv_aload hx hb dX10_agree_106 (lv_at hl 1 rfl) ?_
                  obtain ⟨o31, eq32, h⟩ := bnd_some h
                  refine kRiS (rest := []) ⟨hx, hb, hml, hown, hts⟩ (c_X2_howMany l D k a xLen xHits xUns xItems xLost xKind xSize xLet xRel xLim xOpen xMeas xSL xST xSD xSK xTal xKn xFT xFA xFE xOdds xPat xFind x2.toNatClampNeg (vp_in_lt g20) eq32) (va_cwS 1 hts (gAS wm_590 wm_591 wm_592 wm_593) rfl rfl rfl qd_X2_howMany ⟨Nat.le_of_ble_eq_true rfl, Nat.le_of_ble_eq_true rfl⟩) hK hP rfl hl.1 rfl (Nat.le_of_ble_eq_true rfl) dX10_agree_108 ⟨Nat.zero_le _, Nat.zero_le _⟩ ?_
                  refine lv_istore (lv' := [(7, .int o31), (6, .int o28), (5, .ref (a (14 + x2.toNatClampNeg))), (4, .ref (a (14 + x1.toNatClampNeg))), (0, .ref (a 0)), (1, .int x1), (2, .int x2), (3, .int x3)]) hx hb dX10_agree_111 hl (by decide) rfl (fun ls hl => ?_)
                  refine lv_aload hx hb dX10_agree_113 (lv_at hl 2 rfl) ?_
                  obtain ⟨o33, eq34, h⟩ := bnd_some h
                  refine kRiS (rest := []) ⟨hx, hb, hml, hown, hts⟩ (c_X2_lowest l D k a xLen xHits xUns xItems xLost xKind xSize xLet xRel xLim xOpen xMeas xSL xST xSD xSK xTal xKn xFT xFA xFE xOdds xPat xFind x2.toNatClampNeg (vp_in_lt g20) eq34) (va_cwS 1 hts (gAS wm_597 wm_598 wm_592 wm_599) rfl rfl rfl qd_X2_lowest ⟨Nat.le_of_ble_eq_true rfl, Nat.le_of_ble_eq_true rfl⟩) hK hP rfl hl.1 rfl (Nat.le_of_ble_eq_true rfl) dX10_agree_115 ⟨Nat.zero_le _, Nat.zero_le _⟩ ?_
                  refine lv_istore (lv' := [(8, .int o33), (7, .int o31), (6, .int o28), (5, .ref (a (14 + x2.toNatClampNeg))), (4, .ref (a (14 + x1.toNatClampNeg))), (0, .ref (a 0)), (1, .int x1), (2, .int x2), (3, .int x3)]) hx hb dX10_agree_118 hl (by decide) rfl (fun ls hl => ?_)
                  refine lv_iconst (v := 0) hx hb dX10_agree_120 (by decide) ?_
                  refine lv_istore (lv' := [(9, .int 0), (8, .int o33), (7, .int o31), (6, .int o28), (5, .ref (a (14 + x2.toNatClampNeg))), (4, .ref (a (14 + x1.toNatClampNeg))), (0, .ref (a 0)), (1, .int x1), (2, .int x2), (3, .int x3)]) hx hb dX10_agree_121 hl (by decide) rfl (fun ls hl => ?_)
                  refine lv_iconst (v := 0) hx hb dX10_agree_123 (by decide) ?_
                  refine lv_istore (lv' := [(10, .int 0), (9, .int 0), (8, .int o33), (7, .int o31), (6, .int o28), (5, .ref (a (14 + x2.toNatClampNeg))), (4, .ref (a (14 + x1.toNatClampNeg))), (0, .ref (a 0)), (1, .int x1), (2, .int x2), (3, .int x3)]) hx hb dX10_agree_124 hl (by decide) rfl (fun ls hl => ?_)
                  exact L126 N x1.toNatClampNeg o28 o31 o33 0 0 ls (vp_in_lt g19) (lv_sub hl [6, 4, 3, 2, 1, 0] rfl) h
                · replace h := (if_pos c30).symm.trans h
                  refine lv_aload hx hb dX10_agree_97 (lv_at hl 2 rfl) ?_
                  refine va_get (D := D) (ci := 1) (v := .int (xLen x1.toNatClampNeg)) (C := RX5) (T := TX5) (N := 3) hx hb hts hi5 hown hK hP ((14 + x1.toNatClampNeg)) (wX_row (vp_in_lt g19)) rfl 0 (by decide) kf69 (fun _ h9 => h9) rfl dX10_agree_99 ?_
                  refine lv_iload hx hb dX10_agree_102 (lv_at hl 0 rfl) ?_
                  refine lv_isub hx hb dX10_agree_104 ?_
                  exact W.iret (v := ((xLen x1.toNatClampNeg) - o28)) hx hb hr (fun t ht hW => ⟨_, rfl, Option.some.inj h, ht⟩) (fun q hq => by cases hq) dX10_agree_105
              · replace h := (if_neg c27).symm.trans h
                refine lv_bipush (v := (-3)) hx hb dX10_agree_74 (by decide) ?_
                exact W.iret (v := (-3)) hx hb hr (fun t ht hW => ⟨_, rfl, Option.some.inj h, ht⟩) (fun q hq => by cases hq) dX10_agree_76
        · replace h := (if_pos c18).symm.trans h
          refine lv_bipush (v := (-2)) hx hb dX10_agree_26 (by decide) ?_
          exact W.iret (v := (-2)) hx hb hr (fun t ht hW => ⟨_, rfl, Option.some.inj h, ht⟩) (fun q hq => by cases hq) dX10_agree_28
set_option maxHeartbeats 4000000 in
set_option maxRecDepth 100000 in
theorem c_X10_agree {N : Nat} (l : Launch) (D : va_G) (k : Nat → ClassId) (a : Nat → Nat) (xLen : Nat → Int32) (xHits : Nat → Int32) (xUns : Nat → Int32) (xItems : Nat → Nat → Int32) (xLost : Nat → Int32) (xKind : Nat → Int32) (xSize : Nat → Int32) (xLet : Nat → Int32) (xRel : Nat → Int32) (xLim : Nat → Int32) (xOpen : Nat → Int32) (xMeas : Nat → Int32) (xSL : Int32) (xST : Int32) (xSD : Int32) (xSK : Int32) (xTal : Nat → Nat → Int32) (xKn : Nat → Int32) (xFT : Nat → Int32) (xFA : Int32) (xFE : Int32) (xOdds : Int32) (xPat : Int32) (xFind : Int32) (x1 : Int32) (x2 : Int32) (x3 : Int32) {o : Int32} (h : f_X10_agree N x1 x2 x3 xLen xHits xUns = some o) : mRi l yX10_agree wo_X10_agree 2 D k [.ref (a 0), .int x1, .int x2, .int x3] (wX k a xLen xHits xUns xItems xLost xKind xSize xLet xRel xLim xOpen xMeas xSL xST xSD xSK xTal xKn xFT xFA xFE xOdds xPat xFind) o := by
  refine Met.ofW (cc := cX10_agree) (maxL := 11) (ret := some .int) (by decide) rfl ?_
  intro p e s m args below meth c s₁ B hml hv
  obtain ⟨rfl, hP, hK⟩ := hv
  rw [lg_entry_eq]
  exact core_X10_agree D k a xLen xHits xUns xItems xLost xKind xSize xLet xRel xLim xOpen xMeas xSL xST xSD xSK xTal xKn xFT xFA xFE xOdds xPat xFind x1 x2 x3 B.exec B.bytes hml B.returns (atoms_spec (ws := wo_X10_agree) B.pre) (findClass_of_methodNamed B.named) B.notSynchronized (lv_entry [.ref (a 0), .int x1, .int x2, .int x3] (n := 11) (Nat.le_of_ble_eq_true rfl)) hK hP h
theorem qd_X10_agree : yX10_agree.cls = RX10 ∧ yX10_agree.cls ≠ "java/lang/invoke/MethodHandle" ∧ yX10_agree.cls ≠ "java/lang/invoke/VarHandle" ∧ (parseMethodDescriptor yX10_agree.desc).map (fun d => d.parameters.length) = some 3 := by decide +kernel
abbrev wo_X10_twice : List Cond := .code yX10_twice cX10_twice 7 (some .int) :: wsL_law
set_option maxHeartbeats 4000000 in
set_option maxRecDepth 100000 in
theorem core_X10_twice {N : Nat} (D : va_G) (k : Nat → ClassId) (a : Nat → Nat) (xLen : Nat → Int32) (xHits : Nat → Int32) (xUns : Nat → Int32) (xItems : Nat → Nat → Int32) (xLost : Nat → Int32) (xKind : Nat → Int32) (xSize : Nat → Int32) (xLet : Nat → Int32) (xRel : Nat → Int32) (xLim : Nat → Int32) (xOpen : Nat → Int32) (xMeas : Nat → Int32) (xSL : Int32) (xST : Int32) (xSD : Int32) (xSK : Int32) (xTal : Nat → Nat → Int32) (xKn : Nat → Int32) (xFT : Nat → Int32) (xFA : Int32) (xFE : Int32) (xOdds : Int32) (xPat : Int32) (xFind : Int32) (x1 : Int32) {p : Program} {l : Launch} {e : Env} {s : State} {m : MethodId} {args : Array Value} {below : List Frame} {meth : Method} {c : Code} {ls : Array Slot} (hx : p.tables.exec = Jvm.exec) (hb : c.code = cX10_twice) (hml : c.maxLocals = 7) (hr : meth.sig.returnType = some .int) (hts : ∀ w ∈ wo_X10_twice, w.before args s = true) (hown : s.vm.findClass RX10 = some m.cls) (hlocks : meth.locks = false) (hl : lv_has ls 7 [(0, .ref (a 0)), (1, .int x1)]) (hK : va_K D vwCl (xTys k) s) (hP : va_P D vwCl (wX k a xLen xHits xUns xItems xLost xKind xSize xLet xRel xLim xOpen xMeas xSL xST xSD xSK xTal xKn xFT xFA xFE xOdds xPat xFind) s.heap) {o : Int32} (h : f_X10_twice N x1 xLen xHits xUns = some o) : gRi p l e wo_X10_twice 1 s m args below meth c o (F0 m 0 ls []) := by
  have hi10 := (fun w h => List.mem_cons_of_mem _ (inlX10 w h) : ∀ w ∈ wsX100, w ∈ wo_X10_twice)
  have kf11 := hts _ (List.mem_cons_of_mem _ wm_13)
  have hi5 := (fun w h => List.mem_cons_of_mem _ (inlX5 w h) : ∀ w ∈ wsX50, w ∈ wo_X10_twice)
  have kf69 := hts _ (List.mem_cons_of_mem _ wm_91)
  have kf119 := hts _ (List.mem_cons_of_mem _ wm_200)
  unfold f_X10_twice at h
  refine lv_iload_n hx hb dX10_twice_0 rfl (lv_at hl 1 rfl) ?_
  obtain ⟨o1, eq2, h⟩ := bnd_some h
  refine kPi (rest := []) ⟨hx, hb, hml, hown, hts⟩ (c_X10_isRow l x1 eq2) (va_cwS 1 hts (gAS wm_92 wm_93 wm_2 wm_94) rfl rfl rfl qd_X10_isRow ⟨Nat.le_of_ble_eq_true rfl, Nat.le_of_ble_eq_true rfl⟩) rfl hl.1 rfl (Nat.le_of_ble_eq_true rfl) dX10_twice_1 ⟨Nat.zero_le _, Nat.zero_le _⟩ ?_
  refine lv_if_ne (tgt := 10) hx hb dX10_twice_4 (by decide) (fun c3 => ?_) (fun c3 => ?_)
  · replace h := (if_neg c3).symm.trans h
    refine lv_aload_n hx hb dX10_twice_10 rfl (lv_at hl 0 rfl) ?_
    refine va_get (D := D) (ci := 5) (v := .ref (a 1)) (C := RX10) (T := TX10) (N := 8) hx hb hts hi10 hown hK hP (0) (rfl) rfl 0 (by decide) kf11 (fun _ h9 => h9) rfl dX10_twice_11 ?_
    refine lv_iload_n hx hb dX10_twice_14 rfl (lv_at hl 1 rfl) ?_
    obtain ⟨g4, h⟩ := gIn_some h
    refine va_aldq hx hb hK hP (1) 2 rfl rfl g4 dX10_twice_15 ?_
    refine W.eq (g2 := F0 m 16 ls [.ref (a (14 + x1.toNatClampNeg))]) rfl ?_
    refine lv_astore_n (lv' := [(2, .ref (a (14 + x1.toNatClampNeg))), (0, .ref (a 0)), (1, .int x1)]) hx hb dX10_twice_16 rfl hl (by decide) rfl (fun ls hl => ?_)
    refine lv_aload_n hx hb dX10_twice_17 rfl (lv_at hl 0 rfl) ?_
    obtain ⟨o5, eq6, h⟩ := bnd_some h
    refine kRiV (rest := []) (q0 := (14 + x1.toNatClampNeg)) ⟨hx, hb, hml, hown, hts⟩ (c_X5_isWhole l D k a xLen xHits xUns xItems xLost xKind xSize xLet xRel xLim xOpen xMeas xSL xST xSD xSK xTal xKn xFT xFA xFE xOdds xPat xFind x1.toNatClampNeg (vp_in_lt g4) eq6) (cwV 0 hts (gAV wm_192 wm_193 wm_194 wm_15 wm_195) rfl rfl rfl qd_X5_isWhole ⟨Nat.le_of_ble_eq_true rfl, Nat.le_of_ble_eq_true rfl⟩) hK hP (wX_row (vp_in_lt g4)) rfl rfl hl.1 rfl (Nat.le_of_ble_eq_true rfl) dX10_twice_18 ⟨Nat.zero_le _, Nat.zero_le _⟩ ?_
    refine lv_if_ne (tgt := 27) hx hb dX10_twice_21 (by decide) (fun c7 => ?_) (fun c7 => ?_)
    · replace h := (if_neg c7).symm.trans h
      refine lv_aload_n hx hb dX10_twice_27 rfl (lv_at hl 0 rfl) ?_
      refine va_get (D := D) (ci := 1) (v := .int (xLen x1.toNatClampNeg)) (C := RX5) (T := TX5) (N := 3) hx hb hts hi5 hown hK hP ((14 + x1.toNatClampNeg)) (wX_row (vp_in_lt g4)) rfl 0 (by decide) kf69 (fun _ h9 => h9) rfl dX10_twice_28 ?_
      refine lv_if_eq (tgt := 43) hx hb dX10_twice_31 (by decide) (fun c8 => ?_) (fun c8 => ?_)
      · replace h := (if_pos c8).symm.trans h
        refine lv_iconst (v := 0) hx hb dX10_twice_43 (by decide) ?_
        exact W.iret (v := 0) hx hb hr (fun t ht hW => ⟨_, rfl, Option.some.inj h, ht⟩) (fun q hq => by cases hq) dX10_twice_44
      · replace h := (if_neg c8).symm.trans h
        refine lv_aload_n hx hb dX10_twice_34 rfl (lv_at hl 0 rfl) ?_
        refine va_get (D := D) (ci := 1) (v := .int (xLen x1.toNatClampNeg)) (C := RX5) (T := TX5) (N := 3) hx hb hts hi5 hown hK hP ((14 + x1.toNatClampNeg)) (wX_row (vp_in_lt g4)) rfl 0 (by decide) kf69 (fun _ h9 => h9) rfl dX10_twice_35 ?_
        refine lv_iconst (v := 2) hx hb dX10_twice_38 (by decide) ?_
        refine lv_irem hx hb dX10_twice_39 (by decide) ?_
        refine lv_if_eq (tgt := 45) hx hb dX10_twice_40 (by decide) (fun c9 => ?_) (fun c9 => ?_)
        · replace h := (if_pos c9).symm.trans h
          refine lv_aload_n hx hb dX10_twice_45 rfl (lv_at hl 0 rfl) ?_
          refine va_get (D := D) (ci := 1) (v := .int (xLen x1.toNatClampNeg)) (C := RX5) (T := TX5) (N := 3) hx hb hts hi5 hown hK hP ((14 + x1.toNatClampNeg)) (wX_row (vp_in_lt g4)) rfl 0 (by decide) kf69 (fun _ h9 => h9) rfl dX10_twice_46 ?_
          refine lv_iconst (v := 2) hx hb dX10_twice_49 (by decide) ?_
          refine lv_idiv hx hb dX10_twice_50 (by decide) ?_
          refine lv_istore_n (lv' := [(3, .int ((xLen x1.toNatClampNeg) / 2)), (2, .ref (a (14 + x1.toNatClampNeg))), (0, .ref (a 0)), (1, .int x1)]) hx hb dX10_twice_51 rfl hl (by decide) rfl (fun ls hl => ?_)
          refine lv_iconst (v := 1) hx hb dX10_twice_52 (by decide) ?_
          refine lv_iload_n hx hb dX10_twice_53 rfl (lv_at hl 0 rfl) ?_
          refine lv_ishl hx hb dX10_twice_54 ?_
          refine lv_iconst (v := 1) hx hb dX10_twice_55 (by decide) ?_
          refine lv_isub hx hb dX10_twice_56 ?_
          refine lv_istore (lv' := [(4, .int (((1 : Int32) <<< (((xLen x1.toNatClampNeg) / 2) &&& 31)) - 1)), (3, .int ((xLen x1.toNatClampNeg) / 2)), (2, .ref (a (14 + x1.toNatClampNeg))), (0, .ref (a 0)), (1, .int x1)]) hx hb dX10_twice_57 hl (by decide) rfl (fun ls hl => ?_)
          refine lv_aload_n hx hb dX10_twice_59 rfl (lv_at hl 2 rfl) ?_
          refine va_get (D := D) (ci := 1) (v := .int (xHits x1.toNatClampNeg)) (C := RX5) (T := TX5) (N := 3) hx hb hts hi5 hown hK hP ((14 + x1.toNatClampNeg)) (wX_row (vp_in_lt g4)) rfl 1 (by decide) kf119 (fun _ h9 => h9) rfl dX10_twice_60 ?_
          refine lv_iload_n hx hb dX10_twice_63 rfl (lv_at hl 1 rfl) ?_
          refine lv_ishr hx hb dX10_twice_64 ?_
          refine lv_istore (lv' := [(5, .int ((xHits x1.toNatClampNeg) >>> (((xLen x1.toNatClampNeg) / 2) &&& 31))), (4, .int (((1 : Int32) <<< (((xLen x1.toNatClampNeg) / 2) &&& 31)) - 1)), (3, .int ((xLen x1.toNatClampNeg) / 2)), (2, .ref (a (14 + x1.toNatClampNeg))), (0, .ref (a 0)), (1, .int x1)]) hx hb dX10_twice_65 hl (by decide) rfl (fun ls hl => ?_)
          refine lv_aload_n hx hb dX10_twice_67 rfl (lv_at hl 3 rfl) ?_
          refine va_get (D := D) (ci := 1) (v := .int (xHits x1.toNatClampNeg)) (C := RX5) (T := TX5) (N := 3) hx hb hts hi5 hown hK hP ((14 + x1.toNatClampNeg)) (wX_row (vp_in_lt g4)) rfl 1 (by decide) kf119 (fun _ h9 => h9) rfl dX10_twice_68 ?_
          refine lv_iload hx hb dX10_twice_71 (lv_at hl 1 rfl) ?_
          refine lv_iand hx hb dX10_twice_73 ?_
          refine lv_istore (lv' := [(6, .int ((xHits x1.toNatClampNeg) &&& (((1 : Int32) <<< (((xLen x1.toNatClampNeg) / 2) &&& 31)) - 1))), (5, .int ((xHits x1.toNatClampNeg) >>> (((xLen x1.toNatClampNeg) / 2) &&& 31))), (4, .int (((1 : Int32) <<< (((xLen x1.toNatClampNeg) / 2) &&& 31)) - 1)), (3, .int ((xLen x1.toNatClampNeg) / 2)), (2, .ref (a (14 + x1.toNatClampNeg))), (0, .ref (a 0)), (1, .int x1)]) hx hb dX10_twice_74 hl (by decide) rfl (fun ls hl => ?_)
          refine lv_iload hx hb dX10_twice_76 (lv_at hl 0 rfl) ?_
          refine lv_iload hx hb dX10_twice_78 (lv_at hl 1 rfl) ?_
          refine lv_icmp_ne (tgt := 85) hx hb dX10_twice_80 (by decide) (fun c10 => ?_) (fun c10 => ?_)
          · replace h := (if_neg c10).symm.trans h
            refine lv_iload hx hb dX10_twice_85 (lv_at hl 0 rfl) ?_
            refine lv_iload hx hb dX10_twice_87 (lv_at hl 1 rfl) ?_
            refine lv_iload hx hb dX10_twice_89 (lv_at hl 2 rfl) ?_
            refine lv_ixor hx hb dX10_twice_91 ?_
            refine lv_icmp_ne (tgt := 97) hx hb dX10_twice_92 (by decide) (fun c11 => ?_) (fun c11 => ?_)
            · replace h := (if_neg c11).symm.trans h
              refine lv_iload hx hb dX10_twice_97 (lv_at hl 0 rfl) ?_
              refine lv_iload hx hb dX10_twice_99 (lv_at hl 1 rfl) ?_
              refine lv_iload_n hx hb dX10_twice_101 rfl (lv_at hl 3 rfl) ?_
              obtain ⟨o12, eq13, h⟩ := bnd_some h
              refine kPi (rest := [.int ((xHits x1.toNatClampNeg) &&& (((1 : Int32) <<< (((xLen x1.toNatClampNeg) / 2) &&& 31)) - 1))]) ⟨hx, hb, hml, hown, hts⟩ (c_X10_backwards l ((xHits x1.toNatClampNeg) >>> (((xLen x1.toNatClampNeg) / 2) &&& 31)) ((xLen x1.toNatClampNeg) / 2) eq13) (va_cwS 2 hts (gAS wm_730 wm_731 wm_2 wm_732) rfl rfl rfl qd_X10_backwards ⟨Nat.le_of_ble_eq_true rfl, Nat.le_of_ble_eq_true rfl⟩) rfl hl.1 rfl (Nat.le_of_ble_eq_true rfl) dX10_twice_102 ⟨Nat.zero_le _, Nat.zero_le _⟩ ?_
              refine lv_icmp_ne (tgt := 112) hx hb dX10_twice_105 (by decide) (fun c14 => ?_) (fun c14 => ?_)
              · replace h := (if_neg c14).symm.trans h
                refine lv_iconst (v := 0) hx hb dX10_twice_112 (by decide) ?_
                exact W.iret (v := 0) hx hb hr (fun t ht hW => ⟨_, rfl, Option.some.inj h, ht⟩) (fun q hq => by cases hq) dX10_twice_113
              · replace h := (if_pos c14).symm.trans h
                refine lv_iconst (v := 3) hx hb dX10_twice_108 (by decide) ?_
                refine lv_goto (tgt := 113) hx hb dX10_twice_109 (by decide) ?_
                exact W.iret (v := 3) hx hb hr (fun t ht hW => ⟨_, rfl, Option.some.inj h, ht⟩) (fun q hq => by cases hq) dX10_twice_113
            · replace h := (if_pos c11).symm.trans h
              refine lv_iconst (v := 2) hx hb dX10_twice_95 (by decide) ?_
              exact W.iret (v := 2) hx hb hr (fun t ht hW => ⟨_, rfl, Option.some.inj h, ht⟩) (fun q hq => by cases hq) dX10_twice_96
          · replace h := (if_pos c10).symm.trans h
            refine lv_iconst (v := 1) hx hb dX10_twice_83 (by decide) ?_
            exact W.iret (v := 1) hx hb hr (fun t ht hW => ⟨_, rfl, Option.some.inj h, ht⟩) (fun q hq => by cases hq) dX10_twice_84
        · replace h := (if_neg c9).symm.trans h
          refine lv_iconst (v := 0) hx hb dX10_twice_43 (by decide) ?_
          exact W.iret (v := 0) hx hb hr (fun t ht hW => ⟨_, rfl, Option.some.inj h, ht⟩) (fun q hq => by cases hq) dX10_twice_44
    · replace h := (if_pos c7).symm.trans h
      refine lv_bipush (v := (-3)) hx hb dX10_twice_24 (by decide) ?_
      exact W.iret (v := (-3)) hx hb hr (fun t ht hW => ⟨_, rfl, Option.some.inj h, ht⟩) (fun q hq => by cases hq) dX10_twice_26
  · replace h := (if_pos c3).symm.trans h
    refine lv_bipush (v := (-2)) hx hb dX10_twice_7 (by decide) ?_
    exact W.iret (v := (-2)) hx hb hr (fun t ht hW => ⟨_, rfl, Option.some.inj h, ht⟩) (fun q hq => by cases hq) dX10_twice_9
set_option maxHeartbeats 4000000 in
set_option maxRecDepth 100000 in
theorem c_X10_twice {N : Nat} (l : Launch) (D : va_G) (k : Nat → ClassId) (a : Nat → Nat) (xLen : Nat → Int32) (xHits : Nat → Int32) (xUns : Nat → Int32) (xItems : Nat → Nat → Int32) (xLost : Nat → Int32) (xKind : Nat → Int32) (xSize : Nat → Int32) (xLet : Nat → Int32) (xRel : Nat → Int32) (xLim : Nat → Int32) (xOpen : Nat → Int32) (xMeas : Nat → Int32) (xSL : Int32) (xST : Int32) (xSD : Int32) (xSK : Int32) (xTal : Nat → Nat → Int32) (xKn : Nat → Int32) (xFT : Nat → Int32) (xFA : Int32) (xFE : Int32) (xOdds : Int32) (xPat : Int32) (xFind : Int32) (x1 : Int32) {o : Int32} (h : f_X10_twice N x1 xLen xHits xUns = some o) : mRi l yX10_twice wo_X10_twice 1 D k [.ref (a 0), .int x1] (wX k a xLen xHits xUns xItems xLost xKind xSize xLet xRel xLim xOpen xMeas xSL xST xSD xSK xTal xKn xFT xFA xFE xOdds xPat xFind) o := by
  refine Met.ofW (cc := cX10_twice) (maxL := 7) (ret := some .int) (by decide) rfl ?_
  intro p e s m args below meth c s₁ B hml hv
  obtain ⟨rfl, hP, hK⟩ := hv
  rw [lg_entry_eq]
  exact core_X10_twice D k a xLen xHits xUns xItems xLost xKind xSize xLet xRel xLim xOpen xMeas xSL xST xSD xSK xTal xKn xFT xFA xFE xOdds xPat xFind x1 B.exec B.bytes hml B.returns (atoms_spec (ws := wo_X10_twice) B.pre) (findClass_of_methodNamed B.named) B.notSynchronized (lv_entry [.ref (a 0), .int x1] (n := 7) (Nat.le_of_ble_eq_true rfl)) hK hP h
theorem qd_X10_twice : yX10_twice.cls = RX10 ∧ yX10_twice.cls ≠ "java/lang/invoke/MethodHandle" ∧ yX10_twice.cls ≠ "java/lang/invoke/VarHandle" ∧ (parseMethodDescriptor yX10_twice.desc).map (fun d => d.parameters.length) = some 1 := by decide +kernel
abbrev wo_X10_next : List Cond := .code yX10_next cX10_next 9 (some .int) :: wsL_law
set_option maxHeartbeats 4000000 in
set_option maxRecDepth 100000 in
theorem core_X10_next {N : Nat} (D : va_G) (k : Nat → ClassId) (a : Nat → Nat) (xLen : Nat → Int32) (xHits : Nat → Int32) (xUns : Nat → Int32) (xItems : Nat → Nat → Int32) (xLost : Nat → Int32) (xKind : Nat → Int32) (xSize : Nat → Int32) (xLet : Nat → Int32) (xRel : Nat → Int32) (xLim : Nat → Int32) (xOpen : Nat → Int32) (xMeas : Nat → Int32) (xSL : Int32) (xST : Int32) (xSD : Int32) (xSK : Int32) (xTal : Nat → Nat → Int32) (xKn : Nat → Int32) (xFT : Nat → Int32) (xFA : Int32) (xFE : Int32) (xOdds : Int32) (xPat : Int32) (xFind : Int32) (x1 : Int32) (x2 : Int32) (x3 : Int32) {p : Program} {l : Launch} {e : Env} {s : State} {m : MethodId} {args : Array Value} {below : List Frame} {meth : Method} {c : Code} {ls : Array Slot} (hx : p.tables.exec = Jvm.exec) (hb : c.code = cX10_next) (hml : c.maxLocals = 9) (hr : meth.sig.returnType = some .int) (hts : ∀ w ∈ wo_X10_next, w.before args s = true) (hown : s.vm.findClass RX10 = some m.cls) (hlocks : meth.locks = false) (hl : lv_has ls 9 [(0, .ref (a 0)), (1, .int x1), (2, .int x2), (3, .int x3)]) (hK : va_K D vwCl (xTys k) s) (hP : va_P D vwCl (wX k a xLen xHits xUns xItems xLost xKind xSize xLet xRel xLim xOpen xMeas xSL xST xSD xSK xTal xKn xFT xFA xFE xOdds xPat xFind) s.heap) {o : Int32} (h : f_X10_next N x1 x2 x3 xLen xHits xUns = some o) : gRi p l e wo_X10_next 2 s m args below meth c o (F0 m 0 ls []) := by
  have hi5 := (fun w h => List.mem_cons_of_mem _ (inlX5 w h) : ∀ w ∈ wsX50, w ∈ wo_X10_next)
  have kf69 := hts _ (List.mem_cons_of_mem _ wm_91)
  have hi10 := (fun w h => List.mem_cons_of_mem _ (inlX10 w h) : ∀ w ∈ wsX100, w ∈ wo_X10_next)
  have kf11 := hts _ (List.mem_cons_of_mem _ wm_13)
  have kf154 := hts _ (List.mem_cons_of_mem _ wm_537)
  unfold f_X10_next at h
  have L75 : ∀ (n75 : Nat) (x2 : Int32) (x3 : Int32) (e4 : Nat) (x6 : Int32) (x7 : Int32) (x8 : Int32) (ls : Array Slot) (he4 : e4 < 4) (hl : lv_has ls 9 [(2, .int x2), (3, .int x3), (4, .ref (a (14 + e4))), (6, .int x6), (7, .int x7), (8, .int x8)]) (h : f_X10_next_75 N n75 x2 x3 e4 x6 x7 x8 xLen xHits xUns = some o), gRi p l e wo_X10_next 2 s m args below meth c o (F0 m 75 ls []) := by
    intro n75
    induction n75 with
    | zero => intro x2 x3 e4 x6 x7 x8 ls he4 hl h; cases (show (none : Option (Int32)) = some o from h)
    | succ n75 ih75 =>
      have J111 : ∀ (x2 : Int32) (x3 : Int32) (e4 : Nat) (x6 : Int32) (x7 : Int32) (x8 : Int32) (ls : Array Slot) (he4 : e4 < 4) (hl : lv_has ls 9 [(2, .int x2), (3, .int x3), (4, .ref (a (14 + e4))), (6, .int x6), (7, .int x7), (8, .int x8)]) (h : f_X10_next_111 N (fun y0 y1 y2 y3 y4 y5 y6 y7 y8 => f_X10_next_75 N n75 y0 y1 y2 y3 y4 y5 y6 y7 y8) x2 x3 e4 x6 x7 x8 xLen xHits xUns = some o), gRi p l e wo_X10_next 2 s m args below meth c o (F0 m 111 ls []) := by
        intro x2 x3 e4 x6 x7 x8 ls he4 hl h
        unfold f_X10_next_111 at h
        refine lv_iinc (v := (x8 + 1)) (lv' := [(8, .int (x8 + 1)), (2, .int x2), (3, .int x3), (4, .ref (a (14 + e4))), (6, .int x6), (7, .int x7)]) hx hb dX10_next_111 hl (k := 5) rfl rfl (by decide) rfl (fun ls hl => ?_)
        refine lv_goto (tgt := 75) hx hb dX10_next_114 (by decide) ?_
        exact ih75 x2 x3 e4 x6 x7 (x8 + 1) ls he4 (lv_sub hl [1, 2, 3, 4, 5, 0] rfl) h
      intro x2 x3 e4 x6 x7 x8 ls he4 hl h
      rw [f_X10_next_75] at h
      refine lv_iload hx hb dX10_next_75 (lv_at hl 5 rfl) ?_
      refine lv_aload hx hb dX10_next_77 (lv_at hl 2 rfl) ?_
      refine va_get (D := D) (ci := 1) (v := .int (xLen e4)) (C := RX5) (T := TX5) (N := 3) hx hb hts hi5 hown hK hP ((14 + e4)) (wX_row he4) rfl 0 (by decide) kf69 (fun _ h9 => h9) rfl dX10_next_79 ?_
      refine lv_icmp_ge (tgt := 117) hx hb dX10_next_82 (by decide) (fun c1 => ?_) (fun c1 => ?_)
      · replace h := (if_pos c1).symm.trans h
        refine lv_iload_n hx hb dX10_next_117 rfl (lv_at hl 1 rfl) ?_
        refine lv_iconst (v := 2) hx hb dX10_next_118 (by decide) ?_
        refine lv_icmp_ge (tgt := 134) hx hb dX10_next_119 (by decide) (fun c2 => ?_) (fun c2 => ?_)
        · replace h := (if_pos c2).symm.trans h
          refine lv_iload hx hb dX10_next_134 (lv_at hl 3 rfl) ?_
          refine lv_iconst (v := 1) hx hb dX10_next_136 (by decide) ?_
          refine lv_iadd hx hb dX10_next_137 ?_
          refine lv_i2l (v := (x6 + 1).toInt64) hx hb dX10_next_138 rfl ?_
          refine lv_iload hx hb dX10_next_139 (lv_at hl 4 rfl) ?_
          refine lv_iconst (v := 2) hx hb dX10_next_141 (by decide) ?_
          refine lv_iadd hx hb dX10_next_142 ?_
          refine lv_i2l (v := (x7 + 2).toInt64) hx hb dX10_next_143 rfl ?_
          refine lv_iload_n hx hb dX10_next_144 rfl (lv_at hl 1 rfl) ?_
          refine lv_iconst (v := 2) hx hb dX10_next_145 (by decide) ?_
          refine lv_isub hx hb dX10_next_146 ?_
          obtain ⟨o3, eq4, h⟩ := bnd_some h
          refine kPl (rest := []) ⟨hx, hb, hml, hown, hts⟩ (c_X1_part l ((x6 + 1).toInt64) ((x7 + 2).toInt64) (x3 - 2) eq4) (va_cwS 3 hts (gAS wm_641 wm_513 wm_510 wm_514) rfl rfl rfl qd_X1_part ⟨Nat.le_of_ble_eq_true rfl, Nat.le_of_ble_eq_true rfl⟩) rfl hl.1 rfl (Nat.le_of_ble_eq_true rfl) dX10_next_147 ⟨Nat.zero_le _, Nat.zero_le _⟩ ?_
          refine lv_l2i (v := o3.toInt32) hx hb dX10_next_150 rfl ?_
          exact W.iret (v := o3.toInt32) hx hb hr (fun t ht hW => ⟨_, rfl, Option.some.inj h, ht⟩) (fun q hq => by cases hq) dX10_next_151
        · replace h := (if_neg c2).symm.trans h
          refine lv_iload_n hx hb dX10_next_122 rfl (lv_at hl 1 rfl) ?_
          refine lv_if_ne (tgt := 131) hx hb dX10_next_123 (by decide) (fun c5 => ?_) (fun c5 => ?_)
          · replace h := (if_neg c5).symm.trans h
            refine lv_iload hx hb dX10_next_131 (lv_at hl 4 rfl) ?_
            exact W.iret (v := x7) hx hb hr (fun t ht hW => ⟨_, rfl, Option.some.inj h, ht⟩) (fun q hq => by cases hq) dX10_next_133
          · replace h := (if_pos c5).symm.trans h
            refine lv_iload hx hb dX10_next_126 (lv_at hl 3 rfl) ?_
            refine lv_goto (tgt := 133) hx hb dX10_next_128 (by decide) ?_
            exact W.iret (v := x6) hx hb hr (fun t ht hW => ⟨_, rfl, Option.some.inj h, ht⟩) (fun q hq => by cases hq) dX10_next_133
      · replace h := (if_neg c1).symm.trans h
        refine lv_aload hx hb dX10_next_85 (lv_at hl 2 rfl) ?_
        refine lv_iload hx hb dX10_next_87 (lv_at hl 5 rfl) ?_
        refine lv_iload_n hx hb dX10_next_89 rfl (lv_at hl 0 rfl) ?_
        obtain ⟨o6, eq7, h⟩ := bnd_some h
        refine kRiV (rest := []) (q0 := (14 + e4)) ⟨hx, hb, hml, hown, hts⟩ (c_X5_isBehindItsEnd l D k a xLen xHits xUns xItems xLost xKind xSize xLet xRel xLim xOpen xMeas xSL xST xSD xSK xTal xKn xFT xFA xFE xOdds xPat xFind e4 he4 x8 x2 eq7) (cwV 2 hts (gAV wm_741 wm_742 wm_743 wm_15 wm_744) rfl rfl rfl qd_X5_isBehindItsEnd ⟨Nat.le_of_ble_eq_true rfl, Nat.le_of_ble_eq_true rfl⟩) hK hP (wX_row he4) rfl rfl hl.1 rfl (Nat.le_of_ble_eq_true rfl) dX10_next_90 ⟨Nat.zero_le _, Nat.zero_le _⟩ ?_
        refine lv_if_eq (tgt := 111) hx hb dX10_next_93 (by decide) (fun c8 => ?_) (fun c8 => ?_)
        · replace h := (if_pos c8).symm.trans h
          exact J111 x2 x3 e4 x6 x7 x8 ls he4 (lv_sub hl [0, 1, 2, 3, 4, 5] rfl) h
        · replace h := (if_neg c8).symm.trans h
          refine lv_iinc (v := (x7 + 1)) (lv' := [(7, .int (x7 + 1)), (2, .int x2), (3, .int x3), (4, .ref (a (14 + e4))), (6, .int x6), (8, .int x8)]) hx hb dX10_next_96 hl (k := 4) rfl rfl (by decide) rfl (fun ls hl => ?_)
          refine lv_iload hx hb dX10_next_99 (lv_at hl 4 rfl) ?_
          refine lv_aload hx hb dX10_next_101 (lv_at hl 3 rfl) ?_
          refine lv_iload hx hb dX10_next_103 (lv_at hl 5 rfl) ?_
          obtain ⟨o9, eq10, h⟩ := bnd_some h
          refine kRiV (rest := [.int x6]) (q0 := (14 + e4)) ⟨hx, hb, hml, hown, hts⟩ (c_X5_signAt l D k a xLen xHits xUns xItems xLost xKind xSize xLet xRel xLim xOpen xMeas xSL xST xSD xSK xTal xKn xFT xFA xFE xOdds xPat xFind e4 he4 x8 eq10) (cwV 1 hts (gAV wm_165 wm_166 wm_167 wm_15 wm_168) rfl rfl rfl qd_X5_signAt ⟨Nat.le_of_ble_eq_true rfl, Nat.le_of_ble_eq_true rfl⟩) hK hP (wX_row he4) rfl rfl hl.1 rfl (Nat.le_of_ble_eq_true rfl) dX10_next_105 ⟨Nat.zero_le _, Nat.zero_le _⟩ ?_
          refine lv_iadd hx hb dX10_next_108 ?_
          refine lv_istore (lv' := [(6, .int (x6 + o9)), (7, .int (x7 + 1)), (2, .int x2), (3, .int x3), (4, .ref (a (14 + e4))), (8, .int x8)]) hx hb dX10_next_109 hl (by decide) rfl (fun ls hl => ?_)
          exact J111 x2 x3 e4 (x6 + o9) (x7 + 1) x8 ls he4 (lv_sub hl [2, 3, 4, 0, 1, 5] rfl) h
  refine lv_iload_n hx hb dX10_next_0 rfl (lv_at hl 1 rfl) ?_
  obtain ⟨o11, eq12, h⟩ := bnd_some h
  refine kPi (rest := []) ⟨hx, hb, hml, hown, hts⟩ (c_X10_isRow l x1 eq12) (va_cwS 1 hts (gAS wm_92 wm_93 wm_2 wm_94) rfl rfl rfl qd_X10_isRow ⟨Nat.le_of_ble_eq_true rfl, Nat.le_of_ble_eq_true rfl⟩) rfl hl.1 rfl (Nat.le_of_ble_eq_true rfl) dX10_next_1 ⟨Nat.zero_le _, Nat.zero_le _⟩ ?_
  refine lv_if_eq (tgt := 25) hx hb dX10_next_4 (by decide) (fun c13 => ?_) (fun c13 => ?_)
  · replace h := (if_pos c13).symm.trans h
    refine lv_bipush (v := (-2)) hx hb dX10_next_25 (by decide) ?_
    exact W.iret (v := (-2)) hx hb hr (fun t ht hW => ⟨_, rfl, Option.some.inj h, ht⟩) (fun q hq => by cases hq) dX10_next_27
  · replace h := (if_neg c13).symm.trans h
    refine lv_iload_n hx hb dX10_next_7 rfl (lv_at hl 2 rfl) ?_
    refine lv_if_lt (tgt := 25) hx hb dX10_next_8 (by decide) (fun c14 => ?_) (fun c14 => ?_)
    · replace h := (if_pos c14).symm.trans h
      refine lv_bipush (v := (-2)) hx hb dX10_next_25 (by decide) ?_
      exact W.iret (v := (-2)) hx hb hr (fun t ht hW => ⟨_, rfl, Option.some.inj h, ht⟩) (fun q hq => by cases hq) dX10_next_27
    · replace h := (if_neg c14).symm.trans h
      refine lv_iload_n hx hb dX10_next_11 rfl (lv_at hl 2 rfl) ?_
      refine lv_iconst (v := 4) hx hb dX10_next_12 (by decide) ?_
      refine lv_icmp_gt (tgt := 25) hx hb dX10_next_13 (by decide) (fun c15 => ?_) (fun c15 => ?_)
      · replace h := (if_pos c15).symm.trans h
        refine lv_bipush (v := (-2)) hx hb dX10_next_25 (by decide) ?_
        exact W.iret (v := (-2)) hx hb hr (fun t ht hW => ⟨_, rfl, Option.some.inj h, ht⟩) (fun q hq => by cases hq) dX10_next_27
      · replace h := (if_neg c15).symm.trans h
        refine lv_iload_n hx hb dX10_next_16 rfl (lv_at hl 3 rfl) ?_
        refine lv_if_lt (tgt := 25) hx hb dX10_next_17 (by decide) (fun c16 => ?_) (fun c16 => ?_)
        · replace h := (if_pos c16).symm.trans h
          refine lv_bipush (v := (-2)) hx hb dX10_next_25 (by decide) ?_
          exact W.iret (v := (-2)) hx hb hr (fun t ht hW => ⟨_, rfl, Option.some.inj h, ht⟩) (fun q hq => by cases hq) dX10_next_27
        · replace h := (if_neg c16).symm.trans h
          refine lv_iload_n hx hb dX10_next_20 rfl (lv_at hl 3 rfl) ?_
          refine lv_iconst (v := 3) hx hb dX10_next_21 (by decide) ?_
          refine lv_icmp_le (tgt := 28) hx hb dX10_next_22 (by decide) (fun c17 => ?_) (fun c17 => ?_)
          · replace h := (if_pos c17).symm.trans h
            refine lv_aload_n hx hb dX10_next_28 rfl (lv_at hl 0 rfl) ?_
            refine va_get (D := D) (ci := 5) (v := .ref (a 1)) (C := RX10) (T := TX10) (N := 8) hx hb hts hi10 hown hK hP (0) (rfl) rfl 0 (by decide) kf11 (fun _ h9 => h9) rfl dX10_next_29 ?_
            refine lv_iload_n hx hb dX10_next_32 rfl (lv_at hl 1 rfl) ?_
            obtain ⟨g18, h⟩ := gIn_some h
            refine va_aldq hx hb hK hP (1) 2 rfl rfl g18 dX10_next_33 ?_
            refine W.eq (g2 := F0 m 34 ls [.ref (a (14 + x1.toNatClampNeg))]) rfl ?_
            refine lv_astore (lv' := [(4, .ref (a (14 + x1.toNatClampNeg))), (0, .ref (a 0)), (1, .int x1), (2, .int x2), (3, .int x3)]) hx hb dX10_next_34 hl (by decide) rfl (fun ls hl => ?_)
            refine lv_iconst (v := 1) hx hb dX10_next_36 (by decide) ?_
            refine lv_iload_n hx hb dX10_next_37 rfl (lv_at hl 3 rfl) ?_
            refine lv_ishl hx hb dX10_next_38 ?_
            refine lv_iconst (v := 1) hx hb dX10_next_39 (by decide) ?_
            refine lv_isub hx hb dX10_next_40 ?_
            refine lv_istore (lv' := [(5, .int (((1 : Int32) <<< (x2 &&& 31)) - 1)), (4, .ref (a (14 + x1.toNatClampNeg))), (0, .ref (a 0)), (1, .int x1), (2, .int x2), (3, .int x3)]) hx hb dX10_next_41 hl (by decide) rfl (fun ls hl => ?_)
            refine lv_aload hx hb dX10_next_43 (lv_at hl 1 rfl) ?_
            refine va_get (D := D) (ci := 1) (v := .int (xLen x1.toNatClampNeg)) (C := RX5) (T := TX5) (N := 3) hx hb hts hi5 hown hK hP ((14 + x1.toNatClampNeg)) (wX_row (vp_in_lt g18)) rfl 0 (by decide) kf69 (fun _ h9 => h9) rfl dX10_next_45 ?_
            refine lv_iload_n hx hb dX10_next_48 rfl (lv_at hl 4 rfl) ?_
            refine lv_icmp_lt (tgt := 63) hx hb dX10_next_49 (by decide) (fun c19 => ?_) (fun c19 => ?_)
            · replace h := (if_pos c19).symm.trans h
              refine lv_bipush (v := (-3)) hx hb dX10_next_63 (by decide) ?_
              exact W.iret (v := (-3)) hx hb hr (fun t ht hW => ⟨_, rfl, Option.some.inj h, ht⟩) (fun q hq => by cases hq) dX10_next_65
            · replace h := (if_neg c19).symm.trans h
              refine lv_aload hx hb dX10_next_52 (lv_at hl 1 rfl) ?_
              refine va_get (D := D) (ci := 1) (v := .int (xUns x1.toNatClampNeg)) (C := RX5) (T := TX5) (N := 3) hx hb hts hi5 hown hK hP ((14 + x1.toNatClampNeg)) (wX_row (vp_in_lt g18)) rfl 2 (by decide) kf154 (fun _ h9 => h9) rfl dX10_next_54 ?_
              refine lv_iload hx hb dX10_next_57 (lv_at hl 0 rfl) ?_
              refine lv_iand hx hb dX10_next_59 ?_
              refine lv_if_eq (tgt := 66) hx hb dX10_next_60 (by decide) (fun c20 => ?_) (fun c20 => ?_)
              · replace h := (if_pos c20).symm.trans h
                refine lv_iconst (v := 0) hx hb dX10_next_66 (by decide) ?_
                refine lv_istore (lv' := [(6, .int 0), (5, .int (((1 : Int32) <<< (x2 &&& 31)) - 1)), (4, .ref (a (14 + x1.toNatClampNeg))), (0, .ref (a 0)), (1, .int x1), (2, .int x2), (3, .int x3)]) hx hb dX10_next_67 hl (by decide) rfl (fun ls hl => ?_)
                refine lv_iconst (v := 0) hx hb dX10_next_69 (by decide) ?_
                refine lv_istore (lv' := [(7, .int 0), (6, .int 0), (5, .int (((1 : Int32) <<< (x2 &&& 31)) - 1)), (4, .ref (a (14 + x1.toNatClampNeg))), (0, .ref (a 0)), (1, .int x1), (2, .int x2), (3, .int x3)]) hx hb dX10_next_70 hl (by decide) rfl (fun ls hl => ?_)
                refine lv_iload_n hx hb dX10_next_72 rfl (lv_at hl 6 rfl) ?_
                refine lv_istore (lv' := [(8, .int x2), (7, .int 0), (6, .int 0), (5, .int (((1 : Int32) <<< (x2 &&& 31)) - 1)), (4, .ref (a (14 + x1.toNatClampNeg))), (0, .ref (a 0)), (1, .int x1), (2, .int x2), (3, .int x3)]) hx hb dX10_next_73 hl (by decide) rfl (fun ls hl => ?_)
                exact L75 N x2 x3 x1.toNatClampNeg 0 0 x2 ls (vp_in_lt g18) (lv_sub hl [7, 8, 4, 2, 1, 0] rfl) h
              · replace h := (if_neg c20).symm.trans h
                refine lv_bipush (v := (-3)) hx hb dX10_next_63 (by decide) ?_
                exact W.iret (v := (-3)) hx hb hr (fun t ht hW => ⟨_, rfl, Option.some.inj h, ht⟩) (fun q hq => by cases hq) dX10_next_65
          · replace h := (if_neg c17).symm.trans h
            refine lv_bipush (v := (-2)) hx hb dX10_next_25 (by decide) ?_
            exact W.iret (v := (-2)) hx hb hr (fun t ht hW => ⟨_, rfl, Option.some.inj h, ht⟩) (fun q hq => by cases hq) dX10_next_27
set_option maxHeartbeats 4000000 in
set_option maxRecDepth 100000 in
theorem c_X10_next {N : Nat} (l : Launch) (D : va_G) (k : Nat → ClassId) (a : Nat → Nat) (xLen : Nat → Int32) (xHits : Nat → Int32) (xUns : Nat → Int32) (xItems : Nat → Nat → Int32) (xLost : Nat → Int32) (xKind : Nat → Int32) (xSize : Nat → Int32) (xLet : Nat → Int32) (xRel : Nat → Int32) (xLim : Nat → Int32) (xOpen : Nat → Int32) (xMeas : Nat → Int32) (xSL : Int32) (xST : Int32) (xSD : Int32) (xSK : Int32) (xTal : Nat → Nat → Int32) (xKn : Nat → Int32) (xFT : Nat → Int32) (xFA : Int32) (xFE : Int32) (xOdds : Int32) (xPat : Int32) (xFind : Int32) (x1 : Int32) (x2 : Int32) (x3 : Int32) {o : Int32} (h : f_X10_next N x1 x2 x3 xLen xHits xUns = some o) : mRi l yX10_next wo_X10_next 2 D k [.ref (a 0), .int x1, .int x2, .int x3] (wX k a xLen xHits xUns xItems xLost xKind xSize xLet xRel xLim xOpen xMeas xSL xST xSD xSK xTal xKn xFT xFA xFE xOdds xPat xFind) o := by
  refine Met.ofW (cc := cX10_next) (maxL := 9) (ret := some .int) (by decide) rfl ?_
  intro p e s m args below meth c s₁ B hml hv
  obtain ⟨rfl, hP, hK⟩ := hv
  rw [lg_entry_eq]
  exact core_X10_next D k a xLen xHits xUns xItems xLost xKind xSize xLet xRel xLim xOpen xMeas xSL xST xSD xSK xTal xKn xFT xFA xFE xOdds xPat xFind x1 x2 x3 B.exec B.bytes hml B.returns (atoms_spec (ws := wo_X10_next) B.pre) (findClass_of_methodNamed B.named) B.notSynchronized (lv_entry [.ref (a 0), .int x1, .int x2, .int x3] (n := 9) (Nat.le_of_ble_eq_true rfl)) hK hP h
theorem qd_X10_next : yX10_next.cls = RX10 ∧ yX10_next.cls ≠ "java/lang/invoke/MethodHandle" ∧ yX10_next.cls ≠ "java/lang/invoke/VarHandle" ∧ (parseMethodDescriptor yX10_next.desc).map (fun d => d.parameters.length) = some 3 := by decide +kernel
