abbrev wo_X10_nth : List Cond := .code yX10_nth cX10_nth 5 (some .int) :: wsL_law
set_option maxHeartbeats 4000000 in
set_option maxRecDepth 100000 in
theorem core_X10_nth {N : Nat} (D : va_G) (k : Nat → ClassId) (a : Nat → Nat) (xLen : Nat → Int32) (xHits : Nat → Int32) (xUns : Nat → Int32) (xItems : Nat → Nat → Int32) (xLost : Nat → Int32) (xKind : Nat → Int32) (xSize : Nat → Int32) (xLet : Nat → Int32) (xRel : Nat → Int32) (xLim : Nat → Int32) (xOpen : Nat → Int32) (xMeas : Nat → Int32) (xSL : Int32) (xST : Int32) (xSD : Int32) (xSK : Int32) (xTal : Nat → Nat → Int32) (xKn : Nat → Int32) (xFT : Nat → Int32) (xFA : Int32) (xFE : Int32) (xOdds : Int32) (xPat : Int32) (xFind : Int32) (x1 : Int32) (x2 : Int32) {p : Program} {l : Launch} {e : Env} {s : State} {m : MethodId} {args : Array Value} {below : List Frame} {meth : Method} {c : Code} {ls : Array Slot} (hx : p.tables.exec = Jvm.exec) (hb : c.code = cX10_nth) (hml : c.maxLocals = 5) (hr : meth.sig.returnType = some .int) (hts : ∀ w ∈ wo_X10_nth, w.before args s = true) (hown : s.vm.findClass RX10 = some m.cls) (hlocks : meth.locks = false) (hl : lv_has ls 5 [(0, .ref (a 0)), (1, .int x1), (2, .int x2)]) (hK : va_K D vwCl (xTys k) s) (hP : va_P D vwCl (wX k a xLen xHits xUns xItems xLost xKind xSize xLet xRel xLim xOpen xMeas xSL xST xSD xSK xTal xKn xFT xFA xFE xOdds xPat xFind) s.heap) {A : Nat → Prop} (hD : va_D A (wX k a xLen xHits xUns xItems xLost xKind xSize xLet xRel xLim xOpen xMeas xSL xST xSD xSK xTal xKn xFT xFA xFE xOdds xPat xFind)) (hA : ∀ q : Nat, s.heap.size ≤ q → A q) {o : Int32 × (Nat → Int32)} (h : f_X10_nth N x1 x2 xLet xRel xLim xOpen xMeas xSL xST xSD xSK xPat = some o) : gQi p l e wo_X10_nth 4 s m args below meth c D k A o.1 (wX k a xLen xHits xUns xItems xLost xKind xSize xLet xRel xLim xOpen o.2 xSL xST xSD xSK xTal xKn xFT xFA xFE xOdds xPat xFind) s.heap [] (F0 m 0 ls []) := by
  have hi10 := (fun w h => List.mem_cons_of_mem _ (inlX10 w h) : ∀ w ∈ wsX100, w ∈ wo_X10_nth)
  have kf26 := hts _ (List.mem_cons_of_mem _ wm_23)
  have kf48 := hts _ (List.mem_cons_of_mem _ wm_33)
  unfold f_X10_nth at h
  have hS : va_S A s.heap s.heap [] := va_S.rf
  have L32 : ∀ (n32 : Nat) (x1 : Int32) (x2 : Int32) (x3 : Int32) (x4 : Int32) (xMeas : Nat → Int32) (ls : Array Slot) (H : Heap) (locs : List Loc) (hl : lv_has ls 5 [(0, .ref (a 0)), (1, .int x1), (2, .int x2), (3, .int x3), (4, .int x4)]) (hP : va_P D vwCl (wX k a xLen xHits xUns xItems xLost xKind xSize xLet xRel xLim xOpen xMeas xSL xST xSD xSK xTal xKn xFT xFA xFE xOdds xPat xFind) H) (hD : va_D A (wX k a xLen xHits xUns xItems xLost xKind xSize xLet xRel xLim xOpen xMeas xSL xST xSD xSK xTal xKn xFT xFA xFE xOdds xPat xFind)) (hS : va_S A s.heap H locs) (h : f_X10_nth_32 N n32 x1 x2 x3 x4 xLet xRel xLim xOpen xMeas xSL xST xSD xSK xPat = some o), gQi p l e wo_X10_nth 4 s m args below meth c D k A o.1 (wX k a xLen xHits xUns xItems xLost xKind xSize xLet xRel xLim xOpen o.2 xSL xST xSD xSK xTal xKn xFT xFA xFE xOdds xPat xFind) H locs (F0 m 32 ls []) := by
    intro n32
    induction n32 with
    | zero => intro x1 x2 x3 x4 xMeas ls H locs hl hP hD hS h; cases (show (none : Option (Int32 × (Nat → Int32))) = some o from h)
    | succ n32 ih32 =>
      have J72 : ∀ (x1 : Int32) (x2 : Int32) (x3 : Int32) (x4 : Int32) (xMeas : Nat → Int32) (ls : Array Slot) (H : Heap) (locs : List Loc) (hl : lv_has ls 5 [(0, .ref (a 0)), (1, .int x1), (2, .int x2), (3, .int x3), (4, .int x4)]) (hP : va_P D vwCl (wX k a xLen xHits xUns xItems xLost xKind xSize xLet xRel xLim xOpen xMeas xSL xST xSD xSK xTal xKn xFT xFA xFE xOdds xPat xFind) H) (hD : va_D A (wX k a xLen xHits xUns xItems xLost xKind xSize xLet xRel xLim xOpen xMeas xSL xST xSD xSK xTal xKn xFT xFA xFE xOdds xPat xFind)) (hS : va_S A s.heap H locs) (h : f_X10_nth_72 N (fun y0 y1 y2 y3 y4 y5 y6 y7 y8 y9 y10 y11 y12 y13 => f_X10_nth_32 N n32 y0 y1 y2 y3 y4 y5 y6 y7 y8 y9 y10 y11 y12 y13) x1 x2 x3 x4 xLet xRel xLim xOpen xMeas xSL xST xSD xSK xPat = some o), gQi p l e wo_X10_nth 4 s m args below meth c D k A o.1 (wX k a xLen xHits xUns xItems xLost xKind xSize xLet xRel xLim xOpen o.2 xSL xST xSD xSK xTal xKn xFT xFA xFE xOdds xPat xFind) H locs (F0 m 72 ls []) := by
        intro x1 x2 x3 x4 xMeas ls H locs hl hP hD hS h
        unfold f_X10_nth_72 at h
        refine lv_iinc (v := (x4 + 1)) (lv' := [(4, .int (x4 + 1)), (0, .ref (a 0)), (1, .int x1), (2, .int x2), (3, .int x3)]) hx hb dX10_nth_72 hl (k := 4) rfl rfl (by decide) rfl (fun ls hl => ?_)
        refine lv_goto (tgt := 32) hx hb dX10_nth_75 (by decide) ?_
        exact ih32 x1 x2 x3 (x4 + 1) xMeas ls H locs (lv_sub hl [1, 2, 3, 4, 0] rfl) hP hD hS h
      intro x1 x2 x3 x4 xMeas ls H locs hl hP hD hS h
      rw [f_X10_nth_32] at h
      refine lv_iload hx hb dX10_nth_32 (lv_at hl 4 rfl) ?_
      refine lv_iconst (v := 1) hx hb dX10_nth_34 (by decide) ?_
      refine lv_iload_n hx hb dX10_nth_35 rfl (lv_at hl 1 rfl) ?_
      refine lv_ishl hx hb dX10_nth_36 ?_
      refine lv_icmp_ge (tgt := 78) hx hb dX10_nth_37 (by decide) (fun c1 => ?_) (fun c1 => ?_)
      · replace h := (if_pos c1).symm.trans h
        refine lv_iconst (v := (-1)) hx hb dX10_nth_78 (by decide) ?_
        have he := Option.some.inj h
        exact W.iret (v := (-1)) hx hb hr (fun t ht hW => ⟨⟨(-1), wX k a xLen xHits xUns xItems xLost xKind xSize xLet xRel xLim xOpen xMeas xSL xST xSD xSK xTal xKn xFT xFA xFE xOdds xPat xFind, rfl, ⟨(congrArg (fun z => z.1) he), (congrArg (fun z => wX k a xLen xHits xUns xItems xLost xKind xSize xLet xRel xLim xOpen z.2 xSL xST xSD xSK xTal xKn xFT xFA xFE xOdds xPat xFind) he)⟩, by rw [ht]; exact hP, va_K.moved hW.alike hK, hD⟩, hS.F ht⟩) hS.2.2 dX10_nth_79
      · replace h := (if_neg c1).symm.trans h
        refine lv_aload_n hx hb dX10_nth_40 rfl (lv_at hl 0 rfl) ?_
        refine va_get (D := D) (ci := 5) (v := .ref (a 3)) (C := RX10) (T := TX10) (N := 8) hx hb hts hi10 hown hK hP (0) (rfl) rfl 2 (by decide) kf26 (fun _ h9 => h9) rfl dX10_nth_41 ?_
        refine lv_iload_n hx hb dX10_nth_44 rfl (lv_at hl 1 rfl) ?_
        refine lv_iload hx hb dX10_nth_45 (lv_at hl 4 rfl) ?_
        refine lv_aload_n hx hb dX10_nth_47 rfl (lv_at hl 0 rfl) ?_
        refine va_get (D := D) (ci := 5) (v := .int xPat) (C := RX10) (T := TX10) (N := 8) hx hb hts hi10 hown hK hP (0) (rfl) rfl 6 (by decide) kf48 (fun _ h9 => h9) rfl dX10_nth_48 ?_
        obtain ⟨o2, eq3, h⟩ := bnd_some h
        refine kQiV (rest := []) (q0 := 3) ⟨hx, hb, hml, hown, hts⟩ (c_X6_hold l D k a xLen xHits xUns xItems xLost xKind xSize xLet xRel xLim xOpen xMeas xSL xST xSD xSK xTal xKn xFT xFA xFE xOdds xPat xFind x1 x4 xPat eq3) (cwV 3 hts (gAV wm_442 wm_443 wm_444 wm_22 wm_445) rfl rfl rfl qd_X6_hold ⟨Nat.le_of_ble_eq_true rfl, Nat.le_of_ble_eq_true rfl⟩) hK hP hD hS hA (rfl) rfl rfl hl.1 rfl (Nat.le_of_ble_eq_true rfl) dX10_nth_51 ⟨Nat.zero_le _, Nat.zero_le _⟩ (fun H locs hP hD hS => ?_)
        have hP : va_P D vwCl (wX k a xLen xHits xUns xItems xLost xKind xSize xLet xRel xLim xOpen o2.2 xSL xST xSD xSK xTal xKn xFT xFA xFE xOdds xPat xFind) H := hP
        have hD : va_D A (wX k a xLen xHits xUns xItems xLost xKind xSize xLet xRel xLim xOpen o2.2 xSL xST xSD xSK xTal xKn xFT xFA xFE xOdds xPat xFind) := hD
        refine lv_if_eq (tgt := 72) hx hb dX10_nth_54 (by decide) (fun c4 => ?_) (fun c4 => ?_)
        · replace h := (if_pos c4).symm.trans h
          exact J72 x1 x2 x3 x4 o2.2 ls H locs (lv_sub hl [0, 1, 2, 3, 4] rfl) hP hD hS h
        · replace h := (if_neg c4).symm.trans h
          refine lv_iload_n hx hb dX10_nth_57 rfl (lv_at hl 3 rfl) ?_
          refine lv_iload_n hx hb dX10_nth_58 rfl (lv_at hl 2 rfl) ?_
          refine lv_icmp_ne (tgt := 69) hx hb dX10_nth_59 (by decide) (fun c5 => ?_) (fun c5 => ?_)
          · replace h := (if_neg c5).symm.trans h
            refine lv_iinc (v := (x3 + 1)) (lv' := [(3, .int (x3 + 1)), (0, .ref (a 0)), (1, .int x1), (2, .int x2), (4, .int x4)]) hx hb dX10_nth_69 hl (k := 3) rfl rfl (by decide) rfl (fun ls hl => ?_)
            exact J72 x1 x2 (x3 + 1) x4 o2.2 ls H locs (lv_sub hl [1, 2, 3, 0, 4] rfl) hP hD hS h
          · replace h := (if_pos c5).symm.trans h
            refine lv_iconst (v := 1) hx hb dX10_nth_62 (by decide) ?_
            refine lv_iload_n hx hb dX10_nth_63 rfl (lv_at hl 1 rfl) ?_
            refine lv_ishl hx hb dX10_nth_64 ?_
            refine lv_iload hx hb dX10_nth_65 (lv_at hl 4 rfl) ?_
            refine lv_ior hx hb dX10_nth_67 ?_
            have he := Option.some.inj h
            exact W.iret (v := (((1 : Int32) <<< (x1 &&& 31)) ||| x4)) hx hb hr (fun t ht hW => ⟨⟨(((1 : Int32) <<< (x1 &&& 31)) ||| x4), wX k a xLen xHits xUns xItems xLost xKind xSize xLet xRel xLim xOpen o2.2 xSL xST xSD xSK xTal xKn xFT xFA xFE xOdds xPat xFind, rfl, ⟨(congrArg (fun z => z.1) he), (congrArg (fun z => wX k a xLen xHits xUns xItems xLost xKind xSize xLet xRel xLim xOpen z.2 xSL xST xSD xSK xTal xKn xFT xFA xFE xOdds xPat xFind) he)⟩, by rw [ht]; exact hP, va_K.moved hW.alike hK, hD⟩, hS.F ht⟩) hS.2.2 dX10_nth_68
  obtain ⟨H, hH⟩ : ∃ H : Heap, H = s.heap := ⟨_, rfl⟩
  obtain ⟨locs, hlc⟩ : ∃ locs : List Loc, locs = [] := ⟨_, rfl⟩
  have hS : va_S A s.heap H locs := by rw [hH, hlc]; exact va_S.rf
  have hP : va_P D vwCl (wX k a xLen xHits xUns xItems xLost xKind xSize xLet xRel xLim xOpen xMeas xSL xST xSD xSK xTal xKn xFT xFA xFE xOdds xPat xFind) H := by rw [hH]; exact hP
  suffices hGo : gQi p l e wo_X10_nth 4 s m args below meth c D k A o.1 (wX k a xLen xHits xUns xItems xLost xKind xSize xLet xRel xLim xOpen o.2 xSL xST xSD xSK xTal xKn xFT xFA xFE xOdds xPat xFind) H locs (F0 m 0 ls []) by rw [hH, hlc] at hGo; exact hGo
  refine lv_iload_n hx hb dX10_nth_0 rfl (lv_at hl 1 rfl) ?_
  obtain ⟨o6, eq7, h⟩ := bnd_some h
  refine kPi (rest := []) ⟨hx, hb, hml, hown, hts⟩ (c_X10_isLength l x1 eq7) (va_cwS 1 hts (gAS wm_464 wm_465 wm_2 wm_466) rfl rfl rfl qd_X10_isLength ⟨Nat.le_of_ble_eq_true rfl, Nat.le_of_ble_eq_true rfl⟩) rfl hl.1 rfl (Nat.le_of_ble_eq_true rfl) dX10_nth_1 ⟨Nat.zero_le _, Nat.zero_le _⟩ ?_
  refine lv_if_eq (tgt := 11) hx hb dX10_nth_4 (by decide) (fun c8 => ?_) (fun c8 => ?_)
  · replace h := (if_pos c8).symm.trans h
    refine lv_bipush (v := (-2)) hx hb dX10_nth_11 (by decide) ?_
    have he := Option.some.inj h
    exact W.iret (v := (-2)) hx hb hr (fun t ht hW => ⟨⟨(-2), wX k a xLen xHits xUns xItems xLost xKind xSize xLet xRel xLim xOpen xMeas xSL xST xSD xSK xTal xKn xFT xFA xFE xOdds xPat xFind, rfl, ⟨(congrArg (fun z => z.1) he), (congrArg (fun z => wX k a xLen xHits xUns xItems xLost xKind xSize xLet xRel xLim xOpen z.2 xSL xST xSD xSK xTal xKn xFT xFA xFE xOdds xPat xFind) he)⟩, by rw [ht]; exact hP, va_K.moved hW.alike hK, hD⟩, hS.F ht⟩) hS.2.2 dX10_nth_13
  · replace h := (if_neg c8).symm.trans h
    refine lv_iload_n hx hb dX10_nth_7 rfl (lv_at hl 2 rfl) ?_
    refine lv_if_ge (tgt := 14) hx hb dX10_nth_8 (by decide) (fun c9 => ?_) (fun c9 => ?_)
    · replace h := (if_pos c9).symm.trans h
      refine lv_aload_n hx hb dX10_nth_14 rfl (lv_at hl 0 rfl) ?_
      refine va_get (D := D) (ci := 5) (v := .ref (a 3)) (C := RX10) (T := TX10) (N := 8) hx hb hts hi10 hown hK hP (0) (rfl) rfl 2 (by decide) kf26 (fun _ h9 => h9) rfl dX10_nth_15 ?_
      obtain ⟨o10, eq11, h⟩ := bnd_some h
      refine kRiV (rest := []) (q0 := 3) ⟨hx, hb, hml, hown, hts⟩ (c_X6_isFaulty l D k a xLen xHits xUns xItems xLost xKind xSize xLet xRel xLim xOpen xMeas xSL xST xSD xSK xTal xKn xFT xFA xFE xOdds xPat xFind  eq11) (cwV 0 hts (gAV wm_437 wm_438 wm_439 wm_22 wm_440) rfl rfl rfl qd_X6_isFaulty ⟨Nat.le_of_ble_eq_true rfl, Nat.le_of_ble_eq_true rfl⟩) hK hP (rfl) rfl rfl hl.1 rfl (Nat.le_of_ble_eq_true rfl) dX10_nth_18 ⟨Nat.zero_le _, Nat.zero_le _⟩ ?_
      refine lv_if_eq (tgt := 27) hx hb dX10_nth_21 (by decide) (fun c12 => ?_) (fun c12 => ?_)
      · replace h := (if_pos c12).symm.trans h
        refine lv_iconst (v := 0) hx hb dX10_nth_27 (by decide) ?_
        refine lv_istore_n (lv' := [(3, .int 0), (0, .ref (a 0)), (1, .int x1), (2, .int x2)]) hx hb dX10_nth_28 rfl hl (by decide) rfl (fun ls hl => ?_)
        refine lv_iconst (v := 0) hx hb dX10_nth_29 (by decide) ?_
        refine lv_istore (lv' := [(4, .int 0), (3, .int 0), (0, .ref (a 0)), (1, .int x1), (2, .int x2)]) hx hb dX10_nth_30 hl (by decide) rfl (fun ls hl => ?_)
        exact L32 N x1 x2 0 0 xMeas ls H locs (lv_sub hl [2, 3, 4, 1, 0] rfl) hP hD hS h
      · replace h := (if_neg c12).symm.trans h
        refine lv_bipush (v := (-3)) hx hb dX10_nth_24 (by decide) ?_
        have he := Option.some.inj h
        exact W.iret (v := (-3)) hx hb hr (fun t ht hW => ⟨⟨(-3), wX k a xLen xHits xUns xItems xLost xKind xSize xLet xRel xLim xOpen xMeas xSL xST xSD xSK xTal xKn xFT xFA xFE xOdds xPat xFind, rfl, ⟨(congrArg (fun z => z.1) he), (congrArg (fun z => wX k a xLen xHits xUns xItems xLost xKind xSize xLet xRel xLim xOpen z.2 xSL xST xSD xSK xTal xKn xFT xFA xFE xOdds xPat xFind) he)⟩, by rw [ht]; exact hP, va_K.moved hW.alike hK, hD⟩, hS.F ht⟩) hS.2.2 dX10_nth_26
    · replace h := (if_neg c9).symm.trans h
      refine lv_bipush (v := (-2)) hx hb dX10_nth_11 (by decide) ?_
      have he := Option.some.inj h
      exact W.iret (v := (-2)) hx hb hr (fun t ht hW => ⟨⟨(-2), wX k a xLen xHits xUns xItems xLost xKind xSize xLet xRel xLim xOpen xMeas xSL xST xSD xSK xTal xKn xFT xFA xFE xOdds xPat xFind, rfl, ⟨(congrArg (fun z => z.1) he), (congrArg (fun z => wX k a xLen xHits xUns xItems xLost xKind xSize xLet xRel xLim xOpen z.2 xSL xST xSD xSK xTal xKn xFT xFA xFE xOdds xPat xFind) he)⟩, by rw [ht]; exact hP, va_K.moved hW.alike hK, hD⟩, hS.F ht⟩) hS.2.2 dX10_nth_13
set_option maxHeartbeats 4000000 in
set_option maxRecDepth 100000 in
theorem c_X10_nth {N : Nat} (l : Launch) (D : va_G) (k : Nat → ClassId) (a : Nat → Nat) (xLen : Nat → Int32) (xHits : Nat → Int32) (xUns : Nat → Int32) (xItems : Nat → Nat → Int32) (xLost : Nat → Int32) (xKind : Nat → Int32) (xSize : Nat → Int32) (xLet : Nat → Int32) (xRel : Nat → Int32) (xLim : Nat → Int32) (xOpen : Nat → Int32) (xMeas : Nat → Int32) (xSL : Int32) (xST : Int32) (xSD : Int32) (xSK : Int32) (xTal : Nat → Nat → Int32) (xKn : Nat → Int32) (xFT : Nat → Int32) (xFA : Int32) (xFE : Int32) (xOdds : Int32) (xPat : Int32) (xFind : Int32) (x1 : Int32) (x2 : Int32) {o : Int32 × (Nat → Int32)} (h : f_X10_nth N x1 x2 xLet xRel xLim xOpen xMeas xSL xST xSD xSK xPat = some o) : mQi l yX10_nth wo_X10_nth 4 D k [.ref (a 0), .int x1, .int x2] (wX k a xLen xHits xUns xItems xLost xKind xSize xLet xRel xLim xOpen xMeas xSL xST xSD xSK xTal xKn xFT xFA xFE xOdds xPat xFind) o.1 (wX k a xLen xHits xUns xItems xLost xKind xSize xLet xRel xLim xOpen o.2 xSL xST xSD xSK xTal xKn xFT xFA xFE xOdds xPat xFind) := by
  intro sz
  refine Met.ofW (cc := cX10_nth) (maxL := 5) (ret := some .int) (by decide) rfl ?_
  intro p e s m args below meth c s₁ B hml hv
  obtain ⟨rfl, hsz, hP, hK, hD0⟩ := hv
  subst hsz
  rw [lg_entry_eq]
  exact core_X10_nth D k a xLen xHits xUns xItems xLost xKind xSize xLet xRel xLim xOpen xMeas xSL xST xSD xSK xTal xKn xFT xFA xFE xOdds xPat xFind x1 x2 B.exec B.bytes hml B.returns (atoms_spec (ws := wo_X10_nth) B.pre) (findClass_of_methodNamed B.named) B.notSynchronized (lv_entry [.ref (a 0), .int x1, .int x2] (n := 5) (Nat.le_of_ble_eq_true rfl)) hK hP hD0.self (fun q h => Or.inr h) h
theorem qd_X10_nth : yX10_nth.cls = RX10 ∧ yX10_nth.cls ≠ "java/lang/invoke/MethodHandle" ∧ yX10_nth.cls ≠ "java/lang/invoke/VarHandle" ∧ (parseMethodDescriptor yX10_nth.desc).map (fun d => d.parameters.length) = some 2 := by decide +kernel
abbrev wo_X10_share : List Cond := .code yX10_share cX10_share 3 (some .long) :: wsL_law
set_option maxHeartbeats 4000000 in
set_option maxRecDepth 100000 in
theorem core_X10_share {N : Nat} (D : va_G) (k : Nat → ClassId) (a : Nat → Nat) (xLen : Nat → Int32) (xHits : Nat → Int32) (xUns : Nat → Int32) (xItems : Nat → Nat → Int32) (xLost : Nat → Int32) (xKind : Nat → Int32) (xSize : Nat → Int32) (xLet : Nat → Int32) (xRel : Nat → Int32) (xLim : Nat → Int32) (xOpen : Nat → Int32) (xMeas : Nat → Int32) (xSL : Int32) (xST : Int32) (xSD : Int32) (xSK : Int32) (xTal : Nat → Nat → Int32) (xKn : Nat → Int32) (xFT : Nat → Int32) (xFA : Int32) (xFE : Int32) (xOdds : Int32) (xPat : Int32) (xFind : Int32) (x1 : Int32) (x2 : Int32) {p : Program} {l : Launch} {e : Env} {s : State} {m : MethodId} {args : Array Value} {below : List Frame} {meth : Method} {c : Code} {ls : Array Slot} (hx : p.tables.exec = Jvm.exec) (hb : c.code = cX10_share) (hml : c.maxLocals = 3) (hr : meth.sig.returnType = some .long) (hts : ∀ w ∈ wo_X10_share, w.before args s = true) (hown : s.vm.findClass RX10 = some m.cls) (hlocks : meth.locks = false) (hl : lv_has ls 3 [(0, .ref (a 0)), (1, .int x1), (2, .int x2)]) (hK : va_K D vwCl (xTys k) s) (hP : va_P D vwCl (wX k a xLen xHits xUns xItems xLost xKind xSize xLet xRel xLim xOpen xMeas xSL xST xSD xSK xTal xKn xFT xFA xFE xOdds xPat xFind) s.heap) {A : Nat → Prop} (hD : va_D A (wX k a xLen xHits xUns xItems xLost xKind xSize xLet xRel xLim xOpen xMeas xSL xST xSD xSK xTal xKn xFT xFA xFE xOdds xPat xFind)) (hA : ∀ q : Nat, s.heap.size ≤ q → A q) {o : Int64 × (Nat → Int32) × (Nat → Nat → Int32) × (Nat → Int32)} (h : f_X10_share N x1 x2 xLet xRel xLim xOpen xMeas xSL xST xSD xSK xTal xKn xOdds xPat = some o) : gQl p l e wo_X10_share 5 s m args below meth c D k A o.1 (wX k a xLen xHits xUns xItems xLost xKind xSize xLet xRel xLim xOpen o.2.1 xSL xST xSD xSK o.2.2.1 o.2.2.2 xFT xFA xFE xOdds xPat xFind) s.heap [] (F0 m 0 ls []) := by
  have hi10 := (fun w h => List.mem_cons_of_mem _ (inlX10 w h) : ∀ w ∈ wsX100, w ∈ wo_X10_share)
  have kf26 := hts _ (List.mem_cons_of_mem _ wm_23)
  have kf33 := hts _ (List.mem_cons_of_mem _ wm_27)
  have kf48 := hts _ (List.mem_cons_of_mem _ wm_33)
  have hi8 := (fun w h => List.mem_cons_of_mem _ (inlX8 w h) : ∀ w ∈ wsX80, w ∈ wo_X10_share)
  have kf133 := hts _ (List.mem_cons_of_mem _ wm_463)
  have kf44 := hts _ (List.mem_cons_of_mem _ wm_32)
  unfold f_X10_share at h
  have hS : va_S A s.heap s.heap [] := va_S.rf
  obtain ⟨H, hH⟩ : ∃ H : Heap, H = s.heap := ⟨_, rfl⟩
  obtain ⟨locs, hlc⟩ : ∃ locs : List Loc, locs = [] := ⟨_, rfl⟩
  have hS : va_S A s.heap H locs := by rw [hH, hlc]; exact va_S.rf
  have hP : va_P D vwCl (wX k a xLen xHits xUns xItems xLost xKind xSize xLet xRel xLim xOpen xMeas xSL xST xSD xSK xTal xKn xFT xFA xFE xOdds xPat xFind) H := by rw [hH]; exact hP
  suffices hGo : gQl p l e wo_X10_share 5 s m args below meth c D k A o.1 (wX k a xLen xHits xUns xItems xLost xKind xSize xLet xRel xLim xOpen o.2.1 xSL xST xSD xSK o.2.2.1 o.2.2.2 xFT xFA xFE xOdds xPat xFind) H locs (F0 m 0 ls []) by rw [hH, hlc] at hGo; exact hGo
  refine lv_iload_n hx hb dX10_share_0 rfl (lv_at hl 1 rfl) ?_
  obtain ⟨o1, eq2, h⟩ := bnd_some h
  refine kPi (rest := []) ⟨hx, hb, hml, hown, hts⟩ (c_X10_isLength l x1 eq2) (va_cwS 1 hts (gAS wm_464 wm_465 wm_2 wm_466) rfl rfl rfl qd_X10_isLength ⟨Nat.le_of_ble_eq_true rfl, Nat.le_of_ble_eq_true rfl⟩) rfl hl.1 rfl (Nat.le_of_ble_eq_true rfl) dX10_share_1 ⟨Nat.zero_le _, Nat.zero_le _⟩ ?_
  refine lv_if_eq (tgt := 14) hx hb dX10_share_4 (by decide) (fun c3 => ?_) (fun c3 => ?_)
  · replace h := (if_pos c3).symm.trans h
    refine lv_bipush (v := (-2)) hx hb dX10_share_14 (by decide) ?_
    obtain ⟨o4, eq5, h⟩ := bnd_some h
    refine kPl (rest := []) ⟨hx, hb, hml, hown, hts⟩ (c_X10_refusal l (-2) eq5) (va_cwS 1 hts (gAS wm_500 wm_501 wm_2 wm_502) rfl rfl rfl qd_X10_refusal ⟨Nat.le_of_ble_eq_true rfl, Nat.le_of_ble_eq_true rfl⟩) rfl hl.1 rfl (Nat.le_of_ble_eq_true rfl) dX10_share_16 ⟨Nat.zero_le _, Nat.zero_le _⟩ ?_
    have he := Option.some.inj h
    exact W.lret (v := o4) hx hb hr (fun t ht hW => ⟨⟨o4, wX k a xLen xHits xUns xItems xLost xKind xSize xLet xRel xLim xOpen xMeas xSL xST xSD xSK xTal xKn xFT xFA xFE xOdds xPat xFind, rfl, ⟨(congrArg (fun z => z.1) he), (congrArg (fun z => wX k a xLen xHits xUns xItems xLost xKind xSize xLet xRel xLim xOpen z.2.1 xSL xST xSD xSK z.2.2.1 z.2.2.2 xFT xFA xFE xOdds xPat xFind) he)⟩, by rw [ht]; exact hP, va_K.moved hW.alike hK, hD⟩, hS.F ht⟩) hS.2.2 dX10_share_19
  · replace h := (if_neg c3).symm.trans h
    refine lv_iload_n hx hb dX10_share_7 rfl (lv_at hl 2 rfl) ?_
    obtain ⟨o6, eq7, h⟩ := bnd_some h
    refine kPi (rest := []) ⟨hx, hb, hml, hown, hts⟩ (c_X10_isPart l x2 eq7) (va_cwS 1 hts (gAS wm_497 wm_498 wm_2 wm_499) rfl rfl rfl qd_X10_isPart ⟨Nat.le_of_ble_eq_true rfl, Nat.le_of_ble_eq_true rfl⟩) rfl hl.1 rfl (Nat.le_of_ble_eq_true rfl) dX10_share_8 ⟨Nat.zero_le _, Nat.zero_le _⟩ ?_
    refine lv_if_ne (tgt := 20) hx hb dX10_share_11 (by decide) (fun c8 => ?_) (fun c8 => ?_)
    · replace h := (if_neg c8).symm.trans h
      refine lv_aload_n hx hb dX10_share_20 rfl (lv_at hl 0 rfl) ?_
      refine va_get (D := D) (ci := 5) (v := .ref (a 3)) (C := RX10) (T := TX10) (N := 8) hx hb hts hi10 hown hK hP (0) (rfl) rfl 2 (by decide) kf26 (fun _ h9 => h9) rfl dX10_share_21 ?_
      obtain ⟨o9, eq10, h⟩ := bnd_some h
      refine kRiV (rest := []) (q0 := 3) ⟨hx, hb, hml, hown, hts⟩ (c_X6_isFaulty l D k a xLen xHits xUns xItems xLost xKind xSize xLet xRel xLim xOpen xMeas xSL xST xSD xSK xTal xKn xFT xFA xFE xOdds xPat xFind  eq10) (cwV 0 hts (gAV wm_437 wm_438 wm_439 wm_22 wm_440) rfl rfl rfl qd_X6_isFaulty ⟨Nat.le_of_ble_eq_true rfl, Nat.le_of_ble_eq_true rfl⟩) hK hP (rfl) rfl rfl hl.1 rfl (Nat.le_of_ble_eq_true rfl) dX10_share_24 ⟨Nat.zero_le _, Nat.zero_le _⟩ ?_
      refine lv_if_eq (tgt := 36) hx hb dX10_share_27 (by decide) (fun c11 => ?_) (fun c11 => ?_)
      · replace h := (if_pos c11).symm.trans h
        refine lv_aload_n hx hb dX10_share_36 rfl (lv_at hl 0 rfl) ?_
        refine va_get (D := D) (ci := 5) (v := .ref (a 9)) (C := RX10) (T := TX10) (N := 8) hx hb hts hi10 hown hK hP (0) (rfl) rfl 3 (by decide) kf33 (fun _ h9 => h9) rfl dX10_share_37 ?_
        refine lv_iload_n hx hb dX10_share_40 rfl (lv_at hl 1 rfl) ?_
        refine lv_aload_n hx hb dX10_share_41 rfl (lv_at hl 0 rfl) ?_
        refine va_get (D := D) (ci := 5) (v := .ref (a 3)) (C := RX10) (T := TX10) (N := 8) hx hb hts hi10 hown hK hP (0) (rfl) rfl 2 (by decide) kf26 (fun _ h9 => h9) rfl dX10_share_42 ?_
        refine lv_aload_n hx hb dX10_share_45 rfl (lv_at hl 0 rfl) ?_
        refine va_get (D := D) (ci := 5) (v := .int xPat) (C := RX10) (T := TX10) (N := 8) hx hb hts hi10 hown hK hP (0) (rfl) rfl 6 (by decide) kf48 (fun _ h9 => h9) rfl dX10_share_46 ?_
        obtain ⟨o12, eq13, h⟩ := bnd_some h
        refine kQvV (rest := []) (q0 := 9) ⟨hx, hb, hml, hown, hts⟩ (c_X8_learn l D k a xLen xHits xUns xItems xLost xKind xSize xLet xRel xLim xOpen xMeas xSL xST xSD xSK xTal xKn xFT xFA xFE xOdds xPat xFind x1 xPat eq13) (cwV 3 hts (gAV wm_467 wm_468 wm_469 wm_26 wm_470) rfl rfl rfl qd_X8_learn ⟨Nat.le_of_ble_eq_true rfl, Nat.le_of_ble_eq_true rfl⟩) hK hP hD hS hA (rfl) rfl rfl hl.1 rfl (Nat.le_of_ble_eq_true rfl) dX10_share_49 ⟨Nat.zero_le _, Nat.zero_le _⟩ (fun H locs hP hD hS => ?_)
        have hP : va_P D vwCl (wX k a xLen xHits xUns xItems xLost xKind xSize xLet xRel xLim xOpen o12.1 xSL xST xSD xSK o12.2.1 o12.2.2 xFT xFA xFE xOdds xPat xFind) H := hP
        have hD : va_D A (wX k a xLen xHits xUns xItems xLost xKind xSize xLet xRel xLim xOpen o12.1 xSL xST xSD xSK o12.2.1 o12.2.2 xFT xFA xFE xOdds xPat xFind) := hD
        refine lv_aload_n hx hb dX10_share_52 rfl (lv_at hl 0 rfl) ?_
        refine va_get (D := D) (ci := 5) (v := .ref (a 9)) (C := RX10) (T := TX10) (N := 8) hx hb hts hi10 hown hK hP (0) (rfl) rfl 3 (by decide) kf33 (fun _ h9 => h9) rfl dX10_share_53 ?_
        refine va_get (D := D) (ci := 4) (v := .ref (a 10)) (C := RX8) (T := TX8) (N := 2) hx hb hts hi8 hown hK hP (9) (rfl) rfl 0 (by decide) kf133 (fun _ h9 => h9) rfl dX10_share_56 ?_
        refine lv_iload_n hx hb dX10_share_59 rfl (lv_at hl 1 rfl) ?_
        obtain ⟨g14, h⟩ := gIn_some h
        refine xa_aldA hx hb hK hP (10) 4 rfl rfl g14 dX10_share_60 ?_
        refine W.eq (g2 := F0 m 61 ls [.ref (a (26 + x1.toNatClampNeg))]) rfl ?_
        refine lv_iload_n hx hb dX10_share_61 rfl (lv_at hl 1 rfl) ?_
        refine lv_aload_n hx hb dX10_share_62 rfl (lv_at hl 0 rfl) ?_
        refine va_get (D := D) (ci := 5) (v := .int xOdds) (C := RX10) (T := TX10) (N := 8) hx hb hts hi10 hown hK hP (0) (rfl) rfl 5 (by decide) kf44 (fun _ h9 => h9) rfl dX10_share_63 ?_
        refine lv_iload_n hx hb dX10_share_66 rfl (lv_at hl 2 rfl) ?_
        obtain ⟨o15, eq16, h⟩ := bnd_some h
        refine kRlS (rest := []) ⟨hx, hb, hml, hown, hts⟩ (c_X9_sharePart l D k (wX k a xLen xHits xUns xItems xLost xKind xSize xLet xRel xLim xOpen o12.1 xSL xST xSD xSK o12.2.1 o12.2.2 xFT xFA xFE xOdds xPat xFind) ((26 + x1.toNatClampNeg)) (a (26 + x1.toNatClampNeg)) (o12.2.1 x1.toNatClampNeg) (wX_tal (vp_in_lt g14)) x1 xOdds x2 eq16) (va_cwS 4 hts (gAS wm_504 wm_505 wm_475 wm_506) rfl rfl rfl qd_X9_sharePart ⟨Nat.le_of_ble_eq_true rfl, Nat.le_of_ble_eq_true rfl⟩) hK hP rfl hl.1 rfl (Nat.le_of_ble_eq_true rfl) dX10_share_67 ⟨Nat.zero_le _, Nat.zero_le _⟩ ?_
        have he := Option.some.inj h
        exact W.lret (v := o15) hx hb hr (fun t ht hW => ⟨⟨o15, wX k a xLen xHits xUns xItems xLost xKind xSize xLet xRel xLim xOpen o12.1 xSL xST xSD xSK o12.2.1 o12.2.2 xFT xFA xFE xOdds xPat xFind, rfl, ⟨(congrArg (fun z => z.1) he), (congrArg (fun z => wX k a xLen xHits xUns xItems xLost xKind xSize xLet xRel xLim xOpen z.2.1 xSL xST xSD xSK z.2.2.1 z.2.2.2 xFT xFA xFE xOdds xPat xFind) he)⟩, by rw [ht]; exact hP, va_K.moved hW.alike hK, hD⟩, hS.F ht⟩) hS.2.2 dX10_share_70
      · replace h := (if_neg c11).symm.trans h
        refine lv_bipush (v := (-3)) hx hb dX10_share_30 (by decide) ?_
        obtain ⟨o17, eq18, h⟩ := bnd_some h
        refine kPl (rest := []) ⟨hx, hb, hml, hown, hts⟩ (c_X10_refusal l (-3) eq18) (va_cwS 1 hts (gAS wm_500 wm_501 wm_2 wm_502) rfl rfl rfl qd_X10_refusal ⟨Nat.le_of_ble_eq_true rfl, Nat.le_of_ble_eq_true rfl⟩) rfl hl.1 rfl (Nat.le_of_ble_eq_true rfl) dX10_share_32 ⟨Nat.zero_le _, Nat.zero_le _⟩ ?_
        have he := Option.some.inj h
        exact W.lret (v := o17) hx hb hr (fun t ht hW => ⟨⟨o17, wX k a xLen xHits xUns xItems xLost xKind xSize xLet xRel xLim xOpen xMeas xSL xST xSD xSK xTal xKn xFT xFA xFE xOdds xPat xFind, rfl, ⟨(congrArg (fun z => z.1) he), (congrArg (fun z => wX k a xLen xHits xUns xItems xLost xKind xSize xLet xRel xLim xOpen z.2.1 xSL xST xSD xSK z.2.2.1 z.2.2.2 xFT xFA xFE xOdds xPat xFind) he)⟩, by rw [ht]; exact hP, va_K.moved hW.alike hK, hD⟩, hS.F ht⟩) hS.2.2 dX10_share_35
    · replace h := (if_pos c8).symm.trans h
      refine lv_bipush (v := (-2)) hx hb dX10_share_14 (by decide) ?_
      obtain ⟨o19, eq20, h⟩ := bnd_some h
      refine kPl (rest := []) ⟨hx, hb, hml, hown, hts⟩ (c_X10_refusal l (-2) eq20) (va_cwS 1 hts (gAS wm_500 wm_501 wm_2 wm_502) rfl rfl rfl qd_X10_refusal ⟨Nat.le_of_ble_eq_true rfl, Nat.le_of_ble_eq_true rfl⟩) rfl hl.1 rfl (Nat.le_of_ble_eq_true rfl) dX10_share_16 ⟨Nat.zero_le _, Nat.zero_le _⟩ ?_
      have he := Option.some.inj h
      exact W.lret (v := o19) hx hb hr (fun t ht hW => ⟨⟨o19, wX k a xLen xHits xUns xItems xLost xKind xSize xLet xRel xLim xOpen xMeas xSL xST xSD xSK xTal xKn xFT xFA xFE xOdds xPat xFind, rfl, ⟨(congrArg (fun z => z.1) he), (congrArg (fun z => wX k a xLen xHits xUns xItems xLost xKind xSize xLet xRel xLim xOpen z.2.1 xSL xST xSD xSK z.2.2.1 z.2.2.2 xFT xFA xFE xOdds xPat xFind) he)⟩, by rw [ht]; exact hP, va_K.moved hW.alike hK, hD⟩, hS.F ht⟩) hS.2.2 dX10_share_19
set_option maxHeartbeats 4000000 in
set_option maxRecDepth 100000 in
theorem c_X10_share {N : Nat} (l : Launch) (D : va_G) (k : Nat → ClassId) (a : Nat → Nat) (xLen : Nat → Int32) (xHits : Nat → Int32) (xUns : Nat → Int32) (xItems : Nat → Nat → Int32) (xLost : Nat → Int32) (xKind : Nat → Int32) (xSize : Nat → Int32) (xLet : Nat → Int32) (xRel : Nat → Int32) (xLim : Nat → Int32) (xOpen : Nat → Int32) (xMeas : Nat → Int32) (xSL : Int32) (xST : Int32) (xSD : Int32) (xSK : Int32) (xTal : Nat → Nat → Int32) (xKn : Nat → Int32) (xFT : Nat → Int32) (xFA : Int32) (xFE : Int32) (xOdds : Int32) (xPat : Int32) (xFind : Int32) (x1 : Int32) (x2 : Int32) {o : Int64 × (Nat → Int32) × (Nat → Nat → Int32) × (Nat → Int32)} (h : f_X10_share N x1 x2 xLet xRel xLim xOpen xMeas xSL xST xSD xSK xTal xKn xOdds xPat = some o) : mQl l yX10_share wo_X10_share 5 D k [.ref (a 0), .int x1, .int x2] (wX k a xLen xHits xUns xItems xLost xKind xSize xLet xRel xLim xOpen xMeas xSL xST xSD xSK xTal xKn xFT xFA xFE xOdds xPat xFind) o.1 (wX k a xLen xHits xUns xItems xLost xKind xSize xLet xRel xLim xOpen o.2.1 xSL xST xSD xSK o.2.2.1 o.2.2.2 xFT xFA xFE xOdds xPat xFind) := by
  intro sz
  refine Met.ofW (cc := cX10_share) (maxL := 3) (ret := some .long) (by decide) rfl ?_
  intro p e s m args below meth c s₁ B hml hv
  obtain ⟨rfl, hsz, hP, hK, hD0⟩ := hv
  subst hsz
  rw [lg_entry_eq]
  exact core_X10_share D k a xLen xHits xUns xItems xLost xKind xSize xLet xRel xLim xOpen xMeas xSL xST xSD xSK xTal xKn xFT xFA xFE xOdds xPat xFind x1 x2 B.exec B.bytes hml B.returns (atoms_spec (ws := wo_X10_share) B.pre) (findClass_of_methodNamed B.named) B.notSynchronized (lv_entry [.ref (a 0), .int x1, .int x2] (n := 3) (Nat.le_of_ble_eq_true rfl)) hK hP hD0.self (fun q h => Or.inr h) h
theorem qd_X10_share : yX10_share.cls = RX10 ∧ yX10_share.cls ≠ "java/lang/invoke/MethodHandle" ∧ yX10_share.cls ≠ "java/lang/invoke/VarHandle" ∧ (parseMethodDescriptor yX10_share.desc).map (fun d => d.parameters.length) = some 2 := by decide +kernel
abbrev wo_X10_fills : List Cond := .code yX10_fills cX10_fills 3 (some .int) :: wsL_law
set_option maxHeartbeats 4000000 in
set_option maxRecDepth 100000 in
theorem core_X10_fills {N : Nat} (D : va_G) (k : Nat → ClassId) (a : Nat → Nat) (xLen : Nat → Int32) (xHits : Nat → Int32) (xUns : Nat → Int32) (xItems : Nat → Nat → Int32) (xLost : Nat → Int32) (xKind : Nat → Int32) (xSize : Nat → Int32) (xLet : Nat → Int32) (xRel : Nat → Int32) (xLim : Nat → Int32) (xOpen : Nat → Int32) (xMeas : Nat → Int32) (xSL : Int32) (xST : Int32) (xSD : Int32) (xSK : Int32) (xTal : Nat → Nat → Int32) (xKn : Nat → Int32) (xFT : Nat → Int32) (xFA : Int32) (xFE : Int32) (xOdds : Int32) (xPat : Int32) (xFind : Int32) (x1 : Int32) (x2 : Int32) {p : Program} {l : Launch} {e : Env} {s : State} {m : MethodId} {args : Array Value} {below : List Frame} {meth : Method} {c : Code} {ls : Array Slot} (hx : p.tables.exec = Jvm.exec) (hb : c.code = cX10_fills) (hml : c.maxLocals = 3) (hr : meth.sig.returnType = some .int) (hts : ∀ w ∈ wo_X10_fills, w.before args s = true) (hown : s.vm.findClass RX10 = some m.cls) (hlocks : meth.locks = false) (hl : lv_has ls 3 [(0, .ref (a 0)), (1, .int x1), (2, .int x2)]) (hK : va_K D vwCl (xTys k) s) (hP : va_P D vwCl (wX k a xLen xHits xUns xItems xLost xKind xSize xLet xRel xLim xOpen xMeas xSL xST xSD xSK xTal xKn xFT xFA xFE xOdds xPat xFind) s.heap) {A : Nat → Prop} (hD : va_D A (wX k a xLen xHits xUns xItems xLost xKind xSize xLet xRel xLim xOpen xMeas xSL xST xSD xSK xTal xKn xFT xFA xFE xOdds xPat xFind)) (hA : ∀ q : Nat, s.heap.size ≤ q → A q) {o : Int32 × (Nat → Int32) × (Nat → Int32) × (Int32) × (Int32)} (h : f_X10_fills N x1 x2 xLen xHits xUns xLet xRel xLim xOpen xMeas xSL xST xSD xSK xFT xFA xFE xPat = some o) : gQi p l e wo_X10_fills 5 s m args below meth c D k A o.1 (wX k a xLen xHits xUns xItems xLost xKind xSize xLet xRel xLim xOpen o.2.1 xSL xST xSD xSK xTal xKn o.2.2.1 o.2.2.2.1 o.2.2.2.2 xOdds xPat xFind) s.heap [] (F0 m 0 ls []) := by
  have hi10 := (fun w h => List.mem_cons_of_mem _ (inlX10 w h) : ∀ w ∈ wsX100, w ∈ wo_X10_fills)
  have kf26 := hts _ (List.mem_cons_of_mem _ wm_23)
  have kf40 := hts _ (List.mem_cons_of_mem _ wm_31)
  have kf11 := hts _ (List.mem_cons_of_mem _ wm_13)
  have kf48 := hts _ (List.mem_cons_of_mem _ wm_33)
  have hi0 := (fun w h => List.mem_cons_of_mem _ (inlX0 w h) : ∀ w ∈ wsX00, w ∈ wo_X10_fills)
  have kf165 := hts _ (List.mem_cons_of_mem _ wm_538)
  have hi5 := (fun w h => List.mem_cons_of_mem _ (inlX5 w h) : ∀ w ∈ wsX50, w ∈ wo_X10_fills)
  have kf154 := hts _ (List.mem_cons_of_mem _ wm_537)
  unfold f_X10_fills at h
  have hS : va_S A s.heap s.heap [] := va_S.rf
  obtain ⟨H, hH⟩ : ∃ H : Heap, H = s.heap := ⟨_, rfl⟩
  obtain ⟨locs, hlc⟩ : ∃ locs : List Loc, locs = [] := ⟨_, rfl⟩
  have hS : va_S A s.heap H locs := by rw [hH, hlc]; exact va_S.rf
  have hP : va_P D vwCl (wX k a xLen xHits xUns xItems xLost xKind xSize xLet xRel xLim xOpen xMeas xSL xST xSD xSK xTal xKn xFT xFA xFE xOdds xPat xFind) H := by rw [hH]; exact hP
  suffices hGo : gQi p l e wo_X10_fills 5 s m args below meth c D k A o.1 (wX k a xLen xHits xUns xItems xLost xKind xSize xLet xRel xLim xOpen o.2.1 xSL xST xSD xSK xTal xKn o.2.2.1 o.2.2.2.1 o.2.2.2.2 xOdds xPat xFind) H locs (F0 m 0 ls []) by rw [hH, hlc] at hGo; exact hGo
  refine lv_iload_n hx hb dX10_fills_0 rfl (lv_at hl 1 rfl) ?_
  obtain ⟨o1, eq2, h⟩ := bnd_some h
  refine kPi (rest := []) ⟨hx, hb, hml, hown, hts⟩ (c_X10_isRow l x1 eq2) (va_cwS 1 hts (gAS wm_92 wm_93 wm_2 wm_94) rfl rfl rfl qd_X10_isRow ⟨Nat.le_of_ble_eq_true rfl, Nat.le_of_ble_eq_true rfl⟩) rfl hl.1 rfl (Nat.le_of_ble_eq_true rfl) dX10_fills_1 ⟨Nat.zero_le _, Nat.zero_le _⟩ ?_
  refine lv_if_eq (tgt := 14) hx hb dX10_fills_4 (by decide) (fun c3 => ?_) (fun c3 => ?_)
  · replace h := (if_pos c3).symm.trans h
    refine lv_bipush (v := (-2)) hx hb dX10_fills_14 (by decide) ?_
    have he := Option.some.inj h
    exact W.iret (v := (-2)) hx hb hr (fun t ht hW => ⟨⟨(-2), wX k a xLen xHits xUns xItems xLost xKind xSize xLet xRel xLim xOpen xMeas xSL xST xSD xSK xTal xKn xFT xFA xFE xOdds xPat xFind, rfl, ⟨(congrArg (fun z => z.1) he), (congrArg (fun z => wX k a xLen xHits xUns xItems xLost xKind xSize xLet xRel xLim xOpen z.2.1 xSL xST xSD xSK xTal xKn z.2.2.1 z.2.2.2.1 z.2.2.2.2 xOdds xPat xFind) he)⟩, by rw [ht]; exact hP, va_K.moved hW.alike hK, hD⟩, hS.F ht⟩) hS.2.2 dX10_fills_16
  · replace h := (if_neg c3).symm.trans h
    refine lv_iload_n hx hb dX10_fills_7 rfl (lv_at hl 2 rfl) ?_
    obtain ⟨o4, eq5, h⟩ := bnd_some h
    refine kPi (rest := []) ⟨hx, hb, hml, hown, hts⟩ (c_X10_isPart l x2 eq5) (va_cwS 1 hts (gAS wm_497 wm_498 wm_2 wm_499) rfl rfl rfl qd_X10_isPart ⟨Nat.le_of_ble_eq_true rfl, Nat.le_of_ble_eq_true rfl⟩) rfl hl.1 rfl (Nat.le_of_ble_eq_true rfl) dX10_fills_8 ⟨Nat.zero_le _, Nat.zero_le _⟩ ?_
    refine lv_if_ne (tgt := 17) hx hb dX10_fills_11 (by decide) (fun c6 => ?_) (fun c6 => ?_)
    · replace h := (if_neg c6).symm.trans h
      refine lv_iload_n hx hb dX10_fills_17 rfl (lv_at hl 2 rfl) ?_
      refine lv_if_ne (tgt := 36) hx hb dX10_fills_18 (by decide) (fun c7 => ?_) (fun c7 => ?_)
      · replace h := (if_neg c7).symm.trans h
        refine lv_aload_n hx hb dX10_fills_36 rfl (lv_at hl 0 rfl) ?_
        refine va_get (D := D) (ci := 5) (v := .ref (a 3)) (C := RX10) (T := TX10) (N := 8) hx hb hts hi10 hown hK hP (0) (rfl) rfl 2 (by decide) kf26 (fun _ h9 => h9) rfl dX10_fills_37 ?_
        obtain ⟨o8, eq9, h⟩ := bnd_some h
        refine kRiV (rest := []) (q0 := 3) ⟨hx, hb, hml, hown, hts⟩ (c_X6_isFaulty l D k a xLen xHits xUns xItems xLost xKind xSize xLet xRel xLim xOpen xMeas xSL xST xSD xSK xTal xKn xFT xFA xFE xOdds xPat xFind  eq9) (cwV 0 hts (gAV wm_437 wm_438 wm_439 wm_22 wm_440) rfl rfl rfl qd_X6_isFaulty ⟨Nat.le_of_ble_eq_true rfl, Nat.le_of_ble_eq_true rfl⟩) hK hP (rfl) rfl rfl hl.1 rfl (Nat.le_of_ble_eq_true rfl) dX10_fills_40 ⟨Nat.zero_le _, Nat.zero_le _⟩ ?_
        refine lv_if_eq (tgt := 49) hx hb dX10_fills_43 (by decide) (fun c10 => ?_) (fun c10 => ?_)
        · replace h := (if_pos c10).symm.trans h
          refine lv_aload_n hx hb dX10_fills_49 rfl (lv_at hl 0 rfl) ?_
          refine va_get (D := D) (ci := 5) (v := .ref (a 12)) (C := RX10) (T := TX10) (N := 8) hx hb hts hi10 hown hK hP (0) (rfl) rfl 4 (by decide) kf40 (fun _ h9 => h9) rfl dX10_fills_50 ?_
          refine lv_aload_n hx hb dX10_fills_53 rfl (lv_at hl 0 rfl) ?_
          refine va_get (D := D) (ci := 5) (v := .ref (a 1)) (C := RX10) (T := TX10) (N := 8) hx hb hts hi10 hown hK hP (0) (rfl) rfl 0 (by decide) kf11 (fun _ h9 => h9) rfl dX10_fills_54 ?_
          refine lv_iload_n hx hb dX10_fills_57 rfl (lv_at hl 1 rfl) ?_
          obtain ⟨g11, h⟩ := gIn_some h
          refine va_aldq hx hb hK hP (1) 2 rfl rfl g11 dX10_fills_58 ?_
          refine W.eq (g2 := F0 m 59 ls [.ref (a (14 + x1.toNatClampNeg)), .ref (a 12)]) rfl ?_
          refine lv_aload_n hx hb dX10_fills_59 rfl (lv_at hl 0 rfl) ?_
          refine va_get (D := D) (ci := 5) (v := .ref (a 3)) (C := RX10) (T := TX10) (N := 8) hx hb hts hi10 hown hK hP (0) (rfl) rfl 2 (by decide) kf26 (fun _ h9 => h9) rfl dX10_fills_60 ?_
          refine lv_aload_n hx hb dX10_fills_63 rfl (lv_at hl 0 rfl) ?_
          refine va_get (D := D) (ci := 5) (v := .int xPat) (C := RX10) (T := TX10) (N := 8) hx hb hts hi10 hown hK hP (0) (rfl) rfl 6 (by decide) kf48 (fun _ h9 => h9) rfl dX10_fills_64 ?_
          obtain ⟨o12, eq13, h⟩ := bnd_some h
          refine kQvV (rest := []) (q0 := 12) ⟨hx, hb, hml, hown, hts⟩ (c_X0_learn l D k a xLen xHits xUns xItems xLost xKind xSize xLet xRel xLim xOpen xMeas xSL xST xSD xSK xTal xKn xFT xFA xFE xOdds xPat xFind x1.toNatClampNeg (vp_in_lt g11) xPat eq13) (cwV 3 hts (gAV wm_540 wm_541 wm_542 wm_30 wm_543) rfl rfl rfl qd_X0_learn ⟨Nat.le_of_ble_eq_true rfl, Nat.le_of_ble_eq_true rfl⟩) hK hP hD hS hA (rfl) rfl rfl hl.1 rfl (Nat.le_of_ble_eq_true rfl) dX10_fills_67 ⟨Nat.zero_le _, Nat.zero_le _⟩ (fun H locs hP hD hS => ?_)
          have hP : va_P D vwCl (wX k a xLen xHits xUns xItems xLost xKind xSize xLet xRel xLim xOpen o12.1 xSL xST xSD xSK xTal xKn o12.2.1 o12.2.2.1 o12.2.2.2 xOdds xPat xFind) H := hP
          have hD : va_D A (wX k a xLen xHits xUns xItems xLost xKind xSize xLet xRel xLim xOpen o12.1 xSL xST xSD xSK xTal xKn o12.2.1 o12.2.2.1 o12.2.2.2 xOdds xPat xFind) := hD
          refine lv_aload_n hx hb dX10_fills_70 rfl (lv_at hl 0 rfl) ?_
          refine va_get (D := D) (ci := 5) (v := .ref (a 12)) (C := RX10) (T := TX10) (N := 8) hx hb hts hi10 hown hK hP (0) (rfl) rfl 4 (by decide) kf40 (fun _ h9 => h9) rfl dX10_fills_71 ?_
          refine va_get (D := D) (ci := 0) (v := .ref (a 13)) (C := RX0) (T := TX0) (N := 3) hx hb hts hi0 hown hK hP (12) (rfl) rfl 0 (by decide) kf165 (fun _ h9 => h9) rfl dX10_fills_74 ?_
          obtain ⟨o14, eq15, h⟩ := bnd_some h
          refine kRiS (rest := []) ⟨hx, hb, hml, hown, hts⟩ (c_X9_sum l D k (wX k a xLen xHits xUns xItems xLost xKind xSize xLet xRel xLim xOpen o12.1 xSL xST xSD xSK xTal xKn o12.2.1 o12.2.2.1 o12.2.2.2 xOdds xPat xFind) (13) (a 13) o12.2.1 (rfl)  eq15) (va_cwS 1 hts (gAS wm_473 wm_474 wm_475 wm_476) rfl rfl rfl qd_X9_sum ⟨Nat.le_of_ble_eq_true rfl, Nat.le_of_ble_eq_true rfl⟩) hK hP rfl hl.1 rfl (Nat.le_of_ble_eq_true rfl) dX10_fills_77 ⟨Nat.zero_le _, Nat.zero_le _⟩ ?_
          have he := Option.some.inj h
          exact W.iret (v := o14) hx hb hr (fun t ht hW => ⟨⟨o14, wX k a xLen xHits xUns xItems xLost xKind xSize xLet xRel xLim xOpen o12.1 xSL xST xSD xSK xTal xKn o12.2.1 o12.2.2.1 o12.2.2.2 xOdds xPat xFind, rfl, ⟨(congrArg (fun z => z.1) he), (congrArg (fun z => wX k a xLen xHits xUns xItems xLost xKind xSize xLet xRel xLim xOpen z.2.1 xSL xST xSD xSK xTal xKn z.2.2.1 z.2.2.2.1 z.2.2.2.2 xOdds xPat xFind) he)⟩, by rw [ht]; exact hP, va_K.moved hW.alike hK, hD⟩, hS.F ht⟩) hS.2.2 dX10_fills_80
        · replace h := (if_neg c10).symm.trans h
          refine lv_bipush (v := (-3)) hx hb dX10_fills_46 (by decide) ?_
          have he := Option.some.inj h
          exact W.iret (v := (-3)) hx hb hr (fun t ht hW => ⟨⟨(-3), wX k a xLen xHits xUns xItems xLost xKind xSize xLet xRel xLim xOpen xMeas xSL xST xSD xSK xTal xKn xFT xFA xFE xOdds xPat xFind, rfl, ⟨(congrArg (fun z => z.1) he), (congrArg (fun z => wX k a xLen xHits xUns xItems xLost xKind xSize xLet xRel xLim xOpen z.2.1 xSL xST xSD xSK xTal xKn z.2.2.1 z.2.2.2.1 z.2.2.2.2 xOdds xPat xFind) he)⟩, by rw [ht]; exact hP, va_K.moved hW.alike hK, hD⟩, hS.F ht⟩) hS.2.2 dX10_fills_48
      · replace h := (if_pos c7).symm.trans h
        refine lv_iconst (v := 1) hx hb dX10_fills_21 (by decide) ?_
        refine lv_aload_n hx hb dX10_fills_22 rfl (lv_at hl 0 rfl) ?_
        refine va_get (D := D) (ci := 5) (v := .ref (a 1)) (C := RX10) (T := TX10) (N := 8) hx hb hts hi10 hown hK hP (0) (rfl) rfl 0 (by decide) kf11 (fun _ h9 => h9) rfl dX10_fills_23 ?_
        refine lv_iload_n hx hb dX10_fills_26 rfl (lv_at hl 1 rfl) ?_
        obtain ⟨g16, h⟩ := gIn_some h
        refine va_aldq hx hb hK hP (1) 2 rfl rfl g16 dX10_fills_27 ?_
        refine W.eq (g2 := F0 m 28 ls [.ref (a (14 + x1.toNatClampNeg)), .int 1]) rfl ?_
        refine va_get (D := D) (ci := 1) (v := .int (xUns x1.toNatClampNeg)) (C := RX5) (T := TX5) (N := 3) hx hb hts hi5 hown hK hP ((14 + x1.toNatClampNeg)) (wX_row (vp_in_lt g16)) rfl 2 (by decide) kf154 (fun _ h9 => h9) rfl dX10_fills_28 ?_
        obtain ⟨o17, eq18, h⟩ := bnd_some h
        refine kPi (rest := [.int 1]) ⟨hx, hb, hml, hown, hts⟩ (c_J6_bitCount_0f7a4 l (xUns x1.toNatClampNeg) eq18) (va_cwS 1 hts (gAS wm_539 wm_210 wm_211 wm_212) rfl rfl rfl qd_J6_bitCount_0f7a4 ⟨Nat.le_of_ble_eq_true rfl, Nat.le_of_ble_eq_true rfl⟩) rfl hl.1 rfl (Nat.le_of_ble_eq_true rfl) dX10_fills_31 ⟨Nat.zero_le _, Nat.zero_le _⟩ ?_
        refine lv_ishl hx hb dX10_fills_34 ?_
        have he := Option.some.inj h
        exact W.iret (v := ((1 : Int32) <<< (o17 &&& 31))) hx hb hr (fun t ht hW => ⟨⟨((1 : Int32) <<< (o17 &&& 31)), wX k a xLen xHits xUns xItems xLost xKind xSize xLet xRel xLim xOpen xMeas xSL xST xSD xSK xTal xKn xFT xFA xFE xOdds xPat xFind, rfl, ⟨(congrArg (fun z => z.1) he), (congrArg (fun z => wX k a xLen xHits xUns xItems xLost xKind xSize xLet xRel xLim xOpen z.2.1 xSL xST xSD xSK xTal xKn z.2.2.1 z.2.2.2.1 z.2.2.2.2 xOdds xPat xFind) he)⟩, by rw [ht]; exact hP, va_K.moved hW.alike hK, hD⟩, hS.F ht⟩) hS.2.2 dX10_fills_35
    · replace h := (if_pos c6).symm.trans h
      refine lv_bipush (v := (-2)) hx hb dX10_fills_14 (by decide) ?_
      have he := Option.some.inj h
      exact W.iret (v := (-2)) hx hb hr (fun t ht hW => ⟨⟨(-2), wX k a xLen xHits xUns xItems xLost xKind xSize xLet xRel xLim xOpen xMeas xSL xST xSD xSK xTal xKn xFT xFA xFE xOdds xPat xFind, rfl, ⟨(congrArg (fun z => z.1) he), (congrArg (fun z => wX k a xLen xHits xUns xItems xLost xKind xSize xLet xRel xLim xOpen z.2.1 xSL xST xSD xSK xTal xKn z.2.2.1 z.2.2.2.1 z.2.2.2.2 xOdds xPat xFind) he)⟩, by rw [ht]; exact hP, va_K.moved hW.alike hK, hD⟩, hS.F ht⟩) hS.2.2 dX10_fills_16
set_option maxHeartbeats 4000000 in
set_option maxRecDepth 100000 in
theorem c_X10_fills {N : Nat} (l : Launch) (D : va_G) (k : Nat → ClassId) (a : Nat → Nat) (xLen : Nat → Int32) (xHits : Nat → Int32) (xUns : Nat → Int32) (xItems : Nat → Nat → Int32) (xLost : Nat → Int32) (xKind : Nat → Int32) (xSize : Nat → Int32) (xLet : Nat → Int32) (xRel : Nat → Int32) (xLim : Nat → Int32) (xOpen : Nat → Int32) (xMeas : Nat → Int32) (xSL : Int32) (xST : Int32) (xSD : Int32) (xSK : Int32) (xTal : Nat → Nat → Int32) (xKn : Nat → Int32) (xFT : Nat → Int32) (xFA : Int32) (xFE : Int32) (xOdds : Int32) (xPat : Int32) (xFind : Int32) (x1 : Int32) (x2 : Int32) {o : Int32 × (Nat → Int32) × (Nat → Int32) × (Int32) × (Int32)} (h : f_X10_fills N x1 x2 xLen xHits xUns xLet xRel xLim xOpen xMeas xSL xST xSD xSK xFT xFA xFE xPat = some o) : mQi l yX10_fills wo_X10_fills 5 D k [.ref (a 0), .int x1, .int x2] (wX k a xLen xHits xUns xItems xLost xKind xSize xLet xRel xLim xOpen xMeas xSL xST xSD xSK xTal xKn xFT xFA xFE xOdds xPat xFind) o.1 (wX k a xLen xHits xUns xItems xLost xKind xSize xLet xRel xLim xOpen o.2.1 xSL xST xSD xSK xTal xKn o.2.2.1 o.2.2.2.1 o.2.2.2.2 xOdds xPat xFind) := by
  intro sz
  refine Met.ofW (cc := cX10_fills) (maxL := 3) (ret := some .int) (by decide) rfl ?_
  intro p e s m args below meth c s₁ B hml hv
  obtain ⟨rfl, hsz, hP, hK, hD0⟩ := hv
  subst hsz
  rw [lg_entry_eq]
  exact core_X10_fills D k a xLen xHits xUns xItems xLost xKind xSize xLet xRel xLim xOpen xMeas xSL xST xSD xSK xTal xKn xFT xFA xFE xOdds xPat xFind x1 x2 B.exec B.bytes hml B.returns (atoms_spec (ws := wo_X10_fills) B.pre) (findClass_of_methodNamed B.named) B.notSynchronized (lv_entry [.ref (a 0), .int x1, .int x2] (n := 3) (Nat.le_of_ble_eq_true rfl)) hK hP hD0.self (fun q h => Or.inr h) h
theorem qd_X10_fills : yX10_fills.cls = RX10 ∧ yX10_fills.cls ≠ "java/lang/invoke/MethodHandle" ∧ yX10_fills.cls ≠ "java/lang/invoke/VarHandle" ∧ (parseMethodDescriptor yX10_fills.desc).map (fun d => d.parameters.length) = some 2 := by decide +kernel
abbrev wo_X10_filled : List Cond := .code yX10_filled cX10_filled 3 (some .long) :: wsL_law
set_option maxHeartbeats 4000000 in
set_option maxRecDepth 100000 in
theorem core_X10_filled {N : Nat} (D : va_G) (k : Nat → ClassId) (a : Nat → Nat) (xLen : Nat → Int32) (xHits : Nat → Int32) (xUns : Nat → Int32) (xItems : Nat → Nat → Int32) (xLost : Nat → Int32) (xKind : Nat → Int32) (xSize : Nat → Int32) (xLet : Nat → Int32) (xRel : Nat → Int32) (xLim : Nat → Int32) (xOpen : Nat → Int32) (xMeas : Nat → Int32) (xSL : Int32) (xST : Int32) (xSD : Int32) (xSK : Int32) (xTal : Nat → Nat → Int32) (xKn : Nat → Int32) (xFT : Nat → Int32) (xFA : Int32) (xFE : Int32) (xOdds : Int32) (xPat : Int32) (xFind : Int32) (x1 : Int32) (x2 : Int32) {p : Program} {l : Launch} {e : Env} {s : State} {m : MethodId} {args : Array Value} {below : List Frame} {meth : Method} {c : Code} {ls : Array Slot} (hx : p.tables.exec = Jvm.exec) (hb : c.code = cX10_filled) (hml : c.maxLocals = 3) (hr : meth.sig.returnType = some .long) (hts : ∀ w ∈ wo_X10_filled, w.before args s = true) (hown : s.vm.findClass RX10 = some m.cls) (hlocks : meth.locks = false) (hl : lv_has ls 3 [(0, .ref (a 0)), (1, .int x1), (2, .int x2)]) (hK : va_K D vwCl (xTys k) s) (hP : va_P D vwCl (wX k a xLen xHits xUns xItems xLost xKind xSize xLet xRel xLim xOpen xMeas xSL xST xSD xSK xTal xKn xFT xFA xFE xOdds xPat xFind) s.heap) {A : Nat → Prop} (hD : va_D A (wX k a xLen xHits xUns xItems xLost xKind xSize xLet xRel xLim xOpen xMeas xSL xST xSD xSK xTal xKn xFT xFA xFE xOdds xPat xFind)) (hA : ∀ q : Nat, s.heap.size ≤ q → A q) {o : Int64 × (Nat → Int32) × (Nat → Int32) × (Int32) × (Int32)} (h : f_X10_filled N x1 x2 xLen xHits xUns xLet xRel xLim xOpen xMeas xSL xST xSD xSK xFT xFA xFE xOdds xPat = some o) : gQl p l e wo_X10_filled 5 s m args below meth c D k A o.1 (wX k a xLen xHits xUns xItems xLost xKind xSize xLet xRel xLim xOpen o.2.1 xSL xST xSD xSK xTal xKn o.2.2.1 o.2.2.2.1 o.2.2.2.2 xOdds xPat xFind) s.heap [] (F0 m 0 ls []) := by
  have hi10 := (fun w h => List.mem_cons_of_mem _ (inlX10 w h) : ∀ w ∈ wsX100, w ∈ wo_X10_filled)
  have kf26 := hts _ (List.mem_cons_of_mem _ wm_23)
  have kf40 := hts _ (List.mem_cons_of_mem _ wm_31)
  have kf11 := hts _ (List.mem_cons_of_mem _ wm_13)
  have kf48 := hts _ (List.mem_cons_of_mem _ wm_33)
  have hi0 := (fun w h => List.mem_cons_of_mem _ (inlX0 w h) : ∀ w ∈ wsX00, w ∈ wo_X10_filled)
  have kf165 := hts _ (List.mem_cons_of_mem _ wm_538)
  have hi5 := (fun w h => List.mem_cons_of_mem _ (inlX5 w h) : ∀ w ∈ wsX50, w ∈ wo_X10_filled)
  have kf154 := hts _ (List.mem_cons_of_mem _ wm_537)
  have kf44 := hts _ (List.mem_cons_of_mem _ wm_32)
  unfold f_X10_filled at h
  have hS : va_S A s.heap s.heap [] := va_S.rf
  obtain ⟨H, hH⟩ : ∃ H : Heap, H = s.heap := ⟨_, rfl⟩
  obtain ⟨locs, hlc⟩ : ∃ locs : List Loc, locs = [] := ⟨_, rfl⟩
  have hS : va_S A s.heap H locs := by rw [hH, hlc]; exact va_S.rf
  have hP : va_P D vwCl (wX k a xLen xHits xUns xItems xLost xKind xSize xLet xRel xLim xOpen xMeas xSL xST xSD xSK xTal xKn xFT xFA xFE xOdds xPat xFind) H := by rw [hH]; exact hP
  suffices hGo : gQl p l e wo_X10_filled 5 s m args below meth c D k A o.1 (wX k a xLen xHits xUns xItems xLost xKind xSize xLet xRel xLim xOpen o.2.1 xSL xST xSD xSK xTal xKn o.2.2.1 o.2.2.2.1 o.2.2.2.2 xOdds xPat xFind) H locs (F0 m 0 ls []) by rw [hH, hlc] at hGo; exact hGo
  refine lv_iload_n hx hb dX10_filled_0 rfl (lv_at hl 1 rfl) ?_
  obtain ⟨o1, eq2, h⟩ := bnd_some h
  refine kPi (rest := []) ⟨hx, hb, hml, hown, hts⟩ (c_X10_isRow l x1 eq2) (va_cwS 1 hts (gAS wm_92 wm_93 wm_2 wm_94) rfl rfl rfl qd_X10_isRow ⟨Nat.le_of_ble_eq_true rfl, Nat.le_of_ble_eq_true rfl⟩) rfl hl.1 rfl (Nat.le_of_ble_eq_true rfl) dX10_filled_1 ⟨Nat.zero_le _, Nat.zero_le _⟩ ?_
  refine lv_if_eq (tgt := 14) hx hb dX10_filled_4 (by decide) (fun c3 => ?_) (fun c3 => ?_)
  · replace h := (if_pos c3).symm.trans h
    refine lv_bipush (v := (-2)) hx hb dX10_filled_14 (by decide) ?_
    obtain ⟨o4, eq5, h⟩ := bnd_some h
    refine kPl (rest := []) ⟨hx, hb, hml, hown, hts⟩ (c_X10_refusal l (-2) eq5) (va_cwS 1 hts (gAS wm_500 wm_501 wm_2 wm_502) rfl rfl rfl qd_X10_refusal ⟨Nat.le_of_ble_eq_true rfl, Nat.le_of_ble_eq_true rfl⟩) rfl hl.1 rfl (Nat.le_of_ble_eq_true rfl) dX10_filled_16 ⟨Nat.zero_le _, Nat.zero_le _⟩ ?_
    have he := Option.some.inj h
    exact W.lret (v := o4) hx hb hr (fun t ht hW => ⟨⟨o4, wX k a xLen xHits xUns xItems xLost xKind xSize xLet xRel xLim xOpen xMeas xSL xST xSD xSK xTal xKn xFT xFA xFE xOdds xPat xFind, rfl, ⟨(congrArg (fun z => z.1) he), (congrArg (fun z => wX k a xLen xHits xUns xItems xLost xKind xSize xLet xRel xLim xOpen z.2.1 xSL xST xSD xSK xTal xKn z.2.2.1 z.2.2.2.1 z.2.2.2.2 xOdds xPat xFind) he)⟩, by rw [ht]; exact hP, va_K.moved hW.alike hK, hD⟩, hS.F ht⟩) hS.2.2 dX10_filled_19
  · replace h := (if_neg c3).symm.trans h
    refine lv_iload_n hx hb dX10_filled_7 rfl (lv_at hl 2 rfl) ?_
    obtain ⟨o6, eq7, h⟩ := bnd_some h
    refine kPi (rest := []) ⟨hx, hb, hml, hown, hts⟩ (c_X10_isPart l x2 eq7) (va_cwS 1 hts (gAS wm_497 wm_498 wm_2 wm_499) rfl rfl rfl qd_X10_isPart ⟨Nat.le_of_ble_eq_true rfl, Nat.le_of_ble_eq_true rfl⟩) rfl hl.1 rfl (Nat.le_of_ble_eq_true rfl) dX10_filled_8 ⟨Nat.zero_le _, Nat.zero_le _⟩ ?_
    refine lv_if_ne (tgt := 20) hx hb dX10_filled_11 (by decide) (fun c8 => ?_) (fun c8 => ?_)
    · replace h := (if_neg c8).symm.trans h
      refine lv_aload_n hx hb dX10_filled_20 rfl (lv_at hl 0 rfl) ?_
      refine va_get (D := D) (ci := 5) (v := .ref (a 3)) (C := RX10) (T := TX10) (N := 8) hx hb hts hi10 hown hK hP (0) (rfl) rfl 2 (by decide) kf26 (fun _ h9 => h9) rfl dX10_filled_21 ?_
      obtain ⟨o9, eq10, h⟩ := bnd_some h
      refine kRiV (rest := []) (q0 := 3) ⟨hx, hb, hml, hown, hts⟩ (c_X6_isFaulty l D k a xLen xHits xUns xItems xLost xKind xSize xLet xRel xLim xOpen xMeas xSL xST xSD xSK xTal xKn xFT xFA xFE xOdds xPat xFind  eq10) (cwV 0 hts (gAV wm_437 wm_438 wm_439 wm_22 wm_440) rfl rfl rfl qd_X6_isFaulty ⟨Nat.le_of_ble_eq_true rfl, Nat.le_of_ble_eq_true rfl⟩) hK hP (rfl) rfl rfl hl.1 rfl (Nat.le_of_ble_eq_true rfl) dX10_filled_24 ⟨Nat.zero_le _, Nat.zero_le _⟩ ?_
      refine lv_if_eq (tgt := 36) hx hb dX10_filled_27 (by decide) (fun c11 => ?_) (fun c11 => ?_)
      · replace h := (if_pos c11).symm.trans h
        refine lv_aload_n hx hb dX10_filled_36 rfl (lv_at hl 0 rfl) ?_
        refine va_get (D := D) (ci := 5) (v := .ref (a 12)) (C := RX10) (T := TX10) (N := 8) hx hb hts hi10 hown hK hP (0) (rfl) rfl 4 (by decide) kf40 (fun _ h9 => h9) rfl dX10_filled_37 ?_
        refine lv_aload_n hx hb dX10_filled_40 rfl (lv_at hl 0 rfl) ?_
        refine va_get (D := D) (ci := 5) (v := .ref (a 1)) (C := RX10) (T := TX10) (N := 8) hx hb hts hi10 hown hK hP (0) (rfl) rfl 0 (by decide) kf11 (fun _ h9 => h9) rfl dX10_filled_41 ?_
        refine lv_iload_n hx hb dX10_filled_44 rfl (lv_at hl 1 rfl) ?_
        obtain ⟨g12, h⟩ := gIn_some h
        refine va_aldq hx hb hK hP (1) 2 rfl rfl g12 dX10_filled_45 ?_
        refine W.eq (g2 := F0 m 46 ls [.ref (a (14 + x1.toNatClampNeg)), .ref (a 12)]) rfl ?_
        refine lv_aload_n hx hb dX10_filled_46 rfl (lv_at hl 0 rfl) ?_
        refine va_get (D := D) (ci := 5) (v := .ref (a 3)) (C := RX10) (T := TX10) (N := 8) hx hb hts hi10 hown hK hP (0) (rfl) rfl 2 (by decide) kf26 (fun _ h9 => h9) rfl dX10_filled_47 ?_
        refine lv_aload_n hx hb dX10_filled_50 rfl (lv_at hl 0 rfl) ?_
        refine va_get (D := D) (ci := 5) (v := .int xPat) (C := RX10) (T := TX10) (N := 8) hx hb hts hi10 hown hK hP (0) (rfl) rfl 6 (by decide) kf48 (fun _ h9 => h9) rfl dX10_filled_51 ?_
        obtain ⟨o13, eq14, h⟩ := bnd_some h
        refine kQvV (rest := []) (q0 := 12) ⟨hx, hb, hml, hown, hts⟩ (c_X0_learn l D k a xLen xHits xUns xItems xLost xKind xSize xLet xRel xLim xOpen xMeas xSL xST xSD xSK xTal xKn xFT xFA xFE xOdds xPat xFind x1.toNatClampNeg (vp_in_lt g12) xPat eq14) (cwV 3 hts (gAV wm_540 wm_541 wm_542 wm_30 wm_543) rfl rfl rfl qd_X0_learn ⟨Nat.le_of_ble_eq_true rfl, Nat.le_of_ble_eq_true rfl⟩) hK hP hD hS hA (rfl) rfl rfl hl.1 rfl (Nat.le_of_ble_eq_true rfl) dX10_filled_54 ⟨Nat.zero_le _, Nat.zero_le _⟩ (fun H locs hP hD hS => ?_)
        have hP : va_P D vwCl (wX k a xLen xHits xUns xItems xLost xKind xSize xLet xRel xLim xOpen o13.1 xSL xST xSD xSK xTal xKn o13.2.1 o13.2.2.1 o13.2.2.2 xOdds xPat xFind) H := hP
        have hD : va_D A (wX k a xLen xHits xUns xItems xLost xKind xSize xLet xRel xLim xOpen o13.1 xSL xST xSD xSK xTal xKn o13.2.1 o13.2.2.1 o13.2.2.2 xOdds xPat xFind) := hD
        refine lv_aload_n hx hb dX10_filled_57 rfl (lv_at hl 0 rfl) ?_
        refine va_get (D := D) (ci := 5) (v := .ref (a 12)) (C := RX10) (T := TX10) (N := 8) hx hb hts hi10 hown hK hP (0) (rfl) rfl 4 (by decide) kf40 (fun _ h9 => h9) rfl dX10_filled_58 ?_
        refine va_get (D := D) (ci := 0) (v := .ref (a 13)) (C := RX0) (T := TX0) (N := 3) hx hb hts hi0 hown hK hP (12) (rfl) rfl 0 (by decide) kf165 (fun _ h9 => h9) rfl dX10_filled_61 ?_
        refine lv_aload_n hx hb dX10_filled_64 rfl (lv_at hl 0 rfl) ?_
        refine va_get (D := D) (ci := 5) (v := .ref (a 1)) (C := RX10) (T := TX10) (N := 8) hx hb hts hi10 hown hK hP (0) (rfl) rfl 0 (by decide) kf11 (fun _ h9 => h9) rfl dX10_filled_65 ?_
        refine lv_iload_n hx hb dX10_filled_68 rfl (lv_at hl 1 rfl) ?_
        refine va_aldq hx hb hK hP (1) 2 rfl rfl g12 dX10_filled_69 ?_
        refine W.eq (g2 := F0 m 70 ls [.ref (a (14 + x1.toNatClampNeg)), .ref (a 13)]) rfl ?_
        refine va_get (D := D) (ci := 1) (v := .int (xUns x1.toNatClampNeg)) (C := RX5) (T := TX5) (N := 3) hx hb hts hi5 hown hK hP ((14 + x1.toNatClampNeg)) (wX_row (vp_in_lt g12)) rfl 2 (by decide) kf154 (fun _ h9 => h9) rfl dX10_filled_70 ?_
        obtain ⟨o15, eq16, h⟩ := bnd_some h
        refine kPi (rest := [.ref (a 13)]) ⟨hx, hb, hml, hown, hts⟩ (c_J6_bitCount_0f7a4 l (xUns x1.toNatClampNeg) eq16) (va_cwS 1 hts (gAS wm_539 wm_210 wm_211 wm_212) rfl rfl rfl qd_J6_bitCount_0f7a4 ⟨Nat.le_of_ble_eq_true rfl, Nat.le_of_ble_eq_true rfl⟩) rfl hl.1 rfl (Nat.le_of_ble_eq_true rfl) dX10_filled_73 ⟨Nat.zero_le _, Nat.zero_le _⟩ ?_
        refine lv_aload_n hx hb dX10_filled_76 rfl (lv_at hl 0 rfl) ?_
        refine va_get (D := D) (ci := 5) (v := .int xOdds) (C := RX10) (T := TX10) (N := 8) hx hb hts hi10 hown hK hP (0) (rfl) rfl 5 (by decide) kf44 (fun _ h9 => h9) rfl dX10_filled_77 ?_
        refine lv_iload_n hx hb dX10_filled_80 rfl (lv_at hl 2 rfl) ?_
        obtain ⟨o17, eq18, h⟩ := bnd_some h
        refine kRlS (rest := []) ⟨hx, hb, hml, hown, hts⟩ (c_X9_sharePart l D k (wX k a xLen xHits xUns xItems xLost xKind xSize xLet xRel xLim xOpen o13.1 xSL xST xSD xSK xTal xKn o13.2.1 o13.2.2.1 o13.2.2.2 xOdds xPat xFind) (13) (a 13) o13.2.1 (rfl) o15 xOdds x2 eq18) (va_cwS 4 hts (gAS wm_504 wm_505 wm_475 wm_506) rfl rfl rfl qd_X9_sharePart ⟨Nat.le_of_ble_eq_true rfl, Nat.le_of_ble_eq_true rfl⟩) hK hP rfl hl.1 rfl (Nat.le_of_ble_eq_true rfl) dX10_filled_81 ⟨Nat.zero_le _, Nat.zero_le _⟩ ?_
        have he := Option.some.inj h
        exact W.lret (v := o17) hx hb hr (fun t ht hW => ⟨⟨o17, wX k a xLen xHits xUns xItems xLost xKind xSize xLet xRel xLim xOpen o13.1 xSL xST xSD xSK xTal xKn o13.2.1 o13.2.2.1 o13.2.2.2 xOdds xPat xFind, rfl, ⟨(congrArg (fun z => z.1) he), (congrArg (fun z => wX k a xLen xHits xUns xItems xLost xKind xSize xLet xRel xLim xOpen z.2.1 xSL xST xSD xSK xTal xKn z.2.2.1 z.2.2.2.1 z.2.2.2.2 xOdds xPat xFind) he)⟩, by rw [ht]; exact hP, va_K.moved hW.alike hK, hD⟩, hS.F ht⟩) hS.2.2 dX10_filled_84
      · replace h := (if_neg c11).symm.trans h
        refine lv_bipush (v := (-3)) hx hb dX10_filled_30 (by decide) ?_
        obtain ⟨o19, eq20, h⟩ := bnd_some h
        refine kPl (rest := []) ⟨hx, hb, hml, hown, hts⟩ (c_X10_refusal l (-3) eq20) (va_cwS 1 hts (gAS wm_500 wm_501 wm_2 wm_502) rfl rfl rfl qd_X10_refusal ⟨Nat.le_of_ble_eq_true rfl, Nat.le_of_ble_eq_true rfl⟩) rfl hl.1 rfl (Nat.le_of_ble_eq_true rfl) dX10_filled_32 ⟨Nat.zero_le _, Nat.zero_le _⟩ ?_
        have he := Option.some.inj h
        exact W.lret (v := o19) hx hb hr (fun t ht hW => ⟨⟨o19, wX k a xLen xHits xUns xItems xLost xKind xSize xLet xRel xLim xOpen xMeas xSL xST xSD xSK xTal xKn xFT xFA xFE xOdds xPat xFind, rfl, ⟨(congrArg (fun z => z.1) he), (congrArg (fun z => wX k a xLen xHits xUns xItems xLost xKind xSize xLet xRel xLim xOpen z.2.1 xSL xST xSD xSK xTal xKn z.2.2.1 z.2.2.2.1 z.2.2.2.2 xOdds xPat xFind) he)⟩, by rw [ht]; exact hP, va_K.moved hW.alike hK, hD⟩, hS.F ht⟩) hS.2.2 dX10_filled_35
    · replace h := (if_pos c8).symm.trans h
      refine lv_bipush (v := (-2)) hx hb dX10_filled_14 (by decide) ?_
      obtain ⟨o21, eq22, h⟩ := bnd_some h
      refine kPl (rest := []) ⟨hx, hb, hml, hown, hts⟩ (c_X10_refusal l (-2) eq22) (va_cwS 1 hts (gAS wm_500 wm_501 wm_2 wm_502) rfl rfl rfl qd_X10_refusal ⟨Nat.le_of_ble_eq_true rfl, Nat.le_of_ble_eq_true rfl⟩) rfl hl.1 rfl (Nat.le_of_ble_eq_true rfl) dX10_filled_16 ⟨Nat.zero_le _, Nat.zero_le _⟩ ?_
      have he := Option.some.inj h
      exact W.lret (v := o21) hx hb hr (fun t ht hW => ⟨⟨o21, wX k a xLen xHits xUns xItems xLost xKind xSize xLet xRel xLim xOpen xMeas xSL xST xSD xSK xTal xKn xFT xFA xFE xOdds xPat xFind, rfl, ⟨(congrArg (fun z => z.1) he), (congrArg (fun z => wX k a xLen xHits xUns xItems xLost xKind xSize xLet xRel xLim xOpen z.2.1 xSL xST xSD xSK xTal xKn z.2.2.1 z.2.2.2.1 z.2.2.2.2 xOdds xPat xFind) he)⟩, by rw [ht]; exact hP, va_K.moved hW.alike hK, hD⟩, hS.F ht⟩) hS.2.2 dX10_filled_19
set_option maxHeartbeats 4000000 in
set_option maxRecDepth 100000 in
theorem c_X10_filled {N : Nat} (l : Launch) (D : va_G) (k : Nat → ClassId) (a : Nat → Nat) (xLen : Nat → Int32) (xHits : Nat → Int32) (xUns : Nat → Int32) (xItems : Nat → Nat → Int32) (xLost : Nat → Int32) (xKind : Nat → Int32) (xSize : Nat → Int32) (xLet : Nat → Int32) (xRel : Nat → Int32) (xLim : Nat → Int32) (xOpen : Nat → Int32) (xMeas : Nat → Int32) (xSL : Int32) (xST : Int32) (xSD : Int32) (xSK : Int32) (xTal : Nat → Nat → Int32) (xKn : Nat → Int32) (xFT : Nat → Int32) (xFA : Int32) (xFE : Int32) (xOdds : Int32) (xPat : Int32) (xFind : Int32) (x1 : Int32) (x2 : Int32) {o : Int64 × (Nat → Int32) × (Nat → Int32) × (Int32) × (Int32)} (h : f_X10_filled N x1 x2 xLen xHits xUns xLet xRel xLim xOpen xMeas xSL xST xSD xSK xFT xFA xFE xOdds xPat = some o) : mQl l yX10_filled wo_X10_filled 5 D k [.ref (a 0), .int x1, .int x2] (wX k a xLen xHits xUns xItems xLost xKind xSize xLet xRel xLim xOpen xMeas xSL xST xSD xSK xTal xKn xFT xFA xFE xOdds xPat xFind) o.1 (wX k a xLen xHits xUns xItems xLost xKind xSize xLet xRel xLim xOpen o.2.1 xSL xST xSD xSK xTal xKn o.2.2.1 o.2.2.2.1 o.2.2.2.2 xOdds xPat xFind) := by
  intro sz
  refine Met.ofW (cc := cX10_filled) (maxL := 3) (ret := some .long) (by decide) rfl ?_
  intro p e s m args below meth c s₁ B hml hv
  obtain ⟨rfl, hsz, hP, hK, hD0⟩ := hv
  subst hsz
  rw [lg_entry_eq]
  exact core_X10_filled D k a xLen xHits xUns xItems xLost xKind xSize xLet xRel xLim xOpen xMeas xSL xST xSD xSK xTal xKn xFT xFA xFE xOdds xPat xFind x1 x2 B.exec B.bytes hml B.returns (atoms_spec (ws := wo_X10_filled) B.pre) (findClass_of_methodNamed B.named) B.notSynchronized (lv_entry [.ref (a 0), .int x1, .int x2] (n := 3) (Nat.le_of_ble_eq_true rfl)) hK hP hD0.self (fun q h => Or.inr h) h
theorem qd_X10_filled : yX10_filled.cls = RX10 ∧ yX10_filled.cls ≠ "java/lang/invoke/MethodHandle" ∧ yX10_filled.cls ≠ "java/lang/invoke/VarHandle" ∧ (parseMethodDescriptor yX10_filled.desc).map (fun d => d.parameters.length) = some 2 := by decide +kernel
abbrev wo_X10_sure : List Cond := .code yX10_sure cX10_sure 5 (some .int) :: wsL_law
set_option maxHeartbeats 4000000 in
set_option maxRecDepth 100000 in
theorem core_X10_sure {N : Nat} (D : va_G) (k : Nat → ClassId) (a : Nat → Nat) (xLen : Nat → Int32) (xHits : Nat → Int32) (xUns : Nat → Int32) (xItems : Nat → Nat → Int32) (xLost : Nat → Int32) (xKind : Nat → Int32) (xSize : Nat → Int32) (xLet : Nat → Int32) (xRel : Nat → Int32) (xLim : Nat → Int32) (xOpen : Nat → Int32) (xMeas : Nat → Int32) (xSL : Int32) (xST : Int32) (xSD : Int32) (xSK : Int32) (xTal : Nat → Nat → Int32) (xKn : Nat → Int32) (xFT : Nat → Int32) (xFA : Int32) (xFE : Int32) (xOdds : Int32) (xPat : Int32) (xFind : Int32) (x1 : Int32) (x2 : Int32) {p : Program} {l : Launch} {e : Env} {s : State} {m : MethodId} {args : Array Value} {below : List Frame} {meth : Method} {c : Code} {ls : Array Slot} (hx : p.tables.exec = Jvm.exec) (hb : c.code = cX10_sure) (hml : c.maxLocals = 5) (hr : meth.sig.returnType = some .int) (hts : ∀ w ∈ wo_X10_sure, w.before args s = true) (hown : s.vm.findClass RX10 = some m.cls) (hlocks : meth.locks = false) (hl : lv_has ls 5 [(0, .ref (a 0)), (1, .int x1), (2, .int x2)]) (hK : va_K D vwCl (xTys k) s) (hP : va_P D vwCl (wX k a xLen xHits xUns xItems xLost xKind xSize xLet xRel xLim xOpen xMeas xSL xST xSD xSK xTal xKn xFT xFA xFE xOdds xPat xFind) s.heap) {A : Nat → Prop} (hD : va_D A (wX k a xLen xHits xUns xItems xLost xKind xSize xLet xRel xLim xOpen xMeas xSL xST xSD xSK xTal xKn xFT xFA xFE xOdds xPat xFind)) (hA : ∀ q : Nat, s.heap.size ≤ q → A q) {o : Int32 × (Nat → Int32) × (Nat → Int32) × (Int32) × (Int32)} (h : f_X10_sure N x1 x2 xLen xHits xUns xLet xRel xLim xOpen xMeas xSL xST xSD xSK xFT xFA xFE xPat = some o) : gQi p l e wo_X10_sure 5 s m args below meth c D k A o.1 (wX k a xLen xHits xUns xItems xLost xKind xSize xLet xRel xLim xOpen o.2.1 xSL xST xSD xSK xTal xKn o.2.2.1 o.2.2.2.1 o.2.2.2.2 xOdds xPat xFind) s.heap [] (F0 m 0 ls []) := by
  have hi10 := (fun w h => List.mem_cons_of_mem _ (inlX10 w h) : ∀ w ∈ wsX100, w ∈ wo_X10_sure)
  have kf11 := hts _ (List.mem_cons_of_mem _ wm_13)
  have kf26 := hts _ (List.mem_cons_of_mem _ wm_23)
  have hi5 := (fun w h => List.mem_cons_of_mem _ (inlX5 w h) : ∀ w ∈ wsX50, w ∈ wo_X10_sure)
  have kf69 := hts _ (List.mem_cons_of_mem _ wm_91)
  have kf40 := hts _ (List.mem_cons_of_mem _ wm_31)
  have kf48 := hts _ (List.mem_cons_of_mem _ wm_33)
  have hi0 := (fun w h => List.mem_cons_of_mem _ (inlX0 w h) : ∀ w ∈ wsX00, w ∈ wo_X10_sure)
  have kf165 := hts _ (List.mem_cons_of_mem _ wm_538)
  have kf168 := hts _ (List.mem_cons_of_mem _ wm_576)
  have kf171 := hts _ (List.mem_cons_of_mem _ wm_577)
  unfold f_X10_sure at h
  have hS : va_S A s.heap s.heap [] := va_S.rf
  obtain ⟨H, hH⟩ : ∃ H : Heap, H = s.heap := ⟨_, rfl⟩
  obtain ⟨locs, hlc⟩ : ∃ locs : List Loc, locs = [] := ⟨_, rfl⟩
  have hS : va_S A s.heap H locs := by rw [hH, hlc]; exact va_S.rf
  have hP : va_P D vwCl (wX k a xLen xHits xUns xItems xLost xKind xSize xLet xRel xLim xOpen xMeas xSL xST xSD xSK xTal xKn xFT xFA xFE xOdds xPat xFind) H := by rw [hH]; exact hP
  suffices hGo : gQi p l e wo_X10_sure 5 s m args below meth c D k A o.1 (wX k a xLen xHits xUns xItems xLost xKind xSize xLet xRel xLim xOpen o.2.1 xSL xST xSD xSK xTal xKn o.2.2.1 o.2.2.2.1 o.2.2.2.2 xOdds xPat xFind) H locs (F0 m 0 ls []) by rw [hH, hlc] at hGo; exact hGo
  refine lv_iload_n hx hb dX10_sure_0 rfl (lv_at hl 1 rfl) ?_
  obtain ⟨o1, eq2, h⟩ := bnd_some h
  refine kPi (rest := []) ⟨hx, hb, hml, hown, hts⟩ (c_X10_isRow l x1 eq2) (va_cwS 1 hts (gAS wm_92 wm_93 wm_2 wm_94) rfl rfl rfl qd_X10_isRow ⟨Nat.le_of_ble_eq_true rfl, Nat.le_of_ble_eq_true rfl⟩) rfl hl.1 rfl (Nat.le_of_ble_eq_true rfl) dX10_sure_1 ⟨Nat.zero_le _, Nat.zero_le _⟩ ?_
  refine lv_if_eq (tgt := 11) hx hb dX10_sure_4 (by decide) (fun c3 => ?_) (fun c3 => ?_)
  · replace h := (if_pos c3).symm.trans h
    refine lv_bipush (v := (-2)) hx hb dX10_sure_11 (by decide) ?_
    have he := Option.some.inj h
    exact W.iret (v := (-2)) hx hb hr (fun t ht hW => ⟨⟨(-2), wX k a xLen xHits xUns xItems xLost xKind xSize xLet xRel xLim xOpen xMeas xSL xST xSD xSK xTal xKn xFT xFA xFE xOdds xPat xFind, rfl, ⟨(congrArg (fun z => z.1) he), (congrArg (fun z => wX k a xLen xHits xUns xItems xLost xKind xSize xLet xRel xLim xOpen z.2.1 xSL xST xSD xSK xTal xKn z.2.2.1 z.2.2.2.1 z.2.2.2.2 xOdds xPat xFind) he)⟩, by rw [ht]; exact hP, va_K.moved hW.alike hK, hD⟩, hS.F ht⟩) hS.2.2 dX10_sure_13
  · replace h := (if_neg c3).symm.trans h
    refine lv_iload_n hx hb dX10_sure_7 rfl (lv_at hl 2 rfl) ?_
    refine lv_if_ge (tgt := 14) hx hb dX10_sure_8 (by decide) (fun c4 => ?_) (fun c4 => ?_)
    · replace h := (if_pos c4).symm.trans h
      refine lv_aload_n hx hb dX10_sure_14 rfl (lv_at hl 0 rfl) ?_
      refine va_get (D := D) (ci := 5) (v := .ref (a 1)) (C := RX10) (T := TX10) (N := 8) hx hb hts hi10 hown hK hP (0) (rfl) rfl 0 (by decide) kf11 (fun _ h9 => h9) rfl dX10_sure_15 ?_
      refine lv_iload_n hx hb dX10_sure_18 rfl (lv_at hl 1 rfl) ?_
      obtain ⟨g5, h⟩ := gIn_some h
      refine va_aldq hx hb hK hP (1) 2 rfl rfl g5 dX10_sure_19 ?_
      refine W.eq (g2 := F0 m 20 ls [.ref (a (14 + x1.toNatClampNeg))]) rfl ?_
      refine lv_astore_n (lv' := [(3, .ref (a (14 + x1.toNatClampNeg))), (0, .ref (a 0)), (1, .int x1), (2, .int x2)]) hx hb dX10_sure_20 rfl hl (by decide) rfl (fun ls hl => ?_)
      refine lv_aload_n hx hb dX10_sure_21 rfl (lv_at hl 1 rfl) ?_
      refine va_get (D := D) (ci := 5) (v := .ref (a 3)) (C := RX10) (T := TX10) (N := 8) hx hb hts hi10 hown hK hP (0) (rfl) rfl 2 (by decide) kf26 (fun _ h9 => h9) rfl dX10_sure_22 ?_
      obtain ⟨o6, eq7, h⟩ := bnd_some h
      refine kRiV (rest := []) (q0 := 3) ⟨hx, hb, hml, hown, hts⟩ (c_X6_isFaulty l D k a xLen xHits xUns xItems xLost xKind xSize xLet xRel xLim xOpen xMeas xSL xST xSD xSK xTal xKn xFT xFA xFE xOdds xPat xFind  eq7) (cwV 0 hts (gAV wm_437 wm_438 wm_439 wm_22 wm_440) rfl rfl rfl qd_X6_isFaulty ⟨Nat.le_of_ble_eq_true rfl, Nat.le_of_ble_eq_true rfl⟩) hK hP (rfl) rfl rfl hl.1 rfl (Nat.le_of_ble_eq_true rfl) dX10_sure_25 ⟨Nat.zero_le _, Nat.zero_le _⟩ ?_
      refine lv_if_ne (tgt := 39) hx hb dX10_sure_28 (by decide) (fun c8 => ?_) (fun c8 => ?_)
      · replace h := (if_neg c8).symm.trans h
        refine lv_bipush (v := (-3)) hx hb dX10_sure_39 (by decide) ?_
        have he := Option.some.inj h
        exact W.iret (v := (-3)) hx hb hr (fun t ht hW => ⟨⟨(-3), wX k a xLen xHits xUns xItems xLost xKind xSize xLet xRel xLim xOpen xMeas xSL xST xSD xSK xTal xKn xFT xFA xFE xOdds xPat xFind, rfl, ⟨(congrArg (fun z => z.1) he), (congrArg (fun z => wX k a xLen xHits xUns xItems xLost xKind xSize xLet xRel xLim xOpen z.2.1 xSL xST xSD xSK xTal xKn z.2.2.1 z.2.2.2.1 z.2.2.2.2 xOdds xPat xFind) he)⟩, by rw [ht]; exact hP, va_K.moved hW.alike hK, hD⟩, hS.F ht⟩) hS.2.2 dX10_sure_41
      · replace h := (if_pos c8).symm.trans h
        refine lv_iload_n hx hb dX10_sure_31 rfl (lv_at hl 3 rfl) ?_
        refine lv_aload_n hx hb dX10_sure_32 rfl (lv_at hl 0 rfl) ?_
        refine va_get (D := D) (ci := 1) (v := .int (xLen x1.toNatClampNeg)) (C := RX5) (T := TX5) (N := 3) hx hb hts hi5 hown hK hP ((14 + x1.toNatClampNeg)) (wX_row (vp_in_lt g5)) rfl 0 (by decide) kf69 (fun _ h9 => h9) rfl dX10_sure_33 ?_
        refine lv_icmp_lt (tgt := 42) hx hb dX10_sure_36 (by decide) (fun c9 => ?_) (fun c9 => ?_)
        · replace h := (if_pos c9).symm.trans h
          refine lv_aload_n hx hb dX10_sure_42 rfl (lv_at hl 1 rfl) ?_
          refine va_get (D := D) (ci := 5) (v := .ref (a 12)) (C := RX10) (T := TX10) (N := 8) hx hb hts hi10 hown hK hP (0) (rfl) rfl 4 (by decide) kf40 (fun _ h9 => h9) rfl dX10_sure_43 ?_
          refine lv_aload_n hx hb dX10_sure_46 rfl (lv_at hl 0 rfl) ?_
          refine lv_aload_n hx hb dX10_sure_47 rfl (lv_at hl 1 rfl) ?_
          refine va_get (D := D) (ci := 5) (v := .ref (a 3)) (C := RX10) (T := TX10) (N := 8) hx hb hts hi10 hown hK hP (0) (rfl) rfl 2 (by decide) kf26 (fun _ h9 => h9) rfl dX10_sure_48 ?_
          refine lv_aload_n hx hb dX10_sure_51 rfl (lv_at hl 1 rfl) ?_
          refine va_get (D := D) (ci := 5) (v := .int xPat) (C := RX10) (T := TX10) (N := 8) hx hb hts hi10 hown hK hP (0) (rfl) rfl 6 (by decide) kf48 (fun _ h9 => h9) rfl dX10_sure_52 ?_
          obtain ⟨o10, eq11, h⟩ := bnd_some h
          refine kQvV (rest := []) (q0 := 12) ⟨hx, hb, hml, hown, hts⟩ (c_X0_learn l D k a xLen xHits xUns xItems xLost xKind xSize xLet xRel xLim xOpen xMeas xSL xST xSD xSK xTal xKn xFT xFA xFE xOdds xPat xFind x1.toNatClampNeg (vp_in_lt g5) xPat eq11) (cwV 3 hts (gAV wm_540 wm_541 wm_542 wm_30 wm_543) rfl rfl rfl qd_X0_learn ⟨Nat.le_of_ble_eq_true rfl, Nat.le_of_ble_eq_true rfl⟩) hK hP hD hS hA (rfl) rfl rfl hl.1 rfl (Nat.le_of_ble_eq_true rfl) dX10_sure_55 ⟨Nat.zero_le _, Nat.zero_le _⟩ (fun H locs hP hD hS => ?_)
          have hP : va_P D vwCl (wX k a xLen xHits xUns xItems xLost xKind xSize xLet xRel xLim xOpen o10.1 xSL xST xSD xSK xTal xKn o10.2.1 o10.2.2.1 o10.2.2.2 xOdds xPat xFind) H := hP
          have hD : va_D A (wX k a xLen xHits xUns xItems xLost xKind xSize xLet xRel xLim xOpen o10.1 xSL xST xSD xSK xTal xKn o10.2.1 o10.2.2.1 o10.2.2.2 xOdds xPat xFind) := hD
          refine lv_aload_n hx hb dX10_sure_58 rfl (lv_at hl 1 rfl) ?_
          refine va_get (D := D) (ci := 5) (v := .ref (a 12)) (C := RX10) (T := TX10) (N := 8) hx hb hts hi10 hown hK hP (0) (rfl) rfl 4 (by decide) kf40 (fun _ h9 => h9) rfl dX10_sure_59 ?_
          refine va_get (D := D) (ci := 0) (v := .ref (a 13)) (C := RX0) (T := TX0) (N := 3) hx hb hts hi0 hown hK hP (12) (rfl) rfl 0 (by decide) kf165 (fun _ h9 => h9) rfl dX10_sure_62 ?_
          obtain ⟨o12, eq13, h⟩ := bnd_some h
          refine kRiS (rest := []) ⟨hx, hb, hml, hown, hts⟩ (c_X9_sum l D k (wX k a xLen xHits xUns xItems xLost xKind xSize xLet xRel xLim xOpen o10.1 xSL xST xSD xSK xTal xKn o10.2.1 o10.2.2.1 o10.2.2.2 xOdds xPat xFind) (13) (a 13) o10.2.1 (rfl)  eq13) (va_cwS 1 hts (gAS wm_473 wm_474 wm_475 wm_476) rfl rfl rfl qd_X9_sum ⟨Nat.le_of_ble_eq_true rfl, Nat.le_of_ble_eq_true rfl⟩) hK hP rfl hl.1 rfl (Nat.le_of_ble_eq_true rfl) dX10_sure_65 ⟨Nat.zero_le _, Nat.zero_le _⟩ ?_
          refine lv_if_ne (tgt := 74) hx hb dX10_sure_68 (by decide) (fun c14 => ?_) (fun c14 => ?_)
          · replace h := (if_neg c14).symm.trans h
            refine lv_iconst (v := 1) hx hb dX10_sure_74 (by decide) ?_
            refine lv_aload_n hx hb dX10_sure_75 rfl (lv_at hl 0 rfl) ?_
            refine va_get (D := D) (ci := 1) (v := .int (xLen x1.toNatClampNeg)) (C := RX5) (T := TX5) (N := 3) hx hb hts hi5 hown hK hP ((14 + x1.toNatClampNeg)) (wX_row (vp_in_lt g5)) rfl 0 (by decide) kf69 (fun _ h9 => h9) rfl dX10_sure_76 ?_
            refine lv_iconst (v := 1) hx hb dX10_sure_79 (by decide) ?_
            refine lv_isub hx hb dX10_sure_80 ?_
            refine lv_iload_n hx hb dX10_sure_81 rfl (lv_at hl 3 rfl) ?_
            refine lv_isub hx hb dX10_sure_82 ?_
            refine lv_ishl hx hb dX10_sure_83 ?_
            refine lv_istore (lv' := [(4, .int ((1 : Int32) <<< ((((xLen x1.toNatClampNeg) - 1) - x2) &&& 31))), (3, .ref (a (14 + x1.toNatClampNeg))), (0, .ref (a 0)), (1, .int x1), (2, .int x2)]) hx hb dX10_sure_84 hl (by decide) rfl (fun ls hl => ?_)
            refine lv_aload_n hx hb dX10_sure_86 rfl (lv_at hl 2 rfl) ?_
            refine va_get (D := D) (ci := 5) (v := .ref (a 12)) (C := RX10) (T := TX10) (N := 8) hx hb hts hi10 hown hK hP (0) (rfl) rfl 4 (by decide) kf40 (fun _ h9 => h9) rfl dX10_sure_87 ?_
            refine va_get (D := D) (ci := 0) (v := .int o10.2.2.1) (C := RX0) (T := TX0) (N := 3) hx hb hts hi0 hown hK hP (12) (rfl) rfl 1 (by decide) kf168 (fun _ h9 => h9) rfl dX10_sure_90 ?_
            refine lv_iload hx hb dX10_sure_93 (lv_at hl 0 rfl) ?_
            refine lv_iand hx hb dX10_sure_95 ?_
            refine lv_if_eq (tgt := 101) hx hb dX10_sure_96 (by decide) (fun c15 => ?_) (fun c15 => ?_)
            · replace h := (if_pos c15).symm.trans h
              refine lv_aload_n hx hb dX10_sure_101 rfl (lv_at hl 2 rfl) ?_
              refine va_get (D := D) (ci := 5) (v := .ref (a 12)) (C := RX10) (T := TX10) (N := 8) hx hb hts hi10 hown hK hP (0) (rfl) rfl 4 (by decide) kf40 (fun _ h9 => h9) rfl dX10_sure_102 ?_
              refine va_get (D := D) (ci := 0) (v := .int o10.2.2.2) (C := RX0) (T := TX0) (N := 3) hx hb hts hi0 hown hK hP (12) (rfl) rfl 2 (by decide) kf171 (fun _ h9 => h9) rfl dX10_sure_105 ?_
              refine lv_iload hx hb dX10_sure_108 (lv_at hl 0 rfl) ?_
              refine lv_iand hx hb dX10_sure_110 ?_
              refine lv_if_ne (tgt := 118) hx hb dX10_sure_111 (by decide) (fun c16 => ?_) (fun c16 => ?_)
              · replace h := (if_neg c16).symm.trans h
                refine lv_iconst (v := (-1)) hx hb dX10_sure_118 (by decide) ?_
                have he := Option.some.inj h
                exact W.iret (v := (-1)) hx hb hr (fun t ht hW => ⟨⟨(-1), wX k a xLen xHits xUns xItems xLost xKind xSize xLet xRel xLim xOpen o10.1 xSL xST xSD xSK xTal xKn o10.2.1 o10.2.2.1 o10.2.2.2 xOdds xPat xFind, rfl, ⟨(congrArg (fun z => z.1) he), (congrArg (fun z => wX k a xLen xHits xUns xItems xLost xKind xSize xLet xRel xLim xOpen z.2.1 xSL xST xSD xSK xTal xKn z.2.2.1 z.2.2.2.1 z.2.2.2.2 xOdds xPat xFind) he)⟩, by rw [ht]; exact hP, va_K.moved hW.alike hK, hD⟩, hS.F ht⟩) hS.2.2 dX10_sure_119
              · replace h := (if_pos c16).symm.trans h
                refine lv_iconst (v := 0) hx hb dX10_sure_114 (by decide) ?_
                refine lv_goto (tgt := 119) hx hb dX10_sure_115 (by decide) ?_
                have he := Option.some.inj h
                exact W.iret (v := 0) hx hb hr (fun t ht hW => ⟨⟨0, wX k a xLen xHits xUns xItems xLost xKind xSize xLet xRel xLim xOpen o10.1 xSL xST xSD xSK xTal xKn o10.2.1 o10.2.2.1 o10.2.2.2 xOdds xPat xFind, rfl, ⟨(congrArg (fun z => z.1) he), (congrArg (fun z => wX k a xLen xHits xUns xItems xLost xKind xSize xLet xRel xLim xOpen z.2.1 xSL xST xSD xSK xTal xKn z.2.2.1 z.2.2.2.1 z.2.2.2.2 xOdds xPat xFind) he)⟩, by rw [ht]; exact hP, va_K.moved hW.alike hK, hD⟩, hS.F ht⟩) hS.2.2 dX10_sure_119
            · replace h := (if_neg c15).symm.trans h
              refine lv_iconst (v := 1) hx hb dX10_sure_99 (by decide) ?_
              have he := Option.some.inj h
              exact W.iret (v := 1) hx hb hr (fun t ht hW => ⟨⟨1, wX k a xLen xHits xUns xItems xLost xKind xSize xLet xRel xLim xOpen o10.1 xSL xST xSD xSK xTal xKn o10.2.1 o10.2.2.1 o10.2.2.2 xOdds xPat xFind, rfl, ⟨(congrArg (fun z => z.1) he), (congrArg (fun z => wX k a xLen xHits xUns xItems xLost xKind xSize xLet xRel xLim xOpen z.2.1 xSL xST xSD xSK xTal xKn z.2.2.1 z.2.2.2.1 z.2.2.2.2 xOdds xPat xFind) he)⟩, by rw [ht]; exact hP, va_K.moved hW.alike hK, hD⟩, hS.F ht⟩) hS.2.2 dX10_sure_100
          · replace h := (if_pos c14).symm.trans h
            refine lv_bipush (v := (-3)) hx hb dX10_sure_71 (by decide) ?_
            have he := Option.some.inj h
            exact W.iret (v := (-3)) hx hb hr (fun t ht hW => ⟨⟨(-3), wX k a xLen xHits xUns xItems xLost xKind xSize xLet xRel xLim xOpen o10.1 xSL xST xSD xSK xTal xKn o10.2.1 o10.2.2.1 o10.2.2.2 xOdds xPat xFind, rfl, ⟨(congrArg (fun z => z.1) he), (congrArg (fun z => wX k a xLen xHits xUns xItems xLost xKind xSize xLet xRel xLim xOpen z.2.1 xSL xST xSD xSK xTal xKn z.2.2.1 z.2.2.2.1 z.2.2.2.2 xOdds xPat xFind) he)⟩, by rw [ht]; exact hP, va_K.moved hW.alike hK, hD⟩, hS.F ht⟩) hS.2.2 dX10_sure_73
        · replace h := (if_neg c9).symm.trans h
          refine lv_bipush (v := (-3)) hx hb dX10_sure_39 (by decide) ?_
          have he := Option.some.inj h
          exact W.iret (v := (-3)) hx hb hr (fun t ht hW => ⟨⟨(-3), wX k a xLen xHits xUns xItems xLost xKind xSize xLet xRel xLim xOpen xMeas xSL xST xSD xSK xTal xKn xFT xFA xFE xOdds xPat xFind, rfl, ⟨(congrArg (fun z => z.1) he), (congrArg (fun z => wX k a xLen xHits xUns xItems xLost xKind xSize xLet xRel xLim xOpen z.2.1 xSL xST xSD xSK xTal xKn z.2.2.1 z.2.2.2.1 z.2.2.2.2 xOdds xPat xFind) he)⟩, by rw [ht]; exact hP, va_K.moved hW.alike hK, hD⟩, hS.F ht⟩) hS.2.2 dX10_sure_41
    · replace h := (if_neg c4).symm.trans h
      refine lv_bipush (v := (-2)) hx hb dX10_sure_11 (by decide) ?_
      have he := Option.some.inj h
      exact W.iret (v := (-2)) hx hb hr (fun t ht hW => ⟨⟨(-2), wX k a xLen xHits xUns xItems xLost xKind xSize xLet xRel xLim xOpen xMeas xSL xST xSD xSK xTal xKn xFT xFA xFE xOdds xPat xFind, rfl, ⟨(congrArg (fun z => z.1) he), (congrArg (fun z => wX k a xLen xHits xUns xItems xLost xKind xSize xLet xRel xLim xOpen z.2.1 xSL xST xSD xSK xTal xKn z.2.2.1 z.2.2.2.1 z.2.2.2.2 xOdds xPat xFind) he)⟩, by rw [ht]; exact hP, va_K.moved hW.alike hK, hD⟩, hS.F ht⟩) hS.2.2 dX10_sure_13
set_option maxHeartbeats 4000000 in
set_option maxRecDepth 100000 in
theorem c_X10_sure {N : Nat} (l : Launch) (D : va_G) (k : Nat → ClassId) (a : Nat → Nat) (xLen : Nat → Int32) (xHits : Nat → Int32) (xUns : Nat → Int32) (xItems : Nat → Nat → Int32) (xLost : Nat → Int32) (xKind : Nat → Int32) (xSize : Nat → Int32) (xLet : Nat → Int32) (xRel : Nat → Int32) (xLim : Nat → Int32) (xOpen : Nat → Int32) (xMeas : Nat → Int32) (xSL : Int32) (xST : Int32) (xSD : Int32) (xSK : Int32) (xTal : Nat → Nat → Int32) (xKn : Nat → Int32) (xFT : Nat → Int32) (xFA : Int32) (xFE : Int32) (xOdds : Int32) (xPat : Int32) (xFind : Int32) (x1 : Int32) (x2 : Int32) {o : Int32 × (Nat → Int32) × (Nat → Int32) × (Int32) × (Int32)} (h : f_X10_sure N x1 x2 xLen xHits xUns xLet xRel xLim xOpen xMeas xSL xST xSD xSK xFT xFA xFE xPat = some o) : mQi l yX10_sure wo_X10_sure 5 D k [.ref (a 0), .int x1, .int x2] (wX k a xLen xHits xUns xItems xLost xKind xSize xLet xRel xLim xOpen xMeas xSL xST xSD xSK xTal xKn xFT xFA xFE xOdds xPat xFind) o.1 (wX k a xLen xHits xUns xItems xLost xKind xSize xLet xRel xLim xOpen o.2.1 xSL xST xSD xSK xTal xKn o.2.2.1 o.2.2.2.1 o.2.2.2.2 xOdds xPat xFind) := by
  intro sz
  refine Met.ofW (cc := cX10_sure) (maxL := 5) (ret := some .int) (by decide) rfl ?_
  intro p e s m args below meth c s₁ B hml hv
  obtain ⟨rfl, hsz, hP, hK, hD0⟩ := hv
  subst hsz
  rw [lg_entry_eq]
  exact core_X10_sure D k a xLen xHits xUns xItems xLost xKind xSize xLet xRel xLim xOpen xMeas xSL xST xSD xSK xTal xKn xFT xFA xFE xOdds xPat xFind x1 x2 B.exec B.bytes hml B.returns (atoms_spec (ws := wo_X10_sure) B.pre) (findClass_of_methodNamed B.named) B.notSynchronized (lv_entry [.ref (a 0), .int x1, .int x2] (n := 5) (Nat.le_of_ble_eq_true rfl)) hK hP hD0.self (fun q h => Or.inr h) h
theorem qd_X10_sure : yX10_sure.cls = RX10 ∧ yX10_sure.cls ≠ "java/lang/invoke/MethodHandle" ∧ yX10_sure.cls ≠ "java/lang/invoke/VarHandle" ∧ (parseMethodDescriptor yX10_sure.desc).map (fun d => d.parameters.length) = some 2 := by decide +kernel
abbrev wo_X10_dealt : List Cond := .code yX10_dealt cX10_dealt 5 (some .int) :: wsL_law
set_option maxHeartbeats 4000000 in
set_option maxRecDepth 100000 in
theorem core_X10_dealt {N : Nat} (D : va_G) (k : Nat → ClassId) (a : Nat → Nat) (xLen : Nat → Int32) (xHits : Nat → Int32) (xUns : Nat → Int32) (xItems : Nat → Nat → Int32) (xLost : Nat → Int32) (xKind : Nat → Int32) (xSize : Nat → Int32) (xLet : Nat → Int32) (xRel : Nat → Int32) (xLim : Nat → Int32) (xOpen : Nat → Int32) (xMeas : Nat → Int32) (xSL : Int32) (xST : Int32) (xSD : Int32) (xSK : Int32) (xTal : Nat → Nat → Int32) (xKn : Nat → Int32) (xFT : Nat → Int32) (xFA : Int32) (xFE : Int32) (xOdds : Int32) (xPat : Int32) (xFind : Int32) (x1 : Int32) (x2 : Int32) (x3 : Int32) {p : Program} {l : Launch} {e : Env} {s : State} {m : MethodId} {args : Array Value} {below : List Frame} {meth : Method} {c : Code} {ls : Array Slot} (hx : p.tables.exec = Jvm.exec) (hb : c.code = cX10_dealt) (hml : c.maxLocals = 5) (hr : meth.sig.returnType = some .int) (hts : ∀ w ∈ wo_X10_dealt, w.before args s = true) (hown : s.vm.findClass RX10 = some m.cls) (hlocks : meth.locks = false) (hl : lv_has ls 5 [(0, .ref (a 0)), (1, .int x1), (2, .int x2), (3, .int x3)]) (hK : va_K D vwCl (xTys k) s) (hP : va_P D vwCl (wX k a xLen xHits xUns xItems xLost xKind xSize xLet xRel xLim xOpen xMeas xSL xST xSD xSK xTal xKn xFT xFA xFE xOdds xPat xFind) s.heap) {o : Int32} (h : f_X10_dealt N x1 x2 x3 xLen xHits xUns xPat = some o) : gRi p l e wo_X10_dealt 5 s m args below meth c o (F0 m 0 ls []) := by
  have hi10 := (fun w h => List.mem_cons_of_mem _ (inlX10 w h) : ∀ w ∈ wsX100, w ∈ wo_X10_dealt)
  have kf11 := hts _ (List.mem_cons_of_mem _ wm_13)
  unfold f_X10_dealt at h
  refine lv_iload_n hx hb dX10_dealt_0 rfl (lv_at hl 1 rfl) ?_
  obtain ⟨o1, eq2, h⟩ := bnd_some h
  refine kPi (rest := []) ⟨hx, hb, hml, hown, hts⟩ (c_X10_isRow l x1 eq2) (va_cwS 1 hts (gAS wm_92 wm_93 wm_2 wm_94) rfl rfl rfl qd_X10_isRow ⟨Nat.le_of_ble_eq_true rfl, Nat.le_of_ble_eq_true rfl⟩) rfl hl.1 rfl (Nat.le_of_ble_eq_true rfl) dX10_dealt_1 ⟨Nat.zero_le _, Nat.zero_le _⟩ ?_
  refine lv_if_eq (tgt := 14) hx hb dX10_dealt_4 (by decide) (fun c3 => ?_) (fun c3 => ?_)
  · replace h := (if_pos c3).symm.trans h
    refine lv_bipush (v := (-2)) hx hb dX10_dealt_14 (by decide) ?_
    exact W.iret (v := (-2)) hx hb hr (fun t ht hW => ⟨_, rfl, Option.some.inj h, ht⟩) (fun q hq => by cases hq) dX10_dealt_16
  · replace h := (if_neg c3).symm.trans h
    refine lv_iload_n hx hb dX10_dealt_7 rfl (lv_at hl 2 rfl) ?_
    obtain ⟨o4, eq5, h⟩ := bnd_some h
    refine kPi (rest := []) ⟨hx, hb, hml, hown, hts⟩ (c_X10_isNumber l x2 eq5) (va_cwS 1 hts (gAS wm_189 wm_190 wm_2 wm_191) rfl rfl rfl qd_X10_isNumber ⟨Nat.le_of_ble_eq_true rfl, Nat.le_of_ble_eq_true rfl⟩) rfl hl.1 rfl (Nat.le_of_ble_eq_true rfl) dX10_dealt_8 ⟨Nat.zero_le _, Nat.zero_le _⟩ ?_
    refine lv_if_ne (tgt := 17) hx hb dX10_dealt_11 (by decide) (fun c6 => ?_) (fun c6 => ?_)
    · replace h := (if_neg c6).symm.trans h
      refine lv_aload_n hx hb dX10_dealt_17 rfl (lv_at hl 0 rfl) ?_
      refine va_get (D := D) (ci := 5) (v := .ref (a 1)) (C := RX10) (T := TX10) (N := 8) hx hb hts hi10 hown hK hP (0) (rfl) rfl 0 (by decide) kf11 (fun _ h9 => h9) rfl dX10_dealt_18 ?_
      refine lv_iload_n hx hb dX10_dealt_21 rfl (lv_at hl 1 rfl) ?_
      obtain ⟨g7, h⟩ := gIn_some h
      refine va_aldq hx hb hK hP (1) 2 rfl rfl g7 dX10_dealt_22 ?_
      refine W.eq (g2 := F0 m 23 ls [.ref (a (14 + x1.toNatClampNeg))]) rfl ?_
      refine lv_astore (lv' := [(4, .ref (a (14 + x1.toNatClampNeg))), (0, .ref (a 0)), (1, .int x1), (2, .int x2), (3, .int x3)]) hx hb dX10_dealt_23 hl (by decide) rfl (fun ls hl => ?_)
      refine lv_aload hx hb dX10_dealt_25 (lv_at hl 0 rfl) ?_
      obtain ⟨o8, eq9, h⟩ := bnd_some h
      refine kRiV (rest := []) (q0 := (14 + x1.toNatClampNeg)) ⟨hx, hb, hml, hown, hts⟩ (c_X5_isWhole l D k a xLen xHits xUns xItems xLost xKind xSize xLet xRel xLim xOpen xMeas xSL xST xSD xSK xTal xKn xFT xFA xFE xOdds xPat xFind x1.toNatClampNeg (vp_in_lt g7) eq9) (cwV 0 hts (gAV wm_192 wm_193 wm_194 wm_15 wm_195) rfl rfl rfl qd_X5_isWhole ⟨Nat.le_of_ble_eq_true rfl, Nat.le_of_ble_eq_true rfl⟩) hK hP (wX_row (vp_in_lt g7)) rfl rfl hl.1 rfl (Nat.le_of_ble_eq_true rfl) dX10_dealt_27 ⟨Nat.zero_le _, Nat.zero_le _⟩ ?_
      refine lv_if_ne (tgt := 36) hx hb dX10_dealt_30 (by decide) (fun c10 => ?_) (fun c10 => ?_)
      · replace h := (if_neg c10).symm.trans h
        refine lv_aload_n hx hb dX10_dealt_36 rfl (lv_at hl 1 rfl) ?_
        refine lv_aload hx hb dX10_dealt_37 (lv_at hl 0 rfl) ?_
        refine lv_iload_n hx hb dX10_dealt_39 rfl (lv_at hl 3 rfl) ?_
        refine lv_iload_n hx hb dX10_dealt_40 rfl (lv_at hl 4 rfl) ?_
        obtain ⟨o11, eq12, h⟩ := bnd_some h
        refine kRiV (rest := []) (q0 := 0) ⟨hx, hb, hml, hown, hts⟩ (c_X10_dealtAsFar l D k a xLen xHits xUns xItems xLost xKind xSize xLet xRel xLim xOpen xMeas xSL xST xSD xSK xTal xKn xFT xFA xFE xOdds xPat xFind x1.toNatClampNeg (vp_in_lt g7) x2 x3 eq12) (cwV 3 hts (gAV wm_586 wm_587 wm_588 wm_2 wm_589) rfl rfl rfl qd_X10_dealtAsFar ⟨Nat.le_of_ble_eq_true rfl, Nat.le_of_ble_eq_true rfl⟩) hK hP (rfl) rfl rfl hl.1 rfl (Nat.le_of_ble_eq_true rfl) dX10_dealt_41 ⟨Nat.zero_le _, Nat.zero_le _⟩ ?_
        refine lv_aload hx hb dX10_dealt_44 (lv_at hl 0 rfl) ?_
        obtain ⟨o13, eq14, h⟩ := bnd_some h
        refine kRiS (rest := [.int o11]) ⟨hx, hb, hml, hown, hts⟩ (c_X2_howMany l D k a xLen xHits xUns xItems xLost xKind xSize xLet xRel xLim xOpen xMeas xSL xST xSD xSK xTal xKn xFT xFA xFE xOdds xPat xFind x1.toNatClampNeg (vp_in_lt g7) eq14) (va_cwS 1 hts (gAS wm_590 wm_591 wm_592 wm_593) rfl rfl rfl qd_X2_howMany ⟨Nat.le_of_ble_eq_true rfl, Nat.le_of_ble_eq_true rfl⟩) hK hP rfl hl.1 rfl (Nat.le_of_ble_eq_true rfl) dX10_dealt_46 ⟨Nat.zero_le _, Nat.zero_le _⟩ ?_
        obtain ⟨o15, eq16, h⟩ := bnd_some h
        refine kPi (rest := []) ⟨hx, hb, hml, hown, hts⟩ (c_X10_millionths l o11 o13 eq16) (va_cwS 2 hts (gAS wm_603 wm_604 wm_2 wm_605) rfl rfl rfl qd_X10_millionths ⟨Nat.le_of_ble_eq_true rfl, Nat.le_of_ble_eq_true rfl⟩) rfl hl.1 rfl (Nat.le_of_ble_eq_true rfl) dX10_dealt_49 ⟨Nat.zero_le _, Nat.zero_le _⟩ ?_
        exact W.iret (v := o15) hx hb hr (fun t ht hW => ⟨_, rfl, Option.some.inj h, ht⟩) (fun q hq => by cases hq) dX10_dealt_52
      · replace h := (if_pos c10).symm.trans h
        refine lv_bipush (v := (-3)) hx hb dX10_dealt_33 (by decide) ?_
        exact W.iret (v := (-3)) hx hb hr (fun t ht hW => ⟨_, rfl, Option.some.inj h, ht⟩) (fun q hq => by cases hq) dX10_dealt_35
    · replace h := (if_pos c6).symm.trans h
      refine lv_bipush (v := (-2)) hx hb dX10_dealt_14 (by decide) ?_
      exact W.iret (v := (-2)) hx hb hr (fun t ht hW => ⟨_, rfl, Option.some.inj h, ht⟩) (fun q hq => by cases hq) dX10_dealt_16
set_option maxHeartbeats 4000000 in
set_option maxRecDepth 100000 in
theorem c_X10_dealt {N : Nat} (l : Launch) (D : va_G) (k : Nat → ClassId) (a : Nat → Nat) (xLen : Nat → Int32) (xHits : Nat → Int32) (xUns : Nat → Int32) (xItems : Nat → Nat → Int32) (xLost : Nat → Int32) (xKind : Nat → Int32) (xSize : Nat → Int32) (xLet : Nat → Int32) (xRel : Nat → Int32) (xLim : Nat → Int32) (xOpen : Nat → Int32) (xMeas : Nat → Int32) (xSL : Int32) (xST : Int32) (xSD : Int32) (xSK : Int32) (xTal : Nat → Nat → Int32) (xKn : Nat → Int32) (xFT : Nat → Int32) (xFA : Int32) (xFE : Int32) (xOdds : Int32) (xPat : Int32) (xFind : Int32) (x1 : Int32) (x2 : Int32) (x3 : Int32) {o : Int32} (h : f_X10_dealt N x1 x2 x3 xLen xHits xUns xPat = some o) : mRi l yX10_dealt wo_X10_dealt 5 D k [.ref (a 0), .int x1, .int x2, .int x3] (wX k a xLen xHits xUns xItems xLost xKind xSize xLet xRel xLim xOpen xMeas xSL xST xSD xSK xTal xKn xFT xFA xFE xOdds xPat xFind) o := by
  refine Met.ofW (cc := cX10_dealt) (maxL := 5) (ret := some .int) (by decide) rfl ?_
  intro p e s m args below meth c s₁ B hml hv
  obtain ⟨rfl, hP, hK⟩ := hv
  rw [lg_entry_eq]
  exact core_X10_dealt D k a xLen xHits xUns xItems xLost xKind xSize xLet xRel xLim xOpen xMeas xSL xST xSD xSK xTal xKn xFT xFA xFE xOdds xPat xFind x1 x2 x3 B.exec B.bytes hml B.returns (atoms_spec (ws := wo_X10_dealt) B.pre) (findClass_of_methodNamed B.named) B.notSynchronized (lv_entry [.ref (a 0), .int x1, .int x2, .int x3] (n := 5) (Nat.le_of_ble_eq_true rfl)) hK hP h
theorem qd_X10_dealt : yX10_dealt.cls = RX10 ∧ yX10_dealt.cls ≠ "java/lang/invoke/MethodHandle" ∧ yX10_dealt.cls ≠ "java/lang/invoke/VarHandle" ∧ (parseMethodDescriptor yX10_dealt.desc).map (fun d => d.parameters.length) = some 3 := by decide +kernel
abbrev wo_X10_strangest : List Cond := .code yX10_strangest cX10_strangest 8 (some .int) :: wsL_law
set_option maxHeartbeats 4000000 in
set_option maxRecDepth 100000 in
theorem core_X10_strangest {N : Nat} (D : va_G) (k : Nat → ClassId) (a : Nat → Nat) (xLen : Nat → Int32) (xHits : Nat → Int32) (xUns : Nat → Int32) (xItems : Nat → Nat → Int32) (xLost : Nat → Int32) (xKind : Nat → Int32) (xSize : Nat → Int32) (xLet : Nat → Int32) (xRel : Nat → Int32) (xLim : Nat → Int32) (xOpen : Nat → Int32) (xMeas : Nat → Int32) (xSL : Int32) (xST : Int32) (xSD : Int32) (xSK : Int32) (xTal : Nat → Nat → Int32) (xKn : Nat → Int32) (xFT : Nat → Int32) (xFA : Int32) (xFE : Int32) (xOdds : Int32) (xPat : Int32) (xFind : Int32) (x1 : Int32) {p : Program} {l : Launch} {e : Env} {s : State} {m : MethodId} {args : Array Value} {below : List Frame} {meth : Method} {c : Code} {ls : Array Slot} (hx : p.tables.exec = Jvm.exec) (hb : c.code = cX10_strangest) (hml : c.maxLocals = 8) (hr : meth.sig.returnType = some .int) (hts : ∀ w ∈ wo_X10_strangest, w.before args s = true) (hown : s.vm.findClass RX10 = some m.cls) (hlocks : meth.locks = false) (hl : lv_has ls 8 [(0, .ref (a 0)), (1, .int x1)]) (hK : va_K D vwCl (xTys k) s) (hP : va_P D vwCl (wX k a xLen xHits xUns xItems xLost xKind xSize xLet xRel xLim xOpen xMeas xSL xST xSD xSK xTal xKn xFT xFA xFE xOdds xPat xFind) s.heap) {o : Int32} (h : f_X10_strangest N x1 xLen xHits xUns xPat = some o) : gRi p l e wo_X10_strangest 5 s m args below meth c o (F0 m 0 ls []) := by
  have hi10 := (fun w h => List.mem_cons_of_mem _ (inlX10 w h) : ∀ w ∈ wsX100, w ∈ wo_X10_strangest)
  have kf11 := hts _ (List.mem_cons_of_mem _ wm_13)
  have hi5 := (fun w h => List.mem_cons_of_mem _ (inlX5 w h) : ∀ w ∈ wsX50, w ∈ wo_X10_strangest)
  have kf69 := hts _ (List.mem_cons_of_mem _ wm_91)
  unfold f_X10_strangest at h
  have L42 : ∀ (n42 : Nat) (e2 : Nat) (x3 : Int32) (x4 : Int32) (x5 : Int32) (ls : Array Slot) (he2 : e2 < 4) (hl : lv_has ls 8 [(0, .ref (a 0)), (2, .ref (a (14 + e2))), (3, .int x3), (4, .int x4), (5, .int x5)]) (h : f_X10_strangest_42 N n42 e2 x3 x4 x5 xLen xHits xUns xPat = some o), gRi p l e wo_X10_strangest 5 s m args below meth c o (F0 m 42 ls []) := by
    intro n42
    induction n42 with
    | zero => intro e2 x3 x4 x5 ls he2 hl h; cases (show (none : Option (Int32)) = some o from h)
    | succ n42 ih42 =>
      have J110 : ∀ (e2 : Nat) (x3 : Int32) (x4 : Int32) (x5 : Int32) (ls : Array Slot) (he2 : e2 < 4) (hl : lv_has ls 8 [(0, .ref (a 0)), (2, .ref (a (14 + e2))), (3, .int x3), (4, .int x4), (5, .int x5)]) (h : f_X10_strangest_110 N (fun y0 y1 y2 y3 y4 y5 y6 y7 => f_X10_strangest_42 N n42 y0 y1 y2 y3 y4 y5 y6 y7) e2 x3 x4 x5 xLen xHits xUns xPat = some o), gRi p l e wo_X10_strangest 5 s m args below meth c o (F0 m 110 ls []) := by
        intro e2 x3 x4 x5 ls he2 hl h
        unfold f_X10_strangest_110 at h
        refine lv_iinc (v := (x5 + 1)) (lv' := [(5, .int (x5 + 1)), (0, .ref (a 0)), (2, .ref (a (14 + e2))), (3, .int x3), (4, .int x4)]) hx hb dX10_strangest_110 hl (k := 4) rfl rfl (by decide) rfl (fun ls hl => ?_)
        refine lv_goto (tgt := 42) hx hb dX10_strangest_113 (by decide) ?_
        exact ih42 e2 x3 x4 (x5 + 1) ls he2 (lv_sub hl [1, 2, 3, 4, 0] rfl) h
      have J103 : ∀ (e2 : Nat) (x5 : Int32) (x7 : Int32) (ls : Array Slot) (he2 : e2 < 4) (hl : lv_has ls 8 [(0, .ref (a 0)), (2, .ref (a (14 + e2))), (5, .int x5), (7, .int x7)]) (h : f_X10_strangest_103 N (fun y0 y1 y2 y3 y4 y5 y6 y7 => f_X10_strangest_42 N n42 y0 y1 y2 y3 y4 y5 y6 y7) e2 x5 x7 xLen xHits xUns xPat = some o), gRi p l e wo_X10_strangest 5 s m args below meth c o (F0 m 103 ls []) := by
        intro e2 x5 x7 ls he2 hl h
        unfold f_X10_strangest_103 at h
        refine lv_iload hx hb dX10_strangest_103 (lv_at hl 2 rfl) ?_
        refine lv_istore_n (lv' := [(3, .int x5), (0, .ref (a 0)), (2, .ref (a (14 + e2))), (5, .int x5), (7, .int x7)]) hx hb dX10_strangest_105 rfl hl (by decide) rfl (fun ls hl => ?_)
        refine lv_iload hx hb dX10_strangest_106 (lv_at hl 4 rfl) ?_
        refine lv_istore (lv' := [(4, .int x7), (3, .int x5), (0, .ref (a 0)), (2, .ref (a (14 + e2))), (5, .int x5), (7, .int x7)]) hx hb dX10_strangest_108 hl (by decide) rfl (fun ls hl => ?_)
        exact J110 e2 x5 x7 x5 ls he2 (lv_sub hl [2, 3, 1, 0, 4] rfl) h
      have J86 : ∀ (e2 : Nat) (x3 : Int32) (x4 : Int32) (x5 : Int32) (es1 : Nat) (s2 : Int32) (s3 : Int32) (ls : Array Slot) (he2 : e2 < 4) (hes1 : es1 < 4) (hl : lv_has ls 8 [(0, .ref (a 0)), (2, .ref (a (14 + e2))), (3, .int x3), (4, .int x4), (5, .int x5)]) (h : f_X10_strangest_86 N (fun y0 y1 y2 y3 y4 y5 y6 y7 => f_X10_strangest_42 N n42 y0 y1 y2 y3 y4 y5 y6 y7) e2 x3 x4 x5 es1 s2 s3 xLen xHits xUns xPat = some o), gRi p l e wo_X10_strangest 5 s m args below meth c o (F0 m 86 ls [.int s3, .int s2, .ref (a (14 + es1)), .ref (a 0)]) := by
        intro e2 x3 x4 x5 es1 s2 s3 ls he2 hes1 hl h
        unfold f_X10_strangest_86 at h
        obtain ⟨o1, eq2, h⟩ := bnd_some h
        refine kRiV (rest := []) (q0 := 0) ⟨hx, hb, hml, hown, hts⟩ (c_X10_dealtAsFar l D k a xLen xHits xUns xItems xLost xKind xSize xLet xRel xLim xOpen xMeas xSL xST xSD xSK xTal xKn xFT xFA xFE xOdds xPat xFind es1 hes1 s2 s3 eq2) (cwV 3 hts (gAV wm_586 wm_587 wm_588 wm_2 wm_589) rfl rfl rfl qd_X10_dealtAsFar ⟨Nat.le_of_ble_eq_true rfl, Nat.le_of_ble_eq_true rfl⟩) hK hP (rfl) rfl rfl hl.1 rfl (Nat.le_of_ble_eq_true rfl) dX10_strangest_86 ⟨Nat.zero_le _, Nat.zero_le _⟩ ?_
        refine lv_istore (lv' := [(7, .int o1), (0, .ref (a 0)), (2, .ref (a (14 + e2))), (3, .int x3), (4, .int x4), (5, .int x5)]) hx hb dX10_strangest_89 hl (by decide) rfl (fun ls hl => ?_)
        refine lv_iload_n hx hb dX10_strangest_91 rfl (lv_at hl 3 rfl) ?_
        refine lv_iconst (v := (-1)) hx hb dX10_strangest_92 (by decide) ?_
        refine lv_icmp_eq (tgt := 103) hx hb dX10_strangest_93 (by decide) (fun c3 => ?_) (fun c3 => ?_)
        · replace h := (if_pos c3).symm.trans h
          exact J103 e2 x5 o1 ls he2 (lv_sub hl [1, 2, 5, 0] rfl) h
        · replace h := (if_neg c3).symm.trans h
          refine lv_iload hx hb dX10_strangest_96 (lv_at hl 0 rfl) ?_
          refine lv_iload hx hb dX10_strangest_98 (lv_at hl 4 rfl) ?_
          refine lv_icmp_ge (tgt := 110) hx hb dX10_strangest_100 (by decide) (fun c4 => ?_) (fun c4 => ?_)
          · replace h := (if_pos c4).symm.trans h
            exact J110 e2 x3 x4 x5 ls he2 (lv_sub hl [1, 2, 3, 4, 5] rfl) h
          · replace h := (if_neg c4).symm.trans h
            exact J103 e2 x5 o1 ls he2 (lv_sub hl [1, 2, 5, 0] rfl) h
      intro e2 x3 x4 x5 ls he2 hl h
      rw [f_X10_strangest_42] at h
      refine lv_iload hx hb dX10_strangest_42 (lv_at hl 4 rfl) ?_
      refine lv_bipush (v := 14) hx hb dX10_strangest_44 (by decide) ?_
      refine lv_icmp_ge (tgt := 116) hx hb dX10_strangest_46 (by decide) (fun c5 => ?_) (fun c5 => ?_)
      · replace h := (if_pos c5).symm.trans h
        refine lv_iload_n hx hb dX10_strangest_116 rfl (lv_at hl 2 rfl) ?_
        exact W.iret (v := x3) hx hb hr (fun t ht hW => ⟨_, rfl, Option.some.inj h, ht⟩) (fun q hq => by cases hq) dX10_strangest_117
      · replace h := (if_neg c5).symm.trans h
        refine lv_iload hx hb dX10_strangest_49 (lv_at hl 4 rfl) ?_
        refine lv_iconst (v := 2) hx hb dX10_strangest_51 (by decide) ?_
        refine lv_idiv hx hb dX10_strangest_52 (by decide) ?_
        refine lv_istore (lv' := [(6, .int (x5 / 2)), (0, .ref (a 0)), (2, .ref (a (14 + e2))), (3, .int x3), (4, .int x4), (5, .int x5)]) hx hb dX10_strangest_53 hl (by decide) rfl (fun ls hl => ?_)
        refine lv_iload hx hb dX10_strangest_55 (lv_at hl 0 rfl) ?_
        refine lv_if_eq (tgt := 110) hx hb dX10_strangest_57 (by decide) (fun c6 => ?_) (fun c6 => ?_)
        · replace h := (if_pos c6).symm.trans h
          exact J110 e2 x3 x4 x5 ls he2 (lv_sub hl [1, 2, 3, 4, 5] rfl) h
        · replace h := (if_neg c6).symm.trans h
          refine lv_iload hx hb dX10_strangest_60 (lv_at hl 0 rfl) ?_
          refine lv_iconst (v := 5) hx hb dX10_strangest_62 (by decide) ?_
          refine lv_icmp_ne (tgt := 69) hx hb dX10_strangest_63 (by decide) (fun c7 => ?_) (fun c7 => ?_)
          · replace h := (if_neg c7).symm.trans h
            refine lv_aload_n hx hb dX10_strangest_69 rfl (lv_at hl 1 rfl) ?_
            refine lv_aload_n hx hb dX10_strangest_70 rfl (lv_at hl 2 rfl) ?_
            refine lv_iload hx hb dX10_strangest_71 (lv_at hl 0 rfl) ?_
            refine lv_iload hx hb dX10_strangest_73 (lv_at hl 5 rfl) ?_
            refine lv_iconst (v := 2) hx hb dX10_strangest_75 (by decide) ?_
            refine lv_irem hx hb dX10_strangest_76 (by decide) ?_
            refine lv_iconst (v := 1) hx hb dX10_strangest_77 (by decide) ?_
            refine lv_icmp_ne (tgt := 85) hx hb dX10_strangest_78 (by decide) (fun c8 => ?_) (fun c8 => ?_)
            · replace h := (if_neg c8).symm.trans h
              refine lv_iconst (v := 0) hx hb dX10_strangest_85 (by decide) ?_
              exact J86 e2 x3 x4 x5 e2 (x5 / 2) 0 ls he2 he2 (lv_sub hl [1, 2, 3, 4, 5] rfl) h
            · replace h := (if_pos c8).symm.trans h
              refine lv_iconst (v := 1) hx hb dX10_strangest_81 (by decide) ?_
              refine lv_goto (tgt := 86) hx hb dX10_strangest_82 (by decide) ?_
              exact J86 e2 x3 x4 x5 e2 (x5 / 2) 1 ls he2 he2 (lv_sub hl [1, 2, 3, 4, 5] rfl) h
          · replace h := (if_pos c7).symm.trans h
            refine lv_goto (tgt := 110) hx hb dX10_strangest_66 (by decide) ?_
            exact J110 e2 x3 x4 x5 ls he2 (lv_sub hl [1, 2, 3, 4, 5] rfl) h
  refine lv_iload_n hx hb dX10_strangest_0 rfl (lv_at hl 1 rfl) ?_
  obtain ⟨o9, eq10, h⟩ := bnd_some h
  refine kPi (rest := []) ⟨hx, hb, hml, hown, hts⟩ (c_X10_isRow l x1 eq10) (va_cwS 1 hts (gAS wm_92 wm_93 wm_2 wm_94) rfl rfl rfl qd_X10_isRow ⟨Nat.le_of_ble_eq_true rfl, Nat.le_of_ble_eq_true rfl⟩) rfl hl.1 rfl (Nat.le_of_ble_eq_true rfl) dX10_strangest_1 ⟨Nat.zero_le _, Nat.zero_le _⟩ ?_
  refine lv_if_ne (tgt := 10) hx hb dX10_strangest_4 (by decide) (fun c11 => ?_) (fun c11 => ?_)
  · replace h := (if_neg c11).symm.trans h
    refine lv_aload_n hx hb dX10_strangest_10 rfl (lv_at hl 0 rfl) ?_
    refine va_get (D := D) (ci := 5) (v := .ref (a 1)) (C := RX10) (T := TX10) (N := 8) hx hb hts hi10 hown hK hP (0) (rfl) rfl 0 (by decide) kf11 (fun _ h9 => h9) rfl dX10_strangest_11 ?_
    refine lv_iload_n hx hb dX10_strangest_14 rfl (lv_at hl 1 rfl) ?_
    obtain ⟨g12, h⟩ := gIn_some h
    refine va_aldq hx hb hK hP (1) 2 rfl rfl g12 dX10_strangest_15 ?_
    refine W.eq (g2 := F0 m 16 ls [.ref (a (14 + x1.toNatClampNeg))]) rfl ?_
    refine lv_astore_n (lv' := [(2, .ref (a (14 + x1.toNatClampNeg))), (0, .ref (a 0)), (1, .int x1)]) hx hb dX10_strangest_16 rfl hl (by decide) rfl (fun ls hl => ?_)
    refine lv_aload_n hx hb dX10_strangest_17 rfl (lv_at hl 0 rfl) ?_
    obtain ⟨o13, eq14, h⟩ := bnd_some h
    refine kRiV (rest := []) (q0 := (14 + x1.toNatClampNeg)) ⟨hx, hb, hml, hown, hts⟩ (c_X5_isWhole l D k a xLen xHits xUns xItems xLost xKind xSize xLet xRel xLim xOpen xMeas xSL xST xSD xSK xTal xKn xFT xFA xFE xOdds xPat xFind x1.toNatClampNeg (vp_in_lt g12) eq14) (cwV 0 hts (gAV wm_192 wm_193 wm_194 wm_15 wm_195) rfl rfl rfl qd_X5_isWhole ⟨Nat.le_of_ble_eq_true rfl, Nat.le_of_ble_eq_true rfl⟩) hK hP (wX_row (vp_in_lt g12)) rfl rfl hl.1 rfl (Nat.le_of_ble_eq_true rfl) dX10_strangest_18 ⟨Nat.zero_le _, Nat.zero_le _⟩ ?_
    refine lv_if_eq (tgt := 31) hx hb dX10_strangest_21 (by decide) (fun c15 => ?_) (fun c15 => ?_)
    · replace h := (if_pos c15).symm.trans h
      refine lv_bipush (v := (-3)) hx hb dX10_strangest_31 (by decide) ?_
      exact W.iret (v := (-3)) hx hb hr (fun t ht hW => ⟨_, rfl, Option.some.inj h, ht⟩) (fun q hq => by cases hq) dX10_strangest_33
    · replace h := (if_neg c15).symm.trans h
      refine lv_aload_n hx hb dX10_strangest_24 rfl (lv_at hl 0 rfl) ?_
      refine va_get (D := D) (ci := 1) (v := .int (xLen x1.toNatClampNeg)) (C := RX5) (T := TX5) (N := 3) hx hb hts hi5 hown hK hP ((14 + x1.toNatClampNeg)) (wX_row (vp_in_lt g12)) rfl 0 (by decide) kf69 (fun _ h9 => h9) rfl dX10_strangest_25 ?_
      refine lv_if_ne (tgt := 34) hx hb dX10_strangest_28 (by decide) (fun c16 => ?_) (fun c16 => ?_)
      · replace h := (if_neg c16).symm.trans h
        refine lv_iconst (v := (-1)) hx hb dX10_strangest_34 (by decide) ?_
        refine lv_istore_n (lv' := [(3, .int (-1)), (2, .ref (a (14 + x1.toNatClampNeg))), (0, .ref (a 0)), (1, .int x1)]) hx hb dX10_strangest_35 rfl hl (by decide) rfl (fun ls hl => ?_)
        refine lv_iconst (v := 0) hx hb dX10_strangest_36 (by decide) ?_
        refine lv_istore (lv' := [(4, .int 0), (3, .int (-1)), (2, .ref (a (14 + x1.toNatClampNeg))), (0, .ref (a 0)), (1, .int x1)]) hx hb dX10_strangest_37 hl (by decide) rfl (fun ls hl => ?_)
        refine lv_iconst (v := 0) hx hb dX10_strangest_39 (by decide) ?_
        refine lv_istore (lv' := [(5, .int 0), (4, .int 0), (3, .int (-1)), (2, .ref (a (14 + x1.toNatClampNeg))), (0, .ref (a 0)), (1, .int x1)]) hx hb dX10_strangest_40 hl (by decide) rfl (fun ls hl => ?_)
        exact L42 N x1.toNatClampNeg (-1) 0 0 ls (vp_in_lt g12) (lv_sub hl [4, 3, 2, 1, 0] rfl) h
      · replace h := (if_pos c16).symm.trans h
        refine lv_bipush (v := (-3)) hx hb dX10_strangest_31 (by decide) ?_
        exact W.iret (v := (-3)) hx hb hr (fun t ht hW => ⟨_, rfl, Option.some.inj h, ht⟩) (fun q hq => by cases hq) dX10_strangest_33
  · replace h := (if_pos c11).symm.trans h
    refine lv_bipush (v := (-2)) hx hb dX10_strangest_7 (by decide) ?_
    exact W.iret (v := (-2)) hx hb hr (fun t ht hW => ⟨_, rfl, Option.some.inj h, ht⟩) (fun q hq => by cases hq) dX10_strangest_9
set_option maxHeartbeats 4000000 in
set_option maxRecDepth 100000 in
theorem c_X10_strangest {N : Nat} (l : Launch) (D : va_G) (k : Nat → ClassId) (a : Nat → Nat) (xLen : Nat → Int32) (xHits : Nat → Int32) (xUns : Nat → Int32) (xItems : Nat → Nat → Int32) (xLost : Nat → Int32) (xKind : Nat → Int32) (xSize : Nat → Int32) (xLet : Nat → Int32) (xRel : Nat → Int32) (xLim : Nat → Int32) (xOpen : Nat → Int32) (xMeas : Nat → Int32) (xSL : Int32) (xST : Int32) (xSD : Int32) (xSK : Int32) (xTal : Nat → Nat → Int32) (xKn : Nat → Int32) (xFT : Nat → Int32) (xFA : Int32) (xFE : Int32) (xOdds : Int32) (xPat : Int32) (xFind : Int32) (x1 : Int32) {o : Int32} (h : f_X10_strangest N x1 xLen xHits xUns xPat = some o) : mRi l yX10_strangest wo_X10_strangest 5 D k [.ref (a 0), .int x1] (wX k a xLen xHits xUns xItems xLost xKind xSize xLet xRel xLim xOpen xMeas xSL xST xSD xSK xTal xKn xFT xFA xFE xOdds xPat xFind) o := by
  refine Met.ofW (cc := cX10_strangest) (maxL := 8) (ret := some .int) (by decide) rfl ?_
  intro p e s m args below meth c s₁ B hml hv
  obtain ⟨rfl, hP, hK⟩ := hv
  rw [lg_entry_eq]
  exact core_X10_strangest D k a xLen xHits xUns xItems xLost xKind xSize xLet xRel xLim xOpen xMeas xSL xST xSD xSK xTal xKn xFT xFA xFE xOdds xPat xFind x1 B.exec B.bytes hml B.returns (atoms_spec (ws := wo_X10_strangest) B.pre) (findClass_of_methodNamed B.named) B.notSynchronized (lv_entry [.ref (a 0), .int x1] (n := 8) (Nat.le_of_ble_eq_true rfl)) hK hP h
theorem qd_X10_strangest : yX10_strangest.cls = RX10 ∧ yX10_strangest.cls ≠ "java/lang/invoke/MethodHandle" ∧ yX10_strangest.cls ≠ "java/lang/invoke/VarHandle" ∧ (parseMethodDescriptor yX10_strangest.desc).map (fun d => d.parameters.length) = some 1 := by decide +kernel
