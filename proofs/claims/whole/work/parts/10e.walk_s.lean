abbrev wo_X0_learn : List Cond := .code yX0_learn cX0_learn 8 none :: wsL_law
set_option maxHeartbeats 4000000 in
set_option maxRecDepth 100000 in
theorem core_X0_learn {N : Nat} (D : va_G) (k : Nat → ClassId) (a : Nat → Nat) (xLen : Nat → Int32) (xHits : Nat → Int32) (xUns : Nat → Int32) (xItems : Nat → Nat → Int32) (xLost : Nat → Int32) (xKind : Nat → Int32) (xSize : Nat → Int32) (xLet : Nat → Int32) (xRel : Nat → Int32) (xLim : Nat → Int32) (xOpen : Nat → Int32) (xMeas : Nat → Int32) (xSL : Int32) (xST : Int32) (xSD : Int32) (xSK : Int32) (xTal : Nat → Nat → Int32) (xKn : Nat → Int32) (xFT : Nat → Int32) (xFA : Int32) (xFE : Int32) (xOdds : Int32) (xPat : Int32) (xFind : Int32) (e1 : Nat) (x3 : Int32) (he1 : e1 < 4) {p : Program} {l : Launch} {e : Env} {s : State} {m : MethodId} {args : Array Value} {below : List Frame} {meth : Method} {c : Code} {ls : Array Slot} (hx : p.tables.exec = Jvm.exec) (hb : c.code = cX0_learn) (hml : c.maxLocals = 8) (hr : meth.sig.returnType = none) (hts : ∀ w ∈ wo_X0_learn, w.before args s = true) (hown : s.vm.findClass RX0 = some m.cls) (hlocks : meth.locks = false) (hl : lv_has ls 8 [(0, .ref (a 12)), (1, .ref (a (14 + e1))), (2, .ref (a 3)), (3, .int x3)]) (hK : va_K D vwCl (xTys k) s) (hP : va_P D vwCl (wX k a xLen xHits xUns xItems xLost xKind xSize xLet xRel xLim xOpen xMeas xSL xST xSD xSK xTal xKn xFT xFA xFE xOdds xPat xFind) s.heap) {A : Nat → Prop} (hD : va_D A (wX k a xLen xHits xUns xItems xLost xKind xSize xLet xRel xLim xOpen xMeas xSL xST xSD xSK xTal xKn xFT xFA xFE xOdds xPat xFind)) (hA : ∀ q : Nat, s.heap.size ≤ q → A q) {o : (Nat → Int32) × (Nat → Int32) × (Int32) × (Int32)} (h : f_X0_learn N e1 x3 xLen xHits xUns xLet xRel xLim xOpen xMeas xST xFT xFA xFE = some o) : gQv p l e wo_X0_learn 4 s m args below meth c D k A  (wX k a xLen xHits xUns xItems xLost xKind xSize xLet xRel xLim xOpen o.1 xSL xST xSD xSK xTal xKn o.2.1 o.2.2.1 o.2.2.2 xOdds xPat xFind) s.heap [] (F0 m 0 ls []) := by
  have hi5 := (fun w h => List.mem_cons_of_mem _ (inlX5 w h) : ∀ w ∈ wsX50, w ∈ wo_X0_learn)
  have kf22 := hts _ (List.mem_cons_of_mem _ wm_546)
  have kf33 := hts _ (List.mem_cons_of_mem _ wm_547)
  have kf36 := hts _ (List.mem_cons_of_mem _ wm_548)
  have hi0 := (fun w h => List.mem_cons_of_mem _ (inlX0 w h) : ∀ w ∈ wsX00, w ∈ wo_X0_learn)
  have kf9 := hts _ (List.mem_cons_of_mem _ wm_67)
  have kf15 := hts _ (List.mem_cons_of_mem _ wm_544)
  have kf19 := hts _ (List.mem_cons_of_mem _ wm_545)
  unfold f_X0_learn at h
  have hS : va_S A s.heap s.heap [] := va_S.rf
  have L51 : ∀ (n51 : Nat) (e1 : Nat) (x3 : Int32) (x4 : Int32) (x5 : Int32) (x6 : Int32) (xMeas : Nat → Int32) (xFT : Nat → Int32) (xFA : Int32) (xFE : Int32) (ls : Array Slot) (H : Heap) (locs : List Loc) (he1 : e1 < 4) (hl : lv_has ls 8 [(0, .ref (a 12)), (1, .ref (a (14 + e1))), (2, .ref (a 3)), (3, .int x3), (4, .int x4), (5, .int x5), (6, .int x6)]) (hP : va_P D vwCl (wX k a xLen xHits xUns xItems xLost xKind xSize xLet xRel xLim xOpen xMeas xSL xST xSD xSK xTal xKn xFT xFA xFE xOdds xPat xFind) H) (hD : va_D A (wX k a xLen xHits xUns xItems xLost xKind xSize xLet xRel xLim xOpen xMeas xSL xST xSD xSK xTal xKn xFT xFA xFE xOdds xPat xFind)) (hS : va_S A s.heap H locs) (h : f_X0_learn_51 N n51 e1 x3 x4 x5 x6 xLen xHits xUns xLet xRel xLim xOpen xMeas xST xFT xFA xFE = some o), gQv p l e wo_X0_learn 4 s m args below meth c D k A  (wX k a xLen xHits xUns xItems xLost xKind xSize xLet xRel xLim xOpen o.1 xSL xST xSD xSK xTal xKn o.2.1 o.2.2.1 o.2.2.2 xOdds xPat xFind) H locs (F0 m 51 ls []) := by
    intro n51
    induction n51 with
    | zero => intro e1 x3 x4 x5 x6 xMeas xFT xFA xFE ls H locs he1 hl hP hD hS h; cases (show (none : Option ((Nat → Int32) × (Nat → Int32) × (Int32) × (Int32))) = some o from h)
    | succ n51 ih51 =>
      have J117 : ∀ (e1 : Nat) (x3 : Int32) (x4 : Int32) (x5 : Int32) (x6 : Int32) (xMeas : Nat → Int32) (xFT : Nat → Int32) (xFA : Int32) (xFE : Int32) (ls : Array Slot) (H : Heap) (locs : List Loc) (he1 : e1 < 4) (hl : lv_has ls 8 [(0, .ref (a 12)), (1, .ref (a (14 + e1))), (2, .ref (a 3)), (3, .int x3), (4, .int x4), (5, .int x5), (6, .int x6)]) (hP : va_P D vwCl (wX k a xLen xHits xUns xItems xLost xKind xSize xLet xRel xLim xOpen xMeas xSL xST xSD xSK xTal xKn xFT xFA xFE xOdds xPat xFind) H) (hD : va_D A (wX k a xLen xHits xUns xItems xLost xKind xSize xLet xRel xLim xOpen xMeas xSL xST xSD xSK xTal xKn xFT xFA xFE xOdds xPat xFind)) (hS : va_S A s.heap H locs) (h : f_X0_learn_117 N (fun y0 y1 y2 y3 y4 y5 y6 y7 y8 y9 y10 y11 y12 y13 y14 y15 y16 => f_X0_learn_51 N n51 y0 y1 y2 y3 y4 y5 y6 y7 y8 y9 y10 y11 y12 y13 y14 y15 y16) e1 x3 x4 x5 x6 xLen xHits xUns xLet xRel xLim xOpen xMeas xST xFT xFA xFE = some o), gQv p l e wo_X0_learn 4 s m args below meth c D k A  (wX k a xLen xHits xUns xItems xLost xKind xSize xLet xRel xLim xOpen o.1 xSL xST xSD xSK xTal xKn o.2.1 o.2.2.1 o.2.2.2 xOdds xPat xFind) H locs (F0 m 117 ls []) := by
        intro e1 x3 x4 x5 x6 xMeas xFT xFA xFE ls H locs he1 hl hP hD hS h
        unfold f_X0_learn_117 at h
        refine lv_iload hx hb dX0_learn_117 (lv_at hl 5 rfl) ?_
        refine lv_aload_n hx hb dX0_learn_119 rfl (lv_at hl 1 rfl) ?_
        refine va_get (D := D) (ci := 1) (v := .int (xUns e1)) (C := RX5) (T := TX5) (N := 3) hx hb hts hi5 hown hK hP ((14 + e1)) (wX_row he1) rfl 2 (by decide) kf22 (fun _ h9 => h9) rfl dX0_learn_120 ?_
        refine lv_isub hx hb dX0_learn_123 ?_
        refine lv_aload_n hx hb dX0_learn_124 rfl (lv_at hl 1 rfl) ?_
        refine va_get (D := D) (ci := 1) (v := .int (xUns e1)) (C := RX5) (T := TX5) (N := 3) hx hb hts hi5 hown hK hP ((14 + e1)) (wX_row he1) rfl 2 (by decide) kf22 (fun _ h9 => h9) rfl dX0_learn_125 ?_
        refine lv_iand hx hb dX0_learn_128 ?_
        refine lv_istore (lv' := [(5, .int ((x5 - (xUns e1)) &&& (xUns e1))), (0, .ref (a 12)), (1, .ref (a (14 + e1))), (2, .ref (a 3)), (3, .int x3), (4, .int x4), (6, .int x6)]) hx hb dX0_learn_129 hl (by decide) rfl (fun ls hl => ?_)
        refine lv_iinc (v := (x6 + 1)) (lv' := [(6, .int (x6 + 1)), (5, .int ((x5 - (xUns e1)) &&& (xUns e1))), (0, .ref (a 12)), (1, .ref (a (14 + e1))), (2, .ref (a 3)), (3, .int x3), (4, .int x4)]) hx hb dX0_learn_131 hl (k := 6) rfl rfl (by decide) rfl (fun ls hl => ?_)
        refine lv_goto (tgt := 51) hx hb dX0_learn_134 (by decide) ?_
        exact ih51 e1 x3 x4 ((x5 - (xUns e1)) &&& (xUns e1)) (x6 + 1) xMeas xFT xFA xFE ls H locs he1 (lv_sub hl [2, 3, 4, 5, 6, 1, 0] rfl) hP hD hS h
      intro e1 x3 x4 x5 x6 xMeas xFT xFA xFE ls H locs he1 hl hP hD hS h
      rw [f_X0_learn_51] at h
      refine lv_iload hx hb dX0_learn_51 (lv_at hl 6 rfl) ?_
      refine lv_iload hx hb dX0_learn_53 (lv_at hl 4 rfl) ?_
      refine lv_icmp_ge (tgt := 137) hx hb dX0_learn_55 (by decide) (fun c1 => ?_) (fun c1 => ?_)
      · replace h := (if_pos c1).symm.trans h
        have he := Option.some.inj h
        exact W.vret hx hb hr (fun t ht hW => ⟨⟨wX k a xLen xHits xUns xItems xLost xKind xSize xLet xRel xLim xOpen xMeas xSL xST xSD xSK xTal xKn xFT xFA xFE xOdds xPat xFind, rfl, (congrArg (fun z => wX k a xLen xHits xUns xItems xLost xKind xSize xLet xRel xLim xOpen z.1 xSL xST xSD xSK xTal xKn z.2.1 z.2.2.1 z.2.2.2 xOdds xPat xFind) he), by rw [ht]; exact hP, va_K.moved hW.alike hK, hD⟩, hS.F ht⟩) hS.2.2 dX0_learn_137
      · replace h := (if_neg c1).symm.trans h
        refine lv_aload_n hx hb dX0_learn_58 rfl (lv_at hl 1 rfl) ?_
        refine va_get (D := D) (ci := 1) (v := .int (xHits e1)) (C := RX5) (T := TX5) (N := 3) hx hb hts hi5 hown hK hP ((14 + e1)) (wX_row he1) rfl 1 (by decide) kf33 (fun _ h9 => h9) rfl dX0_learn_59 ?_
        refine lv_iload hx hb dX0_learn_62 (lv_at hl 5 rfl) ?_
        refine lv_ior hx hb dX0_learn_64 ?_
        refine lv_istore (lv' := [(7, .int ((xHits e1) ||| x5)), (0, .ref (a 12)), (1, .ref (a (14 + e1))), (2, .ref (a 3)), (3, .int x3), (4, .int x4), (5, .int x5), (6, .int x6)]) hx hb dX0_learn_65 hl (by decide) rfl (fun ls hl => ?_)
        refine lv_aload_n hx hb dX0_learn_67 rfl (lv_at hl 3 rfl) ?_
        refine lv_aload_n hx hb dX0_learn_68 rfl (lv_at hl 2 rfl) ?_
        refine va_get (D := D) (ci := 1) (v := .int (xLen e1)) (C := RX5) (T := TX5) (N := 3) hx hb hts hi5 hown hK hP ((14 + e1)) (wX_row he1) rfl 0 (by decide) kf36 (fun _ h9 => h9) rfl dX0_learn_69 ?_
        refine lv_iload hx hb dX0_learn_72 (lv_at hl 0 rfl) ?_
        refine lv_iload_n hx hb dX0_learn_74 rfl (lv_at hl 4 rfl) ?_
        obtain ⟨o2, eq3, h⟩ := bnd_some h
        refine kQiV (rest := []) (q0 := 3) ⟨hx, hb, hml, hown, hts⟩ (c_X6_hold l D k a xLen xHits xUns xItems xLost xKind xSize xLet xRel xLim xOpen xMeas xSL xST xSD xSK xTal xKn xFT xFA xFE xOdds xPat xFind (xLen e1) ((xHits e1) ||| x5) x3 eq3) (cwV 3 hts (gAV wm_550 wm_443 wm_444 wm_22 wm_445) rfl rfl rfl qd_X6_hold ⟨Nat.le_of_ble_eq_true rfl, Nat.le_of_ble_eq_true rfl⟩) hK hP hD hS hA (rfl) rfl rfl hl.1 rfl (Nat.le_of_ble_eq_true rfl) dX0_learn_75 ⟨Nat.zero_le _, Nat.zero_le _⟩ (fun H locs hP hD hS => ?_)
        have hP : va_P D vwCl (wX k a xLen xHits xUns xItems xLost xKind xSize xLet xRel xLim xOpen o2.2 xSL xST xSD xSK xTal xKn xFT xFA xFE xOdds xPat xFind) H := hP
        have hD : va_D A (wX k a xLen xHits xUns xItems xLost xKind xSize xLet xRel xLim xOpen o2.2 xSL xST xSD xSK xTal xKn xFT xFA xFE xOdds xPat xFind) := hD
        refine lv_if_eq (tgt := 117) hx hb dX0_learn_78 (by decide) (fun c4 => ?_) (fun c4 => ?_)
        · replace h := (if_pos c4).symm.trans h
          exact J117 e1 x3 x4 x5 x6 o2.2 xFT xFA xFE ls H locs he1 (lv_sub hl [1, 2, 3, 4, 5, 6, 7] rfl) hP hD hS h
        · replace h := (if_neg c4).symm.trans h
          refine lv_aload_n hx hb dX0_learn_81 rfl (lv_at hl 1 rfl) ?_
          refine va_get (D := D) (ci := 0) (v := .ref (a 13)) (C := RX0) (T := TX0) (N := 3) hx hb hts hi0 hown hK hP (12) (rfl) rfl 0 (by decide) kf9 (fun _ h9 => h9) rfl dX0_learn_82 ?_
          refine lv_iload hx hb dX0_learn_85 (lv_at hl 6 rfl) ?_
          obtain ⟨o5, eq6, h⟩ := bnd_some h
          refine kPi (rest := [.ref (a 13)]) ⟨hx, hb, hml, hown, hts⟩ (c_J6_bitCount_0f7a4 l x5 eq6) (va_cwS 1 hts (gAS wm_549 wm_210 wm_211 wm_212) rfl rfl rfl qd_J6_bitCount_0f7a4 ⟨Nat.le_of_ble_eq_true rfl, Nat.le_of_ble_eq_true rfl⟩) rfl hl.1 rfl (Nat.le_of_ble_eq_true rfl) dX0_learn_87 ⟨Nat.zero_le _, Nat.zero_le _⟩ ?_
          refine lv_dup2_11 hx hb dX0_learn_90 rfl rfl ?_
          obtain ⟨g7, h⟩ := gIn_some h
          refine va_iald hx hb hK hP (13) 0 (rfl) rfl g7 dX0_learn_91 ?_
          refine lv_iconst (v := 1) hx hb dX0_learn_92 (by decide) ?_
          refine lv_iadd hx hb dX0_learn_93 ?_
          refine va_iast hx hb hK hP hD hS (13) 0 (rfl) rfl g7 dX0_learn_94 (fun H locs hP hD hS => ?_)
          have hP : va_P D vwCl (wX k a xLen xHits xUns xItems xLost xKind xSize xLet xRel xLim xOpen o2.2 xSL xST xSD xSK xTal xKn (upd xFT o5.toNatClampNeg ((xFT o5.toNatClampNeg) + 1)) xFA xFE xOdds xPat xFind) H := hP
          have hD : va_D A (wX k a xLen xHits xUns xItems xLost xKind xSize xLet xRel xLim xOpen o2.2 xSL xST xSD xSK xTal xKn (upd xFT o5.toNatClampNeg ((xFT o5.toNatClampNeg) + 1)) xFA xFE xOdds xPat xFind) := hD
          refine lv_aload_n hx hb dX0_learn_95 rfl (lv_at hl 1 rfl) ?_
          refine lv_dup hx hb dX0_learn_96 rfl ?_
          refine va_get (D := D) (ci := 0) (v := .int xFA) (C := RX0) (T := TX0) (N := 3) hx hb hts hi0 hown hK hP (12) (rfl) rfl 1 (by decide) kf15 (fun _ h9 => h9) rfl dX0_learn_97 ?_
          refine lv_iload hx hb dX0_learn_100 (lv_at hl 0 rfl) ?_
          refine lv_iand hx hb dX0_learn_102 ?_
          refine va_put (D := D) (ci := 0) (v := .int (xFA &&& ((xHits e1) ||| x5))) (ty := .int) (C := RX0) (T := TX0) (N := 3) hx hb hts hi0 tyX0 tyX0_ok nmX0 hown hK hP hD hS (12) (rfl) rfl 1 (by decide) kf15 (fun _ h9 => h9) rfl (tyX0_ok 1 (by decide)) rfl rfl (Nat.le_of_ble_eq_true rfl) dX0_learn_103 (fun H locs hP hD hS => ?_)
          have hP : va_P D vwCl (wX k a xLen xHits xUns xItems xLost xKind xSize xLet xRel xLim xOpen o2.2 xSL xST xSD xSK xTal xKn (upd xFT o5.toNatClampNeg ((xFT o5.toNatClampNeg) + 1)) (xFA &&& ((xHits e1) ||| x5)) xFE xOdds xPat xFind) H := hP
          have hD : va_D A (wX k a xLen xHits xUns xItems xLost xKind xSize xLet xRel xLim xOpen o2.2 xSL xST xSD xSK xTal xKn (upd xFT o5.toNatClampNeg ((xFT o5.toNatClampNeg) + 1)) (xFA &&& ((xHits e1) ||| x5)) xFE xOdds xPat xFind) := hD
          refine lv_aload_n hx hb dX0_learn_106 rfl (lv_at hl 1 rfl) ?_
          refine lv_dup hx hb dX0_learn_107 rfl ?_
          refine va_get (D := D) (ci := 0) (v := .int xFE) (C := RX0) (T := TX0) (N := 3) hx hb hts hi0 hown hK hP (12) (rfl) rfl 2 (by decide) kf19 (fun _ h9 => h9) rfl dX0_learn_108 ?_
          refine lv_iload hx hb dX0_learn_111 (lv_at hl 0 rfl) ?_
          refine lv_ior hx hb dX0_learn_113 ?_
          refine va_put (D := D) (ci := 0) (v := .int (xFE ||| ((xHits e1) ||| x5))) (ty := .int) (C := RX0) (T := TX0) (N := 3) hx hb hts hi0 tyX0 tyX0_ok nmX0 hown hK hP hD hS (12) (rfl) rfl 2 (by decide) kf19 (fun _ h9 => h9) rfl (tyX0_ok 2 (by decide)) rfl rfl (Nat.le_of_ble_eq_true rfl) dX0_learn_114 (fun H locs hP hD hS => ?_)
          have hP : va_P D vwCl (wX k a xLen xHits xUns xItems xLost xKind xSize xLet xRel xLim xOpen o2.2 xSL xST xSD xSK xTal xKn (upd xFT o5.toNatClampNeg ((xFT o5.toNatClampNeg) + 1)) (xFA &&& ((xHits e1) ||| x5)) (xFE ||| ((xHits e1) ||| x5)) xOdds xPat xFind) H := hP
          have hD : va_D A (wX k a xLen xHits xUns xItems xLost xKind xSize xLet xRel xLim xOpen o2.2 xSL xST xSD xSK xTal xKn (upd xFT o5.toNatClampNeg ((xFT o5.toNatClampNeg) + 1)) (xFA &&& ((xHits e1) ||| x5)) (xFE ||| ((xHits e1) ||| x5)) xOdds xPat xFind) := hD
          exact J117 e1 x3 x4 x5 x6 o2.2 (upd xFT o5.toNatClampNeg ((xFT o5.toNatClampNeg) + 1)) (xFA &&& ((xHits e1) ||| x5)) (xFE ||| ((xHits e1) ||| x5)) ls H locs he1 (lv_sub hl [1, 2, 3, 4, 5, 6, 7] rfl) hP hD hS h
  have L3 : ∀ (n3 : Nat) (e1 : Nat) (x3 : Int32) (x4 : Int32) (xMeas : Nat → Int32) (xFT : Nat → Int32) (xFA : Int32) (xFE : Int32) (ls : Array Slot) (H : Heap) (locs : List Loc) (he1 : e1 < 4) (hl : lv_has ls 8 [(0, .ref (a 12)), (1, .ref (a (14 + e1))), (2, .ref (a 3)), (3, .int x3), (4, .int x4)]) (hP : va_P D vwCl (wX k a xLen xHits xUns xItems xLost xKind xSize xLet xRel xLim xOpen xMeas xSL xST xSD xSK xTal xKn xFT xFA xFE xOdds xPat xFind) H) (hD : va_D A (wX k a xLen xHits xUns xItems xLost xKind xSize xLet xRel xLim xOpen xMeas xSL xST xSD xSK xTal xKn xFT xFA xFE xOdds xPat xFind)) (hS : va_S A s.heap H locs) (h : f_X0_learn_3 N n3 e1 x3 x4 xLen xHits xUns xLet xRel xLim xOpen xMeas xST xFT xFA xFE = some o), gQv p l e wo_X0_learn 4 s m args below meth c D k A  (wX k a xLen xHits xUns xItems xLost xKind xSize xLet xRel xLim xOpen o.1 xSL xST xSD xSK xTal xKn o.2.1 o.2.2.1 o.2.2.2 xOdds xPat xFind) H locs (F0 m 3 ls []) := by
    intro n3
    induction n3 with
    | zero => intro e1 x3 x4 xMeas xFT xFA xFE ls H locs he1 hl hP hD hS h; cases (show (none : Option ((Nat → Int32) × (Nat → Int32) × (Int32) × (Int32))) = some o from h)
    | succ n3 ih3 =>
      intro e1 x3 x4 xMeas xFT xFA xFE ls H locs he1 hl hP hD hS h
      rw [f_X0_learn_3] at h
      refine lv_iload hx hb dX0_learn_3 (lv_at hl 4 rfl) ?_
      refine lv_bipush (v := 15) hx hb dX0_learn_5 (by decide) ?_
      refine lv_icmp_gt (tgt := 24) hx hb dX0_learn_7 (by decide) (fun c8 => ?_) (fun c8 => ?_)
      · replace h := (if_pos c8).symm.trans h
        refine lv_aload_n hx hb dX0_learn_24 rfl (lv_at hl 0 rfl) ?_
        refine lv_iconst (v := (-1)) hx hb dX0_learn_25 (by decide) ?_
        refine va_put (D := D) (ci := 0) (v := .int (-1)) (ty := .int) (C := RX0) (T := TX0) (N := 3) hx hb hts hi0 tyX0 tyX0_ok nmX0 hown hK hP hD hS (12) (rfl) rfl 1 (by decide) kf15 (fun _ h9 => h9) rfl (tyX0_ok 1 (by decide)) rfl rfl (Nat.le_of_ble_eq_true rfl) dX0_learn_26 (fun H locs hP hD hS => ?_)
        have hP : va_P D vwCl (wX k a xLen xHits xUns xItems xLost xKind xSize xLet xRel xLim xOpen xMeas xSL xST xSD xSK xTal xKn xFT (-1) xFE xOdds xPat xFind) H := hP
        have hD : va_D A (wX k a xLen xHits xUns xItems xLost xKind xSize xLet xRel xLim xOpen xMeas xSL xST xSD xSK xTal xKn xFT (-1) xFE xOdds xPat xFind) := hD
        refine lv_aload_n hx hb dX0_learn_29 rfl (lv_at hl 0 rfl) ?_
        refine lv_iconst (v := 0) hx hb dX0_learn_30 (by decide) ?_
        refine va_put (D := D) (ci := 0) (v := .int 0) (ty := .int) (C := RX0) (T := TX0) (N := 3) hx hb hts hi0 tyX0 tyX0_ok nmX0 hown hK hP hD hS (12) (rfl) rfl 2 (by decide) kf19 (fun _ h9 => h9) rfl (tyX0_ok 2 (by decide)) rfl rfl (Nat.le_of_ble_eq_true rfl) dX0_learn_31 (fun H locs hP hD hS => ?_)
        have hP : va_P D vwCl (wX k a xLen xHits xUns xItems xLost xKind xSize xLet xRel xLim xOpen xMeas xSL xST xSD xSK xTal xKn xFT (-1) 0 xOdds xPat xFind) H := hP
        have hD : va_D A (wX k a xLen xHits xUns xItems xLost xKind xSize xLet xRel xLim xOpen xMeas xSL xST xSD xSK xTal xKn xFT (-1) 0 xOdds xPat xFind) := hD
        refine lv_iconst (v := 1) hx hb dX0_learn_34 (by decide) ?_
        refine lv_aload_n hx hb dX0_learn_35 rfl (lv_at hl 1 rfl) ?_
        refine va_get (D := D) (ci := 1) (v := .int (xUns e1)) (C := RX5) (T := TX5) (N := 3) hx hb hts hi5 hown hK hP ((14 + e1)) (wX_row he1) rfl 2 (by decide) kf22 (fun _ h9 => h9) rfl dX0_learn_36 ?_
        obtain ⟨o9, eq10, h⟩ := bnd_some h
        refine kPi (rest := [.int 1]) ⟨hx, hb, hml, hown, hts⟩ (c_J6_bitCount_0f7a4 l (xUns e1) eq10) (va_cwS 1 hts (gAS wm_549 wm_210 wm_211 wm_212) rfl rfl rfl qd_J6_bitCount_0f7a4 ⟨Nat.le_of_ble_eq_true rfl, Nat.le_of_ble_eq_true rfl⟩) rfl hl.1 rfl (Nat.le_of_ble_eq_true rfl) dX0_learn_39 ⟨Nat.zero_le _, Nat.zero_le _⟩ ?_
        refine lv_ishl hx hb dX0_learn_42 ?_
        refine lv_istore (lv' := [(4, .int ((1 : Int32) <<< (o9 &&& 31))), (0, .ref (a 12)), (1, .ref (a (14 + e1))), (2, .ref (a 3)), (3, .int x3)]) hx hb dX0_learn_43 hl (by decide) rfl (fun ls hl => ?_)
        refine lv_iconst (v := 0) hx hb dX0_learn_45 (by decide) ?_
        refine lv_istore (lv' := [(5, .int 0), (4, .int ((1 : Int32) <<< (o9 &&& 31))), (0, .ref (a 12)), (1, .ref (a (14 + e1))), (2, .ref (a 3)), (3, .int x3)]) hx hb dX0_learn_46 hl (by decide) rfl (fun ls hl => ?_)
        refine lv_iconst (v := 0) hx hb dX0_learn_48 (by decide) ?_
        refine lv_istore (lv' := [(6, .int 0), (5, .int 0), (4, .int ((1 : Int32) <<< (o9 &&& 31))), (0, .ref (a 12)), (1, .ref (a (14 + e1))), (2, .ref (a 3)), (3, .int x3)]) hx hb dX0_learn_49 hl (by decide) rfl (fun ls hl => ?_)
        exact L51 N e1 x3 ((1 : Int32) <<< (o9 &&& 31)) 0 0 xMeas xFT (-1) 0 ls H locs he1 (lv_sub hl [3, 4, 5, 6, 2, 1, 0] rfl) hP hD hS h
      · replace h := (if_neg c8).symm.trans h
        refine lv_aload_n hx hb dX0_learn_10 rfl (lv_at hl 0 rfl) ?_
        refine va_get (D := D) (ci := 0) (v := .ref (a 13)) (C := RX0) (T := TX0) (N := 3) hx hb hts hi0 hown hK hP (12) (rfl) rfl 0 (by decide) kf9 (fun _ h9 => h9) rfl dX0_learn_11 ?_
        refine lv_iload hx hb dX0_learn_14 (lv_at hl 4 rfl) ?_
        refine lv_iconst (v := 0) hx hb dX0_learn_16 (by decide) ?_
        obtain ⟨g11, h⟩ := gIn_some h
        refine va_iast hx hb hK hP hD hS (13) 0 (rfl) rfl g11 dX0_learn_17 (fun H locs hP hD hS => ?_)
        have hP : va_P D vwCl (wX k a xLen xHits xUns xItems xLost xKind xSize xLet xRel xLim xOpen xMeas xSL xST xSD xSK xTal xKn (upd xFT x4.toNatClampNeg 0) xFA xFE xOdds xPat xFind) H := hP
        have hD : va_D A (wX k a xLen xHits xUns xItems xLost xKind xSize xLet xRel xLim xOpen xMeas xSL xST xSD xSK xTal xKn (upd xFT x4.toNatClampNeg 0) xFA xFE xOdds xPat xFind) := hD
        refine lv_iinc (v := (x4 + 1)) (lv' := [(4, .int (x4 + 1)), (0, .ref (a 12)), (1, .ref (a (14 + e1))), (2, .ref (a 3)), (3, .int x3)]) hx hb dX0_learn_18 hl (k := 4) rfl rfl (by decide) rfl (fun ls hl => ?_)
        refine lv_goto (tgt := 3) hx hb dX0_learn_21 (by decide) ?_
        exact ih3 e1 x3 (x4 + 1) xMeas (upd xFT x4.toNatClampNeg 0) xFA xFE ls H locs he1 (lv_sub hl [1, 2, 3, 4, 0] rfl) hP hD hS h
  obtain ⟨H, hH⟩ : ∃ H : Heap, H = s.heap := ⟨_, rfl⟩
  obtain ⟨locs, hlc⟩ : ∃ locs : List Loc, locs = [] := ⟨_, rfl⟩
  have hS : va_S A s.heap H locs := by rw [hH, hlc]; exact va_S.rf
  have hP : va_P D vwCl (wX k a xLen xHits xUns xItems xLost xKind xSize xLet xRel xLim xOpen xMeas xSL xST xSD xSK xTal xKn xFT xFA xFE xOdds xPat xFind) H := by rw [hH]; exact hP
  suffices hGo : gQv p l e wo_X0_learn 4 s m args below meth c D k A  (wX k a xLen xHits xUns xItems xLost xKind xSize xLet xRel xLim xOpen o.1 xSL xST xSD xSK xTal xKn o.2.1 o.2.2.1 o.2.2.2 xOdds xPat xFind) H locs (F0 m 0 ls []) by rw [hH, hlc] at hGo; exact hGo
  refine lv_iconst (v := 0) hx hb dX0_learn_0 (by decide) ?_
  refine lv_istore (lv' := [(4, .int 0), (0, .ref (a 12)), (1, .ref (a (14 + e1))), (2, .ref (a 3)), (3, .int x3)]) hx hb dX0_learn_1 hl (by decide) rfl (fun ls hl => ?_)
  exact L3 N e1 x3 0 xMeas xFT xFA xFE ls H locs he1 (lv_sub hl [1, 2, 3, 4, 0] rfl) hP hD hS h
set_option maxHeartbeats 4000000 in
set_option maxRecDepth 100000 in
theorem c_X0_learn {N : Nat} (l : Launch) (D : va_G) (k : Nat → ClassId) (a : Nat → Nat) (xLen : Nat → Int32) (xHits : Nat → Int32) (xUns : Nat → Int32) (xItems : Nat → Nat → Int32) (xLost : Nat → Int32) (xKind : Nat → Int32) (xSize : Nat → Int32) (xLet : Nat → Int32) (xRel : Nat → Int32) (xLim : Nat → Int32) (xOpen : Nat → Int32) (xMeas : Nat → Int32) (xSL : Int32) (xST : Int32) (xSD : Int32) (xSK : Int32) (xTal : Nat → Nat → Int32) (xKn : Nat → Int32) (xFT : Nat → Int32) (xFA : Int32) (xFE : Int32) (xOdds : Int32) (xPat : Int32) (xFind : Int32) (e1 : Nat) (he1 : e1 < 4) (x3 : Int32) {o : (Nat → Int32) × (Nat → Int32) × (Int32) × (Int32)} (h : f_X0_learn N e1 x3 xLen xHits xUns xLet xRel xLim xOpen xMeas xST xFT xFA xFE = some o) : mQv l yX0_learn wo_X0_learn 4 D k [.ref (a 12), .ref (a (14 + e1)), .ref (a 3), .int x3] (wX k a xLen xHits xUns xItems xLost xKind xSize xLet xRel xLim xOpen xMeas xSL xST xSD xSK xTal xKn xFT xFA xFE xOdds xPat xFind) (wX k a xLen xHits xUns xItems xLost xKind xSize xLet xRel xLim xOpen o.1 xSL xST xSD xSK xTal xKn o.2.1 o.2.2.1 o.2.2.2 xOdds xPat xFind) := by
  intro sz
  refine Met.ofW (cc := cX0_learn) (maxL := 8) (ret := none) (by decide) rfl ?_
  intro p e s m args below meth c s₁ B hml hv
  obtain ⟨rfl, hsz, hP, hK, hD0⟩ := hv
  subst hsz
  rw [lg_entry_eq]
  exact core_X0_learn D k a xLen xHits xUns xItems xLost xKind xSize xLet xRel xLim xOpen xMeas xSL xST xSD xSK xTal xKn xFT xFA xFE xOdds xPat xFind e1 x3 he1 B.exec B.bytes hml B.returns (atoms_spec (ws := wo_X0_learn) B.pre) (findClass_of_methodNamed B.named) B.notSynchronized (lv_entry [.ref (a 12), .ref (a (14 + e1)), .ref (a 3), .int x3] (n := 8) (Nat.le_of_ble_eq_true rfl)) hK hP hD0.self (fun q h => Or.inr h) h
theorem qd_X0_learn : yX0_learn.cls = RX0 ∧ yX0_learn.cls ≠ "java/lang/invoke/MethodHandle" ∧ yX0_learn.cls ≠ "java/lang/invoke/VarHandle" ∧ (parseMethodDescriptor yX0_learn.desc).map (fun d => d.parameters.length) = some 3 := by decide +kernel
