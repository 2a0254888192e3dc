abbrev wo_X5_signAt : List Cond := .code yX5_signAt cX5_signAt 3 (some .int) :: wsL_law
set_option maxHeartbeats 4000000 in
set_option maxRecDepth 100000 in
theorem core_X5_signAt (D : va_G) (k : Nat → ClassId) (a : Nat → Nat) (xLen : Nat → Int32) (xHits : Nat → Int32) (xUns : Nat → Int32) (xItems : Nat → Nat → Int32) (xLost : Nat → Int32) (xKind : Nat → Int32) (xSize : Nat → Int32) (xLet : Nat → Int32) (xRel : Nat → Int32) (xLim : Nat → Int32) (xOpen : Nat → Int32) (xMeas : Nat → Int32) (xSL : Int32) (xST : Int32) (xSD : Int32) (xSK : Int32) (xTal : Nat → Nat → Int32) (xKn : Nat → Int32) (xFT : Nat → Int32) (xFA : Int32) (xFE : Int32) (xOdds : Int32) (xPat : Int32) (xFind : Int32) (e0 : Nat) (x1 : Int32) (he0 : e0 < 4) {p : Program} {l : Launch} {e : Env} {s : State} {m : MethodId} {args : Array Value} {below : List Frame} {meth : Method} {c : Code} {ls : Array Slot} (hx : p.tables.exec = Jvm.exec) (hb : c.code = cX5_signAt) (hml : c.maxLocals = 3) (hr : meth.sig.returnType = some .int) (hts : ∀ w ∈ wo_X5_signAt, w.before args s = true) (hown : s.vm.findClass RX5 = some m.cls) (hlocks : meth.locks = false) (hl : lv_has ls 3 [(0, .ref (a (14 + e0))), (1, .int x1)]) (hK : va_K D vwCl (xTys k) s) (hP : va_P D vwCl (wX k a xLen xHits xUns xItems xLost xKind xSize xLet xRel xLim xOpen xMeas xSL xST xSD xSK xTal xKn xFT xFA xFE xOdds xPat xFind) s.heap) {o : Int32} (h : f_X5_signAt e0 x1 xLen xHits xUns = some o) : gRi p l e wo_X5_signAt 0 s m args below meth c o (F0 m 0 ls []) := by
  have hi5 := (fun w h => List.mem_cons_of_mem _ (inlX5 w h) : ∀ w ∈ wsX50, w ∈ wo_X5_signAt)
  have kf9 := hts _ (List.mem_cons_of_mem _ wm_102)
  have kf15 := hts _ (List.mem_cons_of_mem _ wm_108)
  have kf18 := hts _ (List.mem_cons_of_mem _ wm_107)
  unfold f_X5_signAt at h
  refine lv_aload_n hx hb dX5_signAt_0 rfl (lv_at hl 0 rfl) ?_
  refine va_get (D := D) (ci := 1) (v := .int (xLen e0)) (C := RX5) (T := TX5) (N := 3) hx hb hts hi5 hown hK hP ((14 + e0)) (wX_row he0) rfl 0 (by decide) kf9 (fun _ h9 => h9) rfl dX5_signAt_1 ?_
  refine lv_iconst (v := 1) hx hb dX5_signAt_4 (by decide) ?_
  refine lv_isub hx hb dX5_signAt_5 ?_
  refine lv_iload_n hx hb dX5_signAt_6 rfl (lv_at hl 1 rfl) ?_
  refine lv_isub hx hb dX5_signAt_7 ?_
  refine lv_istore_n (lv' := [(2, .int (((xLen e0) - 1) - x1)), (0, .ref (a (14 + e0))), (1, .int x1)]) hx hb dX5_signAt_8 rfl hl (by decide) rfl (fun ls hl => ?_)
  refine lv_aload_n hx hb dX5_signAt_9 rfl (lv_at hl 1 rfl) ?_
  refine va_get (D := D) (ci := 1) (v := .int (xUns e0)) (C := RX5) (T := TX5) (N := 3) hx hb hts hi5 hown hK hP ((14 + e0)) (wX_row he0) rfl 2 (by decide) kf15 (fun _ h9 => h9) rfl dX5_signAt_10 ?_
  refine lv_iload_n hx hb dX5_signAt_13 rfl (lv_at hl 0 rfl) ?_
  refine lv_ishr hx hb dX5_signAt_14 ?_
  refine lv_iconst (v := 1) hx hb dX5_signAt_15 (by decide) ?_
  refine lv_iand hx hb dX5_signAt_16 ?_
  refine lv_iconst (v := 1) hx hb dX5_signAt_17 (by decide) ?_
  refine lv_icmp_ne (tgt := 23) hx hb dX5_signAt_18 (by decide) (fun c1 => ?_) (fun c1 => ?_)
  · replace h := (if_neg c1).symm.trans h
    refine lv_aload_n hx hb dX5_signAt_23 rfl (lv_at hl 1 rfl) ?_
    refine va_get (D := D) (ci := 1) (v := .int (xHits e0)) (C := RX5) (T := TX5) (N := 3) hx hb hts hi5 hown hK hP ((14 + e0)) (wX_row he0) rfl 1 (by decide) kf18 (fun _ h9 => h9) rfl dX5_signAt_24 ?_
    refine lv_iload_n hx hb dX5_signAt_27 rfl (lv_at hl 0 rfl) ?_
    refine lv_ishr hx hb dX5_signAt_28 ?_
    refine lv_iconst (v := 1) hx hb dX5_signAt_29 (by decide) ?_
    refine lv_iand hx hb dX5_signAt_30 ?_
    exact W.iret (v := (((xHits e0) >>> ((((xLen e0) - 1) - x1) &&& 31)) &&& 1)) hx hb hr (fun t ht hW => ⟨_, rfl, Option.some.inj h, ht⟩) (fun q hq => by cases hq) dX5_signAt_31
  · replace h := (if_pos c1).symm.trans h
    refine lv_iconst (v := (-1)) hx hb dX5_signAt_21 (by decide) ?_
    exact W.iret (v := (-1)) hx hb hr (fun t ht hW => ⟨_, rfl, Option.some.inj h, ht⟩) (fun q hq => by cases hq) dX5_signAt_22
set_option maxHeartbeats 4000000 in
set_option maxRecDepth 100000 in
theorem c_X5_signAt (l : Launch) (D : va_G) (k : Nat → ClassId) (a : Nat → Nat) (xLen : Nat → Int32) (xHits : Nat → Int32) (xUns : Nat → Int32) (xItems : Nat → Nat → Int32) (xLost : Nat → Int32) (xKind : Nat → Int32) (xSize : Nat → Int32) (xLet : Nat → Int32) (xRel : Nat → Int32) (xLim : Nat → Int32) (xOpen : Nat → Int32) (xMeas : Nat → Int32) (xSL : Int32) (xST : Int32) (xSD : Int32) (xSK : Int32) (xTal : Nat → Nat → Int32) (xKn : Nat → Int32) (xFT : Nat → Int32) (xFA : Int32) (xFE : Int32) (xOdds : Int32) (xPat : Int32) (xFind : Int32) (e0 : Nat) (he0 : e0 < 4) (x1 : Int32) {o : Int32} (h : f_X5_signAt e0 x1 xLen xHits xUns = some o) : mRi l yX5_signAt wo_X5_signAt 0 D k [.ref (a (14 + e0)), .int x1] (wX k a xLen xHits xUns xItems xLost xKind xSize xLet xRel xLim xOpen xMeas xSL xST xSD xSK xTal xKn xFT xFA xFE xOdds xPat xFind) o := by
  refine Met.ofW (cc := cX5_signAt) (maxL := 3) (ret := some .int) (by decide) rfl ?_
  intro p e s m args below meth c s₁ B hml hv
  obtain ⟨rfl, hP, hK⟩ := hv
  rw [lg_entry_eq]
  exact core_X5_signAt D k a xLen xHits xUns xItems xLost xKind xSize xLet xRel xLim xOpen xMeas xSL xST xSD xSK xTal xKn xFT xFA xFE xOdds xPat xFind e0 x1 he0 B.exec B.bytes hml B.returns (atoms_spec (ws := wo_X5_signAt) B.pre) (findClass_of_methodNamed B.named) B.notSynchronized (lv_entry [.ref (a (14 + e0)), .int x1] (n := 3) (Nat.le_of_ble_eq_true rfl)) hK hP h
theorem qd_X5_signAt : yX5_signAt.cls = RX5 ∧ yX5_signAt.cls ≠ "java/lang/invoke/MethodHandle" ∧ yX5_signAt.cls ≠ "java/lang/invoke/VarHandle" ∧ (parseMethodDescriptor yX5_signAt.desc).map (fun d => d.parameters.length) = some 1 := by decide +kernel
abbrev wo_X5_isBehindItsEnd : List Cond := .code yX5_isBehindItsEnd cX5_isBehindItsEnd 6 (some .boolean) :: wsL_law
set_option maxHeartbeats 4000000 in
set_option maxRecDepth 100000 in
theorem core_X5_isBehindItsEnd (D : va_G) (k : Nat → ClassId) (a : Nat → Nat) (xLen : Nat → Int32) (xHits : Nat → Int32) (xUns : Nat → Int32) (xItems : Nat → Nat → Int32) (xLost : Nat → Int32) (xKind : Nat → Int32) (xSize : Nat → Int32) (xLet : Nat → Int32) (xRel : Nat → Int32) (xLim : Nat → Int32) (xOpen : Nat → Int32) (xMeas : Nat → Int32) (xSL : Int32) (xST : Int32) (xSD : Int32) (xSK : Int32) (xTal : Nat → Nat → Int32) (xKn : Nat → Int32) (xFT : Nat → Int32) (xFA : Int32) (xFE : Int32) (xOdds : Int32) (xPat : Int32) (xFind : Int32) (e0 : Nat) (x1 : Int32) (x2 : Int32) (he0 : e0 < 4) {p : Program} {l : Launch} {e : Env} {s : State} {m : MethodId} {args : Array Value} {below : List Frame} {meth : Method} {c : Code} {ls : Array Slot} (hx : p.tables.exec = Jvm.exec) (hb : c.code = cX5_isBehindItsEnd) (hml : c.maxLocals = 6) (hr : meth.sig.returnType = some .boolean) (hts : ∀ w ∈ wo_X5_isBehindItsEnd, w.before args s = true) (hown : s.vm.findClass RX5 = some m.cls) (hlocks : meth.locks = false) (hl : lv_has ls 6 [(0, .ref (a (14 + e0))), (1, .int x1), (2, .int x2)]) (hK : va_K D vwCl (xTys k) s) (hP : va_P D vwCl (wX k a xLen xHits xUns xItems xLost xKind xSize xLet xRel xLim xOpen xMeas xSL xST xSD xSK xTal xKn xFT xFA xFE xOdds xPat xFind) s.heap) {o : Int32} (h : f_X5_isBehindItsEnd e0 x1 x2 xLen xHits xUns = some o) : gRi p l e wo_X5_isBehindItsEnd 0 s m args below meth c o (F0 m 0 ls []) := by
  have hi5 := (fun w h => List.mem_cons_of_mem _ (inlX5 w h) : ∀ w ∈ wsX50, w ∈ wo_X5_isBehindItsEnd)
  have kf18 := hts _ (List.mem_cons_of_mem _ wm_107)
  have kf9 := hts _ (List.mem_cons_of_mem _ wm_102)
  have kf15 := hts _ (List.mem_cons_of_mem _ wm_108)
  unfold f_X5_isBehindItsEnd at h
  have J38 : ∀ (e0 : Nat) (x3 : Int32) (x4 : Int32) (s0 : Int32) (ls : Array Slot) (he0 : e0 < 4) (hl : lv_has ls 6 [(0, .ref (a (14 + e0))), (3, .int x3), (4, .int x4)]) (h : f_X5_isBehindItsEnd_38 e0 x3 x4 s0 xLen xHits xUns = some o), gRi p l e wo_X5_isBehindItsEnd 0 s m args below meth c o (F0 m 38 ls [.int s0]) := by
    intro e0 x3 x4 s0 ls he0 hl h
    unfold f_X5_isBehindItsEnd_38 at h
    refine lv_istore (lv' := [(5, .int s0), (0, .ref (a (14 + e0))), (3, .int x3), (4, .int x4)]) hx hb dX5_isBehindItsEnd_38 hl (by decide) rfl (fun ls hl => ?_)
    refine lv_iload hx hb dX5_isBehindItsEnd_40 (lv_at hl 0 rfl) ?_
    refine lv_if_eq (tgt := 70) hx hb dX5_isBehindItsEnd_42 (by decide) (fun c1 => ?_) (fun c1 => ?_)
    · replace h := (if_pos c1).symm.trans h
      refine lv_iconst (v := 0) hx hb dX5_isBehindItsEnd_70 (by decide) ?_
      exact W.zret (v := 0) hx hb hr rfl (fun t ht hW => ⟨_, rfl, Option.some.inj h, ht⟩) (fun q hq => by cases hq) dX5_isBehindItsEnd_71
    · replace h := (if_neg c1).symm.trans h
      refine lv_aload_n hx hb dX5_isBehindItsEnd_45 rfl (lv_at hl 1 rfl) ?_
      refine va_get (D := D) (ci := 1) (v := .int (xHits e0)) (C := RX5) (T := TX5) (N := 3) hx hb hts hi5 hown hK hP ((14 + e0)) (wX_row he0) rfl 1 (by decide) kf18 (fun _ h9 => h9) rfl dX5_isBehindItsEnd_46 ?_
      refine lv_iload_n hx hb dX5_isBehindItsEnd_49 rfl (lv_at hl 2 rfl) ?_
      refine lv_iconst (v := 1) hx hb dX5_isBehindItsEnd_50 (by decide) ?_
      refine lv_iadd hx hb dX5_isBehindItsEnd_51 ?_
      refine lv_ishr hx hb dX5_isBehindItsEnd_52 ?_
      refine lv_iload hx hb dX5_isBehindItsEnd_53 (lv_at hl 3 rfl) ?_
      refine lv_iand hx hb dX5_isBehindItsEnd_55 ?_
      refine lv_aload_n hx hb dX5_isBehindItsEnd_56 rfl (lv_at hl 1 rfl) ?_
      refine va_get (D := D) (ci := 1) (v := .int (xHits e0)) (C := RX5) (T := TX5) (N := 3) hx hb hts hi5 hown hK hP ((14 + e0)) (wX_row he0) rfl 1 (by decide) kf18 (fun _ h9 => h9) rfl dX5_isBehindItsEnd_57 ?_
      refine lv_iload hx hb dX5_isBehindItsEnd_60 (lv_at hl 3 rfl) ?_
      refine lv_iand hx hb dX5_isBehindItsEnd_62 ?_
      refine lv_icmp_ne (tgt := 70) hx hb dX5_isBehindItsEnd_63 (by decide) (fun c2 => ?_) (fun c2 => ?_)
      · replace h := (if_neg c2).symm.trans h
        refine lv_iconst (v := 0) hx hb dX5_isBehindItsEnd_70 (by decide) ?_
        exact W.zret (v := 0) hx hb hr rfl (fun t ht hW => ⟨_, rfl, Option.some.inj h, ht⟩) (fun q hq => by cases hq) dX5_isBehindItsEnd_71
      · replace h := (if_pos c2).symm.trans h
        refine lv_iconst (v := 1) hx hb dX5_isBehindItsEnd_66 (by decide) ?_
        refine lv_goto (tgt := 71) hx hb dX5_isBehindItsEnd_67 (by decide) ?_
        exact W.zret (v := 1) hx hb hr rfl (fun t ht hW => ⟨_, rfl, Option.some.inj h, ht⟩) (fun q hq => by cases hq) dX5_isBehindItsEnd_71
  refine lv_aload_n hx hb dX5_isBehindItsEnd_0 rfl (lv_at hl 0 rfl) ?_
  refine va_get (D := D) (ci := 1) (v := .int (xLen e0)) (C := RX5) (T := TX5) (N := 3) hx hb hts hi5 hown hK hP ((14 + e0)) (wX_row he0) rfl 0 (by decide) kf9 (fun _ h9 => h9) rfl dX5_isBehindItsEnd_1 ?_
  refine lv_iconst (v := 1) hx hb dX5_isBehindItsEnd_4 (by decide) ?_
  refine lv_isub hx hb dX5_isBehindItsEnd_5 ?_
  refine lv_iload_n hx hb dX5_isBehindItsEnd_6 rfl (lv_at hl 1 rfl) ?_
  refine lv_isub hx hb dX5_isBehindItsEnd_7 ?_
  refine lv_istore_n (lv' := [(3, .int (((xLen e0) - 1) - x1)), (0, .ref (a (14 + e0))), (1, .int x1), (2, .int x2)]) hx hb dX5_isBehindItsEnd_8 rfl hl (by decide) rfl (fun ls hl => ?_)
  refine lv_iconst (v := 1) hx hb dX5_isBehindItsEnd_9 (by decide) ?_
  refine lv_iload_n hx hb dX5_isBehindItsEnd_10 rfl (lv_at hl 3 rfl) ?_
  refine lv_ishl hx hb dX5_isBehindItsEnd_11 ?_
  refine lv_iconst (v := 1) hx hb dX5_isBehindItsEnd_12 (by decide) ?_
  refine lv_isub hx hb dX5_isBehindItsEnd_13 ?_
  refine lv_istore (lv' := [(4, .int (((1 : Int32) <<< (x2 &&& 31)) - 1)), (3, .int (((xLen e0) - 1) - x1)), (0, .ref (a (14 + e0))), (1, .int x1), (2, .int x2)]) hx hb dX5_isBehindItsEnd_14 hl (by decide) rfl (fun ls hl => ?_)
  refine lv_aload_n hx hb dX5_isBehindItsEnd_16 rfl (lv_at hl 2 rfl) ?_
  refine va_get (D := D) (ci := 1) (v := .int (xUns e0)) (C := RX5) (T := TX5) (N := 3) hx hb hts hi5 hown hK hP ((14 + e0)) (wX_row he0) rfl 2 (by decide) kf15 (fun _ h9 => h9) rfl dX5_isBehindItsEnd_17 ?_
  refine lv_iload_n hx hb dX5_isBehindItsEnd_20 rfl (lv_at hl 1 rfl) ?_
  refine lv_ishr hx hb dX5_isBehindItsEnd_21 ?_
  refine lv_iconst (v := 1) hx hb dX5_isBehindItsEnd_22 (by decide) ?_
  refine lv_iload_n hx hb dX5_isBehindItsEnd_23 rfl (lv_at hl 4 rfl) ?_
  refine lv_iconst (v := 1) hx hb dX5_isBehindItsEnd_24 (by decide) ?_
  refine lv_iadd hx hb dX5_isBehindItsEnd_25 ?_
  refine lv_ishl hx hb dX5_isBehindItsEnd_26 ?_
  refine lv_iconst (v := 1) hx hb dX5_isBehindItsEnd_27 (by decide) ?_
  refine lv_isub hx hb dX5_isBehindItsEnd_28 ?_
  refine lv_iand hx hb dX5_isBehindItsEnd_29 ?_
  refine lv_if_ne (tgt := 37) hx hb dX5_isBehindItsEnd_30 (by decide) (fun c3 => ?_) (fun c3 => ?_)
  · replace h := (if_neg c3).symm.trans h
    refine lv_iconst (v := 0) hx hb dX5_isBehindItsEnd_37 (by decide) ?_
    exact J38 e0 (((xLen e0) - 1) - x1) (((1 : Int32) <<< (x2 &&& 31)) - 1) 0 ls he0 (lv_sub hl [2, 1, 0] rfl) h
  · replace h := (if_pos c3).symm.trans h
    refine lv_iconst (v := 1) hx hb dX5_isBehindItsEnd_33 (by decide) ?_
    refine lv_goto (tgt := 38) hx hb dX5_isBehindItsEnd_34 (by decide) ?_
    exact J38 e0 (((xLen e0) - 1) - x1) (((1 : Int32) <<< (x2 &&& 31)) - 1) 1 ls he0 (lv_sub hl [2, 1, 0] rfl) h
set_option maxHeartbeats 4000000 in
set_option maxRecDepth 100000 in
theorem c_X5_isBehindItsEnd (l : Launch) (D : va_G) (k : Nat → ClassId) (a : Nat → Nat) (xLen : Nat → Int32) (xHits : Nat → Int32) (xUns : Nat → Int32) (xItems : Nat → Nat → Int32) (xLost : Nat → Int32) (xKind : Nat → Int32) (xSize : Nat → Int32) (xLet : Nat → Int32) (xRel : Nat → Int32) (xLim : Nat → Int32) (xOpen : Nat → Int32) (xMeas : Nat → Int32) (xSL : Int32) (xST : Int32) (xSD : Int32) (xSK : Int32) (xTal : Nat → Nat → Int32) (xKn : Nat → Int32) (xFT : Nat → Int32) (xFA : Int32) (xFE : Int32) (xOdds : Int32) (xPat : Int32) (xFind : Int32) (e0 : Nat) (he0 : e0 < 4) (x1 : Int32) (x2 : Int32) {o : Int32} (h : f_X5_isBehindItsEnd e0 x1 x2 xLen xHits xUns = some o) : mRi l yX5_isBehindItsEnd wo_X5_isBehindItsEnd 0 D k [.ref (a (14 + e0)), .int x1, .int x2] (wX k a xLen xHits xUns xItems xLost xKind xSize xLet xRel xLim xOpen xMeas xSL xST xSD xSK xTal xKn xFT xFA xFE xOdds xPat xFind) o := by
  refine Met.ofW (cc := cX5_isBehindItsEnd) (maxL := 6) (ret := some .boolean) (by decide) rfl ?_
  intro p e s m args below meth c s₁ B hml hv
  obtain ⟨rfl, hP, hK⟩ := hv
  rw [lg_entry_eq]
  exact core_X5_isBehindItsEnd D k a xLen xHits xUns xItems xLost xKind xSize xLet xRel xLim xOpen xMeas xSL xST xSD xSK xTal xKn xFT xFA xFE xOdds xPat xFind e0 x1 x2 he0 B.exec B.bytes hml B.returns (atoms_spec (ws := wo_X5_isBehindItsEnd) B.pre) (findClass_of_methodNamed B.named) B.notSynchronized (lv_entry [.ref (a (14 + e0)), .int x1, .int x2] (n := 6) (Nat.le_of_ble_eq_true rfl)) hK hP h
theorem qd_X5_isBehindItsEnd : yX5_isBehindItsEnd.cls = RX5 ∧ yX5_isBehindItsEnd.cls ≠ "java/lang/invoke/MethodHandle" ∧ yX5_isBehindItsEnd.cls ≠ "java/lang/invoke/VarHandle" ∧ (parseMethodDescriptor yX5_isBehindItsEnd.desc).map (fun d => d.parameters.length) = some 2 := by decide +kernel
abbrev wo_X7_renew : List Cond := .code yX7_renew cX7_renew 4 none :: wsL_law
set_option maxHeartbeats 4000000 in
set_option maxRecDepth 100000 in
theorem core_X7_renew {N : Nat} (D : va_G) (k : Nat → ClassId) (a : Nat → Nat) (xLen : Nat → Int32) (xHits : Nat → Int32) (xUns : Nat → Int32) (xItems : Nat → Nat → Int32) (xLost : Nat → Int32) (xKind : Nat → Int32) (xSize : Nat → Int32) (xLet : Nat → Int32) (xRel : Nat → Int32) (xLim : Nat → Int32) (xOpen : Nat → Int32) (xMeas : Nat → Int32) (xSL : Int32) (xST : Int32) (xSD : Int32) (xSK : Int32) (xTal : Nat → Nat → Int32) (xKn : Nat → Int32) (xFT : Nat → Int32) (xFA : Int32) (xFE : Int32) (xOdds : Int32) (xPat : Int32) (xFind : Int32) (e0 : Nat) (x1 : Int32) (x2 : Int32) (he0 : e0 < 4) {p : Program} {l : Launch} {e : Env} {s : State} {m : MethodId} {args : Array Value} {below : List Frame} {meth : Method} {c : Code} {ls : Array Slot} (hx : p.tables.exec = Jvm.exec) (hb : c.code = cX7_renew) (hml : c.maxLocals = 4) (hr : meth.sig.returnType = none) (hts : ∀ w ∈ wo_X7_renew, w.before args s = true) (hown : s.vm.findClass RX7 = some m.cls) (hlocks : meth.locks = false) (hl : lv_has ls 4 [(0, .ref (a (18 + e0))), (1, .int x1), (2, .int x2)]) (hK : va_K D vwCl (xTys k) s) (hP : va_P D vwCl (wX k a xLen xHits xUns xItems xLost xKind xSize xLet xRel xLim xOpen xMeas xSL xST xSD xSK xTal xKn xFT xFA xFE xOdds xPat xFind) s.heap) {A : Nat → Prop} (hD : va_D A (wX k a xLen xHits xUns xItems xLost xKind xSize xLet xRel xLim xOpen xMeas xSL xST xSD xSK xTal xKn xFT xFA xFE xOdds xPat xFind)) (hA : ∀ q : Nat, s.heap.size ≤ q → A q) {o : (Nat → Nat → Int32) × (Nat → Int32) × (Nat → Int32) × (Nat → Int32)} (h : f_X7_renew N e0 x1 x2 xItems xLost xKind xSize = some o) : gQv p l e wo_X7_renew 0 s m args below meth c D k A  (wX k a xLen xHits xUns o.1 o.2.1 o.2.2.1 o.2.2.2 xLet xRel xLim xOpen xMeas xSL xST xSD xSK xTal xKn xFT xFA xFE xOdds xPat xFind) s.heap [] (F0 m 0 ls []) := by
  have hi7 := (fun w h => List.mem_cons_of_mem _ (inlX7 w h) : ∀ w ∈ wsX70, w ∈ wo_X7_renew)
  have kf15 := hts _ (List.mem_cons_of_mem _ wm_44)
  have kf19 := hts _ (List.mem_cons_of_mem _ wm_761)
  have kf23 := hts _ (List.mem_cons_of_mem _ wm_762)
  have kf9 := hts _ (List.mem_cons_of_mem _ wm_43)
  unfold f_X7_renew at h
  have hS : va_S A s.heap s.heap [] := va_S.rf
  have L2 : ∀ (n2 : Nat) (e0 : Nat) (x1 : Int32) (x2 : Int32) (x3 : Int32) (xItems : Nat → Nat → Int32) (xLost : Nat → Int32) (xKind : Nat → Int32) (xSize : Nat → Int32) (ls : Array Slot) (H : Heap) (locs : List Loc) (he0 : e0 < 4) (hl : lv_has ls 4 [(0, .ref (a (18 + e0))), (1, .int x1), (2, .int x2), (3, .int x3)]) (hP : va_P D vwCl (wX k a xLen xHits xUns xItems xLost xKind xSize xLet xRel xLim xOpen xMeas xSL xST xSD xSK xTal xKn xFT xFA xFE xOdds xPat xFind) H) (hD : va_D A (wX k a xLen xHits xUns xItems xLost xKind xSize xLet xRel xLim xOpen xMeas xSL xST xSD xSK xTal xKn xFT xFA xFE xOdds xPat xFind)) (hS : va_S A s.heap H locs) (h : f_X7_renew_2 N n2 e0 x1 x2 x3 xItems xLost xKind xSize = some o), gQv p l e wo_X7_renew 0 s m args below meth c D k A  (wX k a xLen xHits xUns o.1 o.2.1 o.2.2.1 o.2.2.2 xLet xRel xLim xOpen xMeas xSL xST xSD xSK xTal xKn xFT xFA xFE xOdds xPat xFind) H locs (F0 m 2 ls []) := by
    intro n2
    induction n2 with
    | zero => intro e0 x1 x2 x3 xItems xLost xKind xSize ls H locs he0 hl hP hD hS h; cases (show (none : Option ((Nat → Nat → Int32) × (Nat → Int32) × (Nat → Int32) × (Nat → Int32))) = some o from h)
    | succ n2 ih2 =>
      intro e0 x1 x2 x3 xItems xLost xKind xSize ls H locs he0 hl hP hD hS h
      rw [f_X7_renew_2] at h
      refine lv_iload_n hx hb dX7_renew_2 rfl (lv_at hl 3 rfl) ?_
      refine lv_bipush (v := 40) hx hb dX7_renew_3 (by decide) ?_
      refine lv_icmp_ge (tgt := 21) hx hb dX7_renew_5 (by decide) (fun c1 => ?_) (fun c1 => ?_)
      · replace h := (if_pos c1).symm.trans h
        refine lv_aload_n hx hb dX7_renew_21 rfl (lv_at hl 0 rfl) ?_
        refine lv_iconst (v := 0) hx hb dX7_renew_22 (by decide) ?_
        refine va_put (D := D) (ci := 3) (v := .int 0) (ty := .boolean) (C := RX7) (T := TX7) (N := 4) hx hb hts hi7 tyX7 tyX7_ok nmX7 hown hK hP hD hS ((18 + e0)) (wX_sheet he0) rfl 1 (by decide) kf15 (fun _ h9 => h9) rfl (tyX7_ok 1 (by decide)) rfl rfl (Nat.le_of_ble_eq_true rfl) dX7_renew_23 (fun H locs hP hD hS => ?_)
        have hP : va_P D vwCl (wX k a xLen xHits xUns xItems (va_up xLost e0 0) xKind xSize xLet xRel xLim xOpen xMeas xSL xST xSD xSK xTal xKn xFT xFA xFE xOdds xPat xFind) H := by rw [← wX_s_xLost he0]; exact hP
        have hD : va_D A (wX k a xLen xHits xUns xItems (va_up xLost e0 0) xKind xSize xLet xRel xLim xOpen xMeas xSL xST xSD xSK xTal xKn xFT xFA xFE xOdds xPat xFind) := by rw [← wX_s_xLost he0]; exact hD
        refine lv_aload_n hx hb dX7_renew_26 rfl (lv_at hl 0 rfl) ?_
        refine lv_iload_n hx hb dX7_renew_27 rfl (lv_at hl 1 rfl) ?_
        refine va_put (D := D) (ci := 3) (v := .int x1) (ty := .int) (C := RX7) (T := TX7) (N := 4) hx hb hts hi7 tyX7 tyX7_ok nmX7 hown hK hP hD hS ((18 + e0)) (wX_sheet he0) rfl 2 (by decide) kf19 (fun _ h9 => h9) rfl (tyX7_ok 2 (by decide)) rfl rfl (Nat.le_of_ble_eq_true rfl) dX7_renew_28 (fun H locs hP hD hS => ?_)
        have hP : va_P D vwCl (wX k a xLen xHits xUns xItems (va_up xLost e0 0) (va_up xKind e0 x1) xSize xLet xRel xLim xOpen xMeas xSL xST xSD xSK xTal xKn xFT xFA xFE xOdds xPat xFind) H := by rw [← wX_s_xKind he0]; exact hP
        have hD : va_D A (wX k a xLen xHits xUns xItems (va_up xLost e0 0) (va_up xKind e0 x1) xSize xLet xRel xLim xOpen xMeas xSL xST xSD xSK xTal xKn xFT xFA xFE xOdds xPat xFind) := by rw [← wX_s_xKind he0]; exact hD
        refine lv_aload_n hx hb dX7_renew_31 rfl (lv_at hl 0 rfl) ?_
        refine lv_iload_n hx hb dX7_renew_32 rfl (lv_at hl 2 rfl) ?_
        refine va_put (D := D) (ci := 3) (v := .int x2) (ty := .int) (C := RX7) (T := TX7) (N := 4) hx hb hts hi7 tyX7 tyX7_ok nmX7 hown hK hP hD hS ((18 + e0)) (wX_sheet he0) rfl 3 (by decide) kf23 (fun _ h9 => h9) rfl (tyX7_ok 3 (by decide)) rfl rfl (Nat.le_of_ble_eq_true rfl) dX7_renew_33 (fun H locs hP hD hS => ?_)
        have hP : va_P D vwCl (wX k a xLen xHits xUns xItems (va_up xLost e0 0) (va_up xKind e0 x1) (va_up xSize e0 x2) xLet xRel xLim xOpen xMeas xSL xST xSD xSK xTal xKn xFT xFA xFE xOdds xPat xFind) H := by rw [← wX_s_xSize he0]; exact hP
        have hD : va_D A (wX k a xLen xHits xUns xItems (va_up xLost e0 0) (va_up xKind e0 x1) (va_up xSize e0 x2) xLet xRel xLim xOpen xMeas xSL xST xSD xSK xTal xKn xFT xFA xFE xOdds xPat xFind) := by rw [← wX_s_xSize he0]; exact hD
        have he := Option.some.inj h
        exact W.vret hx hb hr (fun t ht hW => ⟨⟨wX k a xLen xHits xUns xItems (va_up xLost e0 0) (va_up xKind e0 x1) (va_up xSize e0 x2) xLet xRel xLim xOpen xMeas xSL xST xSD xSK xTal xKn xFT xFA xFE xOdds xPat xFind, rfl, (congrArg (fun z => wX k a xLen xHits xUns z.1 z.2.1 z.2.2.1 z.2.2.2 xLet xRel xLim xOpen xMeas xSL xST xSD xSK xTal xKn xFT xFA xFE xOdds xPat xFind) he), by rw [ht]; exact hP, va_K.moved hW.alike hK, hD⟩, hS.F ht⟩) hS.2.2 dX7_renew_36
      · replace h := (if_neg c1).symm.trans h
        refine lv_aload_n hx hb dX7_renew_8 rfl (lv_at hl 0 rfl) ?_
        refine va_get (D := D) (ci := 3) (v := .ref (a (22 + e0))) (C := RX7) (T := TX7) (N := 4) hx hb hts hi7 hown hK hP ((18 + e0)) (wX_sheet he0) rfl 0 (by decide) kf9 (fun _ h9 => h9) rfl dX7_renew_9 ?_
        refine lv_iload_n hx hb dX7_renew_12 rfl (lv_at hl 3 rfl) ?_
        refine lv_iconst (v := 0) hx hb dX7_renew_13 (by decide) ?_
        obtain ⟨g2, h⟩ := gIn_some h
        refine va_iast hx hb hK hP hD hS ((22 + e0)) 0 (wX_items he0) rfl g2 dX7_renew_14 (fun H locs hP hD hS => ?_)
        have hP : va_P D vwCl (wX k a xLen xHits xUns (va_up xItems e0 (upd (xItems e0) x3.toNatClampNeg 0)) xLost xKind xSize xLet xRel xLim xOpen xMeas xSL xST xSD xSK xTal xKn xFT xFA xFE xOdds xPat xFind) H := by rw [← wX_s_xItems he0]; exact hP
        have hD : va_D A (wX k a xLen xHits xUns (va_up xItems e0 (upd (xItems e0) x3.toNatClampNeg 0)) xLost xKind xSize xLet xRel xLim xOpen xMeas xSL xST xSD xSK xTal xKn xFT xFA xFE xOdds xPat xFind) := by rw [← wX_s_xItems he0]; exact hD
        refine lv_iinc (v := (x3 + 1)) (lv' := [(3, .int (x3 + 1)), (0, .ref (a (18 + e0))), (1, .int x1), (2, .int x2)]) hx hb dX7_renew_15 hl (k := 3) rfl rfl (by decide) rfl (fun ls hl => ?_)
        refine lv_goto (tgt := 2) hx hb dX7_renew_18 (by decide) ?_
        exact ih2 e0 x1 x2 (x3 + 1) (va_up xItems e0 (upd (xItems e0) x3.toNatClampNeg 0)) xLost xKind xSize ls H locs he0 (lv_sub hl [1, 2, 3, 0] rfl) hP hD hS h
  obtain ⟨H, hH⟩ : ∃ H : Heap, H = s.heap := ⟨_, rfl⟩
  obtain ⟨locs, hlc⟩ : ∃ locs : List Loc, locs = [] := ⟨_, rfl⟩
  have hS : va_S A s.heap H locs := by rw [hH, hlc]; exact va_S.rf
  have hP : va_P D vwCl (wX k a xLen xHits xUns xItems xLost xKind xSize xLet xRel xLim xOpen xMeas xSL xST xSD xSK xTal xKn xFT xFA xFE xOdds xPat xFind) H := by rw [hH]; exact hP
  suffices hGo : gQv p l e wo_X7_renew 0 s m args below meth c D k A  (wX k a xLen xHits xUns o.1 o.2.1 o.2.2.1 o.2.2.2 xLet xRel xLim xOpen xMeas xSL xST xSD xSK xTal xKn xFT xFA xFE xOdds xPat xFind) H locs (F0 m 0 ls []) by rw [hH, hlc] at hGo; exact hGo
  refine lv_iconst (v := 0) hx hb dX7_renew_0 (by decide) ?_
  refine lv_istore_n (lv' := [(3, .int 0), (0, .ref (a (18 + e0))), (1, .int x1), (2, .int x2)]) hx hb dX7_renew_1 rfl hl (by decide) rfl (fun ls hl => ?_)
  exact L2 N e0 x1 x2 0 xItems xLost xKind xSize ls H locs he0 (lv_sub hl [1, 2, 3, 0] rfl) hP hD hS h
set_option maxHeartbeats 4000000 in
set_option maxRecDepth 100000 in
theorem c_X7_renew {N : Nat} (l : Launch) (D : va_G) (k : Nat → ClassId) (a : Nat → Nat) (xLen : Nat → Int32) (xHits : Nat → Int32) (xUns : Nat → Int32) (xItems : Nat → Nat → Int32) (xLost : Nat → Int32) (xKind : Nat → Int32) (xSize : Nat → Int32) (xLet : Nat → Int32) (xRel : Nat → Int32) (xLim : Nat → Int32) (xOpen : Nat → Int32) (xMeas : Nat → Int32) (xSL : Int32) (xST : Int32) (xSD : Int32) (xSK : Int32) (xTal : Nat → Nat → Int32) (xKn : Nat → Int32) (xFT : Nat → Int32) (xFA : Int32) (xFE : Int32) (xOdds : Int32) (xPat : Int32) (xFind : Int32) (e0 : Nat) (he0 : e0 < 4) (x1 : Int32) (x2 : Int32) {o : (Nat → Nat → Int32) × (Nat → Int32) × (Nat → Int32) × (Nat → Int32)} (h : f_X7_renew N e0 x1 x2 xItems xLost xKind xSize = some o) : mQv l yX7_renew wo_X7_renew 0 D k [.ref (a (18 + e0)), .int x1, .int x2] (wX k a xLen xHits xUns xItems xLost xKind xSize xLet xRel xLim xOpen xMeas xSL xST xSD xSK xTal xKn xFT xFA xFE xOdds xPat xFind) (wX k a xLen xHits xUns o.1 o.2.1 o.2.2.1 o.2.2.2 xLet xRel xLim xOpen xMeas xSL xST xSD xSK xTal xKn xFT xFA xFE xOdds xPat xFind) := by
  intro sz
  refine Met.ofW (cc := cX7_renew) (maxL := 4) (ret := none) (by decide) rfl ?_
  intro p e s m args below meth c s₁ B hml hv
  obtain ⟨rfl, hsz, hP, hK, hD0⟩ := hv
  subst hsz
  rw [lg_entry_eq]
  exact core_X7_renew D k a xLen xHits xUns xItems xLost xKind xSize xLet xRel xLim xOpen xMeas xSL xST xSD xSK xTal xKn xFT xFA xFE xOdds xPat xFind e0 x1 x2 he0 B.exec B.bytes hml B.returns (atoms_spec (ws := wo_X7_renew) B.pre) (findClass_of_methodNamed B.named) B.notSynchronized (lv_entry [.ref (a (18 + e0)), .int x1, .int x2] (n := 4) (Nat.le_of_ble_eq_true rfl)) hK hP hD0.self (fun q h => Or.inr h) h
theorem qd_X7_renew : yX7_renew.cls = RX7 ∧ yX7_renew.cls ≠ "java/lang/invoke/MethodHandle" ∧ yX7_renew.cls ≠ "java/lang/invoke/VarHandle" ∧ (parseMethodDescriptor yX7_renew.desc).map (fun d => d.parameters.length) = some 2 := by decide +kernel
abbrev wo_X7_store : List Cond := .code yX7_store cX7_store 3 none :: wsL_law
set_option maxHeartbeats 4000000 in
set_option maxRecDepth 100000 in
theorem core_X7_store (D : va_G) (k : Nat → ClassId) (a : Nat → Nat) (xLen : Nat → Int32) (xHits : Nat → Int32) (xUns : Nat → Int32) (xItems : Nat → Nat → Int32) (xLost : Nat → Int32) (xKind : Nat → Int32) (xSize : Nat → Int32) (xLet : Nat → Int32) (xRel : Nat → Int32) (xLim : Nat → Int32) (xOpen : Nat → Int32) (xMeas : Nat → Int32) (xSL : Int32) (xST : Int32) (xSD : Int32) (xSK : Int32) (xTal : Nat → Nat → Int32) (xKn : Nat → Int32) (xFT : Nat → Int32) (xFA : Int32) (xFE : Int32) (xOdds : Int32) (xPat : Int32) (xFind : Int32) (e0 : Nat) (x1 : Int32) (x2 : Int32) (he0 : e0 < 4) {p : Program} {l : Launch} {e : Env} {s : State} {m : MethodId} {args : Array Value} {below : List Frame} {meth : Method} {c : Code} {ls : Array Slot} (hx : p.tables.exec = Jvm.exec) (hb : c.code = cX7_store) (hml : c.maxLocals = 3) (hr : meth.sig.returnType = none) (hts : ∀ w ∈ wo_X7_store, w.before args s = true) (hown : s.vm.findClass RX7 = some m.cls) (hlocks : meth.locks = false) (hl : lv_has ls 3 [(0, .ref (a (18 + e0))), (1, .int x1), (2, .int x2)]) (hK : va_K D vwCl (xTys k) s) (hP : va_P D vwCl (wX k a xLen xHits xUns xItems xLost xKind xSize xLet xRel xLim xOpen xMeas xSL xST xSD xSK xTal xKn xFT xFA xFE xOdds xPat xFind) s.heap) {A : Nat → Prop} (hD : va_D A (wX k a xLen xHits xUns xItems xLost xKind xSize xLet xRel xLim xOpen xMeas xSL xST xSD xSK xTal xKn xFT xFA xFE xOdds xPat xFind)) (hA : ∀ q : Nat, s.heap.size ≤ q → A q) {o : (Nat → Nat → Int32)} (h : f_X7_store e0 x1 x2 xItems xKind = some o) : gQv p l e wo_X7_store 0 s m args below meth c D k A  (wX k a xLen xHits xUns o xLost xKind xSize xLet xRel xLim xOpen xMeas xSL xST xSD xSK xTal xKn xFT xFA xFE xOdds xPat xFind) s.heap [] (F0 m 0 ls []) := by
  have hi7 := (fun w h => List.mem_cons_of_mem _ (inlX7 w h) : ∀ w ∈ wsX70, w ∈ wo_X7_store)
  have kf19 := hts _ (List.mem_cons_of_mem _ wm_761)
  have kf9 := hts _ (List.mem_cons_of_mem _ wm_43)
  unfold f_X7_store at h
  have hS : va_S A s.heap s.heap [] := va_S.rf
  obtain ⟨H, hH⟩ : ∃ H : Heap, H = s.heap := ⟨_, rfl⟩
  obtain ⟨locs, hlc⟩ : ∃ locs : List Loc, locs = [] := ⟨_, rfl⟩
  have hS : va_S A s.heap H locs := by rw [hH, hlc]; exact va_S.rf
  have hP : va_P D vwCl (wX k a xLen xHits xUns xItems xLost xKind xSize xLet xRel xLim xOpen xMeas xSL xST xSD xSK xTal xKn xFT xFA xFE xOdds xPat xFind) H := by rw [hH]; exact hP
  suffices hGo : gQv p l e wo_X7_store 0 s m args below meth c D k A  (wX k a xLen xHits xUns o xLost xKind xSize xLet xRel xLim xOpen xMeas xSL xST xSD xSK xTal xKn xFT xFA xFE xOdds xPat xFind) H locs (F0 m 0 ls []) by rw [hH, hlc] at hGo; exact hGo
  refine lv_aload_n hx hb dX7_store_0 rfl (lv_at hl 0 rfl) ?_
  refine va_get (D := D) (ci := 3) (v := .int (xKind e0)) (C := RX7) (T := TX7) (N := 4) hx hb hts hi7 hown hK hP ((18 + e0)) (wX_sheet he0) rfl 2 (by decide) kf19 (fun _ h9 => h9) rfl dX7_store_1 ?_
  by_cases c1 : (xKind e0) = 0
  · replace h := (if_pos c1).symm.trans h
    refine lv_lookup (tgt := 32) (off := 28) hx hb dX7_store_4 (by decide) (by rw [c1]; decide) (by decide) ?_
    refine lv_aload_n hx hb dX7_store_32 rfl (lv_at hl 0 rfl) ?_
    refine va_get (D := D) (ci := 3) (v := .ref (a (22 + e0))) (C := RX7) (T := TX7) (N := 4) hx hb hts hi7 hown hK hP ((18 + e0)) (wX_sheet he0) rfl 0 (by decide) kf9 (fun _ h9 => h9) rfl dX7_store_33 ?_
    refine lv_iload_n hx hb dX7_store_36 rfl (lv_at hl 1 rfl) ?_
    refine lv_iload_n hx hb dX7_store_37 rfl (lv_at hl 2 rfl) ?_
    refine lv_i2b (v := x2.toInt8.toInt32) hx hb dX7_store_38 rfl ?_
    obtain ⟨g2, h⟩ := gIn_some h
    refine va_iast hx hb hK hP hD hS ((22 + e0)) 0 (wX_items he0) rfl g2 dX7_store_39 (fun H locs hP hD hS => ?_)
    have hP : va_P D vwCl (wX k a xLen xHits xUns (va_up xItems e0 (upd (xItems e0) x1.toNatClampNeg x2.toInt8.toInt32)) xLost xKind xSize xLet xRel xLim xOpen xMeas xSL xST xSD xSK xTal xKn xFT xFA xFE xOdds xPat xFind) H := by rw [← wX_s_xItems he0]; exact hP
    have hD : va_D A (wX k a xLen xHits xUns (va_up xItems e0 (upd (xItems e0) x1.toNatClampNeg x2.toInt8.toInt32)) xLost xKind xSize xLet xRel xLim xOpen xMeas xSL xST xSD xSK xTal xKn xFT xFA xFE xOdds xPat xFind) := by rw [← wX_s_xItems he0]; exact hD
    refine lv_goto (tgt := 61) hx hb dX7_store_40 (by decide) ?_
    have he := Option.some.inj h
    exact W.vret hx hb hr (fun t ht hW => ⟨⟨wX k a xLen xHits xUns (va_up xItems e0 (upd (xItems e0) x1.toNatClampNeg x2.toInt8.toInt32)) xLost xKind xSize xLet xRel xLim xOpen xMeas xSL xST xSD xSK xTal xKn xFT xFA xFE xOdds xPat xFind, rfl, (congrArg (fun z => wX k a xLen xHits xUns z xLost xKind xSize xLet xRel xLim xOpen xMeas xSL xST xSD xSK xTal xKn xFT xFA xFE xOdds xPat xFind) he), by rw [ht]; exact hP, va_K.moved hW.alike hK, hD⟩, hS.F ht⟩) hS.2.2 dX7_store_61
  replace h := (if_neg c1).symm.trans h
  by_cases c3 : (xKind e0) = 1
  · replace h := (if_pos c3).symm.trans h
    refine lv_lookup (tgt := 43) (off := 39) hx hb dX7_store_4 (by decide) (by rw [c3]; decide) (by decide) ?_
    refine lv_aload_n hx hb dX7_store_43 rfl (lv_at hl 0 rfl) ?_
    refine va_get (D := D) (ci := 3) (v := .ref (a (22 + e0))) (C := RX7) (T := TX7) (N := 4) hx hb hts hi7 hown hK hP ((18 + e0)) (wX_sheet he0) rfl 0 (by decide) kf9 (fun _ h9 => h9) rfl dX7_store_44 ?_
    refine lv_iload_n hx hb dX7_store_47 rfl (lv_at hl 1 rfl) ?_
    refine lv_iload_n hx hb dX7_store_48 rfl (lv_at hl 2 rfl) ?_
    refine lv_i2s (v := x2.toInt16.toInt32) hx hb dX7_store_49 rfl ?_
    obtain ⟨g4, h⟩ := gIn_some h
    refine va_iast hx hb hK hP hD hS ((22 + e0)) 0 (wX_items he0) rfl g4 dX7_store_50 (fun H locs hP hD hS => ?_)
    have hP : va_P D vwCl (wX k a xLen xHits xUns (va_up xItems e0 (upd (xItems e0) x1.toNatClampNeg x2.toInt16.toInt32)) xLost xKind xSize xLet xRel xLim xOpen xMeas xSL xST xSD xSK xTal xKn xFT xFA xFE xOdds xPat xFind) H := by rw [← wX_s_xItems he0]; exact hP
    have hD : va_D A (wX k a xLen xHits xUns (va_up xItems e0 (upd (xItems e0) x1.toNatClampNeg x2.toInt16.toInt32)) xLost xKind xSize xLet xRel xLim xOpen xMeas xSL xST xSD xSK xTal xKn xFT xFA xFE xOdds xPat xFind) := by rw [← wX_s_xItems he0]; exact hD
    refine lv_goto (tgt := 61) hx hb dX7_store_51 (by decide) ?_
    have he := Option.some.inj h
    exact W.vret hx hb hr (fun t ht hW => ⟨⟨wX k a xLen xHits xUns (va_up xItems e0 (upd (xItems e0) x1.toNatClampNeg x2.toInt16.toInt32)) xLost xKind xSize xLet xRel xLim xOpen xMeas xSL xST xSD xSK xTal xKn xFT xFA xFE xOdds xPat xFind, rfl, (congrArg (fun z => wX k a xLen xHits xUns z xLost xKind xSize xLet xRel xLim xOpen xMeas xSL xST xSD xSK xTal xKn xFT xFA xFE xOdds xPat xFind) he), by rw [ht]; exact hP, va_K.moved hW.alike hK, hD⟩, hS.F ht⟩) hS.2.2 dX7_store_61
  replace h := (if_neg c3).symm.trans h
  refine lv_lookup (tgt := 54) (off := 50) hx hb dX7_store_4 (by decide) (xLk_X7_store c1 c3) (by decide) ?_
  refine lv_aload_n hx hb dX7_store_54 rfl (lv_at hl 0 rfl) ?_
  refine va_get (D := D) (ci := 3) (v := .ref (a (22 + e0))) (C := RX7) (T := TX7) (N := 4) hx hb hts hi7 hown hK hP ((18 + e0)) (wX_sheet he0) rfl 0 (by decide) kf9 (fun _ h9 => h9) rfl dX7_store_55 ?_
  refine lv_iload_n hx hb dX7_store_58 rfl (lv_at hl 1 rfl) ?_
  refine lv_iload_n hx hb dX7_store_59 rfl (lv_at hl 2 rfl) ?_
  obtain ⟨g5, h⟩ := gIn_some h
  refine va_iast hx hb hK hP hD hS ((22 + e0)) 0 (wX_items he0) rfl g5 dX7_store_60 (fun H locs hP hD hS => ?_)
  have hP : va_P D vwCl (wX k a xLen xHits xUns (va_up xItems e0 (upd (xItems e0) x1.toNatClampNeg x2)) xLost xKind xSize xLet xRel xLim xOpen xMeas xSL xST xSD xSK xTal xKn xFT xFA xFE xOdds xPat xFind) H := by rw [← wX_s_xItems he0]; exact hP
  have hD : va_D A (wX k a xLen xHits xUns (va_up xItems e0 (upd (xItems e0) x1.toNatClampNeg x2)) xLost xKind xSize xLet xRel xLim xOpen xMeas xSL xST xSD xSK xTal xKn xFT xFA xFE xOdds xPat xFind) := by rw [← wX_s_xItems he0]; exact hD
  have he := Option.some.inj h
  exact W.vret hx hb hr (fun t ht hW => ⟨⟨wX k a xLen xHits xUns (va_up xItems e0 (upd (xItems e0) x1.toNatClampNeg x2)) xLost xKind xSize xLet xRel xLim xOpen xMeas xSL xST xSD xSK xTal xKn xFT xFA xFE xOdds xPat xFind, rfl, (congrArg (fun z => wX k a xLen xHits xUns z xLost xKind xSize xLet xRel xLim xOpen xMeas xSL xST xSD xSK xTal xKn xFT xFA xFE xOdds xPat xFind) he), by rw [ht]; exact hP, va_K.moved hW.alike hK, hD⟩, hS.F ht⟩) hS.2.2 dX7_store_61
set_option maxHeartbeats 4000000 in
set_option maxRecDepth 100000 in
theorem c_X7_store (l : Launch) (D : va_G) (k : Nat → ClassId) (a : Nat → Nat) (xLen : Nat → Int32) (xHits : Nat → Int32) (xUns : Nat → Int32) (xItems : Nat → Nat → Int32) (xLost : Nat → Int32) (xKind : Nat → Int32) (xSize : Nat → Int32) (xLet : Nat → Int32) (xRel : Nat → Int32) (xLim : Nat → Int32) (xOpen : Nat → Int32) (xMeas : Nat → Int32) (xSL : Int32) (xST : Int32) (xSD : Int32) (xSK : Int32) (xTal : Nat → Nat → Int32) (xKn : Nat → Int32) (xFT : Nat → Int32) (xFA : Int32) (xFE : Int32) (xOdds : Int32) (xPat : Int32) (xFind : Int32) (e0 : Nat) (he0 : e0 < 4) (x1 : Int32) (x2 : Int32) {o : (Nat → Nat → Int32)} (h : f_X7_store e0 x1 x2 xItems xKind = some o) : mQv l yX7_store wo_X7_store 0 D k [.ref (a (18 + e0)), .int x1, .int x2] (wX k a xLen xHits xUns xItems xLost xKind xSize xLet xRel xLim xOpen xMeas xSL xST xSD xSK xTal xKn xFT xFA xFE xOdds xPat xFind) (wX k a xLen xHits xUns o xLost xKind xSize xLet xRel xLim xOpen xMeas xSL xST xSD xSK xTal xKn xFT xFA xFE xOdds xPat xFind) := by
  intro sz
  refine Met.ofW (cc := cX7_store) (maxL := 3) (ret := none) (by decide) rfl ?_
  intro p e s m args below meth c s₁ B hml hv
  obtain ⟨rfl, hsz, hP, hK, hD0⟩ := hv
  subst hsz
  rw [lg_entry_eq]
  exact core_X7_store D k a xLen xHits xUns xItems xLost xKind xSize xLet xRel xLim xOpen xMeas xSL xST xSD xSK xTal xKn xFT xFA xFE xOdds xPat xFind e0 x1 x2 he0 B.exec B.bytes hml B.returns (atoms_spec (ws := wo_X7_store) B.pre) (findClass_of_methodNamed B.named) B.notSynchronized (lv_entry [.ref (a (18 + e0)), .int x1, .int x2] (n := 3) (Nat.le_of_ble_eq_true rfl)) hK hP hD0.self (fun q h => Or.inr h) h
theorem qd_X7_store : yX7_store.cls = RX7 ∧ yX7_store.cls ≠ "java/lang/invoke/MethodHandle" ∧ yX7_store.cls ≠ "java/lang/invoke/VarHandle" ∧ (parseMethodDescriptor yX7_store.desc).map (fun d => d.parameters.length) = some 2 := by decide +kernel
abbrev wo_X7_hasSpan : List Cond := .code yX7_hasSpan cX7_hasSpan 3 (some .boolean) :: wsL_law
set_option maxHeartbeats 4000000 in
set_option maxRecDepth 100000 in
theorem core_X7_hasSpan (D : va_G) (k : Nat → ClassId) (a : Nat → Nat) (xLen : Nat → Int32) (xHits : Nat → Int32) (xUns : Nat → Int32) (xItems : Nat → Nat → Int32) (xLost : Nat → Int32) (xKind : Nat → Int32) (xSize : Nat → Int32) (xLet : Nat → Int32) (xRel : Nat → Int32) (xLim : Nat → Int32) (xOpen : Nat → Int32) (xMeas : Nat → Int32) (xSL : Int32) (xST : Int32) (xSD : Int32) (xSK : Int32) (xTal : Nat → Nat → Int32) (xKn : Nat → Int32) (xFT : Nat → Int32) (xFA : Int32) (xFE : Int32) (xOdds : Int32) (xPat : Int32) (xFind : Int32) (e0 : Nat) (x1 : Int32) (x2 : Int32) (he0 : e0 < 4) {p : Program} {l : Launch} {e : Env} {s : State} {m : MethodId} {args : Array Value} {below : List Frame} {meth : Method} {c : Code} {ls : Array Slot} (hx : p.tables.exec = Jvm.exec) (hb : c.code = cX7_hasSpan) (hml : c.maxLocals = 3) (hr : meth.sig.returnType = some .boolean) (hts : ∀ w ∈ wo_X7_hasSpan, w.before args s = true) (hown : s.vm.findClass RX7 = some m.cls) (hlocks : meth.locks = false) (hl : lv_has ls 3 [(0, .ref (a (18 + e0))), (1, .int x1), (2, .int x2)]) (hK : va_K D vwCl (xTys k) s) (hP : va_P D vwCl (wX k a xLen xHits xUns xItems xLost xKind xSize xLet xRel xLim xOpen xMeas xSL xST xSD xSK xTal xKn xFT xFA xFE xOdds xPat xFind) s.heap) {o : Int32} (h : f_X7_hasSpan e0 x1 x2 xSize = some o) : gRi p l e wo_X7_hasSpan 0 s m args below meth c o (F0 m 0 ls []) := by
  have hi7 := (fun w h => List.mem_cons_of_mem _ (inlX7 w h) : ∀ w ∈ wsX70, w ∈ wo_X7_hasSpan)
  have kf23 := hts _ (List.mem_cons_of_mem _ wm_762)
  unfold f_X7_hasSpan at h
  refine lv_iload_n hx hb dX7_hasSpan_0 rfl (lv_at hl 1 rfl) ?_
  refine lv_if_lt (tgt := 22) hx hb dX7_hasSpan_1 (by decide) (fun c1 => ?_) (fun c1 => ?_)
  · replace h := (if_pos c1).symm.trans h
    refine lv_iconst (v := 0) hx hb dX7_hasSpan_22 (by decide) ?_
    exact W.zret (v := 0) hx hb hr rfl (fun t ht hW => ⟨_, rfl, Option.some.inj h, ht⟩) (fun q hq => by cases hq) dX7_hasSpan_23
  · replace h := (if_neg c1).symm.trans h
    refine lv_iload_n hx hb dX7_hasSpan_4 rfl (lv_at hl 2 rfl) ?_
    refine lv_if_lt (tgt := 22) hx hb dX7_hasSpan_5 (by decide) (fun c2 => ?_) (fun c2 => ?_)
    · replace h := (if_pos c2).symm.trans h
      refine lv_iconst (v := 0) hx hb dX7_hasSpan_22 (by decide) ?_
      exact W.zret (v := 0) hx hb hr rfl (fun t ht hW => ⟨_, rfl, Option.some.inj h, ht⟩) (fun q hq => by cases hq) dX7_hasSpan_23
    · replace h := (if_neg c2).symm.trans h
      refine lv_iload_n hx hb dX7_hasSpan_8 rfl (lv_at hl 2 rfl) ?_
      refine lv_aload_n hx hb dX7_hasSpan_9 rfl (lv_at hl 0 rfl) ?_
      refine va_get (D := D) (ci := 3) (v := .int (xSize e0)) (C := RX7) (T := TX7) (N := 4) hx hb hts hi7 hown hK hP ((18 + e0)) (wX_sheet he0) rfl 3 (by decide) kf23 (fun _ h9 => h9) rfl dX7_hasSpan_10 ?_
      refine lv_iload_n hx hb dX7_hasSpan_13 rfl (lv_at hl 1 rfl) ?_
      refine lv_isub hx hb dX7_hasSpan_14 ?_
      refine lv_icmp_gt (tgt := 22) hx hb dX7_hasSpan_15 (by decide) (fun c3 => ?_) (fun c3 => ?_)
      · replace h := (if_pos c3).symm.trans h
        refine lv_iconst (v := 0) hx hb dX7_hasSpan_22 (by decide) ?_
        exact W.zret (v := 0) hx hb hr rfl (fun t ht hW => ⟨_, rfl, Option.some.inj h, ht⟩) (fun q hq => by cases hq) dX7_hasSpan_23
      · replace h := (if_neg c3).symm.trans h
        refine lv_iconst (v := 1) hx hb dX7_hasSpan_18 (by decide) ?_
        refine lv_goto (tgt := 23) hx hb dX7_hasSpan_19 (by decide) ?_
        exact W.zret (v := 1) hx hb hr rfl (fun t ht hW => ⟨_, rfl, Option.some.inj h, ht⟩) (fun q hq => by cases hq) dX7_hasSpan_23
set_option maxHeartbeats 4000000 in
set_option maxRecDepth 100000 in
theorem c_X7_hasSpan (l : Launch) (D : va_G) (k : Nat → ClassId) (a : Nat → Nat) (xLen : Nat → Int32) (xHits : Nat → Int32) (xUns : Nat → Int32) (xItems : Nat → Nat → Int32) (xLost : Nat → Int32) (xKind : Nat → Int32) (xSize : Nat → Int32) (xLet : Nat → Int32) (xRel : Nat → Int32) (xLim : Nat → Int32) (xOpen : Nat → Int32) (xMeas : Nat → Int32) (xSL : Int32) (xST : Int32) (xSD : Int32) (xSK : Int32) (xTal : Nat → Nat → Int32) (xKn : Nat → Int32) (xFT : Nat → Int32) (xFA : Int32) (xFE : Int32) (xOdds : Int32) (xPat : Int32) (xFind : Int32) (e0 : Nat) (he0 : e0 < 4) (x1 : Int32) (x2 : Int32) {o : Int32} (h : f_X7_hasSpan e0 x1 x2 xSize = some o) : mRi l yX7_hasSpan wo_X7_hasSpan 0 D k [.ref (a (18 + e0)), .int x1, .int x2] (wX k a xLen xHits xUns xItems xLost xKind xSize xLet xRel xLim xOpen xMeas xSL xST xSD xSK xTal xKn xFT xFA xFE xOdds xPat xFind) o := by
  refine Met.ofW (cc := cX7_hasSpan) (maxL := 3) (ret := some .boolean) (by decide) rfl ?_
  intro p e s m args below meth c s₁ B hml hv
  obtain ⟨rfl, hP, hK⟩ := hv
  rw [lg_entry_eq]
  exact core_X7_hasSpan D k a xLen xHits xUns xItems xLost xKind xSize xLet xRel xLim xOpen xMeas xSL xST xSD xSK xTal xKn xFT xFA xFE xOdds xPat xFind e0 x1 x2 he0 B.exec B.bytes hml B.returns (atoms_spec (ws := wo_X7_hasSpan) B.pre) (findClass_of_methodNamed B.named) B.notSynchronized (lv_entry [.ref (a (18 + e0)), .int x1, .int x2] (n := 3) (Nat.le_of_ble_eq_true rfl)) hK hP h
theorem qd_X7_hasSpan : yX7_hasSpan.cls = RX7 ∧ yX7_hasSpan.cls ≠ "java/lang/invoke/MethodHandle" ∧ yX7_hasSpan.cls ≠ "java/lang/invoke/VarHandle" ∧ (parseMethodDescriptor yX7_hasSpan.desc).map (fun d => d.parameters.length) = some 2 := by decide +kernel
abbrev wo_X6_empty : List Cond := .code yX6_empty cX6_empty 1 none :: wsL_law
set_option maxHeartbeats 4000000 in
set_option maxRecDepth 100000 in
theorem core_X6_empty (D : va_G) (k : Nat → ClassId) (a : Nat → Nat) (xLen : Nat → Int32) (xHits : Nat → Int32) (xUns : Nat → Int32) (xItems : Nat → Nat → Int32) (xLost : Nat → Int32) (xKind : Nat → Int32) (xSize : Nat → Int32) (xLet : Nat → Int32) (xRel : Nat → Int32) (xLim : Nat → Int32) (xOpen : Nat → Int32) (xMeas : Nat → Int32) (xSL : Int32) (xST : Int32) (xSD : Int32) (xSK : Int32) (xTal : Nat → Nat → Int32) (xKn : Nat → Int32) (xFT : Nat → Int32) (xFA : Int32) (xFE : Int32) (xOdds : Int32) (xPat : Int32) (xFind : Int32)  {p : Program} {l : Launch} {e : Env} {s : State} {m : MethodId} {args : Array Value} {below : List Frame} {meth : Method} {c : Code} {ls : Array Slot} (hx : p.tables.exec = Jvm.exec) (hb : c.code = cX6_empty) (hml : c.maxLocals = 1) (hr : meth.sig.returnType = none) (hts : ∀ w ∈ wo_X6_empty, w.before args s = true) (hown : s.vm.findClass RX6 = some m.cls) (hlocks : meth.locks = false) (hl : lv_has ls 1 [(0, .ref (a 3))]) (hK : va_K D vwCl (xTys k) s) (hP : va_P D vwCl (wX k a xLen xHits xUns xItems xLost xKind xSize xLet xRel xLim xOpen xMeas xSL xST xSD xSK xTal xKn xFT xFA xFE xOdds xPat xFind) s.heap) {A : Nat → Prop} (hD : va_D A (wX k a xLen xHits xUns xItems xLost xKind xSize xLet xRel xLim xOpen xMeas xSL xST xSD xSK xTal xKn xFT xFA xFE xOdds xPat xFind)) (hA : ∀ q : Nat, s.heap.size ≤ q → A q) {o : (Int32) × (Int32) × (Int32) × (Int32)} (h : f_X6_empty xSL xST xSD xSK = some o) : gQv p l e wo_X6_empty 0 s m args below meth c D k A  (wX k a xLen xHits xUns xItems xLost xKind xSize xLet xRel xLim xOpen xMeas o.1 o.2.1 o.2.2.1 o.2.2.2 xTal xKn xFT xFA xFE xOdds xPat xFind) s.heap [] (F0 m 0 ls []) := by
  have hi6 := (fun w h => List.mem_cons_of_mem _ (inlX6 w h) : ∀ w ∈ wsX60, w ∈ wo_X6_empty)
  have kf32 := hts _ (List.mem_cons_of_mem _ wm_272)
  have kf35 := hts _ (List.mem_cons_of_mem _ wm_282)
  have kf38 := hts _ (List.mem_cons_of_mem _ wm_277)
  have kf28 := hts _ (List.mem_cons_of_mem _ wm_55)
  unfold f_X6_empty at h
  have hS : va_S A s.heap s.heap [] := va_S.rf
  obtain ⟨H, hH⟩ : ∃ H : Heap, H = s.heap := ⟨_, rfl⟩
  obtain ⟨locs, hlc⟩ : ∃ locs : List Loc, locs = [] := ⟨_, rfl⟩
  have hS : va_S A s.heap H locs := by rw [hH, hlc]; exact va_S.rf
  have hP : va_P D vwCl (wX k a xLen xHits xUns xItems xLost xKind xSize xLet xRel xLim xOpen xMeas xSL xST xSD xSK xTal xKn xFT xFA xFE xOdds xPat xFind) H := by rw [hH]; exact hP
  suffices hGo : gQv p l e wo_X6_empty 0 s m args below meth c D k A  (wX k a xLen xHits xUns xItems xLost xKind xSize xLet xRel xLim xOpen xMeas o.1 o.2.1 o.2.2.1 o.2.2.2 xTal xKn xFT xFA xFE xOdds xPat xFind) H locs (F0 m 0 ls []) by rw [hH, hlc] at hGo; exact hGo
  refine lv_aload_n hx hb dX6_empty_0 rfl (lv_at hl 0 rfl) ?_
  refine lv_iconst (v := 0) hx hb dX6_empty_1 (by decide) ?_
  refine va_put (D := D) (ci := 2) (v := .int 0) (ty := .int) (C := RX6) (T := TX6) (N := 9) hx hb hts hi6 tyX6 tyX6_ok nmX6 hown hK hP hD hS (3) (rfl) rfl 5 (by decide) kf32 (fun _ h9 => h9) rfl (tyX6_ok 5 (by decide)) rfl rfl (Nat.le_of_ble_eq_true rfl) dX6_empty_2 (fun H locs hP hD hS => ?_)
  have hP : va_P D vwCl (wX k a xLen xHits xUns xItems xLost xKind xSize xLet xRel xLim xOpen xMeas 0 xST xSD xSK xTal xKn xFT xFA xFE xOdds xPat xFind) H := hP
  have hD : va_D A (wX k a xLen xHits xUns xItems xLost xKind xSize xLet xRel xLim xOpen xMeas 0 xST xSD xSK xTal xKn xFT xFA xFE xOdds xPat xFind) := hD
  refine lv_aload_n hx hb dX6_empty_5 rfl (lv_at hl 0 rfl) ?_
  refine lv_iconst (v := 0) hx hb dX6_empty_6 (by decide) ?_
  refine va_put (D := D) (ci := 2) (v := .int 0) (ty := .int) (C := RX6) (T := TX6) (N := 9) hx hb hts hi6 tyX6 tyX6_ok nmX6 hown hK hP hD hS (3) (rfl) rfl 6 (by decide) kf35 (fun _ h9 => h9) rfl (tyX6_ok 6 (by decide)) rfl rfl (Nat.le_of_ble_eq_true rfl) dX6_empty_7 (fun H locs hP hD hS => ?_)
  have hP : va_P D vwCl (wX k a xLen xHits xUns xItems xLost xKind xSize xLet xRel xLim xOpen xMeas 0 0 xSD xSK xTal xKn xFT xFA xFE xOdds xPat xFind) H := hP
  have hD : va_D A (wX k a xLen xHits xUns xItems xLost xKind xSize xLet xRel xLim xOpen xMeas 0 0 xSD xSK xTal xKn xFT xFA xFE xOdds xPat xFind) := hD
  refine lv_aload_n hx hb dX6_empty_10 rfl (lv_at hl 0 rfl) ?_
  refine lv_iconst (v := 0) hx hb dX6_empty_11 (by decide) ?_
  refine va_put (D := D) (ci := 2) (v := .int 0) (ty := .int) (C := RX6) (T := TX6) (N := 9) hx hb hts hi6 tyX6 tyX6_ok nmX6 hown hK hP hD hS (3) (rfl) rfl 7 (by decide) kf38 (fun _ h9 => h9) rfl (tyX6_ok 7 (by decide)) rfl rfl (Nat.le_of_ble_eq_true rfl) dX6_empty_12 (fun H locs hP hD hS => ?_)
  have hP : va_P D vwCl (wX k a xLen xHits xUns xItems xLost xKind xSize xLet xRel xLim xOpen xMeas 0 0 0 xSK xTal xKn xFT xFA xFE xOdds xPat xFind) H := hP
  have hD : va_D A (wX k a xLen xHits xUns xItems xLost xKind xSize xLet xRel xLim xOpen xMeas 0 0 0 xSK xTal xKn xFT xFA xFE xOdds xPat xFind) := hD
  refine lv_aload_n hx hb dX6_empty_15 rfl (lv_at hl 0 rfl) ?_
  refine lv_iconst (v := (-1)) hx hb dX6_empty_16 (by decide) ?_
  refine va_put (D := D) (ci := 2) (v := .int (-1)) (ty := .int) (C := RX6) (T := TX6) (N := 9) hx hb hts hi6 tyX6 tyX6_ok nmX6 hown hK hP hD hS (3) (rfl) rfl 8 (by decide) kf28 (fun _ h9 => h9) rfl (tyX6_ok 8 (by decide)) rfl rfl (Nat.le_of_ble_eq_true rfl) dX6_empty_17 (fun H locs hP hD hS => ?_)
  have hP : va_P D vwCl (wX k a xLen xHits xUns xItems xLost xKind xSize xLet xRel xLim xOpen xMeas 0 0 0 (-1) xTal xKn xFT xFA xFE xOdds xPat xFind) H := hP
  have hD : va_D A (wX k a xLen xHits xUns xItems xLost xKind xSize xLet xRel xLim xOpen xMeas 0 0 0 (-1) xTal xKn xFT xFA xFE xOdds xPat xFind) := hD
  have he := Option.some.inj h
  exact W.vret hx hb hr (fun t ht hW => ⟨⟨wX k a xLen xHits xUns xItems xLost xKind xSize xLet xRel xLim xOpen xMeas 0 0 0 (-1) xTal xKn xFT xFA xFE xOdds xPat xFind, rfl, (congrArg (fun z => wX k a xLen xHits xUns xItems xLost xKind xSize xLet xRel xLim xOpen xMeas z.1 z.2.1 z.2.2.1 z.2.2.2 xTal xKn xFT xFA xFE xOdds xPat xFind) he), by rw [ht]; exact hP, va_K.moved hW.alike hK, hD⟩, hS.F ht⟩) hS.2.2 dX6_empty_20
set_option maxHeartbeats 4000000 in
set_option maxRecDepth 100000 in
theorem c_X6_empty (l : Launch) (D : va_G) (k : Nat → ClassId) (a : Nat → Nat) (xLen : Nat → Int32) (xHits : Nat → Int32) (xUns : Nat → Int32) (xItems : Nat → Nat → Int32) (xLost : Nat → Int32) (xKind : Nat → Int32) (xSize : Nat → Int32) (xLet : Nat → Int32) (xRel : Nat → Int32) (xLim : Nat → Int32) (xOpen : Nat → Int32) (xMeas : Nat → Int32) (xSL : Int32) (xST : Int32) (xSD : Int32) (xSK : Int32) (xTal : Nat → Nat → Int32) (xKn : Nat → Int32) (xFT : Nat → Int32) (xFA : Int32) (xFE : Int32) (xOdds : Int32) (xPat : Int32) (xFind : Int32)  {o : (Int32) × (Int32) × (Int32) × (Int32)} (h : f_X6_empty xSL xST xSD xSK = some o) : mQv l yX6_empty wo_X6_empty 0 D k [.ref (a 3)] (wX k a xLen xHits xUns xItems xLost xKind xSize xLet xRel xLim xOpen xMeas xSL xST xSD xSK xTal xKn xFT xFA xFE xOdds xPat xFind) (wX k a xLen xHits xUns xItems xLost xKind xSize xLet xRel xLim xOpen xMeas o.1 o.2.1 o.2.2.1 o.2.2.2 xTal xKn xFT xFA xFE xOdds xPat xFind) := by
  intro sz
  refine Met.ofW (cc := cX6_empty) (maxL := 1) (ret := none) (by decide) rfl ?_
  intro p e s m args below meth c s₁ B hml hv
  obtain ⟨rfl, hsz, hP, hK, hD0⟩ := hv
  subst hsz
  rw [lg_entry_eq]
  exact core_X6_empty D k a xLen xHits xUns xItems xLost xKind xSize xLet xRel xLim xOpen xMeas xSL xST xSD xSK xTal xKn xFT xFA xFE xOdds xPat xFind  B.exec B.bytes hml B.returns (atoms_spec (ws := wo_X6_empty) B.pre) (findClass_of_methodNamed B.named) B.notSynchronized (lv_entry [.ref (a 3)] (n := 1) (Nat.le_of_ble_eq_true rfl)) hK hP hD0.self (fun q h => Or.inr h) h
theorem qd_X6_empty : yX6_empty.cls = RX6 ∧ yX6_empty.cls ≠ "java/lang/invoke/MethodHandle" ∧ yX6_empty.cls ≠ "java/lang/invoke/VarHandle" ∧ (parseMethodDescriptor yX6_empty.desc).map (fun d => d.parameters.length) = some 0 := by decide +kernel
abbrev wo_X6_faultPlace : List Cond := .code yX6_faultPlace cX6_faultPlace 1 (some .int) :: wsL_law
set_option maxHeartbeats 4000000 in
set_option maxRecDepth 100000 in
theorem core_X6_faultPlace (D : va_G) (k : Nat → ClassId) (a : Nat → Nat) (xLen : Nat → Int32) (xHits : Nat → Int32) (xUns : Nat → Int32) (xItems : Nat → Nat → Int32) (xLost : Nat → Int32) (xKind : Nat → Int32) (xSize : Nat → Int32) (xLet : Nat → Int32) (xRel : Nat → Int32) (xLim : Nat → Int32) (xOpen : Nat → Int32) (xMeas : Nat → Int32) (xSL : Int32) (xST : Int32) (xSD : Int32) (xSK : Int32) (xTal : Nat → Nat → Int32) (xKn : Nat → Int32) (xFT : Nat → Int32) (xFA : Int32) (xFE : Int32) (xOdds : Int32) (xPat : Int32) (xFind : Int32)  {p : Program} {l : Launch} {e : Env} {s : State} {m : MethodId} {args : Array Value} {below : List Frame} {meth : Method} {c : Code} {ls : Array Slot} (hx : p.tables.exec = Jvm.exec) (hb : c.code = cX6_faultPlace) (hml : c.maxLocals = 1) (hr : meth.sig.returnType = some .int) (hts : ∀ w ∈ wo_X6_faultPlace, w.before args s = true) (hown : s.vm.findClass RX6 = some m.cls) (hlocks : meth.locks = false) (hl : lv_has ls 1 [(0, .ref (a 3))]) (hK : va_K D vwCl (xTys k) s) (hP : va_P D vwCl (wX k a xLen xHits xUns xItems xLost xKind xSize xLet xRel xLim xOpen xMeas xSL xST xSD xSK xTal xKn xFT xFA xFE xOdds xPat xFind) s.heap) {o : Int32} (h : f_X6_faultPlace xSL xSD xSK = some o) : gRi p l e wo_X6_faultPlace 0 s m args below meth c o (F0 m 0 ls []) := by
  have hi6 := (fun w h => List.mem_cons_of_mem _ (inlX6 w h) : ∀ w ∈ wsX60, w ∈ wo_X6_faultPlace)
  have kf28 := hts _ (List.mem_cons_of_mem _ wm_55)
  have kf38 := hts _ (List.mem_cons_of_mem _ wm_277)
  have kf32 := hts _ (List.mem_cons_of_mem _ wm_272)
  unfold f_X6_faultPlace at h
  have J29 : ∀ (ls : Array Slot) (hl : lv_has ls 1 []) (h : f_X6_faultPlace_29 xSL xSD xSK = some o), gRi p l e wo_X6_faultPlace 0 s m args below meth c o (F0 m 29 ls []) := by
    intro ls hl h
    unfold f_X6_faultPlace_29 at h
    refine lv_iconst (v := (-1)) hx hb dX6_faultPlace_29 (by decide) ?_
    refine lv_goto (tgt := 37) hx hb dX6_faultPlace_30 (by decide) ?_
    exact W.iret (v := (-1)) hx hb hr (fun t ht hW => ⟨_, rfl, Option.some.inj h, ht⟩) (fun q hq => by cases hq) dX6_faultPlace_37
  refine lv_aload_n hx hb dX6_faultPlace_0 rfl (lv_at hl 0 rfl) ?_
  refine va_get (D := D) (ci := 2) (v := .int xSK) (C := RX6) (T := TX6) (N := 9) hx hb hts hi6 hown hK hP (3) (rfl) rfl 8 (by decide) kf28 (fun _ h9 => h9) rfl dX6_faultPlace_1 ?_
  refine lv_iconst (v := (-1)) hx hb dX6_faultPlace_4 (by decide) ?_
  refine lv_icmp_eq (tgt := 13) hx hb dX6_faultPlace_5 (by decide) (fun c1 => ?_) (fun c1 => ?_)
  · replace h := (if_pos c1).symm.trans h
    refine lv_aload_n hx hb dX6_faultPlace_13 rfl (lv_at hl 0 rfl) ?_
    refine va_get (D := D) (ci := 2) (v := .int xSD) (C := RX6) (T := TX6) (N := 9) hx hb hts hi6 hown hK hP (3) (rfl) rfl 7 (by decide) kf38 (fun _ h9 => h9) rfl dX6_faultPlace_14 ?_
    refine lv_iconst (v := 3) hx hb dX6_faultPlace_17 (by decide) ?_
    refine lv_icmp_eq (tgt := 29) hx hb dX6_faultPlace_18 (by decide) (fun c2 => ?_) (fun c2 => ?_)
    · replace h := (if_pos c2).symm.trans h
      exact J29 ls (lv_sub hl [] rfl) h
    · replace h := (if_neg c2).symm.trans h
      refine lv_aload_n hx hb dX6_faultPlace_21 rfl (lv_at hl 0 rfl) ?_
      refine va_get (D := D) (ci := 2) (v := .int xSD) (C := RX6) (T := TX6) (N := 9) hx hb hts hi6 hown hK hP (3) (rfl) rfl 7 (by decide) kf38 (fun _ h9 => h9) rfl dX6_faultPlace_22 ?_
      refine lv_iconst (v := 4) hx hb dX6_faultPlace_25 (by decide) ?_
      refine lv_icmp_ne (tgt := 33) hx hb dX6_faultPlace_26 (by decide) (fun c3 => ?_) (fun c3 => ?_)
      · replace h := (if_neg c3).symm.trans h
        refine lv_aload_n hx hb dX6_faultPlace_33 rfl (lv_at hl 0 rfl) ?_
        refine va_get (D := D) (ci := 2) (v := .int xSL) (C := RX6) (T := TX6) (N := 9) hx hb hts hi6 hown hK hP (3) (rfl) rfl 5 (by decide) kf32 (fun _ h9 => h9) rfl dX6_faultPlace_34 ?_
        exact W.iret (v := xSL) hx hb hr (fun t ht hW => ⟨_, rfl, Option.some.inj h, ht⟩) (fun q hq => by cases hq) dX6_faultPlace_37
      · replace h := (if_pos c3).symm.trans h
        exact J29 ls (lv_sub hl [] rfl) h
  · replace h := (if_neg c1).symm.trans h
    refine lv_aload_n hx hb dX6_faultPlace_8 rfl (lv_at hl 0 rfl) ?_
    refine va_get (D := D) (ci := 2) (v := .int xSK) (C := RX6) (T := TX6) (N := 9) hx hb hts hi6 hown hK hP (3) (rfl) rfl 8 (by decide) kf28 (fun _ h9 => h9) rfl dX6_faultPlace_9 ?_
    exact W.iret (v := xSK) hx hb hr (fun t ht hW => ⟨_, rfl, Option.some.inj h, ht⟩) (fun q hq => by cases hq) dX6_faultPlace_12
set_option maxHeartbeats 4000000 in
set_option maxRecDepth 100000 in
theorem c_X6_faultPlace (l : Launch) (D : va_G) (k : Nat → ClassId) (a : Nat → Nat) (xLen : Nat → Int32) (xHits : Nat → Int32) (xUns : Nat → Int32) (xItems : Nat → Nat → Int32) (xLost : Nat → Int32) (xKind : Nat → Int32) (xSize : Nat → Int32) (xLet : Nat → Int32) (xRel : Nat → Int32) (xLim : Nat → Int32) (xOpen : Nat → Int32) (xMeas : Nat → Int32) (xSL : Int32) (xST : Int32) (xSD : Int32) (xSK : Int32) (xTal : Nat → Nat → Int32) (xKn : Nat → Int32) (xFT : Nat → Int32) (xFA : Int32) (xFE : Int32) (xOdds : Int32) (xPat : Int32) (xFind : Int32)  {o : Int32} (h : f_X6_faultPlace xSL xSD xSK = some o) : mRi l yX6_faultPlace wo_X6_faultPlace 0 D k [.ref (a 3)] (wX k a xLen xHits xUns xItems xLost xKind xSize xLet xRel xLim xOpen xMeas xSL xST xSD xSK xTal xKn xFT xFA xFE xOdds xPat xFind) o := by
  refine Met.ofW (cc := cX6_faultPlace) (maxL := 1) (ret := some .int) (by decide) rfl ?_
  intro p e s m args below meth c s₁ B hml hv
  obtain ⟨rfl, hP, hK⟩ := hv
  rw [lg_entry_eq]
  exact core_X6_faultPlace D k a xLen xHits xUns xItems xLost xKind xSize xLet xRel xLim xOpen xMeas xSL xST xSD xSK xTal xKn xFT xFA xFE xOdds xPat xFind  B.exec B.bytes hml B.returns (atoms_spec (ws := wo_X6_faultPlace) B.pre) (findClass_of_methodNamed B.named) B.notSynchronized (lv_entry [.ref (a 3)] (n := 1) (Nat.le_of_ble_eq_true rfl)) hK hP h
theorem qd_X6_faultPlace : yX6_faultPlace.cls = RX6 ∧ yX6_faultPlace.cls ≠ "java/lang/invoke/MethodHandle" ∧ yX6_faultPlace.cls ≠ "java/lang/invoke/VarHandle" ∧ (parseMethodDescriptor yX6_faultPlace.desc).map (fun d => d.parameters.length) = some 0 := by decide +kernel
abbrev wo_X6_isFaulty : List Cond := .code yX6_isFaulty cX6_isFaulty 1 (some .boolean) :: wsL_law
set_option maxHeartbeats 4000000 in
set_option maxRecDepth 100000 in
theorem core_X6_isFaulty (D : va_G) (k : Nat → ClassId) (a : Nat → Nat) (xLen : Nat → Int32) (xHits : Nat → Int32) (xUns : Nat → Int32) (xItems : Nat → Nat → Int32) (xLost : Nat → Int32) (xKind : Nat → Int32) (xSize : Nat → Int32) (xLet : Nat → Int32) (xRel : Nat → Int32) (xLim : Nat → Int32) (xOpen : Nat → Int32) (xMeas : Nat → Int32) (xSL : Int32) (xST : Int32) (xSD : Int32) (xSK : Int32) (xTal : Nat → Nat → Int32) (xKn : Nat → Int32) (xFT : Nat → Int32) (xFA : Int32) (xFE : Int32) (xOdds : Int32) (xPat : Int32) (xFind : Int32)  {p : Program} {l : Launch} {e : Env} {s : State} {m : MethodId} {args : Array Value} {below : List Frame} {meth : Method} {c : Code} {ls : Array Slot} (hx : p.tables.exec = Jvm.exec) (hb : c.code = cX6_isFaulty) (hml : c.maxLocals = 1) (hr : meth.sig.returnType = some .boolean) (hts : ∀ w ∈ wo_X6_isFaulty, w.before args s = true) (hown : s.vm.findClass RX6 = some m.cls) (hlocks : meth.locks = false) (hl : lv_has ls 1 [(0, .ref (a 3))]) (hK : va_K D vwCl (xTys k) s) (hP : va_P D vwCl (wX k a xLen xHits xUns xItems xLost xKind xSize xLet xRel xLim xOpen xMeas xSL xST xSD xSK xTal xKn xFT xFA xFE xOdds xPat xFind) s.heap) {o : Int32} (h : f_X6_isFaulty xSL xSD xSK = some o) : gRi p l e wo_X6_isFaulty 1 s m args below meth c o (F0 m 0 ls []) := by
  unfold f_X6_isFaulty at h
  refine lv_aload_n hx hb dX6_isFaulty_0 rfl (lv_at hl 0 rfl) ?_
  obtain ⟨o1, eq2, h⟩ := bnd_some h
  refine kRiV (rest := []) (q0 := 3) ⟨hx, hb, hml, hown, hts⟩ (c_X6_faultPlace l D k a xLen xHits xUns xItems xLost xKind xSize xLet xRel xLim xOpen xMeas xSL xST xSD xSK xTal xKn xFT xFA xFE xOdds xPat xFind  eq2) (cwV 0 hts (gAV wm_441 wm_408 wm_409 wm_22 wm_410) rfl rfl rfl qd_X6_faultPlace ⟨Nat.le_of_ble_eq_true rfl, Nat.le_of_ble_eq_true rfl⟩) hK hP (rfl) rfl rfl hl.1 rfl (Nat.le_of_ble_eq_true rfl) dX6_isFaulty_1 ⟨Nat.zero_le _, Nat.zero_le _⟩ ?_
  refine lv_iconst (v := (-1)) hx hb dX6_isFaulty_4 (by decide) ?_
  refine lv_icmp_eq (tgt := 12) hx hb dX6_isFaulty_5 (by decide) (fun c3 => ?_) (fun c3 => ?_)
  · replace h := (if_pos c3).symm.trans h
    refine lv_iconst (v := 0) hx hb dX6_isFaulty_12 (by decide) ?_
    exact W.zret (v := 0) hx hb hr rfl (fun t ht hW => ⟨_, rfl, Option.some.inj h, ht⟩) (fun q hq => by cases hq) dX6_isFaulty_13
  · replace h := (if_neg c3).symm.trans h
    refine lv_iconst (v := 1) hx hb dX6_isFaulty_8 (by decide) ?_
    refine lv_goto (tgt := 13) hx hb dX6_isFaulty_9 (by decide) ?_
    exact W.zret (v := 1) hx hb hr rfl (fun t ht hW => ⟨_, rfl, Option.some.inj h, ht⟩) (fun q hq => by cases hq) dX6_isFaulty_13
set_option maxHeartbeats 4000000 in
set_option maxRecDepth 100000 in
theorem c_X6_isFaulty (l : Launch) (D : va_G) (k : Nat → ClassId) (a : Nat → Nat) (xLen : Nat → Int32) (xHits : Nat → Int32) (xUns : Nat → Int32) (xItems : Nat → Nat → Int32) (xLost : Nat → Int32) (xKind : Nat → Int32) (xSize : Nat → Int32) (xLet : Nat → Int32) (xRel : Nat → Int32) (xLim : Nat → Int32) (xOpen : Nat → Int32) (xMeas : Nat → Int32) (xSL : Int32) (xST : Int32) (xSD : Int32) (xSK : Int32) (xTal : Nat → Nat → Int32) (xKn : Nat → Int32) (xFT : Nat → Int32) (xFA : Int32) (xFE : Int32) (xOdds : Int32) (xPat : Int32) (xFind : Int32)  {o : Int32} (h : f_X6_isFaulty xSL xSD xSK = some o) : mRi l yX6_isFaulty wo_X6_isFaulty 1 D k [.ref (a 3)] (wX k a xLen xHits xUns xItems xLost xKind xSize xLet xRel xLim xOpen xMeas xSL xST xSD xSK xTal xKn xFT xFA xFE xOdds xPat xFind) o := by
  refine Met.ofW (cc := cX6_isFaulty) (maxL := 1) (ret := some .boolean) (by decide) rfl ?_
  intro p e s m args below meth c s₁ B hml hv
  obtain ⟨rfl, hP, hK⟩ := hv
  rw [lg_entry_eq]
  exact core_X6_isFaulty D k a xLen xHits xUns xItems xLost xKind xSize xLet xRel xLim xOpen xMeas xSL xST xSD xSK xTal xKn xFT xFA xFE xOdds xPat xFind  B.exec B.bytes hml B.returns (atoms_spec (ws := wo_X6_isFaulty) B.pre) (findClass_of_methodNamed B.named) B.notSynchronized (lv_entry [.ref (a 3)] (n := 1) (Nat.le_of_ble_eq_true rfl)) hK hP h
theorem qd_X6_isFaulty : yX6_isFaulty.cls = RX6 ∧ yX6_isFaulty.cls ≠ "java/lang/invoke/MethodHandle" ∧ yX6_isFaulty.cls ≠ "java/lang/invoke/VarHandle" ∧ (parseMethodDescriptor yX6_isFaulty.desc).map (fun d => d.parameters.length) = some 0 := by decide +kernel
abbrev wo_X6_takesRelation : List Cond := .code yX6_takesRelation cX6_takesRelation 2 (some .boolean) :: wsL_law
set_option maxHeartbeats 4000000 in
set_option maxRecDepth 100000 in
theorem core_X6_takesRelation (D : va_G) (k : Nat → ClassId) (a : Nat → Nat) (xLen : Nat → Int32) (xHits : Nat → Int32) (xUns : Nat → Int32) (xItems : Nat → Nat → Int32) (xLost : Nat → Int32) (xKind : Nat → Int32) (xSize : Nat → Int32) (xLet : Nat → Int32) (xRel : Nat → Int32) (xLim : Nat → Int32) (xOpen : Nat → Int32) (xMeas : Nat → Int32) (xSL : Int32) (xST : Int32) (xSD : Int32) (xSK : Int32) (xTal : Nat → Nat → Int32) (xKn : Nat → Int32) (xFT : Nat → Int32) (xFA : Int32) (xFE : Int32) (xOdds : Int32) (xPat : Int32) (xFind : Int32) (x1 : Int32) {p : Program} {l : Launch} {e : Env} {s : State} {m : MethodId} {args : Array Value} {below : List Frame} {meth : Method} {c : Code} {ls : Array Slot} (hx : p.tables.exec = Jvm.exec) (hb : c.code = cX6_takesRelation) (hml : c.maxLocals = 2) (hr : meth.sig.returnType = some .boolean) (hts : ∀ w ∈ wo_X6_takesRelation, w.before args s = true) (hown : s.vm.findClass RX6 = some m.cls) (hlocks : meth.locks = false) (hl : lv_has ls 2 [(0, .ref (a 3)), (1, .int x1)]) (hK : va_K D vwCl (xTys k) s) (hP : va_P D vwCl (wX k a xLen xHits xUns xItems xLost xKind xSize xLet xRel xLim xOpen xMeas xSL xST xSD xSK xTal xKn xFT xFA xFE xOdds xPat xFind) s.heap) {A : Nat → Prop} (hD : va_D A (wX k a xLen xHits xUns xItems xLost xKind xSize xLet xRel xLim xOpen xMeas xSL xST xSD xSK xTal xKn xFT xFA xFE xOdds xPat xFind)) (hA : ∀ q : Nat, s.heap.size ≤ q → A q) {o : Int32 × (Nat → Int32) × (Int32)} (h : f_X6_takesRelation x1 xRel xST xSD = some o) : gQi p l e wo_X6_takesRelation 0 s m args below meth c D k A o.1 (wX k a xLen xHits xUns xItems xLost xKind xSize xLet o.2.1 xLim xOpen xMeas xSL xST o.2.2 xSK xTal xKn xFT xFA xFE xOdds xPat xFind) s.heap [] (F0 m 0 ls []) := by
  have hi6 := (fun w h => List.mem_cons_of_mem _ (inlX6 w h) : ∀ w ∈ wsX60, w ∈ wo_X6_takesRelation)
  have kf35 := hts _ (List.mem_cons_of_mem _ wm_282)
  have kf15 := hts _ (List.mem_cons_of_mem _ wm_50)
  have kf38 := hts _ (List.mem_cons_of_mem _ wm_277)
  unfold f_X6_takesRelation at h
  have hS : va_S A s.heap s.heap [] := va_S.rf
  have J18 : ∀ (x1 : Int32) (xRel : Nat → Int32) (xSD : Int32) (ls : Array Slot) (H : Heap) (locs : List Loc) (hl : lv_has ls 2 [(0, .ref (a 3)), (1, .int x1)]) (hP : va_P D vwCl (wX k a xLen xHits xUns xItems xLost xKind xSize xLet xRel xLim xOpen xMeas xSL xST xSD xSK xTal xKn xFT xFA xFE xOdds xPat xFind) H) (hD : va_D A (wX k a xLen xHits xUns xItems xLost xKind xSize xLet xRel xLim xOpen xMeas xSL xST xSD xSK xTal xKn xFT xFA xFE xOdds xPat xFind)) (hS : va_S A s.heap H locs) (h : f_X6_takesRelation_18 x1 xRel xST xSD = some o), gQi p l e wo_X6_takesRelation 0 s m args below meth c D k A o.1 (wX k a xLen xHits xUns xItems xLost xKind xSize xLet o.2.1 xLim xOpen xMeas xSL xST o.2.2 xSK xTal xKn xFT xFA xFE xOdds xPat xFind) H locs (F0 m 18 ls []) := by
    intro x1 xRel xSD ls H locs hl hP hD hS h
    unfold f_X6_takesRelation_18 at h
    refine lv_aload_n hx hb dX6_takesRelation_18 rfl (lv_at hl 0 rfl) ?_
    refine va_get (D := D) (ci := 2) (v := .int xST) (C := RX6) (T := TX6) (N := 9) hx hb hts hi6 hown hK hP (3) (rfl) rfl 6 (by decide) kf35 (fun _ h9 => h9) rfl dX6_takesRelation_19 ?_
    refine lv_bipush (v := 16) hx hb dX6_takesRelation_22 (by decide) ?_
    refine lv_icmp_lt (tgt := 29) hx hb dX6_takesRelation_24 (by decide) (fun c1 => ?_) (fun c1 => ?_)
    · replace h := (if_pos c1).symm.trans h
      refine lv_aload_n hx hb dX6_takesRelation_29 rfl (lv_at hl 0 rfl) ?_
      refine va_get (D := D) (ci := 2) (v := .ref (a 5)) (C := RX6) (T := TX6) (N := 9) hx hb hts hi6 hown hK hP (3) (rfl) rfl 1 (by decide) kf15 (fun _ h9 => h9) rfl dX6_takesRelation_30 ?_
      refine lv_aload_n hx hb dX6_takesRelation_33 rfl (lv_at hl 0 rfl) ?_
      refine va_get (D := D) (ci := 2) (v := .int xST) (C := RX6) (T := TX6) (N := 9) hx hb hts hi6 hown hK hP (3) (rfl) rfl 6 (by decide) kf35 (fun _ h9 => h9) rfl dX6_takesRelation_34 ?_
      refine lv_iload_n hx hb dX6_takesRelation_37 rfl (lv_at hl 1 rfl) ?_
      obtain ⟨g2, h⟩ := gIn_some h
      refine va_iast hx hb hK hP hD hS (5) 0 (rfl) rfl g2 dX6_takesRelation_38 (fun H locs hP hD hS => ?_)
      have hP : va_P D vwCl (wX k a xLen xHits xUns xItems xLost xKind xSize xLet (upd xRel xST.toNatClampNeg x1) xLim xOpen xMeas xSL xST xSD xSK xTal xKn xFT xFA xFE xOdds xPat xFind) H := hP
      have hD : va_D A (wX k a xLen xHits xUns xItems xLost xKind xSize xLet (upd xRel xST.toNatClampNeg x1) xLim xOpen xMeas xSL xST xSD xSK xTal xKn xFT xFA xFE xOdds xPat xFind) := hD
      refine lv_aload_n hx hb dX6_takesRelation_39 rfl (lv_at hl 0 rfl) ?_
      refine lv_iconst (v := 2) hx hb dX6_takesRelation_40 (by decide) ?_
      refine va_put (D := D) (ci := 2) (v := .int 2) (ty := .int) (C := RX6) (T := TX6) (N := 9) hx hb hts hi6 tyX6 tyX6_ok nmX6 hown hK hP hD hS (3) (rfl) rfl 7 (by decide) kf38 (fun _ h9 => h9) rfl (tyX6_ok 7 (by decide)) rfl rfl (Nat.le_of_ble_eq_true rfl) dX6_takesRelation_41 (fun H locs hP hD hS => ?_)
      have hP : va_P D vwCl (wX k a xLen xHits xUns xItems xLost xKind xSize xLet (upd xRel xST.toNatClampNeg x1) xLim xOpen xMeas xSL xST 2 xSK xTal xKn xFT xFA xFE xOdds xPat xFind) H := hP
      have hD : va_D A (wX k a xLen xHits xUns xItems xLost xKind xSize xLet (upd xRel xST.toNatClampNeg x1) xLim xOpen xMeas xSL xST 2 xSK xTal xKn xFT xFA xFE xOdds xPat xFind) := hD
      refine lv_iconst (v := 1) hx hb dX6_takesRelation_44 (by decide) ?_
      have he := Option.some.inj h
      exact W.zret (v := 1) hx hb hr rfl (fun t ht hW => ⟨⟨1, wX k a xLen xHits xUns xItems xLost xKind xSize xLet (upd xRel xST.toNatClampNeg x1) xLim xOpen xMeas xSL xST 2 xSK xTal xKn xFT xFA xFE xOdds xPat xFind, rfl, ⟨(congrArg (fun z => z.1) he), (congrArg (fun z => wX k a xLen xHits xUns xItems xLost xKind xSize xLet z.2.1 xLim xOpen xMeas xSL xST z.2.2 xSK xTal xKn xFT xFA xFE xOdds xPat xFind) he)⟩, by rw [ht]; exact hP, va_K.moved hW.alike hK, hD⟩, hS.F ht⟩) hS.2.2 dX6_takesRelation_45
    · replace h := (if_neg c1).symm.trans h
      refine lv_iconst (v := 0) hx hb dX6_takesRelation_27 (by decide) ?_
      have he := Option.some.inj h
      exact W.zret (v := 0) hx hb hr rfl (fun t ht hW => ⟨⟨0, wX k a xLen xHits xUns xItems xLost xKind xSize xLet xRel xLim xOpen xMeas xSL xST xSD xSK xTal xKn xFT xFA xFE xOdds xPat xFind, rfl, ⟨(congrArg (fun z => z.1) he), (congrArg (fun z => wX k a xLen xHits xUns xItems xLost xKind xSize xLet z.2.1 xLim xOpen xMeas xSL xST z.2.2 xSK xTal xKn xFT xFA xFE xOdds xPat xFind) he)⟩, by rw [ht]; exact hP, va_K.moved hW.alike hK, hD⟩, hS.F ht⟩) hS.2.2 dX6_takesRelation_28
  obtain ⟨H, hH⟩ : ∃ H : Heap, H = s.heap := ⟨_, rfl⟩
  obtain ⟨locs, hlc⟩ : ∃ locs : List Loc, locs = [] := ⟨_, rfl⟩
  have hS : va_S A s.heap H locs := by rw [hH, hlc]; exact va_S.rf
  have hP : va_P D vwCl (wX k a xLen xHits xUns xItems xLost xKind xSize xLet xRel xLim xOpen xMeas xSL xST xSD xSK xTal xKn xFT xFA xFE xOdds xPat xFind) H := by rw [hH]; exact hP
  suffices hGo : gQi p l e wo_X6_takesRelation 0 s m args below meth c D k A o.1 (wX k a xLen xHits xUns xItems xLost xKind xSize xLet o.2.1 xLim xOpen xMeas xSL xST o.2.2 xSK xTal xKn xFT xFA xFE xOdds xPat xFind) H locs (F0 m 0 ls []) by rw [hH, hlc] at hGo; exact hGo
  refine lv_iload_n hx hb dX6_takesRelation_0 rfl (lv_at hl 1 rfl) ?_
  refine lv_bipush (v := 60) hx hb dX6_takesRelation_1 (by decide) ?_
  refine lv_icmp_eq (tgt := 18) hx hb dX6_takesRelation_3 (by decide) (fun c3 => ?_) (fun c3 => ?_)
  · replace h := (if_pos c3).symm.trans h
    exact J18 x1 xRel xSD ls H locs (lv_sub hl [0, 1] rfl) hP hD hS h
  · replace h := (if_neg c3).symm.trans h
    refine lv_iload_n hx hb dX6_takesRelation_6 rfl (lv_at hl 1 rfl) ?_
    refine lv_bipush (v := 61) hx hb dX6_takesRelation_7 (by decide) ?_
    refine lv_icmp_eq (tgt := 18) hx hb dX6_takesRelation_9 (by decide) (fun c4 => ?_) (fun c4 => ?_)
    · replace h := (if_pos c4).symm.trans h
      exact J18 x1 xRel xSD ls H locs (lv_sub hl [0, 1] rfl) hP hD hS h
    · replace h := (if_neg c4).symm.trans h
      refine lv_iload_n hx hb dX6_takesRelation_12 rfl (lv_at hl 1 rfl) ?_
      refine lv_bipush (v := 62) hx hb dX6_takesRelation_13 (by decide) ?_
      refine lv_icmp_ne (tgt := 27) hx hb dX6_takesRelation_15 (by decide) (fun c5 => ?_) (fun c5 => ?_)
      · replace h := (if_neg c5).symm.trans h
        refine lv_iconst (v := 0) hx hb dX6_takesRelation_27 (by decide) ?_
        have he := Option.some.inj h
        exact W.zret (v := 0) hx hb hr rfl (fun t ht hW => ⟨⟨0, wX k a xLen xHits xUns xItems xLost xKind xSize xLet xRel xLim xOpen xMeas xSL xST xSD xSK xTal xKn xFT xFA xFE xOdds xPat xFind, rfl, ⟨(congrArg (fun z => z.1) he), (congrArg (fun z => wX k a xLen xHits xUns xItems xLost xKind xSize xLet z.2.1 xLim xOpen xMeas xSL xST z.2.2 xSK xTal xKn xFT xFA xFE xOdds xPat xFind) he)⟩, by rw [ht]; exact hP, va_K.moved hW.alike hK, hD⟩, hS.F ht⟩) hS.2.2 dX6_takesRelation_28
      · replace h := (if_pos c5).symm.trans h
        exact J18 x1 xRel xSD ls H locs (lv_sub hl [0, 1] rfl) hP hD hS h
set_option maxHeartbeats 4000000 in
set_option maxRecDepth 100000 in
theorem c_X6_takesRelation (l : Launch) (D : va_G) (k : Nat → ClassId) (a : Nat → Nat) (xLen : Nat → Int32) (xHits : Nat → Int32) (xUns : Nat → Int32) (xItems : Nat → Nat → Int32) (xLost : Nat → Int32) (xKind : Nat → Int32) (xSize : Nat → Int32) (xLet : Nat → Int32) (xRel : Nat → Int32) (xLim : Nat → Int32) (xOpen : Nat → Int32) (xMeas : Nat → Int32) (xSL : Int32) (xST : Int32) (xSD : Int32) (xSK : Int32) (xTal : Nat → Nat → Int32) (xKn : Nat → Int32) (xFT : Nat → Int32) (xFA : Int32) (xFE : Int32) (xOdds : Int32) (xPat : Int32) (xFind : Int32) (x1 : Int32) {o : Int32 × (Nat → Int32) × (Int32)} (h : f_X6_takesRelation x1 xRel xST xSD = some o) : mQi l yX6_takesRelation wo_X6_takesRelation 0 D k [.ref (a 3), .int x1] (wX k a xLen xHits xUns xItems xLost xKind xSize xLet xRel xLim xOpen xMeas xSL xST xSD xSK xTal xKn xFT xFA xFE xOdds xPat xFind) o.1 (wX k a xLen xHits xUns xItems xLost xKind xSize xLet o.2.1 xLim xOpen xMeas xSL xST o.2.2 xSK xTal xKn xFT xFA xFE xOdds xPat xFind) := by
  intro sz
  refine Met.ofW (cc := cX6_takesRelation) (maxL := 2) (ret := some .boolean) (by decide) rfl ?_
  intro p e s m args below meth c s₁ B hml hv
  obtain ⟨rfl, hsz, hP, hK, hD0⟩ := hv
  subst hsz
  rw [lg_entry_eq]
  exact core_X6_takesRelation D k a xLen xHits xUns xItems xLost xKind xSize xLet xRel xLim xOpen xMeas xSL xST xSD xSK xTal xKn xFT xFA xFE xOdds xPat xFind x1 B.exec B.bytes hml B.returns (atoms_spec (ws := wo_X6_takesRelation) B.pre) (findClass_of_methodNamed B.named) B.notSynchronized (lv_entry [.ref (a 3), .int x1] (n := 2) (Nat.le_of_ble_eq_true rfl)) hK hP hD0.self (fun q h => Or.inr h) h
theorem qd_X6_takesRelation : yX6_takesRelation.cls = RX6 ∧ yX6_takesRelation.cls ≠ "java/lang/invoke/MethodHandle" ∧ yX6_takesRelation.cls ≠ "java/lang/invoke/VarHandle" ∧ (parseMethodDescriptor yX6_takesRelation.desc).map (fun d => d.parameters.length) = some 1 := by decide +kernel
abbrev wo_X6_takesFigure : List Cond := .code yX6_takesFigure cX6_takesFigure 2 (some .boolean) :: wsL_law
set_option maxHeartbeats 4000000 in
set_option maxRecDepth 100000 in
theorem core_X6_takesFigure (D : va_G) (k : Nat → ClassId) (a : Nat → Nat) (xLen : Nat → Int32) (xHits : Nat → Int32) (xUns : Nat → Int32) (xItems : Nat → Nat → Int32) (xLost : Nat → Int32) (xKind : Nat → Int32) (xSize : Nat → Int32) (xLet : Nat → Int32) (xRel : Nat → Int32) (xLim : Nat → Int32) (xOpen : Nat → Int32) (xMeas : Nat → Int32) (xSL : Int32) (xST : Int32) (xSD : Int32) (xSK : Int32) (xTal : Nat → Nat → Int32) (xKn : Nat → Int32) (xFT : Nat → Int32) (xFA : Int32) (xFE : Int32) (xOdds : Int32) (xPat : Int32) (xFind : Int32) (x1 : Int32) {p : Program} {l : Launch} {e : Env} {s : State} {m : MethodId} {args : Array Value} {below : List Frame} {meth : Method} {c : Code} {ls : Array Slot} (hx : p.tables.exec = Jvm.exec) (hb : c.code = cX6_takesFigure) (hml : c.maxLocals = 2) (hr : meth.sig.returnType = some .boolean) (hts : ∀ w ∈ wo_X6_takesFigure, w.before args s = true) (hown : s.vm.findClass RX6 = some m.cls) (hlocks : meth.locks = false) (hl : lv_has ls 2 [(0, .ref (a 3)), (1, .int x1)]) (hK : va_K D vwCl (xTys k) s) (hP : va_P D vwCl (wX k a xLen xHits xUns xItems xLost xKind xSize xLet xRel xLim xOpen xMeas xSL xST xSD xSK xTal xKn xFT xFA xFE xOdds xPat xFind) s.heap) {A : Nat → Prop} (hD : va_D A (wX k a xLen xHits xUns xItems xLost xKind xSize xLet xRel xLim xOpen xMeas xSL xST xSD xSK xTal xKn xFT xFA xFE xOdds xPat xFind)) (hA : ∀ q : Nat, s.heap.size ≤ q → A q) {o : Int32 × (Nat → Int32) × (Int32) × (Int32)} (h : f_X6_takesFigure x1 xLim xST xSD = some o) : gQi p l e wo_X6_takesFigure 0 s m args below meth c D k A o.1 (wX k a xLen xHits xUns xItems xLost xKind xSize xLet xRel o.2.1 xOpen xMeas xSL o.2.2.1 o.2.2.2 xSK xTal xKn xFT xFA xFE xOdds xPat xFind) s.heap [] (F0 m 0 ls []) := by
  have hi6 := (fun w h => List.mem_cons_of_mem _ (inlX6 w h) : ∀ w ∈ wsX60, w ∈ wo_X6_takesFigure)
  have kf35 := hts _ (List.mem_cons_of_mem _ wm_282)
  have kf18 := hts _ (List.mem_cons_of_mem _ wm_51)
  have kf38 := hts _ (List.mem_cons_of_mem _ wm_277)
  unfold f_X6_takesFigure at h
  have hS : va_S A s.heap s.heap [] := va_S.rf
  obtain ⟨H, hH⟩ : ∃ H : Heap, H = s.heap := ⟨_, rfl⟩
  obtain ⟨locs, hlc⟩ : ∃ locs : List Loc, locs = [] := ⟨_, rfl⟩
  have hS : va_S A s.heap H locs := by rw [hH, hlc]; exact va_S.rf
  have hP : va_P D vwCl (wX k a xLen xHits xUns xItems xLost xKind xSize xLet xRel xLim xOpen xMeas xSL xST xSD xSK xTal xKn xFT xFA xFE xOdds xPat xFind) H := by rw [hH]; exact hP
  suffices hGo : gQi p l e wo_X6_takesFigure 0 s m args below meth c D k A o.1 (wX k a xLen xHits xUns xItems xLost xKind xSize xLet xRel o.2.1 xOpen xMeas xSL o.2.2.1 o.2.2.2 xSK xTal xKn xFT xFA xFE xOdds xPat xFind) H locs (F0 m 0 ls []) by rw [hH, hlc] at hGo; exact hGo
  refine lv_iload_n hx hb dX6_takesFigure_0 rfl (lv_at hl 1 rfl) ?_
  refine lv_bipush (v := 48) hx hb dX6_takesFigure_1 (by decide) ?_
  refine lv_icmp_lt (tgt := 21) hx hb dX6_takesFigure_3 (by decide) (fun c1 => ?_) (fun c1 => ?_)
  · replace h := (if_pos c1).symm.trans h
    refine lv_iconst (v := 0) hx hb dX6_takesFigure_21 (by decide) ?_
    have he := Option.some.inj h
    exact W.zret (v := 0) hx hb hr rfl (fun t ht hW => ⟨⟨0, wX k a xLen xHits xUns xItems xLost xKind xSize xLet xRel xLim xOpen xMeas xSL xST xSD xSK xTal xKn xFT xFA xFE xOdds xPat xFind, rfl, ⟨(congrArg (fun z => z.1) he), (congrArg (fun z => wX k a xLen xHits xUns xItems xLost xKind xSize xLet xRel z.2.1 xOpen xMeas xSL z.2.2.1 z.2.2.2 xSK xTal xKn xFT xFA xFE xOdds xPat xFind) he)⟩, by rw [ht]; exact hP, va_K.moved hW.alike hK, hD⟩, hS.F ht⟩) hS.2.2 dX6_takesFigure_22
  · replace h := (if_neg c1).symm.trans h
    refine lv_iload_n hx hb dX6_takesFigure_6 rfl (lv_at hl 1 rfl) ?_
    refine lv_bipush (v := 57) hx hb dX6_takesFigure_7 (by decide) ?_
    refine lv_icmp_gt (tgt := 21) hx hb dX6_takesFigure_9 (by decide) (fun c2 => ?_) (fun c2 => ?_)
    · replace h := (if_pos c2).symm.trans h
      refine lv_iconst (v := 0) hx hb dX6_takesFigure_21 (by decide) ?_
      have he := Option.some.inj h
      exact W.zret (v := 0) hx hb hr rfl (fun t ht hW => ⟨⟨0, wX k a xLen xHits xUns xItems xLost xKind xSize xLet xRel xLim xOpen xMeas xSL xST xSD xSK xTal xKn xFT xFA xFE xOdds xPat xFind, rfl, ⟨(congrArg (fun z => z.1) he), (congrArg (fun z => wX k a xLen xHits xUns xItems xLost xKind xSize xLet xRel z.2.1 xOpen xMeas xSL z.2.2.1 z.2.2.2 xSK xTal xKn xFT xFA xFE xOdds xPat xFind) he)⟩, by rw [ht]; exact hP, va_K.moved hW.alike hK, hD⟩, hS.F ht⟩) hS.2.2 dX6_takesFigure_22
    · replace h := (if_neg c2).symm.trans h
      refine lv_aload_n hx hb dX6_takesFigure_12 rfl (lv_at hl 0 rfl) ?_
      refine va_get (D := D) (ci := 2) (v := .int xST) (C := RX6) (T := TX6) (N := 9) hx hb hts hi6 hown hK hP (3) (rfl) rfl 6 (by decide) kf35 (fun _ h9 => h9) rfl dX6_takesFigure_13 ?_
      refine lv_bipush (v := 16) hx hb dX6_takesFigure_16 (by decide) ?_
      refine lv_icmp_lt (tgt := 23) hx hb dX6_takesFigure_18 (by decide) (fun c3 => ?_) (fun c3 => ?_)
      · replace h := (if_pos c3).symm.trans h
        refine lv_aload_n hx hb dX6_takesFigure_23 rfl (lv_at hl 0 rfl) ?_
        refine va_get (D := D) (ci := 2) (v := .ref (a 6)) (C := RX6) (T := TX6) (N := 9) hx hb hts hi6 hown hK hP (3) (rfl) rfl 2 (by decide) kf18 (fun _ h9 => h9) rfl dX6_takesFigure_24 ?_
        refine lv_aload_n hx hb dX6_takesFigure_27 rfl (lv_at hl 0 rfl) ?_
        refine va_get (D := D) (ci := 2) (v := .int xST) (C := RX6) (T := TX6) (N := 9) hx hb hts hi6 hown hK hP (3) (rfl) rfl 6 (by decide) kf35 (fun _ h9 => h9) rfl dX6_takesFigure_28 ?_
        refine lv_iload_n hx hb dX6_takesFigure_31 rfl (lv_at hl 1 rfl) ?_
        refine lv_bipush (v := 48) hx hb dX6_takesFigure_32 (by decide) ?_
        refine lv_isub hx hb dX6_takesFigure_34 ?_
        obtain ⟨g4, h⟩ := gIn_some h
        refine va_iast hx hb hK hP hD hS (6) 0 (rfl) rfl g4 dX6_takesFigure_35 (fun H locs hP hD hS => ?_)
        have hP : va_P D vwCl (wX k a xLen xHits xUns xItems xLost xKind xSize xLet xRel (upd xLim xST.toNatClampNeg (x1 - 48)) xOpen xMeas xSL xST xSD xSK xTal xKn xFT xFA xFE xOdds xPat xFind) H := hP
        have hD : va_D A (wX k a xLen xHits xUns xItems xLost xKind xSize xLet xRel (upd xLim xST.toNatClampNeg (x1 - 48)) xOpen xMeas xSL xST xSD xSK xTal xKn xFT xFA xFE xOdds xPat xFind) := hD
        refine lv_aload_n hx hb dX6_takesFigure_36 rfl (lv_at hl 0 rfl) ?_
        refine lv_dup hx hb dX6_takesFigure_37 rfl ?_
        refine va_get (D := D) (ci := 2) (v := .int xST) (C := RX6) (T := TX6) (N := 9) hx hb hts hi6 hown hK hP (3) (rfl) rfl 6 (by decide) kf35 (fun _ h9 => h9) rfl dX6_takesFigure_38 ?_
        refine lv_iconst (v := 1) hx hb dX6_takesFigure_41 (by decide) ?_
        refine lv_iadd hx hb dX6_takesFigure_42 ?_
        refine va_put (D := D) (ci := 2) (v := .int (xST + 1)) (ty := .int) (C := RX6) (T := TX6) (N := 9) hx hb hts hi6 tyX6 tyX6_ok nmX6 hown hK hP hD hS (3) (rfl) rfl 6 (by decide) kf35 (fun _ h9 => h9) rfl (tyX6_ok 6 (by decide)) rfl rfl (Nat.le_of_ble_eq_true rfl) dX6_takesFigure_43 (fun H locs hP hD hS => ?_)
        have hP : va_P D vwCl (wX k a xLen xHits xUns xItems xLost xKind xSize xLet xRel (upd xLim xST.toNatClampNeg (x1 - 48)) xOpen xMeas xSL (xST + 1) xSD xSK xTal xKn xFT xFA xFE xOdds xPat xFind) H := hP
        have hD : va_D A (wX k a xLen xHits xUns xItems xLost xKind xSize xLet xRel (upd xLim xST.toNatClampNeg (x1 - 48)) xOpen xMeas xSL (xST + 1) xSD xSK xTal xKn xFT xFA xFE xOdds xPat xFind) := hD
        refine lv_aload_n hx hb dX6_takesFigure_46 rfl (lv_at hl 0 rfl) ?_
        refine lv_iconst (v := 3) hx hb dX6_takesFigure_47 (by decide) ?_
        refine va_put (D := D) (ci := 2) (v := .int 3) (ty := .int) (C := RX6) (T := TX6) (N := 9) hx hb hts hi6 tyX6 tyX6_ok nmX6 hown hK hP hD hS (3) (rfl) rfl 7 (by decide) kf38 (fun _ h9 => h9) rfl (tyX6_ok 7 (by decide)) rfl rfl (Nat.le_of_ble_eq_true rfl) dX6_takesFigure_48 (fun H locs hP hD hS => ?_)
        have hP : va_P D vwCl (wX k a xLen xHits xUns xItems xLost xKind xSize xLet xRel (upd xLim xST.toNatClampNeg (x1 - 48)) xOpen xMeas xSL (xST + 1) 3 xSK xTal xKn xFT xFA xFE xOdds xPat xFind) H := hP
        have hD : va_D A (wX k a xLen xHits xUns xItems xLost xKind xSize xLet xRel (upd xLim xST.toNatClampNeg (x1 - 48)) xOpen xMeas xSL (xST + 1) 3 xSK xTal xKn xFT xFA xFE xOdds xPat xFind) := hD
        refine lv_iconst (v := 1) hx hb dX6_takesFigure_51 (by decide) ?_
        have he := Option.some.inj h
        exact W.zret (v := 1) hx hb hr rfl (fun t ht hW => ⟨⟨1, wX k a xLen xHits xUns xItems xLost xKind xSize xLet xRel (upd xLim xST.toNatClampNeg (x1 - 48)) xOpen xMeas xSL (xST + 1) 3 xSK xTal xKn xFT xFA xFE xOdds xPat xFind, rfl, ⟨(congrArg (fun z => z.1) he), (congrArg (fun z => wX k a xLen xHits xUns xItems xLost xKind xSize xLet xRel z.2.1 xOpen xMeas xSL z.2.2.1 z.2.2.2 xSK xTal xKn xFT xFA xFE xOdds xPat xFind) he)⟩, by rw [ht]; exact hP, va_K.moved hW.alike hK, hD⟩, hS.F ht⟩) hS.2.2 dX6_takesFigure_52
      · replace h := (if_neg c3).symm.trans h
        refine lv_iconst (v := 0) hx hb dX6_takesFigure_21 (by decide) ?_
        have he := Option.some.inj h
        exact W.zret (v := 0) hx hb hr rfl (fun t ht hW => ⟨⟨0, wX k a xLen xHits xUns xItems xLost xKind xSize xLet xRel xLim xOpen xMeas xSL xST xSD xSK xTal xKn xFT xFA xFE xOdds xPat xFind, rfl, ⟨(congrArg (fun z => z.1) he), (congrArg (fun z => wX k a xLen xHits xUns xItems xLost xKind xSize xLet xRel z.2.1 xOpen xMeas xSL z.2.2.1 z.2.2.2 xSK xTal xKn xFT xFA xFE xOdds xPat xFind) he)⟩, by rw [ht]; exact hP, va_K.moved hW.alike hK, hD⟩, hS.F ht⟩) hS.2.2 dX6_takesFigure_22
set_option maxHeartbeats 4000000 in
set_option maxRecDepth 100000 in
theorem c_X6_takesFigure (l : Launch) (D : va_G) (k : Nat → ClassId) (a : Nat → Nat) (xLen : Nat → Int32) (xHits : Nat → Int32) (xUns : Nat → Int32) (xItems : Nat → Nat → Int32) (xLost : Nat → Int32) (xKind : Nat → Int32) (xSize : Nat → Int32) (xLet : Nat → Int32) (xRel : Nat → Int32) (xLim : Nat → Int32) (xOpen : Nat → Int32) (xMeas : Nat → Int32) (xSL : Int32) (xST : Int32) (xSD : Int32) (xSK : Int32) (xTal : Nat → Nat → Int32) (xKn : Nat → Int32) (xFT : Nat → Int32) (xFA : Int32) (xFE : Int32) (xOdds : Int32) (xPat : Int32) (xFind : Int32) (x1 : Int32) {o : Int32 × (Nat → Int32) × (Int32) × (Int32)} (h : f_X6_takesFigure x1 xLim xST xSD = some o) : mQi l yX6_takesFigure wo_X6_takesFigure 0 D k [.ref (a 3), .int x1] (wX k a xLen xHits xUns xItems xLost xKind xSize xLet xRel xLim xOpen xMeas xSL xST xSD xSK xTal xKn xFT xFA xFE xOdds xPat xFind) o.1 (wX k a xLen xHits xUns xItems xLost xKind xSize xLet xRel o.2.1 xOpen xMeas xSL o.2.2.1 o.2.2.2 xSK xTal xKn xFT xFA xFE xOdds xPat xFind) := by
  intro sz
  refine Met.ofW (cc := cX6_takesFigure) (maxL := 2) (ret := some .boolean) (by decide) rfl ?_
  intro p e s m args below meth c s₁ B hml hv
  obtain ⟨rfl, hsz, hP, hK, hD0⟩ := hv
  subst hsz
  rw [lg_entry_eq]
  exact core_X6_takesFigure D k a xLen xHits xUns xItems xLost xKind xSize xLet xRel xLim xOpen xMeas xSL xST xSD xSK xTal xKn xFT xFA xFE xOdds xPat xFind x1 B.exec B.bytes hml B.returns (atoms_spec (ws := wo_X6_takesFigure) B.pre) (findClass_of_methodNamed B.named) B.notSynchronized (lv_entry [.ref (a 3), .int x1] (n := 2) (Nat.le_of_ble_eq_true rfl)) hK hP hD0.self (fun q h => Or.inr h) h
theorem qd_X6_takesFigure : yX6_takesFigure.cls = RX6 ∧ yX6_takesFigure.cls ≠ "java/lang/invoke/MethodHandle" ∧ yX6_takesFigure.cls ≠ "java/lang/invoke/VarHandle" ∧ (parseMethodDescriptor yX6_takesFigure.desc).map (fun d => d.parameters.length) = some 1 := by decide +kernel
abbrev wo_X6_takesSecondFigure : List Cond := .code yX6_takesSecondFigure cX6_takesSecondFigure 2 (some .boolean) :: wsL_law
set_option maxHeartbeats 4000000 in
set_option maxRecDepth 100000 in
theorem core_X6_takesSecondFigure (D : va_G) (k : Nat → ClassId) (a : Nat → Nat) (xLen : Nat → Int32) (xHits : Nat → Int32) (xUns : Nat → Int32) (xItems : Nat → Nat → Int32) (xLost : Nat → Int32) (xKind : Nat → Int32) (xSize : Nat → Int32) (xLet : Nat → Int32) (xRel : Nat → Int32) (xLim : Nat → Int32) (xOpen : Nat → Int32) (xMeas : Nat → Int32) (xSL : Int32) (xST : Int32) (xSD : Int32) (xSK : Int32) (xTal : Nat → Nat → Int32) (xKn : Nat → Int32) (xFT : Nat → Int32) (xFA : Int32) (xFE : Int32) (xOdds : Int32) (xPat : Int32) (xFind : Int32) (x1 : Int32) {p : Program} {l : Launch} {e : Env} {s : State} {m : MethodId} {args : Array Value} {below : List Frame} {meth : Method} {c : Code} {ls : Array Slot} (hx : p.tables.exec = Jvm.exec) (hb : c.code = cX6_takesSecondFigure) (hml : c.maxLocals = 2) (hr : meth.sig.returnType = some .boolean) (hts : ∀ w ∈ wo_X6_takesSecondFigure, w.before args s = true) (hown : s.vm.findClass RX6 = some m.cls) (hlocks : meth.locks = false) (hl : lv_has ls 2 [(0, .ref (a 3)), (1, .int x1)]) (hK : va_K D vwCl (xTys k) s) (hP : va_P D vwCl (wX k a xLen xHits xUns xItems xLost xKind xSize xLet xRel xLim xOpen xMeas xSL xST xSD xSK xTal xKn xFT xFA xFE xOdds xPat xFind) s.heap) {A : Nat → Prop} (hD : va_D A (wX k a xLen xHits xUns xItems xLost xKind xSize xLet xRel xLim xOpen xMeas xSL xST xSD xSK xTal xKn xFT xFA xFE xOdds xPat xFind)) (hA : ∀ q : Nat, s.heap.size ≤ q → A q) {o : Int32 × (Nat → Int32) × (Int32)} (h : f_X6_takesSecondFigure x1 xLim xST xSD = some o) : gQi p l e wo_X6_takesSecondFigure 0 s m args below meth c D k A o.1 (wX k a xLen xHits xUns xItems xLost xKind xSize xLet xRel o.2.1 xOpen xMeas xSL xST o.2.2 xSK xTal xKn xFT xFA xFE xOdds xPat xFind) s.heap [] (F0 m 0 ls []) := by
  have hi6 := (fun w h => List.mem_cons_of_mem _ (inlX6 w h) : ∀ w ∈ wsX60, w ∈ wo_X6_takesSecondFigure)
  have kf35 := hts _ (List.mem_cons_of_mem _ wm_282)
  have kf18 := hts _ (List.mem_cons_of_mem _ wm_51)
  have kf38 := hts _ (List.mem_cons_of_mem _ wm_277)
  unfold f_X6_takesSecondFigure at h
  have hS : va_S A s.heap s.heap [] := va_S.rf
  obtain ⟨H, hH⟩ : ∃ H : Heap, H = s.heap := ⟨_, rfl⟩
  obtain ⟨locs, hlc⟩ : ∃ locs : List Loc, locs = [] := ⟨_, rfl⟩
  have hS : va_S A s.heap H locs := by rw [hH, hlc]; exact va_S.rf
  have hP : va_P D vwCl (wX k a xLen xHits xUns xItems xLost xKind xSize xLet xRel xLim xOpen xMeas xSL xST xSD xSK xTal xKn xFT xFA xFE xOdds xPat xFind) H := by rw [hH]; exact hP
  suffices hGo : gQi p l e wo_X6_takesSecondFigure 0 s m args below meth c D k A o.1 (wX k a xLen xHits xUns xItems xLost xKind xSize xLet xRel o.2.1 xOpen xMeas xSL xST o.2.2 xSK xTal xKn xFT xFA xFE xOdds xPat xFind) H locs (F0 m 0 ls []) by rw [hH, hlc] at hGo; exact hGo
  refine lv_iload_n hx hb dX6_takesSecondFigure_0 rfl (lv_at hl 1 rfl) ?_
  refine lv_bipush (v := 48) hx hb dX6_takesSecondFigure_1 (by decide) ?_
  refine lv_icmp_lt (tgt := 20) hx hb dX6_takesSecondFigure_3 (by decide) (fun c1 => ?_) (fun c1 => ?_)
  · replace h := (if_pos c1).symm.trans h
    refine lv_iconst (v := 0) hx hb dX6_takesSecondFigure_20 (by decide) ?_
    have he := Option.some.inj h
    exact W.zret (v := 0) hx hb hr rfl (fun t ht hW => ⟨⟨0, wX k a xLen xHits xUns xItems xLost xKind xSize xLet xRel xLim xOpen xMeas xSL xST xSD xSK xTal xKn xFT xFA xFE xOdds xPat xFind, rfl, ⟨(congrArg (fun z => z.1) he), (congrArg (fun z => wX k a xLen xHits xUns xItems xLost xKind xSize xLet xRel z.2.1 xOpen xMeas xSL xST z.2.2 xSK xTal xKn xFT xFA xFE xOdds xPat xFind) he)⟩, by rw [ht]; exact hP, va_K.moved hW.alike hK, hD⟩, hS.F ht⟩) hS.2.2 dX6_takesSecondFigure_21
  · replace h := (if_neg c1).symm.trans h
    refine lv_iload_n hx hb dX6_takesSecondFigure_6 rfl (lv_at hl 1 rfl) ?_
    refine lv_bipush (v := 57) hx hb dX6_takesSecondFigure_7 (by decide) ?_
    refine lv_icmp_gt (tgt := 20) hx hb dX6_takesSecondFigure_9 (by decide) (fun c2 => ?_) (fun c2 => ?_)
    · replace h := (if_pos c2).symm.trans h
      refine lv_iconst (v := 0) hx hb dX6_takesSecondFigure_20 (by decide) ?_
      have he := Option.some.inj h
      exact W.zret (v := 0) hx hb hr rfl (fun t ht hW => ⟨⟨0, wX k a xLen xHits xUns xItems xLost xKind xSize xLet xRel xLim xOpen xMeas xSL xST xSD xSK xTal xKn xFT xFA xFE xOdds xPat xFind, rfl, ⟨(congrArg (fun z => z.1) he), (congrArg (fun z => wX k a xLen xHits xUns xItems xLost xKind xSize xLet xRel z.2.1 xOpen xMeas xSL xST z.2.2 xSK xTal xKn xFT xFA xFE xOdds xPat xFind) he)⟩, by rw [ht]; exact hP, va_K.moved hW.alike hK, hD⟩, hS.F ht⟩) hS.2.2 dX6_takesSecondFigure_21
    · replace h := (if_neg c2).symm.trans h
      refine lv_aload_n hx hb dX6_takesSecondFigure_12 rfl (lv_at hl 0 rfl) ?_
      refine va_get (D := D) (ci := 2) (v := .int xST) (C := RX6) (T := TX6) (N := 9) hx hb hts hi6 hown hK hP (3) (rfl) rfl 6 (by decide) kf35 (fun _ h9 => h9) rfl dX6_takesSecondFigure_13 ?_
      refine lv_iconst (v := 1) hx hb dX6_takesSecondFigure_16 (by decide) ?_
      refine lv_icmp_ge (tgt := 22) hx hb dX6_takesSecondFigure_17 (by decide) (fun c3 => ?_) (fun c3 => ?_)
      · replace h := (if_pos c3).symm.trans h
        refine lv_aload_n hx hb dX6_takesSecondFigure_22 rfl (lv_at hl 0 rfl) ?_
        refine va_get (D := D) (ci := 2) (v := .ref (a 6)) (C := RX6) (T := TX6) (N := 9) hx hb hts hi6 hown hK hP (3) (rfl) rfl 2 (by decide) kf18 (fun _ h9 => h9) rfl dX6_takesSecondFigure_23 ?_
        refine lv_aload_n hx hb dX6_takesSecondFigure_26 rfl (lv_at hl 0 rfl) ?_
        refine va_get (D := D) (ci := 2) (v := .int xST) (C := RX6) (T := TX6) (N := 9) hx hb hts hi6 hown hK hP (3) (rfl) rfl 6 (by decide) kf35 (fun _ h9 => h9) rfl dX6_takesSecondFigure_27 ?_
        refine lv_iconst (v := 1) hx hb dX6_takesSecondFigure_30 (by decide) ?_
        refine lv_isub hx hb dX6_takesSecondFigure_31 ?_
        refine lv_bipush (v := 10) hx hb dX6_takesSecondFigure_32 (by decide) ?_
        refine lv_aload_n hx hb dX6_takesSecondFigure_34 rfl (lv_at hl 0 rfl) ?_
        refine va_get (D := D) (ci := 2) (v := .ref (a 6)) (C := RX6) (T := TX6) (N := 9) hx hb hts hi6 hown hK hP (3) (rfl) rfl 2 (by decide) kf18 (fun _ h9 => h9) rfl dX6_takesSecondFigure_35 ?_
        refine lv_aload_n hx hb dX6_takesSecondFigure_38 rfl (lv_at hl 0 rfl) ?_
        refine va_get (D := D) (ci := 2) (v := .int xST) (C := RX6) (T := TX6) (N := 9) hx hb hts hi6 hown hK hP (3) (rfl) rfl 6 (by decide) kf35 (fun _ h9 => h9) rfl dX6_takesSecondFigure_39 ?_
        refine lv_iconst (v := 1) hx hb dX6_takesSecondFigure_42 (by decide) ?_
        refine lv_isub hx hb dX6_takesSecondFigure_43 ?_
        obtain ⟨g4, h⟩ := gIn_some h
        refine va_iald hx hb hK hP (6) 0 (rfl) rfl g4 dX6_takesSecondFigure_44 ?_
        refine lv_imul hx hb dX6_takesSecondFigure_45 ?_
        refine lv_iload_n hx hb dX6_takesSecondFigure_46 rfl (lv_at hl 1 rfl) ?_
        refine lv_iadd hx hb dX6_takesSecondFigure_47 ?_
        refine lv_bipush (v := 48) hx hb dX6_takesSecondFigure_48 (by decide) ?_
        refine lv_isub hx hb dX6_takesSecondFigure_50 ?_
        refine va_iast hx hb hK hP hD hS (6) 0 (rfl) rfl g4 dX6_takesSecondFigure_51 (fun H locs hP hD hS => ?_)
        have hP : va_P D vwCl (wX k a xLen xHits xUns xItems xLost xKind xSize xLet xRel (upd xLim (xST - 1).toNatClampNeg ((((10 : Int32) * (xLim (xST - 1).toNatClampNeg)) + x1) - 48)) xOpen xMeas xSL xST xSD xSK xTal xKn xFT xFA xFE xOdds xPat xFind) H := hP
        have hD : va_D A (wX k a xLen xHits xUns xItems xLost xKind xSize xLet xRel (upd xLim (xST - 1).toNatClampNeg ((((10 : Int32) * (xLim (xST - 1).toNatClampNeg)) + x1) - 48)) xOpen xMeas xSL xST xSD xSK xTal xKn xFT xFA xFE xOdds xPat xFind) := hD
        refine lv_aload_n hx hb dX6_takesSecondFigure_52 rfl (lv_at hl 0 rfl) ?_
        refine lv_iconst (v := 4) hx hb dX6_takesSecondFigure_53 (by decide) ?_
        refine va_put (D := D) (ci := 2) (v := .int 4) (ty := .int) (C := RX6) (T := TX6) (N := 9) hx hb hts hi6 tyX6 tyX6_ok nmX6 hown hK hP hD hS (3) (rfl) rfl 7 (by decide) kf38 (fun _ h9 => h9) rfl (tyX6_ok 7 (by decide)) rfl rfl (Nat.le_of_ble_eq_true rfl) dX6_takesSecondFigure_54 (fun H locs hP hD hS => ?_)
        have hP : va_P D vwCl (wX k a xLen xHits xUns xItems xLost xKind xSize xLet xRel (upd xLim (xST - 1).toNatClampNeg ((((10 : Int32) * (xLim (xST - 1).toNatClampNeg)) + x1) - 48)) xOpen xMeas xSL xST 4 xSK xTal xKn xFT xFA xFE xOdds xPat xFind) H := hP
        have hD : va_D A (wX k a xLen xHits xUns xItems xLost xKind xSize xLet xRel (upd xLim (xST - 1).toNatClampNeg ((((10 : Int32) * (xLim (xST - 1).toNatClampNeg)) + x1) - 48)) xOpen xMeas xSL xST 4 xSK xTal xKn xFT xFA xFE xOdds xPat xFind) := hD
        refine lv_iconst (v := 1) hx hb dX6_takesSecondFigure_57 (by decide) ?_
        have he := Option.some.inj h
        exact W.zret (v := 1) hx hb hr rfl (fun t ht hW => ⟨⟨1, wX k a xLen xHits xUns xItems xLost xKind xSize xLet xRel (upd xLim (xST - 1).toNatClampNeg ((((10 : Int32) * (xLim (xST - 1).toNatClampNeg)) + x1) - 48)) xOpen xMeas xSL xST 4 xSK xTal xKn xFT xFA xFE xOdds xPat xFind, rfl, ⟨(congrArg (fun z => z.1) he), (congrArg (fun z => wX k a xLen xHits xUns xItems xLost xKind xSize xLet xRel z.2.1 xOpen xMeas xSL xST z.2.2 xSK xTal xKn xFT xFA xFE xOdds xPat xFind) he)⟩, by rw [ht]; exact hP, va_K.moved hW.alike hK, hD⟩, hS.F ht⟩) hS.2.2 dX6_takesSecondFigure_58
      · replace h := (if_neg c3).symm.trans h
        refine lv_iconst (v := 0) hx hb dX6_takesSecondFigure_20 (by decide) ?_
        have he := Option.some.inj h
        exact W.zret (v := 0) hx hb hr rfl (fun t ht hW => ⟨⟨0, wX k a xLen xHits xUns xItems xLost xKind xSize xLet xRel xLim xOpen xMeas xSL xST xSD xSK xTal xKn xFT xFA xFE xOdds xPat xFind, rfl, ⟨(congrArg (fun z => z.1) he), (congrArg (fun z => wX k a xLen xHits xUns xItems xLost xKind xSize xLet xRel z.2.1 xOpen xMeas xSL xST z.2.2 xSK xTal xKn xFT xFA xFE xOdds xPat xFind) he)⟩, by rw [ht]; exact hP, va_K.moved hW.alike hK, hD⟩, hS.F ht⟩) hS.2.2 dX6_takesSecondFigure_21
set_option maxHeartbeats 4000000 in
set_option maxRecDepth 100000 in
theorem c_X6_takesSecondFigure (l : Launch) (D : va_G) (k : Nat → ClassId) (a : Nat → Nat) (xLen : Nat → Int32) (xHits : Nat → Int32) (xUns : Nat → Int32) (xItems : Nat → Nat → Int32) (xLost : Nat → Int32) (xKind : Nat → Int32) (xSize : Nat → Int32) (xLet : Nat → Int32) (xRel : Nat → Int32) (xLim : Nat → Int32) (xOpen : Nat → Int32) (xMeas : Nat → Int32) (xSL : Int32) (xST : Int32) (xSD : Int32) (xSK : Int32) (xTal : Nat → Nat → Int32) (xKn : Nat → Int32) (xFT : Nat → Int32) (xFA : Int32) (xFE : Int32) (xOdds : Int32) (xPat : Int32) (xFind : Int32) (x1 : Int32) {o : Int32 × (Nat → Int32) × (Int32)} (h : f_X6_takesSecondFigure x1 xLim xST xSD = some o) : mQi l yX6_takesSecondFigure wo_X6_takesSecondFigure 0 D k [.ref (a 3), .int x1] (wX k a xLen xHits xUns xItems xLost xKind xSize xLet xRel xLim xOpen xMeas xSL xST xSD xSK xTal xKn xFT xFA xFE xOdds xPat xFind) o.1 (wX k a xLen xHits xUns xItems xLost xKind xSize xLet xRel o.2.1 xOpen xMeas xSL xST o.2.2 xSK xTal xKn xFT xFA xFE xOdds xPat xFind) := by
  intro sz
  refine Met.ofW (cc := cX6_takesSecondFigure) (maxL := 2) (ret := some .boolean) (by decide) rfl ?_
  intro p e s m args below meth c s₁ B hml hv
  obtain ⟨rfl, hsz, hP, hK, hD0⟩ := hv
  subst hsz
  rw [lg_entry_eq]
  exact core_X6_takesSecondFigure D k a xLen xHits xUns xItems xLost xKind xSize xLet xRel xLim xOpen xMeas xSL xST xSD xSK xTal xKn xFT xFA xFE xOdds xPat xFind x1 B.exec B.bytes hml B.returns (atoms_spec (ws := wo_X6_takesSecondFigure) B.pre) (findClass_of_methodNamed B.named) B.notSynchronized (lv_entry [.ref (a 3), .int x1] (n := 2) (Nat.le_of_ble_eq_true rfl)) hK hP hD0.self (fun q h => Or.inr h) h
theorem qd_X6_takesSecondFigure : yX6_takesSecondFigure.cls = RX6 ∧ yX6_takesSecondFigure.cls ≠ "java/lang/invoke/MethodHandle" ∧ yX6_takesSecondFigure.cls ≠ "java/lang/invoke/VarHandle" ∧ (parseMethodDescriptor yX6_takesSecondFigure.desc).map (fun d => d.parameters.length) = some 1 := by decide +kernel
abbrev wo_X6_takesJoint : List Cond := .code yX6_takesJoint cX6_takesJoint 2 (some .boolean) :: wsL_law
set_option maxHeartbeats 4000000 in
set_option maxRecDepth 100000 in
theorem core_X6_takesJoint (D : va_G) (k : Nat → ClassId) (a : Nat → Nat) (xLen : Nat → Int32) (xHits : Nat → Int32) (xUns : Nat → Int32) (xItems : Nat → Nat → Int32) (xLost : Nat → Int32) (xKind : Nat → Int32) (xSize : Nat → Int32) (xLet : Nat → Int32) (xRel : Nat → Int32) (xLim : Nat → Int32) (xOpen : Nat → Int32) (xMeas : Nat → Int32) (xSL : Int32) (xST : Int32) (xSD : Int32) (xSK : Int32) (xTal : Nat → Nat → Int32) (xKn : Nat → Int32) (xFT : Nat → Int32) (xFA : Int32) (xFE : Int32) (xOdds : Int32) (xPat : Int32) (xFind : Int32) (x1 : Int32) {p : Program} {l : Launch} {e : Env} {s : State} {m : MethodId} {args : Array Value} {below : List Frame} {meth : Method} {c : Code} {ls : Array Slot} (hx : p.tables.exec = Jvm.exec) (hb : c.code = cX6_takesJoint) (hml : c.maxLocals = 2) (hr : meth.sig.returnType = some .boolean) (hts : ∀ w ∈ wo_X6_takesJoint, w.before args s = true) (hown : s.vm.findClass RX6 = some m.cls) (hlocks : meth.locks = false) (hl : lv_has ls 2 [(0, .ref (a 3)), (1, .int x1)]) (hK : va_K D vwCl (xTys k) s) (hP : va_P D vwCl (wX k a xLen xHits xUns xItems xLost xKind xSize xLet xRel xLim xOpen xMeas xSL xST xSD xSK xTal xKn xFT xFA xFE xOdds xPat xFind) s.heap) {A : Nat → Prop} (hD : va_D A (wX k a xLen xHits xUns xItems xLost xKind xSize xLet xRel xLim xOpen xMeas xSL xST xSD xSK xTal xKn xFT xFA xFE xOdds xPat xFind)) (hA : ∀ q : Nat, s.heap.size ≤ q → A q) {o : Int32 × (Nat → Int32) × (Int32)} (h : f_X6_takesJoint x1 xOpen xST xSD = some o) : gQi p l e wo_X6_takesJoint 0 s m args below meth c D k A o.1 (wX k a xLen xHits xUns xItems xLost xKind xSize xLet xRel xLim o.2.1 xMeas xSL xST o.2.2 xSK xTal xKn xFT xFA xFE xOdds xPat xFind) s.heap [] (F0 m 0 ls []) := by
  have hi6 := (fun w h => List.mem_cons_of_mem _ (inlX6 w h) : ∀ w ∈ wsX60, w ∈ wo_X6_takesJoint)
  have kf38 := hts _ (List.mem_cons_of_mem _ wm_277)
  have kf35 := hts _ (List.mem_cons_of_mem _ wm_282)
  have kf21 := hts _ (List.mem_cons_of_mem _ wm_53)
  unfold f_X6_takesJoint at h
  have hS : va_S A s.heap s.heap [] := va_S.rf
  have J42 : ∀ (s1 : Int32) (s2 : Int32) (xOpen : Nat → Int32) (xSD : Int32) (ls : Array Slot) (H : Heap) (locs : List Loc) (hl : lv_has ls 2 [(0, .ref (a 3))]) (hP : va_P D vwCl (wX k a xLen xHits xUns xItems xLost xKind xSize xLet xRel xLim xOpen xMeas xSL xST xSD xSK xTal xKn xFT xFA xFE xOdds xPat xFind) H) (hD : va_D A (wX k a xLen xHits xUns xItems xLost xKind xSize xLet xRel xLim xOpen xMeas xSL xST xSD xSK xTal xKn xFT xFA xFE xOdds xPat xFind)) (hS : va_S A s.heap H locs) (h : f_X6_takesJoint_42 s1 s2 xOpen xST xSD = some o), gQi p l e wo_X6_takesJoint 0 s m args below meth c D k A o.1 (wX k a xLen xHits xUns xItems xLost xKind xSize xLet xRel xLim o.2.1 xMeas xSL xST o.2.2 xSK xTal xKn xFT xFA xFE xOdds xPat xFind) H locs (F0 m 42 ls [.int s2, .int s1, .ref (a 7)]) := by
    intro s1 s2 xOpen xSD ls H locs hl hP hD hS h
    unfold f_X6_takesJoint_42 at h
    obtain ⟨g1, h⟩ := gIn_some h
    refine va_zast hx hb hK hP hD hS (7) 1 (rfl) rfl g1 dX6_takesJoint_42 (fun H locs hP hD hS => ?_)
    have hP : va_P D vwCl (wX k a xLen xHits xUns xItems xLost xKind xSize xLet xRel xLim (upd xOpen s1.toNatClampNeg (vp_nar .boolean s2)) xMeas xSL xST xSD xSK xTal xKn xFT xFA xFE xOdds xPat xFind) H := hP
    have hD : va_D A (wX k a xLen xHits xUns xItems xLost xKind xSize xLet xRel xLim (upd xOpen s1.toNatClampNeg (vp_nar .boolean s2)) xMeas xSL xST xSD xSK xTal xKn xFT xFA xFE xOdds xPat xFind) := hD
    refine lv_aload_n hx hb dX6_takesJoint_43 rfl (lv_at hl 0 rfl) ?_
    refine lv_iconst (v := 0) hx hb dX6_takesJoint_44 (by decide) ?_
    refine va_put (D := D) (ci := 2) (v := .int 0) (ty := .int) (C := RX6) (T := TX6) (N := 9) hx hb hts hi6 tyX6 tyX6_ok nmX6 hown hK hP hD hS (3) (rfl) rfl 7 (by decide) kf38 (fun _ h9 => h9) rfl (tyX6_ok 7 (by decide)) rfl rfl (Nat.le_of_ble_eq_true rfl) dX6_takesJoint_45 (fun H locs hP hD hS => ?_)
    have hP : va_P D vwCl (wX k a xLen xHits xUns xItems xLost xKind xSize xLet xRel xLim (upd xOpen s1.toNatClampNeg (vp_nar .boolean s2)) xMeas xSL xST 0 xSK xTal xKn xFT xFA xFE xOdds xPat xFind) H := hP
    have hD : va_D A (wX k a xLen xHits xUns xItems xLost xKind xSize xLet xRel xLim (upd xOpen s1.toNatClampNeg (vp_nar .boolean s2)) xMeas xSL xST 0 xSK xTal xKn xFT xFA xFE xOdds xPat xFind) := hD
    refine lv_iconst (v := 1) hx hb dX6_takesJoint_48 (by decide) ?_
    have he := Option.some.inj h
    exact W.zret (v := 1) hx hb hr rfl (fun t ht hW => ⟨⟨1, wX k a xLen xHits xUns xItems xLost xKind xSize xLet xRel xLim (upd xOpen s1.toNatClampNeg (vp_nar .boolean s2)) xMeas xSL xST 0 xSK xTal xKn xFT xFA xFE xOdds xPat xFind, rfl, ⟨(congrArg (fun z => z.1) he), (congrArg (fun z => wX k a xLen xHits xUns xItems xLost xKind xSize xLet xRel xLim z.2.1 xMeas xSL xST z.2.2 xSK xTal xKn xFT xFA xFE xOdds xPat xFind) he)⟩, by rw [ht]; exact hP, va_K.moved hW.alike hK, hD⟩, hS.F ht⟩) hS.2.2 dX6_takesJoint_49
  have J12 : ∀ (x1 : Int32) (xOpen : Nat → Int32) (xSD : Int32) (ls : Array Slot) (H : Heap) (locs : List Loc) (hl : lv_has ls 2 [(0, .ref (a 3)), (1, .int x1)]) (hP : va_P D vwCl (wX k a xLen xHits xUns xItems xLost xKind xSize xLet xRel xLim xOpen xMeas xSL xST xSD xSK xTal xKn xFT xFA xFE xOdds xPat xFind) H) (hD : va_D A (wX k a xLen xHits xUns xItems xLost xKind xSize xLet xRel xLim xOpen xMeas xSL xST xSD xSK xTal xKn xFT xFA xFE xOdds xPat xFind)) (hS : va_S A s.heap H locs) (h : f_X6_takesJoint_12 x1 xOpen xST xSD = some o), gQi p l e wo_X6_takesJoint 0 s m args below meth c D k A o.1 (wX k a xLen xHits xUns xItems xLost xKind xSize xLet xRel xLim o.2.1 xMeas xSL xST o.2.2 xSK xTal xKn xFT xFA xFE xOdds xPat xFind) H locs (F0 m 12 ls []) := by
    intro x1 xOpen xSD ls H locs hl hP hD hS h
    unfold f_X6_takesJoint_12 at h
    refine lv_aload_n hx hb dX6_takesJoint_12 rfl (lv_at hl 0 rfl) ?_
    refine va_get (D := D) (ci := 2) (v := .int xST) (C := RX6) (T := TX6) (N := 9) hx hb hts hi6 hown hK hP (3) (rfl) rfl 6 (by decide) kf35 (fun _ h9 => h9) rfl dX6_takesJoint_13 ?_
    refine lv_bipush (v := 16) hx hb dX6_takesJoint_16 (by decide) ?_
    refine lv_icmp_lt (tgt := 23) hx hb dX6_takesJoint_18 (by decide) (fun c2 => ?_) (fun c2 => ?_)
    · replace h := (if_pos c2).symm.trans h
      refine lv_aload_n hx hb dX6_takesJoint_23 rfl (lv_at hl 0 rfl) ?_
      refine va_get (D := D) (ci := 2) (v := .ref (a 7)) (C := RX6) (T := TX6) (N := 9) hx hb hts hi6 hown hK hP (3) (rfl) rfl 3 (by decide) kf21 (fun _ h9 => h9) rfl dX6_takesJoint_24 ?_
      refine lv_aload_n hx hb dX6_takesJoint_27 rfl (lv_at hl 0 rfl) ?_
      refine va_get (D := D) (ci := 2) (v := .int xST) (C := RX6) (T := TX6) (N := 9) hx hb hts hi6 hown hK hP (3) (rfl) rfl 6 (by decide) kf35 (fun _ h9 => h9) rfl dX6_takesJoint_28 ?_
      refine lv_iload_n hx hb dX6_takesJoint_31 rfl (lv_at hl 1 rfl) ?_
      refine lv_bipush (v := 124) hx hb dX6_takesJoint_32 (by decide) ?_
      refine lv_icmp_ne (tgt := 41) hx hb dX6_takesJoint_34 (by decide) (fun c3 => ?_) (fun c3 => ?_)
      · replace h := (if_neg c3).symm.trans h
        refine lv_iconst (v := 0) hx hb dX6_takesJoint_41 (by decide) ?_
        exact J42 xST 0 xOpen xSD ls H locs (lv_sub hl [0] rfl) hP hD hS h
      · replace h := (if_pos c3).symm.trans h
        refine lv_iconst (v := 1) hx hb dX6_takesJoint_37 (by decide) ?_
        refine lv_goto (tgt := 42) hx hb dX6_takesJoint_38 (by decide) ?_
        exact J42 xST 1 xOpen xSD ls H locs (lv_sub hl [0] rfl) hP hD hS h
    · replace h := (if_neg c2).symm.trans h
      refine lv_iconst (v := 0) hx hb dX6_takesJoint_21 (by decide) ?_
      have he := Option.some.inj h
      exact W.zret (v := 0) hx hb hr rfl (fun t ht hW => ⟨⟨0, wX k a xLen xHits xUns xItems xLost xKind xSize xLet xRel xLim xOpen xMeas xSL xST xSD xSK xTal xKn xFT xFA xFE xOdds xPat xFind, rfl, ⟨(congrArg (fun z => z.1) he), (congrArg (fun z => wX k a xLen xHits xUns xItems xLost xKind xSize xLet xRel xLim z.2.1 xMeas xSL xST z.2.2 xSK xTal xKn xFT xFA xFE xOdds xPat xFind) he)⟩, by rw [ht]; exact hP, va_K.moved hW.alike hK, hD⟩, hS.F ht⟩) hS.2.2 dX6_takesJoint_22
  obtain ⟨H, hH⟩ : ∃ H : Heap, H = s.heap := ⟨_, rfl⟩
  obtain ⟨locs, hlc⟩ : ∃ locs : List Loc, locs = [] := ⟨_, rfl⟩
  have hS : va_S A s.heap H locs := by rw [hH, hlc]; exact va_S.rf
  have hP : va_P D vwCl (wX k a xLen xHits xUns xItems xLost xKind xSize xLet xRel xLim xOpen xMeas xSL xST xSD xSK xTal xKn xFT xFA xFE xOdds xPat xFind) H := by rw [hH]; exact hP
  suffices hGo : gQi p l e wo_X6_takesJoint 0 s m args below meth c D k A o.1 (wX k a xLen xHits xUns xItems xLost xKind xSize xLet xRel xLim o.2.1 xMeas xSL xST o.2.2 xSK xTal xKn xFT xFA xFE xOdds xPat xFind) H locs (F0 m 0 ls []) by rw [hH, hlc] at hGo; exact hGo
  refine lv_iload_n hx hb dX6_takesJoint_0 rfl (lv_at hl 1 rfl) ?_
  refine lv_bipush (v := 43) hx hb dX6_takesJoint_1 (by decide) ?_
  refine lv_icmp_eq (tgt := 12) hx hb dX6_takesJoint_3 (by decide) (fun c4 => ?_) (fun c4 => ?_)
  · replace h := (if_pos c4).symm.trans h
    exact J12 x1 xOpen xSD ls H locs (lv_sub hl [0, 1] rfl) hP hD hS h
  · replace h := (if_neg c4).symm.trans h
    refine lv_iload_n hx hb dX6_takesJoint_6 rfl (lv_at hl 1 rfl) ?_
    refine lv_bipush (v := 124) hx hb dX6_takesJoint_7 (by decide) ?_
    refine lv_icmp_ne (tgt := 21) hx hb dX6_takesJoint_9 (by decide) (fun c5 => ?_) (fun c5 => ?_)
    · replace h := (if_neg c5).symm.trans h
      refine lv_iconst (v := 0) hx hb dX6_takesJoint_21 (by decide) ?_
      have he := Option.some.inj h
      exact W.zret (v := 0) hx hb hr rfl (fun t ht hW => ⟨⟨0, wX k a xLen xHits xUns xItems xLost xKind xSize xLet xRel xLim xOpen xMeas xSL xST xSD xSK xTal xKn xFT xFA xFE xOdds xPat xFind, rfl, ⟨(congrArg (fun z => z.1) he), (congrArg (fun z => wX k a xLen xHits xUns xItems xLost xKind xSize xLet xRel xLim z.2.1 xMeas xSL xST z.2.2 xSK xTal xKn xFT xFA xFE xOdds xPat xFind) he)⟩, by rw [ht]; exact hP, va_K.moved hW.alike hK, hD⟩, hS.F ht⟩) hS.2.2 dX6_takesJoint_22
    · replace h := (if_pos c5).symm.trans h
      exact J12 x1 xOpen xSD ls H locs (lv_sub hl [0, 1] rfl) hP hD hS h
set_option maxHeartbeats 4000000 in
set_option maxRecDepth 100000 in
theorem c_X6_takesJoint (l : Launch) (D : va_G) (k : Nat → ClassId) (a : Nat → Nat) (xLen : Nat → Int32) (xHits : Nat → Int32) (xUns : Nat → Int32) (xItems : Nat → Nat → Int32) (xLost : Nat → Int32) (xKind : Nat → Int32) (xSize : Nat → Int32) (xLet : Nat → Int32) (xRel : Nat → Int32) (xLim : Nat → Int32) (xOpen : Nat → Int32) (xMeas : Nat → Int32) (xSL : Int32) (xST : Int32) (xSD : Int32) (xSK : Int32) (xTal : Nat → Nat → Int32) (xKn : Nat → Int32) (xFT : Nat → Int32) (xFA : Int32) (xFE : Int32) (xOdds : Int32) (xPat : Int32) (xFind : Int32) (x1 : Int32) {o : Int32 × (Nat → Int32) × (Int32)} (h : f_X6_takesJoint x1 xOpen xST xSD = some o) : mQi l yX6_takesJoint wo_X6_takesJoint 0 D k [.ref (a 3), .int x1] (wX k a xLen xHits xUns xItems xLost xKind xSize xLet xRel xLim xOpen xMeas xSL xST xSD xSK xTal xKn xFT xFA xFE xOdds xPat xFind) o.1 (wX k a xLen xHits xUns xItems xLost xKind xSize xLet xRel xLim o.2.1 xMeas xSL xST o.2.2 xSK xTal xKn xFT xFA xFE xOdds xPat xFind) := by
  intro sz
  refine Met.ofW (cc := cX6_takesJoint) (maxL := 2) (ret := some .boolean) (by decide) rfl ?_
  intro p e s m args below meth c s₁ B hml hv
  obtain ⟨rfl, hsz, hP, hK, hD0⟩ := hv
  subst hsz
  rw [lg_entry_eq]
  exact core_X6_takesJoint D k a xLen xHits xUns xItems xLost xKind xSize xLet xRel xLim xOpen xMeas xSL xST xSD xSK xTal xKn xFT xFA xFE xOdds xPat xFind x1 B.exec B.bytes hml B.returns (atoms_spec (ws := wo_X6_takesJoint) B.pre) (findClass_of_methodNamed B.named) B.notSynchronized (lv_entry [.ref (a 3), .int x1] (n := 2) (Nat.le_of_ble_eq_true rfl)) hK hP hD0.self (fun q h => Or.inr h) h
theorem qd_X6_takesJoint : yX6_takesJoint.cls = RX6 ∧ yX6_takesJoint.cls ≠ "java/lang/invoke/MethodHandle" ∧ yX6_takesJoint.cls ≠ "java/lang/invoke/VarHandle" ∧ (parseMethodDescriptor yX6_takesJoint.desc).map (fun d => d.parameters.length) = some 1 := by decide +kernel
