abbrev wo_X6_faultPlace : List Cond := .code yX6_faultPlace cX6_faultPlace 1 (some .int) :: wsL_law
set_option maxHeartbeats 4000000 in
set_option maxRecDepth 100000 in
theorem core_X6_faultPlace (D : va_G) (k : Nat → ClassId) (a : Nat → Nat) (xLen : Nat → Int32) (xHits : Nat → Int32) (xUns : Nat → Int32) (xItems : Nat → Nat → Int32) (xLost : Nat → Int32) (xKind : Nat → Int32) (xSize : Nat → Int32) (xLet : Nat → Int32) (xRel : Nat → Int32) (xLim : Nat → Int32) (xOpen : Nat → Int32) (xMeas : Nat → Int32) (xSL : Int32) (xST : Int32) (xSD : Int32) (xSK : Int32) (xTal : Nat → Nat → Int32) (xKn : Nat → Int32) (xFT : Nat → Int32) (xFA : Int32) (xFE : Int32) (xOdds : Int32) (xPat : Int32) (xFind : Int32)  {p : Program} {l : Launch} {e : Env} {s : State} {m : MethodId} {args : Array Value} {below : List Frame} {meth : Method} {c : Code} {ls : Array Slot} (hx : p.tables.exec = Jvm.exec) (hb : c.code = cX6_faultPlace) (hml : c.maxLocals = 1) (hr : meth.sig.returnType = some .int) (hts : ∀ w ∈ wo_X6_faultPlace, w.before args s = true) (hown : s.vm.findClass RX6 = some m.cls) (hlocks : meth.locks = false) (hl : lv_has ls 1 [(0, .ref (a 3))]) (hK : va_K D vwCl (xTys k) s) (hP : va_P D vwCl (wX k a xLen xHits xUns xItems xLost xKind xSize xLet xRel xLim xOpen xMeas xSL xST xSD xSK xTal xKn xFT xFA xFE xOdds xPat xFind) s.heap) {o : Int32} (h : f_X6_faultPlace xSL xSD xSK = some o) : gRi p l e wo_X6_faultPlace 0 s m args below meth c o (F0 m 0 ls []) := by
  have hi6 := (fun w h => List.mem_cons_of_mem _ (inlX6 w h) : ∀ w ∈ wsX60, w ∈ wo_X6_faultPlace)
  have kf28 := hts _ (List.mem_cons_of_mem _ wm_55)
  have kf38 := hts _ (List.mem_cons_of_mem _ wm_277)
  have kf32 := hts _ (List.mem_cons_of_mem _ wm_272)
  unfold f_X6_faultPlace at h
  have J29 : ∀ (ls : Array Slot) (hl : lv_has ls 1 []) (h : f_X6_faultPlace_29 xSL xSD xSK = some o), gRi p l e wo_X6_faultPlace 0 s m args below meth c o (F0 m 29 ls []) := by
    intro ls hl h
    unfold f_X6_faultPlace_29 at h
    refine lv_iconst (v := (-1)) hx hb dX6_faultPlace_29 (by decide) ?_
    refine lv_goto (tgt := 37) hx hb dX6_faultPlace_30 (by decide) ?_
    exact W.iret (v := (-1)) hx hb hr (fun t ht hW => ⟨_, rfl, Option.some.inj h, ht⟩) (fun q hq => by cases hq) dX6_faultPlace_37
  refine lv_aload_n hx hb dX6_faultPlace_0 rfl (lv_at hl 0 rfl) ?_
  refine va_get (D := D) (ci := 2) (v := .int xSK) (C := RX6) (T := TX6) (N := 9) hx hb hts hi6 hown hK hP (3) (rfl) rfl 8 (by decide) kf28 (fun _ h9 => h9) rfl dX6_faultPlace_1 ?_
  refine lv_iconst (v := (-1)) hx hb dX6_faultPlace_4 (by decide) ?_
  refine lv_icmp_eq (tgt := 13) hx hb dX6_faultPlace_5 (by decide) (fun c1 => ?_) (fun c1 => ?_)
  · replace h := (if_pos c1).symm.trans h
    refine lv_aload_n hx hb dX6_faultPlace_13 rfl (lv_at hl 0 rfl) ?_
    refine va_get (D := D) (ci := 2) (v := .int xSD) (C := RX6) (T := TX6) (N := 9) hx hb hts hi6 hown hK hP (3) (rfl) rfl 7 (by decide) kf38 (fun _ h9 => h9) rfl dX6_faultPlace_14 ?_
    refine lv_iconst (v := 3) hx hb dX6_faultPlace_17 (by decide) ?_
    refine lv_icmp_eq (tgt := 29) hx hb dX6_faultPlace_18 (by decide) (fun c2 => ?_) (fun c2 => ?_)
    · replace h := (if_pos c2).symm.trans h
      exact J29 ls (lv_sub hl [] rfl) h
    · replace h := (if_neg c2).symm.trans h
      refine lv_aload_n hx hb dX6_faultPlace_21 rfl (lv_at hl 0 rfl) ?_
      refine va_get (D := D) (ci := 2) (v := .int xSD) (C := RX6) (T := TX6) (N := 9) hx hb hts hi6 hown hK hP (3) (rfl) rfl 7 (by decide) kf38 (fun _ h9 => h9) rfl dX6_faultPlace_22 ?_
      refine lv_iconst (v := 4) hx hb dX6_faultPlace_25 (by decide) ?_
      refine lv_icmp_ne (tgt := 33) hx hb dX6_faultPlace_26 (by decide) (fun c3 => ?_) (fun c3 => ?_)
      · replace h := (if_neg c3).symm.trans h
        refine lv_aload_n hx hb dX6_faultPlace_33 rfl (lv_at hl 0 rfl) ?_
        refine va_get (D := D) (ci := 2) (v := .int xSL) (C := RX6) (T := TX6) (N := 9) hx hb hts hi6 hown hK hP (3) (rfl) rfl 5 (by decide) kf32 (fun _ h9 => h9) rfl dX6_faultPlace_34 ?_
        exact W.iret (v := xSL) hx hb hr (fun t ht hW => ⟨_, rfl, Option.some.inj h, ht⟩) (fun q hq => by cases hq) dX6_faultPlace_37
      · replace h := (if_pos c3).symm.trans h
        exact J29 ls (lv_sub hl [] rfl) h
  · replace h := (if_neg c1).symm.trans h
    refine lv_aload_n hx hb dX6_faultPlace_8 rfl (lv_at hl 0 rfl) ?_
    refine va_get (D := D) (ci := 2) (v := .int xSK) (C := RX6) (T := TX6) (N := 9) hx hb hts hi6 hown hK hP (3) (rfl) rfl 8 (by decide) kf28 (fun _ h9 => h9) rfl dX6_faultPlace_9 ?_
    exact W.iret (v := xSK) hx hb hr (fun t ht hW => ⟨_, rfl, Option.some.inj h, ht⟩) (fun q hq => by cases hq) dX6_faultPlace_12
set_option maxHeartbeats 4000000 in
set_option maxRecDepth 100000 in
theorem c_X6_faultPlace (l : Launch) (D : va_G) (k : Nat → ClassId) (a : Nat → Nat) (xLen : Nat → Int32) (xHits : Nat → Int32) (xUns : Nat → Int32) (xItems : Nat → Nat → Int32) (xLost : Nat → Int32) (xKind : Nat → Int32) (xSize : Nat → Int32) (xLet : Nat → Int32) (xRel : Nat → Int32) (xLim : Nat → Int32) (xOpen : Nat → Int32) (xMeas : Nat → Int32) (xSL : Int32) (xST : Int32) (xSD : Int32) (xSK : Int32) (xTal : Nat → Nat → Int32) (xKn : Nat → Int32) (xFT : Nat → Int32) (xFA : Int32) (xFE : Int32) (xOdds : Int32) (xPat : Int32) (xFind : Int32)  {o : Int32} (h : f_X6_faultPlace xSL xSD xSK = some o) : mRi l yX6_faultPlace wo_X6_faultPlace 0 D k [.ref (a 3)] (wX k a xLen xHits xUns xItems xLost xKind xSize xLet xRel xLim xOpen xMeas xSL xST xSD xSK xTal xKn xFT xFA xFE xOdds xPat xFind) o := by
  refine Met.ofW (cc := cX6_faultPlace) (maxL := 1) (ret := some .int) (by decide) rfl ?_
  intro p e s m args below meth c s₁ B hml hv
  obtain ⟨rfl, hP, hK⟩ := hv
  rw [lg_entry_eq]
  exact core_X6_faultPlace D k a xLen xHits xUns xItems xLost xKind xSize xLet xRel xLim xOpen xMeas xSL xST xSD xSK xTal xKn xFT xFA xFE xOdds xPat xFind  B.exec B.bytes hml B.returns (atoms_spec (ws := wo_X6_faultPlace) B.pre) (findClass_of_methodNamed B.named) B.notSynchronized (lv_entry [.ref (a 3)] (n := 1) (Nat.le_of_ble_eq_true rfl)) hK hP h
theorem qd_X6_faultPlace : yX6_faultPlace.cls = RX6 ∧ yX6_faultPlace.cls ≠ "java/lang/invoke/MethodHandle" ∧ yX6_faultPlace.cls ≠ "java/lang/invoke/VarHandle" ∧ (parseMethodDescriptor yX6_faultPlace.desc).map (fun d => d.parameters.length) = some 0 := by decide +kernel
abbrev wo_X6_isFaulty : List Cond := .code yX6_isFaulty cX6_isFaulty 1 (some .boolean) :: wsL_law
set_option maxHeartbeats 4000000 in
set_option maxRecDepth 100000 in
theorem core_X6_isFaulty (D : va_G) (k : Nat → ClassId) (a : Nat → Nat) (xLen : Nat → Int32) (xHits : Nat → Int32) (xUns : Nat → Int32) (xItems : Nat → Nat → Int32) (xLost : Nat → Int32) (xKind : Nat → Int32) (xSize : Nat → Int32) (xLet : Nat → Int32) (xRel : Nat → Int32) (xLim : Nat → Int32) (xOpen : Nat → Int32) (xMeas : Nat → Int32) (xSL : Int32) (xST : Int32) (xSD : Int32) (xSK : Int32) (xTal : Nat → Nat → Int32) (xKn : Nat → Int32) (xFT : Nat → Int32) (xFA : Int32) (xFE : Int32) (xOdds : Int32) (xPat : Int32) (xFind : Int32)  {p : Program} {l : Launch} {e : Env} {s : State} {m : MethodId} {args : Array Value} {below : List Frame} {meth : Method} {c : Code} {ls : Array Slot} (hx : p.tables.exec = Jvm.exec) (hb : c.code = cX6_isFaulty) (hml : c.maxLocals = 1) (hr : meth.sig.returnType = some .boolean) (hts : ∀ w ∈ wo_X6_isFaulty, w.before args s = true) (hown : s.vm.findClass RX6 = some m.cls) (hlocks : meth.locks = false) (hl : lv_has ls 1 [(0, .ref (a 3))]) (hK : va_K D vwCl (xTys k) s) (hP : va_P D vwCl (wX k a xLen xHits xUns xItems xLost xKind xSize xLet xRel xLim xOpen xMeas xSL xST xSD xSK xTal xKn xFT xFA xFE xOdds xPat xFind) s.heap) {o : Int32} (h : f_X6_isFaulty xSL xSD xSK = some o) : gRi p l e wo_X6_isFaulty 1 s m args below meth c o (F0 m 0 ls []) := by
  unfold f_X6_isFaulty at h
  refine lv_aload_n hx hb dX6_isFaulty_0 rfl (lv_at hl 0 rfl) ?_
  obtain ⟨o1, eq2, h⟩ := bnd_some h
  refine kRiV (rest := []) (q0 := 3) ⟨hx, hb, hml, hown, hts⟩ (c_X6_faultPlace l D k a xLen xHits xUns xItems xLost xKind xSize xLet xRel xLim xOpen xMeas xSL xST xSD xSK xTal xKn xFT xFA xFE xOdds xPat xFind  eq2) (cwV 0 hts (gAV wm_441 wm_408 wm_409 wm_22 wm_410) rfl rfl rfl qd_X6_faultPlace ⟨Nat.le_of_ble_eq_true rfl, Nat.le_of_ble_eq_true rfl⟩) hK hP (rfl) rfl rfl hl.1 rfl (Nat.le_of_ble_eq_true rfl) dX6_isFaulty_1 ⟨Nat.zero_le _, Nat.zero_le _⟩ ?_
  refine lv_iconst (v := (-1)) hx hb dX6_isFaulty_4 (by decide) ?_
  refine lv_icmp_eq (tgt := 12) hx hb dX6_isFaulty_5 (by decide) (fun c3 => ?_) (fun c3 => ?_)
  · replace h := (if_pos c3).symm.trans h
    refine lv_iconst (v := 0) hx hb dX6_isFaulty_12 (by decide) ?_
    exact W.zret (v := 0) hx hb hr rfl (fun t ht hW => ⟨_, rfl, Option.some.inj h, ht⟩) (fun q hq => by cases hq) dX6_isFaulty_13
  · replace h := (if_neg c3).symm.trans h
    refine lv_iconst (v := 1) hx hb dX6_isFaulty_8 (by decide) ?_
    refine lv_goto (tgt := 13) hx hb dX6_isFaulty_9 (by decide) ?_
    exact W.zret (v := 1) hx hb hr rfl (fun t ht hW => ⟨_, rfl, Option.some.inj h, ht⟩) (fun q hq => by cases hq) dX6_isFaulty_13
set_option maxHeartbeats 4000000 in
set_option maxRecDepth 100000 in
theorem c_X6_isFaulty (l : Launch) (D : va_G) (k : Nat → ClassId) (a : Nat → Nat) (xLen : Nat → Int32) (xHits : Nat → Int32) (xUns : Nat → Int32) (xItems : Nat → Nat → Int32) (xLost : Nat → Int32) (xKind : Nat → Int32) (xSize : Nat → Int32) (xLet : Nat → Int32) (xRel : Nat → Int32) (xLim : Nat → Int32) (xOpen : Nat → Int32) (xMeas : Nat → Int32) (xSL : Int32) (xST : Int32) (xSD : Int32) (xSK : Int32) (xTal : Nat → Nat → Int32) (xKn : Nat → Int32) (xFT : Nat → Int32) (xFA : Int32) (xFE : Int32) (xOdds : Int32) (xPat : Int32) (xFind : Int32)  {o : Int32} (h : f_X6_isFaulty xSL xSD xSK = some o) : mRi l yX6_isFaulty wo_X6_isFaulty 1 D k [.ref (a 3)] (wX k a xLen xHits xUns xItems xLost xKind xSize xLet xRel xLim xOpen xMeas xSL xST xSD xSK xTal xKn xFT xFA xFE xOdds xPat xFind) o := by
  refine Met.ofW (cc := cX6_isFaulty) (maxL := 1) (ret := some .boolean) (by decide) rfl ?_
  intro p e s m args below meth c s₁ B hml hv
  obtain ⟨rfl, hP, hK⟩ := hv
  rw [lg_entry_eq]
  exact core_X6_isFaulty D k a xLen xHits xUns xItems xLost xKind xSize xLet xRel xLim xOpen xMeas xSL xST xSD xSK xTal xKn xFT xFA xFE xOdds xPat xFind  B.exec B.bytes hml B.returns (atoms_spec (ws := wo_X6_isFaulty) B.pre) (findClass_of_methodNamed B.named) B.notSynchronized (lv_entry [.ref (a 3)] (n := 1) (Nat.le_of_ble_eq_true rfl)) hK hP h
theorem qd_X6_isFaulty : yX6_isFaulty.cls = RX6 ∧ yX6_isFaulty.cls ≠ "java/lang/invoke/MethodHandle" ∧ yX6_isFaulty.cls ≠ "java/lang/invoke/VarHandle" ∧ (parseMethodDescriptor yX6_isFaulty.desc).map (fun d => d.parameters.length) = some 0 := by decide +kernel
abbrev wo_X6_takesRelation : List Cond := .code yX6_takesRelation cX6_takesRelation 2 (some .boolean) :: wsL_law
set_option maxHeartbeats 4000000 in
set_option maxRecDepth 100000 in
theorem core_X6_takesRelation (D : va_G) (k : Nat → ClassId) (a : Nat → Nat) (xLen : Nat → Int32) (xHits : Nat → Int32) (xUns : Nat → Int32) (xItems : Nat → Nat → Int32) (xLost : Nat → Int32) (xKind : Nat → Int32) (xSize : Nat → Int32) (xLet : Nat → Int32) (xRel : Nat → Int32) (xLim : Nat → Int32) (xOpen : Nat → Int32) (xMeas : Nat → Int32) (xSL : Int32) (xST : Int32) (xSD : Int32) (xSK : Int32) (xTal : Nat → Nat → Int32) (xKn : Nat → Int32) (xFT : Nat → Int32) (xFA : Int32) (xFE : Int32) (xOdds : Int32) (xPat : Int32) (xFind : Int32) (x1 : Int32) {p : Program} {l : Launch} {e : Env} {s : State} {m : MethodId} {args : Array Value} {below : List Frame} {meth : Method} {c : Code} {ls : Array Slot} (hx : p.tables.exec = Jvm.exec) (hb : c.code = cX6_takesRelation) (hml : c.maxLocals = 2) (hr : meth.sig.returnType = some .boolean) (hts : ∀ w ∈ wo_X6_takesRelation, w.before args s = true) (hown : s.vm.findClass RX6 = some m.cls) (hlocks : meth.locks = false) (hl : lv_has ls 2 [(0, .ref (a 3)), (1, .int x1)]) (hK : va_K D vwCl (xTys k) s) (hP : va_P D vwCl (wX k a xLen xHits xUns xItems xLost xKind xSize xLet xRel xLim xOpen xMeas xSL xST xSD xSK xTal xKn xFT xFA xFE xOdds xPat xFind) s.heap) {A : Nat → Prop} (hD : va_D A (wX k a xLen xHits xUns xItems xLost xKind xSize xLet xRel xLim xOpen xMeas xSL xST xSD xSK xTal xKn xFT xFA xFE xOdds xPat xFind)) (hA : ∀ q : Nat, s.heap.size ≤ q → A q) {o : Int32 × (Nat → Int32) × (Int32)} (h : f_X6_takesRelation x1 xRel xST xSD = some o) : gQi p l e wo_X6_takesRelation 0 s m args below meth c D k A o.1 (wX k a xLen xHits xUns xItems xLost xKind xSize xLet o.2.1 xLim xOpen xMeas xSL xST o.2.2 xSK xTal xKn xFT xFA xFE xOdds xPat xFind) s.heap [] (F0 m 0 ls []) := by
  have hi6 := (fun w h => List.mem_cons_of_mem _ (inlX6 w h) : ∀ w ∈ wsX60, w ∈ wo_X6_takesRelation)
  have kf35 := hts _ (List.mem_cons_of_mem _ wm_282)
  have kf15 := hts _ (List.mem_cons_of_mem _ wm_50)
  have kf38 := hts _ (List.mem_cons_of_mem _ wm_277)
  unfold f_X6_takesRelation at h
  have hS : va_S A s.heap s.heap [] := va_S.rf
  have J18 : ∀ (x1 : Int32) (xRel : Nat → Int32) (xSD : Int32) (ls : Array Slot) (H : Heap) (locs : List Loc) (hl : lv_has ls 2 [(0, .ref (a 3)), (1, .int x1)]) (hP : va_P D vwCl (wX k a xLen xHits xUns xItems xLost xKind xSize xLet xRel xLim xOpen xMeas xSL xST xSD xSK xTal xKn xFT xFA xFE xOdds xPat xFind) H) (hD : va_D A (wX k a xLen xHits xUns xItems xLost xKind xSize xLet xRel xLim xOpen xMeas xSL xST xSD xSK xTal xKn xFT xFA xFE xOdds xPat xFind)) (hS : va_S A s.heap H locs) (h : f_X6_takesRelation_18 x1 xRel xST xSD = some o), gQi p l e wo_X6_takesRelation 0 s m args below meth c D k A o.1 (wX k a xLen xHits xUns xItems xLost xKind xSize xLet o.2.1 xLim xOpen xMeas xSL xST o.2.2 xSK xTal xKn xFT xFA xFE xOdds xPat xFind) H locs (F0 m 18 ls []) := by
    intro x1 xRel xSD ls H locs hl hP hD hS h
    unfold f_X6_takesRelation_18 at h
    refine lv_aload_n hx hb dX6_takesRelation_18 rfl (lv_at hl 0 rfl) ?_
    refine va_get (D := D) (ci := 2) (v := .int xST) (C := RX6) (T := TX6) (N := 9) hx hb hts hi6 hown hK hP (3) (rfl) rfl 6 (by decide) kf35 (fun _ h9 => h9) rfl dX6_takesRelation_19 ?_
    refine lv_bipush (v := 16) hx hb dX6_takesRelation_22 (by decide) ?_
    refine lv_icmp_lt (tgt := 29) hx hb dX6_takesRelation_24 (by decide) (fun c1 => ?_) (fun c1 => ?_)
    · replace h := (if_pos c1).symm.trans h
      refine lv_aload_n hx hb dX6_takesRelation_29 rfl (lv_at hl 0 rfl) ?_
      refine va_get (D := D) (ci := 2) (v := .ref (a 5)) (C := RX6) (T := TX6) (N := 9) hx hb hts hi6 hown hK hP (3) (rfl) rfl 1 (by decide) kf15 (fun _ h9 => h9) rfl dX6_takesRelation_30 ?_
      refine lv_aload_n hx hb dX6_takesRelation_33 rfl (lv_at hl 0 rfl) ?_
      refine va_get (D := D) (ci := 2) (v := .int xST) (C := RX6) (T := TX6) (N := 9) hx hb hts hi6 hown hK hP (3) (rfl) rfl 6 (by decide) kf35 (fun _ h9 => h9) rfl dX6_takesRelation_34 ?_
      refine lv_iload_n hx hb dX6_takesRelation_37 rfl (lv_at hl 1 rfl) ?_
      obtain ⟨g2, h⟩ := gIn_some h
      refine va_iast hx hb hK hP hD hS (5) 0 (rfl) rfl g2 dX6_takesRelation_38 (fun H locs hP hD hS => ?_)
      have hP : va_P D vwCl (wX k a xLen xHits xUns xItems xLost xKind xSize xLet (upd xRel xST.toNatClampNeg x1) xLim xOpen xMeas xSL xST xSD xSK xTal xKn xFT xFA xFE xOdds xPat xFind) H := hP
      have hD : va_D A (wX k a xLen xHits xUns xItems xLost xKind xSize xLet (upd xRel xST.toNatClampNeg x1) xLim xOpen xMeas xSL xST xSD xSK xTal xKn xFT xFA xFE xOdds xPat xFind) := hD
      refine lv_aload_n hx hb dX6_takesRelation_39 rfl (lv_at hl 0 rfl) ?_
      refine lv_iconst (v := 2) hx hb dX6_takesRelation_40 (by decide) ?_
      refine va_put (D := D) (ci := 2) (v := .int 2) (ty := .int) (C := RX6) (T := TX6) (N := 9) hx hb hts hi6 tyX6 tyX6_ok nmX6 hown hK hP hD hS (3) (rfl) rfl 7 (by decide) kf38 (fun _ h9 => h9) rfl (tyX6_ok 7 (by decide)) rfl rfl (Nat.le_of_ble_eq_true rfl) dX6_takesRelation_41 (fun H locs hP hD hS => ?_)
      have hP : va_P D vwCl (wX k a xLen xHits xUns xItems xLost xKind xSize xLet (upd xRel xST.toNatClampNeg x1) xLim xOpen xMeas xSL xST 2 xSK xTal xKn xFT xFA xFE xOdds xPat xFind) H := hP
      have hD : va_D A (wX k a xLen xHits xUns xItems xLost xKind xSize xLet (upd xRel xST.toNatClampNeg x1) xLim xOpen xMeas xSL xST 2 xSK xTal xKn xFT xFA xFE xOdds xPat xFind) := hD
      refine lv_iconst (v := 1) hx hb dX6_takesRelation_44 (by decide) ?_
      have he := Option.some.inj h
      exact W.zret (v := 1) hx hb hr rfl (fun t ht hW => ⟨⟨1, wX k a xLen xHits xUns xItems xLost xKind xSize xLet (upd xRel xST.toNatClampNeg x1) xLim xOpen xMeas xSL xST 2 xSK xTal xKn xFT xFA xFE xOdds xPat xFind, rfl, ⟨(congrArg (fun z => z.1) he), (congrArg (fun z => wX k a xLen xHits xUns xItems xLost xKind xSize xLet z.2.1 xLim xOpen xMeas xSL xST z.2.2 xSK xTal xKn xFT xFA xFE xOdds xPat xFind) he)⟩, by rw [ht]; exact hP, va_K.moved hW.alike hK, hD⟩, hS.F ht⟩) hS.2.2 dX6_takesRelation_45
    · replace h := (if_neg c1).symm.trans h
      refine lv_iconst (v := 0) hx hb dX6_takesRelation_27 (by decide) ?_
      have he := Option.some.inj h
      exact W.zret (v := 0) hx hb hr rfl (fun t ht hW => ⟨⟨0, wX k a xLen xHits xUns xItems xLost xKind xSize xLet xRel xLim xOpen xMeas xSL xST xSD xSK xTal xKn xFT xFA xFE xOdds xPat xFind, rfl, ⟨(congrArg (fun z => z.1) he), (congrArg (fun z => wX k a xLen xHits xUns xItems xLost xKind xSize xLet z.2.1 xLim xOpen xMeas xSL xST z.2.2 xSK xTal xKn xFT xFA xFE xOdds xPat xFind) he)⟩, by rw [ht]; exact hP, va_K.moved hW.alike hK, hD⟩, hS.F ht⟩) hS.2.2 dX6_takesRelation_28
  obtain ⟨H, hH⟩ : ∃ H : Heap, H = s.heap := ⟨_, rfl⟩
  obtain ⟨locs, hlc⟩ : ∃ locs : List Loc, locs = [] := ⟨_, rfl⟩
  have hS : va_S A s.heap H locs := by rw [hH, hlc]; exact va_S.rf
  have hP : va_P D vwCl (wX k a xLen xHits xUns xItems xLost xKind xSize xLet xRel xLim xOpen xMeas xSL xST xSD xSK xTal xKn xFT xFA xFE xOdds xPat xFind) H := by rw [hH]; exact hP
  suffices hGo : gQi p l e wo_X6_takesRelation 0 s m args below meth c D k A o.1 (wX k a xLen xHits xUns xItems xLost xKind xSize xLet o.2.1 xLim xOpen xMeas xSL xST o.2.2 xSK xTal xKn xFT xFA xFE xOdds xPat xFind) H locs (F0 m 0 ls []) by rw [hH, hlc] at hGo; exact hGo
  refine lv_iload_n hx hb dX6_takesRelation_0 rfl (lv_at hl 1 rfl) ?_
  refine lv_bipush (v := 60) hx hb dX6_takesRelation_1 (by decide) ?_
  refine lv_icmp_eq (tgt := 18) hx hb dX6_takesRelation_3 (by decide) (fun c3 => ?_) (fun c3 => ?_)
  · replace h := (if_pos c3).symm.trans h
    exact J18 x1 xRel xSD ls H locs (lv_sub hl [0, 1] rfl) hP hD hS h
  · replace h := (if_neg c3).symm.trans h
    refine lv_iload_n hx hb dX6_takesRelation_6 rfl (lv_at hl 1 rfl) ?_
    refine lv_bipush (v := 61) hx hb dX6_takesRelation_7 (by decide) ?_
    refine lv_icmp_eq (tgt := 18) hx hb dX6_takesRelation_9 (by decide) (fun c4 => ?_) (fun c4 => ?_)
    · replace h := (if_pos c4).symm.trans h
      exact J18 x1 xRel xSD ls H locs (lv_sub hl [0, 1] rfl) hP hD hS h
    · replace h := (if_neg c4).symm.trans h
      refine lv_iload_n hx hb dX6_takesRelation_12 rfl (lv_at hl 1 rfl) ?_
      refine lv_bipush (v := 62) hx hb dX6_takesRelation_13 (by decide) ?_
      refine lv_icmp_ne (tgt := 27) hx hb dX6_takesRelation_15 (by decide) (fun c5 => ?_) (fun c5 => ?_)
      · replace h := (if_neg c5).symm.trans h
        refine lv_iconst (v := 0) hx hb dX6_takesRelation_27 (by decide) ?_
        have he := Option.some.inj h
        exact W.zret (v := 0) hx hb hr rfl (fun t ht hW => ⟨⟨0, wX k a xLen xHits xUns xItems xLost xKind xSize xLet xRel xLim xOpen xMeas xSL xST xSD xSK xTal xKn xFT xFA xFE xOdds xPat xFind, rfl, ⟨(congrArg (fun z => z.1) he), (congrArg (fun z => wX k a xLen xHits xUns xItems xLost xKind xSize xLet z.2.1 xLim xOpen xMeas xSL xST z.2.2 xSK xTal xKn xFT xFA xFE xOdds xPat xFind) he)⟩, by rw [ht]; exact hP, va_K.moved hW.alike hK, hD⟩, hS.F ht⟩) hS.2.2 dX6_takesRelation_28
      · replace h := (if_pos c5).symm.trans h
        exact J18 x1 xRel xSD ls H locs (lv_sub hl [0, 1] rfl) hP hD hS h
set_option maxHeartbeats 4000000 in
set_option maxRecDepth 100000 in
theorem c_X6_takesRelation (l : Launch) (D : va_G) (k : Nat → ClassId) (a : Nat → Nat) (xLen : Nat → Int32) (xHits : Nat → Int32) (xUns : Nat → Int32) (xItems : Nat → Nat → Int32) (xLost : Nat → Int32) (xKind : Nat → Int32) (xSize : Nat → Int32) (xLet : Nat → Int32) (xRel : Nat → Int32) (xLim : Nat → Int32) (xOpen : Nat → Int32) (xMeas : Nat → Int32) (xSL : Int32) (xST : Int32) (xSD : Int32) (xSK : Int32) (xTal : Nat → Nat → Int32) (xKn : Nat → Int32) (xFT : Nat → Int32) (xFA : Int32) (xFE : Int32) (xOdds : Int32) (xPat : Int32) (xFind : Int32) (x1 : Int32) {o : Int32 × (Nat → Int32) × (Int32)} (h : f_X6_takesRelation x1 xRel xST xSD = some o) : mQi l yX6_takesRelation wo_X6_takesRelation 0 D k [.ref (a 3), .int x1] (wX k a xLen xHits xUns xItems xLost xKind xSize xLet xRel xLim xOpen xMeas xSL xST xSD xSK xTal xKn xFT xFA xFE xOdds xPat xFind) o.1 (wX k a xLen xHits xUns xItems xLost xKind xSize xLet o.2.1 xLim xOpen xMeas xSL xST o.2.2 xSK xTal xKn xFT xFA xFE xOdds xPat xFind) := by
  intro sz
  refine Met.ofW (cc := cX6_takesRelation) (maxL := 2) (ret := some .boolean) (by decide) rfl ?_
  intro p e s m args below meth c s₁ B hml hv
  obtain ⟨rfl, hsz, hP, hK, hD0⟩ := hv
  subst hsz
  rw [lg_entry_eq]
  exact core_X6_takesRelation D k a xLen xHits xUns xItems xLost xKind xSize xLet xRel xLim xOpen xMeas xSL xST xSD xSK xTal xKn xFT xFA xFE xOdds xPat xFind x1 B.exec B.bytes hml B.returns (atoms_spec (ws := wo_X6_takesRelation) B.pre) (findClass_of_methodNamed B.named) B.notSynchronized (lv_entry [.ref (a 3), .int x1] (n := 2) (Nat.le_of_ble_eq_true rfl)) hK hP hD0.self (fun q h => Or.inr h) h
theorem qd_X6_takesRelation : yX6_takesRelation.cls = RX6 ∧ yX6_takesRelation.cls ≠ "java/lang/invoke/MethodHandle" ∧ yX6_takesRelation.cls ≠ "java/lang/invoke/VarHandle" ∧ (parseMethodDescriptor yX6_takesRelation.desc).map (fun d => d.parameters.length) = some 1 := by decide +kernel
abbrev wo_X6_takesFigure : List Cond := .code yX6_takesFigure cX6_takesFigure 2 (some .boolean) :: wsL_law
set_option maxHeartbeats 4000000 in
set_option maxRecDepth 100000 in
theorem core_X6_takesFigure (D : va_G) (k : Nat → ClassId) (a : Nat → Nat) (xLen : Nat → Int32) (xHits : Nat → Int32) (xUns : Nat → Int32) (xItems : Nat → Nat → Int32) (xLost : Nat → Int32) (xKind : Nat → Int32) (xSize : Nat → Int32) (xLet : Nat → Int32) (xRel : Nat → Int32) (xLim : Nat → Int32) (xOpen : Nat → Int32) (xMeas : Nat → Int32) (xSL : Int32) (xST : Int32) (xSD : Int32) (xSK : Int32) (xTal : Nat → Nat → Int32) (xKn : Nat → Int32) (xFT : Nat → Int32) (xFA : Int32) (xFE : Int32) (xOdds : Int32) (xPat : Int32) (xFind : Int32) (x1 : Int32) {p : Program} {l : Launch} {e : Env} {s : State} {m : MethodId} {args : Array Value} {below : List Frame} {meth : Method} {c : Code} {ls : Array Slot} (hx : p.tables.exec = Jvm.exec) (hb : c.code = cX6_takesFigure) (hml : c.maxLocals = 2) (hr : meth.sig.returnType = some .boolean) (hts : ∀ w ∈ wo_X6_takesFigure, w.before args s = true) (hown : s.vm.findClass RX6 = some m.cls) (hlocks : meth.locks = false) (hl : lv_has ls 2 [(0, .ref (a 3)), (1, .int x1)]) (hK : va_K D vwCl (xTys k) s) (hP : va_P D vwCl (wX k a xLen xHits xUns xItems xLost xKind xSize xLet xRel xLim xOpen xMeas xSL xST xSD xSK xTal xKn xFT xFA xFE xOdds xPat xFind) s.heap) {A : Nat → Prop} (hD : va_D A (wX k a xLen xHits xUns xItems xLost xKind xSize xLet xRel xLim xOpen xMeas xSL xST xSD xSK xTal xKn xFT xFA xFE xOdds xPat xFind)) (hA : ∀ q : Nat, s.heap.size ≤ q → A q) {o : Int32 × (Nat → Int32) × (Int32) × (Int32)} (h : f_X6_takesFigure x1 xLim xST xSD = some o) : gQi p l e wo_X6_takesFigure 0 s m args below meth c D k A o.1 (wX k a xLen xHits xUns xItems xLost xKind xSize xLet xRel o.2.1 xOpen xMeas xSL o.2.2.1 o.2.2.2 xSK xTal xKn xFT xFA xFE xOdds xPat xFind) s.heap [] (F0 m 0 ls []) := by
  have hi6 := (fun w h => List.mem_cons_of_mem _ (inlX6 w h) : ∀ w ∈ wsX60, w ∈ wo_X6_takesFigure)
  have kf35 := hts _ (List.mem_cons_of_mem _ wm_282)
  have kf18 := hts _ (List.mem_cons_of_mem _ wm_51)
  have kf38 := hts _ (List.mem_cons_of_mem _ wm_277)
  unfold f_X6_takesFigure at h
  have hS : va_S A s.heap s.heap [] := va_S.rf
  obtain ⟨H, hH⟩ : ∃ H : Heap, H = s.heap := ⟨_, rfl⟩
  obtain ⟨locs, hlc⟩ : ∃ locs : List Loc, locs = [] := ⟨_, rfl⟩
  have hS : va_S A s.heap H locs := by rw [hH, hlc]; exact va_S.rf
  have hP : va_P D vwCl (wX k a xLen xHits xUns xItems xLost xKind xSize xLet xRel xLim xOpen xMeas xSL xST xSD xSK xTal xKn xFT xFA xFE xOdds xPat xFind) H := by rw [hH]; exact hP
  suffices hGo : gQi p l e wo_X6_takesFigure 0 s m args below meth c D k A o.1 (wX k a xLen xHits xUns xItems xLost xKind xSize xLet xRel o.2.1 xOpen xMeas xSL o.2.2.1 o.2.2.2 xSK xTal xKn xFT xFA xFE xOdds xPat xFind) H locs (F0 m 0 ls []) by rw [hH, hlc] at hGo; exact hGo
  refine lv_iload_n hx hb dX6_takesFigure_0 rfl (lv_at hl 1 rfl) ?_
  refine lv_bipush (v := 48) hx hb dX6_takesFigure_1 (by decide) ?_
  refine lv_icmp_lt (tgt := 21) hx hb dX6_takesFigure_3 (by decide) (fun c1 => ?_) (fun c1 => ?_)
  · replace h := (if_pos c1).symm.trans h
    refine lv_iconst (v := 0) hx hb dX6_takesFigure_21 (by decide) ?_
    have he := Option.some.inj h
    exact W.zret (v := 0) hx hb hr rfl (fun t ht hW => ⟨⟨0, wX k a xLen xHits xUns xItems xLost xKind xSize xLet xRel xLim xOpen xMeas xSL xST xSD xSK xTal xKn xFT xFA xFE xOdds xPat xFind, rfl, ⟨(congrArg (fun z => z.1) he), (congrArg (fun z => wX k a xLen xHits xUns xItems xLost xKind xSize xLet xRel z.2.1 xOpen xMeas xSL z.2.2.1 z.2.2.2 xSK xTal xKn xFT xFA xFE xOdds xPat xFind) he)⟩, by rw [ht]; exact hP, va_K.moved hW.alike hK, hD⟩, hS.F ht⟩) hS.2.2 dX6_takesFigure_22
  · replace h := (if_neg c1).symm.trans h
    refine lv_iload_n hx hb dX6_takesFigure_6 rfl (lv_at hl 1 rfl) ?_
    refine lv_bipush (v := 57) hx hb dX6_takesFigure_7 (by decide) ?_
    refine lv_icmp_gt (tgt := 21) hx hb dX6_takesFigure_9 (by decide) (fun c2 => ?_) (fun c2 => ?_)
    · replace h := (if_pos c2).symm.trans h
      refine lv_iconst (v := 0) hx hb dX6_takesFigure_21 (by decide) ?_
      have he := Option.some.inj h
      exact W.zret (v := 0) hx hb hr rfl (fun t ht hW => ⟨⟨0, wX k a xLen xHits xUns xItems xLost xKind xSize xLet xRel xLim xOpen xMeas xSL xST xSD xSK xTal xKn xFT xFA xFE xOdds xPat xFind, rfl, ⟨(congrArg (fun z => z.1) he), (congrArg (fun z => wX k a xLen xHits xUns xItems xLost xKind xSize xLet xRel z.2.1 xOpen xMeas xSL z.2.2.1 z.2.2.2 xSK xTal xKn xFT xFA xFE xOdds xPat xFind) he)⟩, by rw [ht]; exact hP, va_K.moved hW.alike hK, hD⟩, hS.F ht⟩) hS.2.2 dX6_takesFigure_22
    · replace h := (if_neg c2).symm.trans h
      refine lv_aload_n hx hb dX6_takesFigure_12 rfl (lv_at hl 0 rfl) ?_
      refine va_get (D := D) (ci := 2) (v := .int xST) (C := RX6) (T := TX6) (N := 9) hx hb hts hi6 hown hK hP (3) (rfl) rfl 6 (by decide) kf35 (fun _ h9 => h9) rfl dX6_takesFigure_13 ?_
      refine lv_bipush (v := 16) hx hb dX6_takesFigure_16 (by decide) ?_
      refine lv_icmp_lt (tgt := 23) hx hb dX6_takesFigure_18 (by decide) (fun c3 => ?_) (fun c3 => ?_)
      · replace h := (if_pos c3).symm.trans h
        refine lv_aload_n hx hb dX6_takesFigure_23 rfl (lv_at hl 0 rfl) ?_
        refine va_get (D := D) (ci := 2) (v := .ref (a 6)) (C := RX6) (T := TX6) (N := 9) hx hb hts hi6 hown hK hP (3) (rfl) rfl 2 (by decide) kf18 (fun _ h9 => h9) rfl dX6_takesFigure_24 ?_
        refine lv_aload_n hx hb dX6_takesFigure_27 rfl (lv_at hl 0 rfl) ?_
        refine va_get (D := D) (ci := 2) (v := .int xST) (C := RX6) (T := TX6) (N := 9) hx hb hts hi6 hown hK hP (3) (rfl) rfl 6 (by decide) kf35 (fun _ h9 => h9) rfl dX6_takesFigure_28 ?_
        refine lv_iload_n hx hb dX6_takesFigure_31 rfl (lv_at hl 1 rfl) ?_
        refine lv_bipush (v := 48) hx hb dX6_takesFigure_32 (by decide) ?_
        refine lv_isub hx hb dX6_takesFigure_34 ?_
        obtain ⟨g4, h⟩ := gIn_some h
        refine va_iast hx hb hK hP hD hS (6) 0 (rfl) rfl g4 dX6_takesFigure_35 (fun H locs hP hD hS => ?_)
        have hP : va_P D vwCl (wX k a xLen xHits xUns xItems xLost xKind xSize xLet xRel (upd xLim xST.toNatClampNeg (x1 - 48)) xOpen xMeas xSL xST xSD xSK xTal xKn xFT xFA xFE xOdds xPat xFind) H := hP
        have hD : va_D A (wX k a xLen xHits xUns xItems xLost xKind xSize xLet xRel (upd xLim xST.toNatClampNeg (x1 - 48)) xOpen xMeas xSL xST xSD xSK xTal xKn xFT xFA xFE xOdds xPat xFind) := hD
        refine lv_aload_n hx hb dX6_takesFigure_36 rfl (lv_at hl 0 rfl) ?_
        refine lv_dup hx hb dX6_takesFigure_37 rfl ?_
        refine va_get (D := D) (ci := 2) (v := .int xST) (C := RX6) (T := TX6) (N := 9) hx hb hts hi6 hown hK hP (3) (rfl) rfl 6 (by decide) kf35 (fun _ h9 => h9) rfl dX6_takesFigure_38 ?_
        refine lv_iconst (v := 1) hx hb dX6_takesFigure_41 (by decide) ?_
        refine lv_iadd hx hb dX6_takesFigure_42 ?_
        refine va_put (D := D) (ci := 2) (v := .int (xST + 1)) (ty := .int) (C := RX6) (T := TX6) (N := 9) hx hb hts hi6 tyX6 tyX6_ok nmX6 hown hK hP hD hS (3) (rfl) rfl 6 (by decide) kf35 (fun _ h9 => h9) rfl (tyX6_ok 6 (by decide)) rfl rfl (Nat.le_of_ble_eq_true rfl) dX6_takesFigure_43 (fun H locs hP hD hS => ?_)
        have hP : va_P D vwCl (wX k a xLen xHits xUns xItems xLost xKind xSize xLet xRel (upd xLim xST.toNatClampNeg (x1 - 48)) xOpen xMeas xSL (xST + 1) xSD xSK xTal xKn xFT xFA xFE xOdds xPat xFind) H := hP
        have hD : va_D A (wX k a xLen xHits xUns xItems xLost xKind xSize xLet xRel (upd xLim xST.toNatClampNeg (x1 - 48)) xOpen xMeas xSL (xST + 1) xSD xSK xTal xKn xFT xFA xFE xOdds xPat xFind) := hD
        refine lv_aload_n hx hb dX6_takesFigure_46 rfl (lv_at hl 0 rfl) ?_
        refine lv_iconst (v := 3) hx hb dX6_takesFigure_47 (by decide) ?_
        refine va_put (D := D) (ci := 2) (v := .int 3) (ty := .int) (C := RX6) (T := TX6) (N := 9) hx hb hts hi6 tyX6 tyX6_ok nmX6 hown hK hP hD hS (3) (rfl) rfl 7 (by decide) kf38 (fun _ h9 => h9) rfl (tyX6_ok 7 (by decide)) rfl rfl (Nat.le_of_ble_eq_true rfl) dX6_takesFigure_48 (fun H locs hP hD hS => ?_)
        have hP : va_P D vwCl (wX k a xLen xHits xUns xItems xLost xKind xSize xLet xRel (upd xLim xST.toNatClampNeg (x1 - 48)) xOpen xMeas xSL (xST + 1) 3 xSK xTal xKn xFT xFA xFE xOdds xPat xFind) H := hP
        have hD : va_D A (wX k a xLen xHits xUns xItems xLost xKind xSize xLet xRel (upd xLim xST.toNatClampNeg (x1 - 48)) xOpen xMeas xSL (xST + 1) 3 xSK xTal xKn xFT xFA xFE xOdds xPat xFind) := hD
        refine lv_iconst (v := 1) hx hb dX6_takesFigure_51 (by decide) ?_
        have he := Option.some.inj h
        exact W.zret (v := 1) hx hb hr rfl (fun t ht hW => ⟨⟨1, wX k a xLen xHits xUns xItems xLost xKind xSize xLet xRel (upd xLim xST.toNatClampNeg (x1 - 48)) xOpen xMeas xSL (xST + 1) 3 xSK xTal xKn xFT xFA xFE xOdds xPat xFind, rfl, ⟨(congrArg (fun z => z.1) he), (congrArg (fun z => wX k a xLen xHits xUns xItems xLost xKind xSize xLet xRel z.2.1 xOpen xMeas xSL z.2.2.1 z.2.2.2 xSK xTal xKn xFT xFA xFE xOdds xPat xFind) he)⟩, by rw [ht]; exact hP, va_K.moved hW.alike hK, hD⟩, hS.F ht⟩) hS.2.2 dX6_takesFigure_52
      · replace h := (if_neg c3).symm.trans h
        refine lv_iconst (v := 0) hx hb dX6_takesFigure_21 (by decide) ?_
        have he := Option.some.inj h
        exact W.zret (v := 0) hx hb hr rfl (fun t ht hW => ⟨⟨0, wX k a xLen xHits xUns xItems xLost xKind xSize xLet xRel xLim xOpen xMeas xSL xST xSD xSK xTal xKn xFT xFA xFE xOdds xPat xFind, rfl, ⟨(congrArg (fun z => z.1) he), (congrArg (fun z => wX k a xLen xHits xUns xItems xLost xKind xSize xLet xRel z.2.1 xOpen xMeas xSL z.2.2.1 z.2.2.2 xSK xTal xKn xFT xFA xFE xOdds xPat xFind) he)⟩, by rw [ht]; exact hP, va_K.moved hW.alike hK, hD⟩, hS.F ht⟩) hS.2.2 dX6_takesFigure_22
set_option maxHeartbeats 4000000 in
set_option maxRecDepth 100000 in
theorem c_X6_takesFigure (l : Launch) (D : va_G) (k : Nat → ClassId) (a : Nat → Nat) (xLen : Nat → Int32) (xHits : Nat → Int32) (xUns : Nat → Int32) (xItems : Nat → Nat → Int32) (xLost : Nat → Int32) (xKind : Nat → Int32) (xSize : Nat → Int32) (xLet : Nat → Int32) (xRel : Nat → Int32) (xLim : Nat → Int32) (xOpen : Nat → Int32) (xMeas : Nat → Int32) (xSL : Int32) (xST : Int32) (xSD : Int32) (xSK : Int32) (xTal : Nat → Nat → Int32) (xKn : Nat → Int32) (xFT : Nat → Int32) (xFA : Int32) (xFE : Int32) (xOdds : Int32) (xPat : Int32) (xFind : Int32) (x1 : Int32) {o : Int32 × (Nat → Int32) × (Int32) × (Int32)} (h : f_X6_takesFigure x1 xLim xST xSD = some o) : mQi l yX6_takesFigure wo_X6_takesFigure 0 D k [.ref (a 3), .int x1] (wX k a xLen xHits xUns xItems xLost xKind xSize xLet xRel xLim xOpen xMeas xSL xST xSD xSK xTal xKn xFT xFA xFE xOdds xPat xFind) o.1 (wX k a xLen xHits xUns xItems xLost xKind xSize xLet xRel o.2.1 xOpen xMeas xSL o.2.2.1 o.2.2.2 xSK xTal xKn xFT xFA xFE xOdds xPat xFind) := by
  intro sz
  refine Met.ofW (cc := cX6_takesFigure) (maxL := 2) (ret := some .boolean) (by decide) rfl ?_
  intro p e s m args below meth c s₁ B hml hv
  obtain ⟨rfl, hsz, hP, hK, hD0⟩ := hv
  subst hsz
  rw [lg_entry_eq]
  exact core_X6_takesFigure D k a xLen xHits xUns xItems xLost xKind xSize xLet xRel xLim xOpen xMeas xSL xST xSD xSK xTal xKn xFT xFA xFE xOdds xPat xFind x1 B.exec B.bytes hml B.returns (atoms_spec (ws := wo_X6_takesFigure) B.pre) (findClass_of_methodNamed B.named) B.notSynchronized (lv_entry [.ref (a 3), .int x1] (n := 2) (Nat.le_of_ble_eq_true rfl)) hK hP hD0.self (fun q h => Or.inr h) h
theorem qd_X6_takesFigure : yX6_takesFigure.cls = RX6 ∧ yX6_takesFigure.cls ≠ "java/lang/invoke/MethodHandle" ∧ yX6_takesFigure.cls ≠ "java/lang/invoke/VarHandle" ∧ (parseMethodDescriptor yX6_takesFigure.desc).map (fun d => d.parameters.length) = some 1 := by decide +kernel
abbrev wo_X6_takesSecondFigure : List Cond := .code yX6_takesSecondFigure cX6_takesSecondFigure 2 (some .boolean) :: wsL_law
set_option maxHeartbeats 4000000 in
set_option maxRecDepth 100000 in
theorem core_X6_takesSecondFigure (D : va_G) (k : Nat → ClassId) (a : Nat → Nat) (xLen : Nat → Int32) (xHits : Nat → Int32) (xUns : Nat → Int32) (xItems : Nat → Nat → Int32) (xLost : Nat → Int32) (xKind : Nat → Int32) (xSize : Nat → Int32) (xLet : Nat → Int32) (xRel : Nat → Int32) (xLim : Nat → Int32) (xOpen : Nat → Int32) (xMeas : Nat → Int32) (xSL : Int32) (xST : Int32) (xSD : Int32) (xSK : Int32) (xTal : Nat → Nat → Int32) (xKn : Nat → Int32) (xFT : Nat → Int32) (xFA : Int32) (xFE : Int32) (xOdds : Int32) (xPat : Int32) (xFind : Int32) (x1 : Int32) {p : Program} {l : Launch} {e : Env} {s : State} {m : MethodId} {args : Array Value} {below : List Frame} {meth : Method} {c : Code} {ls : Array Slot} (hx : p.tables.exec = Jvm.exec) (hb : c.code = cX6_takesSecondFigure) (hml : c.maxLocals = 2) (hr : meth.sig.returnType = some .boolean) (hts : ∀ w ∈ wo_X6_takesSecondFigure, w.before args s = true) (hown : s.vm.findClass RX6 = some m.cls) (hlocks : meth.locks = false) (hl : lv_has ls 2 [(0, .ref (a 3)), (1, .int x1)]) (hK : va_K D vwCl (xTys k) s) (hP : va_P D vwCl (wX k a xLen xHits xUns xItems xLost xKind xSize xLet xRel xLim xOpen xMeas xSL xST xSD xSK xTal xKn xFT xFA xFE xOdds xPat xFind) s.heap) {A : Nat → Prop} (hD : va_D A (wX k a xLen xHits xUns xItems xLost xKind xSize xLet xRel xLim xOpen xMeas xSL xST xSD xSK xTal xKn xFT xFA xFE xOdds xPat xFind)) (hA : ∀ q : Nat, s.heap.size ≤ q → A q) {o : Int32 × (Nat → Int32) × (Int32)} (h : f_X6_takesSecondFigure x1 xLim xST xSD = some o) : gQi p l e wo_X6_takesSecondFigure 0 s m args below meth c D k A o.1 (wX k a xLen xHits xUns xItems xLost xKind xSize xLet xRel o.2.1 xOpen xMeas xSL xST o.2.2 xSK xTal xKn xFT xFA xFE xOdds xPat xFind) s.heap [] (F0 m 0 ls []) := by
  have hi6 := (fun w h => List.mem_cons_of_mem _ (inlX6 w h) : ∀ w ∈ wsX60, w ∈ wo_X6_takesSecondFigure)
  have kf35 := hts _ (List.mem_cons_of_mem _ wm_282)
  have kf18 := hts _ (List.mem_cons_of_mem _ wm_51)
  have kf38 := hts _ (List.mem_cons_of_mem _ wm_277)
  unfold f_X6_takesSecondFigure at h
  have hS : va_S A s.heap s.heap [] := va_S.rf
  obtain ⟨H, hH⟩ : ∃ H : Heap, H = s.heap := ⟨_, rfl⟩
  obtain ⟨locs, hlc⟩ : ∃ locs : List Loc, locs = [] := ⟨_, rfl⟩
  have hS : va_S A s.heap H locs := by rw [hH, hlc]; exact va_S.rf
  have hP : va_P D vwCl (wX k a xLen xHits xUns xItems xLost xKind xSize xLet xRel xLim xOpen xMeas xSL xST xSD xSK xTal xKn xFT xFA xFE xOdds xPat xFind) H := by rw [hH]; exact hP
  suffices hGo : gQi p l e wo_X6_takesSecondFigure 0 s m args below meth c D k A o.1 (wX k a xLen xHits xUns xItems xLost xKind xSize xLet xRel o.2.1 xOpen xMeas xSL xST o.2.2 xSK xTal xKn xFT xFA xFE xOdds xPat xFind) H locs (F0 m 0 ls []) by rw [hH, hlc] at hGo; exact hGo
  refine lv_iload_n hx hb dX6_takesSecondFigure_0 rfl (lv_at hl 1 rfl) ?_
  refine lv_bipush (v := 48) hx hb dX6_takesSecondFigure_1 (by decide) ?_
  refine lv_icmp_lt (tgt := 20) hx hb dX6_takesSecondFigure_3 (by decide) (fun c1 => ?_) (fun c1 => ?_)
  · replace h := (if_pos c1).symm.trans h
    refine lv_iconst (v := 0) hx hb dX6_takesSecondFigure_20 (by decide) ?_
    have he := Option.some.inj h
    exact W.zret (v := 0) hx hb hr rfl (fun t ht hW => ⟨⟨0, wX k a xLen xHits xUns xItems xLost xKind xSize xLet xRel xLim xOpen xMeas xSL xST xSD xSK xTal xKn xFT xFA xFE xOdds xPat xFind, rfl, ⟨(congrArg (fun z => z.1) he), (congrArg (fun z => wX k a xLen xHits xUns xItems xLost xKind xSize xLet xRel z.2.1 xOpen xMeas xSL xST z.2.2 xSK xTal xKn xFT xFA xFE xOdds xPat xFind) he)⟩, by rw [ht]; exact hP, va_K.moved hW.alike hK, hD⟩, hS.F ht⟩) hS.2.2 dX6_takesSecondFigure_21
  · replace h := (if_neg c1).symm.trans h
    refine lv_iload_n hx hb dX6_takesSecondFigure_6 rfl (lv_at hl 1 rfl) ?_
    refine lv_bipush (v := 57) hx hb dX6_takesSecondFigure_7 (by decide) ?_
    refine lv_icmp_gt (tgt := 20) hx hb dX6_takesSecondFigure_9 (by decide) (fun c2 => ?_) (fun c2 => ?_)
    · replace h := (if_pos c2).symm.trans h
      refine lv_iconst (v := 0) hx hb dX6_takesSecondFigure_20 (by decide) ?_
      have he := Option.some.inj h
      exact W.zret (v := 0) hx hb hr rfl (fun t ht hW => ⟨⟨0, wX k a xLen xHits xUns xItems xLost xKind xSize xLet xRel xLim xOpen xMeas xSL xST xSD xSK xTal xKn xFT xFA xFE xOdds xPat xFind, rfl, ⟨(congrArg (fun z => z.1) he), (congrArg (fun z => wX k a xLen xHits xUns xItems xLost xKind xSize xLet xRel z.2.1 xOpen xMeas xSL xST z.2.2 xSK xTal xKn xFT xFA xFE xOdds xPat xFind) he)⟩, by rw [ht]; exact hP, va_K.moved hW.alike hK, hD⟩, hS.F ht⟩) hS.2.2 dX6_takesSecondFigure_21
    · replace h := (if_neg c2).symm.trans h
      refine lv_aload_n hx hb dX6_takesSecondFigure_12 rfl (lv_at hl 0 rfl) ?_
      refine va_get (D := D) (ci := 2) (v := .int xST) (C := RX6) (T := TX6) (N := 9) hx hb hts hi6 hown hK hP (3) (rfl) rfl 6 (by decide) kf35 (fun _ h9 => h9) rfl dX6_takesSecondFigure_13 ?_
      refine lv_iconst (v := 1) hx hb dX6_takesSecondFigure_16 (by decide) ?_
      refine lv_icmp_ge (tgt := 22) hx hb dX6_takesSecondFigure_17 (by decide) (fun c3 => ?_) (fun c3 => ?_)
      · replace h := (if_pos c3).symm.trans h
        refine lv_aload_n hx hb dX6_takesSecondFigure_22 rfl (lv_at hl 0 rfl) ?_
        refine va_get (D := D) (ci := 2) (v := .ref (a 6)) (C := RX6) (T := TX6) (N := 9) hx hb hts hi6 hown hK hP (3) (rfl) rfl 2 (by decide) kf18 (fun _ h9 => h9) rfl dX6_takesSecondFigure_23 ?_
        refine lv_aload_n hx hb dX6_takesSecondFigure_26 rfl (lv_at hl 0 rfl) ?_
        refine va_get (D := D) (ci := 2) (v := .int xST) (C := RX6) (T := TX6) (N := 9) hx hb hts hi6 hown hK hP (3) (rfl) rfl 6 (by decide) kf35 (fun _ h9 => h9) rfl dX6_takesSecondFigure_27 ?_
        refine lv_iconst (v := 1) hx hb dX6_takesSecondFigure_30 (by decide) ?_
        refine lv_isub hx hb dX6_takesSecondFigure_31 ?_
        refine lv_bipush (v := 10) hx hb dX6_takesSecondFigure_32 (by decide) ?_
        refine lv_aload_n hx hb dX6_takesSecondFigure_34 rfl (lv_at hl 0 rfl) ?_
        refine va_get (D := D) (ci := 2) (v := .ref (a 6)) (C := RX6) (T := TX6) (N := 9) hx hb hts hi6 hown hK hP (3) (rfl) rfl 2 (by decide) kf18 (fun _ h9 => h9) rfl dX6_takesSecondFigure_35 ?_
        refine lv_aload_n hx hb dX6_takesSecondFigure_38 rfl (lv_at hl 0 rfl) ?_
        refine va_get (D := D) (ci := 2) (v := .int xST) (C := RX6) (T := TX6) (N := 9) hx hb hts hi6 hown hK hP (3) (rfl) rfl 6 (by decide) kf35 (fun _ h9 => h9) rfl dX6_takesSecondFigure_39 ?_
        refine lv_iconst (v := 1) hx hb dX6_takesSecondFigure_42 (by decide) ?_
        refine lv_isub hx hb dX6_takesSecondFigure_43 ?_
        obtain ⟨g4, h⟩ := gIn_some h
        refine va_iald hx hb hK hP (6) 0 (rfl) rfl g4 dX6_takesSecondFigure_44 ?_
        refine lv_imul hx hb dX6_takesSecondFigure_45 ?_
        refine lv_iload_n hx hb dX6_takesSecondFigure_46 rfl (lv_at hl 1 rfl) ?_
        refine lv_iadd hx hb dX6_takesSecondFigure_47 ?_
        refine lv_bipush (v := 48) hx hb dX6_takesSecondFigure_48 (by decide) ?_
        refine lv_isub hx hb dX6_takesSecondFigure_50 ?_
        refine va_iast hx hb hK hP hD hS (6) 0 (rfl) rfl g4 dX6_takesSecondFigure_51 (fun H locs hP hD hS => ?_)
        have hP : va_P D vwCl (wX k a xLen xHits xUns xItems xLost xKind xSize xLet xRel (upd xLim (xST - 1).toNatClampNeg ((((10 : Int32) * (xLim (xST - 1).toNatClampNeg)) + x1) - 48)) xOpen xMeas xSL xST xSD xSK xTal xKn xFT xFA xFE xOdds xPat xFind) H := hP
        have hD : va_D A (wX k a xLen xHits xUns xItems xLost xKind xSize xLet xRel (upd xLim (xST - 1).toNatClampNeg ((((10 : Int32) * (xLim (xST - 1).toNatClampNeg)) + x1) - 48)) xOpen xMeas xSL xST xSD xSK xTal xKn xFT xFA xFE xOdds xPat xFind) := hD
        refine lv_aload_n hx hb dX6_takesSecondFigure_52 rfl (lv_at hl 0 rfl) ?_
        refine lv_iconst (v := 4) hx hb dX6_takesSecondFigure_53 (by decide) ?_
        refine va_put (D := D) (ci := 2) (v := .int 4) (ty := .int) (C := RX6) (T := TX6) (N := 9) hx hb hts hi6 tyX6 tyX6_ok nmX6 hown hK hP hD hS (3) (rfl) rfl 7 (by decide) kf38 (fun _ h9 => h9) rfl (tyX6_ok 7 (by decide)) rfl rfl (Nat.le_of_ble_eq_true rfl) dX6_takesSecondFigure_54 (fun H locs hP hD hS => ?_)
        have hP : va_P D vwCl (wX k a xLen xHits xUns xItems xLost xKind xSize xLet xRel (upd xLim (xST - 1).toNatClampNeg ((((10 : Int32) * (xLim (xST - 1).toNatClampNeg)) + x1) - 48)) xOpen xMeas xSL xST 4 xSK xTal xKn xFT xFA xFE xOdds xPat xFind) H := hP
        have hD : va_D A (wX k a xLen xHits xUns xItems xLost xKind xSize xLet xRel (upd xLim (xST - 1).toNatClampNeg ((((10 : Int32) * (xLim (xST - 1).toNatClampNeg)) + x1) - 48)) xOpen xMeas xSL xST 4 xSK xTal xKn xFT xFA xFE xOdds xPat xFind) := hD
        refine lv_iconst (v := 1) hx hb dX6_takesSecondFigure_57 (by decide) ?_
        have he := Option.some.inj h
        exact W.zret (v := 1) hx hb hr rfl (fun t ht hW => ⟨⟨1, wX k a xLen xHits xUns xItems xLost xKind xSize xLet xRel (upd xLim (xST - 1).toNatClampNeg ((((10 : Int32) * (xLim (xST - 1).toNatClampNeg)) + x1) - 48)) xOpen xMeas xSL xST 4 xSK xTal xKn xFT xFA xFE xOdds xPat xFind, rfl, ⟨(congrArg (fun z => z.1) he), (congrArg (fun z => wX k a xLen xHits xUns xItems xLost xKind xSize xLet xRel z.2.1 xOpen xMeas xSL xST z.2.2 xSK xTal xKn xFT xFA xFE xOdds xPat xFind) he)⟩, by rw [ht]; exact hP, va_K.moved hW.alike hK, hD⟩, hS.F ht⟩) hS.2.2 dX6_takesSecondFigure_58
      · replace h := (if_neg c3).symm.trans h
        refine lv_iconst (v := 0) hx hb dX6_takesSecondFigure_20 (by decide) ?_
        have he := Option.some.inj h
        exact W.zret (v := 0) hx hb hr rfl (fun t ht hW => ⟨⟨0, wX k a xLen xHits xUns xItems xLost xKind xSize xLet xRel xLim xOpen xMeas xSL xST xSD xSK xTal xKn xFT xFA xFE xOdds xPat xFind, rfl, ⟨(congrArg (fun z => z.1) he), (congrArg (fun z => wX k a xLen xHits xUns xItems xLost xKind xSize xLet xRel z.2.1 xOpen xMeas xSL xST z.2.2 xSK xTal xKn xFT xFA xFE xOdds xPat xFind) he)⟩, by rw [ht]; exact hP, va_K.moved hW.alike hK, hD⟩, hS.F ht⟩) hS.2.2 dX6_takesSecondFigure_21
set_option maxHeartbeats 4000000 in
set_option maxRecDepth 100000 in
theorem c_X6_takesSecondFigure (l : Launch) (D : va_G) (k : Nat → ClassId) (a : Nat → Nat) (xLen : Nat → Int32) (xHits : Nat → Int32) (xUns : Nat → Int32) (xItems : Nat → Nat → Int32) (xLost : Nat → Int32) (xKind : Nat → Int32) (xSize : Nat → Int32) (xLet : Nat → Int32) (xRel : Nat → Int32) (xLim : Nat → Int32) (xOpen : Nat → Int32) (xMeas : Nat → Int32) (xSL : Int32) (xST : Int32) (xSD : Int32) (xSK : Int32) (xTal : Nat → Nat → Int32) (xKn : Nat → Int32) (xFT : Nat → Int32) (xFA : Int32) (xFE : Int32) (xOdds : Int32) (xPat : Int32) (xFind : Int32) (x1 : Int32) {o : Int32 × (Nat → Int32) × (Int32)} (h : f_X6_takesSecondFigure x1 xLim xST xSD = some o) : mQi l yX6_takesSecondFigure wo_X6_takesSecondFigure 0 D k [.ref (a 3), .int x1] (wX k a xLen xHits xUns xItems xLost xKind xSize xLet xRel xLim xOpen xMeas xSL xST xSD xSK xTal xKn xFT xFA xFE xOdds xPat xFind) o.1 (wX k a xLen xHits xUns xItems xLost xKind xSize xLet xRel o.2.1 xOpen xMeas xSL xST o.2.2 xSK xTal xKn xFT xFA xFE xOdds xPat xFind) := by
  intro sz
  refine Met.ofW (cc := cX6_takesSecondFigure) (maxL := 2) (ret := some .boolean) (by decide) rfl ?_
  intro p e s m args below meth c s₁ B hml hv
  obtain ⟨rfl, hsz, hP, hK, hD0⟩ := hv
  subst hsz
  rw [lg_entry_eq]
  exact core_X6_takesSecondFigure D k a xLen xHits xUns xItems xLost xKind xSize xLet xRel xLim xOpen xMeas xSL xST xSD xSK xTal xKn xFT xFA xFE xOdds xPat xFind x1 B.exec B.bytes hml B.returns (atoms_spec (ws := wo_X6_takesSecondFigure) B.pre) (findClass_of_methodNamed B.named) B.notSynchronized (lv_entry [.ref (a 3), .int x1] (n := 2) (Nat.le_of_ble_eq_true rfl)) hK hP hD0.self (fun q h => Or.inr h) h
theorem qd_X6_takesSecondFigure : yX6_takesSecondFigure.cls = RX6 ∧ yX6_takesSecondFigure.cls ≠ "java/lang/invoke/MethodHandle" ∧ yX6_takesSecondFigure.cls ≠ "java/lang/invoke/VarHandle" ∧ (parseMethodDescriptor yX6_takesSecondFigure.desc).map (fun d => d.parameters.length) = some 1 := by decide +kernel
abbrev wo_X6_takesJoint : List Cond := .code yX6_takesJoint cX6_takesJoint 2 (some .boolean) :: wsL_law
set_option maxHeartbeats 4000000 in
set_option maxRecDepth 100000 in
theorem core_X6_takesJoint (D : va_G) (k : Nat → ClassId) (a : Nat → Nat) (xLen : Nat → Int32) (xHits : Nat → Int32) (xUns : Nat → Int32) (xItems : Nat → Nat → Int32) (xLost : Nat → Int32) (xKind : Nat → Int32) (xSize : Nat → Int32) (xLet : Nat → Int32) (xRel : Nat → Int32) (xLim : Nat → Int32) (xOpen : Nat → Int32) (xMeas : Nat → Int32) (xSL : Int32) (xST : Int32) (xSD : Int32) (xSK : Int32) (xTal : Nat → Nat → Int32) (xKn : Nat → Int32) (xFT : Nat → Int32) (xFA : Int32) (xFE : Int32) (xOdds : Int32) (xPat : Int32) (xFind : Int32) (x1 : Int32) {p : Program} {l : Launch} {e : Env} {s : State} {m : MethodId} {args : Array Value} {below : List Frame} {meth : Method} {c : Code} {ls : Array Slot} (hx : p.tables.exec = Jvm.exec) (hb : c.code = cX6_takesJoint) (hml : c.maxLocals = 2) (hr : meth.sig.returnType = some .boolean) (hts : ∀ w ∈ wo_X6_takesJoint, w.before args s = true) (hown : s.vm.findClass RX6 = some m.cls) (hlocks : meth.locks = false) (hl : lv_has ls 2 [(0, .ref (a 3)), (1, .int x1)]) (hK : va_K D vwCl (xTys k) s) (hP : va_P D vwCl (wX k a xLen xHits xUns xItems xLost xKind xSize xLet xRel xLim xOpen xMeas xSL xST xSD xSK xTal xKn xFT xFA xFE xOdds xPat xFind) s.heap) {A : Nat → Prop} (hD : va_D A (wX k a xLen xHits xUns xItems xLost xKind xSize xLet xRel xLim xOpen xMeas xSL xST xSD xSK xTal xKn xFT xFA xFE xOdds xPat xFind)) (hA : ∀ q : Nat, s.heap.size ≤ q → A q) {o : Int32 × (Nat → Int32) × (Int32)} (h : f_X6_takesJoint x1 xOpen xST xSD = some o) : gQi p l e wo_X6_takesJoint 0 s m args below meth c D k A o.1 (wX k a xLen xHits xUns xItems xLost xKind xSize xLet xRel xLim o.2.1 xMeas xSL xST o.2.2 xSK xTal xKn xFT xFA xFE xOdds xPat xFind) s.heap [] (F0 m 0 ls []) := by
  have hi6 := (fun w h => List.mem_cons_of_mem _ (inlX6 w h) : ∀ w ∈ wsX60, w ∈ wo_X6_takesJoint)
  have kf38 := hts _ (List.mem_cons_of_mem _ wm_277)
  have kf35 := hts _ (List.mem_cons_of_mem _ wm_282)
  have kf21 := hts _ (List.mem_cons_of_mem _ wm_53)
  unfold f_X6_takesJoint at h
  have hS : va_S A s.heap s.heap [] := va_S.rf
  have J42 : ∀ (s1 : Int32) (s2 : Int32) (xOpen : Nat → Int32) (xSD : Int32) (ls : Array Slot) (H : Heap) (locs : List Loc) (hl : lv_has ls 2 [(0, .ref (a 3))]) (hP : va_P D vwCl (wX k a xLen xHits xUns xItems xLost xKind xSize xLet xRel xLim xOpen xMeas xSL xST xSD xSK xTal xKn xFT xFA xFE xOdds xPat xFind) H) (hD : va_D A (wX k a xLen xHits xUns xItems xLost xKind xSize xLet xRel xLim xOpen xMeas xSL xST xSD xSK xTal xKn xFT xFA xFE xOdds xPat xFind)) (hS : va_S A s.heap H locs) (h : f_X6_takesJoint_42 s1 s2 xOpen xST xSD = some o), gQi p l e wo_X6_takesJoint 0 s m args below meth c D k A o.1 (wX k a xLen xHits xUns xItems xLost xKind xSize xLet xRel xLim o.2.1 xMeas xSL xST o.2.2 xSK xTal xKn xFT xFA xFE xOdds xPat xFind) H locs (F0 m 42 ls [.int s2, .int s1, .ref (a 7)]) := by
    intro s1 s2 xOpen xSD ls H locs hl hP hD hS h
    unfold f_X6_takesJoint_42 at h
    obtain ⟨g1, h⟩ := gIn_some h
    refine va_zast hx hb hK hP hD hS (7) 1 (rfl) rfl g1 dX6_takesJoint_42 (fun H locs hP hD hS => ?_)
    have hP : va_P D vwCl (wX k a xLen xHits xUns xItems xLost xKind xSize xLet xRel xLim (upd xOpen s1.toNatClampNeg (vp_nar .boolean s2)) xMeas xSL xST xSD xSK xTal xKn xFT xFA xFE xOdds xPat xFind) H := hP
    have hD : va_D A (wX k a xLen xHits xUns xItems xLost xKind xSize xLet xRel xLim (upd xOpen s1.toNatClampNeg (vp_nar .boolean s2)) xMeas xSL xST xSD xSK xTal xKn xFT xFA xFE xOdds xPat xFind) := hD
    refine lv_aload_n hx hb dX6_takesJoint_43 rfl (lv_at hl 0 rfl) ?_
    refine lv_iconst (v := 0) hx hb dX6_takesJoint_44 (by decide) ?_
    refine va_put (D := D) (ci := 2) (v := .int 0) (ty := .int) (C := RX6) (T := TX6) (N := 9) hx hb hts hi6 tyX6 tyX6_ok nmX6 hown hK hP hD hS (3) (rfl) rfl 7 (by decide) kf38 (fun _ h9 => h9) rfl (tyX6_ok 7 (by decide)) rfl rfl (Nat.le_of_ble_eq_true rfl) dX6_takesJoint_45 (fun H locs hP hD hS => ?_)
    have hP : va_P D vwCl (wX k a xLen xHits xUns xItems xLost xKind xSize xLet xRel xLim (upd xOpen s1.toNatClampNeg (vp_nar .boolean s2)) xMeas xSL xST 0 xSK xTal xKn xFT xFA xFE xOdds xPat xFind) H := hP
    have hD : va_D A (wX k a xLen xHits xUns xItems xLost xKind xSize xLet xRel xLim (upd xOpen s1.toNatClampNeg (vp_nar .boolean s2)) xMeas xSL xST 0 xSK xTal xKn xFT xFA xFE xOdds xPat xFind) := hD
    refine lv_iconst (v := 1) hx hb dX6_takesJoint_48 (by decide) ?_
    have he := Option.some.inj h
    exact W.zret (v := 1) hx hb hr rfl (fun t ht hW => ⟨⟨1, wX k a xLen xHits xUns xItems xLost xKind xSize xLet xRel xLim (upd xOpen s1.toNatClampNeg (vp_nar .boolean s2)) xMeas xSL xST 0 xSK xTal xKn xFT xFA xFE xOdds xPat xFind, rfl, ⟨(congrArg (fun z => z.1) he), (congrArg (fun z => wX k a xLen xHits xUns xItems xLost xKind xSize xLet xRel xLim z.2.1 xMeas xSL xST z.2.2 xSK xTal xKn xFT xFA xFE xOdds xPat xFind) he)⟩, by rw [ht]; exact hP, va_K.moved hW.alike hK, hD⟩, hS.F ht⟩) hS.2.2 dX6_takesJoint_49
  have J12 : ∀ (x1 : Int32) (xOpen : Nat → Int32) (xSD : Int32) (ls : Array Slot) (H : Heap) (locs : List Loc) (hl : lv_has ls 2 [(0, .ref (a 3)), (1, .int x1)]) (hP : va_P D vwCl (wX k a xLen xHits xUns xItems xLost xKind xSize xLet xRel xLim xOpen xMeas xSL xST xSD xSK xTal xKn xFT xFA xFE xOdds xPat xFind) H) (hD : va_D A (wX k a xLen xHits xUns xItems xLost xKind xSize xLet xRel xLim xOpen xMeas xSL xST xSD xSK xTal xKn xFT xFA xFE xOdds xPat xFind)) (hS : va_S A s.heap H locs) (h : f_X6_takesJoint_12 x1 xOpen xST xSD = some o), gQi p l e wo_X6_takesJoint 0 s m args below meth c D k A o.1 (wX k a xLen xHits xUns xItems xLost xKind xSize xLet xRel xLim o.2.1 xMeas xSL xST o.2.2 xSK xTal xKn xFT xFA xFE xOdds xPat xFind) H locs (F0 m 12 ls []) := by
    intro x1 xOpen xSD ls H locs hl hP hD hS h
    unfold f_X6_takesJoint_12 at h
    refine lv_aload_n hx hb dX6_takesJoint_12 rfl (lv_at hl 0 rfl) ?_
    refine va_get (D := D) (ci := 2) (v := .int xST) (C := RX6) (T := TX6) (N := 9) hx hb hts hi6 hown hK hP (3) (rfl) rfl 6 (by decide) kf35 (fun _ h9 => h9) rfl dX6_takesJoint_13 ?_
    refine lv_bipush (v := 16) hx hb dX6_takesJoint_16 (by decide) ?_
    refine lv_icmp_lt (tgt := 23) hx hb dX6_takesJoint_18 (by decide) (fun c2 => ?_) (fun c2 => ?_)
    · replace h := (if_pos c2).symm.trans h
      refine lv_aload_n hx hb dX6_takesJoint_23 rfl (lv_at hl 0 rfl) ?_
      refine va_get (D := D) (ci := 2) (v := .ref (a 7)) (C := RX6) (T := TX6) (N := 9) hx hb hts hi6 hown hK hP (3) (rfl) rfl 3 (by decide) kf21 (fun _ h9 => h9) rfl dX6_takesJoint_24 ?_
      refine lv_aload_n hx hb dX6_takesJoint_27 rfl (lv_at hl 0 rfl) ?_
      refine va_get (D := D) (ci := 2) (v := .int xST) (C := RX6) (T := TX6) (N := 9) hx hb hts hi6 hown hK hP (3) (rfl) rfl 6 (by decide) kf35 (fun _ h9 => h9) rfl dX6_takesJoint_28 ?_
      refine lv_iload_n hx hb dX6_takesJoint_31 rfl (lv_at hl 1 rfl) ?_
      refine lv_bipush (v := 124) hx hb dX6_takesJoint_32 (by decide) ?_
      refine lv_icmp_ne (tgt := 41) hx hb dX6_takesJoint_34 (by decide) (fun c3 => ?_) (fun c3 => ?_)
      · replace h := (if_neg c3).symm.trans h
        refine lv_iconst (v := 0) hx hb dX6_takesJoint_41 (by decide) ?_
        exact J42 xST 0 xOpen xSD ls H locs (lv_sub hl [0] rfl) hP hD hS h
      · replace h := (if_pos c3).symm.trans h
        refine lv_iconst (v := 1) hx hb dX6_takesJoint_37 (by decide) ?_
        refine lv_goto (tgt := 42) hx hb dX6_takesJoint_38 (by decide) ?_
        exact J42 xST 1 xOpen xSD ls H locs (lv_sub hl [0] rfl) hP hD hS h
    · replace h := (if_neg c2).symm.trans h
      refine lv_iconst (v := 0) hx hb dX6_takesJoint_21 (by decide) ?_
      have he := Option.some.inj h
      exact W.zret (v := 0) hx hb hr rfl (fun t ht hW => ⟨⟨0, wX k a xLen xHits xUns xItems xLost xKind xSize xLet xRel xLim xOpen xMeas xSL xST xSD xSK xTal xKn xFT xFA xFE xOdds xPat xFind, rfl, ⟨(congrArg (fun z => z.1) he), (congrArg (fun z => wX k a xLen xHits xUns xItems xLost xKind xSize xLet xRel xLim z.2.1 xMeas xSL xST z.2.2 xSK xTal xKn xFT xFA xFE xOdds xPat xFind) he)⟩, by rw [ht]; exact hP, va_K.moved hW.alike hK, hD⟩, hS.F ht⟩) hS.2.2 dX6_takesJoint_22
  obtain ⟨H, hH⟩ : ∃ H : Heap, H = s.heap := ⟨_, rfl⟩
  obtain ⟨locs, hlc⟩ : ∃ locs : List Loc, locs = [] := ⟨_, rfl⟩
  have hS : va_S A s.heap H locs := by rw [hH, hlc]; exact va_S.rf
  have hP : va_P D vwCl (wX k a xLen xHits xUns xItems xLost xKind xSize xLet xRel xLim xOpen xMeas xSL xST xSD xSK xTal xKn xFT xFA xFE xOdds xPat xFind) H := by rw [hH]; exact hP
  suffices hGo : gQi p l e wo_X6_takesJoint 0 s m args below meth c D k A o.1 (wX k a xLen xHits xUns xItems xLost xKind xSize xLet xRel xLim o.2.1 xMeas xSL xST o.2.2 xSK xTal xKn xFT xFA xFE xOdds xPat xFind) H locs (F0 m 0 ls []) by rw [hH, hlc] at hGo; exact hGo
  refine lv_iload_n hx hb dX6_takesJoint_0 rfl (lv_at hl 1 rfl) ?_
  refine lv_bipush (v := 43) hx hb dX6_takesJoint_1 (by decide) ?_
  refine lv_icmp_eq (tgt := 12) hx hb dX6_takesJoint_3 (by decide) (fun c4 => ?_) (fun c4 => ?_)
  · replace h := (if_pos c4).symm.trans h
    exact J12 x1 xOpen xSD ls H locs (lv_sub hl [0, 1] rfl) hP hD hS h
  · replace h := (if_neg c4).symm.trans h
    refine lv_iload_n hx hb dX6_takesJoint_6 rfl (lv_at hl 1 rfl) ?_
    refine lv_bipush (v := 124) hx hb dX6_takesJoint_7 (by decide) ?_
    refine lv_icmp_ne (tgt := 21) hx hb dX6_takesJoint_9 (by decide) (fun c5 => ?_) (fun c5 => ?_)
    · replace h := (if_neg c5).symm.trans h
      refine lv_iconst (v := 0) hx hb dX6_takesJoint_21 (by decide) ?_
      have he := Option.some.inj h
      exact W.zret (v := 0) hx hb hr rfl (fun t ht hW => ⟨⟨0, wX k a xLen xHits xUns xItems xLost xKind xSize xLet xRel xLim xOpen xMeas xSL xST xSD xSK xTal xKn xFT xFA xFE xOdds xPat xFind, rfl, ⟨(congrArg (fun z => z.1) he), (congrArg (fun z => wX k a xLen xHits xUns xItems xLost xKind xSize xLet xRel xLim z.2.1 xMeas xSL xST z.2.2 xSK xTal xKn xFT xFA xFE xOdds xPat xFind) he)⟩, by rw [ht]; exact hP, va_K.moved hW.alike hK, hD⟩, hS.F ht⟩) hS.2.2 dX6_takesJoint_22
    · replace h := (if_pos c5).symm.trans h
      exact J12 x1 xOpen xSD ls H locs (lv_sub hl [0, 1] rfl) hP hD hS h
set_option maxHeartbeats 4000000 in
set_option maxRecDepth 100000 in
theorem c_X6_takesJoint (l : Launch) (D : va_G) (k : Nat → ClassId) (a : Nat → Nat) (xLen : Nat → Int32) (xHits : Nat → Int32) (xUns : Nat → Int32) (xItems : Nat → Nat → Int32) (xLost : Nat → Int32) (xKind : Nat → Int32) (xSize : Nat → Int32) (xLet : Nat → Int32) (xRel : Nat → Int32) (xLim : Nat → Int32) (xOpen : Nat → Int32) (xMeas : Nat → Int32) (xSL : Int32) (xST : Int32) (xSD : Int32) (xSK : Int32) (xTal : Nat → Nat → Int32) (xKn : Nat → Int32) (xFT : Nat → Int32) (xFA : Int32) (xFE : Int32) (xOdds : Int32) (xPat : Int32) (xFind : Int32) (x1 : Int32) {o : Int32 × (Nat → Int32) × (Int32)} (h : f_X6_takesJoint x1 xOpen xST xSD = some o) : mQi l yX6_takesJoint wo_X6_takesJoint 0 D k [.ref (a 3), .int x1] (wX k a xLen xHits xUns xItems xLost xKind xSize xLet xRel xLim xOpen xMeas xSL xST xSD xSK xTal xKn xFT xFA xFE xOdds xPat xFind) o.1 (wX k a xLen xHits xUns xItems xLost xKind xSize xLet xRel xLim o.2.1 xMeas xSL xST o.2.2 xSK xTal xKn xFT xFA xFE xOdds xPat xFind) := by
  intro sz
  refine Met.ofW (cc := cX6_takesJoint) (maxL := 2) (ret := some .boolean) (by decide) rfl ?_
  intro p e s m args below meth c s₁ B hml hv
  obtain ⟨rfl, hsz, hP, hK, hD0⟩ := hv
  subst hsz
  rw [lg_entry_eq]
  exact core_X6_takesJoint D k a xLen xHits xUns xItems xLost xKind xSize xLet xRel xLim xOpen xMeas xSL xST xSD xSK xTal xKn xFT xFA xFE xOdds xPat xFind x1 B.exec B.bytes hml B.returns (atoms_spec (ws := wo_X6_takesJoint) B.pre) (findClass_of_methodNamed B.named) B.notSynchronized (lv_entry [.ref (a 3), .int x1] (n := 2) (Nat.le_of_ble_eq_true rfl)) hK hP hD0.self (fun q h => Or.inr h) h
theorem qd_X6_takesJoint : yX6_takesJoint.cls = RX6 ∧ yX6_takesJoint.cls ≠ "java/lang/invoke/MethodHandle" ∧ yX6_takesJoint.cls ≠ "java/lang/invoke/VarHandle" ∧ (parseMethodDescriptor yX6_takesJoint.desc).map (fun d => d.parameters.length) = some 1 := by decide +kernel
abbrev wo_X6_isDone : List Cond := .code yX6_isDone cX6_isDone 3 (some .boolean) :: wsL_law
set_option maxHeartbeats 4000000 in
set_option maxRecDepth 100000 in
theorem core_X6_isDone (D : va_G) (k : Nat → ClassId) (a : Nat → Nat) (xLen : Nat → Int32) (xHits : Nat → Int32) (xUns : Nat → Int32) (xItems : Nat → Nat → Int32) (xLost : Nat → Int32) (xKind : Nat → Int32) (xSize : Nat → Int32) (xLet : Nat → Int32) (xRel : Nat → Int32) (xLim : Nat → Int32) (xOpen : Nat → Int32) (xMeas : Nat → Int32) (xSL : Int32) (xST : Int32) (xSD : Int32) (xSK : Int32) (xTal : Nat → Nat → Int32) (xKn : Nat → Int32) (xFT : Nat → Int32) (xFA : Int32) (xFE : Int32) (xOdds : Int32) (xPat : Int32) (xFind : Int32) (x1 : Int32) {p : Program} {l : Launch} {e : Env} {s : State} {m : MethodId} {args : Array Value} {below : List Frame} {meth : Method} {c : Code} {ls : Array Slot} (hx : p.tables.exec = Jvm.exec) (hb : c.code = cX6_isDone) (hml : c.maxLocals = 3) (hr : meth.sig.returnType = some .boolean) (hts : ∀ w ∈ wo_X6_isDone, w.before args s = true) (hown : s.vm.findClass RX6 = some m.cls) (hlocks : meth.locks = false) (hl : lv_has ls 3 [(0, .ref (a 3)), (1, .int x1)]) (hK : va_K D vwCl (xTys k) s) (hP : va_P D vwCl (wX k a xLen xHits xUns xItems xLost xKind xSize xLet xRel xLim xOpen xMeas xSL xST xSD xSK xTal xKn xFT xFA xFE xOdds xPat xFind) s.heap) {o : Int32} (h : f_X6_isDone x1 xLet xRel xLim xMeas = some o) : gRi p l e wo_X6_isDone 0 s m args below meth c o (F0 m 0 ls []) := by
  have hi6 := (fun w h => List.mem_cons_of_mem _ (inlX6 w h) : ∀ w ∈ wsX60, w ∈ wo_X6_isDone)
  have kf25 := hts _ (List.mem_cons_of_mem _ wm_54)
  have kf11 := hts _ (List.mem_cons_of_mem _ wm_49)
  have kf15 := hts _ (List.mem_cons_of_mem _ wm_50)
  have kf18 := hts _ (List.mem_cons_of_mem _ wm_51)
  unfold f_X6_isDone at h
  refine lv_aload_n hx hb dX6_isDone_0 rfl (lv_at hl 0 rfl) ?_
  refine va_get (D := D) (ci := 2) (v := .ref (a 8)) (C := RX6) (T := TX6) (N := 9) hx hb hts hi6 hown hK hP (3) (rfl) rfl 4 (by decide) kf25 (fun _ h9 => h9) rfl dX6_isDone_1 ?_
  refine lv_aload_n hx hb dX6_isDone_4 rfl (lv_at hl 0 rfl) ?_
  refine va_get (D := D) (ci := 2) (v := .ref (a 4)) (C := RX6) (T := TX6) (N := 9) hx hb hts hi6 hown hK hP (3) (rfl) rfl 0 (by decide) kf11 (fun _ h9 => h9) rfl dX6_isDone_5 ?_
  refine lv_iload_n hx hb dX6_isDone_8 rfl (lv_at hl 1 rfl) ?_
  obtain ⟨g1, h⟩ := gIn_some h
  refine va_iald hx hb hK hP (4) 0 (rfl) rfl g1 dX6_isDone_9 ?_
  obtain ⟨g2, h⟩ := gIn_some h
  refine va_iald hx hb hK hP (8) 0 (rfl) rfl g2 dX6_isDone_10 ?_
  refine lv_istore_n (lv' := [(2, .int (xMeas (xLet x1.toNatClampNeg).toNatClampNeg)), (0, .ref (a 3)), (1, .int x1)]) hx hb dX6_isDone_11 rfl hl (by decide) rfl (fun ls hl => ?_)
  refine lv_aload_n hx hb dX6_isDone_12 rfl (lv_at hl 1 rfl) ?_
  refine va_get (D := D) (ci := 2) (v := .ref (a 5)) (C := RX6) (T := TX6) (N := 9) hx hb hts hi6 hown hK hP (3) (rfl) rfl 1 (by decide) kf15 (fun _ h9 => h9) rfl dX6_isDone_13 ?_
  refine lv_iload_n hx hb dX6_isDone_16 rfl (lv_at hl 2 rfl) ?_
  refine va_iald hx hb hK hP (5) 0 (rfl) rfl g1 dX6_isDone_17 ?_
  by_cases c3 : (xRel x1.toNatClampNeg) = 60
  · replace h := (if_pos c3).symm.trans h
    refine lv_lookup (tgt := 44) (off := 26) hx hb dX6_isDone_18 (by decide) (by rw [c3]; decide) (by decide) ?_
    refine lv_iload_n hx hb dX6_isDone_44 rfl (lv_at hl 0 rfl) ?_
    refine lv_aload_n hx hb dX6_isDone_45 rfl (lv_at hl 1 rfl) ?_
    refine va_get (D := D) (ci := 2) (v := .ref (a 6)) (C := RX6) (T := TX6) (N := 9) hx hb hts hi6 hown hK hP (3) (rfl) rfl 2 (by decide) kf18 (fun _ h9 => h9) rfl dX6_isDone_46 ?_
    refine lv_iload_n hx hb dX6_isDone_49 rfl (lv_at hl 2 rfl) ?_
    refine va_iald hx hb hK hP (6) 0 (rfl) rfl g1 dX6_isDone_50 ?_
    refine lv_icmp_ge (tgt := 58) hx hb dX6_isDone_51 (by decide) (fun c4 => ?_) (fun c4 => ?_)
    · replace h := (if_pos c4).symm.trans h
      refine lv_iconst (v := 0) hx hb dX6_isDone_58 (by decide) ?_
      exact W.zret (v := 0) hx hb hr rfl (fun t ht hW => ⟨_, rfl, Option.some.inj h, ht⟩) (fun q hq => by cases hq) dX6_isDone_59
    · replace h := (if_neg c4).symm.trans h
      refine lv_iconst (v := 1) hx hb dX6_isDone_54 (by decide) ?_
      refine lv_goto (tgt := 59) hx hb dX6_isDone_55 (by decide) ?_
      exact W.zret (v := 1) hx hb hr rfl (fun t ht hW => ⟨_, rfl, Option.some.inj h, ht⟩) (fun q hq => by cases hq) dX6_isDone_59
  replace h := (if_neg c3).symm.trans h
  by_cases c5 : (xRel x1.toNatClampNeg) = 62
  · replace h := (if_pos c5).symm.trans h
    refine lv_lookup (tgt := 60) (off := 42) hx hb dX6_isDone_18 (by decide) (by rw [c5]; decide) (by decide) ?_
    refine lv_iload_n hx hb dX6_isDone_60 rfl (lv_at hl 0 rfl) ?_
    refine lv_aload_n hx hb dX6_isDone_61 rfl (lv_at hl 1 rfl) ?_
    refine va_get (D := D) (ci := 2) (v := .ref (a 6)) (C := RX6) (T := TX6) (N := 9) hx hb hts hi6 hown hK hP (3) (rfl) rfl 2 (by decide) kf18 (fun _ h9 => h9) rfl dX6_isDone_62 ?_
    refine lv_iload_n hx hb dX6_isDone_65 rfl (lv_at hl 2 rfl) ?_
    refine va_iald hx hb hK hP (6) 0 (rfl) rfl g1 dX6_isDone_66 ?_
    refine lv_icmp_le (tgt := 74) hx hb dX6_isDone_67 (by decide) (fun c6 => ?_) (fun c6 => ?_)
    · replace h := (if_pos c6).symm.trans h
      refine lv_iconst (v := 0) hx hb dX6_isDone_74 (by decide) ?_
      exact W.zret (v := 0) hx hb hr rfl (fun t ht hW => ⟨_, rfl, Option.some.inj h, ht⟩) (fun q hq => by cases hq) dX6_isDone_75
    · replace h := (if_neg c6).symm.trans h
      refine lv_iconst (v := 1) hx hb dX6_isDone_70 (by decide) ?_
      refine lv_goto (tgt := 75) hx hb dX6_isDone_71 (by decide) ?_
      exact W.zret (v := 1) hx hb hr rfl (fun t ht hW => ⟨_, rfl, Option.some.inj h, ht⟩) (fun q hq => by cases hq) dX6_isDone_75
  replace h := (if_neg c5).symm.trans h
  refine lv_lookup (tgt := 76) (off := 58) hx hb dX6_isDone_18 (by decide) (xLk_X6_isDone c3 c5) (by decide) ?_
  refine lv_iload_n hx hb dX6_isDone_76 rfl (lv_at hl 0 rfl) ?_
  refine lv_aload_n hx hb dX6_isDone_77 rfl (lv_at hl 1 rfl) ?_
  refine va_get (D := D) (ci := 2) (v := .ref (a 6)) (C := RX6) (T := TX6) (N := 9) hx hb hts hi6 hown hK hP (3) (rfl) rfl 2 (by decide) kf18 (fun _ h9 => h9) rfl dX6_isDone_78 ?_
  refine lv_iload_n hx hb dX6_isDone_81 rfl (lv_at hl 2 rfl) ?_
  refine va_iald hx hb hK hP (6) 0 (rfl) rfl g1 dX6_isDone_82 ?_
  refine lv_icmp_ne (tgt := 90) hx hb dX6_isDone_83 (by decide) (fun c7 => ?_) (fun c7 => ?_)
  · replace h := (if_neg c7).symm.trans h
    refine lv_iconst (v := 0) hx hb dX6_isDone_90 (by decide) ?_
    exact W.zret (v := 0) hx hb hr rfl (fun t ht hW => ⟨_, rfl, Option.some.inj h, ht⟩) (fun q hq => by cases hq) dX6_isDone_91
  · replace h := (if_pos c7).symm.trans h
    refine lv_iconst (v := 1) hx hb dX6_isDone_86 (by decide) ?_
    refine lv_goto (tgt := 91) hx hb dX6_isDone_87 (by decide) ?_
    exact W.zret (v := 1) hx hb hr rfl (fun t ht hW => ⟨_, rfl, Option.some.inj h, ht⟩) (fun q hq => by cases hq) dX6_isDone_91
set_option maxHeartbeats 4000000 in
set_option maxRecDepth 100000 in
theorem c_X6_isDone (l : Launch) (D : va_G) (k : Nat → ClassId) (a : Nat → Nat) (xLen : Nat → Int32) (xHits : Nat → Int32) (xUns : Nat → Int32) (xItems : Nat → Nat → Int32) (xLost : Nat → Int32) (xKind : Nat → Int32) (xSize : Nat → Int32) (xLet : Nat → Int32) (xRel : Nat → Int32) (xLim : Nat → Int32) (xOpen : Nat → Int32) (xMeas : Nat → Int32) (xSL : Int32) (xST : Int32) (xSD : Int32) (xSK : Int32) (xTal : Nat → Nat → Int32) (xKn : Nat → Int32) (xFT : Nat → Int32) (xFA : Int32) (xFE : Int32) (xOdds : Int32) (xPat : Int32) (xFind : Int32) (x1 : Int32) {o : Int32} (h : f_X6_isDone x1 xLet xRel xLim xMeas = some o) : mRi l yX6_isDone wo_X6_isDone 0 D k [.ref (a 3), .int x1] (wX k a xLen xHits xUns xItems xLost xKind xSize xLet xRel xLim xOpen xMeas xSL xST xSD xSK xTal xKn xFT xFA xFE xOdds xPat xFind) o := by
  refine Met.ofW (cc := cX6_isDone) (maxL := 3) (ret := some .boolean) (by decide) rfl ?_
  intro p e s m args below meth c s₁ B hml hv
  obtain ⟨rfl, hP, hK⟩ := hv
  rw [lg_entry_eq]
  exact core_X6_isDone D k a xLen xHits xUns xItems xLost xKind xSize xLet xRel xLim xOpen xMeas xSL xST xSD xSK xTal xKn xFT xFA xFE xOdds xPat xFind x1 B.exec B.bytes hml B.returns (atoms_spec (ws := wo_X6_isDone) B.pre) (findClass_of_methodNamed B.named) B.notSynchronized (lv_entry [.ref (a 3), .int x1] (n := 3) (Nat.le_of_ble_eq_true rfl)) hK hP h
theorem qd_X6_isDone : yX6_isDone.cls = RX6 ∧ yX6_isDone.cls ≠ "java/lang/invoke/MethodHandle" ∧ yX6_isDone.cls ≠ "java/lang/invoke/VarHandle" ∧ (parseMethodDescriptor yX6_isDone.desc).map (fun d => d.parameters.length) = some 1 := by decide +kernel
abbrev wo_X6_hold : List Cond := .code yX6_hold cX6_hold 8 (some .boolean) :: wsL_law
set_option maxHeartbeats 4000000 in
set_option maxRecDepth 100000 in
theorem core_X6_hold {N : Nat} (D : va_G) (k : Nat → ClassId) (a : Nat → Nat) (xLen : Nat → Int32) (xHits : Nat → Int32) (xUns : Nat → Int32) (xItems : Nat → Nat → Int32) (xLost : Nat → Int32) (xKind : Nat → Int32) (xSize : Nat → Int32) (xLet : Nat → Int32) (xRel : Nat → Int32) (xLim : Nat → Int32) (xOpen : Nat → Int32) (xMeas : Nat → Int32) (xSL : Int32) (xST : Int32) (xSD : Int32) (xSK : Int32) (xTal : Nat → Nat → Int32) (xKn : Nat → Int32) (xFT : Nat → Int32) (xFA : Int32) (xFE : Int32) (xOdds : Int32) (xPat : Int32) (xFind : Int32) (x1 : Int32) (x2 : Int32) (x3 : Int32) {p : Program} {l : Launch} {e : Env} {s : State} {m : MethodId} {args : Array Value} {below : List Frame} {meth : Method} {c : Code} {ls : Array Slot} (hx : p.tables.exec = Jvm.exec) (hb : c.code = cX6_hold) (hml : c.maxLocals = 8) (hr : meth.sig.returnType = some .boolean) (hts : ∀ w ∈ wo_X6_hold, w.before args s = true) (hown : s.vm.findClass RX6 = some m.cls) (hlocks : meth.locks = false) (hl : lv_has ls 8 [(0, .ref (a 3)), (1, .int x1), (2, .int x2), (3, .int x3)]) (hK : va_K D vwCl (xTys k) s) (hP : va_P D vwCl (wX k a xLen xHits xUns xItems xLost xKind xSize xLet xRel xLim xOpen xMeas xSL xST xSD xSK xTal xKn xFT xFA xFE xOdds xPat xFind) s.heap) {A : Nat → Prop} (hD : va_D A (wX k a xLen xHits xUns xItems xLost xKind xSize xLet xRel xLim xOpen xMeas xSL xST xSD xSK xTal xKn xFT xFA xFE xOdds xPat xFind)) (hA : ∀ q : Nat, s.heap.size ≤ q → A q) {o : Int32 × (Nat → Int32)} (h : f_X6_hold N x1 x2 x3 xLet xRel xLim xOpen xMeas xST = some o) : gQi p l e wo_X6_hold 3 s m args below meth c D k A o.1 (wX k a xLen xHits xUns xItems xLost xKind xSize xLet xRel xLim xOpen o.2 xSL xST xSD xSK xTal xKn xFT xFA xFE xOdds xPat xFind) s.heap [] (F0 m 0 ls []) := by
  have hi6 := (fun w h => List.mem_cons_of_mem _ (inlX6 w h) : ∀ w ∈ wsX60, w ∈ wo_X6_hold)
  have kf11 := hts _ (List.mem_cons_of_mem _ wm_49)
  have kf25 := hts _ (List.mem_cons_of_mem _ wm_54)
  have kf35 := hts _ (List.mem_cons_of_mem _ wm_282)
  have kf21 := hts _ (List.mem_cons_of_mem _ wm_53)
  unfold f_X6_hold at h
  have hS : va_S A s.heap s.heap [] := va_S.rf
  have L9 : ∀ (n9 : Nat) (x1 : Int32) (x2 : Int32) (x3 : Int32) (x4 : Int32) (x5 : Int32) (x6 : Int32) (xMeas : Nat → Int32) (ls : Array Slot) (H : Heap) (locs : List Loc) (hl : lv_has ls 8 [(0, .ref (a 3)), (1, .int x1), (2, .int x2), (3, .int x3), (4, .int x4), (5, .int x5), (6, .int x6)]) (hP : va_P D vwCl (wX k a xLen xHits xUns xItems xLost xKind xSize xLet xRel xLim xOpen xMeas xSL xST xSD xSK xTal xKn xFT xFA xFE xOdds xPat xFind) H) (hD : va_D A (wX k a xLen xHits xUns xItems xLost xKind xSize xLet xRel xLim xOpen xMeas xSL xST xSD xSK xTal xKn xFT xFA xFE xOdds xPat xFind)) (hS : va_S A s.heap H locs) (h : f_X6_hold_9 N n9 x1 x2 x3 x4 x5 x6 xLet xRel xLim xOpen xMeas xST = some o), gQi p l e wo_X6_hold 3 s m args below meth c D k A o.1 (wX k a xLen xHits xUns xItems xLost xKind xSize xLet xRel xLim xOpen o.2 xSL xST xSD xSK xTal xKn xFT xFA xFE xOdds xPat xFind) H locs (F0 m 9 ls []) := by
    intro n9
    induction n9 with
    | zero => intro x1 x2 x3 x4 x5 x6 xMeas ls H locs hl hP hD hS h; cases (show (none : Option (Int32 × (Nat → Int32))) = some o from h)
    | succ n9 ih9 =>
      have J94 : ∀ (x1 : Int32) (x2 : Int32) (x3 : Int32) (x4 : Int32) (x5 : Int32) (x6 : Int32) (xMeas : Nat → Int32) (ls : Array Slot) (H : Heap) (locs : List Loc) (hl : lv_has ls 8 [(0, .ref (a 3)), (1, .int x1), (2, .int x2), (3, .int x3), (4, .int x4), (5, .int x5), (6, .int x6)]) (hP : va_P D vwCl (wX k a xLen xHits xUns xItems xLost xKind xSize xLet xRel xLim xOpen xMeas xSL xST xSD xSK xTal xKn xFT xFA xFE xOdds xPat xFind) H) (hD : va_D A (wX k a xLen xHits xUns xItems xLost xKind xSize xLet xRel xLim xOpen xMeas xSL xST xSD xSK xTal xKn xFT xFA xFE xOdds xPat xFind)) (hS : va_S A s.heap H locs) (h : f_X6_hold_94 N (fun y0 y1 y2 y3 y4 y5 y6 y7 y8 y9 y10 y11 => f_X6_hold_9 N n9 y0 y1 y2 y3 y4 y5 y6 y7 y8 y9 y10 y11) x1 x2 x3 x4 x5 x6 xLet xRel xLim xOpen xMeas xST = some o), gQi p l e wo_X6_hold 3 s m args below meth c D k A o.1 (wX k a xLen xHits xUns xItems xLost xKind xSize xLet xRel xLim xOpen o.2 xSL xST xSD xSK xTal xKn xFT xFA xFE xOdds xPat xFind) H locs (F0 m 94 ls []) := by
        intro x1 x2 x3 x4 x5 x6 xMeas ls H locs hl hP hD hS h
        unfold f_X6_hold_94 at h
        refine lv_iinc (v := (x6 + 1)) (lv' := [(6, .int (x6 + 1)), (0, .ref (a 3)), (1, .int x1), (2, .int x2), (3, .int x3), (4, .int x4), (5, .int x5)]) hx hb dX6_hold_94 hl (k := 6) rfl rfl (by decide) rfl (fun ls hl => ?_)
        refine lv_goto (tgt := 9) hx hb dX6_hold_97 (by decide) ?_
        exact ih9 x1 x2 x3 x4 x5 (x6 + 1) xMeas ls H locs (lv_sub hl [1, 2, 3, 4, 5, 6, 0] rfl) hP hD hS h
      have J86 : ∀ (x1 : Int32) (x2 : Int32) (x3 : Int32) (x5 : Int32) (x6 : Int32) (xMeas : Nat → Int32) (ls : Array Slot) (H : Heap) (locs : List Loc) (hl : lv_has ls 8 [(0, .ref (a 3)), (1, .int x1), (2, .int x2), (3, .int x3), (5, .int x5), (6, .int x6)]) (hP : va_P D vwCl (wX k a xLen xHits xUns xItems xLost xKind xSize xLet xRel xLim xOpen xMeas xSL xST xSD xSK xTal xKn xFT xFA xFE xOdds xPat xFind) H) (hD : va_D A (wX k a xLen xHits xUns xItems xLost xKind xSize xLet xRel xLim xOpen xMeas xSL xST xSD xSK xTal xKn xFT xFA xFE xOdds xPat xFind)) (hS : va_S A s.heap H locs) (h : f_X6_hold_86 N (fun y0 y1 y2 y3 y4 y5 y6 y7 y8 y9 y10 y11 => f_X6_hold_9 N n9 y0 y1 y2 y3 y4 y5 y6 y7 y8 y9 y10 y11) x1 x2 x3 x5 x6 xLet xRel xLim xOpen xMeas xST = some o), gQi p l e wo_X6_hold 3 s m args below meth c D k A o.1 (wX k a xLen xHits xUns xItems xLost xKind xSize xLet xRel xLim xOpen o.2 xSL xST xSD xSK xTal xKn xFT xFA xFE xOdds xPat xFind) H locs (F0 m 86 ls []) := by
        intro x1 x2 x3 x5 x6 xMeas ls H locs hl hP hD hS h
        unfold f_X6_hold_86 at h
        refine lv_aload_n hx hb dX6_hold_86 rfl (lv_at hl 0 rfl) ?_
        refine lv_iload hx hb dX6_hold_87 (lv_at hl 5 rfl) ?_
        obtain ⟨o1, eq2, h⟩ := bnd_some h
        refine kRiV (rest := []) (q0 := 3) ⟨hx, hb, hml, hown, hts⟩ (c_X6_isDone l D k a xLen xHits xUns xItems xLost xKind xSize xLet xRel xLim xOpen xMeas xSL xST xSD xSK xTal xKn xFT xFA xFE xOdds xPat xFind x6 eq2) (cwV 1 hts (gAV wm_447 wm_448 wm_449 wm_22 wm_450) rfl rfl rfl qd_X6_isDone ⟨Nat.le_of_ble_eq_true rfl, Nat.le_of_ble_eq_true rfl⟩) hK hP (rfl) rfl rfl hl.1 rfl (Nat.le_of_ble_eq_true rfl) dX6_hold_89 ⟨Nat.zero_le _, Nat.zero_le _⟩ ?_
        refine lv_istore (lv' := [(4, .int o1), (0, .ref (a 3)), (1, .int x1), (2, .int x2), (3, .int x3), (5, .int x5), (6, .int x6)]) hx hb dX6_hold_92 hl (by decide) rfl (fun ls hl => ?_)
        exact J94 x1 x2 x3 o1 x5 x6 xMeas ls H locs (lv_sub hl [1, 2, 3, 4, 0, 5, 6] rfl) hP hD hS h
      have J38 : ∀ (x1 : Int32) (x2 : Int32) (x3 : Int32) (x4 : Int32) (x5 : Int32) (x6 : Int32) (xMeas : Nat → Int32) (ls : Array Slot) (H : Heap) (locs : List Loc) (hl : lv_has ls 8 [(0, .ref (a 3)), (1, .int x1), (2, .int x2), (3, .int x3), (4, .int x4), (5, .int x5), (6, .int x6)]) (hP : va_P D vwCl (wX k a xLen xHits xUns xItems xLost xKind xSize xLet xRel xLim xOpen xMeas xSL xST xSD xSK xTal xKn xFT xFA xFE xOdds xPat xFind) H) (hD : va_D A (wX k a xLen xHits xUns xItems xLost xKind xSize xLet xRel xLim xOpen xMeas xSL xST xSD xSK xTal xKn xFT xFA xFE xOdds xPat xFind)) (hS : va_S A s.heap H locs) (h : f_X6_hold_38 N (fun y0 y1 y2 y3 y4 y5 y6 y7 y8 y9 y10 y11 => f_X6_hold_9 N n9 y0 y1 y2 y3 y4 y5 y6 y7 y8 y9 y10 y11) x1 x2 x3 x4 x5 x6 xLet xRel xLim xOpen xMeas xST = some o), gQi p l e wo_X6_hold 3 s m args below meth c D k A o.1 (wX k a xLen xHits xUns xItems xLost xKind xSize xLet xRel xLim xOpen o.2 xSL xST xSD xSK xTal xKn xFT xFA xFE xOdds xPat xFind) H locs (F0 m 38 ls []) := by
        intro x1 x2 x3 x4 x5 x6 xMeas ls H locs hl hP hD hS h
        unfold f_X6_hold_38 at h
        refine lv_iload hx hb dX6_hold_38 (lv_at hl 4 rfl) ?_
        refine lv_if_eq (tgt := 94) hx hb dX6_hold_40 (by decide) (fun c3 => ?_) (fun c3 => ?_)
        · replace h := (if_pos c3).symm.trans h
          exact J94 x1 x2 x3 x4 x5 x6 xMeas ls H locs (lv_sub hl [0, 1, 2, 3, 4, 5, 6] rfl) hP hD hS h
        · replace h := (if_neg c3).symm.trans h
          refine lv_aload_n hx hb dX6_hold_43 rfl (lv_at hl 0 rfl) ?_
          refine va_get (D := D) (ci := 2) (v := .ref (a 4)) (C := RX6) (T := TX6) (N := 9) hx hb hts hi6 hown hK hP (3) (rfl) rfl 0 (by decide) kf11 (fun _ h9 => h9) rfl dX6_hold_44 ?_
          refine lv_iload hx hb dX6_hold_47 (lv_at hl 6 rfl) ?_
          obtain ⟨g4, h⟩ := gIn_some h
          refine va_iald hx hb hK hP (4) 0 (rfl) rfl g4 dX6_hold_49 ?_
          refine lv_istore (lv' := [(7, .int (xLet x6.toNatClampNeg)), (0, .ref (a 3)), (1, .int x1), (2, .int x2), (3, .int x3), (4, .int x4), (5, .int x5), (6, .int x6)]) hx hb dX6_hold_50 hl (by decide) rfl (fun ls hl => ?_)
          refine lv_iload hx hb dX6_hold_52 (lv_at hl 6 rfl) ?_
          refine lv_iload hx hb dX6_hold_54 (lv_at hl 0 rfl) ?_
          refine lv_ishr hx hb dX6_hold_56 ?_
          refine lv_iconst (v := 1) hx hb dX6_hold_57 (by decide) ?_
          refine lv_iand hx hb dX6_hold_58 ?_
          refine lv_if_ne (tgt := 86) hx hb dX6_hold_59 (by decide) (fun c5 => ?_) (fun c5 => ?_)
          · replace h := (if_neg c5).symm.trans h
            exact J86 x1 x2 x3 x5 x6 xMeas ls H locs (lv_sub hl [1, 2, 3, 4, 6, 7] rfl) hP hD hS h
          · replace h := (if_pos c5).symm.trans h
            refine lv_aload_n hx hb dX6_hold_62 rfl (lv_at hl 1 rfl) ?_
            refine va_get (D := D) (ci := 2) (v := .ref (a 8)) (C := RX6) (T := TX6) (N := 9) hx hb hts hi6 hown hK hP (3) (rfl) rfl 4 (by decide) kf25 (fun _ h9 => h9) rfl dX6_hold_63 ?_
            refine lv_iload hx hb dX6_hold_66 (lv_at hl 0 rfl) ?_
            refine lv_iload hx hb dX6_hold_68 (lv_at hl 0 rfl) ?_
            refine lv_iload_n hx hb dX6_hold_70 rfl (lv_at hl 2 rfl) ?_
            refine lv_iload_n hx hb dX6_hold_71 rfl (lv_at hl 3 rfl) ?_
            refine lv_iload_n hx hb dX6_hold_72 rfl (lv_at hl 4 rfl) ?_
            obtain ⟨o6, eq7, h⟩ := bnd_some h
            refine kPi (rest := [.int (xLet x6.toNatClampNeg), .ref (a 8)]) ⟨hx, hb, hml, hown, hts⟩ (c_X3_measure l (xLet x6.toNatClampNeg) x1 x2 x3 eq7) (va_cwS 4 hts (gAS wm_446 wm_202 wm_203 wm_204) rfl rfl rfl qd_X3_measure ⟨Nat.le_of_ble_eq_true rfl, Nat.le_of_ble_eq_true rfl⟩) rfl hl.1 rfl (Nat.le_of_ble_eq_true rfl) dX6_hold_73 ⟨Nat.zero_le _, Nat.zero_le _⟩ ?_
            obtain ⟨g8, h⟩ := gIn_some h
            refine va_iast hx hb hK hP hD hS (8) 0 (rfl) rfl g8 dX6_hold_76 (fun H locs hP hD hS => ?_)
            have hP : va_P D vwCl (wX k a xLen xHits xUns xItems xLost xKind xSize xLet xRel xLim xOpen (upd xMeas (xLet x6.toNatClampNeg).toNatClampNeg o6) xSL xST xSD xSK xTal xKn xFT xFA xFE xOdds xPat xFind) H := hP
            have hD : va_D A (wX k a xLen xHits xUns xItems xLost xKind xSize xLet xRel xLim xOpen (upd xMeas (xLet x6.toNatClampNeg).toNatClampNeg o6) xSL xST xSD xSK xTal xKn xFT xFA xFE xOdds xPat xFind) := hD
            refine lv_iload hx hb dX6_hold_77 (lv_at hl 6 rfl) ?_
            refine lv_iconst (v := 1) hx hb dX6_hold_79 (by decide) ?_
            refine lv_iload hx hb dX6_hold_80 (lv_at hl 0 rfl) ?_
            refine lv_ishl hx hb dX6_hold_82 ?_
            refine lv_ior hx hb dX6_hold_83 ?_
            refine lv_istore (lv' := [(5, .int (x5 ||| ((1 : Int32) <<< ((xLet x6.toNatClampNeg) &&& 31)))), (7, .int (xLet x6.toNatClampNeg)), (0, .ref (a 3)), (1, .int x1), (2, .int x2), (3, .int x3), (4, .int x4), (6, .int x6)]) hx hb dX6_hold_84 hl (by decide) rfl (fun ls hl => ?_)
            exact J86 x1 x2 x3 (x5 ||| ((1 : Int32) <<< ((xLet x6.toNatClampNeg) &&& 31))) x6 (upd xMeas (xLet x6.toNatClampNeg).toNatClampNeg o6) ls H locs (lv_sub hl [2, 3, 4, 5, 0, 7] rfl) hP hD hS h
      intro x1 x2 x3 x4 x5 x6 xMeas ls H locs hl hP hD hS h
      rw [f_X6_hold_9] at h
      refine lv_iload hx hb dX6_hold_9 (lv_at hl 6 rfl) ?_
      refine lv_aload_n hx hb dX6_hold_11 rfl (lv_at hl 0 rfl) ?_
      refine va_get (D := D) (ci := 2) (v := .int xST) (C := RX6) (T := TX6) (N := 9) hx hb hts hi6 hown hK hP (3) (rfl) rfl 6 (by decide) kf35 (fun _ h9 => h9) rfl dX6_hold_12 ?_
      refine lv_icmp_ge (tgt := 100) hx hb dX6_hold_15 (by decide) (fun c9 => ?_) (fun c9 => ?_)
      · replace h := (if_pos c9).symm.trans h
        refine lv_iload hx hb dX6_hold_100 (lv_at hl 4 rfl) ?_
        obtain ⟨g10, h⟩ := gZ_some h
        have he := Option.some.inj h
        exact W.zret (v := x4) hx hb hr g10 (fun t ht hW => ⟨⟨x4, wX k a xLen xHits xUns xItems xLost xKind xSize xLet xRel xLim xOpen xMeas xSL xST xSD xSK xTal xKn xFT xFA xFE xOdds xPat xFind, rfl, ⟨(congrArg (fun z => z.1) he), (congrArg (fun z => wX k a xLen xHits xUns xItems xLost xKind xSize xLet xRel xLim xOpen z.2 xSL xST xSD xSK xTal xKn xFT xFA xFE xOdds xPat xFind) he)⟩, by rw [ht]; exact hP, va_K.moved hW.alike hK, hD⟩, hS.F ht⟩) hS.2.2 dX6_hold_102
      · replace h := (if_neg c9).symm.trans h
        refine lv_aload_n hx hb dX6_hold_18 rfl (lv_at hl 0 rfl) ?_
        refine va_get (D := D) (ci := 2) (v := .ref (a 7)) (C := RX6) (T := TX6) (N := 9) hx hb hts hi6 hown hK hP (3) (rfl) rfl 3 (by decide) kf21 (fun _ h9 => h9) rfl dX6_hold_19 ?_
        refine lv_iload hx hb dX6_hold_22 (lv_at hl 6 rfl) ?_
        obtain ⟨g11, h⟩ := gIn_some h
        refine va_zald hx hb hK hP (7) 1 (rfl) rfl g11 dX6_hold_24 ?_
        refine lv_if_eq (tgt := 38) hx hb dX6_hold_25 (by decide) (fun c12 => ?_) (fun c12 => ?_)
        · replace h := (if_pos c12).symm.trans h
          exact J38 x1 x2 x3 x4 x5 x6 xMeas ls H locs (lv_sub hl [0, 1, 2, 3, 4, 5, 6] rfl) hP hD hS h
        · replace h := (if_neg c12).symm.trans h
          refine lv_iload hx hb dX6_hold_28 (lv_at hl 4 rfl) ?_
          refine lv_if_eq (tgt := 35) hx hb dX6_hold_30 (by decide) (fun c13 => ?_) (fun c13 => ?_)
          · replace h := (if_pos c13).symm.trans h
            refine lv_iconst (v := 1) hx hb dX6_hold_35 (by decide) ?_
            refine lv_istore (lv' := [(4, .int 1), (0, .ref (a 3)), (1, .int x1), (2, .int x2), (3, .int x3), (5, .int x5), (6, .int x6)]) hx hb dX6_hold_36 hl (by decide) rfl (fun ls hl => ?_)
            exact J38 x1 x2 x3 1 x5 x6 xMeas ls H locs (lv_sub hl [1, 2, 3, 4, 0, 5, 6] rfl) hP hD hS h
          · replace h := (if_neg c13).symm.trans h
            refine lv_iconst (v := 1) hx hb dX6_hold_33 (by decide) ?_
            have he := Option.some.inj h
            exact W.zret (v := 1) hx hb hr rfl (fun t ht hW => ⟨⟨1, wX k a xLen xHits xUns xItems xLost xKind xSize xLet xRel xLim xOpen xMeas xSL xST xSD xSK xTal xKn xFT xFA xFE xOdds xPat xFind, rfl, ⟨(congrArg (fun z => z.1) he), (congrArg (fun z => wX k a xLen xHits xUns xItems xLost xKind xSize xLet xRel xLim xOpen z.2 xSL xST xSD xSK xTal xKn xFT xFA xFE xOdds xPat xFind) he)⟩, by rw [ht]; exact hP, va_K.moved hW.alike hK, hD⟩, hS.F ht⟩) hS.2.2 dX6_hold_34
  obtain ⟨H, hH⟩ : ∃ H : Heap, H = s.heap := ⟨_, rfl⟩
  obtain ⟨locs, hlc⟩ : ∃ locs : List Loc, locs = [] := ⟨_, rfl⟩
  have hS : va_S A s.heap H locs := by rw [hH, hlc]; exact va_S.rf
  have hP : va_P D vwCl (wX k a xLen xHits xUns xItems xLost xKind xSize xLet xRel xLim xOpen xMeas xSL xST xSD xSK xTal xKn xFT xFA xFE xOdds xPat xFind) H := by rw [hH]; exact hP
  suffices hGo : gQi p l e wo_X6_hold 3 s m args below meth c D k A o.1 (wX k a xLen xHits xUns xItems xLost xKind xSize xLet xRel xLim xOpen o.2 xSL xST xSD xSK xTal xKn xFT xFA xFE xOdds xPat xFind) H locs (F0 m 0 ls []) by rw [hH, hlc] at hGo; exact hGo
  refine lv_iconst (v := 1) hx hb dX6_hold_0 (by decide) ?_
  refine lv_istore (lv' := [(4, .int 1), (0, .ref (a 3)), (1, .int x1), (2, .int x2), (3, .int x3)]) hx hb dX6_hold_1 hl (by decide) rfl (fun ls hl => ?_)
  refine lv_iconst (v := 0) hx hb dX6_hold_3 (by decide) ?_
  refine lv_istore (lv' := [(5, .int 0), (4, .int 1), (0, .ref (a 3)), (1, .int x1), (2, .int x2), (3, .int x3)]) hx hb dX6_hold_4 hl (by decide) rfl (fun ls hl => ?_)
  refine lv_iconst (v := 0) hx hb dX6_hold_6 (by decide) ?_
  refine lv_istore (lv' := [(6, .int 0), (5, .int 0), (4, .int 1), (0, .ref (a 3)), (1, .int x1), (2, .int x2), (3, .int x3)]) hx hb dX6_hold_7 hl (by decide) rfl (fun ls hl => ?_)
  exact L9 N x1 x2 x3 1 0 0 xMeas ls H locs (lv_sub hl [3, 4, 5, 6, 2, 1, 0] rfl) hP hD hS h
set_option maxHeartbeats 4000000 in
set_option maxRecDepth 100000 in
theorem c_X6_hold {N : Nat} (l : Launch) (D : va_G) (k : Nat → ClassId) (a : Nat → Nat) (xLen : Nat → Int32) (xHits : Nat → Int32) (xUns : Nat → Int32) (xItems : Nat → Nat → Int32) (xLost : Nat → Int32) (xKind : Nat → Int32) (xSize : Nat → Int32) (xLet : Nat → Int32) (xRel : Nat → Int32) (xLim : Nat → Int32) (xOpen : Nat → Int32) (xMeas : Nat → Int32) (xSL : Int32) (xST : Int32) (xSD : Int32) (xSK : Int32) (xTal : Nat → Nat → Int32) (xKn : Nat → Int32) (xFT : Nat → Int32) (xFA : Int32) (xFE : Int32) (xOdds : Int32) (xPat : Int32) (xFind : Int32) (x1 : Int32) (x2 : Int32) (x3 : Int32) {o : Int32 × (Nat → Int32)} (h : f_X6_hold N x1 x2 x3 xLet xRel xLim xOpen xMeas xST = some o) : mQi l yX6_hold wo_X6_hold 3 D k [.ref (a 3), .int x1, .int x2, .int x3] (wX k a xLen xHits xUns xItems xLost xKind xSize xLet xRel xLim xOpen xMeas xSL xST xSD xSK xTal xKn xFT xFA xFE xOdds xPat xFind) o.1 (wX k a xLen xHits xUns xItems xLost xKind xSize xLet xRel xLim xOpen o.2 xSL xST xSD xSK xTal xKn xFT xFA xFE xOdds xPat xFind) := by
  intro sz
  refine Met.ofW (cc := cX6_hold) (maxL := 8) (ret := some .boolean) (by decide) rfl ?_
  intro p e s m args below meth c s₁ B hml hv
  obtain ⟨rfl, hsz, hP, hK, hD0⟩ := hv
  subst hsz
  rw [lg_entry_eq]
  exact core_X6_hold D k a xLen xHits xUns xItems xLost xKind xSize xLet xRel xLim xOpen xMeas xSL xST xSD xSK xTal xKn xFT xFA xFE xOdds xPat xFind x1 x2 x3 B.exec B.bytes hml B.returns (atoms_spec (ws := wo_X6_hold) B.pre) (findClass_of_methodNamed B.named) B.notSynchronized (lv_entry [.ref (a 3), .int x1, .int x2, .int x3] (n := 8) (Nat.le_of_ble_eq_true rfl)) hK hP hD0.self (fun q h => Or.inr h) h
theorem qd_X6_hold : yX6_hold.cls = RX6 ∧ yX6_hold.cls ≠ "java/lang/invoke/MethodHandle" ∧ yX6_hold.cls ≠ "java/lang/invoke/VarHandle" ∧ (parseMethodDescriptor yX6_hold.desc).map (fun d => d.parameters.length) = some 3 := by decide +kernel
abbrev wo_X9_sum : List Cond := .code yX9_sum cX9_sum 6 (some .int) :: wsL_law
set_option maxHeartbeats 4000000 in
set_option maxRecDepth 100000 in
theorem core_X9_sum {N : Nat} (D : va_G) (k : Nat → ClassId) (ws : va_W) (q b : Nat) (gf : Nat → Int32) (hq : ws[q]? = some (b, .inl (k 0, 16, .inl gf)))  {p : Program} {l : Launch} {e : Env} {s : State} {m : MethodId} {args : Array Value} {below : List Frame} {meth : Method} {c : Code} {ls : Array Slot} (hx : p.tables.exec = Jvm.exec) (hb : c.code = cX9_sum) (hml : c.maxLocals = 6) (hr : meth.sig.returnType = some .int) (hts : ∀ w ∈ wo_X9_sum, w.before args s = true) (hown : s.vm.findClass RX9 = some m.cls) (hlocks : meth.locks = false) (hl : lv_has ls 6 [(0, .ref b)]) (hK : va_K D vwCl (xTys k) s) (hP : va_P D vwCl (ws) s.heap) {o : Int32} (h : f_X9_sum N gf = some o) : gRi p l e wo_X9_sum 0 s m args below meth c o (F0 m 0 ls []) := by
  unfold f_X9_sum at h
  have L10 : ∀ (n10 : Nat) (x1 : Int32) (x3 : Int32) (x4 : Int32) (ls : Array Slot) (hl : lv_has ls 6 [(1, .int x1), (2, .ref b), (3, .int x3), (4, .int x4)]) (h : f_X9_sum_10 N gf n10 x1 x3 x4 = some o), gRi p l e wo_X9_sum 0 s m args below meth c o (F0 m 10 ls []) := by
    intro n10
    induction n10 with
    | zero => intro x1 x3 x4 ls hl h; cases (show (none : Option (Int32)) = some o from h)
    | succ n10 ih10 =>
      intro x1 x3 x4 ls hl h
      rw [f_X9_sum_10] at h
      refine lv_iload hx hb dX9_sum_10 (lv_at hl 3 rfl) ?_
      refine lv_iload_n hx hb dX9_sum_12 rfl (lv_at hl 2 rfl) ?_
      refine lv_icmp_ge (tgt := 33) hx hb dX9_sum_13 (by decide) (fun c1 => ?_) (fun c1 => ?_)
      · replace h := (if_pos c1).symm.trans h
        refine lv_iload_n hx hb dX9_sum_33 rfl (lv_at hl 0 rfl) ?_
        exact W.iret (v := x1) hx hb hr (fun t ht hW => ⟨_, rfl, Option.some.inj h, ht⟩) (fun q hq => by cases hq) dX9_sum_34
      · replace h := (if_neg c1).symm.trans h
        refine lv_aload_n hx hb dX9_sum_16 rfl (lv_at hl 1 rfl) ?_
        refine lv_iload hx hb dX9_sum_17 (lv_at hl 3 rfl) ?_
        obtain ⟨g2, h⟩ := gIn_some h
        refine va_iald hx hb hK hP (q) 0 (hq) rfl g2 dX9_sum_19 ?_
        refine lv_istore (lv' := [(5, .int (gf x4.toNatClampNeg)), (1, .int x1), (2, .ref b), (3, .int x3), (4, .int x4)]) hx hb dX9_sum_20 hl (by decide) rfl (fun ls hl => ?_)
        refine lv_iload_n hx hb dX9_sum_22 rfl (lv_at hl 1 rfl) ?_
        refine lv_iload hx hb dX9_sum_23 (lv_at hl 0 rfl) ?_
        refine lv_iadd hx hb dX9_sum_25 ?_
        refine lv_istore_n (lv' := [(1, .int (x1 + (gf x4.toNatClampNeg))), (5, .int (gf x4.toNatClampNeg)), (2, .ref b), (3, .int x3), (4, .int x4)]) hx hb dX9_sum_26 rfl hl (by decide) rfl (fun ls hl => ?_)
        refine lv_iinc (v := (x4 + 1)) (lv' := [(4, .int (x4 + 1)), (1, .int (x1 + (gf x4.toNatClampNeg))), (5, .int (gf x4.toNatClampNeg)), (2, .ref b), (3, .int x3)]) hx hb dX9_sum_27 hl (k := 4) rfl rfl (by decide) rfl (fun ls hl => ?_)
        refine lv_goto (tgt := 10) hx hb dX9_sum_30 (by decide) ?_
        exact ih10 (x1 + (gf x4.toNatClampNeg)) x3 (x4 + 1) ls (lv_sub hl [1, 3, 4, 0] rfl) h
  refine lv_iconst (v := 0) hx hb dX9_sum_0 (by decide) ?_
  refine lv_istore_n (lv' := [(1, .int 0), (0, .ref b)]) hx hb dX9_sum_1 rfl hl (by decide) rfl (fun ls hl => ?_)
  refine lv_aload_n hx hb dX9_sum_2 rfl (lv_at hl 1 rfl) ?_
  refine lv_astore_n (lv' := [(2, .ref b), (1, .int 0), (0, .ref b)]) hx hb dX9_sum_3 rfl hl (by decide) rfl (fun ls hl => ?_)
  refine lv_aload_n hx hb dX9_sum_4 rfl (lv_at hl 0 rfl) ?_
  refine va_alen (v := 16) hx hb hK hP (q) 0 (hq) rfl rfl dX9_sum_5 ?_
  refine lv_istore_n (lv' := [(3, .int 16), (2, .ref b), (1, .int 0), (0, .ref b)]) hx hb dX9_sum_6 rfl hl (by decide) rfl (fun ls hl => ?_)
  refine lv_iconst (v := 0) hx hb dX9_sum_7 (by decide) ?_
  refine lv_istore (lv' := [(4, .int 0), (3, .int 16), (2, .ref b), (1, .int 0), (0, .ref b)]) hx hb dX9_sum_8 hl (by decide) rfl (fun ls hl => ?_)
  exact L10 N 0 16 0 ls (lv_sub hl [3, 2, 1, 0] rfl) h
set_option maxHeartbeats 4000000 in
set_option maxRecDepth 100000 in
theorem c_X9_sum {N : Nat} (l : Launch) (D : va_G) (k : Nat → ClassId) (ws : va_W) (q b : Nat) (gf : Nat → Int32) (hq : ws[q]? = some (b, .inl (k 0, 16, .inl gf)))  {o : Int32} (h : f_X9_sum N gf = some o) : mRi l yX9_sum wo_X9_sum 0 D k [.ref b] (ws) o := by
  refine Met.ofW (cc := cX9_sum) (maxL := 6) (ret := some .int) (by decide) rfl ?_
  intro p e s m args below meth c s₁ B hml hv
  obtain ⟨rfl, hP, hK⟩ := hv
  rw [lg_entry_eq]
  exact core_X9_sum D k ws q b gf hq  B.exec B.bytes hml B.returns (atoms_spec (ws := wo_X9_sum) B.pre) (findClass_of_methodNamed B.named) B.notSynchronized (lv_entry [.ref b] (n := 6) (Nat.le_of_ble_eq_true rfl)) hK hP h
theorem qd_X9_sum : yX9_sum.cls ≠ "java/lang/invoke/MethodHandle" ∧ yX9_sum.cls ≠ "java/lang/invoke/VarHandle" ∧ (parseMethodDescriptor yX9_sum.desc).map (fun d => d.parameters.length) = some 1 := by decide +kernel
abbrev wo_X9_sharePart : List Cond := .code yX9_sharePart cX9_sharePart 9 (some .long) :: wsL_law
set_option maxHeartbeats 4000000 in
set_option maxRecDepth 100000 in
theorem core_X9_sharePart {N : Nat} (D : va_G) (k : Nat → ClassId) (ws : va_W) (q b : Nat) (gf : Nat → Int32) (hq : ws[q]? = some (b, .inl (k 0, 16, .inl gf))) (x1 : Int32) (x2 : Int32) (x3 : Int32) {p : Program} {l : Launch} {e : Env} {s : State} {m : MethodId} {args : Array Value} {below : List Frame} {meth : Method} {c : Code} {ls : Array Slot} (hx : p.tables.exec = Jvm.exec) (hb : c.code = cX9_sharePart) (hml : c.maxLocals = 9) (hr : meth.sig.returnType = some .long) (hts : ∀ w ∈ wo_X9_sharePart, w.before args s = true) (hown : s.vm.findClass RX9 = some m.cls) (hlocks : meth.locks = false) (hl : lv_has ls 9 [(0, .ref b), (1, .int x1), (2, .int x2), (3, .int x3)]) (hK : va_K D vwCl (xTys k) s) (hP : va_P D vwCl (ws) s.heap) {o : Int64} (h : f_X9_sharePart N x1 x2 x3 gf = some o) : gRl p l e wo_X9_sharePart 2 s m args below meth c o (F0 m 0 ls []) := by
  have kc15 := hts _ (List.mem_cons_of_mem _ wm_507)
  unfold f_X9_sharePart at h
  have J60 : ∀ (x1 : Int32) (x3 : Int32) (x4 : Int64) (ls : Array Slot) (hl : lv_has ls 9 [(1, .int x1), (3, .int x3), (4, .long x4)]) (h : f_X9_sharePart_60 N gf x1 x3 x4 = some o), gRl p l e wo_X9_sharePart 2 s m args below meth c o (F0 m 60 ls []) := by
    intro x1 x3 x4 ls hl h
    unfold f_X9_sharePart_60 at h
    refine lv_lload hx hb dX9_sharePart_60 (lv_at hl 2 rfl) ?_
    refine lv_ldc2 (v := 16) hx hb hown kc15 dX9_sharePart_62 ?_
    refine lv_iload_n hx hb dX9_sharePart_65 rfl (lv_at hl 0 rfl) ?_
    obtain ⟨o1, eq2, h⟩ := bnd_some h
    refine kPl (rest := [.long x4]) ⟨hx, hb, hml, hown, hts⟩ (c_X1_power l 16 x1 eq2) (va_cwS 2 hts (gAS wm_508 wm_509 wm_510 wm_511) rfl rfl rfl qd_X1_power ⟨Nat.le_of_ble_eq_true rfl, Nat.le_of_ble_eq_true rfl⟩) rfl hl.1 rfl (Nat.le_of_ble_eq_true rfl) dX9_sharePart_66 ⟨Nat.zero_le _, Nat.zero_le _⟩ ?_
    refine lv_iload_n hx hb dX9_sharePart_69 rfl (lv_at hl 1 rfl) ?_
    obtain ⟨o3, eq4, h⟩ := bnd_some h
    refine kPl (rest := []) ⟨hx, hb, hml, hown, hts⟩ (c_X1_part l x4 o1 x3 eq4) (va_cwS 3 hts (gAS wm_512 wm_513 wm_510 wm_514) rfl rfl rfl qd_X1_part ⟨Nat.le_of_ble_eq_true rfl, Nat.le_of_ble_eq_true rfl⟩) rfl hl.1 rfl (Nat.le_of_ble_eq_true rfl) dX9_sharePart_70 ⟨Nat.zero_le _, Nat.zero_le _⟩ ?_
    exact W.lret (v := o3) hx hb hr (fun t ht hW => ⟨_, rfl, Option.some.inj h, ht⟩) (fun q hq => by cases hq) dX9_sharePart_73
  have L6 : ∀ (n6 : Nat) (x1 : Int32) (x2 : Int32) (x3 : Int32) (x4 : Int64) (x6 : Int32) (ls : Array Slot) (hl : lv_has ls 9 [(0, .ref b), (1, .int x1), (2, .int x2), (3, .int x3), (4, .long x4), (6, .int x6)]) (h : f_X9_sharePart_6 N gf n6 x1 x2 x3 x4 x6 = some o), gRl p l e wo_X9_sharePart 2 s m args below meth c o (F0 m 6 ls []) := by
    intro n6
    induction n6 with
    | zero => intro x1 x2 x3 x4 x6 ls hl h; cases (show (none : Option (Int64)) = some o from h)
    | succ n6 ih6 =>
      intro x1 x2 x3 x4 x6 ls hl h
      rw [f_X9_sharePart_6] at h
      refine lv_iload hx hb dX9_sharePart_6 (lv_at hl 5 rfl) ?_
      refine lv_iload_n hx hb dX9_sharePart_8 rfl (lv_at hl 1 rfl) ?_
      refine lv_icmp_gt (tgt := 60) hx hb dX9_sharePart_9 (by decide) (fun c5 => ?_) (fun c5 => ?_)
      · replace h := (if_pos c5).symm.trans h
        exact J60 x1 x3 x4 ls (lv_sub hl [1, 3, 4] rfl) h
      · replace h := (if_neg c5).symm.trans h
        refine lv_iload hx hb dX9_sharePart_12 (lv_at hl 5 rfl) ?_
        refine lv_aload_n hx hb dX9_sharePart_14 rfl (lv_at hl 0 rfl) ?_
        refine va_alen (v := 16) hx hb hK hP (q) 0 (hq) rfl rfl dX9_sharePart_15 ?_
        refine lv_icmp_ge (tgt := 60) hx hb dX9_sharePart_16 (by decide) (fun c6 => ?_) (fun c6 => ?_)
        · replace h := (if_pos c6).symm.trans h
          exact J60 x1 x3 x4 ls (lv_sub hl [1, 3, 4] rfl) h
        · replace h := (if_neg c6).symm.trans h
          refine lv_iload_n hx hb dX9_sharePart_19 rfl (lv_at hl 2 rfl) ?_
          refine lv_i2l (v := x2.toInt64) hx hb dX9_sharePart_20 rfl ?_
          refine lv_iload hx hb dX9_sharePart_21 (lv_at hl 5 rfl) ?_
          obtain ⟨o7, eq8, h⟩ := bnd_some h
          refine kPl (rest := []) ⟨hx, hb, hml, hown, hts⟩ (c_X1_power l x2.toInt64 x6 eq8) (va_cwS 2 hts (gAS wm_508 wm_509 wm_510 wm_511) rfl rfl rfl qd_X1_power ⟨Nat.le_of_ble_eq_true rfl, Nat.le_of_ble_eq_true rfl⟩) rfl hl.1 rfl (Nat.le_of_ble_eq_true rfl) dX9_sharePart_23 ⟨Nat.zero_le _, Nat.zero_le _⟩ ?_
          refine lv_bipush (v := 16) hx hb dX9_sharePart_26 (by decide) ?_
          refine lv_iload_n hx hb dX9_sharePart_28 rfl (lv_at hl 2 rfl) ?_
          refine lv_isub hx hb dX9_sharePart_29 ?_
          refine lv_i2l (v := ((16 : Int32) - x2).toInt64) hx hb dX9_sharePart_30 rfl ?_
          refine lv_iload_n hx hb dX9_sharePart_31 rfl (lv_at hl 1 rfl) ?_
          refine lv_iload hx hb dX9_sharePart_32 (lv_at hl 5 rfl) ?_
          refine lv_isub hx hb dX9_sharePart_34 ?_
          obtain ⟨o9, eq10, h⟩ := bnd_some h
          refine kPl (rest := [.long o7]) ⟨hx, hb, hml, hown, hts⟩ (c_X1_power l (((16 : Int32) - x2).toInt64) (x1 - x6) eq10) (va_cwS 2 hts (gAS wm_508 wm_509 wm_510 wm_511) rfl rfl rfl qd_X1_power ⟨Nat.le_of_ble_eq_true rfl, Nat.le_of_ble_eq_true rfl⟩) rfl hl.1 rfl (Nat.le_of_ble_eq_true rfl) dX9_sharePart_35 ⟨Nat.zero_le _, Nat.zero_le _⟩ ?_
          refine lv_lmul hx hb dX9_sharePart_38 ?_
          refine lv_lstore (lv' := [(7, .long (o7 * o9)), (0, .ref b), (1, .int x1), (2, .int x2), (3, .int x3), (4, .long x4), (6, .int x6)]) hx hb dX9_sharePart_39 hl (by decide) rfl (fun ls hl => ?_)
          refine lv_lload hx hb dX9_sharePart_41 (lv_at hl 5 rfl) ?_
          refine lv_aload_n hx hb dX9_sharePart_43 rfl (lv_at hl 1 rfl) ?_
          refine lv_iload hx hb dX9_sharePart_44 (lv_at hl 6 rfl) ?_
          obtain ⟨g11, h⟩ := gIn_some h
          refine va_iald hx hb hK hP (q) 0 (hq) rfl g11 dX9_sharePart_46 ?_
          refine lv_i2l (v := (gf x6.toNatClampNeg).toInt64) hx hb dX9_sharePart_47 rfl ?_
          refine lv_lload hx hb dX9_sharePart_48 (lv_at hl 0 rfl) ?_
          refine lv_lmul hx hb dX9_sharePart_50 ?_
          refine lv_ladd hx hb dX9_sharePart_51 ?_
          refine lv_lstore (lv' := [(4, .long (x4 + ((gf x6.toNatClampNeg).toInt64 * (o7 * o9)))), (7, .long (o7 * o9)), (0, .ref b), (1, .int x1), (2, .int x2), (3, .int x3), (6, .int x6)]) hx hb dX9_sharePart_52 hl (by decide) rfl (fun ls hl => ?_)
          refine lv_iinc (v := (x6 + 1)) (lv' := [(6, .int (x6 + 1)), (4, .long (x4 + ((gf x6.toNatClampNeg).toInt64 * (o7 * o9)))), (7, .long (o7 * o9)), (0, .ref b), (1, .int x1), (2, .int x2), (3, .int x3)]) hx hb dX9_sharePart_54 hl (k := 6) rfl rfl (by decide) rfl (fun ls hl => ?_)
          refine lv_goto (tgt := 6) hx hb dX9_sharePart_57 (by decide) ?_
          exact ih6 x1 x2 x3 (x4 + ((gf x6.toNatClampNeg).toInt64 * (o7 * o9))) (x6 + 1) ls (lv_sub hl [3, 4, 5, 6, 1, 0] rfl) h
  refine lv_lconst (v := 0) hx hb dX9_sharePart_0 rfl ?_
  refine lv_lstore (lv' := [(4, .long 0), (0, .ref b), (1, .int x1), (2, .int x2), (3, .int x3)]) hx hb dX9_sharePart_1 hl (by decide) rfl (fun ls hl => ?_)
  refine lv_iconst (v := 0) hx hb dX9_sharePart_3 (by decide) ?_
  refine lv_istore (lv' := [(6, .int 0), (4, .long 0), (0, .ref b), (1, .int x1), (2, .int x2), (3, .int x3)]) hx hb dX9_sharePart_4 hl (by decide) rfl (fun ls hl => ?_)
  exact L6 N x1 x2 x3 0 0 ls (lv_sub hl [2, 3, 4, 5, 1, 0] rfl) h
set_option maxHeartbeats 4000000 in
set_option maxRecDepth 100000 in
theorem c_X9_sharePart {N : Nat} (l : Launch) (D : va_G) (k : Nat → ClassId) (ws : va_W) (q b : Nat) (gf : Nat → Int32) (hq : ws[q]? = some (b, .inl (k 0, 16, .inl gf))) (x1 : Int32) (x2 : Int32) (x3 : Int32) {o : Int64} (h : f_X9_sharePart N x1 x2 x3 gf = some o) : mRl l yX9_sharePart wo_X9_sharePart 2 D k [.ref b, .int x1, .int x2, .int x3] (ws) o := by
  refine Met.ofW (cc := cX9_sharePart) (maxL := 9) (ret := some .long) (by decide) rfl ?_
  intro p e s m args below meth c s₁ B hml hv
  obtain ⟨rfl, hP, hK⟩ := hv
  rw [lg_entry_eq]
  exact core_X9_sharePart D k ws q b gf hq x1 x2 x3 B.exec B.bytes hml B.returns (atoms_spec (ws := wo_X9_sharePart) B.pre) (findClass_of_methodNamed B.named) B.notSynchronized (lv_entry [.ref b, .int x1, .int x2, .int x3] (n := 9) (Nat.le_of_ble_eq_true rfl)) hK hP h
theorem qd_X9_sharePart : yX9_sharePart.cls ≠ "java/lang/invoke/MethodHandle" ∧ yX9_sharePart.cls ≠ "java/lang/invoke/VarHandle" ∧ (parseMethodDescriptor yX9_sharePart.desc).map (fun d => d.parameters.length) = some 4 := by decide +kernel
