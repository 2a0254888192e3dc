abbrev wo_X3_measure : List Cond := .code yX3_measure cX3_measure 4 (some .int) :: wsL_law
set_option maxHeartbeats 4000000 in
set_option maxRecDepth 100000 in
theorem core_X3_measure {N : Nat} (x0 : Int32) (x1 : Int32) (x2 : Int32) (x3 : Int32) {p : Program} {l : Launch} {e : Env} {s : State} {m : MethodId} {args : Array Value} {below : List Frame} {meth : Method} {c : Code} {ls : Array Slot} (hx : p.tables.exec = Jvm.exec) (hb : c.code = cX3_measure) (hml : c.maxLocals = 4) (hr : meth.sig.returnType = some .int) (hts : ∀ w ∈ wo_X3_measure, w.before args s = true) (hown : s.vm.findClass RX3 = some m.cls) (hlocks : meth.locks = false) (hl : lv_has ls 4 [(0, .int x0), (1, .int x1), (2, .int x2), (3, .int x3)]) {o : Int32} (h : f_X3_measure N x0 x1 x2 x3 = some o) : gRi p l e wo_X3_measure 2 s m args below meth c o (F0 m 0 ls []) := by
  have ml24 := hts _ (List.mem_cons_of_mem _ wm_205)
  have ms24 := hts _ (List.mem_cons_of_mem _ wm_206)
  have mi24 := hts _ (List.mem_cons_of_mem _ wm_207)
  have mc24 := hts _ (List.mem_cons_of_mem _ wm_208)
  unfold f_X3_measure at h
  refine lv_iload_n hx hb dX3_measure_0 rfl (lv_at hl 0 rfl) ?_
  by_cases c1 : x0 = 0
  · replace h := (if_pos c1).symm.trans h
    refine lv_tableIn (tgt := 40) hx hb dX3_measure_1 (by rw [c1]; decide) (by rw [c1]; decide) (by rw [c1]; rfl) (by decide) ?_
    refine lv_iload_n hx hb dX3_measure_40 rfl (lv_at hl 2 rfl) ?_
    obtain ⟨o2, eq3, h⟩ := bnd_some h
    refine kPi (rest := []) ⟨hx, hb, hml, hown, hts⟩ (c_J6_bitCount_0f7a4 l x2 eq3) (va_cwS 1 hts (gAS wm_209 wm_210 wm_211 wm_212) rfl rfl rfl qd_J6_bitCount_0f7a4 ⟨Nat.le_of_ble_eq_true rfl, Nat.le_of_ble_eq_true rfl⟩) rfl hl.1 rfl (Nat.le_of_ble_eq_true rfl) dX3_measure_41 ⟨Nat.zero_le _, Nat.zero_le _⟩ ?_
    exact W.iret (v := o2) hx hb hr (fun t ht hW => ⟨_, rfl, Option.some.inj h, ht⟩) (fun q hq => by cases hq) dX3_measure_44
  replace h := (if_neg c1).symm.trans h
  by_cases c4 : x0 = 1
  · replace h := (if_pos c4).symm.trans h
    refine lv_tableIn (tgt := 45) hx hb dX3_measure_1 (by rw [c4]; decide) (by rw [c4]; decide) (by rw [c4]; rfl) (by decide) ?_
    refine lv_iload_n hx hb dX3_measure_45 rfl (lv_at hl 1 rfl) ?_
    refine lv_iload_n hx hb dX3_measure_46 rfl (lv_at hl 2 rfl) ?_
    obtain ⟨o5, eq6, h⟩ := bnd_some h
    refine kPi (rest := []) ⟨hx, hb, hml, hown, hts⟩ (c_X3_runs l x1 x2 eq6) (va_cwS 2 hts (gAS wm_216 wm_217 wm_203 wm_218) rfl rfl rfl qd_X3_runs ⟨Nat.le_of_ble_eq_true rfl, Nat.le_of_ble_eq_true rfl⟩) rfl hl.1 rfl (Nat.le_of_ble_eq_true rfl) dX3_measure_47 ⟨Nat.zero_le _, Nat.zero_le _⟩ ?_
    exact W.iret (v := o5) hx hb hr (fun t ht hW => ⟨_, rfl, Option.some.inj h, ht⟩) (fun q hq => by cases hq) dX3_measure_50
  replace h := (if_neg c4).symm.trans h
  by_cases c7 : x0 = 2
  · replace h := (if_pos c7).symm.trans h
    refine lv_tableIn (tgt := 51) hx hb dX3_measure_1 (by rw [c7]; decide) (by rw [c7]; decide) (by rw [c7]; rfl) (by decide) ?_
    refine lv_iload_n hx hb dX3_measure_51 rfl (lv_at hl 2 rfl) ?_
    obtain ⟨o8, eq9, h⟩ := bnd_some h
    refine kPi (rest := []) ⟨hx, hb, hml, hown, hts⟩ (c_X3_longestRun l x2 eq9) (va_cwS 1 hts (gAS wm_219 wm_220 wm_203 wm_221) rfl rfl rfl qd_X3_longestRun ⟨Nat.le_of_ble_eq_true rfl, Nat.le_of_ble_eq_true rfl⟩) rfl hl.1 rfl (Nat.le_of_ble_eq_true rfl) dX3_measure_52 ⟨Nat.zero_le _, Nat.zero_le _⟩ ?_
    refine lv_iload_n hx hb dX3_measure_55 rfl (lv_at hl 2 rfl) ?_
    refine lv_iconst (v := (-1)) hx hb dX3_measure_56 (by decide) ?_
    refine lv_ixor hx hb dX3_measure_57 ?_
    refine lv_iconst (v := 1) hx hb dX3_measure_58 (by decide) ?_
    refine lv_iload_n hx hb dX3_measure_59 rfl (lv_at hl 1 rfl) ?_
    refine lv_ishl hx hb dX3_measure_60 ?_
    refine lv_iconst (v := 1) hx hb dX3_measure_61 (by decide) ?_
    refine lv_isub hx hb dX3_measure_62 ?_
    refine lv_iand hx hb dX3_measure_63 ?_
    obtain ⟨o10, eq11, h⟩ := bnd_some h
    refine kPi (rest := [.int o8]) ⟨hx, hb, hml, hown, hts⟩ (c_X3_longestRun l ((x2 ^^^ (-1)) &&& (((1 : Int32) <<< (x1 &&& 31)) - 1)) eq11) (va_cwS 1 hts (gAS wm_219 wm_220 wm_203 wm_221) rfl rfl rfl qd_X3_longestRun ⟨Nat.le_of_ble_eq_true rfl, Nat.le_of_ble_eq_true rfl⟩) rfl hl.1 rfl (Nat.le_of_ble_eq_true rfl) dX3_measure_64 ⟨Nat.zero_le _, Nat.zero_le _⟩ ?_
    refine va_mmax hx hb (hml.trans hl.1.symm) hown ml24 ms24 mi24 mc24 (Nat.le_of_ble_eq_true rfl) (Nat.le_of_ble_eq_true rfl) (Nat.zero_le _) (Nat.zero_le _) dX3_measure_67 ?_
    exact W.iret (v := (if o8 < o10 then o10 else o8)) hx hb hr (fun t ht hW => ⟨_, rfl, Option.some.inj h, ht⟩) (fun q hq => by cases hq) dX3_measure_70
  replace h := (if_neg c7).symm.trans h
  by_cases c12 : x0 = 3
  · replace h := (if_pos c12).symm.trans h
    refine lv_tableIn (tgt := 71) hx hb dX3_measure_1 (by rw [c12]; decide) (by rw [c12]; decide) (by rw [c12]; rfl) (by decide) ?_
    refine lv_iload_n hx hb dX3_measure_71 rfl (lv_at hl 2 rfl) ?_
    obtain ⟨o13, eq14, h⟩ := bnd_some h
    refine kPi (rest := []) ⟨hx, hb, hml, hown, hts⟩ (c_X3_longestRun l x2 eq14) (va_cwS 1 hts (gAS wm_219 wm_220 wm_203 wm_221) rfl rfl rfl qd_X3_longestRun ⟨Nat.le_of_ble_eq_true rfl, Nat.le_of_ble_eq_true rfl⟩) rfl hl.1 rfl (Nat.le_of_ble_eq_true rfl) dX3_measure_72 ⟨Nat.zero_le _, Nat.zero_le _⟩ ?_
    exact W.iret (v := o13) hx hb hr (fun t ht hW => ⟨_, rfl, Option.some.inj h, ht⟩) (fun q hq => by cases hq) dX3_measure_75
  replace h := (if_neg c12).symm.trans h
  by_cases c15 : x0 = 4
  · replace h := (if_pos c15).symm.trans h
    refine lv_tableIn (tgt := 76) hx hb dX3_measure_1 (by rw [c15]; decide) (by rw [c15]; decide) (by rw [c15]; rfl) (by decide) ?_
    refine lv_iload_n hx hb dX3_measure_76 rfl (lv_at hl 2 rfl) ?_
    refine lv_iload_n hx hb dX3_measure_77 rfl (lv_at hl 2 rfl) ?_
    refine lv_iconst (v := 1) hx hb dX3_measure_78 (by decide) ?_
    refine lv_ishr hx hb dX3_measure_79 ?_
    refine lv_iand hx hb dX3_measure_80 ?_
    obtain ⟨o16, eq17, h⟩ := bnd_some h
    refine kPi (rest := []) ⟨hx, hb, hml, hown, hts⟩ (c_J6_bitCount_0f7a4 l (x2 &&& (x2 >>> ((1 : Int32) &&& 31))) eq17) (va_cwS 1 hts (gAS wm_209 wm_210 wm_211 wm_212) rfl rfl rfl qd_J6_bitCount_0f7a4 ⟨Nat.le_of_ble_eq_true rfl, Nat.le_of_ble_eq_true rfl⟩) rfl hl.1 rfl (Nat.le_of_ble_eq_true rfl) dX3_measure_81 ⟨Nat.zero_le _, Nat.zero_le _⟩ ?_
    exact W.iret (v := o16) hx hb hr (fun t ht hW => ⟨_, rfl, Option.some.inj h, ht⟩) (fun q hq => by cases hq) dX3_measure_84
  replace h := (if_neg c15).symm.trans h
  by_cases c18 : x0 = 5
  · replace h := (if_pos c18).symm.trans h
    refine lv_tableIn (tgt := 85) hx hb dX3_measure_1 (by rw [c18]; decide) (by rw [c18]; decide) (by rw [c18]; rfl) (by decide) ?_
    refine lv_iload_n hx hb dX3_measure_85 rfl (lv_at hl 1 rfl) ?_
    refine lv_iload_n hx hb dX3_measure_86 rfl (lv_at hl 2 rfl) ?_
    obtain ⟨o19, eq20, h⟩ := bnd_some h
    refine kPi (rest := []) ⟨hx, hb, hml, hown, hts⟩ (c_X3_firstHit l x1 x2 eq20) (va_cwS 2 hts (gAS wm_222 wm_223 wm_203 wm_224) rfl rfl rfl qd_X3_firstHit ⟨Nat.le_of_ble_eq_true rfl, Nat.le_of_ble_eq_true rfl⟩) rfl hl.1 rfl (Nat.le_of_ble_eq_true rfl) dX3_measure_87 ⟨Nat.zero_le _, Nat.zero_le _⟩ ?_
    exact W.iret (v := o19) hx hb hr (fun t ht hW => ⟨_, rfl, Option.some.inj h, ht⟩) (fun q hq => by cases hq) dX3_measure_90
  replace h := (if_neg c18).symm.trans h
  refine lv_tableOut (tgt := 91) hx hb dX3_measure_1 (xOut_6 c1 c4 c7 c12 c15 c18) (by decide) ?_
  refine lv_iload_n hx hb dX3_measure_91 rfl (lv_at hl 3 rfl) ?_
  refine lv_iload_n hx hb dX3_measure_92 rfl (lv_at hl 1 rfl) ?_
  refine lv_iload_n hx hb dX3_measure_93 rfl (lv_at hl 2 rfl) ?_
  obtain ⟨o21, eq22, h⟩ := bnd_some h
  refine kPi (rest := []) ⟨hx, hb, hml, hown, hts⟩ (c_X4_timesIn l x3 x1 x2 eq22) (va_cwS 3 hts (gAS wm_225 wm_226 wm_227 wm_228) rfl rfl rfl qd_X4_timesIn ⟨Nat.le_of_ble_eq_true rfl, Nat.le_of_ble_eq_true rfl⟩) rfl hl.1 rfl (Nat.le_of_ble_eq_true rfl) dX3_measure_94 ⟨Nat.zero_le _, Nat.zero_le _⟩ ?_
  exact W.iret (v := o21) hx hb hr (fun t ht hW => ⟨_, rfl, Option.some.inj h, ht⟩) (fun q hq => by cases hq) dX3_measure_97
set_option maxHeartbeats 4000000 in
set_option maxRecDepth 100000 in
theorem c_X3_measure {N : Nat} (l : Launch) (x0 : Int32) (x1 : Int32) (x2 : Int32) (x3 : Int32) {o : Int32} (h : f_X3_measure N x0 x1 x2 x3 = some o) : mPi l yX3_measure wo_X3_measure 2 [.int x0, .int x1, .int x2, .int x3] o := by
  refine Met.ofW (cc := cX3_measure) (maxL := 4) (ret := some .int) (by decide) rfl ?_
  intro p e s m args below meth c s₁ B hml hv
  obtain ⟨rfl, -⟩ := hv
  rw [lg_entry_eq]
  exact core_X3_measure x0 x1 x2 x3 B.exec B.bytes hml B.returns (atoms_spec (ws := wo_X3_measure) B.pre) (findClass_of_methodNamed B.named) B.notSynchronized (lv_entry [.int x0, .int x1, .int x2, .int x3] (n := 4) (Nat.le_of_ble_eq_true rfl)) h
theorem qd_X3_measure : yX3_measure.cls ≠ "java/lang/invoke/MethodHandle" ∧ yX3_measure.cls ≠ "java/lang/invoke/VarHandle" ∧ (parseMethodDescriptor yX3_measure.desc).map (fun d => d.parameters.length) = some 4 := by decide +kernel
abbrev wo_X5_maySee : List Cond := .code yX5_maySee cX5_maySee 1 (some .boolean) :: wsL_law
set_option maxHeartbeats 4000000 in
set_option maxRecDepth 100000 in
theorem core_X5_maySee (x0 : Int32) {p : Program} {l : Launch} {e : Env} {s : State} {m : MethodId} {args : Array Value} {below : List Frame} {meth : Method} {c : Code} {ls : Array Slot} (hx : p.tables.exec = Jvm.exec) (hb : c.code = cX5_maySee) (hml : c.maxLocals = 1) (hr : meth.sig.returnType = some .boolean) (hts : ∀ w ∈ wo_X5_maySee, w.before args s = true) (hown : s.vm.findClass RX5 = some m.cls) (hlocks : meth.locks = false) (hl : lv_has ls 1 [(0, .int x0)]) {o : Int32} (h : f_X5_maySee x0 = some o) : gRi p l e wo_X5_maySee 0 s m args below meth c o (F0 m 0 ls []) := by
  unfold f_X5_maySee at h
  have J14 : ∀ (ls : Array Slot) (hl : lv_has ls 1 []) (h : f_X5_maySee_14  = some o), gRi p l e wo_X5_maySee 0 s m args below meth c o (F0 m 14 ls []) := by
    intro ls hl h
    unfold f_X5_maySee_14 at h
    refine lv_iconst (v := 1) hx hb dX5_maySee_14 (by decide) ?_
    refine lv_goto (tgt := 19) hx hb dX5_maySee_15 (by decide) ?_
    exact W.zret (v := 1) hx hb hr rfl (fun t ht hW => ⟨_, rfl, Option.some.inj h, ht⟩) (fun q hq => by cases hq) dX5_maySee_19
  refine lv_iload_n hx hb dX5_maySee_0 rfl (lv_at hl 0 rfl) ?_
  refine lv_iconst (v := 1) hx hb dX5_maySee_1 (by decide) ?_
  refine lv_icmp_eq (tgt := 14) hx hb dX5_maySee_2 (by decide) (fun c1 => ?_) (fun c1 => ?_)
  · replace h := (if_pos c1).symm.trans h
    exact J14 ls (lv_sub hl [] rfl) h
  · replace h := (if_neg c1).symm.trans h
    refine lv_iload_n hx hb dX5_maySee_5 rfl (lv_at hl 0 rfl) ?_
    refine lv_if_eq (tgt := 14) hx hb dX5_maySee_6 (by decide) (fun c2 => ?_) (fun c2 => ?_)
    · replace h := (if_pos c2).symm.trans h
      exact J14 ls (lv_sub hl [] rfl) h
    · replace h := (if_neg c2).symm.trans h
      refine lv_iload_n hx hb dX5_maySee_9 rfl (lv_at hl 0 rfl) ?_
      refine lv_iconst (v := (-1)) hx hb dX5_maySee_10 (by decide) ?_
      refine lv_icmp_ne (tgt := 18) hx hb dX5_maySee_11 (by decide) (fun c3 => ?_) (fun c3 => ?_)
      · replace h := (if_neg c3).symm.trans h
        refine lv_iconst (v := 0) hx hb dX5_maySee_18 (by decide) ?_
        exact W.zret (v := 0) hx hb hr rfl (fun t ht hW => ⟨_, rfl, Option.some.inj h, ht⟩) (fun q hq => by cases hq) dX5_maySee_19
      · replace h := (if_pos c3).symm.trans h
        exact J14 ls (lv_sub hl [] rfl) h
set_option maxHeartbeats 4000000 in
set_option maxRecDepth 100000 in
theorem c_X5_maySee (l : Launch) (x0 : Int32) {o : Int32} (h : f_X5_maySee x0 = some o) : mPi l yX5_maySee wo_X5_maySee 0 [.int x0] o := by
  refine Met.ofW (cc := cX5_maySee) (maxL := 1) (ret := some .boolean) (by decide) rfl ?_
  intro p e s m args below meth c s₁ B hml hv
  obtain ⟨rfl, -⟩ := hv
  rw [lg_entry_eq]
  exact core_X5_maySee x0 B.exec B.bytes hml B.returns (atoms_spec (ws := wo_X5_maySee) B.pre) (findClass_of_methodNamed B.named) B.notSynchronized (lv_entry [.int x0] (n := 1) (Nat.le_of_ble_eq_true rfl)) h
theorem qd_X5_maySee : yX5_maySee.cls ≠ "java/lang/invoke/MethodHandle" ∧ yX5_maySee.cls ≠ "java/lang/invoke/VarHandle" ∧ (parseMethodDescriptor yX5_maySee.desc).map (fun d => d.parameters.length) = some 1 := by decide +kernel
abbrev wo_X2_howMany : List Cond := .code yX2_howMany cX2_howMany 4 (some .int) :: wsL_law
set_option maxHeartbeats 4000000 in
set_option maxRecDepth 100000 in
theorem core_X2_howMany {N : Nat} (D : va_G) (k : Nat → ClassId) (a : Nat → Nat) (xLen : Nat → Int32) (xHits : Nat → Int32) (xUns : Nat → Int32) (xItems : Nat → Nat → Int32) (xLost : Nat → Int32) (xKind : Nat → Int32) (xSize : Nat → Int32) (xLet : Nat → Int32) (xRel : Nat → Int32) (xLim : Nat → Int32) (xOpen : Nat → Int32) (xMeas : Nat → Int32) (xSL : Int32) (xST : Int32) (xSD : Int32) (xSK : Int32) (xTal : Nat → Nat → Int32) (xKn : Nat → Int32) (xFT : Nat → Int32) (xFA : Int32) (xFE : Int32) (xOdds : Int32) (xPat : Int32) (xFind : Int32) (e0 : Nat) (he0 : e0 < 4) {p : Program} {l : Launch} {e : Env} {s : State} {m : MethodId} {args : Array Value} {below : List Frame} {meth : Method} {c : Code} {ls : Array Slot} (hx : p.tables.exec = Jvm.exec) (hb : c.code = cX2_howMany) (hml : c.maxLocals = 4) (hr : meth.sig.returnType = some .int) (hts : ∀ w ∈ wo_X2_howMany, w.before args s = true) (hown : s.vm.findClass RX2 = some m.cls) (hlocks : meth.locks = false) (hl : lv_has ls 4 [(0, .ref (a (14 + e0)))]) (hK : va_K D vwCl (xTys k) s) (hP : va_P D vwCl (wX k a xLen xHits xUns xItems xLost xKind xSize xLet xRel xLim xOpen xMeas xSL xST xSD xSK xTal xKn xFT xFA xFE xOdds xPat xFind) s.heap) {o : Int32} (h : f_X2_howMany N e0 xLen xHits = some o) : gRi p l e wo_X2_howMany 1 s m args below meth c o (F0 m 0 ls []) := by
  have hi5 := (fun w h => List.mem_cons_of_mem _ (inlX5 w h) : ∀ w ∈ wsX50, w ∈ wo_X2_howMany)
  have kf19 := hts _ (List.mem_cons_of_mem _ wm_595)
  have kf7 := hts _ (List.mem_cons_of_mem _ wm_594)
  unfold f_X2_howMany at h
  have L12 : ∀ (n12 : Nat) (e0 : Nat) (x1 : Int32) (x2 : Int32) (x3 : Int32) (ls : Array Slot) (he0 : e0 < 4) (hl : lv_has ls 4 [(0, .ref (a (14 + e0))), (1, .int x1), (2, .int x2), (3, .int x3)]) (h : f_X2_howMany_12 N n12 e0 x1 x2 x3 xLen xHits = some o), gRi p l e wo_X2_howMany 1 s m args below meth c o (F0 m 12 ls []) := by
    intro n12
    induction n12 with
    | zero => intro e0 x1 x2 x3 ls he0 hl h; cases (show (none : Option (Int32)) = some o from h)
    | succ n12 ih12 =>
      intro e0 x1 x2 x3 ls he0 hl h
      rw [f_X2_howMany_12] at h
      refine lv_iload_n hx hb dX2_howMany_12 rfl (lv_at hl 3 rfl) ?_
      refine lv_iload_n hx hb dX2_howMany_13 rfl (lv_at hl 1 rfl) ?_
      refine lv_icmp_gt (tgt := 36) hx hb dX2_howMany_14 (by decide) (fun c1 => ?_) (fun c1 => ?_)
      · replace h := (if_pos c1).symm.trans h
        refine lv_iload_n hx hb dX2_howMany_36 rfl (lv_at hl 2 rfl) ?_
        exact W.iret (v := x2) hx hb hr (fun t ht hW => ⟨_, rfl, Option.some.inj h, ht⟩) (fun q hq => by cases hq) dX2_howMany_37
      · replace h := (if_neg c1).symm.trans h
        refine lv_iload_n hx hb dX2_howMany_17 rfl (lv_at hl 2 rfl) ?_
        refine lv_aload_n hx hb dX2_howMany_18 rfl (lv_at hl 0 rfl) ?_
        refine va_get (D := D) (ci := 1) (v := .int (xLen e0)) (C := RX5) (T := TX5) (N := 3) hx hb hts hi5 hown hK hP ((14 + e0)) (wX_row he0) rfl 0 (by decide) kf19 (fun _ h9 => h9) rfl dX2_howMany_19 ?_
        refine lv_iload_n hx hb dX2_howMany_22 rfl (lv_at hl 1 rfl) ?_
        refine lv_isub hx hb dX2_howMany_23 ?_
        refine lv_iload_n hx hb dX2_howMany_24 rfl (lv_at hl 3 rfl) ?_
        refine lv_iadd hx hb dX2_howMany_25 ?_
        refine lv_imul hx hb dX2_howMany_26 ?_
        refine lv_iload_n hx hb dX2_howMany_27 rfl (lv_at hl 3 rfl) ?_
        obtain ⟨g2, h⟩ := gNe_some h
        refine lv_idiv hx hb dX2_howMany_28 g2 ?_
        refine lv_istore_n (lv' := [(2, .int ((x2 * (((xLen e0) - x1) + x3)) / x3)), (0, .ref (a (14 + e0))), (1, .int x1), (3, .int x3)]) hx hb dX2_howMany_29 rfl hl (by decide) rfl (fun ls hl => ?_)
        refine lv_iinc (v := (x3 + 1)) (lv' := [(3, .int (x3 + 1)), (2, .int ((x2 * (((xLen e0) - x1) + x3)) / x3)), (0, .ref (a (14 + e0))), (1, .int x1)]) hx hb dX2_howMany_30 hl (k := 3) rfl rfl (by decide) rfl (fun ls hl => ?_)
        refine lv_goto (tgt := 12) hx hb dX2_howMany_33 (by decide) ?_
        exact ih12 e0 x1 ((x2 * (((xLen e0) - x1) + x3)) / x3) (x3 + 1) ls he0 (lv_sub hl [2, 3, 1, 0] rfl) h
  refine lv_aload_n hx hb dX2_howMany_0 rfl (lv_at hl 0 rfl) ?_
  refine va_get (D := D) (ci := 1) (v := .int (xHits e0)) (C := RX5) (T := TX5) (N := 3) hx hb hts hi5 hown hK hP ((14 + e0)) (wX_row he0) rfl 1 (by decide) kf7 (fun _ h9 => h9) rfl dX2_howMany_1 ?_
  obtain ⟨o3, eq4, h⟩ := bnd_some h
  refine kPi (rest := []) ⟨hx, hb, hml, hown, hts⟩ (c_J6_bitCount_0f7a4 l (xHits e0) eq4) (va_cwS 1 hts (gAS wm_596 wm_210 wm_211 wm_212) rfl rfl rfl qd_J6_bitCount_0f7a4 ⟨Nat.le_of_ble_eq_true rfl, Nat.le_of_ble_eq_true rfl⟩) rfl hl.1 rfl (Nat.le_of_ble_eq_true rfl) dX2_howMany_4 ⟨Nat.zero_le _, Nat.zero_le _⟩ ?_
  refine lv_istore_n (lv' := [(1, .int o3), (0, .ref (a (14 + e0)))]) hx hb dX2_howMany_7 rfl hl (by decide) rfl (fun ls hl => ?_)
  refine lv_iconst (v := 1) hx hb dX2_howMany_8 (by decide) ?_
  refine lv_istore_n (lv' := [(2, .int 1), (1, .int o3), (0, .ref (a (14 + e0)))]) hx hb dX2_howMany_9 rfl hl (by decide) rfl (fun ls hl => ?_)
  refine lv_iconst (v := 1) hx hb dX2_howMany_10 (by decide) ?_
  refine lv_istore_n (lv' := [(3, .int 1), (2, .int 1), (1, .int o3), (0, .ref (a (14 + e0)))]) hx hb dX2_howMany_11 rfl hl (by decide) rfl (fun ls hl => ?_)
  exact L12 N e0 o3 1 1 ls he0 (lv_sub hl [3, 2, 1, 0] rfl) h
set_option maxHeartbeats 4000000 in
set_option maxRecDepth 100000 in
theorem c_X2_howMany {N : Nat} (l : Launch) (D : va_G) (k : Nat → ClassId) (a : Nat → Nat) (xLen : Nat → Int32) (xHits : Nat → Int32) (xUns : Nat → Int32) (xItems : Nat → Nat → Int32) (xLost : Nat → Int32) (xKind : Nat → Int32) (xSize : Nat → Int32) (xLet : Nat → Int32) (xRel : Nat → Int32) (xLim : Nat → Int32) (xOpen : Nat → Int32) (xMeas : Nat → Int32) (xSL : Int32) (xST : Int32) (xSD : Int32) (xSK : Int32) (xTal : Nat → Nat → Int32) (xKn : Nat → Int32) (xFT : Nat → Int32) (xFA : Int32) (xFE : Int32) (xOdds : Int32) (xPat : Int32) (xFind : Int32) (e0 : Nat) (he0 : e0 < 4) {o : Int32} (h : f_X2_howMany N e0 xLen xHits = some o) : mRi l yX2_howMany wo_X2_howMany 1 D k [.ref (a (14 + e0))] (wX k a xLen xHits xUns xItems xLost xKind xSize xLet xRel xLim xOpen xMeas xSL xST xSD xSK xTal xKn xFT xFA xFE xOdds xPat xFind) o := by
  refine Met.ofW (cc := cX2_howMany) (maxL := 4) (ret := some .int) (by decide) rfl ?_
  intro p e s m args below meth c s₁ B hml hv
  obtain ⟨rfl, hP, hK⟩ := hv
  rw [lg_entry_eq]
  exact core_X2_howMany D k a xLen xHits xUns xItems xLost xKind xSize xLet xRel xLim xOpen xMeas xSL xST xSD xSK xTal xKn xFT xFA xFE xOdds xPat xFind e0 he0 B.exec B.bytes hml B.returns (atoms_spec (ws := wo_X2_howMany) B.pre) (findClass_of_methodNamed B.named) B.notSynchronized (lv_entry [.ref (a (14 + e0))] (n := 4) (Nat.le_of_ble_eq_true rfl)) hK hP h
theorem qd_X2_howMany : yX2_howMany.cls ≠ "java/lang/invoke/MethodHandle" ∧ yX2_howMany.cls ≠ "java/lang/invoke/VarHandle" ∧ (parseMethodDescriptor yX2_howMany.desc).map (fun d => d.parameters.length) = some 1 := by decide +kernel
abbrev wo_X2_lowest : List Cond := .code yX2_lowest cX2_lowest 1 (some .int) :: wsL_law
set_option maxHeartbeats 4000000 in
set_option maxRecDepth 100000 in
theorem core_X2_lowest (D : va_G) (k : Nat → ClassId) (a : Nat → Nat) (xLen : Nat → Int32) (xHits : Nat → Int32) (xUns : Nat → Int32) (xItems : Nat → Nat → Int32) (xLost : Nat → Int32) (xKind : Nat → Int32) (xSize : Nat → Int32) (xLet : Nat → Int32) (xRel : Nat → Int32) (xLim : Nat → Int32) (xOpen : Nat → Int32) (xMeas : Nat → Int32) (xSL : Int32) (xST : Int32) (xSD : Int32) (xSK : Int32) (xTal : Nat → Nat → Int32) (xKn : Nat → Int32) (xFT : Nat → Int32) (xFA : Int32) (xFE : Int32) (xOdds : Int32) (xPat : Int32) (xFind : Int32) (e0 : Nat) (he0 : e0 < 4) {p : Program} {l : Launch} {e : Env} {s : State} {m : MethodId} {args : Array Value} {below : List Frame} {meth : Method} {c : Code} {ls : Array Slot} (hx : p.tables.exec = Jvm.exec) (hb : c.code = cX2_lowest) (hml : c.maxLocals = 1) (hr : meth.sig.returnType = some .int) (hts : ∀ w ∈ wo_X2_lowest, w.before args s = true) (hown : s.vm.findClass RX2 = some m.cls) (hlocks : meth.locks = false) (hl : lv_has ls 1 [(0, .ref (a (14 + e0)))]) (hK : va_K D vwCl (xTys k) s) (hP : va_P D vwCl (wX k a xLen xHits xUns xItems xLost xKind xSize xLet xRel xLim xOpen xMeas xSL xST xSD xSK xTal xKn xFT xFA xFE xOdds xPat xFind) s.heap) {o : Int32} (h : f_X2_lowest e0 xHits = some o) : gRi p l e wo_X2_lowest 1 s m args below meth c o (F0 m 0 ls []) := by
  have hi5 := (fun w h => List.mem_cons_of_mem _ (inlX5 w h) : ∀ w ∈ wsX50, w ∈ wo_X2_lowest)
  have kf7 := hts _ (List.mem_cons_of_mem _ wm_594)
  unfold f_X2_lowest at h
  refine lv_iconst (v := 1) hx hb dX2_lowest_0 (by decide) ?_
  refine lv_aload_n hx hb dX2_lowest_1 rfl (lv_at hl 0 rfl) ?_
  refine va_get (D := D) (ci := 1) (v := .int (xHits e0)) (C := RX5) (T := TX5) (N := 3) hx hb hts hi5 hown hK hP ((14 + e0)) (wX_row he0) rfl 1 (by decide) kf7 (fun _ h9 => h9) rfl dX2_lowest_2 ?_
  obtain ⟨o1, eq2, h⟩ := bnd_some h
  refine kPi (rest := [.int 1]) ⟨hx, hb, hml, hown, hts⟩ (c_J6_bitCount_0f7a4 l (xHits e0) eq2) (va_cwS 1 hts (gAS wm_596 wm_210 wm_211 wm_212) rfl rfl rfl qd_J6_bitCount_0f7a4 ⟨Nat.le_of_ble_eq_true rfl, Nat.le_of_ble_eq_true rfl⟩) rfl hl.1 rfl (Nat.le_of_ble_eq_true rfl) dX2_lowest_5 ⟨Nat.zero_le _, Nat.zero_le _⟩ ?_
  refine lv_ishl hx hb dX2_lowest_8 ?_
  refine lv_iconst (v := 1) hx hb dX2_lowest_9 (by decide) ?_
  refine lv_isub hx hb dX2_lowest_10 ?_
  exact W.iret (v := (((1 : Int32) <<< (o1 &&& 31)) - 1)) hx hb hr (fun t ht hW => ⟨_, rfl, Option.some.inj h, ht⟩) (fun q hq => by cases hq) dX2_lowest_11
set_option maxHeartbeats 4000000 in
set_option maxRecDepth 100000 in
theorem c_X2_lowest (l : Launch) (D : va_G) (k : Nat → ClassId) (a : Nat → Nat) (xLen : Nat → Int32) (xHits : Nat → Int32) (xUns : Nat → Int32) (xItems : Nat → Nat → Int32) (xLost : Nat → Int32) (xKind : Nat → Int32) (xSize : Nat → Int32) (xLet : Nat → Int32) (xRel : Nat → Int32) (xLim : Nat → Int32) (xOpen : Nat → Int32) (xMeas : Nat → Int32) (xSL : Int32) (xST : Int32) (xSD : Int32) (xSK : Int32) (xTal : Nat → Nat → Int32) (xKn : Nat → Int32) (xFT : Nat → Int32) (xFA : Int32) (xFE : Int32) (xOdds : Int32) (xPat : Int32) (xFind : Int32) (e0 : Nat) (he0 : e0 < 4) {o : Int32} (h : f_X2_lowest e0 xHits = some o) : mRi l yX2_lowest wo_X2_lowest 1 D k [.ref (a (14 + e0))] (wX k a xLen xHits xUns xItems xLost xKind xSize xLet xRel xLim xOpen xMeas xSL xST xSD xSK xTal xKn xFT xFA xFE xOdds xPat xFind) o := by
  refine Met.ofW (cc := cX2_lowest) (maxL := 1) (ret := some .int) (by decide) rfl ?_
  intro p e s m args below meth c s₁ B hml hv
  obtain ⟨rfl, hP, hK⟩ := hv
  rw [lg_entry_eq]
  exact core_X2_lowest D k a xLen xHits xUns xItems xLost xKind xSize xLet xRel xLim xOpen xMeas xSL xST xSD xSK xTal xKn xFT xFA xFE xOdds xPat xFind e0 he0 B.exec B.bytes hml B.returns (atoms_spec (ws := wo_X2_lowest) B.pre) (findClass_of_methodNamed B.named) B.notSynchronized (lv_entry [.ref (a (14 + e0))] (n := 1) (Nat.le_of_ble_eq_true rfl)) hK hP h
theorem qd_X2_lowest : yX2_lowest.cls ≠ "java/lang/invoke/MethodHandle" ∧ yX2_lowest.cls ≠ "java/lang/invoke/VarHandle" ∧ (parseMethodDescriptor yX2_lowest.desc).map (fun d => d.parameters.length) = some 1 := by decide +kernel
abbrev wo_X5_isFull : List Cond := .code yX5_isFull cX5_isFull 1 (some .boolean) :: wsL_law
set_option maxHeartbeats 4000000 in
set_option maxRecDepth 100000 in
theorem core_X5_isFull (D : va_G) (k : Nat → ClassId) (a : Nat → Nat) (xLen : Nat → Int32) (xHits : Nat → Int32) (xUns : Nat → Int32) (xItems : Nat → Nat → Int32) (xLost : Nat → Int32) (xKind : Nat → Int32) (xSize : Nat → Int32) (xLet : Nat → Int32) (xRel : Nat → Int32) (xLim : Nat → Int32) (xOpen : Nat → Int32) (xMeas : Nat → Int32) (xSL : Int32) (xST : Int32) (xSD : Int32) (xSK : Int32) (xTal : Nat → Nat → Int32) (xKn : Nat → Int32) (xFT : Nat → Int32) (xFA : Int32) (xFE : Int32) (xOdds : Int32) (xPat : Int32) (xFind : Int32) (e0 : Nat) (he0 : e0 < 4) {p : Program} {l : Launch} {e : Env} {s : State} {m : MethodId} {args : Array Value} {below : List Frame} {meth : Method} {c : Code} {ls : Array Slot} (hx : p.tables.exec = Jvm.exec) (hb : c.code = cX5_isFull) (hml : c.maxLocals = 1) (hr : meth.sig.returnType = some .boolean) (hts : ∀ w ∈ wo_X5_isFull, w.before args s = true) (hown : s.vm.findClass RX5 = some m.cls) (hlocks : meth.locks = false) (hl : lv_has ls 1 [(0, .ref (a (14 + e0)))]) (hK : va_K D vwCl (xTys k) s) (hP : va_P D vwCl (wX k a xLen xHits xUns xItems xLost xKind xSize xLet xRel xLim xOpen xMeas xSL xST xSD xSK xTal xKn xFT xFA xFE xOdds xPat xFind) s.heap) {o : Int32} (h : f_X5_isFull e0 xLen = some o) : gRi p l e wo_X5_isFull 0 s m args below meth c o (F0 m 0 ls []) := by
  have hi5 := (fun w h => List.mem_cons_of_mem _ (inlX5 w h) : ∀ w ∈ wsX50, w ∈ wo_X5_isFull)
  have kf9 := hts _ (List.mem_cons_of_mem _ wm_102)
  unfold f_X5_isFull at h
  refine lv_aload_n hx hb dX5_isFull_0 rfl (lv_at hl 0 rfl) ?_
  refine va_get (D := D) (ci := 1) (v := .int (xLen e0)) (C := RX5) (T := TX5) (N := 3) hx hb hts hi5 hown hK hP ((14 + e0)) (wX_row he0) rfl 0 (by decide) kf9 (fun _ h9 => h9) rfl dX5_isFull_1 ?_
  refine lv_bipush (v := 15) hx hb dX5_isFull_4 (by decide) ?_
  refine lv_icmp_lt (tgt := 13) hx hb dX5_isFull_6 (by decide) (fun c1 => ?_) (fun c1 => ?_)
  · replace h := (if_pos c1).symm.trans h
    refine lv_iconst (v := 0) hx hb dX5_isFull_13 (by decide) ?_
    exact W.zret (v := 0) hx hb hr rfl (fun t ht hW => ⟨_, rfl, Option.some.inj h, ht⟩) (fun q hq => by cases hq) dX5_isFull_14
  · replace h := (if_neg c1).symm.trans h
    refine lv_iconst (v := 1) hx hb dX5_isFull_9 (by decide) ?_
    refine lv_goto (tgt := 14) hx hb dX5_isFull_10 (by decide) ?_
    exact W.zret (v := 1) hx hb hr rfl (fun t ht hW => ⟨_, rfl, Option.some.inj h, ht⟩) (fun q hq => by cases hq) dX5_isFull_14
set_option maxHeartbeats 4000000 in
set_option maxRecDepth 100000 in
theorem c_X5_isFull (l : Launch) (D : va_G) (k : Nat → ClassId) (a : Nat → Nat) (xLen : Nat → Int32) (xHits : Nat → Int32) (xUns : Nat → Int32) (xItems : Nat → Nat → Int32) (xLost : Nat → Int32) (xKind : Nat → Int32) (xSize : Nat → Int32) (xLet : Nat → Int32) (xRel : Nat → Int32) (xLim : Nat → Int32) (xOpen : Nat → Int32) (xMeas : Nat → Int32) (xSL : Int32) (xST : Int32) (xSD : Int32) (xSK : Int32) (xTal : Nat → Nat → Int32) (xKn : Nat → Int32) (xFT : Nat → Int32) (xFA : Int32) (xFE : Int32) (xOdds : Int32) (xPat : Int32) (xFind : Int32) (e0 : Nat) (he0 : e0 < 4) {o : Int32} (h : f_X5_isFull e0 xLen = some o) : mRi l yX5_isFull wo_X5_isFull 0 D k [.ref (a (14 + e0))] (wX k a xLen xHits xUns xItems xLost xKind xSize xLet xRel xLim xOpen xMeas xSL xST xSD xSK xTal xKn xFT xFA xFE xOdds xPat xFind) o := by
  refine Met.ofW (cc := cX5_isFull) (maxL := 1) (ret := some .boolean) (by decide) rfl ?_
  intro p e s m args below meth c s₁ B hml hv
  obtain ⟨rfl, hP, hK⟩ := hv
  rw [lg_entry_eq]
  exact core_X5_isFull D k a xLen xHits xUns xItems xLost xKind xSize xLet xRel xLim xOpen xMeas xSL xST xSD xSK xTal xKn xFT xFA xFE xOdds xPat xFind e0 he0 B.exec B.bytes hml B.returns (atoms_spec (ws := wo_X5_isFull) B.pre) (findClass_of_methodNamed B.named) B.notSynchronized (lv_entry [.ref (a (14 + e0))] (n := 1) (Nat.le_of_ble_eq_true rfl)) hK hP h
theorem qd_X5_isFull : yX5_isFull.cls = RX5 ∧ yX5_isFull.cls ≠ "java/lang/invoke/MethodHandle" ∧ yX5_isFull.cls ≠ "java/lang/invoke/VarHandle" ∧ (parseMethodDescriptor yX5_isFull.desc).map (fun d => d.parameters.length) = some 0 := by decide +kernel
abbrev wo_X5_isWhole : List Cond := .code yX5_isWhole cX5_isWhole 1 (some .boolean) :: wsL_law
set_option maxHeartbeats 4000000 in
set_option maxRecDepth 100000 in
theorem core_X5_isWhole (D : va_G) (k : Nat → ClassId) (a : Nat → Nat) (xLen : Nat → Int32) (xHits : Nat → Int32) (xUns : Nat → Int32) (xItems : Nat → Nat → Int32) (xLost : Nat → Int32) (xKind : Nat → Int32) (xSize : Nat → Int32) (xLet : Nat → Int32) (xRel : Nat → Int32) (xLim : Nat → Int32) (xOpen : Nat → Int32) (xMeas : Nat → Int32) (xSL : Int32) (xST : Int32) (xSD : Int32) (xSK : Int32) (xTal : Nat → Nat → Int32) (xKn : Nat → Int32) (xFT : Nat → Int32) (xFA : Int32) (xFE : Int32) (xOdds : Int32) (xPat : Int32) (xFind : Int32) (e0 : Nat) (he0 : e0 < 4) {p : Program} {l : Launch} {e : Env} {s : State} {m : MethodId} {args : Array Value} {below : List Frame} {meth : Method} {c : Code} {ls : Array Slot} (hx : p.tables.exec = Jvm.exec) (hb : c.code = cX5_isWhole) (hml : c.maxLocals = 1) (hr : meth.sig.returnType = some .boolean) (hts : ∀ w ∈ wo_X5_isWhole, w.before args s = true) (hown : s.vm.findClass RX5 = some m.cls) (hlocks : meth.locks = false) (hl : lv_has ls 1 [(0, .ref (a (14 + e0)))]) (hK : va_K D vwCl (xTys k) s) (hP : va_P D vwCl (wX k a xLen xHits xUns xItems xLost xKind xSize xLet xRel xLim xOpen xMeas xSL xST xSD xSK xTal xKn xFT xFA xFE xOdds xPat xFind) s.heap) {o : Int32} (h : f_X5_isWhole e0 xUns = some o) : gRi p l e wo_X5_isWhole 0 s m args below meth c o (F0 m 0 ls []) := by
  have hi5 := (fun w h => List.mem_cons_of_mem _ (inlX5 w h) : ∀ w ∈ wsX50, w ∈ wo_X5_isWhole)
  have kf15 := hts _ (List.mem_cons_of_mem _ wm_108)
  unfold f_X5_isWhole at h
  refine lv_aload_n hx hb dX5_isWhole_0 rfl (lv_at hl 0 rfl) ?_
  refine va_get (D := D) (ci := 1) (v := .int (xUns e0)) (C := RX5) (T := TX5) (N := 3) hx hb hts hi5 hown hK hP ((14 + e0)) (wX_row he0) rfl 2 (by decide) kf15 (fun _ h9 => h9) rfl dX5_isWhole_1 ?_
  refine lv_if_ne (tgt := 11) hx hb dX5_isWhole_4 (by decide) (fun c1 => ?_) (fun c1 => ?_)
  · replace h := (if_neg c1).symm.trans h
    refine lv_iconst (v := 0) hx hb dX5_isWhole_11 (by decide) ?_
    exact W.zret (v := 0) hx hb hr rfl (fun t ht hW => ⟨_, rfl, Option.some.inj h, ht⟩) (fun q hq => by cases hq) dX5_isWhole_12
  · replace h := (if_pos c1).symm.trans h
    refine lv_iconst (v := 1) hx hb dX5_isWhole_7 (by decide) ?_
    refine lv_goto (tgt := 12) hx hb dX5_isWhole_8 (by decide) ?_
    exact W.zret (v := 1) hx hb hr rfl (fun t ht hW => ⟨_, rfl, Option.some.inj h, ht⟩) (fun q hq => by cases hq) dX5_isWhole_12
set_option maxHeartbeats 4000000 in
set_option maxRecDepth 100000 in
theorem c_X5_isWhole (l : Launch) (D : va_G) (k : Nat → ClassId) (a : Nat → Nat) (xLen : Nat → Int32) (xHits : Nat → Int32) (xUns : Nat → Int32) (xItems : Nat → Nat → Int32) (xLost : Nat → Int32) (xKind : Nat → Int32) (xSize : Nat → Int32) (xLet : Nat → Int32) (xRel : Nat → Int32) (xLim : Nat → Int32) (xOpen : Nat → Int32) (xMeas : Nat → Int32) (xSL : Int32) (xST : Int32) (xSD : Int32) (xSK : Int32) (xTal : Nat → Nat → Int32) (xKn : Nat → Int32) (xFT : Nat → Int32) (xFA : Int32) (xFE : Int32) (xOdds : Int32) (xPat : Int32) (xFind : Int32) (e0 : Nat) (he0 : e0 < 4) {o : Int32} (h : f_X5_isWhole e0 xUns = some o) : mRi l yX5_isWhole wo_X5_isWhole 0 D k [.ref (a (14 + e0))] (wX k a xLen xHits xUns xItems xLost xKind xSize xLet xRel xLim xOpen xMeas xSL xST xSD xSK xTal xKn xFT xFA xFE xOdds xPat xFind) o := by
  refine Met.ofW (cc := cX5_isWhole) (maxL := 1) (ret := some .boolean) (by decide) rfl ?_
  intro p e s m args below meth c s₁ B hml hv
  obtain ⟨rfl, hP, hK⟩ := hv
  rw [lg_entry_eq]
  exact core_X5_isWhole D k a xLen xHits xUns xItems xLost xKind xSize xLet xRel xLim xOpen xMeas xSL xST xSD xSK xTal xKn xFT xFA xFE xOdds xPat xFind e0 he0 B.exec B.bytes hml B.returns (atoms_spec (ws := wo_X5_isWhole) B.pre) (findClass_of_methodNamed B.named) B.notSynchronized (lv_entry [.ref (a (14 + e0))] (n := 1) (Nat.le_of_ble_eq_true rfl)) hK hP h
theorem qd_X5_isWhole : yX5_isWhole.cls = RX5 ∧ yX5_isWhole.cls ≠ "java/lang/invoke/MethodHandle" ∧ yX5_isWhole.cls ≠ "java/lang/invoke/VarHandle" ∧ (parseMethodDescriptor yX5_isWhole.desc).map (fun d => d.parameters.length) = some 0 := by decide +kernel
abbrev wo_X5_empty : List Cond := .code yX5_empty cX5_empty 1 none :: wsL_law
set_option maxHeartbeats 4000000 in
set_option maxRecDepth 100000 in
theorem core_X5_empty (D : va_G) (k : Nat → ClassId) (a : Nat → Nat) (xLen : Nat → Int32) (xHits : Nat → Int32) (xUns : Nat → Int32) (xItems : Nat → Nat → Int32) (xLost : Nat → Int32) (xKind : Nat → Int32) (xSize : Nat → Int32) (xLet : Nat → Int32) (xRel : Nat → Int32) (xLim : Nat → Int32) (xOpen : Nat → Int32) (xMeas : Nat → Int32) (xSL : Int32) (xST : Int32) (xSD : Int32) (xSK : Int32) (xTal : Nat → Nat → Int32) (xKn : Nat → Int32) (xFT : Nat → Int32) (xFA : Int32) (xFE : Int32) (xOdds : Int32) (xPat : Int32) (xFind : Int32) (e0 : Nat) (he0 : e0 < 4) {p : Program} {l : Launch} {e : Env} {s : State} {m : MethodId} {args : Array Value} {below : List Frame} {meth : Method} {c : Code} {ls : Array Slot} (hx : p.tables.exec = Jvm.exec) (hb : c.code = cX5_empty) (hml : c.maxLocals = 1) (hr : meth.sig.returnType = none) (hts : ∀ w ∈ wo_X5_empty, w.before args s = true) (hown : s.vm.findClass RX5 = some m.cls) (hlocks : meth.locks = false) (hl : lv_has ls 1 [(0, .ref (a (14 + e0)))]) (hK : va_K D vwCl (xTys k) s) (hP : va_P D vwCl (wX k a xLen xHits xUns xItems xLost xKind xSize xLet xRel xLim xOpen xMeas xSL xST xSD xSK xTal xKn xFT xFA xFE xOdds xPat xFind) s.heap) {A : Nat → Prop} (hD : va_D A (wX k a xLen xHits xUns xItems xLost xKind xSize xLet xRel xLim xOpen xMeas xSL xST xSD xSK xTal xKn xFT xFA xFE xOdds xPat xFind)) (hA : ∀ q : Nat, s.heap.size ≤ q → A q) {o : (Nat → Int32) × (Nat → Int32) × (Nat → Int32)} (h : f_X5_empty e0 xLen xHits xUns = some o) : gQv p l e wo_X5_empty 0 s m args below meth c D k A  (wX k a o.1 o.2.1 o.2.2 xItems xLost xKind xSize xLet xRel xLim xOpen xMeas xSL xST xSD xSK xTal xKn xFT xFA xFE xOdds xPat xFind) s.heap [] (F0 m 0 ls []) := by
  have hi5 := (fun w h => List.mem_cons_of_mem _ (inlX5 w h) : ∀ w ∈ wsX50, w ∈ wo_X5_empty)
  have kf9 := hts _ (List.mem_cons_of_mem _ wm_102)
  have kf18 := hts _ (List.mem_cons_of_mem _ wm_107)
  have kf15 := hts _ (List.mem_cons_of_mem _ wm_108)
  unfold f_X5_empty at h
  have hS : va_S A s.heap s.heap [] := va_S.rf
  obtain ⟨H, hH⟩ : ∃ H : Heap, H = s.heap := ⟨_, rfl⟩
  obtain ⟨locs, hlc⟩ : ∃ locs : List Loc, locs = [] := ⟨_, rfl⟩
  have hS : va_S A s.heap H locs := by rw [hH, hlc]; exact va_S.rf
  have hP : va_P D vwCl (wX k a xLen xHits xUns xItems xLost xKind xSize xLet xRel xLim xOpen xMeas xSL xST xSD xSK xTal xKn xFT xFA xFE xOdds xPat xFind) H := by rw [hH]; exact hP
  suffices hGo : gQv p l e wo_X5_empty 0 s m args below meth c D k A  (wX k a o.1 o.2.1 o.2.2 xItems xLost xKind xSize xLet xRel xLim xOpen xMeas xSL xST xSD xSK xTal xKn xFT xFA xFE xOdds xPat xFind) H locs (F0 m 0 ls []) by rw [hH, hlc] at hGo; exact hGo
  refine lv_aload_n hx hb dX5_empty_0 rfl (lv_at hl 0 rfl) ?_
  refine lv_iconst (v := 0) hx hb dX5_empty_1 (by decide) ?_
  refine va_put (D := D) (ci := 1) (v := .int 0) (ty := .int) (C := RX5) (T := TX5) (N := 3) hx hb hts hi5 tyX5 tyX5_ok nmX5 hown hK hP hD hS ((14 + e0)) (wX_row he0) rfl 0 (by decide) kf9 (fun _ h9 => h9) rfl (tyX5_ok 0 (by decide)) rfl rfl (Nat.le_of_ble_eq_true rfl) dX5_empty_2 (fun H locs hP hD hS => ?_)
  have hP : va_P D vwCl (wX k a (va_up xLen e0 0) xHits xUns xItems xLost xKind xSize xLet xRel xLim xOpen xMeas xSL xST xSD xSK xTal xKn xFT xFA xFE xOdds xPat xFind) H := by rw [← wX_s_xLen he0]; exact hP
  have hD : va_D A (wX k a (va_up xLen e0 0) xHits xUns xItems xLost xKind xSize xLet xRel xLim xOpen xMeas xSL xST xSD xSK xTal xKn xFT xFA xFE xOdds xPat xFind) := by rw [← wX_s_xLen he0]; exact hD
  refine lv_aload_n hx hb dX5_empty_5 rfl (lv_at hl 0 rfl) ?_
  refine lv_iconst (v := 0) hx hb dX5_empty_6 (by decide) ?_
  refine va_put (D := D) (ci := 1) (v := .int 0) (ty := .int) (C := RX5) (T := TX5) (N := 3) hx hb hts hi5 tyX5 tyX5_ok nmX5 hown hK hP hD hS ((14 + e0)) (wX_row he0) rfl 1 (by decide) kf18 (fun _ h9 => h9) rfl (tyX5_ok 1 (by decide)) rfl rfl (Nat.le_of_ble_eq_true rfl) dX5_empty_7 (fun H locs hP hD hS => ?_)
  have hP : va_P D vwCl (wX k a (va_up xLen e0 0) (va_up xHits e0 0) xUns xItems xLost xKind xSize xLet xRel xLim xOpen xMeas xSL xST xSD xSK xTal xKn xFT xFA xFE xOdds xPat xFind) H := by rw [← wX_s_xHits he0]; exact hP
  have hD : va_D A (wX k a (va_up xLen e0 0) (va_up xHits e0 0) xUns xItems xLost xKind xSize xLet xRel xLim xOpen xMeas xSL xST xSD xSK xTal xKn xFT xFA xFE xOdds xPat xFind) := by rw [← wX_s_xHits he0]; exact hD
  refine lv_aload_n hx hb dX5_empty_10 rfl (lv_at hl 0 rfl) ?_
  refine lv_iconst (v := 0) hx hb dX5_empty_11 (by decide) ?_
  refine va_put (D := D) (ci := 1) (v := .int 0) (ty := .int) (C := RX5) (T := TX5) (N := 3) hx hb hts hi5 tyX5 tyX5_ok nmX5 hown hK hP hD hS ((14 + e0)) (wX_row he0) rfl 2 (by decide) kf15 (fun _ h9 => h9) rfl (tyX5_ok 2 (by decide)) rfl rfl (Nat.le_of_ble_eq_true rfl) dX5_empty_12 (fun H locs hP hD hS => ?_)
  have hP : va_P D vwCl (wX k a (va_up xLen e0 0) (va_up xHits e0 0) (va_up xUns e0 0) xItems xLost xKind xSize xLet xRel xLim xOpen xMeas xSL xST xSD xSK xTal xKn xFT xFA xFE xOdds xPat xFind) H := by rw [← wX_s_xUns he0]; exact hP
  have hD : va_D A (wX k a (va_up xLen e0 0) (va_up xHits e0 0) (va_up xUns e0 0) xItems xLost xKind xSize xLet xRel xLim xOpen xMeas xSL xST xSD xSK xTal xKn xFT xFA xFE xOdds xPat xFind) := by rw [← wX_s_xUns he0]; exact hD
  have he := Option.some.inj h
  exact W.vret hx hb hr (fun t ht hW => ⟨⟨wX k a (va_up xLen e0 0) (va_up xHits e0 0) (va_up xUns e0 0) xItems xLost xKind xSize xLet xRel xLim xOpen xMeas xSL xST xSD xSK xTal xKn xFT xFA xFE xOdds xPat xFind, rfl, (congrArg (fun z => wX k a z.1 z.2.1 z.2.2 xItems xLost xKind xSize xLet xRel xLim xOpen xMeas xSL xST xSD xSK xTal xKn xFT xFA xFE xOdds xPat xFind) he), by rw [ht]; exact hP, va_K.moved hW.alike hK, hD⟩, hS.F ht⟩) hS.2.2 dX5_empty_15
set_option maxHeartbeats 4000000 in
set_option maxRecDepth 100000 in
theorem c_X5_empty (l : Launch) (D : va_G) (k : Nat → ClassId) (a : Nat → Nat) (xLen : Nat → Int32) (xHits : Nat → Int32) (xUns : Nat → Int32) (xItems : Nat → Nat → Int32) (xLost : Nat → Int32) (xKind : Nat → Int32) (xSize : Nat → Int32) (xLet : Nat → Int32) (xRel : Nat → Int32) (xLim : Nat → Int32) (xOpen : Nat → Int32) (xMeas : Nat → Int32) (xSL : Int32) (xST : Int32) (xSD : Int32) (xSK : Int32) (xTal : Nat → Nat → Int32) (xKn : Nat → Int32) (xFT : Nat → Int32) (xFA : Int32) (xFE : Int32) (xOdds : Int32) (xPat : Int32) (xFind : Int32) (e0 : Nat) (he0 : e0 < 4) {o : (Nat → Int32) × (Nat → Int32) × (Nat → Int32)} (h : f_X5_empty e0 xLen xHits xUns = some o) : mQv l yX5_empty wo_X5_empty 0 D k [.ref (a (14 + e0))] (wX k a xLen xHits xUns xItems xLost xKind xSize xLet xRel xLim xOpen xMeas xSL xST xSD xSK xTal xKn xFT xFA xFE xOdds xPat xFind) (wX k a o.1 o.2.1 o.2.2 xItems xLost xKind xSize xLet xRel xLim xOpen xMeas xSL xST xSD xSK xTal xKn xFT xFA xFE xOdds xPat xFind) := by
  intro sz
  refine Met.ofW (cc := cX5_empty) (maxL := 1) (ret := none) (by decide) rfl ?_
  intro p e s m args below meth c s₁ B hml hv
  obtain ⟨rfl, hsz, hP, hK, hD0⟩ := hv
  subst hsz
  rw [lg_entry_eq]
  exact core_X5_empty D k a xLen xHits xUns xItems xLost xKind xSize xLet xRel xLim xOpen xMeas xSL xST xSD xSK xTal xKn xFT xFA xFE xOdds xPat xFind e0 he0 B.exec B.bytes hml B.returns (atoms_spec (ws := wo_X5_empty) B.pre) (findClass_of_methodNamed B.named) B.notSynchronized (lv_entry [.ref (a (14 + e0))] (n := 1) (Nat.le_of_ble_eq_true rfl)) hK hP hD0.self (fun q h => Or.inr h) h
theorem qd_X5_empty : yX5_empty.cls = RX5 ∧ yX5_empty.cls ≠ "java/lang/invoke/MethodHandle" ∧ yX5_empty.cls ≠ "java/lang/invoke/VarHandle" ∧ (parseMethodDescriptor yX5_empty.desc).map (fun d => d.parameters.length) = some 0 := by decide +kernel
abbrev wo_X5_append : List Cond := .code yX5_append cX5_append 2 none :: wsL_law
set_option maxHeartbeats 4000000 in
set_option maxRecDepth 100000 in
theorem core_X5_append (D : va_G) (k : Nat → ClassId) (a : Nat → Nat) (xLen : Nat → Int32) (xHits : Nat → Int32) (xUns : Nat → Int32) (xItems : Nat → Nat → Int32) (xLost : Nat → Int32) (xKind : Nat → Int32) (xSize : Nat → Int32) (xLet : Nat → Int32) (xRel : Nat → Int32) (xLim : Nat → Int32) (xOpen : Nat → Int32) (xMeas : Nat → Int32) (xSL : Int32) (xST : Int32) (xSD : Int32) (xSK : Int32) (xTal : Nat → Nat → Int32) (xKn : Nat → Int32) (xFT : Nat → Int32) (xFA : Int32) (xFE : Int32) (xOdds : Int32) (xPat : Int32) (xFind : Int32) (e0 : Nat) (x1 : Int32) (he0 : e0 < 4) {p : Program} {l : Launch} {e : Env} {s : State} {m : MethodId} {args : Array Value} {below : List Frame} {meth : Method} {c : Code} {ls : Array Slot} (hx : p.tables.exec = Jvm.exec) (hb : c.code = cX5_append) (hml : c.maxLocals = 2) (hr : meth.sig.returnType = none) (hts : ∀ w ∈ wo_X5_append, w.before args s = true) (hown : s.vm.findClass RX5 = some m.cls) (hlocks : meth.locks = false) (hl : lv_has ls 2 [(0, .ref (a (14 + e0))), (1, .int x1)]) (hK : va_K D vwCl (xTys k) s) (hP : va_P D vwCl (wX k a xLen xHits xUns xItems xLost xKind xSize xLet xRel xLim xOpen xMeas xSL xST xSD xSK xTal xKn xFT xFA xFE xOdds xPat xFind) s.heap) {A : Nat → Prop} (hD : va_D A (wX k a xLen xHits xUns xItems xLost xKind xSize xLet xRel xLim xOpen xMeas xSL xST xSD xSK xTal xKn xFT xFA xFE xOdds xPat xFind)) (hA : ∀ q : Nat, s.heap.size ≤ q → A q) {o : (Nat → Int32) × (Nat → Int32) × (Nat → Int32)} (h : f_X5_append e0 x1 xLen xHits xUns = some o) : gQv p l e wo_X5_append 0 s m args below meth c D k A  (wX k a o.1 o.2.1 o.2.2 xItems xLost xKind xSize xLet xRel xLim xOpen xMeas xSL xST xSD xSK xTal xKn xFT xFA xFE xOdds xPat xFind) s.heap [] (F0 m 0 ls []) := by
  have hi5 := (fun w h => List.mem_cons_of_mem _ (inlX5 w h) : ∀ w ∈ wsX50, w ∈ wo_X5_append)
  have kf15 := hts _ (List.mem_cons_of_mem _ wm_108)
  have kf9 := hts _ (List.mem_cons_of_mem _ wm_102)
  have kf18 := hts _ (List.mem_cons_of_mem _ wm_107)
  unfold f_X5_append at h
  have hS : va_S A s.heap s.heap [] := va_S.rf
  have J38 : ∀ (e0 : Nat) (es0 : Nat) (s1 : Int32) (s2 : Int32) (xLen : Nat → Int32) (xHits : Nat → Int32) (xUns : Nat → Int32) (ls : Array Slot) (H : Heap) (locs : List Loc) (he0 : e0 < 4) (hes0 : es0 < 4) (hl : lv_has ls 2 [(0, .ref (a (14 + e0)))]) (hP : va_P D vwCl (wX k a xLen xHits xUns xItems xLost xKind xSize xLet xRel xLim xOpen xMeas xSL xST xSD xSK xTal xKn xFT xFA xFE xOdds xPat xFind) H) (hD : va_D A (wX k a xLen xHits xUns xItems xLost xKind xSize xLet xRel xLim xOpen xMeas xSL xST xSD xSK xTal xKn xFT xFA xFE xOdds xPat xFind)) (hS : va_S A s.heap H locs) (h : f_X5_append_38 e0 es0 s1 s2 xLen xHits xUns = some o), gQv p l e wo_X5_append 0 s m args below meth c D k A  (wX k a o.1 o.2.1 o.2.2 xItems xLost xKind xSize xLet xRel xLim xOpen xMeas xSL xST xSD xSK xTal xKn xFT xFA xFE xOdds xPat xFind) H locs (F0 m 38 ls [.int s2, .int s1, .ref (a (14 + es0))]) := by
    intro e0 es0 s1 s2 xLen xHits xUns ls H locs he0 hes0 hl hP hD hS h
    unfold f_X5_append_38 at h
    refine lv_ior hx hb dX5_append_38 ?_
    refine va_put (D := D) (ci := 1) (v := .int (s1 ||| s2)) (ty := .int) (C := RX5) (T := TX5) (N := 3) hx hb hts hi5 tyX5 tyX5_ok nmX5 hown hK hP hD hS ((14 + es0)) (wX_row hes0) rfl 2 (by decide) kf15 (fun _ h9 => h9) rfl (tyX5_ok 2 (by decide)) rfl rfl (Nat.le_of_ble_eq_true rfl) dX5_append_39 (fun H locs hP hD hS => ?_)
    have hP : va_P D vwCl (wX k a xLen xHits (va_up xUns es0 (s1 ||| s2)) xItems xLost xKind xSize xLet xRel xLim xOpen xMeas xSL xST xSD xSK xTal xKn xFT xFA xFE xOdds xPat xFind) H := by rw [← wX_s_xUns hes0]; exact hP
    have hD : va_D A (wX k a xLen xHits (va_up xUns es0 (s1 ||| s2)) xItems xLost xKind xSize xLet xRel xLim xOpen xMeas xSL xST xSD xSK xTal xKn xFT xFA xFE xOdds xPat xFind) := by rw [← wX_s_xUns hes0]; exact hD
    refine lv_aload_n hx hb dX5_append_42 rfl (lv_at hl 0 rfl) ?_
    refine lv_dup hx hb dX5_append_43 rfl ?_
    refine va_get (D := D) (ci := 1) (v := .int (xLen e0)) (C := RX5) (T := TX5) (N := 3) hx hb hts hi5 hown hK hP ((14 + e0)) (wX_row he0) rfl 0 (by decide) kf9 (fun _ h9 => h9) rfl dX5_append_44 ?_
    refine lv_iconst (v := 1) hx hb dX5_append_47 (by decide) ?_
    refine lv_iadd hx hb dX5_append_48 ?_
    refine va_put (D := D) (ci := 1) (v := .int ((xLen e0) + 1)) (ty := .int) (C := RX5) (T := TX5) (N := 3) hx hb hts hi5 tyX5 tyX5_ok nmX5 hown hK hP hD hS ((14 + e0)) (wX_row he0) rfl 0 (by decide) kf9 (fun _ h9 => h9) rfl (tyX5_ok 0 (by decide)) rfl rfl (Nat.le_of_ble_eq_true rfl) dX5_append_49 (fun H locs hP hD hS => ?_)
    have hP : va_P D vwCl (wX k a (va_up xLen e0 ((xLen e0) + 1)) xHits (va_up xUns es0 (s1 ||| s2)) xItems xLost xKind xSize xLet xRel xLim xOpen xMeas xSL xST xSD xSK xTal xKn xFT xFA xFE xOdds xPat xFind) H := by rw [← wX_s_xLen he0]; exact hP
    have hD : va_D A (wX k a (va_up xLen e0 ((xLen e0) + 1)) xHits (va_up xUns es0 (s1 ||| s2)) xItems xLost xKind xSize xLet xRel xLim xOpen xMeas xSL xST xSD xSK xTal xKn xFT xFA xFE xOdds xPat xFind) := by rw [← wX_s_xLen he0]; exact hD
    have he := Option.some.inj h
    exact W.vret hx hb hr (fun t ht hW => ⟨⟨wX k a (va_up xLen e0 ((xLen e0) + 1)) xHits (va_up xUns es0 (s1 ||| s2)) xItems xLost xKind xSize xLet xRel xLim xOpen xMeas xSL xST xSD xSK xTal xKn xFT xFA xFE xOdds xPat xFind, rfl, (congrArg (fun z => wX k a z.1 z.2.1 z.2.2 xItems xLost xKind xSize xLet xRel xLim xOpen xMeas xSL xST xSD xSK xTal xKn xFT xFA xFE xOdds xPat xFind) he), by rw [ht]; exact hP, va_K.moved hW.alike hK, hD⟩, hS.F ht⟩) hS.2.2 dX5_append_52
  have J17 : ∀ (e0 : Nat) (x1 : Int32) (es0 : Nat) (s1 : Int32) (s2 : Int32) (xLen : Nat → Int32) (xHits : Nat → Int32) (xUns : Nat → Int32) (ls : Array Slot) (H : Heap) (locs : List Loc) (he0 : e0 < 4) (hes0 : es0 < 4) (hl : lv_has ls 2 [(0, .ref (a (14 + e0))), (1, .int x1)]) (hP : va_P D vwCl (wX k a xLen xHits xUns xItems xLost xKind xSize xLet xRel xLim xOpen xMeas xSL xST xSD xSK xTal xKn xFT xFA xFE xOdds xPat xFind) H) (hD : va_D A (wX k a xLen xHits xUns xItems xLost xKind xSize xLet xRel xLim xOpen xMeas xSL xST xSD xSK xTal xKn xFT xFA xFE xOdds xPat xFind)) (hS : va_S A s.heap H locs) (h : f_X5_append_17 e0 x1 es0 s1 s2 xLen xHits xUns = some o), gQv p l e wo_X5_append 0 s m args below meth c D k A  (wX k a o.1 o.2.1 o.2.2 xItems xLost xKind xSize xLet xRel xLim xOpen xMeas xSL xST xSD xSK xTal xKn xFT xFA xFE xOdds xPat xFind) H locs (F0 m 17 ls [.int s2, .int s1, .ref (a (14 + es0))]) := by
    intro e0 x1 es0 s1 s2 xLen xHits xUns ls H locs he0 hes0 hl hP hD hS h
    unfold f_X5_append_17 at h
    refine lv_ior hx hb dX5_append_17 ?_
    refine va_put (D := D) (ci := 1) (v := .int (s1 ||| s2)) (ty := .int) (C := RX5) (T := TX5) (N := 3) hx hb hts hi5 tyX5 tyX5_ok nmX5 hown hK hP hD hS ((14 + es0)) (wX_row hes0) rfl 1 (by decide) kf18 (fun _ h9 => h9) rfl (tyX5_ok 1 (by decide)) rfl rfl (Nat.le_of_ble_eq_true rfl) dX5_append_18 (fun H locs hP hD hS => ?_)
    have hP : va_P D vwCl (wX k a xLen (va_up xHits es0 (s1 ||| s2)) xUns xItems xLost xKind xSize xLet xRel xLim xOpen xMeas xSL xST xSD xSK xTal xKn xFT xFA xFE xOdds xPat xFind) H := by rw [← wX_s_xHits hes0]; exact hP
    have hD : va_D A (wX k a xLen (va_up xHits es0 (s1 ||| s2)) xUns xItems xLost xKind xSize xLet xRel xLim xOpen xMeas xSL xST xSD xSK xTal xKn xFT xFA xFE xOdds xPat xFind) := by rw [← wX_s_xHits hes0]; exact hD
    refine lv_aload_n hx hb dX5_append_21 rfl (lv_at hl 0 rfl) ?_
    refine lv_aload_n hx hb dX5_append_22 rfl (lv_at hl 0 rfl) ?_
    refine va_get (D := D) (ci := 1) (v := .int (xUns e0)) (C := RX5) (T := TX5) (N := 3) hx hb hts hi5 hown hK hP ((14 + e0)) (wX_row he0) rfl 2 (by decide) kf15 (fun _ h9 => h9) rfl dX5_append_23 ?_
    refine lv_iconst (v := 1) hx hb dX5_append_26 (by decide) ?_
    refine lv_ishl hx hb dX5_append_27 ?_
    refine lv_iload_n hx hb dX5_append_28 rfl (lv_at hl 1 rfl) ?_
    refine lv_iconst (v := (-1)) hx hb dX5_append_29 (by decide) ?_
    refine lv_icmp_ne (tgt := 37) hx hb dX5_append_30 (by decide) (fun c1 => ?_) (fun c1 => ?_)
    · replace h := (if_neg c1).symm.trans h
      refine lv_iconst (v := 0) hx hb dX5_append_37 (by decide) ?_
      exact J38 e0 e0 ((xUns e0) <<< ((1 : Int32) &&& 31)) 0 xLen (va_up xHits es0 (s1 ||| s2)) xUns ls H locs he0 he0 (lv_sub hl [0] rfl) hP hD hS h
    · replace h := (if_pos c1).symm.trans h
      refine lv_iconst (v := 1) hx hb dX5_append_33 (by decide) ?_
      refine lv_goto (tgt := 38) hx hb dX5_append_34 (by decide) ?_
      exact J38 e0 e0 ((xUns e0) <<< ((1 : Int32) &&& 31)) 1 xLen (va_up xHits es0 (s1 ||| s2)) xUns ls H locs he0 he0 (lv_sub hl [0] rfl) hP hD hS h
  obtain ⟨H, hH⟩ : ∃ H : Heap, H = s.heap := ⟨_, rfl⟩
  obtain ⟨locs, hlc⟩ : ∃ locs : List Loc, locs = [] := ⟨_, rfl⟩
  have hS : va_S A s.heap H locs := by rw [hH, hlc]; exact va_S.rf
  have hP : va_P D vwCl (wX k a xLen xHits xUns xItems xLost xKind xSize xLet xRel xLim xOpen xMeas xSL xST xSD xSK xTal xKn xFT xFA xFE xOdds xPat xFind) H := by rw [hH]; exact hP
  suffices hGo : gQv p l e wo_X5_append 0 s m args below meth c D k A  (wX k a o.1 o.2.1 o.2.2 xItems xLost xKind xSize xLet xRel xLim xOpen xMeas xSL xST xSD xSK xTal xKn xFT xFA xFE xOdds xPat xFind) H locs (F0 m 0 ls []) by rw [hH, hlc] at hGo; exact hGo
  refine lv_aload_n hx hb dX5_append_0 rfl (lv_at hl 0 rfl) ?_
  refine lv_aload_n hx hb dX5_append_1 rfl (lv_at hl 0 rfl) ?_
  refine va_get (D := D) (ci := 1) (v := .int (xHits e0)) (C := RX5) (T := TX5) (N := 3) hx hb hts hi5 hown hK hP ((14 + e0)) (wX_row he0) rfl 1 (by decide) kf18 (fun _ h9 => h9) rfl dX5_append_2 ?_
  refine lv_iconst (v := 1) hx hb dX5_append_5 (by decide) ?_
  refine lv_ishl hx hb dX5_append_6 ?_
  refine lv_iload_n hx hb dX5_append_7 rfl (lv_at hl 1 rfl) ?_
  refine lv_iconst (v := 1) hx hb dX5_append_8 (by decide) ?_
  refine lv_icmp_ne (tgt := 16) hx hb dX5_append_9 (by decide) (fun c2 => ?_) (fun c2 => ?_)
  · replace h := (if_neg c2).symm.trans h
    refine lv_iconst (v := 0) hx hb dX5_append_16 (by decide) ?_
    exact J17 e0 x1 e0 ((xHits e0) <<< ((1 : Int32) &&& 31)) 0 xLen xHits xUns ls H locs he0 he0 (lv_sub hl [0, 1] rfl) hP hD hS h
  · replace h := (if_pos c2).symm.trans h
    refine lv_iconst (v := 1) hx hb dX5_append_12 (by decide) ?_
    refine lv_goto (tgt := 17) hx hb dX5_append_13 (by decide) ?_
    exact J17 e0 x1 e0 ((xHits e0) <<< ((1 : Int32) &&& 31)) 1 xLen xHits xUns ls H locs he0 he0 (lv_sub hl [0, 1] rfl) hP hD hS h
set_option maxHeartbeats 4000000 in
set_option maxRecDepth 100000 in
theorem c_X5_append (l : Launch) (D : va_G) (k : Nat → ClassId) (a : Nat → Nat) (xLen : Nat → Int32) (xHits : Nat → Int32) (xUns : Nat → Int32) (xItems : Nat → Nat → Int32) (xLost : Nat → Int32) (xKind : Nat → Int32) (xSize : Nat → Int32) (xLet : Nat → Int32) (xRel : Nat → Int32) (xLim : Nat → Int32) (xOpen : Nat → Int32) (xMeas : Nat → Int32) (xSL : Int32) (xST : Int32) (xSD : Int32) (xSK : Int32) (xTal : Nat → Nat → Int32) (xKn : Nat → Int32) (xFT : Nat → Int32) (xFA : Int32) (xFE : Int32) (xOdds : Int32) (xPat : Int32) (xFind : Int32) (e0 : Nat) (he0 : e0 < 4) (x1 : Int32) {o : (Nat → Int32) × (Nat → Int32) × (Nat → Int32)} (h : f_X5_append e0 x1 xLen xHits xUns = some o) : mQv l yX5_append wo_X5_append 0 D k [.ref (a (14 + e0)), .int x1] (wX k a xLen xHits xUns xItems xLost xKind xSize xLet xRel xLim xOpen xMeas xSL xST xSD xSK xTal xKn xFT xFA xFE xOdds xPat xFind) (wX k a o.1 o.2.1 o.2.2 xItems xLost xKind xSize xLet xRel xLim xOpen xMeas xSL xST xSD xSK xTal xKn xFT xFA xFE xOdds xPat xFind) := by
  intro sz
  refine Met.ofW (cc := cX5_append) (maxL := 2) (ret := none) (by decide) rfl ?_
  intro p e s m args below meth c s₁ B hml hv
  obtain ⟨rfl, hsz, hP, hK, hD0⟩ := hv
  subst hsz
  rw [lg_entry_eq]
  exact core_X5_append D k a xLen xHits xUns xItems xLost xKind xSize xLet xRel xLim xOpen xMeas xSL xST xSD xSK xTal xKn xFT xFA xFE xOdds xPat xFind e0 x1 he0 B.exec B.bytes hml B.returns (atoms_spec (ws := wo_X5_append) B.pre) (findClass_of_methodNamed B.named) B.notSynchronized (lv_entry [.ref (a (14 + e0)), .int x1] (n := 2) (Nat.le_of_ble_eq_true rfl)) hK hP hD0.self (fun q h => Or.inr h) h
theorem qd_X5_append : yX5_append.cls = RX5 ∧ yX5_append.cls ≠ "java/lang/invoke/MethodHandle" ∧ yX5_append.cls ≠ "java/lang/invoke/VarHandle" ∧ (parseMethodDescriptor yX5_append.desc).map (fun d => d.parameters.length) = some 1 := by decide +kernel
abbrev wo_X5_signAt : List Cond := .code yX5_signAt cX5_signAt 3 (some .int) :: wsL_law
set_option maxHeartbeats 4000000 in
set_option maxRecDepth 100000 in
theorem core_X5_signAt (D : va_G) (k : Nat → ClassId) (a : Nat → Nat) (xLen : Nat → Int32) (xHits : Nat → Int32) (xUns : Nat → Int32) (xItems : Nat → Nat → Int32) (xLost : Nat → Int32) (xKind : Nat → Int32) (xSize : Nat → Int32) (xLet : Nat → Int32) (xRel : Nat → Int32) (xLim : Nat → Int32) (xOpen : Nat → Int32) (xMeas : Nat → Int32) (xSL : Int32) (xST : Int32) (xSD : Int32) (xSK : Int32) (xTal : Nat → Nat → Int32) (xKn : Nat → Int32) (xFT : Nat → Int32) (xFA : Int32) (xFE : Int32) (xOdds : Int32) (xPat : Int32) (xFind : Int32) (e0 : Nat) (x1 : Int32) (he0 : e0 < 4) {p : Program} {l : Launch} {e : Env} {s : State} {m : MethodId} {args : Array Value} {below : List Frame} {meth : Method} {c : Code} {ls : Array Slot} (hx : p.tables.exec = Jvm.exec) (hb : c.code = cX5_signAt) (hml : c.maxLocals = 3) (hr : meth.sig.returnType = some .int) (hts : ∀ w ∈ wo_X5_signAt, w.before args s = true) (hown : s.vm.findClass RX5 = some m.cls) (hlocks : meth.locks = false) (hl : lv_has ls 3 [(0, .ref (a (14 + e0))), (1, .int x1)]) (hK : va_K D vwCl (xTys k) s) (hP : va_P D vwCl (wX k a xLen xHits xUns xItems xLost xKind xSize xLet xRel xLim xOpen xMeas xSL xST xSD xSK xTal xKn xFT xFA xFE xOdds xPat xFind) s.heap) {o : Int32} (h : f_X5_signAt e0 x1 xLen xHits xUns = some o) : gRi p l e wo_X5_signAt 0 s m args below meth c o (F0 m 0 ls []) := by
  have hi5 := (fun w h => List.mem_cons_of_mem _ (inlX5 w h) : ∀ w ∈ wsX50, w ∈ wo_X5_signAt)
  have kf9 := hts _ (List.mem_cons_of_mem _ wm_102)
  have kf15 := hts _ (List.mem_cons_of_mem _ wm_108)
  have kf18 := hts _ (List.mem_cons_of_mem _ wm_107)
  unfold f_X5_signAt at h
  refine lv_aload_n hx hb dX5_signAt_0 rfl (lv_at hl 0 rfl) ?_
  refine va_get (D := D) (ci := 1) (v := .int (xLen e0)) (C := RX5) (T := TX5) (N := 3) hx hb hts hi5 hown hK hP ((14 + e0)) (wX_row he0) rfl 0 (by decide) kf9 (fun _ h9 => h9) rfl dX5_signAt_1 ?_
  refine lv_iconst (v := 1) hx hb dX5_signAt_4 (by decide) ?_
  refine lv_isub hx hb dX5_signAt_5 ?_
  refine lv_iload_n hx hb dX5_signAt_6 rfl (lv_at hl 1 rfl) ?_
  refine lv_isub hx hb dX5_signAt_7 ?_
  refine lv_istore_n (lv' := [(2, .int (((xLen e0) - 1) - x1)), (0, .ref (a (14 + e0))), (1, .int x1)]) hx hb dX5_signAt_8 rfl hl (by decide) rfl (fun ls hl => ?_)
  refine lv_aload_n hx hb dX5_signAt_9 rfl (lv_at hl 1 rfl) ?_
  refine va_get (D := D) (ci := 1) (v := .int (xUns e0)) (C := RX5) (T := TX5) (N := 3) hx hb hts hi5 hown hK hP ((14 + e0)) (wX_row he0) rfl 2 (by decide) kf15 (fun _ h9 => h9) rfl dX5_signAt_10 ?_
  refine lv_iload_n hx hb dX5_signAt_13 rfl (lv_at hl 0 rfl) ?_
  refine lv_ishr hx hb dX5_signAt_14 ?_
  refine lv_iconst (v := 1) hx hb dX5_signAt_15 (by decide) ?_
  refine lv_iand hx hb dX5_signAt_16 ?_
  refine lv_iconst (v := 1) hx hb dX5_signAt_17 (by decide) ?_
  refine lv_icmp_ne (tgt := 23) hx hb dX5_signAt_18 (by decide) (fun c1 => ?_) (fun c1 => ?_)
  · replace h := (if_neg c1).symm.trans h
    refine lv_aload_n hx hb dX5_signAt_23 rfl (lv_at hl 1 rfl) ?_
    refine va_get (D := D) (ci := 1) (v := .int (xHits e0)) (C := RX5) (T := TX5) (N := 3) hx hb hts hi5 hown hK hP ((14 + e0)) (wX_row he0) rfl 1 (by decide) kf18 (fun _ h9 => h9) rfl dX5_signAt_24 ?_
    refine lv_iload_n hx hb dX5_signAt_27 rfl (lv_at hl 0 rfl) ?_
    refine lv_ishr hx hb dX5_signAt_28 ?_
    refine lv_iconst (v := 1) hx hb dX5_signAt_29 (by decide) ?_
    refine lv_iand hx hb dX5_signAt_30 ?_
    exact W.iret (v := (((xHits e0) >>> ((((xLen e0) - 1) - x1) &&& 31)) &&& 1)) hx hb hr (fun t ht hW => ⟨_, rfl, Option.some.inj h, ht⟩) (fun q hq => by cases hq) dX5_signAt_31
  · replace h := (if_pos c1).symm.trans h
    refine lv_iconst (v := (-1)) hx hb dX5_signAt_21 (by decide) ?_
    exact W.iret (v := (-1)) hx hb hr (fun t ht hW => ⟨_, rfl, Option.some.inj h, ht⟩) (fun q hq => by cases hq) dX5_signAt_22
set_option maxHeartbeats 4000000 in
set_option maxRecDepth 100000 in
theorem c_X5_signAt (l : Launch) (D : va_G) (k : Nat → ClassId) (a : Nat → Nat) (xLen : Nat → Int32) (xHits : Nat → Int32) (xUns : Nat → Int32) (xItems : Nat → Nat → Int32) (xLost : Nat → Int32) (xKind : Nat → Int32) (xSize : Nat → Int32) (xLet : Nat → Int32) (xRel : Nat → Int32) (xLim : Nat → Int32) (xOpen : Nat → Int32) (xMeas : Nat → Int32) (xSL : Int32) (xST : Int32) (xSD : Int32) (xSK : Int32) (xTal : Nat → Nat → Int32) (xKn : Nat → Int32) (xFT : Nat → Int32) (xFA : Int32) (xFE : Int32) (xOdds : Int32) (xPat : Int32) (xFind : Int32) (e0 : Nat) (he0 : e0 < 4) (x1 : Int32) {o : Int32} (h : f_X5_signAt e0 x1 xLen xHits xUns = some o) : mRi l yX5_signAt wo_X5_signAt 0 D k [.ref (a (14 + e0)), .int x1] (wX k a xLen xHits xUns xItems xLost xKind xSize xLet xRel xLim xOpen xMeas xSL xST xSD xSK xTal xKn xFT xFA xFE xOdds xPat xFind) o := by
  refine Met.ofW (cc := cX5_signAt) (maxL := 3) (ret := some .int) (by decide) rfl ?_
  intro p e s m args below meth c s₁ B hml hv
  obtain ⟨rfl, hP, hK⟩ := hv
  rw [lg_entry_eq]
  exact core_X5_signAt D k a xLen xHits xUns xItems xLost xKind xSize xLet xRel xLim xOpen xMeas xSL xST xSD xSK xTal xKn xFT xFA xFE xOdds xPat xFind e0 x1 he0 B.exec B.bytes hml B.returns (atoms_spec (ws := wo_X5_signAt) B.pre) (findClass_of_methodNamed B.named) B.notSynchronized (lv_entry [.ref (a (14 + e0)), .int x1] (n := 3) (Nat.le_of_ble_eq_true rfl)) hK hP h
theorem qd_X5_signAt : yX5_signAt.cls = RX5 ∧ yX5_signAt.cls ≠ "java/lang/invoke/MethodHandle" ∧ yX5_signAt.cls ≠ "java/lang/invoke/VarHandle" ∧ (parseMethodDescriptor yX5_signAt.desc).map (fun d => d.parameters.length) = some 1 := by decide +kernel
abbrev wo_X5_isBehindItsEnd : List Cond := .code yX5_isBehindItsEnd cX5_isBehindItsEnd 6 (some .boolean) :: wsL_law
set_option maxHeartbeats 4000000 in
set_option maxRecDepth 100000 in
theorem core_X5_isBehindItsEnd (D : va_G) (k : Nat → ClassId) (a : Nat → Nat) (xLen : Nat → Int32) (xHits : Nat → Int32) (xUns : Nat → Int32) (xItems : Nat → Nat → Int32) (xLost : Nat → Int32) (xKind : Nat → Int32) (xSize : Nat → Int32) (xLet : Nat → Int32) (xRel : Nat → Int32) (xLim : Nat → Int32) (xOpen : Nat → Int32) (xMeas : Nat → Int32) (xSL : Int32) (xST : Int32) (xSD : Int32) (xSK : Int32) (xTal : Nat → Nat → Int32) (xKn : Nat → Int32) (xFT : Nat → Int32) (xFA : Int32) (xFE : Int32) (xOdds : Int32) (xPat : Int32) (xFind : Int32) (e0 : Nat) (x1 : Int32) (x2 : Int32) (he0 : e0 < 4) {p : Program} {l : Launch} {e : Env} {s : State} {m : MethodId} {args : Array Value} {below : List Frame} {meth : Method} {c : Code} {ls : Array Slot} (hx : p.tables.exec = Jvm.exec) (hb : c.code = cX5_isBehindItsEnd) (hml : c.maxLocals = 6) (hr : meth.sig.returnType = some .boolean) (hts : ∀ w ∈ wo_X5_isBehindItsEnd, w.before args s = true) (hown : s.vm.findClass RX5 = some m.cls) (hlocks : meth.locks = false) (hl : lv_has ls 6 [(0, .ref (a (14 + e0))), (1, .int x1), (2, .int x2)]) (hK : va_K D vwCl (xTys k) s) (hP : va_P D vwCl (wX k a xLen xHits xUns xItems xLost xKind xSize xLet xRel xLim xOpen xMeas xSL xST xSD xSK xTal xKn xFT xFA xFE xOdds xPat xFind) s.heap) {o : Int32} (h : f_X5_isBehindItsEnd e0 x1 x2 xLen xHits xUns = some o) : gRi p l e wo_X5_isBehindItsEnd 0 s m args below meth c o (F0 m 0 ls []) := by
  have hi5 := (fun w h => List.mem_cons_of_mem _ (inlX5 w h) : ∀ w ∈ wsX50, w ∈ wo_X5_isBehindItsEnd)
  have kf18 := hts _ (List.mem_cons_of_mem _ wm_107)
  have kf9 := hts _ (List.mem_cons_of_mem _ wm_102)
  have kf15 := hts _ (List.mem_cons_of_mem _ wm_108)
  unfold f_X5_isBehindItsEnd at h
  have J38 : ∀ (e0 : Nat) (x3 : Int32) (x4 : Int32) (s0 : Int32) (ls : Array Slot) (he0 : e0 < 4) (hl : lv_has ls 6 [(0, .ref (a (14 + e0))), (3, .int x3), (4, .int x4)]) (h : f_X5_isBehindItsEnd_38 e0 x3 x4 s0 xLen xHits xUns = some o), gRi p l e wo_X5_isBehindItsEnd 0 s m args below meth c o (F0 m 38 ls [.int s0]) := by
    intro e0 x3 x4 s0 ls he0 hl h
    unfold f_X5_isBehindItsEnd_38 at h
    refine lv_istore (lv' := [(5, .int s0), (0, .ref (a (14 + e0))), (3, .int x3), (4, .int x4)]) hx hb dX5_isBehindItsEnd_38 hl (by decide) rfl (fun ls hl => ?_)
    refine lv_iload hx hb dX5_isBehindItsEnd_40 (lv_at hl 0 rfl) ?_
    refine lv_if_eq (tgt := 70) hx hb dX5_isBehindItsEnd_42 (by decide) (fun c1 => ?_) (fun c1 => ?_)
    · replace h := (if_pos c1).symm.trans h
      refine lv_iconst (v := 0) hx hb dX5_isBehindItsEnd_70 (by decide) ?_
      exact W.zret (v := 0) hx hb hr rfl (fun t ht hW => ⟨_, rfl, Option.some.inj h, ht⟩) (fun q hq => by cases hq) dX5_isBehindItsEnd_71
    · replace h := (if_neg c1).symm.trans h
      refine lv_aload_n hx hb dX5_isBehindItsEnd_45 rfl (lv_at hl 1 rfl) ?_
      refine va_get (D := D) (ci := 1) (v := .int (xHits e0)) (C := RX5) (T := TX5) (N := 3) hx hb hts hi5 hown hK hP ((14 + e0)) (wX_row he0) rfl 1 (by decide) kf18 (fun _ h9 => h9) rfl dX5_isBehindItsEnd_46 ?_
      refine lv_iload_n hx hb dX5_isBehindItsEnd_49 rfl (lv_at hl 2 rfl) ?_
      refine lv_iconst (v := 1) hx hb dX5_isBehindItsEnd_50 (by decide) ?_
      refine lv_iadd hx hb dX5_isBehindItsEnd_51 ?_
      refine lv_ishr hx hb dX5_isBehindItsEnd_52 ?_
      refine lv_iload hx hb dX5_isBehindItsEnd_53 (lv_at hl 3 rfl) ?_
      refine lv_iand hx hb dX5_isBehindItsEnd_55 ?_
      refine lv_aload_n hx hb dX5_isBehindItsEnd_56 rfl (lv_at hl 1 rfl) ?_
      refine va_get (D := D) (ci := 1) (v := .int (xHits e0)) (C := RX5) (T := TX5) (N := 3) hx hb hts hi5 hown hK hP ((14 + e0)) (wX_row he0) rfl 1 (by decide) kf18 (fun _ h9 => h9) rfl dX5_isBehindItsEnd_57 ?_
      refine lv_iload hx hb dX5_isBehindItsEnd_60 (lv_at hl 3 rfl) ?_
      refine lv_iand hx hb dX5_isBehindItsEnd_62 ?_
      refine lv_icmp_ne (tgt := 70) hx hb dX5_isBehindItsEnd_63 (by decide) (fun c2 => ?_) (fun c2 => ?_)
      · replace h := (if_neg c2).symm.trans h
        refine lv_iconst (v := 0) hx hb dX5_isBehindItsEnd_70 (by decide) ?_
        exact W.zret (v := 0) hx hb hr rfl (fun t ht hW => ⟨_, rfl, Option.some.inj h, ht⟩) (fun q hq => by cases hq) dX5_isBehindItsEnd_71
      · replace h := (if_pos c2).symm.trans h
        refine lv_iconst (v := 1) hx hb dX5_isBehindItsEnd_66 (by decide) ?_
        refine lv_goto (tgt := 71) hx hb dX5_isBehindItsEnd_67 (by decide) ?_
        exact W.zret (v := 1) hx hb hr rfl (fun t ht hW => ⟨_, rfl, Option.some.inj h, ht⟩) (fun q hq => by cases hq) dX5_isBehindItsEnd_71
  refine lv_aload_n hx hb dX5_isBehindItsEnd_0 rfl (lv_at hl 0 rfl) ?_
  refine va_get (D := D) (ci := 1) (v := .int (xLen e0)) (C := RX5) (T := TX5) (N := 3) hx hb hts hi5 hown hK hP ((14 + e0)) (wX_row he0) rfl 0 (by decide) kf9 (fun _ h9 => h9) rfl dX5_isBehindItsEnd_1 ?_
  refine lv_iconst (v := 1) hx hb dX5_isBehindItsEnd_4 (by decide) ?_
  refine lv_isub hx hb dX5_isBehindItsEnd_5 ?_
  refine lv_iload_n hx hb dX5_isBehindItsEnd_6 rfl (lv_at hl 1 rfl) ?_
  refine lv_isub hx hb dX5_isBehindItsEnd_7 ?_
  refine lv_istore_n (lv' := [(3, .int (((xLen e0) - 1) - x1)), (0, .ref (a (14 + e0))), (1, .int x1), (2, .int x2)]) hx hb dX5_isBehindItsEnd_8 rfl hl (by decide) rfl (fun ls hl => ?_)
  refine lv_iconst (v := 1) hx hb dX5_isBehindItsEnd_9 (by decide) ?_
  refine lv_iload_n hx hb dX5_isBehindItsEnd_10 rfl (lv_at hl 3 rfl) ?_
  refine lv_ishl hx hb dX5_isBehindItsEnd_11 ?_
  refine lv_iconst (v := 1) hx hb dX5_isBehindItsEnd_12 (by decide) ?_
  refine lv_isub hx hb dX5_isBehindItsEnd_13 ?_
  refine lv_istore (lv' := [(4, .int (((1 : Int32) <<< (x2 &&& 31)) - 1)), (3, .int (((xLen e0) - 1) - x1)), (0, .ref (a (14 + e0))), (1, .int x1), (2, .int x2)]) hx hb dX5_isBehindItsEnd_14 hl (by decide) rfl (fun ls hl => ?_)
  refine lv_aload_n hx hb dX5_isBehindItsEnd_16 rfl (lv_at hl 2 rfl) ?_
  refine va_get (D := D) (ci := 1) (v := .int (xUns e0)) (C := RX5) (T := TX5) (N := 3) hx hb hts hi5 hown hK hP ((14 + e0)) (wX_row he0) rfl 2 (by decide) kf15 (fun _ h9 => h9) rfl dX5_isBehindItsEnd_17 ?_
  refine lv_iload_n hx hb dX5_isBehindItsEnd_20 rfl (lv_at hl 1 rfl) ?_
  refine lv_ishr hx hb dX5_isBehindItsEnd_21 ?_
  refine lv_iconst (v := 1) hx hb dX5_isBehindItsEnd_22 (by decide) ?_
  refine lv_iload_n hx hb dX5_isBehindItsEnd_23 rfl (lv_at hl 4 rfl) ?_
  refine lv_iconst (v := 1) hx hb dX5_isBehindItsEnd_24 (by decide) ?_
  refine lv_iadd hx hb dX5_isBehindItsEnd_25 ?_
  refine lv_ishl hx hb dX5_isBehindItsEnd_26 ?_
  refine lv_iconst (v := 1) hx hb dX5_isBehindItsEnd_27 (by decide) ?_
  refine lv_isub hx hb dX5_isBehindItsEnd_28 ?_
  refine lv_iand hx hb dX5_isBehindItsEnd_29 ?_
  refine lv_if_ne (tgt := 37) hx hb dX5_isBehindItsEnd_30 (by decide) (fun c3 => ?_) (fun c3 => ?_)
  · replace h := (if_neg c3).symm.trans h
    refine lv_iconst (v := 0) hx hb dX5_isBehindItsEnd_37 (by decide) ?_
    exact J38 e0 (((xLen e0) - 1) - x1) (((1 : Int32) <<< (x2 &&& 31)) - 1) 0 ls he0 (lv_sub hl [2, 1, 0] rfl) h
  · replace h := (if_pos c3).symm.trans h
    refine lv_iconst (v := 1) hx hb dX5_isBehindItsEnd_33 (by decide) ?_
    refine lv_goto (tgt := 38) hx hb dX5_isBehindItsEnd_34 (by decide) ?_
    exact J38 e0 (((xLen e0) - 1) - x1) (((1 : Int32) <<< (x2 &&& 31)) - 1) 1 ls he0 (lv_sub hl [2, 1, 0] rfl) h
set_option maxHeartbeats 4000000 in
set_option maxRecDepth 100000 in
theorem c_X5_isBehindItsEnd (l : Launch) (D : va_G) (k : Nat → ClassId) (a : Nat → Nat) (xLen : Nat → Int32) (xHits : Nat → Int32) (xUns : Nat → Int32) (xItems : Nat → Nat → Int32) (xLost : Nat → Int32) (xKind : Nat → Int32) (xSize : Nat → Int32) (xLet : Nat → Int32) (xRel : Nat → Int32) (xLim : Nat → Int32) (xOpen : Nat → Int32) (xMeas : Nat → Int32) (xSL : Int32) (xST : Int32) (xSD : Int32) (xSK : Int32) (xTal : Nat → Nat → Int32) (xKn : Nat → Int32) (xFT : Nat → Int32) (xFA : Int32) (xFE : Int32) (xOdds : Int32) (xPat : Int32) (xFind : Int32) (e0 : Nat) (he0 : e0 < 4) (x1 : Int32) (x2 : Int32) {o : Int32} (h : f_X5_isBehindItsEnd e0 x1 x2 xLen xHits xUns = some o) : mRi l yX5_isBehindItsEnd wo_X5_isBehindItsEnd 0 D k [.ref (a (14 + e0)), .int x1, .int x2] (wX k a xLen xHits xUns xItems xLost xKind xSize xLet xRel xLim xOpen xMeas xSL xST xSD xSK xTal xKn xFT xFA xFE xOdds xPat xFind) o := by
  refine Met.ofW (cc := cX5_isBehindItsEnd) (maxL := 6) (ret := some .boolean) (by decide) rfl ?_
  intro p e s m args below meth c s₁ B hml hv
  obtain ⟨rfl, hP, hK⟩ := hv
  rw [lg_entry_eq]
  exact core_X5_isBehindItsEnd D k a xLen xHits xUns xItems xLost xKind xSize xLet xRel xLim xOpen xMeas xSL xST xSD xSK xTal xKn xFT xFA xFE xOdds xPat xFind e0 x1 x2 he0 B.exec B.bytes hml B.returns (atoms_spec (ws := wo_X5_isBehindItsEnd) B.pre) (findClass_of_methodNamed B.named) B.notSynchronized (lv_entry [.ref (a (14 + e0)), .int x1, .int x2] (n := 6) (Nat.le_of_ble_eq_true rfl)) hK hP h
theorem qd_X5_isBehindItsEnd : yX5_isBehindItsEnd.cls = RX5 ∧ yX5_isBehindItsEnd.cls ≠ "java/lang/invoke/MethodHandle" ∧ yX5_isBehindItsEnd.cls ≠ "java/lang/invoke/VarHandle" ∧ (parseMethodDescriptor yX5_isBehindItsEnd.desc).map (fun d => d.parameters.length) = some 2 := by decide +kernel
abbrev wo_X7_renew : List Cond := .code yX7_renew cX7_renew 4 none :: wsL_law
set_option maxHeartbeats 4000000 in
set_option maxRecDepth 100000 in
theorem core_X7_renew {N : Nat} (D : va_G) (k : Nat → ClassId) (a : Nat → Nat) (xLen : Nat → Int32) (xHits : Nat → Int32) (xUns : Nat → Int32) (xItems : Nat → Nat → Int32) (xLost : Nat → Int32) (xKind : Nat → Int32) (xSize : Nat → Int32) (xLet : Nat → Int32) (xRel : Nat → Int32) (xLim : Nat → Int32) (xOpen : Nat → Int32) (xMeas : Nat → Int32) (xSL : Int32) (xST : Int32) (xSD : Int32) (xSK : Int32) (xTal : Nat → Nat → Int32) (xKn : Nat → Int32) (xFT : Nat → Int32) (xFA : Int32) (xFE : Int32) (xOdds : Int32) (xPat : Int32) (xFind : Int32) (e0 : Nat) (x1 : Int32) (x2 : Int32) (he0 : e0 < 4) {p : Program} {l : Launch} {e : Env} {s : State} {m : MethodId} {args : Array Value} {below : List Frame} {meth : Method} {c : Code} {ls : Array Slot} (hx : p.tables.exec = Jvm.exec) (hb : c.code = cX7_renew) (hml : c.maxLocals = 4) (hr : meth.sig.returnType = none) (hts : ∀ w ∈ wo_X7_renew, w.before args s = true) (hown : s.vm.findClass RX7 = some m.cls) (hlocks : meth.locks = false) (hl : lv_has ls 4 [(0, .ref (a (18 + e0))), (1, .int x1), (2, .int x2)]) (hK : va_K D vwCl (xTys k) s) (hP : va_P D vwCl (wX k a xLen xHits xUns xItems xLost xKind xSize xLet xRel xLim xOpen xMeas xSL xST xSD xSK xTal xKn xFT xFA xFE xOdds xPat xFind) s.heap) {A : Nat → Prop} (hD : va_D A (wX k a xLen xHits xUns xItems xLost xKind xSize xLet xRel xLim xOpen xMeas xSL xST xSD xSK xTal xKn xFT xFA xFE xOdds xPat xFind)) (hA : ∀ q : Nat, s.heap.size ≤ q → A q) {o : (Nat → Nat → Int32) × (Nat → Int32) × (Nat → Int32) × (Nat → Int32)} (h : f_X7_renew N e0 x1 x2 xItems xLost xKind xSize = some o) : gQv p l e wo_X7_renew 0 s m args below meth c D k A  (wX k a xLen xHits xUns o.1 o.2.1 o.2.2.1 o.2.2.2 xLet xRel xLim xOpen xMeas xSL xST xSD xSK xTal xKn xFT xFA xFE xOdds xPat xFind) s.heap [] (F0 m 0 ls []) := by
  have hi7 := (fun w h => List.mem_cons_of_mem _ (inlX7 w h) : ∀ w ∈ wsX70, w ∈ wo_X7_renew)
  have kf15 := hts _ (List.mem_cons_of_mem _ wm_44)
  have kf19 := hts _ (List.mem_cons_of_mem _ wm_761)
  have kf23 := hts _ (List.mem_cons_of_mem _ wm_762)
  have kf9 := hts _ (List.mem_cons_of_mem _ wm_43)
  unfold f_X7_renew at h
  have hS : va_S A s.heap s.heap [] := va_S.rf
  have L2 : ∀ (n2 : Nat) (e0 : Nat) (x1 : Int32) (x2 : Int32) (x3 : Int32) (xItems : Nat → Nat → Int32) (xLost : Nat → Int32) (xKind : Nat → Int32) (xSize : Nat → Int32) (ls : Array Slot) (H : Heap) (locs : List Loc) (he0 : e0 < 4) (hl : lv_has ls 4 [(0, .ref (a (18 + e0))), (1, .int x1), (2, .int x2), (3, .int x3)]) (hP : va_P D vwCl (wX k a xLen xHits xUns xItems xLost xKind xSize xLet xRel xLim xOpen xMeas xSL xST xSD xSK xTal xKn xFT xFA xFE xOdds xPat xFind) H) (hD : va_D A (wX k a xLen xHits xUns xItems xLost xKind xSize xLet xRel xLim xOpen xMeas xSL xST xSD xSK xTal xKn xFT xFA xFE xOdds xPat xFind)) (hS : va_S A s.heap H locs) (h : f_X7_renew_2 N n2 e0 x1 x2 x3 xItems xLost xKind xSize = some o), gQv p l e wo_X7_renew 0 s m args below meth c D k A  (wX k a xLen xHits xUns o.1 o.2.1 o.2.2.1 o.2.2.2 xLet xRel xLim xOpen xMeas xSL xST xSD xSK xTal xKn xFT xFA xFE xOdds xPat xFind) H locs (F0 m 2 ls []) := by
    intro n2
    induction n2 with
    | zero => intro e0 x1 x2 x3 xItems xLost xKind xSize ls H locs he0 hl hP hD hS h; cases (show (none : Option ((Nat → Nat → Int32) × (Nat → Int32) × (Nat → Int32) × (Nat → Int32))) = some o from h)
    | succ n2 ih2 =>
      intro e0 x1 x2 x3 xItems xLost xKind xSize ls H locs he0 hl hP hD hS h
      rw [f_X7_renew_2] at h
      refine lv_iload_n hx hb dX7_renew_2 rfl (lv_at hl 3 rfl) ?_
      refine lv_bipush (v := 40) hx hb dX7_renew_3 (by decide) ?_
      refine lv_icmp_ge (tgt := 21) hx hb dX7_renew_5 (by decide) (fun c1 => ?_) (fun c1 => ?_)
      · replace h := (if_pos c1).symm.trans h
        refine lv_aload_n hx hb dX7_renew_21 rfl (lv_at hl 0 rfl) ?_
        refine lv_iconst (v := 0) hx hb dX7_renew_22 (by decide) ?_
        refine va_put (D := D) (ci := 3) (v := .int 0) (ty := .boolean) (C := RX7) (T := TX7) (N := 4) hx hb hts hi7 tyX7 tyX7_ok nmX7 hown hK hP hD hS ((18 + e0)) (wX_sheet he0) rfl 1 (by decide) kf15 (fun _ h9 => h9) rfl (tyX7_ok 1 (by decide)) rfl rfl (Nat.le_of_ble_eq_true rfl) dX7_renew_23 (fun H locs hP hD hS => ?_)
        have hP : va_P D vwCl (wX k a xLen xHits xUns xItems (va_up xLost e0 0) xKind xSize xLet xRel xLim xOpen xMeas xSL xST xSD xSK xTal xKn xFT xFA xFE xOdds xPat xFind) H := by rw [← wX_s_xLost he0]; exact hP
        have hD : va_D A (wX k a xLen xHits xUns xItems (va_up xLost e0 0) xKind xSize xLet xRel xLim xOpen xMeas xSL xST xSD xSK xTal xKn xFT xFA xFE xOdds xPat xFind) := by rw [← wX_s_xLost he0]; exact hD
        refine lv_aload_n hx hb dX7_renew_26 rfl (lv_at hl 0 rfl) ?_
        refine lv_iload_n hx hb dX7_renew_27 rfl (lv_at hl 1 rfl) ?_
        refine va_put (D := D) (ci := 3) (v := .int x1) (ty := .int) (C := RX7) (T := TX7) (N := 4) hx hb hts hi7 tyX7 tyX7_ok nmX7 hown hK hP hD hS ((18 + e0)) (wX_sheet he0) rfl 2 (by decide) kf19 (fun _ h9 => h9) rfl (tyX7_ok 2 (by decide)) rfl rfl (Nat.le_of_ble_eq_true rfl) dX7_renew_28 (fun H locs hP hD hS => ?_)
        have hP : va_P D vwCl (wX k a xLen xHits xUns xItems (va_up xLost e0 0) (va_up xKind e0 x1) xSize xLet xRel xLim xOpen xMeas xSL xST xSD xSK xTal xKn xFT xFA xFE xOdds xPat xFind) H := by rw [← wX_s_xKind he0]; exact hP
        have hD : va_D A (wX k a xLen xHits xUns xItems (va_up xLost e0 0) (va_up xKind e0 x1) xSize xLet xRel xLim xOpen xMeas xSL xST xSD xSK xTal xKn xFT xFA xFE xOdds xPat xFind) := by rw [← wX_s_xKind he0]; exact hD
        refine lv_aload_n hx hb dX7_renew_31 rfl (lv_at hl 0 rfl) ?_
        refine lv_iload_n hx hb dX7_renew_32 rfl (lv_at hl 2 rfl) ?_
        refine va_put (D := D) (ci := 3) (v := .int x2) (ty := .int) (C := RX7) (T := TX7) (N := 4) hx hb hts hi7 tyX7 tyX7_ok nmX7 hown hK hP hD hS ((18 + e0)) (wX_sheet he0) rfl 3 (by decide) kf23 (fun _ h9 => h9) rfl (tyX7_ok 3 (by decide)) rfl rfl (Nat.le_of_ble_eq_true rfl) dX7_renew_33 (fun H locs hP hD hS => ?_)
        have hP : va_P D vwCl (wX k a xLen xHits xUns xItems (va_up xLost e0 0) (va_up xKind e0 x1) (va_up xSize e0 x2) xLet xRel xLim xOpen xMeas xSL xST xSD xSK xTal xKn xFT xFA xFE xOdds xPat xFind) H := by rw [← wX_s_xSize he0]; exact hP
        have hD : va_D A (wX k a xLen xHits xUns xItems (va_up xLost e0 0) (va_up xKind e0 x1) (va_up xSize e0 x2) xLet xRel xLim xOpen xMeas xSL xST xSD xSK xTal xKn xFT xFA xFE xOdds xPat xFind) := by rw [← wX_s_xSize he0]; exact hD
        have he := Option.some.inj h
        exact W.vret hx hb hr (fun t ht hW => ⟨⟨wX k a xLen xHits xUns xItems (va_up xLost e0 0) (va_up xKind e0 x1) (va_up xSize e0 x2) xLet xRel xLim xOpen xMeas xSL xST xSD xSK xTal xKn xFT xFA xFE xOdds xPat xFind, rfl, (congrArg (fun z => wX k a xLen xHits xUns z.1 z.2.1 z.2.2.1 z.2.2.2 xLet xRel xLim xOpen xMeas xSL xST xSD xSK xTal xKn xFT xFA xFE xOdds xPat xFind) he), by rw [ht]; exact hP, va_K.moved hW.alike hK, hD⟩, hS.F ht⟩) hS.2.2 dX7_renew_36
      · replace h := (if_neg c1).symm.trans h
        refine lv_aload_n hx hb dX7_renew_8 rfl (lv_at hl 0 rfl) ?_
        refine va_get (D := D) (ci := 3) (v := .ref (a (22 + e0))) (C := RX7) (T := TX7) (N := 4) hx hb hts hi7 hown hK hP ((18 + e0)) (wX_sheet he0) rfl 0 (by decide) kf9 (fun _ h9 => h9) rfl dX7_renew_9 ?_
        refine lv_iload_n hx hb dX7_renew_12 rfl (lv_at hl 3 rfl) ?_
        refine lv_iconst (v := 0) hx hb dX7_renew_13 (by decide) ?_
        obtain ⟨g2, h⟩ := gIn_some h
        refine va_iast hx hb hK hP hD hS ((22 + e0)) 0 (wX_items he0) rfl g2 dX7_renew_14 (fun H locs hP hD hS => ?_)
        have hP : va_P D vwCl (wX k a xLen xHits xUns (va_up xItems e0 (upd (xItems e0) x3.toNatClampNeg 0)) xLost xKind xSize xLet xRel xLim xOpen xMeas xSL xST xSD xSK xTal xKn xFT xFA xFE xOdds xPat xFind) H := by rw [← wX_s_xItems he0]; exact hP
        have hD : va_D A (wX k a xLen xHits xUns (va_up xItems e0 (upd (xItems e0) x3.toNatClampNeg 0)) xLost xKind xSize xLet xRel xLim xOpen xMeas xSL xST xSD xSK xTal xKn xFT xFA xFE xOdds xPat xFind) := by rw [← wX_s_xItems he0]; exact hD
        refine lv_iinc (v := (x3 + 1)) (lv' := [(3, .int (x3 + 1)), (0, .ref (a (18 + e0))), (1, .int x1), (2, .int x2)]) hx hb dX7_renew_15 hl (k := 3) rfl rfl (by decide) rfl (fun ls hl => ?_)
        refine lv_goto (tgt := 2) hx hb dX7_renew_18 (by decide) ?_
        exact ih2 e0 x1 x2 (x3 + 1) (va_up xItems e0 (upd (xItems e0) x3.toNatClampNeg 0)) xLost xKind xSize ls H locs he0 (lv_sub hl [1, 2, 3, 0] rfl) hP hD hS h
  obtain ⟨H, hH⟩ : ∃ H : Heap, H = s.heap := ⟨_, rfl⟩
  obtain ⟨locs, hlc⟩ : ∃ locs : List Loc, locs = [] := ⟨_, rfl⟩
  have hS : va_S A s.heap H locs := by rw [hH, hlc]; exact va_S.rf
  have hP : va_P D vwCl (wX k a xLen xHits xUns xItems xLost xKind xSize xLet xRel xLim xOpen xMeas xSL xST xSD xSK xTal xKn xFT xFA xFE xOdds xPat xFind) H := by rw [hH]; exact hP
  suffices hGo : gQv p l e wo_X7_renew 0 s m args below meth c D k A  (wX k a xLen xHits xUns o.1 o.2.1 o.2.2.1 o.2.2.2 xLet xRel xLim xOpen xMeas xSL xST xSD xSK xTal xKn xFT xFA xFE xOdds xPat xFind) H locs (F0 m 0 ls []) by rw [hH, hlc] at hGo; exact hGo
  refine lv_iconst (v := 0) hx hb dX7_renew_0 (by decide) ?_
  refine lv_istore_n (lv' := [(3, .int 0), (0, .ref (a (18 + e0))), (1, .int x1), (2, .int x2)]) hx hb dX7_renew_1 rfl hl (by decide) rfl (fun ls hl => ?_)
  exact L2 N e0 x1 x2 0 xItems xLost xKind xSize ls H locs he0 (lv_sub hl [1, 2, 3, 0] rfl) hP hD hS h
set_option maxHeartbeats 4000000 in
set_option maxRecDepth 100000 in
theorem c_X7_renew {N : Nat} (l : Launch) (D : va_G) (k : Nat → ClassId) (a : Nat → Nat) (xLen : Nat → Int32) (xHits : Nat → Int32) (xUns : Nat → Int32) (xItems : Nat → Nat → Int32) (xLost : Nat → Int32) (xKind : Nat → Int32) (xSize : Nat → Int32) (xLet : Nat → Int32) (xRel : Nat → Int32) (xLim : Nat → Int32) (xOpen : Nat → Int32) (xMeas : Nat → Int32) (xSL : Int32) (xST : Int32) (xSD : Int32) (xSK : Int32) (xTal : Nat → Nat → Int32) (xKn : Nat → Int32) (xFT : Nat → Int32) (xFA : Int32) (xFE : Int32) (xOdds : Int32) (xPat : Int32) (xFind : Int32) (e0 : Nat) (he0 : e0 < 4) (x1 : Int32) (x2 : Int32) {o : (Nat → Nat → Int32) × (Nat → Int32) × (Nat → Int32) × (Nat → Int32)} (h : f_X7_renew N e0 x1 x2 xItems xLost xKind xSize = some o) : mQv l yX7_renew wo_X7_renew 0 D k [.ref (a (18 + e0)), .int x1, .int x2] (wX k a xLen xHits xUns xItems xLost xKind xSize xLet xRel xLim xOpen xMeas xSL xST xSD xSK xTal xKn xFT xFA xFE xOdds xPat xFind) (wX k a xLen xHits xUns o.1 o.2.1 o.2.2.1 o.2.2.2 xLet xRel xLim xOpen xMeas xSL xST xSD xSK xTal xKn xFT xFA xFE xOdds xPat xFind) := by
  intro sz
  refine Met.ofW (cc := cX7_renew) (maxL := 4) (ret := none) (by decide) rfl ?_
  intro p e s m args below meth c s₁ B hml hv
  obtain ⟨rfl, hsz, hP, hK, hD0⟩ := hv
  subst hsz
  rw [lg_entry_eq]
  exact core_X7_renew D k a xLen xHits xUns xItems xLost xKind xSize xLet xRel xLim xOpen xMeas xSL xST xSD xSK xTal xKn xFT xFA xFE xOdds xPat xFind e0 x1 x2 he0 B.exec B.bytes hml B.returns (atoms_spec (ws := wo_X7_renew) B.pre) (findClass_of_methodNamed B.named) B.notSynchronized (lv_entry [.ref (a (18 + e0)), .int x1, .int x2] (n := 4) (Nat.le_of_ble_eq_true rfl)) hK hP hD0.self (fun q h => Or.inr h) h
theorem qd_X7_renew : yX7_renew.cls = RX7 ∧ yX7_renew.cls ≠ "java/lang/invoke/MethodHandle" ∧ yX7_renew.cls ≠ "java/lang/invoke/VarHandle" ∧ (parseMethodDescriptor yX7_renew.desc).map (fun d => d.parameters.length) = some 2 := by decide +kernel
abbrev wo_X7_store : List Cond := .code yX7_store cX7_store 3 none :: wsL_law
set_option maxHeartbeats 4000000 in
set_option maxRecDepth 100000 in
theorem core_X7_store (D : va_G) (k : Nat → ClassId) (a : Nat → Nat) (xLen : Nat → Int32) (xHits : Nat → Int32) (xUns : Nat → Int32) (xItems : Nat → Nat → Int32) (xLost : Nat → Int32) (xKind : Nat → Int32) (xSize : Nat → Int32) (xLet : Nat → Int32) (xRel : Nat → Int32) (xLim : Nat → Int32) (xOpen : Nat → Int32) (xMeas : Nat → Int32) (xSL : Int32) (xST : Int32) (xSD : Int32) (xSK : Int32) (xTal : Nat → Nat → Int32) (xKn : Nat → Int32) (xFT : Nat → Int32) (xFA : Int32) (xFE : Int32) (xOdds : Int32) (xPat : Int32) (xFind : Int32) (e0 : Nat) (x1 : Int32) (x2 : Int32) (he0 : e0 < 4) {p : Program} {l : Launch} {e : Env} {s : State} {m : MethodId} {args : Array Value} {below : List Frame} {meth : Method} {c : Code} {ls : Array Slot} (hx : p.tables.exec = Jvm.exec) (hb : c.code = cX7_store) (hml : c.maxLocals = 3) (hr : meth.sig.returnType = none) (hts : ∀ w ∈ wo_X7_store, w.before args s = true) (hown : s.vm.findClass RX7 = some m.cls) (hlocks : meth.locks = false) (hl : lv_has ls 3 [(0, .ref (a (18 + e0))), (1, .int x1), (2, .int x2)]) (hK : va_K D vwCl (xTys k) s) (hP : va_P D vwCl (wX k a xLen xHits xUns xItems xLost xKind xSize xLet xRel xLim xOpen xMeas xSL xST xSD xSK xTal xKn xFT xFA xFE xOdds xPat xFind) s.heap) {A : Nat → Prop} (hD : va_D A (wX k a xLen xHits xUns xItems xLost xKind xSize xLet xRel xLim xOpen xMeas xSL xST xSD xSK xTal xKn xFT xFA xFE xOdds xPat xFind)) (hA : ∀ q : Nat, s.heap.size ≤ q → A q) {o : (Nat → Nat → Int32)} (h : f_X7_store e0 x1 x2 xItems xKind = some o) : gQv p l e wo_X7_store 0 s m args below meth c D k A  (wX k a xLen xHits xUns o xLost xKind xSize xLet xRel xLim xOpen xMeas xSL xST xSD xSK xTal xKn xFT xFA xFE xOdds xPat xFind) s.heap [] (F0 m 0 ls []) := by
  have hi7 := (fun w h => List.mem_cons_of_mem _ (inlX7 w h) : ∀ w ∈ wsX70, w ∈ wo_X7_store)
  have kf19 := hts _ (List.mem_cons_of_mem _ wm_761)
  have kf9 := hts _ (List.mem_cons_of_mem _ wm_43)
  unfold f_X7_store at h
  have hS : va_S A s.heap s.heap [] := va_S.rf
  obtain ⟨H, hH⟩ : ∃ H : Heap, H = s.heap := ⟨_, rfl⟩
  obtain ⟨locs, hlc⟩ : ∃ locs : List Loc, locs = [] := ⟨_, rfl⟩
  have hS : va_S A s.heap H locs := by rw [hH, hlc]; exact va_S.rf
  have hP : va_P D vwCl (wX k a xLen xHits xUns xItems xLost xKind xSize xLet xRel xLim xOpen xMeas xSL xST xSD xSK xTal xKn xFT xFA xFE xOdds xPat xFind) H := by rw [hH]; exact hP
  suffices hGo : gQv p l e wo_X7_store 0 s m args below meth c D k A  (wX k a xLen xHits xUns o xLost xKind xSize xLet xRel xLim xOpen xMeas xSL xST xSD xSK xTal xKn xFT xFA xFE xOdds xPat xFind) H locs (F0 m 0 ls []) by rw [hH, hlc] at hGo; exact hGo
  refine lv_aload_n hx hb dX7_store_0 rfl (lv_at hl 0 rfl) ?_
  refine va_get (D := D) (ci := 3) (v := .int (xKind e0)) (C := RX7) (T := TX7) (N := 4) hx hb hts hi7 hown hK hP ((18 + e0)) (wX_sheet he0) rfl 2 (by decide) kf19 (fun _ h9 => h9) rfl dX7_store_1 ?_
  by_cases c1 : (xKind e0) = 0
  · replace h := (if_pos c1).symm.trans h
    refine lv_lookup (tgt := 32) (off := 28) hx hb dX7_store_4 (by decide) (by rw [c1]; decide) (by decide) ?_
    refine lv_aload_n hx hb dX7_store_32 rfl (lv_at hl 0 rfl) ?_
    refine va_get (D := D) (ci := 3) (v := .ref (a (22 + e0))) (C := RX7) (T := TX7) (N := 4) hx hb hts hi7 hown hK hP ((18 + e0)) (wX_sheet he0) rfl 0 (by decide) kf9 (fun _ h9 => h9) rfl dX7_store_33 ?_
    refine lv_iload_n hx hb dX7_store_36 rfl (lv_at hl 1 rfl) ?_
    refine lv_iload_n hx hb dX7_store_37 rfl (lv_at hl 2 rfl) ?_
    refine lv_i2b (v := x2.toInt8.toInt32) hx hb dX7_store_38 rfl ?_
    obtain ⟨g2, h⟩ := gIn_some h
    refine va_iast hx hb hK hP hD hS ((22 + e0)) 0 (wX_items he0) rfl g2 dX7_store_39 (fun H locs hP hD hS => ?_)
    have hP : va_P D vwCl (wX k a xLen xHits xUns (va_up xItems e0 (upd (xItems e0) x1.toNatClampNeg x2.toInt8.toInt32)) xLost xKind xSize xLet xRel xLim xOpen xMeas xSL xST xSD xSK xTal xKn xFT xFA xFE xOdds xPat xFind) H := by rw [← wX_s_xItems he0]; exact hP
    have hD : va_D A (wX k a xLen xHits xUns (va_up xItems e0 (upd (xItems e0) x1.toNatClampNeg x2.toInt8.toInt32)) xLost xKind xSize xLet xRel xLim xOpen xMeas xSL xST xSD xSK xTal xKn xFT xFA xFE xOdds xPat xFind) := by rw [← wX_s_xItems he0]; exact hD
    refine lv_goto (tgt := 61) hx hb dX7_store_40 (by decide) ?_
    have he := Option.some.inj h
    exact W.vret hx hb hr (fun t ht hW => ⟨⟨wX k a xLen xHits xUns (va_up xItems e0 (upd (xItems e0) x1.toNatClampNeg x2.toInt8.toInt32)) xLost xKind xSize xLet xRel xLim xOpen xMeas xSL xST xSD xSK xTal xKn xFT xFA xFE xOdds xPat xFind, rfl, (congrArg (fun z => wX k a xLen xHits xUns z xLost xKind xSize xLet xRel xLim xOpen xMeas xSL xST xSD xSK xTal xKn xFT xFA xFE xOdds xPat xFind) he), by rw [ht]; exact hP, va_K.moved hW.alike hK, hD⟩, hS.F ht⟩) hS.2.2 dX7_store_61
  replace h := (if_neg c1).symm.trans h
  by_cases c3 : (xKind e0) = 1
  · replace h := (if_pos c3).symm.trans h
    refine lv_lookup (tgt := 43) (off := 39) hx hb dX7_store_4 (by decide) (by rw [c3]; decide) (by decide) ?_
    refine lv_aload_n hx hb dX7_store_43 rfl (lv_at hl 0 rfl) ?_
    refine va_get (D := D) (ci := 3) (v := .ref (a (22 + e0))) (C := RX7) (T := TX7) (N := 4) hx hb hts hi7 hown hK hP ((18 + e0)) (wX_sheet he0) rfl 0 (by decide) kf9 (fun _ h9 => h9) rfl dX7_store_44 ?_
    refine lv_iload_n hx hb dX7_store_47 rfl (lv_at hl 1 rfl) ?_
    refine lv_iload_n hx hb dX7_store_48 rfl (lv_at hl 2 rfl) ?_
    refine lv_i2s (v := x2.toInt16.toInt32) hx hb dX7_store_49 rfl ?_
    obtain ⟨g4, h⟩ := gIn_some h
    refine va_iast hx hb hK hP hD hS ((22 + e0)) 0 (wX_items he0) rfl g4 dX7_store_50 (fun H locs hP hD hS => ?_)
    have hP : va_P D vwCl (wX k a xLen xHits xUns (va_up xItems e0 (upd (xItems e0) x1.toNatClampNeg x2.toInt16.toInt32)) xLost xKind xSize xLet xRel xLim xOpen xMeas xSL xST xSD xSK xTal xKn xFT xFA xFE xOdds xPat xFind) H := by rw [← wX_s_xItems he0]; exact hP
    have hD : va_D A (wX k a xLen xHits xUns (va_up xItems e0 (upd (xItems e0) x1.toNatClampNeg x2.toInt16.toInt32)) xLost xKind xSize xLet xRel xLim xOpen xMeas xSL xST xSD xSK xTal xKn xFT xFA xFE xOdds xPat xFind) := by rw [← wX_s_xItems he0]; exact hD
    refine lv_goto (tgt := 61) hx hb dX7_store_51 (by decide) ?_
    have he := Option.some.inj h
    exact W.vret hx hb hr (fun t ht hW => ⟨⟨wX k a xLen xHits xUns (va_up xItems e0 (upd (xItems e0) x1.toNatClampNeg x2.toInt16.toInt32)) xLost xKind xSize xLet xRel xLim xOpen xMeas xSL xST xSD xSK xTal xKn xFT xFA xFE xOdds xPat xFind, rfl, (congrArg (fun z => wX k a xLen xHits xUns z xLost xKind xSize xLet xRel xLim xOpen xMeas xSL xST xSD xSK xTal xKn xFT xFA xFE xOdds xPat xFind) he), by rw [ht]; exact hP, va_K.moved hW.alike hK, hD⟩, hS.F ht⟩) hS.2.2 dX7_store_61
  replace h := (if_neg c3).symm.trans h
  refine lv_lookup (tgt := 54) (off := 50) hx hb dX7_store_4 (by decide) (xLk_X7_store c1 c3) (by decide) ?_
  refine lv_aload_n hx hb dX7_store_54 rfl (lv_at hl 0 rfl) ?_
  refine va_get (D := D) (ci := 3) (v := .ref (a (22 + e0))) (C := RX7) (T := TX7) (N := 4) hx hb hts hi7 hown hK hP ((18 + e0)) (wX_sheet he0) rfl 0 (by decide) kf9 (fun _ h9 => h9) rfl dX7_store_55 ?_
  refine lv_iload_n hx hb dX7_store_58 rfl (lv_at hl 1 rfl) ?_
  refine lv_iload_n hx hb dX7_store_59 rfl (lv_at hl 2 rfl) ?_
  obtain ⟨g5, h⟩ := gIn_some h
  refine va_iast hx hb hK hP hD hS ((22 + e0)) 0 (wX_items he0) rfl g5 dX7_store_60 (fun H locs hP hD hS => ?_)
  have hP : va_P D vwCl (wX k a xLen xHits xUns (va_up xItems e0 (upd (xItems e0) x1.toNatClampNeg x2)) xLost xKind xSize xLet xRel xLim xOpen xMeas xSL xST xSD xSK xTal xKn xFT xFA xFE xOdds xPat xFind) H := by rw [← wX_s_xItems he0]; exact hP
  have hD : va_D A (wX k a xLen xHits xUns (va_up xItems e0 (upd (xItems e0) x1.toNatClampNeg x2)) xLost xKind xSize xLet xRel xLim xOpen xMeas xSL xST xSD xSK xTal xKn xFT xFA xFE xOdds xPat xFind) := by rw [← wX_s_xItems he0]; exact hD
  have he := Option.some.inj h
  exact W.vret hx hb hr (fun t ht hW => ⟨⟨wX k a xLen xHits xUns (va_up xItems e0 (upd (xItems e0) x1.toNatClampNeg x2)) xLost xKind xSize xLet xRel xLim xOpen xMeas xSL xST xSD xSK xTal xKn xFT xFA xFE xOdds xPat xFind, rfl, (congrArg (fun z => wX k a xLen xHits xUns z xLost xKind xSize xLet xRel xLim xOpen xMeas xSL xST xSD xSK xTal xKn xFT xFA xFE xOdds xPat xFind) he), by rw [ht]; exact hP, va_K.moved hW.alike hK, hD⟩, hS.F ht⟩) hS.2.2 dX7_store_61
set_option maxHeartbeats 4000000 in
set_option maxRecDepth 100000 in
theorem c_X7_store (l : Launch) (D : va_G) (k : Nat → ClassId) (a : Nat → Nat) (xLen : Nat → Int32) (xHits : Nat → Int32) (xUns : Nat → Int32) (xItems : Nat → Nat → Int32) (xLost : Nat → Int32) (xKind : Nat → Int32) (xSize : Nat → Int32) (xLet : Nat → Int32) (xRel : Nat → Int32) (xLim : Nat → Int32) (xOpen : Nat → Int32) (xMeas : Nat → Int32) (xSL : Int32) (xST : Int32) (xSD : Int32) (xSK : Int32) (xTal : Nat → Nat → Int32) (xKn : Nat → Int32) (xFT : Nat → Int32) (xFA : Int32) (xFE : Int32) (xOdds : Int32) (xPat : Int32) (xFind : Int32) (e0 : Nat) (he0 : e0 < 4) (x1 : Int32) (x2 : Int32) {o : (Nat → Nat → Int32)} (h : f_X7_store e0 x1 x2 xItems xKind = some o) : mQv l yX7_store wo_X7_store 0 D k [.ref (a (18 + e0)), .int x1, .int x2] (wX k a xLen xHits xUns xItems xLost xKind xSize xLet xRel xLim xOpen xMeas xSL xST xSD xSK xTal xKn xFT xFA xFE xOdds xPat xFind) (wX k a xLen xHits xUns o xLost xKind xSize xLet xRel xLim xOpen xMeas xSL xST xSD xSK xTal xKn xFT xFA xFE xOdds xPat xFind) := by
  intro sz
  refine Met.ofW (cc := cX7_store) (maxL := 3) (ret := none) (by decide) rfl ?_
  intro p e s m args below meth c s₁ B hml hv
  obtain ⟨rfl, hsz, hP, hK, hD0⟩ := hv
  subst hsz
  rw [lg_entry_eq]
  exact core_X7_store D k a xLen xHits xUns xItems xLost xKind xSize xLet xRel xLim xOpen xMeas xSL xST xSD xSK xTal xKn xFT xFA xFE xOdds xPat xFind e0 x1 x2 he0 B.exec B.bytes hml B.returns (atoms_spec (ws := wo_X7_store) B.pre) (findClass_of_methodNamed B.named) B.notSynchronized (lv_entry [.ref (a (18 + e0)), .int x1, .int x2] (n := 3) (Nat.le_of_ble_eq_true rfl)) hK hP hD0.self (fun q h => Or.inr h) h
theorem qd_X7_store : yX7_store.cls = RX7 ∧ yX7_store.cls ≠ "java/lang/invoke/MethodHandle" ∧ yX7_store.cls ≠ "java/lang/invoke/VarHandle" ∧ (parseMethodDescriptor yX7_store.desc).map (fun d => d.parameters.length) = some 2 := by decide +kernel
abbrev wo_X7_hasSpan : List Cond := .code yX7_hasSpan cX7_hasSpan 3 (some .boolean) :: wsL_law
set_option maxHeartbeats 4000000 in
set_option maxRecDepth 100000 in
theorem core_X7_hasSpan (D : va_G) (k : Nat → ClassId) (a : Nat → Nat) (xLen : Nat → Int32) (xHits : Nat → Int32) (xUns : Nat → Int32) (xItems : Nat → Nat → Int32) (xLost : Nat → Int32) (xKind : Nat → Int32) (xSize : Nat → Int32) (xLet : Nat → Int32) (xRel : Nat → Int32) (xLim : Nat → Int32) (xOpen : Nat → Int32) (xMeas : Nat → Int32) (xSL : Int32) (xST : Int32) (xSD : Int32) (xSK : Int32) (xTal : Nat → Nat → Int32) (xKn : Nat → Int32) (xFT : Nat → Int32) (xFA : Int32) (xFE : Int32) (xOdds : Int32) (xPat : Int32) (xFind : Int32) (e0 : Nat) (x1 : Int32) (x2 : Int32) (he0 : e0 < 4) {p : Program} {l : Launch} {e : Env} {s : State} {m : MethodId} {args : Array Value} {below : List Frame} {meth : Method} {c : Code} {ls : Array Slot} (hx : p.tables.exec = Jvm.exec) (hb : c.code = cX7_hasSpan) (hml : c.maxLocals = 3) (hr : meth.sig.returnType = some .boolean) (hts : ∀ w ∈ wo_X7_hasSpan, w.before args s = true) (hown : s.vm.findClass RX7 = some m.cls) (hlocks : meth.locks = false) (hl : lv_has ls 3 [(0, .ref (a (18 + e0))), (1, .int x1), (2, .int x2)]) (hK : va_K D vwCl (xTys k) s) (hP : va_P D vwCl (wX k a xLen xHits xUns xItems xLost xKind xSize xLet xRel xLim xOpen xMeas xSL xST xSD xSK xTal xKn xFT xFA xFE xOdds xPat xFind) s.heap) {o : Int32} (h : f_X7_hasSpan e0 x1 x2 xSize = some o) : gRi p l e wo_X7_hasSpan 0 s m args below meth c o (F0 m 0 ls []) := by
  have hi7 := (fun w h => List.mem_cons_of_mem _ (inlX7 w h) : ∀ w ∈ wsX70, w ∈ wo_X7_hasSpan)
  have kf23 := hts _ (List.mem_cons_of_mem _ wm_762)
  unfold f_X7_hasSpan at h
  refine lv_iload_n hx hb dX7_hasSpan_0 rfl (lv_at hl 1 rfl) ?_
  refine lv_if_lt (tgt := 22) hx hb dX7_hasSpan_1 (by decide) (fun c1 => ?_) (fun c1 => ?_)
  · replace h := (if_pos c1).symm.trans h
    refine lv_iconst (v := 0) hx hb dX7_hasSpan_22 (by decide) ?_
    exact W.zret (v := 0) hx hb hr rfl (fun t ht hW => ⟨_, rfl, Option.some.inj h, ht⟩) (fun q hq => by cases hq) dX7_hasSpan_23
  · replace h := (if_neg c1).symm.trans h
    refine lv_iload_n hx hb dX7_hasSpan_4 rfl (lv_at hl 2 rfl) ?_
    refine lv_if_lt (tgt := 22) hx hb dX7_hasSpan_5 (by decide) (fun c2 => ?_) (fun c2 => ?_)
    · replace h := (if_pos c2).symm.trans h
      refine lv_iconst (v := 0) hx hb dX7_hasSpan_22 (by decide) ?_
      exact W.zret (v := 0) hx hb hr rfl (fun t ht hW => ⟨_, rfl, Option.some.inj h, ht⟩) (fun q hq => by cases hq) dX7_hasSpan_23
    · replace h := (if_neg c2).symm.trans h
      refine lv_iload_n hx hb dX7_hasSpan_8 rfl (lv_at hl 2 rfl) ?_
      refine lv_aload_n hx hb dX7_hasSpan_9 rfl (lv_at hl 0 rfl) ?_
      refine va_get (D := D) (ci := 3) (v := .int (xSize e0)) (C := RX7) (T := TX7) (N := 4) hx hb hts hi7 hown hK hP ((18 + e0)) (wX_sheet he0) rfl 3 (by decide) kf23 (fun _ h9 => h9) rfl dX7_hasSpan_10 ?_
      refine lv_iload_n hx hb dX7_hasSpan_13 rfl (lv_at hl 1 rfl) ?_
      refine lv_isub hx hb dX7_hasSpan_14 ?_
      refine lv_icmp_gt (tgt := 22) hx hb dX7_hasSpan_15 (by decide) (fun c3 => ?_) (fun c3 => ?_)
      · replace h := (if_pos c3).symm.trans h
        refine lv_iconst (v := 0) hx hb dX7_hasSpan_22 (by decide) ?_
        exact W.zret (v := 0) hx hb hr rfl (fun t ht hW => ⟨_, rfl, Option.some.inj h, ht⟩) (fun q hq => by cases hq) dX7_hasSpan_23
      · replace h := (if_neg c3).symm.trans h
        refine lv_iconst (v := 1) hx hb dX7_hasSpan_18 (by decide) ?_
        refine lv_goto (tgt := 23) hx hb dX7_hasSpan_19 (by decide) ?_
        exact W.zret (v := 1) hx hb hr rfl (fun t ht hW => ⟨_, rfl, Option.some.inj h, ht⟩) (fun q hq => by cases hq) dX7_hasSpan_23
set_option maxHeartbeats 4000000 in
set_option maxRecDepth 100000 in
theorem c_X7_hasSpan (l : Launch) (D : va_G) (k : Nat → ClassId) (a : Nat → Nat) (xLen : Nat → Int32) (xHits : Nat → Int32) (xUns : Nat → Int32) (xItems : Nat → Nat → Int32) (xLost : Nat → Int32) (xKind : Nat → Int32) (xSize : Nat → Int32) (xLet : Nat → Int32) (xRel : Nat → Int32) (xLim : Nat → Int32) (xOpen : Nat → Int32) (xMeas : Nat → Int32) (xSL : Int32) (xST : Int32) (xSD : Int32) (xSK : Int32) (xTal : Nat → Nat → Int32) (xKn : Nat → Int32) (xFT : Nat → Int32) (xFA : Int32) (xFE : Int32) (xOdds : Int32) (xPat : Int32) (xFind : Int32) (e0 : Nat) (he0 : e0 < 4) (x1 : Int32) (x2 : Int32) {o : Int32} (h : f_X7_hasSpan e0 x1 x2 xSize = some o) : mRi l yX7_hasSpan wo_X7_hasSpan 0 D k [.ref (a (18 + e0)), .int x1, .int x2] (wX k a xLen xHits xUns xItems xLost xKind xSize xLet xRel xLim xOpen xMeas xSL xST xSD xSK xTal xKn xFT xFA xFE xOdds xPat xFind) o := by
  refine Met.ofW (cc := cX7_hasSpan) (maxL := 3) (ret := some .boolean) (by decide) rfl ?_
  intro p e s m args below meth c s₁ B hml hv
  obtain ⟨rfl, hP, hK⟩ := hv
  rw [lg_entry_eq]
  exact core_X7_hasSpan D k a xLen xHits xUns xItems xLost xKind xSize xLet xRel xLim xOpen xMeas xSL xST xSD xSK xTal xKn xFT xFA xFE xOdds xPat xFind e0 x1 x2 he0 B.exec B.bytes hml B.returns (atoms_spec (ws := wo_X7_hasSpan) B.pre) (findClass_of_methodNamed B.named) B.notSynchronized (lv_entry [.ref (a (18 + e0)), .int x1, .int x2] (n := 3) (Nat.le_of_ble_eq_true rfl)) hK hP h
theorem qd_X7_hasSpan : yX7_hasSpan.cls = RX7 ∧ yX7_hasSpan.cls ≠ "java/lang/invoke/MethodHandle" ∧ yX7_hasSpan.cls ≠ "java/lang/invoke/VarHandle" ∧ (parseMethodDescriptor yX7_hasSpan.desc).map (fun d => d.parameters.length) = some 2 := by decide +kernel
abbrev wo_X6_empty : List Cond := .code yX6_empty cX6_empty 1 none :: wsL_law
set_option maxHeartbeats 4000000 in
set_option maxRecDepth 100000 in
theorem core_X6_empty (D : va_G) (k : Nat → ClassId) (a : Nat → Nat) (xLen : Nat → Int32) (xHits : Nat → Int32) (xUns : Nat → Int32) (xItems : Nat → Nat → Int32) (xLost : Nat → Int32) (xKind : Nat → Int32) (xSize : Nat → Int32) (xLet : Nat → Int32) (xRel : Nat → Int32) (xLim : Nat → Int32) (xOpen : Nat → Int32) (xMeas : Nat → Int32) (xSL : Int32) (xST : Int32) (xSD : Int32) (xSK : Int32) (xTal : Nat → Nat → Int32) (xKn : Nat → Int32) (xFT : Nat → Int32) (xFA : Int32) (xFE : Int32) (xOdds : Int32) (xPat : Int32) (xFind : Int32)  {p : Program} {l : Launch} {e : Env} {s : State} {m : MethodId} {args : Array Value} {below : List Frame} {meth : Method} {c : Code} {ls : Array Slot} (hx : p.tables.exec = Jvm.exec) (hb : c.code = cX6_empty) (hml : c.maxLocals = 1) (hr : meth.sig.returnType = none) (hts : ∀ w ∈ wo_X6_empty, w.before args s = true) (hown : s.vm.findClass RX6 = some m.cls) (hlocks : meth.locks = false) (hl : lv_has ls 1 [(0, .ref (a 3))]) (hK : va_K D vwCl (xTys k) s) (hP : va_P D vwCl (wX k a xLen xHits xUns xItems xLost xKind xSize xLet xRel xLim xOpen xMeas xSL xST xSD xSK xTal xKn xFT xFA xFE xOdds xPat xFind) s.heap) {A : Nat → Prop} (hD : va_D A (wX k a xLen xHits xUns xItems xLost xKind xSize xLet xRel xLim xOpen xMeas xSL xST xSD xSK xTal xKn xFT xFA xFE xOdds xPat xFind)) (hA : ∀ q : Nat, s.heap.size ≤ q → A q) {o : (Int32) × (Int32) × (Int32) × (Int32)} (h : f_X6_empty xSL xST xSD xSK = some o) : gQv p l e wo_X6_empty 0 s m args below meth c D k A  (wX k a xLen xHits xUns xItems xLost xKind xSize xLet xRel xLim xOpen xMeas o.1 o.2.1 o.2.2.1 o.2.2.2 xTal xKn xFT xFA xFE xOdds xPat xFind) s.heap [] (F0 m 0 ls []) := by
  have hi6 := (fun w h => List.mem_cons_of_mem _ (inlX6 w h) : ∀ w ∈ wsX60, w ∈ wo_X6_empty)
  have kf32 := hts _ (List.mem_cons_of_mem _ wm_272)
  have kf35 := hts _ (List.mem_cons_of_mem _ wm_282)
  have kf38 := hts _ (List.mem_cons_of_mem _ wm_277)
  have kf28 := hts _ (List.mem_cons_of_mem _ wm_55)
  unfold f_X6_empty at h
  have hS : va_S A s.heap s.heap [] := va_S.rf
  obtain ⟨H, hH⟩ : ∃ H : Heap, H = s.heap := ⟨_, rfl⟩
  obtain ⟨locs, hlc⟩ : ∃ locs : List Loc, locs = [] := ⟨_, rfl⟩
  have hS : va_S A s.heap H locs := by rw [hH, hlc]; exact va_S.rf
  have hP : va_P D vwCl (wX k a xLen xHits xUns xItems xLost xKind xSize xLet xRel xLim xOpen xMeas xSL xST xSD xSK xTal xKn xFT xFA xFE xOdds xPat xFind) H := by rw [hH]; exact hP
  suffices hGo : gQv p l e wo_X6_empty 0 s m args below meth c D k A  (wX k a xLen xHits xUns xItems xLost xKind xSize xLet xRel xLim xOpen xMeas o.1 o.2.1 o.2.2.1 o.2.2.2 xTal xKn xFT xFA xFE xOdds xPat xFind) H locs (F0 m 0 ls []) by rw [hH, hlc] at hGo; exact hGo
  refine lv_aload_n hx hb dX6_empty_0 rfl (lv_at hl 0 rfl) ?_
  refine lv_iconst (v := 0) hx hb dX6_empty_1 (by decide) ?_
  refine va_put (D := D) (ci := 2) (v := .int 0) (ty := .int) (C := RX6) (T := TX6) (N := 9) hx hb hts hi6 tyX6 tyX6_ok nmX6 hown hK hP hD hS (3) (rfl) rfl 5 (by decide) kf32 (fun _ h9 => h9) rfl (tyX6_ok 5 (by decide)) rfl rfl (Nat.le_of_ble_eq_true rfl) dX6_empty_2 (fun H locs hP hD hS => ?_)
  have hP : va_P D vwCl (wX k a xLen xHits xUns xItems xLost xKind xSize xLet xRel xLim xOpen xMeas 0 xST xSD xSK xTal xKn xFT xFA xFE xOdds xPat xFind) H := hP
  have hD : va_D A (wX k a xLen xHits xUns xItems xLost xKind xSize xLet xRel xLim xOpen xMeas 0 xST xSD xSK xTal xKn xFT xFA xFE xOdds xPat xFind) := hD
  refine lv_aload_n hx hb dX6_empty_5 rfl (lv_at hl 0 rfl) ?_
  refine lv_iconst (v := 0) hx hb dX6_empty_6 (by decide) ?_
  refine va_put (D := D) (ci := 2) (v := .int 0) (ty := .int) (C := RX6) (T := TX6) (N := 9) hx hb hts hi6 tyX6 tyX6_ok nmX6 hown hK hP hD hS (3) (rfl) rfl 6 (by decide) kf35 (fun _ h9 => h9) rfl (tyX6_ok 6 (by decide)) rfl rfl (Nat.le_of_ble_eq_true rfl) dX6_empty_7 (fun H locs hP hD hS => ?_)
  have hP : va_P D vwCl (wX k a xLen xHits xUns xItems xLost xKind xSize xLet xRel xLim xOpen xMeas 0 0 xSD xSK xTal xKn xFT xFA xFE xOdds xPat xFind) H := hP
  have hD : va_D A (wX k a xLen xHits xUns xItems xLost xKind xSize xLet xRel xLim xOpen xMeas 0 0 xSD xSK xTal xKn xFT xFA xFE xOdds xPat xFind) := hD
  refine lv_aload_n hx hb dX6_empty_10 rfl (lv_at hl 0 rfl) ?_
  refine lv_iconst (v := 0) hx hb dX6_empty_11 (by decide) ?_
  refine va_put (D := D) (ci := 2) (v := .int 0) (ty := .int) (C := RX6) (T := TX6) (N := 9) hx hb hts hi6 tyX6 tyX6_ok nmX6 hown hK hP hD hS (3) (rfl) rfl 7 (by decide) kf38 (fun _ h9 => h9) rfl (tyX6_ok 7 (by decide)) rfl rfl (Nat.le_of_ble_eq_true rfl) dX6_empty_12 (fun H locs hP hD hS => ?_)
  have hP : va_P D vwCl (wX k a xLen xHits xUns xItems xLost xKind xSize xLet xRel xLim xOpen xMeas 0 0 0 xSK xTal xKn xFT xFA xFE xOdds xPat xFind) H := hP
  have hD : va_D A (wX k a xLen xHits xUns xItems xLost xKind xSize xLet xRel xLim xOpen xMeas 0 0 0 xSK xTal xKn xFT xFA xFE xOdds xPat xFind) := hD
  refine lv_aload_n hx hb dX6_empty_15 rfl (lv_at hl 0 rfl) ?_
  refine lv_iconst (v := (-1)) hx hb dX6_empty_16 (by decide) ?_
  refine va_put (D := D) (ci := 2) (v := .int (-1)) (ty := .int) (C := RX6) (T := TX6) (N := 9) hx hb hts hi6 tyX6 tyX6_ok nmX6 hown hK hP hD hS (3) (rfl) rfl 8 (by decide) kf28 (fun _ h9 => h9) rfl (tyX6_ok 8 (by decide)) rfl rfl (Nat.le_of_ble_eq_true rfl) dX6_empty_17 (fun H locs hP hD hS => ?_)
  have hP : va_P D vwCl (wX k a xLen xHits xUns xItems xLost xKind xSize xLet xRel xLim xOpen xMeas 0 0 0 (-1) xTal xKn xFT xFA xFE xOdds xPat xFind) H := hP
  have hD : va_D A (wX k a xLen xHits xUns xItems xLost xKind xSize xLet xRel xLim xOpen xMeas 0 0 0 (-1) xTal xKn xFT xFA xFE xOdds xPat xFind) := hD
  have he := Option.some.inj h
  exact W.vret hx hb hr (fun t ht hW => ⟨⟨wX k a xLen xHits xUns xItems xLost xKind xSize xLet xRel xLim xOpen xMeas 0 0 0 (-1) xTal xKn xFT xFA xFE xOdds xPat xFind, rfl, (congrArg (fun z => wX k a xLen xHits xUns xItems xLost xKind xSize xLet xRel xLim xOpen xMeas z.1 z.2.1 z.2.2.1 z.2.2.2 xTal xKn xFT xFA xFE xOdds xPat xFind) he), by rw [ht]; exact hP, va_K.moved hW.alike hK, hD⟩, hS.F ht⟩) hS.2.2 dX6_empty_20
set_option maxHeartbeats 4000000 in
set_option maxRecDepth 100000 in
theorem c_X6_empty (l : Launch) (D : va_G) (k : Nat → ClassId) (a : Nat → Nat) (xLen : Nat → Int32) (xHits : Nat → Int32) (xUns : Nat → Int32) (xItems : Nat → Nat → Int32) (xLost : Nat → Int32) (xKind : Nat → Int32) (xSize : Nat → Int32) (xLet : Nat → Int32) (xRel : Nat → Int32) (xLim : Nat → Int32) (xOpen : Nat → Int32) (xMeas : Nat → Int32) (xSL : Int32) (xST : Int32) (xSD : Int32) (xSK : Int32) (xTal : Nat → Nat → Int32) (xKn : Nat → Int32) (xFT : Nat → Int32) (xFA : Int32) (xFE : Int32) (xOdds : Int32) (xPat : Int32) (xFind : Int32)  {o : (Int32) × (Int32) × (Int32) × (Int32)} (h : f_X6_empty xSL xST xSD xSK = some o) : mQv l yX6_empty wo_X6_empty 0 D k [.ref (a 3)] (wX k a xLen xHits xUns xItems xLost xKind xSize xLet xRel xLim xOpen xMeas xSL xST xSD xSK xTal xKn xFT xFA xFE xOdds xPat xFind) (wX k a xLen xHits xUns xItems xLost xKind xSize xLet xRel xLim xOpen xMeas o.1 o.2.1 o.2.2.1 o.2.2.2 xTal xKn xFT xFA xFE xOdds xPat xFind) := by
  intro sz
  refine Met.ofW (cc := cX6_empty) (maxL := 1) (ret := none) (by decide) rfl ?_
  intro p e s m args below meth c s₁ B hml hv
  obtain ⟨rfl, hsz, hP, hK, hD0⟩ := hv
  subst hsz
  rw [lg_entry_eq]
  exact core_X6_empty D k a xLen xHits xUns xItems xLost xKind xSize xLet xRel xLim xOpen xMeas xSL xST xSD xSK xTal xKn xFT xFA xFE xOdds xPat xFind  B.exec B.bytes hml B.returns (atoms_spec (ws := wo_X6_empty) B.pre) (findClass_of_methodNamed B.named) B.notSynchronized (lv_entry [.ref (a 3)] (n := 1) (Nat.le_of_ble_eq_true rfl)) hK hP hD0.self (fun q h => Or.inr h) h
theorem qd_X6_empty : yX6_empty.cls = RX6 ∧ yX6_empty.cls ≠ "java/lang/invoke/MethodHandle" ∧ yX6_empty.cls ≠ "java/lang/invoke/VarHandle" ∧ (parseMethodDescriptor yX6_empty.desc).map (fun d => d.parameters.length) = some 0 := by decide +kernel
