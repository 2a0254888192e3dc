abbrev wo_X10_isRow : List Cond := .code yX10_isRow cX10_isRow 1 (some .boolean) :: wsL_law
set_option maxHeartbeats 4000000 in
set_option maxRecDepth 100000 in
theorem core_X10_isRow (x0 : Int32) {p : Program} {l : Launch} {e : Env} {s : State} {m : MethodId} {args : Array Value} {below : List Frame} {meth : Method} {c : Code} {ls : Array Slot} (hx : p.tables.exec = Jvm.exec) (hb : c.code = cX10_isRow) (hml : c.maxLocals = 1) (hr : meth.sig.returnType = some .boolean) (hts : ∀ w ∈ wo_X10_isRow, w.before args s = true) (hown : s.vm.findClass RX10 = some m.cls) (hlocks : meth.locks = false) (hl : lv_has ls 1 [(0, .int x0)]) {o : Int32} (h : f_X10_isRow x0 = some o) : gRi p l e wo_X10_isRow 0 s m args below meth c o (F0 m 0 ls []) := by
  unfold f_X10_isRow at h
  refine lv_iload_n hx hb dX10_isRow_0 rfl (lv_at hl 0 rfl) ?_
  refine lv_if_lt (tgt := 13) hx hb dX10_isRow_1 (by decide) (fun c1 => ?_) (fun c1 => ?_)
  · replace h := (if_pos c1).symm.trans h
    refine lv_iconst (v := 0) hx hb dX10_isRow_13 (by decide) ?_
    exact W.zret (v := 0) hx hb hr rfl (fun t ht hW => ⟨_, rfl, Option.some.inj h, ht⟩) (fun q hq => by cases hq) dX10_isRow_14
  · replace h := (if_neg c1).symm.trans h
    refine lv_iload_n hx hb dX10_isRow_4 rfl (lv_at hl 0 rfl) ?_
    refine lv_iconst (v := 4) hx hb dX10_isRow_5 (by decide) ?_
    refine lv_icmp_ge (tgt := 13) hx hb dX10_isRow_6 (by decide) (fun c2 => ?_) (fun c2 => ?_)
    · replace h := (if_pos c2).symm.trans h
      refine lv_iconst (v := 0) hx hb dX10_isRow_13 (by decide) ?_
      exact W.zret (v := 0) hx hb hr rfl (fun t ht hW => ⟨_, rfl, Option.some.inj h, ht⟩) (fun q hq => by cases hq) dX10_isRow_14
    · replace h := (if_neg c2).symm.trans h
      refine lv_iconst (v := 1) hx hb dX10_isRow_9 (by decide) ?_
      refine lv_goto (tgt := 14) hx hb dX10_isRow_10 (by decide) ?_
      exact W.zret (v := 1) hx hb hr rfl (fun t ht hW => ⟨_, rfl, Option.some.inj h, ht⟩) (fun q hq => by cases hq) dX10_isRow_14
set_option maxHeartbeats 4000000 in
set_option maxRecDepth 100000 in
theorem c_X10_isRow (l : Launch) (x0 : Int32) {o : Int32} (h : f_X10_isRow x0 = some o) : mPi l yX10_isRow wo_X10_isRow 0 [.int x0] o := by
  refine Met.ofW (cc := cX10_isRow) (maxL := 1) (ret := some .boolean) (by decide) rfl ?_
  intro p e s m args below meth c s₁ B hml hv
  obtain ⟨rfl, -⟩ := hv
  rw [lg_entry_eq]
  exact core_X10_isRow x0 B.exec B.bytes hml B.returns (atoms_spec (ws := wo_X10_isRow) B.pre) (findClass_of_methodNamed B.named) B.notSynchronized (lv_entry [.int x0] (n := 1) (Nat.le_of_ble_eq_true rfl)) h
theorem qd_X10_isRow : yX10_isRow.cls ≠ "java/lang/invoke/MethodHandle" ∧ yX10_isRow.cls ≠ "java/lang/invoke/VarHandle" ∧ (parseMethodDescriptor yX10_isRow.desc).map (fun d => d.parameters.length) = some 1 := by decide +kernel
abbrev wo_X10_isSheet : List Cond := .code yX10_isSheet cX10_isSheet 1 (some .boolean) :: wsL_law
set_option maxHeartbeats 4000000 in
set_option maxRecDepth 100000 in
theorem core_X10_isSheet (x0 : Int32) {p : Program} {l : Launch} {e : Env} {s : State} {m : MethodId} {args : Array Value} {below : List Frame} {meth : Method} {c : Code} {ls : Array Slot} (hx : p.tables.exec = Jvm.exec) (hb : c.code = cX10_isSheet) (hml : c.maxLocals = 1) (hr : meth.sig.returnType = some .boolean) (hts : ∀ w ∈ wo_X10_isSheet, w.before args s = true) (hown : s.vm.findClass RX10 = some m.cls) (hlocks : meth.locks = false) (hl : lv_has ls 1 [(0, .int x0)]) {o : Int32} (h : f_X10_isSheet x0 = some o) : gRi p l e wo_X10_isSheet 0 s m args below meth c o (F0 m 0 ls []) := by
  unfold f_X10_isSheet at h
  refine lv_iload_n hx hb dX10_isSheet_0 rfl (lv_at hl 0 rfl) ?_
  refine lv_if_lt (tgt := 13) hx hb dX10_isSheet_1 (by decide) (fun c1 => ?_) (fun c1 => ?_)
  · replace h := (if_pos c1).symm.trans h
    refine lv_iconst (v := 0) hx hb dX10_isSheet_13 (by decide) ?_
    exact W.zret (v := 0) hx hb hr rfl (fun t ht hW => ⟨_, rfl, Option.some.inj h, ht⟩) (fun q hq => by cases hq) dX10_isSheet_14
  · replace h := (if_neg c1).symm.trans h
    refine lv_iload_n hx hb dX10_isSheet_4 rfl (lv_at hl 0 rfl) ?_
    refine lv_iconst (v := 4) hx hb dX10_isSheet_5 (by decide) ?_
    refine lv_icmp_ge (tgt := 13) hx hb dX10_isSheet_6 (by decide) (fun c2 => ?_) (fun c2 => ?_)
    · replace h := (if_pos c2).symm.trans h
      refine lv_iconst (v := 0) hx hb dX10_isSheet_13 (by decide) ?_
      exact W.zret (v := 0) hx hb hr rfl (fun t ht hW => ⟨_, rfl, Option.some.inj h, ht⟩) (fun q hq => by cases hq) dX10_isSheet_14
    · replace h := (if_neg c2).symm.trans h
      refine lv_iconst (v := 1) hx hb dX10_isSheet_9 (by decide) ?_
      refine lv_goto (tgt := 14) hx hb dX10_isSheet_10 (by decide) ?_
      exact W.zret (v := 1) hx hb hr rfl (fun t ht hW => ⟨_, rfl, Option.some.inj h, ht⟩) (fun q hq => by cases hq) dX10_isSheet_14
set_option maxHeartbeats 4000000 in
set_option maxRecDepth 100000 in
theorem c_X10_isSheet (l : Launch) (x0 : Int32) {o : Int32} (h : f_X10_isSheet x0 = some o) : mPi l yX10_isSheet wo_X10_isSheet 0 [.int x0] o := by
  refine Met.ofW (cc := cX10_isSheet) (maxL := 1) (ret := some .boolean) (by decide) rfl ?_
  intro p e s m args below meth c s₁ B hml hv
  obtain ⟨rfl, -⟩ := hv
  rw [lg_entry_eq]
  exact core_X10_isSheet x0 B.exec B.bytes hml B.returns (atoms_spec (ws := wo_X10_isSheet) B.pre) (findClass_of_methodNamed B.named) B.notSynchronized (lv_entry [.int x0] (n := 1) (Nat.le_of_ble_eq_true rfl)) h
theorem qd_X10_isSheet : yX10_isSheet.cls ≠ "java/lang/invoke/MethodHandle" ∧ yX10_isSheet.cls ≠ "java/lang/invoke/VarHandle" ∧ (parseMethodDescriptor yX10_isSheet.desc).map (fun d => d.parameters.length) = some 1 := by decide +kernel
abbrev wo_X10_isType : List Cond := .code yX10_isType cX10_isType 1 (some .boolean) :: wsL_law
set_option maxHeartbeats 4000000 in
set_option maxRecDepth 100000 in
theorem core_X10_isType (x0 : Int32) {p : Program} {l : Launch} {e : Env} {s : State} {m : MethodId} {args : Array Value} {below : List Frame} {meth : Method} {c : Code} {ls : Array Slot} (hx : p.tables.exec = Jvm.exec) (hb : c.code = cX10_isType) (hml : c.maxLocals = 1) (hr : meth.sig.returnType = some .boolean) (hts : ∀ w ∈ wo_X10_isType, w.before args s = true) (hown : s.vm.findClass RX10 = some m.cls) (hlocks : meth.locks = false) (hl : lv_has ls 1 [(0, .int x0)]) {o : Int32} (h : f_X10_isType x0 = some o) : gRi p l e wo_X10_isType 0 s m args below meth c o (F0 m 0 ls []) := by
  unfold f_X10_isType at h
  refine lv_iload_n hx hb dX10_isType_0 rfl (lv_at hl 0 rfl) ?_
  refine lv_if_lt (tgt := 13) hx hb dX10_isType_1 (by decide) (fun c1 => ?_) (fun c1 => ?_)
  · replace h := (if_pos c1).symm.trans h
    refine lv_iconst (v := 0) hx hb dX10_isType_13 (by decide) ?_
    exact W.zret (v := 0) hx hb hr rfl (fun t ht hW => ⟨_, rfl, Option.some.inj h, ht⟩) (fun q hq => by cases hq) dX10_isType_14
  · replace h := (if_neg c1).symm.trans h
    refine lv_iload_n hx hb dX10_isType_4 rfl (lv_at hl 0 rfl) ?_
    refine lv_iconst (v := 3) hx hb dX10_isType_5 (by decide) ?_
    refine lv_icmp_ge (tgt := 13) hx hb dX10_isType_6 (by decide) (fun c2 => ?_) (fun c2 => ?_)
    · replace h := (if_pos c2).symm.trans h
      refine lv_iconst (v := 0) hx hb dX10_isType_13 (by decide) ?_
      exact W.zret (v := 0) hx hb hr rfl (fun t ht hW => ⟨_, rfl, Option.some.inj h, ht⟩) (fun q hq => by cases hq) dX10_isType_14
    · replace h := (if_neg c2).symm.trans h
      refine lv_iconst (v := 1) hx hb dX10_isType_9 (by decide) ?_
      refine lv_goto (tgt := 14) hx hb dX10_isType_10 (by decide) ?_
      exact W.zret (v := 1) hx hb hr rfl (fun t ht hW => ⟨_, rfl, Option.some.inj h, ht⟩) (fun q hq => by cases hq) dX10_isType_14
set_option maxHeartbeats 4000000 in
set_option maxRecDepth 100000 in
theorem c_X10_isType (l : Launch) (x0 : Int32) {o : Int32} (h : f_X10_isType x0 = some o) : mPi l yX10_isType wo_X10_isType 0 [.int x0] o := by
  refine Met.ofW (cc := cX10_isType) (maxL := 1) (ret := some .boolean) (by decide) rfl ?_
  intro p e s m args below meth c s₁ B hml hv
  obtain ⟨rfl, -⟩ := hv
  rw [lg_entry_eq]
  exact core_X10_isType x0 B.exec B.bytes hml B.returns (atoms_spec (ws := wo_X10_isType) B.pre) (findClass_of_methodNamed B.named) B.notSynchronized (lv_entry [.int x0] (n := 1) (Nat.le_of_ble_eq_true rfl)) h
theorem qd_X10_isType : yX10_isType.cls ≠ "java/lang/invoke/MethodHandle" ∧ yX10_isType.cls ≠ "java/lang/invoke/VarHandle" ∧ (parseMethodDescriptor yX10_isType.desc).map (fun d => d.parameters.length) = some 1 := by decide +kernel
abbrev wo_X10_isNumber : List Cond := .code yX10_isNumber cX10_isNumber 1 (some .boolean) :: wsL_law
set_option maxHeartbeats 4000000 in
set_option maxRecDepth 100000 in
theorem core_X10_isNumber (x0 : Int32) {p : Program} {l : Launch} {e : Env} {s : State} {m : MethodId} {args : Array Value} {below : List Frame} {meth : Method} {c : Code} {ls : Array Slot} (hx : p.tables.exec = Jvm.exec) (hb : c.code = cX10_isNumber) (hml : c.maxLocals = 1) (hr : meth.sig.returnType = some .boolean) (hts : ∀ w ∈ wo_X10_isNumber, w.before args s = true) (hown : s.vm.findClass RX10 = some m.cls) (hlocks : meth.locks = false) (hl : lv_has ls 1 [(0, .int x0)]) {o : Int32} (h : f_X10_isNumber x0 = some o) : gRi p l e wo_X10_isNumber 0 s m args below meth c o (F0 m 0 ls []) := by
  unfold f_X10_isNumber at h
  refine lv_iload_n hx hb dX10_isNumber_0 rfl (lv_at hl 0 rfl) ?_
  refine lv_if_lt (tgt := 14) hx hb dX10_isNumber_1 (by decide) (fun c1 => ?_) (fun c1 => ?_)
  · replace h := (if_pos c1).symm.trans h
    refine lv_iconst (v := 0) hx hb dX10_isNumber_14 (by decide) ?_
    exact W.zret (v := 0) hx hb hr rfl (fun t ht hW => ⟨_, rfl, Option.some.inj h, ht⟩) (fun q hq => by cases hq) dX10_isNumber_15
  · replace h := (if_neg c1).symm.trans h
    refine lv_iload_n hx hb dX10_isNumber_4 rfl (lv_at hl 0 rfl) ?_
    refine lv_bipush (v := 7) hx hb dX10_isNumber_5 (by decide) ?_
    refine lv_icmp_ge (tgt := 14) hx hb dX10_isNumber_7 (by decide) (fun c2 => ?_) (fun c2 => ?_)
    · replace h := (if_pos c2).symm.trans h
      refine lv_iconst (v := 0) hx hb dX10_isNumber_14 (by decide) ?_
      exact W.zret (v := 0) hx hb hr rfl (fun t ht hW => ⟨_, rfl, Option.some.inj h, ht⟩) (fun q hq => by cases hq) dX10_isNumber_15
    · replace h := (if_neg c2).symm.trans h
      refine lv_iconst (v := 1) hx hb dX10_isNumber_10 (by decide) ?_
      refine lv_goto (tgt := 15) hx hb dX10_isNumber_11 (by decide) ?_
      exact W.zret (v := 1) hx hb hr rfl (fun t ht hW => ⟨_, rfl, Option.some.inj h, ht⟩) (fun q hq => by cases hq) dX10_isNumber_15
set_option maxHeartbeats 4000000 in
set_option maxRecDepth 100000 in
theorem c_X10_isNumber (l : Launch) (x0 : Int32) {o : Int32} (h : f_X10_isNumber x0 = some o) : mPi l yX10_isNumber wo_X10_isNumber 0 [.int x0] o := by
  refine Met.ofW (cc := cX10_isNumber) (maxL := 1) (ret := some .boolean) (by decide) rfl ?_
  intro p e s m args below meth c s₁ B hml hv
  obtain ⟨rfl, -⟩ := hv
  rw [lg_entry_eq]
  exact core_X10_isNumber x0 B.exec B.bytes hml B.returns (atoms_spec (ws := wo_X10_isNumber) B.pre) (findClass_of_methodNamed B.named) B.notSynchronized (lv_entry [.int x0] (n := 1) (Nat.le_of_ble_eq_true rfl)) h
theorem qd_X10_isNumber : yX10_isNumber.cls ≠ "java/lang/invoke/MethodHandle" ∧ yX10_isNumber.cls ≠ "java/lang/invoke/VarHandle" ∧ (parseMethodDescriptor yX10_isNumber.desc).map (fun d => d.parameters.length) = some 1 := by decide +kernel
abbrev wo_X10_isLength : List Cond := .code yX10_isLength cX10_isLength 1 (some .boolean) :: wsL_law
set_option maxHeartbeats 4000000 in
set_option maxRecDepth 100000 in
theorem core_X10_isLength (x0 : Int32) {p : Program} {l : Launch} {e : Env} {s : State} {m : MethodId} {args : Array Value} {below : List Frame} {meth : Method} {c : Code} {ls : Array Slot} (hx : p.tables.exec = Jvm.exec) (hb : c.code = cX10_isLength) (hml : c.maxLocals = 1) (hr : meth.sig.returnType = some .boolean) (hts : ∀ w ∈ wo_X10_isLength, w.before args s = true) (hown : s.vm.findClass RX10 = some m.cls) (hlocks : meth.locks = false) (hl : lv_has ls 1 [(0, .int x0)]) {o : Int32} (h : f_X10_isLength x0 = some o) : gRi p l e wo_X10_isLength 0 s m args below meth c o (F0 m 0 ls []) := by
  unfold f_X10_isLength at h
  refine lv_iload_n hx hb dX10_isLength_0 rfl (lv_at hl 0 rfl) ?_
  refine lv_if_lt (tgt := 14) hx hb dX10_isLength_1 (by decide) (fun c1 => ?_) (fun c1 => ?_)
  · replace h := (if_pos c1).symm.trans h
    refine lv_iconst (v := 0) hx hb dX10_isLength_14 (by decide) ?_
    exact W.zret (v := 0) hx hb hr rfl (fun t ht hW => ⟨_, rfl, Option.some.inj h, ht⟩) (fun q hq => by cases hq) dX10_isLength_15
  · replace h := (if_neg c1).symm.trans h
    refine lv_iload_n hx hb dX10_isLength_4 rfl (lv_at hl 0 rfl) ?_
    refine lv_bipush (v := 15) hx hb dX10_isLength_5 (by decide) ?_
    refine lv_icmp_gt (tgt := 14) hx hb dX10_isLength_7 (by decide) (fun c2 => ?_) (fun c2 => ?_)
    · replace h := (if_pos c2).symm.trans h
      refine lv_iconst (v := 0) hx hb dX10_isLength_14 (by decide) ?_
      exact W.zret (v := 0) hx hb hr rfl (fun t ht hW => ⟨_, rfl, Option.some.inj h, ht⟩) (fun q hq => by cases hq) dX10_isLength_15
    · replace h := (if_neg c2).symm.trans h
      refine lv_iconst (v := 1) hx hb dX10_isLength_10 (by decide) ?_
      refine lv_goto (tgt := 15) hx hb dX10_isLength_11 (by decide) ?_
      exact W.zret (v := 1) hx hb hr rfl (fun t ht hW => ⟨_, rfl, Option.some.inj h, ht⟩) (fun q hq => by cases hq) dX10_isLength_15
set_option maxHeartbeats 4000000 in
set_option maxRecDepth 100000 in
theorem c_X10_isLength (l : Launch) (x0 : Int32) {o : Int32} (h : f_X10_isLength x0 = some o) : mPi l yX10_isLength wo_X10_isLength 0 [.int x0] o := by
  refine Met.ofW (cc := cX10_isLength) (maxL := 1) (ret := some .boolean) (by decide) rfl ?_
  intro p e s m args below meth c s₁ B hml hv
  obtain ⟨rfl, -⟩ := hv
  rw [lg_entry_eq]
  exact core_X10_isLength x0 B.exec B.bytes hml B.returns (atoms_spec (ws := wo_X10_isLength) B.pre) (findClass_of_methodNamed B.named) B.notSynchronized (lv_entry [.int x0] (n := 1) (Nat.le_of_ble_eq_true rfl)) h
theorem qd_X10_isLength : yX10_isLength.cls ≠ "java/lang/invoke/MethodHandle" ∧ yX10_isLength.cls ≠ "java/lang/invoke/VarHandle" ∧ (parseMethodDescriptor yX10_isLength.desc).map (fun d => d.parameters.length) = some 1 := by decide +kernel
abbrev wo_X10_isPart : List Cond := .code yX10_isPart cX10_isPart 1 (some .boolean) :: wsL_law
set_option maxHeartbeats 4000000 in
set_option maxRecDepth 100000 in
theorem core_X10_isPart (x0 : Int32) {p : Program} {l : Launch} {e : Env} {s : State} {m : MethodId} {args : Array Value} {below : List Frame} {meth : Method} {c : Code} {ls : Array Slot} (hx : p.tables.exec = Jvm.exec) (hb : c.code = cX10_isPart) (hml : c.maxLocals = 1) (hr : meth.sig.returnType = some .boolean) (hts : ∀ w ∈ wo_X10_isPart, w.before args s = true) (hown : s.vm.findClass RX10 = some m.cls) (hlocks : meth.locks = false) (hl : lv_has ls 1 [(0, .int x0)]) {o : Int32} (h : f_X10_isPart x0 = some o) : gRi p l e wo_X10_isPart 0 s m args below meth c o (F0 m 0 ls []) := by
  unfold f_X10_isPart at h
  have J9 : ∀ (ls : Array Slot) (hl : lv_has ls 1 []) (h : f_X10_isPart_9  = some o), gRi p l e wo_X10_isPart 0 s m args below meth c o (F0 m 9 ls []) := by
    intro ls hl h
    unfold f_X10_isPart_9 at h
    refine lv_iconst (v := 1) hx hb dX10_isPart_9 (by decide) ?_
    refine lv_goto (tgt := 14) hx hb dX10_isPart_10 (by decide) ?_
    exact W.zret (v := 1) hx hb hr rfl (fun t ht hW => ⟨_, rfl, Option.some.inj h, ht⟩) (fun q hq => by cases hq) dX10_isPart_14
  refine lv_iload_n hx hb dX10_isPart_0 rfl (lv_at hl 0 rfl) ?_
  refine lv_if_eq (tgt := 9) hx hb dX10_isPart_1 (by decide) (fun c1 => ?_) (fun c1 => ?_)
  · replace h := (if_pos c1).symm.trans h
    exact J9 ls (lv_sub hl [] rfl) h
  · replace h := (if_neg c1).symm.trans h
    refine lv_iload_n hx hb dX10_isPart_4 rfl (lv_at hl 0 rfl) ?_
    refine lv_iconst (v := 1) hx hb dX10_isPart_5 (by decide) ?_
    refine lv_icmp_ne (tgt := 13) hx hb dX10_isPart_6 (by decide) (fun c2 => ?_) (fun c2 => ?_)
    · replace h := (if_neg c2).symm.trans h
      refine lv_iconst (v := 0) hx hb dX10_isPart_13 (by decide) ?_
      exact W.zret (v := 0) hx hb hr rfl (fun t ht hW => ⟨_, rfl, Option.some.inj h, ht⟩) (fun q hq => by cases hq) dX10_isPart_14
    · replace h := (if_pos c2).symm.trans h
      exact J9 ls (lv_sub hl [] rfl) h
set_option maxHeartbeats 4000000 in
set_option maxRecDepth 100000 in
theorem c_X10_isPart (l : Launch) (x0 : Int32) {o : Int32} (h : f_X10_isPart x0 = some o) : mPi l yX10_isPart wo_X10_isPart 0 [.int x0] o := by
  refine Met.ofW (cc := cX10_isPart) (maxL := 1) (ret := some .boolean) (by decide) rfl ?_
  intro p e s m args below meth c s₁ B hml hv
  obtain ⟨rfl, -⟩ := hv
  rw [lg_entry_eq]
  exact core_X10_isPart x0 B.exec B.bytes hml B.returns (atoms_spec (ws := wo_X10_isPart) B.pre) (findClass_of_methodNamed B.named) B.notSynchronized (lv_entry [.int x0] (n := 1) (Nat.le_of_ble_eq_true rfl)) h
theorem qd_X10_isPart : yX10_isPart.cls ≠ "java/lang/invoke/MethodHandle" ∧ yX10_isPart.cls ≠ "java/lang/invoke/VarHandle" ∧ (parseMethodDescriptor yX10_isPart.desc).map (fun d => d.parameters.length) = some 1 := by decide +kernel
abbrev wo_X10_isBehind : List Cond := .code yX10_isBehind cX10_isBehind 1 (some .boolean) :: wsL_law
set_option maxHeartbeats 4000000 in
set_option maxRecDepth 100000 in
theorem core_X10_isBehind (x0 : Int32) {p : Program} {l : Launch} {e : Env} {s : State} {m : MethodId} {args : Array Value} {below : List Frame} {meth : Method} {c : Code} {ls : Array Slot} (hx : p.tables.exec = Jvm.exec) (hb : c.code = cX10_isBehind) (hml : c.maxLocals = 1) (hr : meth.sig.returnType = some .boolean) (hts : ∀ w ∈ wo_X10_isBehind, w.before args s = true) (hown : s.vm.findClass RX10 = some m.cls) (hlocks : meth.locks = false) (hl : lv_has ls 1 [(0, .int x0)]) {o : Int32} (h : f_X10_isBehind x0 = some o) : gRi p l e wo_X10_isBehind 0 s m args below meth c o (F0 m 0 ls []) := by
  unfold f_X10_isBehind at h
  refine lv_iload_n hx hb dX10_isBehind_0 rfl (lv_at hl 0 rfl) ?_
  refine lv_iconst (v := 1) hx hb dX10_isBehind_1 (by decide) ?_
  refine lv_icmp_lt (tgt := 14) hx hb dX10_isBehind_2 (by decide) (fun c1 => ?_) (fun c1 => ?_)
  · replace h := (if_pos c1).symm.trans h
    refine lv_iconst (v := 0) hx hb dX10_isBehind_14 (by decide) ?_
    exact W.zret (v := 0) hx hb hr rfl (fun t ht hW => ⟨_, rfl, Option.some.inj h, ht⟩) (fun q hq => by cases hq) dX10_isBehind_15
  · replace h := (if_neg c1).symm.trans h
    refine lv_iload_n hx hb dX10_isBehind_5 rfl (lv_at hl 0 rfl) ?_
    refine lv_iconst (v := 4) hx hb dX10_isBehind_6 (by decide) ?_
    refine lv_icmp_gt (tgt := 14) hx hb dX10_isBehind_7 (by decide) (fun c2 => ?_) (fun c2 => ?_)
    · replace h := (if_pos c2).symm.trans h
      refine lv_iconst (v := 0) hx hb dX10_isBehind_14 (by decide) ?_
      exact W.zret (v := 0) hx hb hr rfl (fun t ht hW => ⟨_, rfl, Option.some.inj h, ht⟩) (fun q hq => by cases hq) dX10_isBehind_15
    · replace h := (if_neg c2).symm.trans h
      refine lv_iconst (v := 1) hx hb dX10_isBehind_10 (by decide) ?_
      refine lv_goto (tgt := 15) hx hb dX10_isBehind_11 (by decide) ?_
      exact W.zret (v := 1) hx hb hr rfl (fun t ht hW => ⟨_, rfl, Option.some.inj h, ht⟩) (fun q hq => by cases hq) dX10_isBehind_15
set_option maxHeartbeats 4000000 in
set_option maxRecDepth 100000 in
theorem c_X10_isBehind (l : Launch) (x0 : Int32) {o : Int32} (h : f_X10_isBehind x0 = some o) : mPi l yX10_isBehind wo_X10_isBehind 0 [.int x0] o := by
  refine Met.ofW (cc := cX10_isBehind) (maxL := 1) (ret := some .boolean) (by decide) rfl ?_
  intro p e s m args below meth c s₁ B hml hv
  obtain ⟨rfl, -⟩ := hv
  rw [lg_entry_eq]
  exact core_X10_isBehind x0 B.exec B.bytes hml B.returns (atoms_spec (ws := wo_X10_isBehind) B.pre) (findClass_of_methodNamed B.named) B.notSynchronized (lv_entry [.int x0] (n := 1) (Nat.le_of_ble_eq_true rfl)) h
theorem qd_X10_isBehind : yX10_isBehind.cls ≠ "java/lang/invoke/MethodHandle" ∧ yX10_isBehind.cls ≠ "java/lang/invoke/VarHandle" ∧ (parseMethodDescriptor yX10_isBehind.desc).map (fun d => d.parameters.length) = some 1 := by decide +kernel
abbrev wo_X10_isFirstTold : List Cond := .code yX10_isFirstTold cX10_isFirstTold 1 (some .boolean) :: wsL_law
set_option maxHeartbeats 4000000 in
set_option maxRecDepth 100000 in
theorem core_X10_isFirstTold (x0 : Int32) {p : Program} {l : Launch} {e : Env} {s : State} {m : MethodId} {args : Array Value} {below : List Frame} {meth : Method} {c : Code} {ls : Array Slot} (hx : p.tables.exec = Jvm.exec) (hb : c.code = cX10_isFirstTold) (hml : c.maxLocals = 1) (hr : meth.sig.returnType = some .boolean) (hts : ∀ w ∈ wo_X10_isFirstTold, w.before args s = true) (hown : s.vm.findClass RX10 = some m.cls) (hlocks : meth.locks = false) (hl : lv_has ls 1 [(0, .int x0)]) {o : Int32} (h : f_X10_isFirstTold x0 = some o) : gRi p l e wo_X10_isFirstTold 0 s m args below meth c o (F0 m 0 ls []) := by
  unfold f_X10_isFirstTold at h
  refine lv_iload_n hx hb dX10_isFirstTold_0 rfl (lv_at hl 0 rfl) ?_
  refine lv_iconst (v := 2) hx hb dX10_isFirstTold_1 (by decide) ?_
  refine lv_icmp_lt (tgt := 15) hx hb dX10_isFirstTold_2 (by decide) (fun c1 => ?_) (fun c1 => ?_)
  · replace h := (if_pos c1).symm.trans h
    refine lv_iconst (v := 0) hx hb dX10_isFirstTold_15 (by decide) ?_
    exact W.zret (v := 0) hx hb hr rfl (fun t ht hW => ⟨_, rfl, Option.some.inj h, ht⟩) (fun q hq => by cases hq) dX10_isFirstTold_16
  · replace h := (if_neg c1).symm.trans h
    refine lv_iload_n hx hb dX10_isFirstTold_5 rfl (lv_at hl 0 rfl) ?_
    refine lv_bipush (v := 31) hx hb dX10_isFirstTold_6 (by decide) ?_
    refine lv_icmp_gt (tgt := 15) hx hb dX10_isFirstTold_8 (by decide) (fun c2 => ?_) (fun c2 => ?_)
    · replace h := (if_pos c2).symm.trans h
      refine lv_iconst (v := 0) hx hb dX10_isFirstTold_15 (by decide) ?_
      exact W.zret (v := 0) hx hb hr rfl (fun t ht hW => ⟨_, rfl, Option.some.inj h, ht⟩) (fun q hq => by cases hq) dX10_isFirstTold_16
    · replace h := (if_neg c2).symm.trans h
      refine lv_iconst (v := 1) hx hb dX10_isFirstTold_11 (by decide) ?_
      refine lv_goto (tgt := 16) hx hb dX10_isFirstTold_12 (by decide) ?_
      exact W.zret (v := 1) hx hb hr rfl (fun t ht hW => ⟨_, rfl, Option.some.inj h, ht⟩) (fun q hq => by cases hq) dX10_isFirstTold_16
set_option maxHeartbeats 4000000 in
set_option maxRecDepth 100000 in
theorem c_X10_isFirstTold (l : Launch) (x0 : Int32) {o : Int32} (h : f_X10_isFirstTold x0 = some o) : mPi l yX10_isFirstTold wo_X10_isFirstTold 0 [.int x0] o := by
  refine Met.ofW (cc := cX10_isFirstTold) (maxL := 1) (ret := some .boolean) (by decide) rfl ?_
  intro p e s m args below meth c s₁ B hml hv
  obtain ⟨rfl, -⟩ := hv
  rw [lg_entry_eq]
  exact core_X10_isFirstTold x0 B.exec B.bytes hml B.returns (atoms_spec (ws := wo_X10_isFirstTold) B.pre) (findClass_of_methodNamed B.named) B.notSynchronized (lv_entry [.int x0] (n := 1) (Nat.le_of_ble_eq_true rfl)) h
theorem qd_X10_isFirstTold : yX10_isFirstTold.cls ≠ "java/lang/invoke/MethodHandle" ∧ yX10_isFirstTold.cls ≠ "java/lang/invoke/VarHandle" ∧ (parseMethodDescriptor yX10_isFirstTold.desc).map (fun d => d.parameters.length) = some 1 := by decide +kernel
abbrev wo_X10_refusal : List Cond := .code yX10_refusal cX10_refusal 1 (some .long) :: wsL_law
set_option maxHeartbeats 4000000 in
set_option maxRecDepth 100000 in
theorem core_X10_refusal (x0 : Int32) {p : Program} {l : Launch} {e : Env} {s : State} {m : MethodId} {args : Array Value} {below : List Frame} {meth : Method} {c : Code} {ls : Array Slot} (hx : p.tables.exec = Jvm.exec) (hb : c.code = cX10_refusal) (hml : c.maxLocals = 1) (hr : meth.sig.returnType = some .long) (hts : ∀ w ∈ wo_X10_refusal, w.before args s = true) (hown : s.vm.findClass RX10 = some m.cls) (hlocks : meth.locks = false) (hl : lv_has ls 1 [(0, .int x0)]) {o : Int64} (h : f_X10_refusal x0 = some o) : gRl p l e wo_X10_refusal 0 s m args below meth c o (F0 m 0 ls []) := by
  have kc295 := hts _ (List.mem_cons_of_mem _ wm_503)
  unfold f_X10_refusal at h
  refine lv_ldc2 (v := (-9223372036854775808)) hx hb hown kc295 dX10_refusal_0 ?_
  refine lv_iload_n hx hb dX10_refusal_3 rfl (lv_at hl 0 rfl) ?_
  refine lv_i2l (v := x0.toInt64) hx hb dX10_refusal_4 rfl ?_
  refine lv_lsub hx hb dX10_refusal_5 ?_
  exact W.lret (v := (((-9223372036854775808) : Int64) - x0.toInt64)) hx hb hr (fun t ht hW => ⟨_, rfl, Option.some.inj h, ht⟩) (fun q hq => by cases hq) dX10_refusal_6
set_option maxHeartbeats 4000000 in
set_option maxRecDepth 100000 in
theorem c_X10_refusal (l : Launch) (x0 : Int32) {o : Int64} (h : f_X10_refusal x0 = some o) : mPl l yX10_refusal wo_X10_refusal 0 [.int x0] o := by
  refine Met.ofW (cc := cX10_refusal) (maxL := 1) (ret := some .long) (by decide) rfl ?_
  intro p e s m args below meth c s₁ B hml hv
  obtain ⟨rfl, -⟩ := hv
  rw [lg_entry_eq]
  exact core_X10_refusal x0 B.exec B.bytes hml B.returns (atoms_spec (ws := wo_X10_refusal) B.pre) (findClass_of_methodNamed B.named) B.notSynchronized (lv_entry [.int x0] (n := 1) (Nat.le_of_ble_eq_true rfl)) h
theorem qd_X10_refusal : yX10_refusal.cls ≠ "java/lang/invoke/MethodHandle" ∧ yX10_refusal.cls ≠ "java/lang/invoke/VarHandle" ∧ (parseMethodDescriptor yX10_refusal.desc).map (fun d => d.parameters.length) = some 1 := by decide +kernel
abbrev wo_X10_millionths : List Cond := .code yX10_millionths cX10_millionths 2 (some .int) :: wsL_law
set_option maxHeartbeats 4000000 in
set_option maxRecDepth 100000 in
theorem core_X10_millionths (x0 : Int32) (x1 : Int32) {p : Program} {l : Launch} {e : Env} {s : State} {m : MethodId} {args : Array Value} {below : List Frame} {meth : Method} {c : Code} {ls : Array Slot} (hx : p.tables.exec = Jvm.exec) (hb : c.code = cX10_millionths) (hml : c.maxLocals = 2) (hr : meth.sig.returnType = some .int) (hts : ∀ w ∈ wo_X10_millionths, w.before args s = true) (hown : s.vm.findClass RX10 = some m.cls) (hlocks : meth.locks = false) (hl : lv_has ls 2 [(0, .int x0), (1, .int x1)]) {o : Int32} (h : f_X10_millionths x0 x1 = some o) : gRi p l e wo_X10_millionths 0 s m args below meth c o (F0 m 0 ls []) := by
  have kc301 := hts _ (List.mem_cons_of_mem _ wm_606)
  unfold f_X10_millionths at h
  refine lv_iload_n hx hb dX10_millionths_0 rfl (lv_at hl 1 rfl) ?_
  refine lv_if_gt (tgt := 8) hx hb dX10_millionths_1 (by decide) (fun c1 => ?_) (fun c1 => ?_)
  · replace h := (if_pos c1).symm.trans h
    refine lv_iload_n hx hb dX10_millionths_8 rfl (lv_at hl 0 rfl) ?_
    refine lv_i2l (v := x0.toInt64) hx hb dX10_millionths_9 rfl ?_
    refine lv_ldc2 (v := 1000000) hx hb hown kc301 dX10_millionths_10 ?_
    refine lv_lmul hx hb dX10_millionths_13 ?_
    refine lv_iload_n hx hb dX10_millionths_14 rfl (lv_at hl 1 rfl) ?_
    refine lv_i2l (v := x1.toInt64) hx hb dX10_millionths_15 rfl ?_
    obtain ⟨g2, h⟩ := gNeL_some h
    refine lv_ldiv hx hb dX10_millionths_16 g2 ?_
    refine lv_l2i (v := ((x0.toInt64 * 1000000) / x1.toInt64).toInt32) hx hb dX10_millionths_17 rfl ?_
    exact W.iret (v := ((x0.toInt64 * 1000000) / x1.toInt64).toInt32) hx hb hr (fun t ht hW => ⟨_, rfl, Option.some.inj h, ht⟩) (fun q hq => by cases hq) dX10_millionths_18
  · replace h := (if_neg c1).symm.trans h
    refine lv_iconst (v := 0) hx hb dX10_millionths_4 (by decide) ?_
    refine lv_goto (tgt := 18) hx hb dX10_millionths_5 (by decide) ?_
    exact W.iret (v := 0) hx hb hr (fun t ht hW => ⟨_, rfl, Option.some.inj h, ht⟩) (fun q hq => by cases hq) dX10_millionths_18
set_option maxHeartbeats 4000000 in
set_option maxRecDepth 100000 in
theorem c_X10_millionths (l : Launch) (x0 : Int32) (x1 : Int32) {o : Int32} (h : f_X10_millionths x0 x1 = some o) : mPi l yX10_millionths wo_X10_millionths 0 [.int x0, .int x1] o := by
  refine Met.ofW (cc := cX10_millionths) (maxL := 2) (ret := some .int) (by decide) rfl ?_
  intro p e s m args below meth c s₁ B hml hv
  obtain ⟨rfl, -⟩ := hv
  rw [lg_entry_eq]
  exact core_X10_millionths x0 x1 B.exec B.bytes hml B.returns (atoms_spec (ws := wo_X10_millionths) B.pre) (findClass_of_methodNamed B.named) B.notSynchronized (lv_entry [.int x0, .int x1] (n := 2) (Nat.le_of_ble_eq_true rfl)) h
theorem qd_X10_millionths : yX10_millionths.cls ≠ "java/lang/invoke/MethodHandle" ∧ yX10_millionths.cls ≠ "java/lang/invoke/VarHandle" ∧ (parseMethodDescriptor yX10_millionths.desc).map (fun d => d.parameters.length) = some 2 := by decide +kernel
abbrev wo_X10_backwards : List Cond := .code yX10_backwards cX10_backwards 4 (some .int) :: wsL_law
set_option maxHeartbeats 4000000 in
set_option maxRecDepth 100000 in
theorem core_X10_backwards {N : Nat} (x0 : Int32) (x1 : Int32) {p : Program} {l : Launch} {e : Env} {s : State} {m : MethodId} {args : Array Value} {below : List Frame} {meth : Method} {c : Code} {ls : Array Slot} (hx : p.tables.exec = Jvm.exec) (hb : c.code = cX10_backwards) (hml : c.maxLocals = 4) (hr : meth.sig.returnType = some .int) (hts : ∀ w ∈ wo_X10_backwards, w.before args s = true) (hown : s.vm.findClass RX10 = some m.cls) (hlocks : meth.locks = false) (hl : lv_has ls 4 [(0, .int x0), (1, .int x1)]) {o : Int32} (h : f_X10_backwards N x0 x1 = some o) : gRi p l e wo_X10_backwards 0 s m args below meth c o (F0 m 0 ls []) := by
  unfold f_X10_backwards at h
  have L4 : ∀ (n4 : Nat) (x0 : Int32) (x1 : Int32) (x2 : Int32) (x3 : Int32) (ls : Array Slot) (hl : lv_has ls 4 [(0, .int x0), (1, .int x1), (2, .int x2), (3, .int x3)]) (h : f_X10_backwards_4 N n4 x0 x1 x2 x3 = some o), gRi p l e wo_X10_backwards 0 s m args below meth c o (F0 m 4 ls []) := by
    intro n4
    induction n4 with
    | zero => intro x0 x1 x2 x3 ls hl h; cases (show (none : Option (Int32)) = some o from h)
    | succ n4 ih4 =>
      intro x0 x1 x2 x3 ls hl h
      rw [f_X10_backwards_4] at h
      refine lv_iload_n hx hb dX10_backwards_4 rfl (lv_at hl 3 rfl) ?_
      refine lv_iload_n hx hb dX10_backwards_5 rfl (lv_at hl 1 rfl) ?_
      refine lv_icmp_ge (tgt := 25) hx hb dX10_backwards_6 (by decide) (fun c1 => ?_) (fun c1 => ?_)
      · replace h := (if_pos c1).symm.trans h
        refine lv_iload_n hx hb dX10_backwards_25 rfl (lv_at hl 2 rfl) ?_
        exact W.iret (v := x2) hx hb hr (fun t ht hW => ⟨_, rfl, Option.some.inj h, ht⟩) (fun q hq => by cases hq) dX10_backwards_26
      · replace h := (if_neg c1).symm.trans h
        refine lv_iload_n hx hb dX10_backwards_9 rfl (lv_at hl 2 rfl) ?_
        refine lv_iconst (v := 1) hx hb dX10_backwards_10 (by decide) ?_
        refine lv_ishl hx hb dX10_backwards_11 ?_
        refine lv_iload_n hx hb dX10_backwards_12 rfl (lv_at hl 0 rfl) ?_
        refine lv_iload_n hx hb dX10_backwards_13 rfl (lv_at hl 3 rfl) ?_
        refine lv_ishr hx hb dX10_backwards_14 ?_
        refine lv_iconst (v := 1) hx hb dX10_backwards_15 (by decide) ?_
        refine lv_iand hx hb dX10_backwards_16 ?_
        refine lv_ior hx hb dX10_backwards_17 ?_
        refine lv_istore_n (lv' := [(2, .int ((x2 <<< ((1 : Int32) &&& 31)) ||| ((x0 >>> (x3 &&& 31)) &&& 1))), (0, .int x0), (1, .int x1), (3, .int x3)]) hx hb dX10_backwards_18 rfl hl (by decide) rfl (fun ls hl => ?_)
        refine lv_iinc (v := (x3 + 1)) (lv' := [(3, .int (x3 + 1)), (2, .int ((x2 <<< ((1 : Int32) &&& 31)) ||| ((x0 >>> (x3 &&& 31)) &&& 1))), (0, .int x0), (1, .int x1)]) hx hb dX10_backwards_19 hl (k := 3) rfl rfl (by decide) rfl (fun ls hl => ?_)
        refine lv_goto (tgt := 4) hx hb dX10_backwards_22 (by decide) ?_
        exact ih4 x0 x1 ((x2 <<< ((1 : Int32) &&& 31)) ||| ((x0 >>> (x3 &&& 31)) &&& 1)) (x3 + 1) ls (lv_sub hl [2, 3, 1, 0] rfl) h
  refine lv_iconst (v := 0) hx hb dX10_backwards_0 (by decide) ?_
  refine lv_istore_n (lv' := [(2, .int 0), (0, .int x0), (1, .int x1)]) hx hb dX10_backwards_1 rfl hl (by decide) rfl (fun ls hl => ?_)
  refine lv_iconst (v := 0) hx hb dX10_backwards_2 (by decide) ?_
  refine lv_istore_n (lv' := [(3, .int 0), (2, .int 0), (0, .int x0), (1, .int x1)]) hx hb dX10_backwards_3 rfl hl (by decide) rfl (fun ls hl => ?_)
  exact L4 N x0 x1 0 0 ls (lv_sub hl [2, 3, 1, 0] rfl) h
set_option maxHeartbeats 4000000 in
set_option maxRecDepth 100000 in
theorem c_X10_backwards {N : Nat} (l : Launch) (x0 : Int32) (x1 : Int32) {o : Int32} (h : f_X10_backwards N x0 x1 = some o) : mPi l yX10_backwards wo_X10_backwards 0 [.int x0, .int x1] o := by
  refine Met.ofW (cc := cX10_backwards) (maxL := 4) (ret := some .int) (by decide) rfl ?_
  intro p e s m args below meth c s₁ B hml hv
  obtain ⟨rfl, -⟩ := hv
  rw [lg_entry_eq]
  exact core_X10_backwards x0 x1 B.exec B.bytes hml B.returns (atoms_spec (ws := wo_X10_backwards) B.pre) (findClass_of_methodNamed B.named) B.notSynchronized (lv_entry [.int x0, .int x1] (n := 4) (Nat.le_of_ble_eq_true rfl)) h
theorem qd_X10_backwards : yX10_backwards.cls ≠ "java/lang/invoke/MethodHandle" ∧ yX10_backwards.cls ≠ "java/lang/invoke/VarHandle" ∧ (parseMethodDescriptor yX10_backwards.desc).map (fun d => d.parameters.length) = some 2 := by decide +kernel
abbrev wo_X10_found : List Cond := .code yX10_found cX10_found 2 (some .int) :: wsL_law
set_option maxHeartbeats 4000000 in
set_option maxRecDepth 100000 in
theorem core_X10_found (D : va_G) (k : Nat → ClassId) (a : Nat → Nat) (xLen : Nat → Int32) (xHits : Nat → Int32) (xUns : Nat → Int32) (xItems : Nat → Nat → Int32) (xLost : Nat → Int32) (xKind : Nat → Int32) (xSize : Nat → Int32) (xLet : Nat → Int32) (xRel : Nat → Int32) (xLim : Nat → Int32) (xOpen : Nat → Int32) (xMeas : Nat → Int32) (xSL : Int32) (xST : Int32) (xSD : Int32) (xSK : Int32) (xTal : Nat → Nat → Int32) (xKn : Nat → Int32) (xFT : Nat → Int32) (xFA : Int32) (xFE : Int32) (xOdds : Int32) (xPat : Int32) (xFind : Int32) (x1 : Int32) {p : Program} {l : Launch} {e : Env} {s : State} {m : MethodId} {args : Array Value} {below : List Frame} {meth : Method} {c : Code} {ls : Array Slot} (hx : p.tables.exec = Jvm.exec) (hb : c.code = cX10_found) (hml : c.maxLocals = 2) (hr : meth.sig.returnType = some .int) (hts : ∀ w ∈ wo_X10_found, w.before args s = true) (hown : s.vm.findClass RX10 = some m.cls) (hlocks : meth.locks = false) (hl : lv_has ls 2 [(0, .ref (a 0)), (1, .int x1)]) (hK : va_K D vwCl (xTys k) s) (hP : va_P D vwCl (wX k a xLen xHits xUns xItems xLost xKind xSize xLet xRel xLim xOpen xMeas xSL xST xSD xSK xTal xKn xFT xFA xFE xOdds xPat xFind) s.heap) {A : Nat → Prop} (hD : va_D A (wX k a xLen xHits xUns xItems xLost xKind xSize xLet xRel xLim xOpen xMeas xSL xST xSD xSK xTal xKn xFT xFA xFE xOdds xPat xFind)) (hA : ∀ q : Nat, s.heap.size ≤ q → A q) {o : Int32 × (Int32)} (h : f_X10_found x1 xFind = some o) : gQi p l e wo_X10_found 0 s m args below meth c D k A o.1 (wX k a xLen xHits xUns xItems xLost xKind xSize xLet xRel xLim xOpen xMeas xSL xST xSD xSK xTal xKn xFT xFA xFE xOdds xPat o.2) s.heap [] (F0 m 0 ls []) := by
  have hi10 := (fun w h => List.mem_cons_of_mem _ (inlX10 w h) : ∀ w ∈ wsX100, w ∈ wo_X10_found)
  have kf51 := hts _ (List.mem_cons_of_mem _ wm_34)
  unfold f_X10_found at h
  have hS : va_S A s.heap s.heap [] := va_S.rf
  obtain ⟨H, hH⟩ : ∃ H : Heap, H = s.heap := ⟨_, rfl⟩
  obtain ⟨locs, hlc⟩ : ∃ locs : List Loc, locs = [] := ⟨_, rfl⟩
  have hS : va_S A s.heap H locs := by rw [hH, hlc]; exact va_S.rf
  have hP : va_P D vwCl (wX k a xLen xHits xUns xItems xLost xKind xSize xLet xRel xLim xOpen xMeas xSL xST xSD xSK xTal xKn xFT xFA xFE xOdds xPat xFind) H := by rw [hH]; exact hP
  suffices hGo : gQi p l e wo_X10_found 0 s m args below meth c D k A o.1 (wX k a xLen xHits xUns xItems xLost xKind xSize xLet xRel xLim xOpen xMeas xSL xST xSD xSK xTal xKn xFT xFA xFE xOdds xPat o.2) H locs (F0 m 0 ls []) by rw [hH, hlc] at hGo; exact hGo
  refine lv_aload_n hx hb dX10_found_0 rfl (lv_at hl 0 rfl) ?_
  refine lv_iload_n hx hb dX10_found_1 rfl (lv_at hl 1 rfl) ?_
  refine va_put (D := D) (ci := 5) (v := .int x1) (ty := .int) (C := RX10) (T := TX10) (N := 8) hx hb hts hi10 tyX10 tyX10_ok nmX10 hown hK hP hD hS (0) (rfl) rfl 7 (by decide) kf51 (fun _ h9 => h9) rfl (tyX10_ok 7 (by decide)) rfl rfl (Nat.le_of_ble_eq_true rfl) dX10_found_2 (fun H locs hP hD hS => ?_)
  have hP : va_P D vwCl (wX k a xLen xHits xUns xItems xLost xKind xSize xLet xRel xLim xOpen xMeas xSL xST xSD xSK xTal xKn xFT xFA xFE xOdds xPat x1) H := hP
  have hD : va_D A (wX k a xLen xHits xUns xItems xLost xKind xSize xLet xRel xLim xOpen xMeas xSL xST xSD xSK xTal xKn xFT xFA xFE xOdds xPat x1) := hD
  refine lv_bipush (v := (-10)) hx hb dX10_found_5 (by decide) ?_
  refine lv_iload_n hx hb dX10_found_7 rfl (lv_at hl 1 rfl) ?_
  refine lv_isub hx hb dX10_found_8 ?_
  have he := Option.some.inj h
  exact W.iret (v := (((-10) : Int32) - x1)) hx hb hr (fun t ht hW => ⟨⟨(((-10) : Int32) - x1), wX k a xLen xHits xUns xItems xLost xKind xSize xLet xRel xLim xOpen xMeas xSL xST xSD xSK xTal xKn xFT xFA xFE xOdds xPat x1, rfl, ⟨(congrArg (fun z => z.1) he), (congrArg (fun z => wX k a xLen xHits xUns xItems xLost xKind xSize xLet xRel xLim xOpen xMeas xSL xST xSD xSK xTal xKn xFT xFA xFE xOdds xPat z.2) he)⟩, by rw [ht]; exact hP, va_K.moved hW.alike hK, hD⟩, hS.F ht⟩) hS.2.2 dX10_found_9
set_option maxHeartbeats 4000000 in
set_option maxRecDepth 100000 in
theorem c_X10_found (l : Launch) (D : va_G) (k : Nat → ClassId) (a : Nat → Nat) (xLen : Nat → Int32) (xHits : Nat → Int32) (xUns : Nat → Int32) (xItems : Nat → Nat → Int32) (xLost : Nat → Int32) (xKind : Nat → Int32) (xSize : Nat → Int32) (xLet : Nat → Int32) (xRel : Nat → Int32) (xLim : Nat → Int32) (xOpen : Nat → Int32) (xMeas : Nat → Int32) (xSL : Int32) (xST : Int32) (xSD : Int32) (xSK : Int32) (xTal : Nat → Nat → Int32) (xKn : Nat → Int32) (xFT : Nat → Int32) (xFA : Int32) (xFE : Int32) (xOdds : Int32) (xPat : Int32) (xFind : Int32) (x1 : Int32) {o : Int32 × (Int32)} (h : f_X10_found x1 xFind = some o) : mQi l yX10_found wo_X10_found 0 D k [.ref (a 0), .int x1] (wX k a xLen xHits xUns xItems xLost xKind xSize xLet xRel xLim xOpen xMeas xSL xST xSD xSK xTal xKn xFT xFA xFE xOdds xPat xFind) o.1 (wX k a xLen xHits xUns xItems xLost xKind xSize xLet xRel xLim xOpen xMeas xSL xST xSD xSK xTal xKn xFT xFA xFE xOdds xPat o.2) := by
  intro sz
  refine Met.ofW (cc := cX10_found) (maxL := 2) (ret := some .int) (by decide) rfl ?_
  intro p e s m args below meth c s₁ B hml hv
  obtain ⟨rfl, hsz, hP, hK, hD0⟩ := hv
  subst hsz
  rw [lg_entry_eq]
  exact core_X10_found D k a xLen xHits xUns xItems xLost xKind xSize xLet xRel xLim xOpen xMeas xSL xST xSD xSK xTal xKn xFT xFA xFE xOdds xPat xFind x1 B.exec B.bytes hml B.returns (atoms_spec (ws := wo_X10_found) B.pre) (findClass_of_methodNamed B.named) B.notSynchronized (lv_entry [.ref (a 0), .int x1] (n := 2) (Nat.le_of_ble_eq_true rfl)) hK hP hD0.self (fun q h => Or.inr h) h
theorem qd_X10_found : yX10_found.cls = RX10 ∧ yX10_found.cls ≠ "java/lang/invoke/MethodHandle" ∧ yX10_found.cls ≠ "java/lang/invoke/VarHandle" ∧ (parseMethodDescriptor yX10_found.desc).map (fun d => d.parameters.length) = some 1 := by decide +kernel
abbrev wo_X10_refusesItem : List Cond := .code yX10_refusesItem cX10_refusesItem 4 (some .int) :: wsL_law
set_option maxHeartbeats 4000000 in
set_option maxRecDepth 100000 in
theorem core_X10_refusesItem (D : va_G) (k : Nat → ClassId) (a : Nat → Nat) (xLen : Nat → Int32) (xHits : Nat → Int32) (xUns : Nat → Int32) (xItems : Nat → Nat → Int32) (xLost : Nat → Int32) (xKind : Nat → Int32) (xSize : Nat → Int32) (xLet : Nat → Int32) (xRel : Nat → Int32) (xLim : Nat → Int32) (xOpen : Nat → Int32) (xMeas : Nat → Int32) (xSL : Int32) (xST : Int32) (xSD : Int32) (xSK : Int32) (xTal : Nat → Nat → Int32) (xKn : Nat → Int32) (xFT : Nat → Int32) (xFA : Int32) (xFE : Int32) (xOdds : Int32) (xPat : Int32) (xFind : Int32) (x1 : Int32) (x2 : Int32) (x3 : Int32) {p : Program} {l : Launch} {e : Env} {s : State} {m : MethodId} {args : Array Value} {below : List Frame} {meth : Method} {c : Code} {ls : Array Slot} (hx : p.tables.exec = Jvm.exec) (hb : c.code = cX10_refusesItem) (hml : c.maxLocals = 4) (hr : meth.sig.returnType = some .int) (hts : ∀ w ∈ wo_X10_refusesItem, w.before args s = true) (hown : s.vm.findClass RX10 = some m.cls) (hlocks : meth.locks = false) (hl : lv_has ls 4 [(0, .ref (a 0)), (1, .int x1), (2, .int x2), (3, .int x3)]) (hK : va_K D vwCl (xTys k) s) (hP : va_P D vwCl (wX k a xLen xHits xUns xItems xLost xKind xSize xLet xRel xLim xOpen xMeas xSL xST xSD xSK xTal xKn xFT xFA xFE xOdds xPat xFind) s.heap) {A : Nat → Prop} (hD : va_D A (wX k a xLen xHits xUns xItems xLost xKind xSize xLet xRel xLim xOpen xMeas xSL xST xSD xSK xTal xKn xFT xFA xFE xOdds xPat xFind)) (hA : ∀ q : Nat, s.heap.size ≤ q → A q) {o : Int32 × (Int32)} (h : f_X10_refusesItem x1 x2 x3 xLost xKind xSize xFind = some o) : gQi p l e wo_X10_refusesItem 1 s m args below meth c D k A o.1 (wX k a xLen xHits xUns xItems xLost xKind xSize xLet xRel xLim xOpen xMeas xSL xST xSD xSK xTal xKn xFT xFA xFE xOdds xPat o.2) s.heap [] (F0 m 0 ls []) := by
  have hi10 := (fun w h => List.mem_cons_of_mem _ (inlX10 w h) : ∀ w ∈ wsX100, w ∈ wo_X10_refusesItem)
  have kf18 := hts _ (List.mem_cons_of_mem _ wm_17)
  have hi7 := (fun w h => List.mem_cons_of_mem _ (inlX7 w h) : ∀ w ∈ wsX70, w ∈ wo_X10_refusesItem)
  have kf75 := hts _ (List.mem_cons_of_mem _ wm_127)
  have kf251 := hts _ (List.mem_cons_of_mem _ wm_783)
  have kf83 := hts _ (List.mem_cons_of_mem _ wm_128)
  unfold f_X10_refusesItem at h
  have hS : va_S A s.heap s.heap [] := va_S.rf
  have J75 : ∀ (xFind : Int32) (ls : Array Slot) (H : Heap) (locs : List Loc) (hl : lv_has ls 4 [(0, .ref (a 0))]) (hP : va_P D vwCl (wX k a xLen xHits xUns xItems xLost xKind xSize xLet xRel xLim xOpen xMeas xSL xST xSD xSK xTal xKn xFT xFA xFE xOdds xPat xFind) H) (hD : va_D A (wX k a xLen xHits xUns xItems xLost xKind xSize xLet xRel xLim xOpen xMeas xSL xST xSD xSK xTal xKn xFT xFA xFE xOdds xPat xFind)) (hS : va_S A s.heap H locs) (h : f_X10_refusesItem_75 xLost xKind xSize xFind = some o), gQi p l e wo_X10_refusesItem 1 s m args below meth c D k A o.1 (wX k a xLen xHits xUns xItems xLost xKind xSize xLet xRel xLim xOpen xMeas xSL xST xSD xSK xTal xKn xFT xFA xFE xOdds xPat o.2) H locs (F0 m 75 ls []) := by
    intro xFind ls H locs hl hP hD hS h
    unfold f_X10_refusesItem_75 at h
    refine lv_aload_n hx hb dX10_refusesItem_75 rfl (lv_at hl 0 rfl) ?_
    refine lv_iconst (v := 2) hx hb dX10_refusesItem_76 (by decide) ?_
    obtain ⟨o1, eq2, h⟩ := bnd_some h
    refine kQiV (rest := []) (q0 := 0) ⟨hx, hb, hml, hown, hts⟩ (c_X10_found l D k a xLen xHits xUns xItems xLost xKind xSize xLet xRel xLim xOpen xMeas xSL xST xSD xSK xTal xKn xFT xFA xFE xOdds xPat xFind 2 eq2) (cwV 1 hts (gAV wm_133 wm_134 wm_135 wm_2 wm_136) rfl rfl rfl qd_X10_found ⟨Nat.le_of_ble_eq_true rfl, Nat.le_of_ble_eq_true rfl⟩) hK hP hD hS hA (rfl) rfl rfl hl.1 rfl (Nat.le_of_ble_eq_true rfl) dX10_refusesItem_77 ⟨Nat.zero_le _, Nat.zero_le _⟩ (fun H locs hP hD hS => ?_)
    have hP : va_P D vwCl (wX k a xLen xHits xUns xItems xLost xKind xSize xLet xRel xLim xOpen xMeas xSL xST xSD xSK xTal xKn xFT xFA xFE xOdds xPat o1.2) H := hP
    have hD : va_D A (wX k a xLen xHits xUns xItems xLost xKind xSize xLet xRel xLim xOpen xMeas xSL xST xSD xSK xTal xKn xFT xFA xFE xOdds xPat o1.2) := hD
    have he := Option.some.inj h
    exact W.iret (v := o1.1) hx hb hr (fun t ht hW => ⟨⟨o1.1, wX k a xLen xHits xUns xItems xLost xKind xSize xLet xRel xLim xOpen xMeas xSL xST xSD xSK xTal xKn xFT xFA xFE xOdds xPat o1.2, rfl, ⟨(congrArg (fun z => z.1) he), (congrArg (fun z => wX k a xLen xHits xUns xItems xLost xKind xSize xLet xRel xLim xOpen xMeas xSL xST xSD xSK xTal xKn xFT xFA xFE xOdds xPat z.2) he)⟩, by rw [ht]; exact hP, va_K.moved hW.alike hK, hD⟩, hS.F ht⟩) hS.2.2 dX10_refusesItem_80
  obtain ⟨H, hH⟩ : ∃ H : Heap, H = s.heap := ⟨_, rfl⟩
  obtain ⟨locs, hlc⟩ : ∃ locs : List Loc, locs = [] := ⟨_, rfl⟩
  have hS : va_S A s.heap H locs := by rw [hH, hlc]; exact va_S.rf
  have hP : va_P D vwCl (wX k a xLen xHits xUns xItems xLost xKind xSize xLet xRel xLim xOpen xMeas xSL xST xSD xSK xTal xKn xFT xFA xFE xOdds xPat xFind) H := by rw [hH]; exact hP
  suffices hGo : gQi p l e wo_X10_refusesItem 1 s m args below meth c D k A o.1 (wX k a xLen xHits xUns xItems xLost xKind xSize xLet xRel xLim xOpen xMeas xSL xST xSD xSK xTal xKn xFT xFA xFE xOdds xPat o.2) H locs (F0 m 0 ls []) by rw [hH, hlc] at hGo; exact hGo
  refine lv_iload_n hx hb dX10_refusesItem_0 rfl (lv_at hl 1 rfl) ?_
  obtain ⟨o3, eq4, h⟩ := bnd_some h
  refine kPi (rest := []) ⟨hx, hb, hml, hown, hts⟩ (c_X10_isSheet l x1 eq4) (va_cwS 1 hts (gAS wm_130 wm_131 wm_2 wm_132) rfl rfl rfl qd_X10_isSheet ⟨Nat.le_of_ble_eq_true rfl, Nat.le_of_ble_eq_true rfl⟩) rfl hl.1 rfl (Nat.le_of_ble_eq_true rfl) dX10_refusesItem_1 ⟨Nat.zero_le _, Nat.zero_le _⟩ ?_
  refine lv_if_eq (tgt := 14) hx hb dX10_refusesItem_4 (by decide) (fun c5 => ?_) (fun c5 => ?_)
  · replace h := (if_pos c5).symm.trans h
    refine lv_bipush (v := (-2)) hx hb dX10_refusesItem_14 (by decide) ?_
    have he := Option.some.inj h
    exact W.iret (v := (-2)) hx hb hr (fun t ht hW => ⟨⟨(-2), wX k a xLen xHits xUns xItems xLost xKind xSize xLet xRel xLim xOpen xMeas xSL xST xSD xSK xTal xKn xFT xFA xFE xOdds xPat xFind, rfl, ⟨(congrArg (fun z => z.1) he), (congrArg (fun z => wX k a xLen xHits xUns xItems xLost xKind xSize xLet xRel xLim xOpen xMeas xSL xST xSD xSK xTal xKn xFT xFA xFE xOdds xPat z.2) he)⟩, by rw [ht]; exact hP, va_K.moved hW.alike hK, hD⟩, hS.F ht⟩) hS.2.2 dX10_refusesItem_16
  · replace h := (if_neg c5).symm.trans h
    refine lv_iload_n hx hb dX10_refusesItem_7 rfl (lv_at hl 2 rfl) ?_
    obtain ⟨o6, eq7, h⟩ := bnd_some h
    refine kPi (rest := []) ⟨hx, hb, hml, hown, hts⟩ (c_X10_isType l x2 eq7) (va_cwS 1 hts (gAS wm_754 wm_755 wm_2 wm_756) rfl rfl rfl qd_X10_isType ⟨Nat.le_of_ble_eq_true rfl, Nat.le_of_ble_eq_true rfl⟩) rfl hl.1 rfl (Nat.le_of_ble_eq_true rfl) dX10_refusesItem_8 ⟨Nat.zero_le _, Nat.zero_le _⟩ ?_
    refine lv_if_ne (tgt := 17) hx hb dX10_refusesItem_11 (by decide) (fun c8 => ?_) (fun c8 => ?_)
    · replace h := (if_neg c8).symm.trans h
      refine lv_aload_n hx hb dX10_refusesItem_17 rfl (lv_at hl 0 rfl) ?_
      refine va_get (D := D) (ci := 5) (v := .ref (a 2)) (C := RX10) (T := TX10) (N := 8) hx hb hts hi10 hown hK hP (0) (rfl) rfl 1 (by decide) kf18 (fun _ h9 => h9) rfl dX10_refusesItem_18 ?_
      refine lv_iload_n hx hb dX10_refusesItem_21 rfl (lv_at hl 1 rfl) ?_
      obtain ⟨g9, h⟩ := gIn_some h
      refine va_aldq hx hb hK hP (2) 3 rfl rfl g9 dX10_refusesItem_22 ?_
      refine W.eq (g2 := F0 m 23 ls [.ref (a (18 + x1.toNatClampNeg))]) rfl ?_
      refine va_get (D := D) (ci := 3) (v := .int (xLost x1.toNatClampNeg)) (C := RX7) (T := TX7) (N := 4) hx hb hts hi7 hown hK hP ((18 + x1.toNatClampNeg)) (wX_sheet (vp_in_lt g9)) rfl 1 (by decide) kf75 (fun _ h9 => h9) rfl dX10_refusesItem_23 ?_
      refine lv_if_eq (tgt := 35) hx hb dX10_refusesItem_26 (by decide) (fun c10 => ?_) (fun c10 => ?_)
      · replace h := (if_pos c10).symm.trans h
        refine lv_aload_n hx hb dX10_refusesItem_35 rfl (lv_at hl 0 rfl) ?_
        refine va_get (D := D) (ci := 5) (v := .ref (a 2)) (C := RX10) (T := TX10) (N := 8) hx hb hts hi10 hown hK hP (0) (rfl) rfl 1 (by decide) kf18 (fun _ h9 => h9) rfl dX10_refusesItem_36 ?_
        refine lv_iload_n hx hb dX10_refusesItem_39 rfl (lv_at hl 1 rfl) ?_
        refine va_aldq hx hb hK hP (2) 3 rfl rfl g9 dX10_refusesItem_40 ?_
        refine W.eq (g2 := F0 m 41 ls [.ref (a (18 + x1.toNatClampNeg))]) rfl ?_
        refine va_get (D := D) (ci := 3) (v := .int (xKind x1.toNatClampNeg)) (C := RX7) (T := TX7) (N := 4) hx hb hts hi7 hown hK hP ((18 + x1.toNatClampNeg)) (wX_sheet (vp_in_lt g9)) rfl 2 (by decide) kf251 (fun _ h9 => h9) rfl dX10_refusesItem_41 ?_
        refine lv_iload_n hx hb dX10_refusesItem_44 rfl (lv_at hl 2 rfl) ?_
        refine lv_icmp_eq (tgt := 54) hx hb dX10_refusesItem_45 (by decide) (fun c11 => ?_) (fun c11 => ?_)
        · replace h := (if_pos c11).symm.trans h
          refine lv_iload_n hx hb dX10_refusesItem_54 rfl (lv_at hl 3 rfl) ?_
          refine lv_if_lt (tgt := 75) hx hb dX10_refusesItem_55 (by decide) (fun c12 => ?_) (fun c12 => ?_)
          · replace h := (if_pos c12).symm.trans h
            exact J75 xFind ls H locs (lv_sub hl [0] rfl) hP hD hS h
          · replace h := (if_neg c12).symm.trans h
            refine lv_iload_n hx hb dX10_refusesItem_58 rfl (lv_at hl 3 rfl) ?_
            refine lv_aload_n hx hb dX10_refusesItem_59 rfl (lv_at hl 0 rfl) ?_
            refine va_get (D := D) (ci := 5) (v := .ref (a 2)) (C := RX10) (T := TX10) (N := 8) hx hb hts hi10 hown hK hP (0) (rfl) rfl 1 (by decide) kf18 (fun _ h9 => h9) rfl dX10_refusesItem_60 ?_
            refine lv_iload_n hx hb dX10_refusesItem_63 rfl (lv_at hl 1 rfl) ?_
            refine va_aldq hx hb hK hP (2) 3 rfl rfl g9 dX10_refusesItem_64 ?_
            refine W.eq (g2 := F0 m 65 ls [.ref (a (18 + x1.toNatClampNeg)), .int x3]) rfl ?_
            refine va_get (D := D) (ci := 3) (v := .int (xSize x1.toNatClampNeg)) (C := RX7) (T := TX7) (N := 4) hx hb hts hi7 hown hK hP ((18 + x1.toNatClampNeg)) (wX_sheet (vp_in_lt g9)) rfl 3 (by decide) kf83 (fun _ h9 => h9) rfl dX10_refusesItem_65 ?_
            refine lv_icmp_ge (tgt := 75) hx hb dX10_refusesItem_68 (by decide) (fun c13 => ?_) (fun c13 => ?_)
            · replace h := (if_pos c13).symm.trans h
              exact J75 xFind ls H locs (lv_sub hl [0] rfl) hP hD hS h
            · replace h := (if_neg c13).symm.trans h
              refine lv_iconst (v := 0) hx hb dX10_refusesItem_71 (by decide) ?_
              refine lv_goto (tgt := 80) hx hb dX10_refusesItem_72 (by decide) ?_
              have he := Option.some.inj h
              exact W.iret (v := 0) hx hb hr (fun t ht hW => ⟨⟨0, wX k a xLen xHits xUns xItems xLost xKind xSize xLet xRel xLim xOpen xMeas xSL xST xSD xSK xTal xKn xFT xFA xFE xOdds xPat xFind, rfl, ⟨(congrArg (fun z => z.1) he), (congrArg (fun z => wX k a xLen xHits xUns xItems xLost xKind xSize xLet xRel xLim xOpen xMeas xSL xST xSD xSK xTal xKn xFT xFA xFE xOdds xPat z.2) he)⟩, by rw [ht]; exact hP, va_K.moved hW.alike hK, hD⟩, hS.F ht⟩) hS.2.2 dX10_refusesItem_80
        · replace h := (if_neg c11).symm.trans h
          refine lv_aload_n hx hb dX10_refusesItem_48 rfl (lv_at hl 0 rfl) ?_
          refine lv_iconst (v := 3) hx hb dX10_refusesItem_49 (by decide) ?_
          obtain ⟨o14, eq15, h⟩ := bnd_some h
          refine kQiV (rest := []) (q0 := 0) ⟨hx, hb, hml, hown, hts⟩ (c_X10_found l D k a xLen xHits xUns xItems xLost xKind xSize xLet xRel xLim xOpen xMeas xSL xST xSD xSK xTal xKn xFT xFA xFE xOdds xPat xFind 3 eq15) (cwV 1 hts (gAV wm_133 wm_134 wm_135 wm_2 wm_136) rfl rfl rfl qd_X10_found ⟨Nat.le_of_ble_eq_true rfl, Nat.le_of_ble_eq_true rfl⟩) hK hP hD hS hA (rfl) rfl rfl hl.1 rfl (Nat.le_of_ble_eq_true rfl) dX10_refusesItem_50 ⟨Nat.zero_le _, Nat.zero_le _⟩ (fun H locs hP hD hS => ?_)
          have hP : va_P D vwCl (wX k a xLen xHits xUns xItems xLost xKind xSize xLet xRel xLim xOpen xMeas xSL xST xSD xSK xTal xKn xFT xFA xFE xOdds xPat o14.2) H := hP
          have hD : va_D A (wX k a xLen xHits xUns xItems xLost xKind xSize xLet xRel xLim xOpen xMeas xSL xST xSD xSK xTal xKn xFT xFA xFE xOdds xPat o14.2) := hD
          have he := Option.some.inj h
          exact W.iret (v := o14.1) hx hb hr (fun t ht hW => ⟨⟨o14.1, wX k a xLen xHits xUns xItems xLost xKind xSize xLet xRel xLim xOpen xMeas xSL xST xSD xSK xTal xKn xFT xFA xFE xOdds xPat o14.2, rfl, ⟨(congrArg (fun z => z.1) he), (congrArg (fun z => wX k a xLen xHits xUns xItems xLost xKind xSize xLet xRel xLim xOpen xMeas xSL xST xSD xSK xTal xKn xFT xFA xFE xOdds xPat z.2) he)⟩, by rw [ht]; exact hP, va_K.moved hW.alike hK, hD⟩, hS.F ht⟩) hS.2.2 dX10_refusesItem_53
      · replace h := (if_neg c10).symm.trans h
        refine lv_aload_n hx hb dX10_refusesItem_29 rfl (lv_at hl 0 rfl) ?_
        refine lv_iconst (v := 1) hx hb dX10_refusesItem_30 (by decide) ?_
        obtain ⟨o16, eq17, h⟩ := bnd_some h
        refine kQiV (rest := []) (q0 := 0) ⟨hx, hb, hml, hown, hts⟩ (c_X10_found l D k a xLen xHits xUns xItems xLost xKind xSize xLet xRel xLim xOpen xMeas xSL xST xSD xSK xTal xKn xFT xFA xFE xOdds xPat xFind 1 eq17) (cwV 1 hts (gAV wm_133 wm_134 wm_135 wm_2 wm_136) rfl rfl rfl qd_X10_found ⟨Nat.le_of_ble_eq_true rfl, Nat.le_of_ble_eq_true rfl⟩) hK hP hD hS hA (rfl) rfl rfl hl.1 rfl (Nat.le_of_ble_eq_true rfl) dX10_refusesItem_31 ⟨Nat.zero_le _, Nat.zero_le _⟩ (fun H locs hP hD hS => ?_)
        have hP : va_P D vwCl (wX k a xLen xHits xUns xItems xLost xKind xSize xLet xRel xLim xOpen xMeas xSL xST xSD xSK xTal xKn xFT xFA xFE xOdds xPat o16.2) H := hP
        have hD : va_D A (wX k a xLen xHits xUns xItems xLost xKind xSize xLet xRel xLim xOpen xMeas xSL xST xSD xSK xTal xKn xFT xFA xFE xOdds xPat o16.2) := hD
        have he := Option.some.inj h
        exact W.iret (v := o16.1) hx hb hr (fun t ht hW => ⟨⟨o16.1, wX k a xLen xHits xUns xItems xLost xKind xSize xLet xRel xLim xOpen xMeas xSL xST xSD xSK xTal xKn xFT xFA xFE xOdds xPat o16.2, rfl, ⟨(congrArg (fun z => z.1) he), (congrArg (fun z => wX k a xLen xHits xUns xItems xLost xKind xSize xLet xRel xLim xOpen xMeas xSL xST xSD xSK xTal xKn xFT xFA xFE xOdds xPat z.2) he)⟩, by rw [ht]; exact hP, va_K.moved hW.alike hK, hD⟩, hS.F ht⟩) hS.2.2 dX10_refusesItem_34
    · replace h := (if_pos c8).symm.trans h
      refine lv_bipush (v := (-2)) hx hb dX10_refusesItem_14 (by decide) ?_
      have he := Option.some.inj h
      exact W.iret (v := (-2)) hx hb hr (fun t ht hW => ⟨⟨(-2), wX k a xLen xHits xUns xItems xLost xKind xSize xLet xRel xLim xOpen xMeas xSL xST xSD xSK xTal xKn xFT xFA xFE xOdds xPat xFind, rfl, ⟨(congrArg (fun z => z.1) he), (congrArg (fun z => wX k a xLen xHits xUns xItems xLost xKind xSize xLet xRel xLim xOpen xMeas xSL xST xSD xSK xTal xKn xFT xFA xFE xOdds xPat z.2) he)⟩, by rw [ht]; exact hP, va_K.moved hW.alike hK, hD⟩, hS.F ht⟩) hS.2.2 dX10_refusesItem_16
set_option maxHeartbeats 4000000 in
set_option maxRecDepth 100000 in
theorem c_X10_refusesItem (l : Launch) (D : va_G) (k : Nat → ClassId) (a : Nat → Nat) (xLen : Nat → Int32) (xHits : Nat → Int32) (xUns : Nat → Int32) (xItems : Nat → Nat → Int32) (xLost : Nat → Int32) (xKind : Nat → Int32) (xSize : Nat → Int32) (xLet : Nat → Int32) (xRel : Nat → Int32) (xLim : Nat → Int32) (xOpen : Nat → Int32) (xMeas : Nat → Int32) (xSL : Int32) (xST : Int32) (xSD : Int32) (xSK : Int32) (xTal : Nat → Nat → Int32) (xKn : Nat → Int32) (xFT : Nat → Int32) (xFA : Int32) (xFE : Int32) (xOdds : Int32) (xPat : Int32) (xFind : Int32) (x1 : Int32) (x2 : Int32) (x3 : Int32) {o : Int32 × (Int32)} (h : f_X10_refusesItem x1 x2 x3 xLost xKind xSize xFind = some o) : mQi l yX10_refusesItem wo_X10_refusesItem 1 D k [.ref (a 0), .int x1, .int x2, .int x3] (wX k a xLen xHits xUns xItems xLost xKind xSize xLet xRel xLim xOpen xMeas xSL xST xSD xSK xTal xKn xFT xFA xFE xOdds xPat xFind) o.1 (wX k a xLen xHits xUns xItems xLost xKind xSize xLet xRel xLim xOpen xMeas xSL xST xSD xSK xTal xKn xFT xFA xFE xOdds xPat o.2) := by
  intro sz
  refine Met.ofW (cc := cX10_refusesItem) (maxL := 4) (ret := some .int) (by decide) rfl ?_
  intro p e s m args below meth c s₁ B hml hv
  obtain ⟨rfl, hsz, hP, hK, hD0⟩ := hv
  subst hsz
  rw [lg_entry_eq]
  exact core_X10_refusesItem D k a xLen xHits xUns xItems xLost xKind xSize xLet xRel xLim xOpen xMeas xSL xST xSD xSK xTal xKn xFT xFA xFE xOdds xPat xFind x1 x2 x3 B.exec B.bytes hml B.returns (atoms_spec (ws := wo_X10_refusesItem) B.pre) (findClass_of_methodNamed B.named) B.notSynchronized (lv_entry [.ref (a 0), .int x1, .int x2, .int x3] (n := 4) (Nat.le_of_ble_eq_true rfl)) hK hP hD0.self (fun q h => Or.inr h) h
theorem qd_X10_refusesItem : yX10_refusesItem.cls = RX10 ∧ yX10_refusesItem.cls ≠ "java/lang/invoke/MethodHandle" ∧ yX10_refusesItem.cls ≠ "java/lang/invoke/VarHandle" ∧ (parseMethodDescriptor yX10_refusesItem.desc).map (fun d => d.parameters.length) = some 3 := by decide +kernel
abbrev wo_X10_wholeRows : List Cond := .code yX10_wholeRows cX10_wholeRows 3 (some .int) :: wsL_law
set_option maxHeartbeats 4000000 in
set_option maxRecDepth 100000 in
theorem core_X10_wholeRows {N : Nat} (D : va_G) (k : Nat → ClassId) (a : Nat → Nat) (xLen : Nat → Int32) (xHits : Nat → Int32) (xUns : Nat → Int32) (xItems : Nat → Nat → Int32) (xLost : Nat → Int32) (xKind : Nat → Int32) (xSize : Nat → Int32) (xLet : Nat → Int32) (xRel : Nat → Int32) (xLim : Nat → Int32) (xOpen : Nat → Int32) (xMeas : Nat → Int32) (xSL : Int32) (xST : Int32) (xSD : Int32) (xSK : Int32) (xTal : Nat → Nat → Int32) (xKn : Nat → Int32) (xFT : Nat → Int32) (xFA : Int32) (xFE : Int32) (xOdds : Int32) (xPat : Int32) (xFind : Int32)  {p : Program} {l : Launch} {e : Env} {s : State} {m : MethodId} {args : Array Value} {below : List Frame} {meth : Method} {c : Code} {ls : Array Slot} (hx : p.tables.exec = Jvm.exec) (hb : c.code = cX10_wholeRows) (hml : c.maxLocals = 3) (hr : meth.sig.returnType = some .int) (hts : ∀ w ∈ wo_X10_wholeRows, w.before args s = true) (hown : s.vm.findClass RX10 = some m.cls) (hlocks : meth.locks = false) (hl : lv_has ls 3 [(0, .ref (a 0))]) (hK : va_K D vwCl (xTys k) s) (hP : va_P D vwCl (wX k a xLen xHits xUns xItems xLost xKind xSize xLet xRel xLim xOpen xMeas xSL xST xSD xSK xTal xKn xFT xFA xFE xOdds xPat xFind) s.heap) {o : Int32} (h : f_X10_wholeRows N xUns = some o) : gRi p l e wo_X10_wholeRows 1 s m args below meth c o (F0 m 0 ls []) := by
  have hi10 := (fun w h => List.mem_cons_of_mem _ (inlX10 w h) : ∀ w ∈ wsX100, w ∈ wo_X10_wholeRows)
  have kf11 := hts _ (List.mem_cons_of_mem _ wm_13)
  unfold f_X10_wholeRows at h
  have L4 : ∀ (n4 : Nat) (x1 : Int32) (x2 : Int32) (ls : Array Slot) (hl : lv_has ls 3 [(0, .ref (a 0)), (1, .int x1), (2, .int x2)]) (h : f_X10_wholeRows_4 N n4 x1 x2 xUns = some o), gRi p l e wo_X10_wholeRows 1 s m args below meth c o (F0 m 4 ls []) := by
    intro n4
    induction n4 with
    | zero => intro x1 x2 ls hl h; cases (show (none : Option (Int32)) = some o from h)
    | succ n4 ih4 =>
      have J27 : ∀ (x1 : Int32) (x2 : Int32) (ls : Array Slot) (hl : lv_has ls 3 [(0, .ref (a 0)), (1, .int x1), (2, .int x2)]) (h : f_X10_wholeRows_27 N (fun y0 y1 y2 => f_X10_wholeRows_4 N n4 y0 y1 y2) x1 x2 xUns = some o), gRi p l e wo_X10_wholeRows 1 s m args below meth c o (F0 m 27 ls []) := by
        intro x1 x2 ls hl h
        unfold f_X10_wholeRows_27 at h
        refine lv_iinc (v := (x2 + 1)) (lv' := [(2, .int (x2 + 1)), (0, .ref (a 0)), (1, .int x1)]) hx hb dX10_wholeRows_27 hl (k := 2) rfl rfl (by decide) rfl (fun ls hl => ?_)
        refine lv_goto (tgt := 4) hx hb dX10_wholeRows_30 (by decide) ?_
        exact ih4 x1 (x2 + 1) ls (lv_sub hl [1, 2, 0] rfl) h
      intro x1 x2 ls hl h
      rw [f_X10_wholeRows_4] at h
      refine lv_iload_n hx hb dX10_wholeRows_4 rfl (lv_at hl 2 rfl) ?_
      refine lv_iconst (v := 4) hx hb dX10_wholeRows_5 (by decide) ?_
      refine lv_icmp_ge (tgt := 33) hx hb dX10_wholeRows_6 (by decide) (fun c1 => ?_) (fun c1 => ?_)
      · replace h := (if_pos c1).symm.trans h
        refine lv_iload_n hx hb dX10_wholeRows_33 rfl (lv_at hl 1 rfl) ?_
        exact W.iret (v := x1) hx hb hr (fun t ht hW => ⟨_, rfl, Option.some.inj h, ht⟩) (fun q hq => by cases hq) dX10_wholeRows_34
      · replace h := (if_neg c1).symm.trans h
        refine lv_aload_n hx hb dX10_wholeRows_9 rfl (lv_at hl 0 rfl) ?_
        refine va_get (D := D) (ci := 5) (v := .ref (a 1)) (C := RX10) (T := TX10) (N := 8) hx hb hts hi10 hown hK hP (0) (rfl) rfl 0 (by decide) kf11 (fun _ h9 => h9) rfl dX10_wholeRows_10 ?_
        refine lv_iload_n hx hb dX10_wholeRows_13 rfl (lv_at hl 2 rfl) ?_
        obtain ⟨g2, h⟩ := gIn_some h
        refine va_aldq hx hb hK hP (1) 2 rfl rfl g2 dX10_wholeRows_14 ?_
        refine W.eq (g2 := F0 m 15 ls [.ref (a (14 + x2.toNatClampNeg))]) rfl ?_
        obtain ⟨o3, eq4, h⟩ := bnd_some h
        refine kRiV (rest := []) (q0 := (14 + x2.toNatClampNeg)) ⟨hx, hb, hml, hown, hts⟩ (c_X5_isWhole l D k a xLen xHits xUns xItems xLost xKind xSize xLet xRel xLim xOpen xMeas xSL xST xSD xSK xTal xKn xFT xFA xFE xOdds xPat xFind x2.toNatClampNeg (vp_in_lt g2) eq4) (cwV 0 hts (gAV wm_192 wm_193 wm_194 wm_15 wm_195) rfl rfl rfl qd_X5_isWhole ⟨Nat.le_of_ble_eq_true rfl, Nat.le_of_ble_eq_true rfl⟩) hK hP (wX_row (vp_in_lt g2)) rfl rfl hl.1 rfl (Nat.le_of_ble_eq_true rfl) dX10_wholeRows_15 ⟨Nat.zero_le _, Nat.zero_le _⟩ ?_
        refine lv_if_eq (tgt := 27) hx hb dX10_wholeRows_18 (by decide) (fun c5 => ?_) (fun c5 => ?_)
        · replace h := (if_pos c5).symm.trans h
          exact J27 x1 x2 ls (lv_sub hl [0, 1, 2] rfl) h
        · replace h := (if_neg c5).symm.trans h
          refine lv_iload_n hx hb dX10_wholeRows_21 rfl (lv_at hl 1 rfl) ?_
          refine lv_iconst (v := 1) hx hb dX10_wholeRows_22 (by decide) ?_
          refine lv_iload_n hx hb dX10_wholeRows_23 rfl (lv_at hl 2 rfl) ?_
          refine lv_ishl hx hb dX10_wholeRows_24 ?_
          refine lv_ior hx hb dX10_wholeRows_25 ?_
          refine lv_istore_n (lv' := [(1, .int (x1 ||| ((1 : Int32) <<< (x2 &&& 31)))), (0, .ref (a 0)), (2, .int x2)]) hx hb dX10_wholeRows_26 rfl hl (by decide) rfl (fun ls hl => ?_)
          exact J27 (x1 ||| ((1 : Int32) <<< (x2 &&& 31))) x2 ls (lv_sub hl [1, 0, 2] rfl) h
  refine lv_iconst (v := 0) hx hb dX10_wholeRows_0 (by decide) ?_
  refine lv_istore_n (lv' := [(1, .int 0), (0, .ref (a 0))]) hx hb dX10_wholeRows_1 rfl hl (by decide) rfl (fun ls hl => ?_)
  refine lv_iconst (v := 0) hx hb dX10_wholeRows_2 (by decide) ?_
  refine lv_istore_n (lv' := [(2, .int 0), (1, .int 0), (0, .ref (a 0))]) hx hb dX10_wholeRows_3 rfl hl (by decide) rfl (fun ls hl => ?_)
  exact L4 N 0 0 ls (lv_sub hl [2, 1, 0] rfl) h
set_option maxHeartbeats 4000000 in
set_option maxRecDepth 100000 in
theorem c_X10_wholeRows {N : Nat} (l : Launch) (D : va_G) (k : Nat → ClassId) (a : Nat → Nat) (xLen : Nat → Int32) (xHits : Nat → Int32) (xUns : Nat → Int32) (xItems : Nat → Nat → Int32) (xLost : Nat → Int32) (xKind : Nat → Int32) (xSize : Nat → Int32) (xLet : Nat → Int32) (xRel : Nat → Int32) (xLim : Nat → Int32) (xOpen : Nat → Int32) (xMeas : Nat → Int32) (xSL : Int32) (xST : Int32) (xSD : Int32) (xSK : Int32) (xTal : Nat → Nat → Int32) (xKn : Nat → Int32) (xFT : Nat → Int32) (xFA : Int32) (xFE : Int32) (xOdds : Int32) (xPat : Int32) (xFind : Int32)  {o : Int32} (h : f_X10_wholeRows N xUns = some o) : mRi l yX10_wholeRows wo_X10_wholeRows 1 D k [.ref (a 0)] (wX k a xLen xHits xUns xItems xLost xKind xSize xLet xRel xLim xOpen xMeas xSL xST xSD xSK xTal xKn xFT xFA xFE xOdds xPat xFind) o := by
  refine Met.ofW (cc := cX10_wholeRows) (maxL := 3) (ret := some .int) (by decide) rfl ?_
  intro p e s m args below meth c s₁ B hml hv
  obtain ⟨rfl, hP, hK⟩ := hv
  rw [lg_entry_eq]
  exact core_X10_wholeRows D k a xLen xHits xUns xItems xLost xKind xSize xLet xRel xLim xOpen xMeas xSL xST xSD xSK xTal xKn xFT xFA xFE xOdds xPat xFind  B.exec B.bytes hml B.returns (atoms_spec (ws := wo_X10_wholeRows) B.pre) (findClass_of_methodNamed B.named) B.notSynchronized (lv_entry [.ref (a 0)] (n := 3) (Nat.le_of_ble_eq_true rfl)) hK hP h
theorem qd_X10_wholeRows : yX10_wholeRows.cls = RX10 ∧ yX10_wholeRows.cls ≠ "java/lang/invoke/MethodHandle" ∧ yX10_wholeRows.cls ≠ "java/lang/invoke/VarHandle" ∧ (parseMethodDescriptor yX10_wholeRows.desc).map (fun d => d.parameters.length) = some 0 := by decide +kernel
abbrev wo_X10_sign : List Cond := .code yX10_sign cX10_sign 4 (some .int) :: wsL_law
set_option maxHeartbeats 4000000 in
set_option maxRecDepth 100000 in
theorem core_X10_sign (D : va_G) (k : Nat → ClassId) (a : Nat → Nat) (xLen : Nat → Int32) (xHits : Nat → Int32) (xUns : Nat → Int32) (xItems : Nat → Nat → Int32) (xLost : Nat → Int32) (xKind : Nat → Int32) (xSize : Nat → Int32) (xLet : Nat → Int32) (xRel : Nat → Int32) (xLim : Nat → Int32) (xOpen : Nat → Int32) (xMeas : Nat → Int32) (xSL : Int32) (xST : Int32) (xSD : Int32) (xSK : Int32) (xTal : Nat → Nat → Int32) (xKn : Nat → Int32) (xFT : Nat → Int32) (xFA : Int32) (xFE : Int32) (xOdds : Int32) (xPat : Int32) (xFind : Int32) (x1 : Int32) (x2 : Int32) {p : Program} {l : Launch} {e : Env} {s : State} {m : MethodId} {args : Array Value} {below : List Frame} {meth : Method} {c : Code} {ls : Array Slot} (hx : p.tables.exec = Jvm.exec) (hb : c.code = cX10_sign) (hml : c.maxLocals = 4) (hr : meth.sig.returnType = some .int) (hts : ∀ w ∈ wo_X10_sign, w.before args s = true) (hown : s.vm.findClass RX10 = some m.cls) (hlocks : meth.locks = false) (hl : lv_has ls 4 [(0, .ref (a 0)), (1, .int x1), (2, .int x2)]) (hK : va_K D vwCl (xTys k) s) (hP : va_P D vwCl (wX k a xLen xHits xUns xItems xLost xKind xSize xLet xRel xLim xOpen xMeas xSL xST xSD xSK xTal xKn xFT xFA xFE xOdds xPat xFind) s.heap) {A : Nat → Prop} (hD : va_D A (wX k a xLen xHits xUns xItems xLost xKind xSize xLet xRel xLim xOpen xMeas xSL xST xSD xSK xTal xKn xFT xFA xFE xOdds xPat xFind)) (hA : ∀ q : Nat, s.heap.size ≤ q → A q) {o : Int32 × (Nat → Int32) × (Nat → Int32) × (Nat → Int32)} (h : f_X10_sign x1 x2 xLen xHits xUns = some o) : gQi p l e wo_X10_sign 1 s m args below meth c D k A o.1 (wX k a o.2.1 o.2.2.1 o.2.2.2 xItems xLost xKind xSize xLet xRel xLim xOpen xMeas xSL xST xSD xSK xTal xKn xFT xFA xFE xOdds xPat xFind) s.heap [] (F0 m 0 ls []) := by
  have hi10 := (fun w h => List.mem_cons_of_mem _ (inlX10 w h) : ∀ w ∈ wsX100, w ∈ wo_X10_sign)
  have kf11 := hts _ (List.mem_cons_of_mem _ wm_13)
  have hi5 := (fun w h => List.mem_cons_of_mem _ (inlX5 w h) : ∀ w ∈ wsX50, w ∈ wo_X10_sign)
  have kf69 := hts _ (List.mem_cons_of_mem _ wm_91)
  unfold f_X10_sign at h
  have hS : va_S A s.heap s.heap [] := va_S.rf
  obtain ⟨H, hH⟩ : ∃ H : Heap, H = s.heap := ⟨_, rfl⟩
  obtain ⟨locs, hlc⟩ : ∃ locs : List Loc, locs = [] := ⟨_, rfl⟩
  have hS : va_S A s.heap H locs := by rw [hH, hlc]; exact va_S.rf
  have hP : va_P D vwCl (wX k a xLen xHits xUns xItems xLost xKind xSize xLet xRel xLim xOpen xMeas xSL xST xSD xSK xTal xKn xFT xFA xFE xOdds xPat xFind) H := by rw [hH]; exact hP
  suffices hGo : gQi p l e wo_X10_sign 1 s m args below meth c D k A o.1 (wX k a o.2.1 o.2.2.1 o.2.2.2 xItems xLost xKind xSize xLet xRel xLim xOpen xMeas xSL xST xSD xSK xTal xKn xFT xFA xFE xOdds xPat xFind) H locs (F0 m 0 ls []) by rw [hH, hlc] at hGo; exact hGo
  refine lv_iload_n hx hb dX10_sign_0 rfl (lv_at hl 1 rfl) ?_
  obtain ⟨o1, eq2, h⟩ := bnd_some h
  refine kPi (rest := []) ⟨hx, hb, hml, hown, hts⟩ (c_X10_isRow l x1 eq2) (va_cwS 1 hts (gAS wm_92 wm_93 wm_2 wm_94) rfl rfl rfl qd_X10_isRow ⟨Nat.le_of_ble_eq_true rfl, Nat.le_of_ble_eq_true rfl⟩) rfl hl.1 rfl (Nat.le_of_ble_eq_true rfl) dX10_sign_1 ⟨Nat.zero_le _, Nat.zero_le _⟩ ?_
  refine lv_if_eq (tgt := 14) hx hb dX10_sign_4 (by decide) (fun c3 => ?_) (fun c3 => ?_)
  · replace h := (if_pos c3).symm.trans h
    refine lv_bipush (v := (-2)) hx hb dX10_sign_14 (by decide) ?_
    have he := Option.some.inj h
    exact W.iret (v := (-2)) hx hb hr (fun t ht hW => ⟨⟨(-2), wX k a xLen xHits xUns xItems xLost xKind xSize xLet xRel xLim xOpen xMeas xSL xST xSD xSK xTal xKn xFT xFA xFE xOdds xPat xFind, rfl, ⟨(congrArg (fun z => z.1) he), (congrArg (fun z => wX k a z.2.1 z.2.2.1 z.2.2.2 xItems xLost xKind xSize xLet xRel xLim xOpen xMeas xSL xST xSD xSK xTal xKn xFT xFA xFE xOdds xPat xFind) he)⟩, by rw [ht]; exact hP, va_K.moved hW.alike hK, hD⟩, hS.F ht⟩) hS.2.2 dX10_sign_16
  · replace h := (if_neg c3).symm.trans h
    refine lv_iload_n hx hb dX10_sign_7 rfl (lv_at hl 2 rfl) ?_
    obtain ⟨o4, eq5, h⟩ := bnd_some h
    refine kPi (rest := []) ⟨hx, hb, hml, hown, hts⟩ (c_X5_maySee l x2 eq5) (va_cwS 1 hts (gAS wm_95 wm_96 wm_15 wm_97) rfl rfl rfl qd_X5_maySee ⟨Nat.le_of_ble_eq_true rfl, Nat.le_of_ble_eq_true rfl⟩) rfl hl.1 rfl (Nat.le_of_ble_eq_true rfl) dX10_sign_8 ⟨Nat.zero_le _, Nat.zero_le _⟩ ?_
    refine lv_if_ne (tgt := 17) hx hb dX10_sign_11 (by decide) (fun c6 => ?_) (fun c6 => ?_)
    · replace h := (if_neg c6).symm.trans h
      refine lv_aload_n hx hb dX10_sign_17 rfl (lv_at hl 0 rfl) ?_
      refine va_get (D := D) (ci := 5) (v := .ref (a 1)) (C := RX10) (T := TX10) (N := 8) hx hb hts hi10 hown hK hP (0) (rfl) rfl 0 (by decide) kf11 (fun _ h9 => h9) rfl dX10_sign_18 ?_
      refine lv_iload_n hx hb dX10_sign_21 rfl (lv_at hl 1 rfl) ?_
      obtain ⟨g7, h⟩ := gIn_some h
      refine va_aldq hx hb hK hP (1) 2 rfl rfl g7 dX10_sign_22 ?_
      refine W.eq (g2 := F0 m 23 ls [.ref (a (14 + x1.toNatClampNeg))]) rfl ?_
      refine lv_astore_n (lv' := [(3, .ref (a (14 + x1.toNatClampNeg))), (0, .ref (a 0)), (1, .int x1), (2, .int x2)]) hx hb dX10_sign_23 rfl hl (by decide) rfl (fun ls hl => ?_)
      refine lv_aload_n hx hb dX10_sign_24 rfl (lv_at hl 0 rfl) ?_
      obtain ⟨o8, eq9, h⟩ := bnd_some h
      refine kRiV (rest := []) (q0 := (14 + x1.toNatClampNeg)) ⟨hx, hb, hml, hown, hts⟩ (c_X5_isFull l D k a xLen xHits xUns xItems xLost xKind xSize xLet xRel xLim xOpen xMeas xSL xST xSD xSK xTal xKn xFT xFA xFE xOdds xPat xFind x1.toNatClampNeg (vp_in_lt g7) eq9) (cwV 0 hts (gAV wm_98 wm_99 wm_100 wm_15 wm_101) rfl rfl rfl qd_X5_isFull ⟨Nat.le_of_ble_eq_true rfl, Nat.le_of_ble_eq_true rfl⟩) hK hP (wX_row (vp_in_lt g7)) rfl rfl hl.1 rfl (Nat.le_of_ble_eq_true rfl) dX10_sign_25 ⟨Nat.zero_le _, Nat.zero_le _⟩ ?_
      refine lv_if_eq (tgt := 34) hx hb dX10_sign_28 (by decide) (fun c10 => ?_) (fun c10 => ?_)
      · replace h := (if_pos c10).symm.trans h
        refine lv_aload_n hx hb dX10_sign_34 rfl (lv_at hl 0 rfl) ?_
        refine lv_iload_n hx hb dX10_sign_35 rfl (lv_at hl 3 rfl) ?_
        obtain ⟨o11, eq12, h⟩ := bnd_some h
        refine kQvV (rest := []) (q0 := (14 + x1.toNatClampNeg)) ⟨hx, hb, hml, hown, hts⟩ (c_X5_append l D k a xLen xHits xUns xItems xLost xKind xSize xLet xRel xLim xOpen xMeas xSL xST xSD xSK xTal xKn xFT xFA xFE xOdds xPat xFind x1.toNatClampNeg (vp_in_lt g7) x2 eq12) (cwV 1 hts (gAV wm_103 wm_104 wm_105 wm_15 wm_106) rfl rfl rfl qd_X5_append ⟨Nat.le_of_ble_eq_true rfl, Nat.le_of_ble_eq_true rfl⟩) hK hP hD hS hA (wX_row (vp_in_lt g7)) rfl rfl hl.1 rfl (Nat.le_of_ble_eq_true rfl) dX10_sign_36 ⟨Nat.zero_le _, Nat.zero_le _⟩ (fun H locs hP hD hS => ?_)
        have hP : va_P D vwCl (wX k a o11.1 o11.2.1 o11.2.2 xItems xLost xKind xSize xLet xRel xLim xOpen xMeas xSL xST xSD xSK xTal xKn xFT xFA xFE xOdds xPat xFind) H := hP
        have hD : va_D A (wX k a o11.1 o11.2.1 o11.2.2 xItems xLost xKind xSize xLet xRel xLim xOpen xMeas xSL xST xSD xSK xTal xKn xFT xFA xFE xOdds xPat xFind) := hD
        refine lv_aload_n hx hb dX10_sign_39 rfl (lv_at hl 0 rfl) ?_
        refine va_get (D := D) (ci := 1) (v := .int (o11.1 x1.toNatClampNeg)) (C := RX5) (T := TX5) (N := 3) hx hb hts hi5 hown hK hP ((14 + x1.toNatClampNeg)) (wX_row (vp_in_lt g7)) rfl 0 (by decide) kf69 (fun _ h9 => h9) rfl dX10_sign_40 ?_
        have he := Option.some.inj h
        exact W.iret (v := (o11.1 x1.toNatClampNeg)) hx hb hr (fun t ht hW => ⟨⟨(o11.1 x1.toNatClampNeg), wX k a o11.1 o11.2.1 o11.2.2 xItems xLost xKind xSize xLet xRel xLim xOpen xMeas xSL xST xSD xSK xTal xKn xFT xFA xFE xOdds xPat xFind, rfl, ⟨(congrArg (fun z => z.1) he), (congrArg (fun z => wX k a z.2.1 z.2.2.1 z.2.2.2 xItems xLost xKind xSize xLet xRel xLim xOpen xMeas xSL xST xSD xSK xTal xKn xFT xFA xFE xOdds xPat xFind) he)⟩, by rw [ht]; exact hP, va_K.moved hW.alike hK, hD⟩, hS.F ht⟩) hS.2.2 dX10_sign_43
      · replace h := (if_neg c10).symm.trans h
        refine lv_bipush (v := (-4)) hx hb dX10_sign_31 (by decide) ?_
        have he := Option.some.inj h
        exact W.iret (v := (-4)) hx hb hr (fun t ht hW => ⟨⟨(-4), wX k a xLen xHits xUns xItems xLost xKind xSize xLet xRel xLim xOpen xMeas xSL xST xSD xSK xTal xKn xFT xFA xFE xOdds xPat xFind, rfl, ⟨(congrArg (fun z => z.1) he), (congrArg (fun z => wX k a z.2.1 z.2.2.1 z.2.2.2 xItems xLost xKind xSize xLet xRel xLim xOpen xMeas xSL xST xSD xSK xTal xKn xFT xFA xFE xOdds xPat xFind) he)⟩, by rw [ht]; exact hP, va_K.moved hW.alike hK, hD⟩, hS.F ht⟩) hS.2.2 dX10_sign_33
    · replace h := (if_pos c6).symm.trans h
      refine lv_bipush (v := (-2)) hx hb dX10_sign_14 (by decide) ?_
      have he := Option.some.inj h
      exact W.iret (v := (-2)) hx hb hr (fun t ht hW => ⟨⟨(-2), wX k a xLen xHits xUns xItems xLost xKind xSize xLet xRel xLim xOpen xMeas xSL xST xSD xSK xTal xKn xFT xFA xFE xOdds xPat xFind, rfl, ⟨(congrArg (fun z => z.1) he), (congrArg (fun z => wX k a z.2.1 z.2.2.1 z.2.2.2 xItems xLost xKind xSize xLet xRel xLim xOpen xMeas xSL xST xSD xSK xTal xKn xFT xFA xFE xOdds xPat xFind) he)⟩, by rw [ht]; exact hP, va_K.moved hW.alike hK, hD⟩, hS.F ht⟩) hS.2.2 dX10_sign_16
set_option maxHeartbeats 4000000 in
set_option maxRecDepth 100000 in
theorem c_X10_sign (l : Launch) (D : va_G) (k : Nat → ClassId) (a : Nat → Nat) (xLen : Nat → Int32) (xHits : Nat → Int32) (xUns : Nat → Int32) (xItems : Nat → Nat → Int32) (xLost : Nat → Int32) (xKind : Nat → Int32) (xSize : Nat → Int32) (xLet : Nat → Int32) (xRel : Nat → Int32) (xLim : Nat → Int32) (xOpen : Nat → Int32) (xMeas : Nat → Int32) (xSL : Int32) (xST : Int32) (xSD : Int32) (xSK : Int32) (xTal : Nat → Nat → Int32) (xKn : Nat → Int32) (xFT : Nat → Int32) (xFA : Int32) (xFE : Int32) (xOdds : Int32) (xPat : Int32) (xFind : Int32) (x1 : Int32) (x2 : Int32) {o : Int32 × (Nat → Int32) × (Nat → Int32) × (Nat → Int32)} (h : f_X10_sign x1 x2 xLen xHits xUns = some o) : mQi l yX10_sign wo_X10_sign 1 D k [.ref (a 0), .int x1, .int x2] (wX k a xLen xHits xUns xItems xLost xKind xSize xLet xRel xLim xOpen xMeas xSL xST xSD xSK xTal xKn xFT xFA xFE xOdds xPat xFind) o.1 (wX k a o.2.1 o.2.2.1 o.2.2.2 xItems xLost xKind xSize xLet xRel xLim xOpen xMeas xSL xST xSD xSK xTal xKn xFT xFA xFE xOdds xPat xFind) := by
  intro sz
  refine Met.ofW (cc := cX10_sign) (maxL := 4) (ret := some .int) (by decide) rfl ?_
  intro p e s m args below meth c s₁ B hml hv
  obtain ⟨rfl, hsz, hP, hK, hD0⟩ := hv
  subst hsz
  rw [lg_entry_eq]
  exact core_X10_sign D k a xLen xHits xUns xItems xLost xKind xSize xLet xRel xLim xOpen xMeas xSL xST xSD xSK xTal xKn xFT xFA xFE xOdds xPat xFind x1 x2 B.exec B.bytes hml B.returns (atoms_spec (ws := wo_X10_sign) B.pre) (findClass_of_methodNamed B.named) B.notSynchronized (lv_entry [.ref (a 0), .int x1, .int x2] (n := 4) (Nat.le_of_ble_eq_true rfl)) hK hP hD0.self (fun q h => Or.inr h) h
theorem qd_X10_sign : yX10_sign.cls = RX10 ∧ yX10_sign.cls ≠ "java/lang/invoke/MethodHandle" ∧ yX10_sign.cls ≠ "java/lang/invoke/VarHandle" ∧ (parseMethodDescriptor yX10_sign.desc).map (fun d => d.parameters.length) = some 2 := by decide +kernel
abbrev wo_X10_read : List Cond := .code yX10_read cX10_read 6 (some .int) :: wsL_law
set_option maxHeartbeats 4000000 in
set_option maxRecDepth 100000 in
theorem core_X10_read {N : Nat} (D : va_G) (k : Nat → ClassId) (a : Nat → Nat) (xLen : Nat → Int32) (xHits : Nat → Int32) (xUns : Nat → Int32) (xItems : Nat → Nat → Int32) (xLost : Nat → Int32) (xKind : Nat → Int32) (xSize : Nat → Int32) (xLet : Nat → Int32) (xRel : Nat → Int32) (xLim : Nat → Int32) (xOpen : Nat → Int32) (xMeas : Nat → Int32) (xSL : Int32) (xST : Int32) (xSD : Int32) (xSK : Int32) (xTal : Nat → Nat → Int32) (xKn : Nat → Int32) (xFT : Nat → Int32) (xFA : Int32) (xFE : Int32) (xOdds : Int32) (xPat : Int32) (xFind : Int32) (x1 : Int32) (x2 : Int32) {p : Program} {l : Launch} {e : Env} {s : State} {m : MethodId} {args : Array Value} {below : List Frame} {meth : Method} {c : Code} {ls : Array Slot} (hx : p.tables.exec = Jvm.exec) (hb : c.code = cX10_read) (hml : c.maxLocals = 6) (hr : meth.sig.returnType = some .int) (hts : ∀ w ∈ wo_X10_read, w.before args s = true) (hown : s.vm.findClass RX10 = some m.cls) (hlocks : meth.locks = false) (hl : lv_has ls 6 [(0, .ref (a 0)), (1, .int x1), (2, .int x2)]) (hK : va_K D vwCl (xTys k) s) (hP : va_P D vwCl (wX k a xLen xHits xUns xItems xLost xKind xSize xLet xRel xLim xOpen xMeas xSL xST xSD xSK xTal xKn xFT xFA xFE xOdds xPat xFind) s.heap) {A : Nat → Prop} (hD : va_D A (wX k a xLen xHits xUns xItems xLost xKind xSize xLet xRel xLim xOpen xMeas xSL xST xSD xSK xTal xKn xFT xFA xFE xOdds xPat xFind)) (hA : ∀ q : Nat, s.heap.size ≤ q → A q) {o : Int32 × (Nat → Int32) × (Nat → Int32) × (Nat → Int32) × (Int32)} (h : f_X10_read N x1 x2 xLen xHits xUns xItems xLost xSize xFind = some o) : gQi p l e wo_X10_read 1 s m args below meth c D k A o.1 (wX k a o.2.1 o.2.2.1 o.2.2.2.1 xItems xLost xKind xSize xLet xRel xLim xOpen xMeas xSL xST xSD xSK xTal xKn xFT xFA xFE xOdds xPat o.2.2.2.2) s.heap [] (F0 m 0 ls []) := by
  have hi7 := (fun w h => List.mem_cons_of_mem _ (inlX7 w h) : ∀ w ∈ wsX70, w ∈ wo_X10_read)
  have kf83 := hts _ (List.mem_cons_of_mem _ wm_128)
  have kf86 := hts _ (List.mem_cons_of_mem _ wm_129)
  have hi10 := (fun w h => List.mem_cons_of_mem _ (inlX10 w h) : ∀ w ∈ wsX100, w ∈ wo_X10_read)
  have kf18 := hts _ (List.mem_cons_of_mem _ wm_17)
  have kf75 := hts _ (List.mem_cons_of_mem _ wm_127)
  have kf11 := hts _ (List.mem_cons_of_mem _ wm_13)
  unfold f_X10_read at h
  have hS : va_S A s.heap s.heap [] := va_S.rf
  have J96 : ∀ (x5 : Int32) (xLen : Nat → Int32) (xHits : Nat → Int32) (xUns : Nat → Int32) (xFind : Int32) (ls : Array Slot) (H : Heap) (locs : List Loc) (hl : lv_has ls 6 [(5, .int x5)]) (hP : va_P D vwCl (wX k a xLen xHits xUns xItems xLost xKind xSize xLet xRel xLim xOpen xMeas xSL xST xSD xSK xTal xKn xFT xFA xFE xOdds xPat xFind) H) (hD : va_D A (wX k a xLen xHits xUns xItems xLost xKind xSize xLet xRel xLim xOpen xMeas xSL xST xSD xSK xTal xKn xFT xFA xFE xOdds xPat xFind)) (hS : va_S A s.heap H locs) (h : f_X10_read_96 N x5 xLen xHits xUns xItems xLost xSize xFind = some o), gQi p l e wo_X10_read 1 s m args below meth c D k A o.1 (wX k a o.2.1 o.2.2.1 o.2.2.2.1 xItems xLost xKind xSize xLet xRel xLim xOpen xMeas xSL xST xSD xSK xTal xKn xFT xFA xFE xOdds xPat o.2.2.2.2) H locs (F0 m 96 ls []) := by
    intro x5 xLen xHits xUns xFind ls H locs hl hP hD hS h
    unfold f_X10_read_96 at h
    refine lv_iload hx hb dX10_read_96 (lv_at hl 0 rfl) ?_
    have he := Option.some.inj h
    exact W.iret (v := x5) hx hb hr (fun t ht hW => ⟨⟨x5, wX k a xLen xHits xUns xItems xLost xKind xSize xLet xRel xLim xOpen xMeas xSL xST xSD xSK xTal xKn xFT xFA xFE xOdds xPat xFind, rfl, ⟨(congrArg (fun z => z.1) he), (congrArg (fun z => wX k a z.2.1 z.2.2.1 z.2.2.2.1 xItems xLost xKind xSize xLet xRel xLim xOpen xMeas xSL xST xSD xSK xTal xKn xFT xFA xFE xOdds xPat z.2.2.2.2) he)⟩, by rw [ht]; exact hP, va_K.moved hW.alike hK, hD⟩, hS.F ht⟩) hS.2.2 dX10_read_98
  have L48 : ∀ (n48 : Nat) (e3 : Nat) (e4 : Nat) (x5 : Int32) (xLen : Nat → Int32) (xHits : Nat → Int32) (xUns : Nat → Int32) (xFind : Int32) (ls : Array Slot) (H : Heap) (locs : List Loc) (he3 : e3 < 4) (he4 : e4 < 4) (hl : lv_has ls 6 [(3, .ref (a (18 + e3))), (4, .ref (a (14 + e4))), (5, .int x5)]) (hP : va_P D vwCl (wX k a xLen xHits xUns xItems xLost xKind xSize xLet xRel xLim xOpen xMeas xSL xST xSD xSK xTal xKn xFT xFA xFE xOdds xPat xFind) H) (hD : va_D A (wX k a xLen xHits xUns xItems xLost xKind xSize xLet xRel xLim xOpen xMeas xSL xST xSD xSK xTal xKn xFT xFA xFE xOdds xPat xFind)) (hS : va_S A s.heap H locs) (h : f_X10_read_48 N n48 e3 e4 x5 xLen xHits xUns xItems xLost xSize xFind = some o), gQi p l e wo_X10_read 1 s m args below meth c D k A o.1 (wX k a o.2.1 o.2.2.1 o.2.2.2.1 xItems xLost xKind xSize xLet xRel xLim xOpen xMeas xSL xST xSD xSK xTal xKn xFT xFA xFE xOdds xPat o.2.2.2.2) H locs (F0 m 48 ls []) := by
    intro n48
    induction n48 with
    | zero => intro e3 e4 x5 xLen xHits xUns xFind ls H locs he3 he4 hl hP hD hS h; cases (show (none : Option (Int32 × (Nat → Int32) × (Nat → Int32) × (Nat → Int32) × (Int32))) = some o from h)
    | succ n48 ih48 =>
      intro e3 e4 x5 xLen xHits xUns xFind ls H locs he3 he4 hl hP hD hS h
      rw [f_X10_read_48] at h
      refine lv_iload hx hb dX10_read_48 (lv_at hl 2 rfl) ?_
      refine lv_aload_n hx hb dX10_read_50 rfl (lv_at hl 0 rfl) ?_
      refine va_get (D := D) (ci := 3) (v := .int (xSize e3)) (C := RX7) (T := TX7) (N := 4) hx hb hts hi7 hown hK hP ((18 + e3)) (wX_sheet he3) rfl 3 (by decide) kf83 (fun _ h9 => h9) rfl dX10_read_51 ?_
      refine lv_icmp_ge (tgt := 96) hx hb dX10_read_54 (by decide) (fun c1 => ?_) (fun c1 => ?_)
      · replace h := (if_pos c1).symm.trans h
        exact J96 x5 xLen xHits xUns xFind ls H locs (lv_sub hl [2] rfl) hP hD hS h
      · replace h := (if_neg c1).symm.trans h
        refine lv_aload hx hb dX10_read_57 (lv_at hl 1 rfl) ?_
        obtain ⟨o2, eq3, h⟩ := bnd_some h
        refine kRiV (rest := []) (q0 := (14 + e4)) ⟨hx, hb, hml, hown, hts⟩ (c_X5_isFull l D k a xLen xHits xUns xItems xLost xKind xSize xLet xRel xLim xOpen xMeas xSL xST xSD xSK xTal xKn xFT xFA xFE xOdds xPat xFind e4 he4 eq3) (cwV 0 hts (gAV wm_98 wm_99 wm_100 wm_15 wm_101) rfl rfl rfl qd_X5_isFull ⟨Nat.le_of_ble_eq_true rfl, Nat.le_of_ble_eq_true rfl⟩) hK hP (wX_row he4) rfl rfl hl.1 rfl (Nat.le_of_ble_eq_true rfl) dX10_read_59 ⟨Nat.zero_le _, Nat.zero_le _⟩ ?_
        refine lv_if_ne (tgt := 96) hx hb dX10_read_62 (by decide) (fun c4 => ?_) (fun c4 => ?_)
        · replace h := (if_neg c4).symm.trans h
          exact J96 x5 xLen xHits xUns xFind ls H locs (lv_sub hl [2] rfl) hP hD hS h
        · replace h := (if_pos c4).symm.trans h
          refine lv_aload_n hx hb dX10_read_65 rfl (lv_at hl 0 rfl) ?_
          refine va_get (D := D) (ci := 3) (v := .ref (a (22 + e3))) (C := RX7) (T := TX7) (N := 4) hx hb hts hi7 hown hK hP ((18 + e3)) (wX_sheet he3) rfl 0 (by decide) kf86 (fun _ h9 => h9) rfl dX10_read_66 ?_
          refine lv_iload hx hb dX10_read_69 (lv_at hl 2 rfl) ?_
          obtain ⟨g5, h⟩ := gIn_some h
          refine va_iald hx hb hK hP ((22 + e3)) 0 (wX_items he3) rfl g5 dX10_read_71 ?_
          obtain ⟨o6, eq7, h⟩ := bnd_some h
          refine kPi (rest := []) ⟨hx, hb, hml, hown, hts⟩ (c_X5_maySee l (xItems e3 x5.toNatClampNeg) eq7) (va_cwS 1 hts (gAS wm_95 wm_96 wm_15 wm_97) rfl rfl rfl qd_X5_maySee ⟨Nat.le_of_ble_eq_true rfl, Nat.le_of_ble_eq_true rfl⟩) rfl hl.1 rfl (Nat.le_of_ble_eq_true rfl) dX10_read_72 ⟨Nat.zero_le _, Nat.zero_le _⟩ ?_
          refine lv_if_eq (tgt := 96) hx hb dX10_read_75 (by decide) (fun c8 => ?_) (fun c8 => ?_)
          · replace h := (if_pos c8).symm.trans h
            exact J96 x5 xLen xHits xUns xFind ls H locs (lv_sub hl [2] rfl) hP hD hS h
          · replace h := (if_neg c8).symm.trans h
            refine lv_aload hx hb dX10_read_78 (lv_at hl 1 rfl) ?_
            refine lv_aload_n hx hb dX10_read_80 rfl (lv_at hl 0 rfl) ?_
            refine va_get (D := D) (ci := 3) (v := .ref (a (22 + e3))) (C := RX7) (T := TX7) (N := 4) hx hb hts hi7 hown hK hP ((18 + e3)) (wX_sheet he3) rfl 0 (by decide) kf86 (fun _ h9 => h9) rfl dX10_read_81 ?_
            refine lv_iload hx hb dX10_read_84 (lv_at hl 2 rfl) ?_
            refine va_iald hx hb hK hP ((22 + e3)) 0 (wX_items he3) rfl g5 dX10_read_86 ?_
            obtain ⟨o9, eq10, h⟩ := bnd_some h
            refine kQvV (rest := []) (q0 := (14 + e4)) ⟨hx, hb, hml, hown, hts⟩ (c_X5_append l D k a xLen xHits xUns xItems xLost xKind xSize xLet xRel xLim xOpen xMeas xSL xST xSD xSK xTal xKn xFT xFA xFE xOdds xPat xFind e4 he4 (xItems e3 x5.toNatClampNeg) eq10) (cwV 1 hts (gAV wm_103 wm_104 wm_105 wm_15 wm_106) rfl rfl rfl qd_X5_append ⟨Nat.le_of_ble_eq_true rfl, Nat.le_of_ble_eq_true rfl⟩) hK hP hD hS hA (wX_row he4) rfl rfl hl.1 rfl (Nat.le_of_ble_eq_true rfl) dX10_read_87 ⟨Nat.zero_le _, Nat.zero_le _⟩ (fun H locs hP hD hS => ?_)
            have hP : va_P D vwCl (wX k a o9.1 o9.2.1 o9.2.2 xItems xLost xKind xSize xLet xRel xLim xOpen xMeas xSL xST xSD xSK xTal xKn xFT xFA xFE xOdds xPat xFind) H := hP
            have hD : va_D A (wX k a o9.1 o9.2.1 o9.2.2 xItems xLost xKind xSize xLet xRel xLim xOpen xMeas xSL xST xSD xSK xTal xKn xFT xFA xFE xOdds xPat xFind) := hD
            refine lv_iinc (v := (x5 + 1)) (lv' := [(5, .int (x5 + 1)), (3, .ref (a (18 + e3))), (4, .ref (a (14 + e4)))]) hx hb dX10_read_90 hl (k := 2) rfl rfl (by decide) rfl (fun ls hl => ?_)
            refine lv_goto (tgt := 48) hx hb dX10_read_93 (by decide) ?_
            exact ih48 e3 e4 (x5 + 1) o9.1 o9.2.1 o9.2.2 xFind ls H locs he3 he4 (lv_sub hl [1, 2, 0] rfl) hP hD hS h
  obtain ⟨H, hH⟩ : ∃ H : Heap, H = s.heap := ⟨_, rfl⟩
  obtain ⟨locs, hlc⟩ : ∃ locs : List Loc, locs = [] := ⟨_, rfl⟩
  have hS : va_S A s.heap H locs := by rw [hH, hlc]; exact va_S.rf
  have hP : va_P D vwCl (wX k a xLen xHits xUns xItems xLost xKind xSize xLet xRel xLim xOpen xMeas xSL xST xSD xSK xTal xKn xFT xFA xFE xOdds xPat xFind) H := by rw [hH]; exact hP
  suffices hGo : gQi p l e wo_X10_read 1 s m args below meth c D k A o.1 (wX k a o.2.1 o.2.2.1 o.2.2.2.1 xItems xLost xKind xSize xLet xRel xLim xOpen xMeas xSL xST xSD xSK xTal xKn xFT xFA xFE xOdds xPat o.2.2.2.2) H locs (F0 m 0 ls []) by rw [hH, hlc] at hGo; exact hGo
  refine lv_iload_n hx hb dX10_read_0 rfl (lv_at hl 1 rfl) ?_
  obtain ⟨o11, eq12, h⟩ := bnd_some h
  refine kPi (rest := []) ⟨hx, hb, hml, hown, hts⟩ (c_X10_isSheet l x1 eq12) (va_cwS 1 hts (gAS wm_130 wm_131 wm_2 wm_132) rfl rfl rfl qd_X10_isSheet ⟨Nat.le_of_ble_eq_true rfl, Nat.le_of_ble_eq_true rfl⟩) rfl hl.1 rfl (Nat.le_of_ble_eq_true rfl) dX10_read_1 ⟨Nat.zero_le _, Nat.zero_le _⟩ ?_
  refine lv_if_eq (tgt := 14) hx hb dX10_read_4 (by decide) (fun c13 => ?_) (fun c13 => ?_)
  · replace h := (if_pos c13).symm.trans h
    refine lv_bipush (v := (-2)) hx hb dX10_read_14 (by decide) ?_
    have he := Option.some.inj h
    exact W.iret (v := (-2)) hx hb hr (fun t ht hW => ⟨⟨(-2), wX k a xLen xHits xUns xItems xLost xKind xSize xLet xRel xLim xOpen xMeas xSL xST xSD xSK xTal xKn xFT xFA xFE xOdds xPat xFind, rfl, ⟨(congrArg (fun z => z.1) he), (congrArg (fun z => wX k a z.2.1 z.2.2.1 z.2.2.2.1 xItems xLost xKind xSize xLet xRel xLim xOpen xMeas xSL xST xSD xSK xTal xKn xFT xFA xFE xOdds xPat z.2.2.2.2) he)⟩, by rw [ht]; exact hP, va_K.moved hW.alike hK, hD⟩, hS.F ht⟩) hS.2.2 dX10_read_16
  · replace h := (if_neg c13).symm.trans h
    refine lv_iload_n hx hb dX10_read_7 rfl (lv_at hl 2 rfl) ?_
    obtain ⟨o14, eq15, h⟩ := bnd_some h
    refine kPi (rest := []) ⟨hx, hb, hml, hown, hts⟩ (c_X10_isRow l x2 eq15) (va_cwS 1 hts (gAS wm_92 wm_93 wm_2 wm_94) rfl rfl rfl qd_X10_isRow ⟨Nat.le_of_ble_eq_true rfl, Nat.le_of_ble_eq_true rfl⟩) rfl hl.1 rfl (Nat.le_of_ble_eq_true rfl) dX10_read_8 ⟨Nat.zero_le _, Nat.zero_le _⟩ ?_
    refine lv_if_ne (tgt := 17) hx hb dX10_read_11 (by decide) (fun c16 => ?_) (fun c16 => ?_)
    · replace h := (if_neg c16).symm.trans h
      refine lv_aload_n hx hb dX10_read_17 rfl (lv_at hl 0 rfl) ?_
      refine va_get (D := D) (ci := 5) (v := .ref (a 2)) (C := RX10) (T := TX10) (N := 8) hx hb hts hi10 hown hK hP (0) (rfl) rfl 1 (by decide) kf18 (fun _ h9 => h9) rfl dX10_read_18 ?_
      refine lv_iload_n hx hb dX10_read_21 rfl (lv_at hl 1 rfl) ?_
      obtain ⟨g17, h⟩ := gIn_some h
      refine va_aldq hx hb hK hP (2) 3 rfl rfl g17 dX10_read_22 ?_
      refine W.eq (g2 := F0 m 23 ls [.ref (a (18 + x1.toNatClampNeg))]) rfl ?_
      refine lv_astore_n (lv' := [(3, .ref (a (18 + x1.toNatClampNeg))), (0, .ref (a 0)), (1, .int x1), (2, .int x2)]) hx hb dX10_read_23 rfl hl (by decide) rfl (fun ls hl => ?_)
      refine lv_aload_n hx hb dX10_read_24 rfl (lv_at hl 0 rfl) ?_
      refine va_get (D := D) (ci := 3) (v := .int (xLost x1.toNatClampNeg)) (C := RX7) (T := TX7) (N := 4) hx hb hts hi7 hown hK hP ((18 + x1.toNatClampNeg)) (wX_sheet (vp_in_lt g17)) rfl 1 (by decide) kf75 (fun _ h9 => h9) rfl dX10_read_25 ?_
      refine lv_if_eq (tgt := 37) hx hb dX10_read_28 (by decide) (fun c18 => ?_) (fun c18 => ?_)
      · replace h := (if_pos c18).symm.trans h
        refine lv_aload_n hx hb dX10_read_37 rfl (lv_at hl 1 rfl) ?_
        refine va_get (D := D) (ci := 5) (v := .ref (a 1)) (C := RX10) (T := TX10) (N := 8) hx hb hts hi10 hown hK hP (0) (rfl) rfl 0 (by decide) kf11 (fun _ h9 => h9) rfl dX10_read_38 ?_
        refine lv_iload_n hx hb dX10_read_41 rfl (lv_at hl 3 rfl) ?_
        obtain ⟨g19, h⟩ := gIn_some h
        refine va_aldq hx hb hK hP (1) 2 rfl rfl g19 dX10_read_42 ?_
        refine W.eq (g2 := F0 m 43 ls [.ref (a (14 + x2.toNatClampNeg))]) rfl ?_
        refine lv_astore (lv' := [(4, .ref (a (14 + x2.toNatClampNeg))), (3, .ref (a (18 + x1.toNatClampNeg))), (0, .ref (a 0)), (1, .int x1), (2, .int x2)]) hx hb dX10_read_43 hl (by decide) rfl (fun ls hl => ?_)
        refine lv_iconst (v := 0) hx hb dX10_read_45 (by decide) ?_
        refine lv_istore (lv' := [(5, .int 0), (4, .ref (a (14 + x2.toNatClampNeg))), (3, .ref (a (18 + x1.toNatClampNeg))), (0, .ref (a 0)), (1, .int x1), (2, .int x2)]) hx hb dX10_read_46 hl (by decide) rfl (fun ls hl => ?_)
        exact L48 N x1.toNatClampNeg x2.toNatClampNeg 0 xLen xHits xUns xFind ls H locs (vp_in_lt g17) (vp_in_lt g19) (lv_sub hl [2, 1, 0] rfl) hP hD hS h
      · replace h := (if_neg c18).symm.trans h
        refine lv_aload_n hx hb dX10_read_31 rfl (lv_at hl 1 rfl) ?_
        refine lv_iconst (v := 1) hx hb dX10_read_32 (by decide) ?_
        obtain ⟨o20, eq21, h⟩ := bnd_some h
        refine kQiV (rest := []) (q0 := 0) ⟨hx, hb, hml, hown, hts⟩ (c_X10_found l D k a xLen xHits xUns xItems xLost xKind xSize xLet xRel xLim xOpen xMeas xSL xST xSD xSK xTal xKn xFT xFA xFE xOdds xPat xFind 1 eq21) (cwV 1 hts (gAV wm_133 wm_134 wm_135 wm_2 wm_136) rfl rfl rfl qd_X10_found ⟨Nat.le_of_ble_eq_true rfl, Nat.le_of_ble_eq_true rfl⟩) hK hP hD hS hA (rfl) rfl rfl hl.1 rfl (Nat.le_of_ble_eq_true rfl) dX10_read_33 ⟨Nat.zero_le _, Nat.zero_le _⟩ (fun H locs hP hD hS => ?_)
        have hP : va_P D vwCl (wX k a xLen xHits xUns xItems xLost xKind xSize xLet xRel xLim xOpen xMeas xSL xST xSD xSK xTal xKn xFT xFA xFE xOdds xPat o20.2) H := hP
        have hD : va_D A (wX k a xLen xHits xUns xItems xLost xKind xSize xLet xRel xLim xOpen xMeas xSL xST xSD xSK xTal xKn xFT xFA xFE xOdds xPat o20.2) := hD
        have he := Option.some.inj h
        exact W.iret (v := o20.1) hx hb hr (fun t ht hW => ⟨⟨o20.1, wX k a xLen xHits xUns xItems xLost xKind xSize xLet xRel xLim xOpen xMeas xSL xST xSD xSK xTal xKn xFT xFA xFE xOdds xPat o20.2, rfl, ⟨(congrArg (fun z => z.1) he), (congrArg (fun z => wX k a z.2.1 z.2.2.1 z.2.2.2.1 xItems xLost xKind xSize xLet xRel xLim xOpen xMeas xSL xST xSD xSK xTal xKn xFT xFA xFE xOdds xPat z.2.2.2.2) he)⟩, by rw [ht]; exact hP, va_K.moved hW.alike hK, hD⟩, hS.F ht⟩) hS.2.2 dX10_read_36
    · replace h := (if_pos c16).symm.trans h
      refine lv_bipush (v := (-2)) hx hb dX10_read_14 (by decide) ?_
      have he := Option.some.inj h
      exact W.iret (v := (-2)) hx hb hr (fun t ht hW => ⟨⟨(-2), wX k a xLen xHits xUns xItems xLost xKind xSize xLet xRel xLim xOpen xMeas xSL xST xSD xSK xTal xKn xFT xFA xFE xOdds xPat xFind, rfl, ⟨(congrArg (fun z => z.1) he), (congrArg (fun z => wX k a z.2.1 z.2.2.1 z.2.2.2.1 xItems xLost xKind xSize xLet xRel xLim xOpen xMeas xSL xST xSD xSK xTal xKn xFT xFA xFE xOdds xPat z.2.2.2.2) he)⟩, by rw [ht]; exact hP, va_K.moved hW.alike hK, hD⟩, hS.F ht⟩) hS.2.2 dX10_read_16
set_option maxHeartbeats 4000000 in
set_option maxRecDepth 100000 in
theorem c_X10_read {N : Nat} (l : Launch) (D : va_G) (k : Nat → ClassId) (a : Nat → Nat) (xLen : Nat → Int32) (xHits : Nat → Int32) (xUns : Nat → Int32) (xItems : Nat → Nat → Int32) (xLost : Nat → Int32) (xKind : Nat → Int32) (xSize : Nat → Int32) (xLet : Nat → Int32) (xRel : Nat → Int32) (xLim : Nat → Int32) (xOpen : Nat → Int32) (xMeas : Nat → Int32) (xSL : Int32) (xST : Int32) (xSD : Int32) (xSK : Int32) (xTal : Nat → Nat → Int32) (xKn : Nat → Int32) (xFT : Nat → Int32) (xFA : Int32) (xFE : Int32) (xOdds : Int32) (xPat : Int32) (xFind : Int32) (x1 : Int32) (x2 : Int32) {o : Int32 × (Nat → Int32) × (Nat → Int32) × (Nat → Int32) × (Int32)} (h : f_X10_read N x1 x2 xLen xHits xUns xItems xLost xSize xFind = some o) : mQi l yX10_read wo_X10_read 1 D k [.ref (a 0), .int x1, .int x2] (wX k a xLen xHits xUns xItems xLost xKind xSize xLet xRel xLim xOpen xMeas xSL xST xSD xSK xTal xKn xFT xFA xFE xOdds xPat xFind) o.1 (wX k a o.2.1 o.2.2.1 o.2.2.2.1 xItems xLost xKind xSize xLet xRel xLim xOpen xMeas xSL xST xSD xSK xTal xKn xFT xFA xFE xOdds xPat o.2.2.2.2) := by
  intro sz
  refine Met.ofW (cc := cX10_read) (maxL := 6) (ret := some .int) (by decide) rfl ?_
  intro p e s m args below meth c s₁ B hml hv
  obtain ⟨rfl, hsz, hP, hK, hD0⟩ := hv
  subst hsz
  rw [lg_entry_eq]
  exact core_X10_read D k a xLen xHits xUns xItems xLost xKind xSize xLet xRel xLim xOpen xMeas xSL xST xSD xSK xTal xKn xFT xFA xFE xOdds xPat xFind x1 x2 B.exec B.bytes hml B.returns (atoms_spec (ws := wo_X10_read) B.pre) (findClass_of_methodNamed B.named) B.notSynchronized (lv_entry [.ref (a 0), .int x1, .int x2] (n := 6) (Nat.le_of_ble_eq_true rfl)) hK hP hD0.self (fun q h => Or.inr h) h
theorem qd_X10_read : yX10_read.cls = RX10 ∧ yX10_read.cls ≠ "java/lang/invoke/MethodHandle" ∧ yX10_read.cls ≠ "java/lang/invoke/VarHandle" ∧ (parseMethodDescriptor yX10_read.desc).map (fun d => d.parameters.length) = some 2 := by decide +kernel
