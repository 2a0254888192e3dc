abbrev wo_X4_lengthOf : List Cond := .code yX4_lengthOf cX4_lengthOf 2 (some .int) :: wsL_law
set_option maxHeartbeats 4000000 in
set_option maxRecDepth 100000 in
theorem core_X4_lengthOf {N : Nat} (x0 : Int32) {p : Program} {l : Launch} {e : Env} {s : State} {m : MethodId} {args : Array Value} {below : List Frame} {meth : Method} {c : Code} {ls : Array Slot} (hx : p.tables.exec = Jvm.exec) (hb : c.code = cX4_lengthOf) (hml : c.maxLocals = 2) (hr : meth.sig.returnType = some .int) (hts : ∀ w ∈ wo_X4_lengthOf, w.before args s = true) (hown : s.vm.findClass RX4 = some m.cls) (hlocks : meth.locks = false) (hl : lv_has ls 2 [(0, .int x0)]) {o : Int32} (h : f_X4_lengthOf N x0 = some o) : gRi p l e wo_X4_lengthOf 0 s m args below meth c o (F0 m 0 ls []) := by
  unfold f_X4_lengthOf at h
  have J22 : ∀ (x1 : Int32) (ls : Array Slot) (hl : lv_has ls 2 [(1, .int x1)]) (h : f_X4_lengthOf_22 N x1 = some o), gRi p l e wo_X4_lengthOf 0 s m args below meth c o (F0 m 22 ls []) := by
    intro x1 ls hl h
    unfold f_X4_lengthOf_22 at h
    refine lv_iload_n hx hb dX4_lengthOf_22 rfl (lv_at hl 0 rfl) ?_
    exact W.iret (v := x1) hx hb hr (fun t ht hW => ⟨_, rfl, Option.some.inj h, ht⟩) (fun q hq => by cases hq) dX4_lengthOf_23
  have L2 : ∀ (n2 : Nat) (x0 : Int32) (x1 : Int32) (ls : Array Slot) (hl : lv_has ls 2 [(0, .int x0), (1, .int x1)]) (h : f_X4_lengthOf_2 N n2 x0 x1 = some o), gRi p l e wo_X4_lengthOf 0 s m args below meth c o (F0 m 2 ls []) := by
    intro n2
    induction n2 with
    | zero => intro x0 x1 ls hl h; cases (show (none : Option (Int32)) = some o from h)
    | succ n2 ih2 =>
      intro x0 x1 ls hl h
      rw [f_X4_lengthOf_2] at h
      refine lv_iload_n hx hb dX4_lengthOf_2 rfl (lv_at hl 1 rfl) ?_
      refine lv_bipush (v := 6) hx hb dX4_lengthOf_3 (by decide) ?_
      refine lv_icmp_ge (tgt := 22) hx hb dX4_lengthOf_5 (by decide) (fun c1 => ?_) (fun c1 => ?_)
      · replace h := (if_pos c1).symm.trans h
        exact J22 x1 ls (lv_sub hl [1] rfl) h
      · replace h := (if_neg c1).symm.trans h
        refine lv_iload_n hx hb dX4_lengthOf_8 rfl (lv_at hl 0 rfl) ?_
        refine lv_iload_n hx hb dX4_lengthOf_9 rfl (lv_at hl 1 rfl) ?_
        refine lv_iconst (v := 1) hx hb dX4_lengthOf_10 (by decide) ?_
        refine lv_iadd hx hb dX4_lengthOf_11 ?_
        refine lv_ishr hx hb dX4_lengthOf_12 ?_
        refine lv_if_eq (tgt := 22) hx hb dX4_lengthOf_13 (by decide) (fun c2 => ?_) (fun c2 => ?_)
        · replace h := (if_pos c2).symm.trans h
          exact J22 x1 ls (lv_sub hl [1] rfl) h
        · replace h := (if_neg c2).symm.trans h
          refine lv_iinc (v := (x1 + 1)) (lv' := [(1, .int (x1 + 1)), (0, .int x0)]) hx hb dX4_lengthOf_16 hl (k := 1) rfl rfl (by decide) rfl (fun ls hl => ?_)
          refine lv_goto (tgt := 2) hx hb dX4_lengthOf_19 (by decide) ?_
          exact ih2 x0 (x1 + 1) ls (lv_sub hl [1, 0] rfl) h
  refine lv_iconst (v := 0) hx hb dX4_lengthOf_0 (by decide) ?_
  refine lv_istore_n (lv' := [(1, .int 0), (0, .int x0)]) hx hb dX4_lengthOf_1 rfl hl (by decide) rfl (fun ls hl => ?_)
  exact L2 N x0 0 ls (lv_sub hl [1, 0] rfl) h
set_option maxHeartbeats 4000000 in
set_option maxRecDepth 100000 in
theorem c_X4_lengthOf {N : Nat} (l : Launch) (x0 : Int32) {o : Int32} (h : f_X4_lengthOf N x0 = some o) : mPi l yX4_lengthOf wo_X4_lengthOf 0 [.int x0] o := by
  refine Met.ofW (cc := cX4_lengthOf) (maxL := 2) (ret := some .int) (by decide) rfl ?_
  intro p e s m args below meth c s₁ B hml hv
  obtain ⟨rfl, -⟩ := hv
  rw [lg_entry_eq]
  exact core_X4_lengthOf x0 B.exec B.bytes hml B.returns (atoms_spec (ws := wo_X4_lengthOf) B.pre) (findClass_of_methodNamed B.named) B.notSynchronized (lv_entry [.int x0] (n := 2) (Nat.le_of_ble_eq_true rfl)) h
theorem qd_X4_lengthOf : yX4_lengthOf.cls ≠ "java/lang/invoke/MethodHandle" ∧ yX4_lengthOf.cls ≠ "java/lang/invoke/VarHandle" ∧ (parseMethodDescriptor yX4_lengthOf.desc).map (fun d => d.parameters.length) = some 1 := by decide +kernel
abbrev wo_X4_timesIn : List Cond := .code yX4_timesIn cX4_timesIn 7 (some .int) :: wsL_law
set_option maxHeartbeats 4000000 in
set_option maxRecDepth 100000 in
theorem core_X4_timesIn {N : Nat} (x0 : Int32) (x1 : Int32) (x2 : Int32) {p : Program} {l : Launch} {e : Env} {s : State} {m : MethodId} {args : Array Value} {below : List Frame} {meth : Method} {c : Code} {ls : Array Slot} (hx : p.tables.exec = Jvm.exec) (hb : c.code = cX4_timesIn) (hml : c.maxLocals = 7) (hr : meth.sig.returnType = some .int) (hts : ∀ w ∈ wo_X4_timesIn, w.before args s = true) (hown : s.vm.findClass RX4 = some m.cls) (hlocks : meth.locks = false) (hl : lv_has ls 7 [(0, .int x0), (1, .int x1), (2, .int x2)]) {o : Int32} (h : f_X4_timesIn N x0 x1 x2 = some o) : gRi p l e wo_X4_timesIn 1 s m args below meth c o (F0 m 0 ls []) := by
  unfold f_X4_timesIn at h
  have L26 : ∀ (n26 : Nat) (x0 : Int32) (x2 : Int32) (x3 : Int32) (x4 : Int32) (x5 : Int32) (ls : Array Slot) (hl : lv_has ls 7 [(0, .int x0), (2, .int x2), (3, .int x3), (4, .int x4), (5, .int x5)]) (h : f_X4_timesIn_26 N n26 x0 x2 x3 x4 x5 = some o), gRi p l e wo_X4_timesIn 1 s m args below meth c o (F0 m 26 ls []) := by
    intro n26
    induction n26 with
    | zero => intro x0 x2 x3 x4 x5 ls hl h; cases (show (none : Option (Int32)) = some o from h)
    | succ n26 ih26 =>
      have J59 : ∀ (x0 : Int32) (x2 : Int32) (x3 : Int32) (x5 : Int32) (s0 : Int32) (s1 : Int32) (ls : Array Slot) (hl : lv_has ls 7 [(0, .int x0), (2, .int x2), (3, .int x3), (5, .int x5)]) (h : f_X4_timesIn_59 N (fun y0 y1 y2 y3 y4 => f_X4_timesIn_26 N n26 y0 y1 y2 y3 y4) x0 x2 x3 x5 s0 s1 = some o), gRi p l e wo_X4_timesIn 1 s m args below meth c o (F0 m 59 ls [.int s1, .int s0]) := by
        intro x0 x2 x3 x5 s0 s1 ls hl h
        unfold f_X4_timesIn_59 at h
        refine lv_iand hx hb dX4_timesIn_59 ?_
        refine lv_istore (lv' := [(4, .int (s0 &&& s1)), (0, .int x0), (2, .int x2), (3, .int x3), (5, .int x5)]) hx hb dX4_timesIn_60 hl (by decide) rfl (fun ls hl => ?_)
        refine lv_iinc (v := (x5 + 1)) (lv' := [(5, .int (x5 + 1)), (4, .int (s0 &&& s1)), (0, .int x0), (2, .int x2), (3, .int x3)]) hx hb dX4_timesIn_62 hl (k := 4) rfl rfl (by decide) rfl (fun ls hl => ?_)
        refine lv_goto (tgt := 26) hx hb dX4_timesIn_65 (by decide) ?_
        exact ih26 x0 x2 x3 (s0 &&& s1) (x5 + 1) ls (lv_sub hl [2, 3, 4, 1, 0] rfl) h
      intro x0 x2 x3 x4 x5 ls hl h
      rw [f_X4_timesIn_26] at h
      refine lv_iload hx hb dX4_timesIn_26 (lv_at hl 4 rfl) ?_
      refine lv_iload_n hx hb dX4_timesIn_28 rfl (lv_at hl 2 rfl) ?_
      refine lv_icmp_ge (tgt := 68) hx hb dX4_timesIn_29 (by decide) (fun c1 => ?_) (fun c1 => ?_)
      · replace h := (if_pos c1).symm.trans h
        refine lv_iload hx hb dX4_timesIn_68 (lv_at hl 3 rfl) ?_
        obtain ⟨o2, eq3, h⟩ := bnd_some h
        refine kPi (rest := []) ⟨hx, hb, hml, hown, hts⟩ (c_J6_bitCount_0f7a4 l x4 eq3) (va_cwS 1 hts (gAS wm_232 wm_210 wm_211 wm_212) rfl rfl rfl qd_J6_bitCount_0f7a4 ⟨Nat.le_of_ble_eq_true rfl, Nat.le_of_ble_eq_true rfl⟩) rfl hl.1 rfl (Nat.le_of_ble_eq_true rfl) dX4_timesIn_70 ⟨Nat.zero_le _, Nat.zero_le _⟩ ?_
        exact W.iret (v := o2) hx hb hr (fun t ht hW => ⟨_, rfl, Option.some.inj h, ht⟩) (fun q hq => by cases hq) dX4_timesIn_73
      · replace h := (if_neg c1).symm.trans h
        refine lv_iload_n hx hb dX4_timesIn_32 rfl (lv_at hl 1 rfl) ?_
        refine lv_iload hx hb dX4_timesIn_33 (lv_at hl 4 rfl) ?_
        refine lv_ishr hx hb dX4_timesIn_35 ?_
        refine lv_istore (lv' := [(6, .int (x2 >>> (x5 &&& 31))), (0, .int x0), (2, .int x2), (3, .int x3), (4, .int x4), (5, .int x5)]) hx hb dX4_timesIn_36 hl (by decide) rfl (fun ls hl => ?_)
        refine lv_iload hx hb dX4_timesIn_38 (lv_at hl 4 rfl) ?_
        refine lv_iload_n hx hb dX4_timesIn_40 rfl (lv_at hl 1 rfl) ?_
        refine lv_iload hx hb dX4_timesIn_41 (lv_at hl 5 rfl) ?_
        refine lv_ishr hx hb dX4_timesIn_43 ?_
        refine lv_iconst (v := 1) hx hb dX4_timesIn_44 (by decide) ?_
        refine lv_iand hx hb dX4_timesIn_45 ?_
        refine lv_iconst (v := 1) hx hb dX4_timesIn_46 (by decide) ?_
        refine lv_icmp_ne (tgt := 55) hx hb dX4_timesIn_47 (by decide) (fun c4 => ?_) (fun c4 => ?_)
        · replace h := (if_neg c4).symm.trans h
          refine lv_iload hx hb dX4_timesIn_55 (lv_at hl 0 rfl) ?_
          refine lv_iconst (v := (-1)) hx hb dX4_timesIn_57 (by decide) ?_
          refine lv_ixor hx hb dX4_timesIn_58 ?_
          exact J59 x0 x2 x3 x5 x4 ((x2 >>> (x5 &&& 31)) ^^^ (-1)) ls (lv_sub hl [1, 2, 3, 5] rfl) h
        · replace h := (if_pos c4).symm.trans h
          refine lv_iload hx hb dX4_timesIn_50 (lv_at hl 0 rfl) ?_
          refine lv_goto (tgt := 59) hx hb dX4_timesIn_52 (by decide) ?_
          exact J59 x0 x2 x3 x5 x4 (x2 >>> (x5 &&& 31)) ls (lv_sub hl [1, 2, 3, 5] rfl) h
  refine lv_iload_n hx hb dX4_timesIn_0 rfl (lv_at hl 0 rfl) ?_
  obtain ⟨o5, eq6, h⟩ := bnd_some h
  refine kPi (rest := []) ⟨hx, hb, hml, hown, hts⟩ (c_X4_lengthOf l x0 eq6) (va_cwS 1 hts (gAS wm_229 wm_230 wm_227 wm_231) rfl rfl rfl qd_X4_lengthOf ⟨Nat.le_of_ble_eq_true rfl, Nat.le_of_ble_eq_true rfl⟩) rfl hl.1 rfl (Nat.le_of_ble_eq_true rfl) dX4_timesIn_1 ⟨Nat.zero_le _, Nat.zero_le _⟩ ?_
  refine lv_istore_n (lv' := [(3, .int o5), (0, .int x0), (1, .int x1), (2, .int x2)]) hx hb dX4_timesIn_4 rfl hl (by decide) rfl (fun ls hl => ?_)
  refine lv_iload_n hx hb dX4_timesIn_5 rfl (lv_at hl 0 rfl) ?_
  refine lv_iload_n hx hb dX4_timesIn_6 rfl (lv_at hl 2 rfl) ?_
  refine lv_icmp_le (tgt := 12) hx hb dX4_timesIn_7 (by decide) (fun c7 => ?_) (fun c7 => ?_)
  · replace h := (if_pos c7).symm.trans h
    refine lv_iconst (v := 1) hx hb dX4_timesIn_12 (by decide) ?_
    refine lv_iload_n hx hb dX4_timesIn_13 rfl (lv_at hl 2 rfl) ?_
    refine lv_iload_n hx hb dX4_timesIn_14 rfl (lv_at hl 0 rfl) ?_
    refine lv_isub hx hb dX4_timesIn_15 ?_
    refine lv_iconst (v := 1) hx hb dX4_timesIn_16 (by decide) ?_
    refine lv_iadd hx hb dX4_timesIn_17 ?_
    refine lv_ishl hx hb dX4_timesIn_18 ?_
    refine lv_iconst (v := 1) hx hb dX4_timesIn_19 (by decide) ?_
    refine lv_isub hx hb dX4_timesIn_20 ?_
    refine lv_istore (lv' := [(4, .int (((1 : Int32) <<< (((x1 - o5) + 1) &&& 31)) - 1)), (3, .int o5), (0, .int x0), (1, .int x1), (2, .int x2)]) hx hb dX4_timesIn_21 hl (by decide) rfl (fun ls hl => ?_)
    refine lv_iconst (v := 0) hx hb dX4_timesIn_23 (by decide) ?_
    refine lv_istore (lv' := [(5, .int 0), (4, .int (((1 : Int32) <<< (((x1 - o5) + 1) &&& 31)) - 1)), (3, .int o5), (0, .int x0), (1, .int x1), (2, .int x2)]) hx hb dX4_timesIn_24 hl (by decide) rfl (fun ls hl => ?_)
    exact L26 N x0 x2 o5 (((1 : Int32) <<< (((x1 - o5) + 1) &&& 31)) - 1) 0 ls (lv_sub hl [3, 5, 2, 1, 0] rfl) h
  · replace h := (if_neg c7).symm.trans h
    refine lv_iconst (v := 0) hx hb dX4_timesIn_10 (by decide) ?_
    exact W.iret (v := 0) hx hb hr (fun t ht hW => ⟨_, rfl, Option.some.inj h, ht⟩) (fun q hq => by cases hq) dX4_timesIn_11
set_option maxHeartbeats 4000000 in
set_option maxRecDepth 100000 in
theorem c_X4_timesIn {N : Nat} (l : Launch) (x0 : Int32) (x1 : Int32) (x2 : Int32) {o : Int32} (h : f_X4_timesIn N x0 x1 x2 = some o) : mPi l yX4_timesIn wo_X4_timesIn 1 [.int x0, .int x1, .int x2] o := by
  refine Met.ofW (cc := cX4_timesIn) (maxL := 7) (ret := some .int) (by decide) rfl ?_
  intro p e s m args below meth c s₁ B hml hv
  obtain ⟨rfl, -⟩ := hv
  rw [lg_entry_eq]
  exact core_X4_timesIn x0 x1 x2 B.exec B.bytes hml B.returns (atoms_spec (ws := wo_X4_timesIn) B.pre) (findClass_of_methodNamed B.named) B.notSynchronized (lv_entry [.int x0, .int x1, .int x2] (n := 7) (Nat.le_of_ble_eq_true rfl)) h
theorem qd_X4_timesIn : yX4_timesIn.cls ≠ "java/lang/invoke/MethodHandle" ∧ yX4_timesIn.cls ≠ "java/lang/invoke/VarHandle" ∧ (parseMethodDescriptor yX4_timesIn.desc).map (fun d => d.parameters.length) = some 3 := by decide +kernel
abbrev wo_X4_standsIn : List Cond := .code yX4_standsIn cX4_standsIn 3 (some .boolean) :: wsL_law
set_option maxHeartbeats 4000000 in
set_option maxRecDepth 100000 in
theorem core_X4_standsIn {N : Nat} (x0 : Int32) (x1 : Int32) {p : Program} {l : Launch} {e : Env} {s : State} {m : MethodId} {args : Array Value} {below : List Frame} {meth : Method} {c : Code} {ls : Array Slot} (hx : p.tables.exec = Jvm.exec) (hb : c.code = cX4_standsIn) (hml : c.maxLocals = 3) (hr : meth.sig.returnType = some .boolean) (hts : ∀ w ∈ wo_X4_standsIn, w.before args s = true) (hown : s.vm.findClass RX4 = some m.cls) (hlocks : meth.locks = false) (hl : lv_has ls 3 [(0, .int x0), (1, .int x1)]) {o : Int32} (h : f_X4_standsIn N x0 x1 = some o) : gRi p l e wo_X4_standsIn 2 s m args below meth c o (F0 m 0 ls []) := by
  unfold f_X4_standsIn at h
  refine lv_iload_n hx hb dX4_standsIn_0 rfl (lv_at hl 1 rfl) ?_
  obtain ⟨o1, eq2, h⟩ := bnd_some h
  refine kPi (rest := []) ⟨hx, hb, hml, hown, hts⟩ (c_X4_lengthOf l x1 eq2) (va_cwS 1 hts (gAS wm_229 wm_230 wm_227 wm_231) rfl rfl rfl qd_X4_lengthOf ⟨Nat.le_of_ble_eq_true rfl, Nat.le_of_ble_eq_true rfl⟩) rfl hl.1 rfl (Nat.le_of_ble_eq_true rfl) dX4_standsIn_1 ⟨Nat.zero_le _, Nat.zero_le _⟩ ?_
  refine lv_istore_n (lv' := [(2, .int o1), (0, .int x0), (1, .int x1)]) hx hb dX4_standsIn_4 rfl hl (by decide) rfl (fun ls hl => ?_)
  refine lv_iload_n hx hb dX4_standsIn_5 rfl (lv_at hl 1 rfl) ?_
  refine lv_iload_n hx hb dX4_standsIn_6 rfl (lv_at hl 0 rfl) ?_
  refine lv_iload_n hx hb dX4_standsIn_7 rfl (lv_at hl 2 rfl) ?_
  refine lv_iconst (v := 1) hx hb dX4_standsIn_8 (by decide) ?_
  refine lv_iload_n hx hb dX4_standsIn_9 rfl (lv_at hl 0 rfl) ?_
  refine lv_ishl hx hb dX4_standsIn_10 ?_
  refine lv_iconst (v := 1) hx hb dX4_standsIn_11 (by decide) ?_
  refine lv_isub hx hb dX4_standsIn_12 ?_
  refine lv_iand hx hb dX4_standsIn_13 ?_
  obtain ⟨o3, eq4, h⟩ := bnd_some h
  refine kPi (rest := []) ⟨hx, hb, hml, hown, hts⟩ (c_X4_timesIn l x0 o1 (x1 &&& (((1 : Int32) <<< (o1 &&& 31)) - 1)) eq4) (va_cwS 3 hts (gAS wm_710 wm_226 wm_227 wm_228) rfl rfl rfl qd_X4_timesIn ⟨Nat.le_of_ble_eq_true rfl, Nat.le_of_ble_eq_true rfl⟩) rfl hl.1 rfl (Nat.le_of_ble_eq_true rfl) dX4_standsIn_14 ⟨Nat.zero_le _, Nat.zero_le _⟩ ?_
  refine lv_if_le (tgt := 24) hx hb dX4_standsIn_17 (by decide) (fun c5 => ?_) (fun c5 => ?_)
  · replace h := (if_pos c5).symm.trans h
    refine lv_iconst (v := 0) hx hb dX4_standsIn_24 (by decide) ?_
    exact W.zret (v := 0) hx hb hr rfl (fun t ht hW => ⟨_, rfl, Option.some.inj h, ht⟩) (fun q hq => by cases hq) dX4_standsIn_25
  · replace h := (if_neg c5).symm.trans h
    refine lv_iconst (v := 1) hx hb dX4_standsIn_20 (by decide) ?_
    refine lv_goto (tgt := 25) hx hb dX4_standsIn_21 (by decide) ?_
    exact W.zret (v := 1) hx hb hr rfl (fun t ht hW => ⟨_, rfl, Option.some.inj h, ht⟩) (fun q hq => by cases hq) dX4_standsIn_25
set_option maxHeartbeats 4000000 in
set_option maxRecDepth 100000 in
theorem c_X4_standsIn {N : Nat} (l : Launch) (x0 : Int32) (x1 : Int32) {o : Int32} (h : f_X4_standsIn N x0 x1 = some o) : mPi l yX4_standsIn wo_X4_standsIn 2 [.int x0, .int x1] o := by
  refine Met.ofW (cc := cX4_standsIn) (maxL := 3) (ret := some .boolean) (by decide) rfl ?_
  intro p e s m args below meth c s₁ B hml hv
  obtain ⟨rfl, -⟩ := hv
  rw [lg_entry_eq]
  exact core_X4_standsIn x0 x1 B.exec B.bytes hml B.returns (atoms_spec (ws := wo_X4_standsIn) B.pre) (findClass_of_methodNamed B.named) B.notSynchronized (lv_entry [.int x0, .int x1] (n := 3) (Nat.le_of_ble_eq_true rfl)) h
theorem qd_X4_standsIn : yX4_standsIn.cls ≠ "java/lang/invoke/MethodHandle" ∧ yX4_standsIn.cls ≠ "java/lang/invoke/VarHandle" ∧ (parseMethodDescriptor yX4_standsIn.desc).map (fun d => d.parameters.length) = some 2 := by decide +kernel
abbrev wo_X4_chanceParts : List Cond := .code yX4_chanceParts cX4_chanceParts 3 (some .long) :: wsL_law
set_option maxHeartbeats 4000000 in
set_option maxRecDepth 100000 in
theorem core_X4_chanceParts {N : Nat} (x0 : Int32) (x1 : Int32) (x2 : Int32) {p : Program} {l : Launch} {e : Env} {s : State} {m : MethodId} {args : Array Value} {below : List Frame} {meth : Method} {c : Code} {ls : Array Slot} (hx : p.tables.exec = Jvm.exec) (hb : c.code = cX4_chanceParts) (hml : c.maxLocals = 3) (hr : meth.sig.returnType = some .long) (hts : ∀ w ∈ wo_X4_chanceParts, w.before args s = true) (hown : s.vm.findClass RX4 = some m.cls) (hlocks : meth.locks = false) (hl : lv_has ls 3 [(0, .int x0), (1, .int x1), (2, .int x2)]) {o : Int64} (h : f_X4_chanceParts N x0 x1 x2 = some o) : gRl p l e wo_X4_chanceParts 1 s m args below meth c o (F0 m 0 ls []) := by
  unfold f_X4_chanceParts at h
  refine lv_iload_n hx hb dX4_chanceParts_0 rfl (lv_at hl 0 rfl) ?_
  refine lv_i2l (v := x0.toInt64) hx hb dX4_chanceParts_1 rfl ?_
  refine lv_iload_n hx hb dX4_chanceParts_2 rfl (lv_at hl 1 rfl) ?_
  obtain ⟨o1, eq2, h⟩ := bnd_some h
  refine kPl (rest := []) ⟨hx, hb, hml, hown, hts⟩ (c_X1_power l x0.toInt64 x1 eq2) (va_cwS 2 hts (gAS wm_677 wm_509 wm_510 wm_511) rfl rfl rfl qd_X1_power ⟨Nat.le_of_ble_eq_true rfl, Nat.le_of_ble_eq_true rfl⟩) rfl hl.1 rfl (Nat.le_of_ble_eq_true rfl) dX4_chanceParts_3 ⟨Nat.zero_le _, Nat.zero_le _⟩ ?_
  refine lv_bipush (v := 16) hx hb dX4_chanceParts_6 (by decide) ?_
  refine lv_iload_n hx hb dX4_chanceParts_8 rfl (lv_at hl 0 rfl) ?_
  refine lv_isub hx hb dX4_chanceParts_9 ?_
  refine lv_i2l (v := ((16 : Int32) - x0).toInt64) hx hb dX4_chanceParts_10 rfl ?_
  refine lv_iload_n hx hb dX4_chanceParts_11 rfl (lv_at hl 2 rfl) ?_
  obtain ⟨o3, eq4, h⟩ := bnd_some h
  refine kPl (rest := [.long o1]) ⟨hx, hb, hml, hown, hts⟩ (c_X1_power l (((16 : Int32) - x0).toInt64) x2 eq4) (va_cwS 2 hts (gAS wm_677 wm_509 wm_510 wm_511) rfl rfl rfl qd_X1_power ⟨Nat.le_of_ble_eq_true rfl, Nat.le_of_ble_eq_true rfl⟩) rfl hl.1 rfl (Nat.le_of_ble_eq_true rfl) dX4_chanceParts_12 ⟨Nat.zero_le _, Nat.zero_le _⟩ ?_
  refine lv_lmul hx hb dX4_chanceParts_15 ?_
  exact W.lret (v := (o1 * o3)) hx hb hr (fun t ht hW => ⟨_, rfl, Option.some.inj h, ht⟩) (fun q hq => by cases hq) dX4_chanceParts_16
set_option maxHeartbeats 4000000 in
set_option maxRecDepth 100000 in
theorem c_X4_chanceParts {N : Nat} (l : Launch) (x0 : Int32) (x1 : Int32) (x2 : Int32) {o : Int64} (h : f_X4_chanceParts N x0 x1 x2 = some o) : mPl l yX4_chanceParts wo_X4_chanceParts 1 [.int x0, .int x1, .int x2] o := by
  refine Met.ofW (cc := cX4_chanceParts) (maxL := 3) (ret := some .long) (by decide) rfl ?_
  intro p e s m args below meth c s₁ B hml hv
  obtain ⟨rfl, -⟩ := hv
  rw [lg_entry_eq]
  exact core_X4_chanceParts x0 x1 x2 B.exec B.bytes hml B.returns (atoms_spec (ws := wo_X4_chanceParts) B.pre) (findClass_of_methodNamed B.named) B.notSynchronized (lv_entry [.int x0, .int x1, .int x2] (n := 3) (Nat.le_of_ble_eq_true rfl)) h
theorem qd_X4_chanceParts : yX4_chanceParts.cls ≠ "java/lang/invoke/MethodHandle" ∧ yX4_chanceParts.cls ≠ "java/lang/invoke/VarHandle" ∧ (parseMethodDescriptor yX4_chanceParts.desc).map (fun d => d.parameters.length) = some 3 := by decide +kernel
abbrev wo_X4_leadUnit : List Cond := .code yX4_leadUnit cX4_leadUnit 1 (some .long) :: wsL_law
set_option maxHeartbeats 4000000 in
set_option maxRecDepth 100000 in
theorem core_X4_leadUnit {N : Nat} (x0 : Int32) {p : Program} {l : Launch} {e : Env} {s : State} {m : MethodId} {args : Array Value} {below : List Frame} {meth : Method} {c : Code} {ls : Array Slot} (hx : p.tables.exec = Jvm.exec) (hb : c.code = cX4_leadUnit) (hml : c.maxLocals = 1) (hr : meth.sig.returnType = some .long) (hts : ∀ w ∈ wo_X4_leadUnit, w.before args s = true) (hown : s.vm.findClass RX4 = some m.cls) (hlocks : meth.locks = false) (hl : lv_has ls 1 [(0, .int x0)]) {o : Int64} (h : f_X4_leadUnit N x0 = some o) : gRl p l e wo_X4_leadUnit 2 s m args below meth c o (F0 m 0 ls []) := by
  unfold f_X4_leadUnit at h
  refine lv_iload_n hx hb dX4_leadUnit_0 rfl (lv_at hl 0 rfl) ?_
  refine lv_bipush (v := 6) hx hb dX4_leadUnit_1 (by decide) ?_
  refine lv_bipush (v := 6) hx hb dX4_leadUnit_3 (by decide) ?_
  obtain ⟨o1, eq2, h⟩ := bnd_some h
  refine kPl (rest := []) ⟨hx, hb, hml, hown, hts⟩ (c_X4_chanceParts l x0 6 6 eq2) (va_cwS 3 hts (gAS wm_674 wm_675 wm_227 wm_676) rfl rfl rfl qd_X4_chanceParts ⟨Nat.le_of_ble_eq_true rfl, Nat.le_of_ble_eq_true rfl⟩) rfl hl.1 rfl (Nat.le_of_ble_eq_true rfl) dX4_leadUnit_5 ⟨Nat.zero_le _, Nat.zero_le _⟩ ?_
  exact W.lret (v := o1) hx hb hr (fun t ht hW => ⟨_, rfl, Option.some.inj h, ht⟩) (fun q hq => by cases hq) dX4_leadUnit_8
set_option maxHeartbeats 4000000 in
set_option maxRecDepth 100000 in
theorem c_X4_leadUnit {N : Nat} (l : Launch) (x0 : Int32) {o : Int64} (h : f_X4_leadUnit N x0 = some o) : mPl l yX4_leadUnit wo_X4_leadUnit 2 [.int x0] o := by
  refine Met.ofW (cc := cX4_leadUnit) (maxL := 1) (ret := some .long) (by decide) rfl ?_
  intro p e s m args below meth c s₁ B hml hv
  obtain ⟨rfl, -⟩ := hv
  rw [lg_entry_eq]
  exact core_X4_leadUnit x0 B.exec B.bytes hml B.returns (atoms_spec (ws := wo_X4_leadUnit) B.pre) (findClass_of_methodNamed B.named) B.notSynchronized (lv_entry [.int x0] (n := 1) (Nat.le_of_ble_eq_true rfl)) h
theorem qd_X4_leadUnit : yX4_leadUnit.cls ≠ "java/lang/invoke/MethodHandle" ∧ yX4_leadUnit.cls ≠ "java/lang/invoke/VarHandle" ∧ (parseMethodDescriptor yX4_leadUnit.desc).map (fun d => d.parameters.length) = some 1 := by decide +kernel
abbrev wo_X4_lead : List Cond := .code yX4_lead cX4_lead 14 (some .long) :: wsL_law
set_option maxHeartbeats 4000000 in
set_option maxRecDepth 100000 in
theorem core_X4_lead {N : Nat} (x0 : Int32) (x1 : Int32) (x2 : Int32) {p : Program} {l : Launch} {e : Env} {s : State} {m : MethodId} {args : Array Value} {below : List Frame} {meth : Method} {c : Code} {ls : Array Slot} (hx : p.tables.exec = Jvm.exec) (hb : c.code = cX4_lead) (hml : c.maxLocals = 14) (hr : meth.sig.returnType = some .long) (hts : ∀ w ∈ wo_X4_lead, w.before args s = true) (hown : s.vm.findClass RX4 = some m.cls) (hlocks : meth.locks = false) (hl : lv_has ls 14 [(0, .int x0), (1, .int x1), (2, .int x2)]) {o : Int64} (h : f_X4_lead N x0 x1 x2 = some o) : gRl p l e wo_X4_lead 2 s m args below meth c o (F0 m 0 ls []) := by
  have kc28 := hts _ (List.mem_cons_of_mem _ wm_673)
  unfold f_X4_lead at h
  have J115 : ∀ (x5 : Int64) (ls : Array Slot) (hl : lv_has ls 14 [(5, .long x5)]) (h : f_X4_lead_115 N x5 = some o), gRl p l e wo_X4_lead 2 s m args below meth c o (F0 m 115 ls []) := by
    intro x5 ls hl h
    unfold f_X4_lead_115 at h
    refine lv_lload hx hb dX4_lead_115 (lv_at hl 0 rfl) ?_
    exact W.lret (v := x5) hx hb hr (fun t ht hW => ⟨_, rfl, Option.some.inj h, ht⟩) (fun q hq => by cases hq) dX4_lead_117
  have L17 : ∀ (n17 : Nat) (x0 : Int32) (x1 : Int32) (x2 : Int32) (x3 : Int32) (x4 : Int32) (x5 : Int64) (x7 : Int32) (ls : Array Slot) (hl : lv_has ls 14 [(0, .int x0), (1, .int x1), (2, .int x2), (3, .int x3), (4, .int x4), (5, .long x5), (7, .int x7)]) (h : f_X4_lead_17 N n17 x0 x1 x2 x3 x4 x5 x7 = some o), gRl p l e wo_X4_lead 2 s m args below meth c o (F0 m 17 ls []) := by
    intro n17
    induction n17 with
    | zero => intro x0 x1 x2 x3 x4 x5 x7 ls hl h; cases (show (none : Option (Int64)) = some o from h)
    | succ n17 ih17 =>
      have J109 : ∀ (x0 : Int32) (x1 : Int32) (x2 : Int32) (x3 : Int32) (x4 : Int32) (x5 : Int64) (x7 : Int32) (ls : Array Slot) (hl : lv_has ls 14 [(0, .int x0), (1, .int x1), (2, .int x2), (3, .int x3), (4, .int x4), (5, .long x5), (7, .int x7)]) (h : f_X4_lead_109 N (fun y0 y1 y2 y3 y4 y5 y6 => f_X4_lead_17 N n17 y0 y1 y2 y3 y4 y5 y6) x0 x1 x2 x3 x4 x5 x7 = some o), gRl p l e wo_X4_lead 2 s m args below meth c o (F0 m 109 ls []) := by
        intro x0 x1 x2 x3 x4 x5 x7 ls hl h
        unfold f_X4_lead_109 at h
        refine lv_iinc (v := (x7 + 1)) (lv' := [(7, .int (x7 + 1)), (0, .int x0), (1, .int x1), (2, .int x2), (3, .int x3), (4, .int x4), (5, .long x5)]) hx hb dX4_lead_109 hl (k := 6) rfl rfl (by decide) rfl (fun ls hl => ?_)
        refine lv_goto (tgt := 17) hx hb dX4_lead_112 (by decide) ?_
        exact ih17 x0 x1 x2 x3 x4 x5 (x7 + 1) ls (lv_sub hl [1, 2, 3, 4, 5, 6, 0] rfl) h
      intro x0 x1 x2 x3 x4 x5 x7 ls hl h
      rw [f_X4_lead_17] at h
      refine lv_iload hx hb dX4_lead_17 (lv_at hl 6 rfl) ?_
      refine lv_iload_n hx hb dX4_lead_19 rfl (lv_at hl 3 rfl) ?_
      refine lv_icmp_gt (tgt := 115) hx hb dX4_lead_20 (by decide) (fun c1 => ?_) (fun c1 => ?_)
      · replace h := (if_pos c1).symm.trans h
        exact J115 x5 ls (lv_sub hl [5] rfl) h
      · replace h := (if_neg c1).symm.trans h
        refine lv_iload hx hb dX4_lead_23 (lv_at hl 6 rfl) ?_
        refine lv_iload hx hb dX4_lead_25 (lv_at hl 4 rfl) ?_
        refine lv_icmp_gt (tgt := 115) hx hb dX4_lead_27 (by decide) (fun c2 => ?_) (fun c2 => ?_)
        · replace h := (if_pos c2).symm.trans h
          exact J115 x5 ls (lv_sub hl [5] rfl) h
        · replace h := (if_neg c2).symm.trans h
          refine lv_iconst (v := 1) hx hb dX4_lead_30 (by decide) ?_
          refine lv_iload hx hb dX4_lead_31 (lv_at hl 6 rfl) ?_
          refine lv_ishl hx hb dX4_lead_33 ?_
          refine lv_iload_n hx hb dX4_lead_34 rfl (lv_at hl 0 rfl) ?_
          refine lv_iconst (v := 1) hx hb dX4_lead_35 (by decide) ?_
          refine lv_iload hx hb dX4_lead_36 (lv_at hl 6 rfl) ?_
          refine lv_ishl hx hb dX4_lead_38 ?_
          refine lv_iconst (v := 1) hx hb dX4_lead_39 (by decide) ?_
          refine lv_isub hx hb dX4_lead_40 ?_
          refine lv_iand hx hb dX4_lead_41 ?_
          refine lv_ior hx hb dX4_lead_42 ?_
          refine lv_istore (lv' := [(8, .int (((1 : Int32) <<< (x7 &&& 31)) ||| (x0 &&& (((1 : Int32) <<< (x7 &&& 31)) - 1)))), (0, .int x0), (1, .int x1), (2, .int x2), (3, .int x3), (4, .int x4), (5, .long x5), (7, .int x7)]) hx hb dX4_lead_43 hl (by decide) rfl (fun ls hl => ?_)
          refine lv_iload_n hx hb dX4_lead_45 rfl (lv_at hl 2 rfl) ?_
          refine lv_iload hx hb dX4_lead_46 (lv_at hl 5 rfl) ?_
          refine lv_iload hx hb dX4_lead_48 (lv_at hl 7 rfl) ?_
          refine lv_isub hx hb dX4_lead_50 ?_
          refine lv_ishr hx hb dX4_lead_51 ?_
          refine lv_istore (lv' := [(9, .int (x1 >>> ((x4 - x7) &&& 31))), (8, .int (((1 : Int32) <<< (x7 &&& 31)) ||| (x0 &&& (((1 : Int32) <<< (x7 &&& 31)) - 1)))), (0, .int x0), (1, .int x1), (2, .int x2), (3, .int x3), (4, .int x4), (5, .long x5), (7, .int x7)]) hx hb dX4_lead_52 hl (by decide) rfl (fun ls hl => ?_)
          refine lv_iload hx hb dX4_lead_54 (lv_at hl 1 rfl) ?_
          refine lv_iload hx hb dX4_lead_56 (lv_at hl 0 rfl) ?_
          refine lv_icmp_ne (tgt := 109) hx hb dX4_lead_58 (by decide) (fun c3 => ?_) (fun c3 => ?_)
          · replace h := (if_neg c3).symm.trans h
            exact J109 x0 x1 x2 x3 x4 x5 x7 ls (lv_sub hl [2, 3, 4, 5, 6, 7, 8] rfl) h
          · replace h := (if_pos c3).symm.trans h
            refine lv_iload hx hb dX4_lead_61 (lv_at hl 0 rfl) ?_
            obtain ⟨o4, eq5, h⟩ := bnd_some h
            refine kPi (rest := []) ⟨hx, hb, hml, hown, hts⟩ (c_J6_bitCount_0f7a4 l (x1 >>> ((x4 - x7) &&& 31)) eq5) (va_cwS 1 hts (gAS wm_232 wm_210 wm_211 wm_212) rfl rfl rfl qd_J6_bitCount_0f7a4 ⟨Nat.le_of_ble_eq_true rfl, Nat.le_of_ble_eq_true rfl⟩) rfl hl.1 rfl (Nat.le_of_ble_eq_true rfl) dX4_lead_63 ⟨Nat.zero_le _, Nat.zero_le _⟩ ?_
            refine lv_iconst (v := 1) hx hb dX4_lead_66 (by decide) ?_
            refine lv_isub hx hb dX4_lead_67 ?_
            refine lv_istore (lv' := [(10, .int (o4 - 1)), (9, .int (x1 >>> ((x4 - x7) &&& 31))), (8, .int (((1 : Int32) <<< (x7 &&& 31)) ||| (x0 &&& (((1 : Int32) <<< (x7 &&& 31)) - 1)))), (0, .int x0), (1, .int x1), (2, .int x2), (3, .int x3), (4, .int x4), (5, .long x5), (7, .int x7)]) hx hb dX4_lead_68 hl (by decide) rfl (fun ls hl => ?_)
            refine lv_iload hx hb dX4_lead_70 (lv_at hl 9 rfl) ?_
            refine lv_iload hx hb dX4_lead_72 (lv_at hl 0 rfl) ?_
            refine lv_isub hx hb dX4_lead_74 ?_
            refine lv_istore (lv' := [(11, .int (x7 - (o4 - 1))), (10, .int (o4 - 1)), (9, .int (x1 >>> ((x4 - x7) &&& 31))), (8, .int (((1 : Int32) <<< (x7 &&& 31)) ||| (x0 &&& (((1 : Int32) <<< (x7 &&& 31)) - 1)))), (0, .int x0), (1, .int x1), (2, .int x2), (3, .int x3), (4, .int x4), (5, .long x5), (7, .int x7)]) hx hb dX4_lead_75 hl (by decide) rfl (fun ls hl => ?_)
            refine lv_iload_n hx hb dX4_lead_77 rfl (lv_at hl 6 rfl) ?_
            refine lv_bipush (v := 6) hx hb dX4_lead_78 (by decide) ?_
            refine lv_iload hx hb dX4_lead_80 (lv_at hl 1 rfl) ?_
            refine lv_isub hx hb dX4_lead_82 ?_
            refine lv_bipush (v := 6) hx hb dX4_lead_83 (by decide) ?_
            refine lv_iload hx hb dX4_lead_85 (lv_at hl 0 rfl) ?_
            refine lv_isub hx hb dX4_lead_87 ?_
            obtain ⟨o6, eq7, h⟩ := bnd_some h
            refine kPl (rest := []) ⟨hx, hb, hml, hown, hts⟩ (c_X4_chanceParts l x2 ((6 : Int32) - (o4 - 1)) ((6 : Int32) - (x7 - (o4 - 1))) eq7) (va_cwS 3 hts (gAS wm_674 wm_675 wm_227 wm_676) rfl rfl rfl qd_X4_chanceParts ⟨Nat.le_of_ble_eq_true rfl, Nat.le_of_ble_eq_true rfl⟩) rfl hl.1 rfl (Nat.le_of_ble_eq_true rfl) dX4_lead_88 ⟨Nat.zero_le _, Nat.zero_le _⟩ ?_
            refine lv_lstore (lv' := [(12, .long o6), (11, .int (x7 - (o4 - 1))), (10, .int (o4 - 1)), (9, .int (x1 >>> ((x4 - x7) &&& 31))), (8, .int (((1 : Int32) <<< (x7 &&& 31)) ||| (x0 &&& (((1 : Int32) <<< (x7 &&& 31)) - 1)))), (0, .int x0), (1, .int x1), (2, .int x2), (3, .int x3), (4, .int x4), (5, .long x5), (7, .int x7)]) hx hb dX4_lead_91 hl (by decide) rfl (fun ls hl => ?_)
            refine lv_lload hx hb dX4_lead_93 (lv_at hl 10 rfl) ?_
            refine lv_ldc2 (v := 16) hx hb hown kc28 dX4_lead_95 ?_
            refine lv_iload hx hb dX4_lead_98 (lv_at hl 11 rfl) ?_
            obtain ⟨o8, eq9, h⟩ := bnd_some h
            refine kPl (rest := [.long x5]) ⟨hx, hb, hml, hown, hts⟩ (c_X1_power l 16 x7 eq9) (va_cwS 2 hts (gAS wm_677 wm_509 wm_510 wm_511) rfl rfl rfl qd_X1_power ⟨Nat.le_of_ble_eq_true rfl, Nat.le_of_ble_eq_true rfl⟩) rfl hl.1 rfl (Nat.le_of_ble_eq_true rfl) dX4_lead_100 ⟨Nat.zero_le _, Nat.zero_le _⟩ ?_
            refine lv_lload hx hb dX4_lead_103 (lv_at hl 0 rfl) ?_
            refine lv_lmul hx hb dX4_lead_105 ?_
            refine lv_ladd hx hb dX4_lead_106 ?_
            refine lv_lstore (lv' := [(5, .long (x5 + (o8 * o6))), (12, .long o6), (11, .int (x7 - (o4 - 1))), (10, .int (o4 - 1)), (9, .int (x1 >>> ((x4 - x7) &&& 31))), (8, .int (((1 : Int32) <<< (x7 &&& 31)) ||| (x0 &&& (((1 : Int32) <<< (x7 &&& 31)) - 1)))), (0, .int x0), (1, .int x1), (2, .int x2), (3, .int x3), (4, .int x4), (7, .int x7)]) hx hb dX4_lead_107 hl (by decide) rfl (fun ls hl => ?_)
            exact J109 x0 x1 x2 x3 x4 (x5 + (o8 * o6)) x7 ls (lv_sub hl [6, 7, 8, 9, 10, 0, 11] rfl) h
  refine lv_iload_n hx hb dX4_lead_0 rfl (lv_at hl 0 rfl) ?_
  obtain ⟨o10, eq11, h⟩ := bnd_some h
  refine kPi (rest := []) ⟨hx, hb, hml, hown, hts⟩ (c_X4_lengthOf l x0 eq11) (va_cwS 1 hts (gAS wm_229 wm_230 wm_227 wm_231) rfl rfl rfl qd_X4_lengthOf ⟨Nat.le_of_ble_eq_true rfl, Nat.le_of_ble_eq_true rfl⟩) rfl hl.1 rfl (Nat.le_of_ble_eq_true rfl) dX4_lead_1 ⟨Nat.zero_le _, Nat.zero_le _⟩ ?_
  refine lv_istore_n (lv' := [(3, .int o10), (0, .int x0), (1, .int x1), (2, .int x2)]) hx hb dX4_lead_4 rfl hl (by decide) rfl (fun ls hl => ?_)
  refine lv_iload_n hx hb dX4_lead_5 rfl (lv_at hl 2 rfl) ?_
  obtain ⟨o12, eq13, h⟩ := bnd_some h
  refine kPi (rest := []) ⟨hx, hb, hml, hown, hts⟩ (c_X4_lengthOf l x1 eq13) (va_cwS 1 hts (gAS wm_229 wm_230 wm_227 wm_231) rfl rfl rfl qd_X4_lengthOf ⟨Nat.le_of_ble_eq_true rfl, Nat.le_of_ble_eq_true rfl⟩) rfl hl.1 rfl (Nat.le_of_ble_eq_true rfl) dX4_lead_6 ⟨Nat.zero_le _, Nat.zero_le _⟩ ?_
  refine lv_istore (lv' := [(4, .int o12), (3, .int o10), (0, .int x0), (1, .int x1), (2, .int x2)]) hx hb dX4_lead_9 hl (by decide) rfl (fun ls hl => ?_)
  refine lv_lconst (v := 0) hx hb dX4_lead_11 rfl ?_
  refine lv_lstore (lv' := [(5, .long 0), (4, .int o12), (3, .int o10), (0, .int x0), (1, .int x1), (2, .int x2)]) hx hb dX4_lead_12 hl (by decide) rfl (fun ls hl => ?_)
  refine lv_iconst (v := 1) hx hb dX4_lead_14 (by decide) ?_
  refine lv_istore (lv' := [(7, .int 1), (5, .long 0), (4, .int o12), (3, .int o10), (0, .int x0), (1, .int x1), (2, .int x2)]) hx hb dX4_lead_15 hl (by decide) rfl (fun ls hl => ?_)
  exact L17 N x0 x1 x2 o10 o12 0 1 ls (lv_sub hl [4, 5, 6, 3, 2, 1, 0] rfl) h
set_option maxHeartbeats 4000000 in
set_option maxRecDepth 100000 in
theorem c_X4_lead {N : Nat} (l : Launch) (x0 : Int32) (x1 : Int32) (x2 : Int32) {o : Int64} (h : f_X4_lead N x0 x1 x2 = some o) : mPl l yX4_lead wo_X4_lead 2 [.int x0, .int x1, .int x2] o := by
  refine Met.ofW (cc := cX4_lead) (maxL := 14) (ret := some .long) (by decide) rfl ?_
  intro p e s m args below meth c s₁ B hml hv
  obtain ⟨rfl, -⟩ := hv
  rw [lg_entry_eq]
  exact core_X4_lead x0 x1 x2 B.exec B.bytes hml B.returns (atoms_spec (ws := wo_X4_lead) B.pre) (findClass_of_methodNamed B.named) B.notSynchronized (lv_entry [.int x0, .int x1, .int x2] (n := 14) (Nat.le_of_ble_eq_true rfl)) h
theorem qd_X4_lead : yX4_lead.cls ≠ "java/lang/invoke/MethodHandle" ∧ yX4_lead.cls ≠ "java/lang/invoke/VarHandle" ∧ (parseMethodDescriptor yX4_lead.desc).map (fun d => d.parameters.length) = some 3 := by decide +kernel
abbrev wo_X3_measure : List Cond := .code yX3_measure cX3_measure 4 (some .int) :: wsL_law
set_option maxHeartbeats 4000000 in
set_option maxRecDepth 100000 in
theorem core_X3_measure {N : Nat} (x0 : Int32) (x1 : Int32) (x2 : Int32) (x3 : Int32) {p : Program} {l : Launch} {e : Env} {s : State} {m : MethodId} {args : Array Value} {below : List Frame} {meth : Method} {c : Code} {ls : Array Slot} (hx : p.tables.exec = Jvm.exec) (hb : c.code = cX3_measure) (hml : c.maxLocals = 4) (hr : meth.sig.returnType = some .int) (hts : ∀ w ∈ wo_X3_measure, w.before args s = true) (hown : s.vm.findClass RX3 = some m.cls) (hlocks : meth.locks = false) (hl : lv_has ls 4 [(0, .int x0), (1, .int x1), (2, .int x2), (3, .int x3)]) {o : Int32} (h : f_X3_measure N x0 x1 x2 x3 = some o) : gRi p l e wo_X3_measure 2 s m args below meth c o (F0 m 0 ls []) := by
  have ml24 := hts _ (List.mem_cons_of_mem _ wm_205)
  have ms24 := hts _ (List.mem_cons_of_mem _ wm_206)
  have mi24 := hts _ (List.mem_cons_of_mem _ wm_207)
  have mc24 := hts _ (List.mem_cons_of_mem _ wm_208)
  unfold f_X3_measure at h
  refine lv_iload_n hx hb dX3_measure_0 rfl (lv_at hl 0 rfl) ?_
  by_cases c1 : x0 = 0
  · replace h := (if_pos c1).symm.trans h
    refine lv_tableIn (tgt := 40) hx hb dX3_measure_1 (by rw [c1]; decide) (by rw [c1]; decide) (by rw [c1]; rfl) (by decide) ?_
    refine lv_iload_n hx hb dX3_measure_40 rfl (lv_at hl 2 rfl) ?_
    obtain ⟨o2, eq3, h⟩ := bnd_some h
    refine kPi (rest := []) ⟨hx, hb, hml, hown, hts⟩ (c_J6_bitCount_0f7a4 l x2 eq3) (va_cwS 1 hts (gAS wm_209 wm_210 wm_211 wm_212) rfl rfl rfl qd_J6_bitCount_0f7a4 ⟨Nat.le_of_ble_eq_true rfl, Nat.le_of_ble_eq_true rfl⟩) rfl hl.1 rfl (Nat.le_of_ble_eq_true rfl) dX3_measure_41 ⟨Nat.zero_le _, Nat.zero_le _⟩ ?_
    exact W.iret (v := o2) hx hb hr (fun t ht hW => ⟨_, rfl, Option.some.inj h, ht⟩) (fun q hq => by cases hq) dX3_measure_44
  replace h := (if_neg c1).symm.trans h
  by_cases c4 : x0 = 1
  · replace h := (if_pos c4).symm.trans h
    refine lv_tableIn (tgt := 45) hx hb dX3_measure_1 (by rw [c4]; decide) (by rw [c4]; decide) (by rw [c4]; rfl) (by decide) ?_
    refine lv_iload_n hx hb dX3_measure_45 rfl (lv_at hl 1 rfl) ?_
    refine lv_iload_n hx hb dX3_measure_46 rfl (lv_at hl 2 rfl) ?_
    obtain ⟨o5, eq6, h⟩ := bnd_some h
    refine kPi (rest := []) ⟨hx, hb, hml, hown, hts⟩ (c_X3_runs l x1 x2 eq6) (va_cwS 2 hts (gAS wm_216 wm_217 wm_203 wm_218) rfl rfl rfl qd_X3_runs ⟨Nat.le_of_ble_eq_true rfl, Nat.le_of_ble_eq_true rfl⟩) rfl hl.1 rfl (Nat.le_of_ble_eq_true rfl) dX3_measure_47 ⟨Nat.zero_le _, Nat.zero_le _⟩ ?_
    exact W.iret (v := o5) hx hb hr (fun t ht hW => ⟨_, rfl, Option.some.inj h, ht⟩) (fun q hq => by cases hq) dX3_measure_50
  replace h := (if_neg c4).symm.trans h
  by_cases c7 : x0 = 2
  · replace h := (if_pos c7).symm.trans h
    refine lv_tableIn (tgt := 51) hx hb dX3_measure_1 (by rw [c7]; decide) (by rw [c7]; decide) (by rw [c7]; rfl) (by decide) ?_
    refine lv_iload_n hx hb dX3_measure_51 rfl (lv_at hl 2 rfl) ?_
    obtain ⟨o8, eq9, h⟩ := bnd_some h
    refine kPi (rest := []) ⟨hx, hb, hml, hown, hts⟩ (c_X3_longestRun l x2 eq9) (va_cwS 1 hts (gAS wm_219 wm_220 wm_203 wm_221) rfl rfl rfl qd_X3_longestRun ⟨Nat.le_of_ble_eq_true rfl, Nat.le_of_ble_eq_true rfl⟩) rfl hl.1 rfl (Nat.le_of_ble_eq_true rfl) dX3_measure_52 ⟨Nat.zero_le _, Nat.zero_le _⟩ ?_
    refine lv_iload_n hx hb dX3_measure_55 rfl (lv_at hl 2 rfl) ?_
    refine lv_iconst (v := (-1)) hx hb dX3_measure_56 (by decide) ?_
    refine lv_ixor hx hb dX3_measure_57 ?_
    refine lv_iconst (v := 1) hx hb dX3_measure_58 (by decide) ?_
    refine lv_iload_n hx hb dX3_measure_59 rfl (lv_at hl 1 rfl) ?_
    refine lv_ishl hx hb dX3_measure_60 ?_
    refine lv_iconst (v := 1) hx hb dX3_measure_61 (by decide) ?_
    refine lv_isub hx hb dX3_measure_62 ?_
    refine lv_iand hx hb dX3_measure_63 ?_
    obtain ⟨o10, eq11, h⟩ := bnd_some h
    refine kPi (rest := [.int o8]) ⟨hx, hb, hml, hown, hts⟩ (c_X3_longestRun l ((x2 ^^^ (-1)) &&& (((1 : Int32) <<< (x1 &&& 31)) - 1)) eq11) (va_cwS 1 hts (gAS wm_219 wm_220 wm_203 wm_221) rfl rfl rfl qd_X3_longestRun ⟨Nat.le_of_ble_eq_true rfl, Nat.le_of_ble_eq_true rfl⟩) rfl hl.1 rfl (Nat.le_of_ble_eq_true rfl) dX3_measure_64 ⟨Nat.zero_le _, Nat.zero_le _⟩ ?_
    refine va_mmax hx hb (hml.trans hl.1.symm) hown ml24 ms24 mi24 mc24 (Nat.le_of_ble_eq_true rfl) (Nat.le_of_ble_eq_true rfl) (Nat.zero_le _) (Nat.zero_le _) dX3_measure_67 ?_
    exact W.iret (v := (if o8 < o10 then o10 else o8)) hx hb hr (fun t ht hW => ⟨_, rfl, Option.some.inj h, ht⟩) (fun q hq => by cases hq) dX3_measure_70
  replace h := (if_neg c7).symm.trans h
  by_cases c12 : x0 = 3
  · replace h := (if_pos c12).symm.trans h
    refine lv_tableIn (tgt := 71) hx hb dX3_measure_1 (by rw [c12]; decide) (by rw [c12]; decide) (by rw [c12]; rfl) (by decide) ?_
    refine lv_iload_n hx hb dX3_measure_71 rfl (lv_at hl 2 rfl) ?_
    obtain ⟨o13, eq14, h⟩ := bnd_some h
    refine kPi (rest := []) ⟨hx, hb, hml, hown, hts⟩ (c_X3_longestRun l x2 eq14) (va_cwS 1 hts (gAS wm_219 wm_220 wm_203 wm_221) rfl rfl rfl qd_X3_longestRun ⟨Nat.le_of_ble_eq_true rfl, Nat.le_of_ble_eq_true rfl⟩) rfl hl.1 rfl (Nat.le_of_ble_eq_true rfl) dX3_measure_72 ⟨Nat.zero_le _, Nat.zero_le _⟩ ?_
    exact W.iret (v := o13) hx hb hr (fun t ht hW => ⟨_, rfl, Option.some.inj h, ht⟩) (fun q hq => by cases hq) dX3_measure_75
  replace h := (if_neg c12).symm.trans h
  by_cases c15 : x0 = 4
  · replace h := (if_pos c15).symm.trans h
    refine lv_tableIn (tgt := 76) hx hb dX3_measure_1 (by rw [c15]; decide) (by rw [c15]; decide) (by rw [c15]; rfl) (by decide) ?_
    refine lv_iload_n hx hb dX3_measure_76 rfl (lv_at hl 2 rfl) ?_
    refine lv_iload_n hx hb dX3_measure_77 rfl (lv_at hl 2 rfl) ?_
    refine lv_iconst (v := 1) hx hb dX3_measure_78 (by decide) ?_
    refine lv_ishr hx hb dX3_measure_79 ?_
    refine lv_iand hx hb dX3_measure_80 ?_
    obtain ⟨o16, eq17, h⟩ := bnd_some h
    refine kPi (rest := []) ⟨hx, hb, hml, hown, hts⟩ (c_J6_bitCount_0f7a4 l (x2 &&& (x2 >>> ((1 : Int32) &&& 31))) eq17) (va_cwS 1 hts (gAS wm_209 wm_210 wm_211 wm_212) rfl rfl rfl qd_J6_bitCount_0f7a4 ⟨Nat.le_of_ble_eq_true rfl, Nat.le_of_ble_eq_true rfl⟩) rfl hl.1 rfl (Nat.le_of_ble_eq_true rfl) dX3_measure_81 ⟨Nat.zero_le _, Nat.zero_le _⟩ ?_
    exact W.iret (v := o16) hx hb hr (fun t ht hW => ⟨_, rfl, Option.some.inj h, ht⟩) (fun q hq => by cases hq) dX3_measure_84
  replace h := (if_neg c15).symm.trans h
  by_cases c18 : x0 = 5
  · replace h := (if_pos c18).symm.trans h
    refine lv_tableIn (tgt := 85) hx hb dX3_measure_1 (by rw [c18]; decide) (by rw [c18]; decide) (by rw [c18]; rfl) (by decide) ?_
    refine lv_iload_n hx hb dX3_measure_85 rfl (lv_at hl 1 rfl) ?_
    refine lv_iload_n hx hb dX3_measure_86 rfl (lv_at hl 2 rfl) ?_
    obtain ⟨o19, eq20, h⟩ := bnd_some h
    refine kPi (rest := []) ⟨hx, hb, hml, hown, hts⟩ (c_X3_firstHit l x1 x2 eq20) (va_cwS 2 hts (gAS wm_222 wm_223 wm_203 wm_224) rfl rfl rfl qd_X3_firstHit ⟨Nat.le_of_ble_eq_true rfl, Nat.le_of_ble_eq_true rfl⟩) rfl hl.1 rfl (Nat.le_of_ble_eq_true rfl) dX3_measure_87 ⟨Nat.zero_le _, Nat.zero_le _⟩ ?_
    exact W.iret (v := o19) hx hb hr (fun t ht hW => ⟨_, rfl, Option.some.inj h, ht⟩) (fun q hq => by cases hq) dX3_measure_90
  replace h := (if_neg c18).symm.trans h
  refine lv_tableOut (tgt := 91) hx hb dX3_measure_1 (xOut_6 c1 c4 c7 c12 c15 c18) (by decide) ?_
  refine lv_iload_n hx hb dX3_measure_91 rfl (lv_at hl 3 rfl) ?_
  refine lv_iload_n hx hb dX3_measure_92 rfl (lv_at hl 1 rfl) ?_
  refine lv_iload_n hx hb dX3_measure_93 rfl (lv_at hl 2 rfl) ?_
  obtain ⟨o21, eq22, h⟩ := bnd_some h
  refine kPi (rest := []) ⟨hx, hb, hml, hown, hts⟩ (c_X4_timesIn l x3 x1 x2 eq22) (va_cwS 3 hts (gAS wm_225 wm_226 wm_227 wm_228) rfl rfl rfl qd_X4_timesIn ⟨Nat.le_of_ble_eq_true rfl, Nat.le_of_ble_eq_true rfl⟩) rfl hl.1 rfl (Nat.le_of_ble_eq_true rfl) dX3_measure_94 ⟨Nat.zero_le _, Nat.zero_le _⟩ ?_
  exact W.iret (v := o21) hx hb hr (fun t ht hW => ⟨_, rfl, Option.some.inj h, ht⟩) (fun q hq => by cases hq) dX3_measure_97
set_option maxHeartbeats 4000000 in
set_option maxRecDepth 100000 in
theorem c_X3_measure {N : Nat} (l : Launch) (x0 : Int32) (x1 : Int32) (x2 : Int32) (x3 : Int32) {o : Int32} (h : f_X3_measure N x0 x1 x2 x3 = some o) : mPi l yX3_measure wo_X3_measure 2 [.int x0, .int x1, .int x2, .int x3] o := by
  refine Met.ofW (cc := cX3_measure) (maxL := 4) (ret := some .int) (by decide) rfl ?_
  intro p e s m args below meth c s₁ B hml hv
  obtain ⟨rfl, -⟩ := hv
  rw [lg_entry_eq]
  exact core_X3_measure x0 x1 x2 x3 B.exec B.bytes hml B.returns (atoms_spec (ws := wo_X3_measure) B.pre) (findClass_of_methodNamed B.named) B.notSynchronized (lv_entry [.int x0, .int x1, .int x2, .int x3] (n := 4) (Nat.le_of_ble_eq_true rfl)) h
theorem qd_X3_measure : yX3_measure.cls ≠ "java/lang/invoke/MethodHandle" ∧ yX3_measure.cls ≠ "java/lang/invoke/VarHandle" ∧ (parseMethodDescriptor yX3_measure.desc).map (fun d => d.parameters.length) = some 4 := by decide +kernel
abbrev wo_X5_maySee : List Cond := .code yX5_maySee cX5_maySee 1 (some .boolean) :: wsL_law
set_option maxHeartbeats 4000000 in
set_option maxRecDepth 100000 in
theorem core_X5_maySee (x0 : Int32) {p : Program} {l : Launch} {e : Env} {s : State} {m : MethodId} {args : Array Value} {below : List Frame} {meth : Method} {c : Code} {ls : Array Slot} (hx : p.tables.exec = Jvm.exec) (hb : c.code = cX5_maySee) (hml : c.maxLocals = 1) (hr : meth.sig.returnType = some .boolean) (hts : ∀ w ∈ wo_X5_maySee, w.before args s = true) (hown : s.vm.findClass RX5 = some m.cls) (hlocks : meth.locks = false) (hl : lv_has ls 1 [(0, .int x0)]) {o : Int32} (h : f_X5_maySee x0 = some o) : gRi p l e wo_X5_maySee 0 s m args below meth c o (F0 m 0 ls []) := by
  unfold f_X5_maySee at h
  have J14 : ∀ (ls : Array Slot) (hl : lv_has ls 1 []) (h : f_X5_maySee_14  = some o), gRi p l e wo_X5_maySee 0 s m args below meth c o (F0 m 14 ls []) := by
    intro ls hl h
    unfold f_X5_maySee_14 at h
    refine lv_iconst (v := 1) hx hb dX5_maySee_14 (by decide) ?_
    refine lv_goto (tgt := 19) hx hb dX5_maySee_15 (by decide) ?_
    exact W.zret (v := 1) hx hb hr rfl (fun t ht hW => ⟨_, rfl, Option.some.inj h, ht⟩) (fun q hq => by cases hq) dX5_maySee_19
  refine lv_iload_n hx hb dX5_maySee_0 rfl (lv_at hl 0 rfl) ?_
  refine lv_iconst (v := 1) hx hb dX5_maySee_1 (by decide) ?_
  refine lv_icmp_eq (tgt := 14) hx hb dX5_maySee_2 (by decide) (fun c1 => ?_) (fun c1 => ?_)
  · replace h := (if_pos c1).symm.trans h
    exact J14 ls (lv_sub hl [] rfl) h
  · replace h := (if_neg c1).symm.trans h
    refine lv_iload_n hx hb dX5_maySee_5 rfl (lv_at hl 0 rfl) ?_
    refine lv_if_eq (tgt := 14) hx hb dX5_maySee_6 (by decide) (fun c2 => ?_) (fun c2 => ?_)
    · replace h := (if_pos c2).symm.trans h
      exact J14 ls (lv_sub hl [] rfl) h
    · replace h := (if_neg c2).symm.trans h
      refine lv_iload_n hx hb dX5_maySee_9 rfl (lv_at hl 0 rfl) ?_
      refine lv_iconst (v := (-1)) hx hb dX5_maySee_10 (by decide) ?_
      refine lv_icmp_ne (tgt := 18) hx hb dX5_maySee_11 (by decide) (fun c3 => ?_) (fun c3 => ?_)
      · replace h := (if_neg c3).symm.trans h
        refine lv_iconst (v := 0) hx hb dX5_maySee_18 (by decide) ?_
        exact W.zret (v := 0) hx hb hr rfl (fun t ht hW => ⟨_, rfl, Option.some.inj h, ht⟩) (fun q hq => by cases hq) dX5_maySee_19
      · replace h := (if_pos c3).symm.trans h
        exact J14 ls (lv_sub hl [] rfl) h
set_option maxHeartbeats 4000000 in
set_option maxRecDepth 100000 in
theorem c_X5_maySee (l : Launch) (x0 : Int32) {o : Int32} (h : f_X5_maySee x0 = some o) : mPi l yX5_maySee wo_X5_maySee 0 [.int x0] o := by
  refine Met.ofW (cc := cX5_maySee) (maxL := 1) (ret := some .boolean) (by decide) rfl ?_
  intro p e s m args below meth c s₁ B hml hv
  obtain ⟨rfl, -⟩ := hv
  rw [lg_entry_eq]
  exact core_X5_maySee x0 B.exec B.bytes hml B.returns (atoms_spec (ws := wo_X5_maySee) B.pre) (findClass_of_methodNamed B.named) B.notSynchronized (lv_entry [.int x0] (n := 1) (Nat.le_of_ble_eq_true rfl)) h
theorem qd_X5_maySee : yX5_maySee.cls ≠ "java/lang/invoke/MethodHandle" ∧ yX5_maySee.cls ≠ "java/lang/invoke/VarHandle" ∧ (parseMethodDescriptor yX5_maySee.desc).map (fun d => d.parameters.length) = some 1 := by decide +kernel
abbrev wo_X2_howMany : List Cond := .code yX2_howMany cX2_howMany 4 (some .int) :: wsL_law
set_option maxHeartbeats 4000000 in
set_option maxRecDepth 100000 in
theorem core_X2_howMany {N : Nat} (D : va_G) (k : Nat → ClassId) (a : Nat → Nat) (xLen : Nat → Int32) (xHits : Nat → Int32) (xUns : Nat → Int32) (xItems : Nat → Nat → Int32) (xLost : Nat → Int32) (xKind : Nat → Int32) (xSize : Nat → Int32) (xLet : Nat → Int32) (xRel : Nat → Int32) (xLim : Nat → Int32) (xOpen : Nat → Int32) (xMeas : Nat → Int32) (xSL : Int32) (xST : Int32) (xSD : Int32) (xSK : Int32) (xTal : Nat → Nat → Int32) (xKn : Nat → Int32) (xFT : Nat → Int32) (xFA : Int32) (xFE : Int32) (xOdds : Int32) (xPat : Int32) (xFind : Int32) (e0 : Nat) (he0 : e0 < 4) {p : Program} {l : Launch} {e : Env} {s : State} {m : MethodId} {args : Array Value} {below : List Frame} {meth : Method} {c : Code} {ls : Array Slot} (hx : p.tables.exec = Jvm.exec) (hb : c.code = cX2_howMany) (hml : c.maxLocals = 4) (hr : meth.sig.returnType = some .int) (hts : ∀ w ∈ wo_X2_howMany, w.before args s = true) (hown : s.vm.findClass RX2 = some m.cls) (hlocks : meth.locks = false) (hl : lv_has ls 4 [(0, .ref (a (14 + e0)))]) (hK : va_K D vwCl (xTys k) s) (hP : va_P D vwCl (wX k a xLen xHits xUns xItems xLost xKind xSize xLet xRel xLim xOpen xMeas xSL xST xSD xSK xTal xKn xFT xFA xFE xOdds xPat xFind) s.heap) {o : Int32} (h : f_X2_howMany N e0 xLen xHits = some o) : gRi p l e wo_X2_howMany 1 s m args below meth c o (F0 m 0 ls []) := by
  have hi5 := (fun w h => List.mem_cons_of_mem _ (inlX5 w h) : ∀ w ∈ wsX50, w ∈ wo_X2_howMany)
  have kf19 := hts _ (List.mem_cons_of_mem _ wm_595)
  have kf7 := hts _ (List.mem_cons_of_mem _ wm_594)
  unfold f_X2_howMany at h
  have L12 : ∀ (n12 : Nat) (e0 : Nat) (x1 : Int32) (x2 : Int32) (x3 : Int32) (ls : Array Slot) (he0 : e0 < 4) (hl : lv_has ls 4 [(0, .ref (a (14 + e0))), (1, .int x1), (2, .int x2), (3, .int x3)]) (h : f_X2_howMany_12 N n12 e0 x1 x2 x3 xLen xHits = some o), gRi p l e wo_X2_howMany 1 s m args below meth c o (F0 m 12 ls []) := by
    intro n12
    induction n12 with
    | zero => intro e0 x1 x2 x3 ls he0 hl h; cases (show (none : Option (Int32)) = some o from h)
    | succ n12 ih12 =>
      intro e0 x1 x2 x3 ls he0 hl h
      rw [f_X2_howMany_12] at h
      refine lv_iload_n hx hb dX2_howMany_12 rfl (lv_at hl 3 rfl) ?_
      refine lv_iload_n hx hb dX2_howMany_13 rfl (lv_at hl 1 rfl) ?_
      refine lv_icmp_gt (tgt := 36) hx hb dX2_howMany_14 (by decide) (fun c1 => ?_) (fun c1 => ?_)
      · replace h := (if_pos c1).symm.trans h
        refine lv_iload_n hx hb dX2_howMany_36 rfl (lv_at hl 2 rfl) ?_
        exact W.iret (v := x2) hx hb hr (fun t ht hW => ⟨_, rfl, Option.some.inj h, ht⟩) (fun q hq => by cases hq) dX2_howMany_37
      · replace h := (if_neg c1).symm.trans h
        refine lv_iload_n hx hb dX2_howMany_17 rfl (lv_at hl 2 rfl) ?_
        refine lv_aload_n hx hb dX2_howMany_18 rfl (lv_at hl 0 rfl) ?_
        refine va_get (D := D) (ci := 1) (v := .int (xLen e0)) (C := RX5) (T := TX5) (N := 3) hx hb hts hi5 hown hK hP ((14 + e0)) (wX_row he0) rfl 0 (by decide) kf19 (fun _ h9 => h9) rfl dX2_howMany_19 ?_
        refine lv_iload_n hx hb dX2_howMany_22 rfl (lv_at hl 1 rfl) ?_
        refine lv_isub hx hb dX2_howMany_23 ?_
        refine lv_iload_n hx hb dX2_howMany_24 rfl (lv_at hl 3 rfl) ?_
        refine lv_iadd hx hb dX2_howMany_25 ?_
        refine lv_imul hx hb dX2_howMany_26 ?_
        refine lv_iload_n hx hb dX2_howMany_27 rfl (lv_at hl 3 rfl) ?_
        obtain ⟨g2, h⟩ := gNe_some h
        refine lv_idiv hx hb dX2_howMany_28 g2 ?_
        refine lv_istore_n (lv' := [(2, .int ((x2 * (((xLen e0) - x1) + x3)) / x3)), (0, .ref (a (14 + e0))), (1, .int x1), (3, .int x3)]) hx hb dX2_howMany_29 rfl hl (by decide) rfl (fun ls hl => ?_)
        refine lv_iinc (v := (x3 + 1)) (lv' := [(3, .int (x3 + 1)), (2, .int ((x2 * (((xLen e0) - x1) + x3)) / x3)), (0, .ref (a (14 + e0))), (1, .int x1)]) hx hb dX2_howMany_30 hl (k := 3) rfl rfl (by decide) rfl (fun ls hl => ?_)
        refine lv_goto (tgt := 12) hx hb dX2_howMany_33 (by decide) ?_
        exact ih12 e0 x1 ((x2 * (((xLen e0) - x1) + x3)) / x3) (x3 + 1) ls he0 (lv_sub hl [2, 3, 1, 0] rfl) h
  refine lv_aload_n hx hb dX2_howMany_0 rfl (lv_at hl 0 rfl) ?_
  refine va_get (D := D) (ci := 1) (v := .int (xHits e0)) (C := RX5) (T := TX5) (N := 3) hx hb hts hi5 hown hK hP ((14 + e0)) (wX_row he0) rfl 1 (by decide) kf7 (fun _ h9 => h9) rfl dX2_howMany_1 ?_
  obtain ⟨o3, eq4, h⟩ := bnd_some h
  refine kPi (rest := []) ⟨hx, hb, hml, hown, hts⟩ (c_J6_bitCount_0f7a4 l (xHits e0) eq4) (va_cwS 1 hts (gAS wm_596 wm_210 wm_211 wm_212) rfl rfl rfl qd_J6_bitCount_0f7a4 ⟨Nat.le_of_ble_eq_true rfl, Nat.le_of_ble_eq_true rfl⟩) rfl hl.1 rfl (Nat.le_of_ble_eq_true rfl) dX2_howMany_4 ⟨Nat.zero_le _, Nat.zero_le _⟩ ?_
  refine lv_istore_n (lv' := [(1, .int o3), (0, .ref (a (14 + e0)))]) hx hb dX2_howMany_7 rfl hl (by decide) rfl (fun ls hl => ?_)
  refine lv_iconst (v := 1) hx hb dX2_howMany_8 (by decide) ?_
  refine lv_istore_n (lv' := [(2, .int 1), (1, .int o3), (0, .ref (a (14 + e0)))]) hx hb dX2_howMany_9 rfl hl (by decide) rfl (fun ls hl => ?_)
  refine lv_iconst (v := 1) hx hb dX2_howMany_10 (by decide) ?_
  refine lv_istore_n (lv' := [(3, .int 1), (2, .int 1), (1, .int o3), (0, .ref (a (14 + e0)))]) hx hb dX2_howMany_11 rfl hl (by decide) rfl (fun ls hl => ?_)
  exact L12 N e0 o3 1 1 ls he0 (lv_sub hl [3, 2, 1, 0] rfl) h
set_option maxHeartbeats 4000000 in
set_option maxRecDepth 100000 in
theorem c_X2_howMany {N : Nat} (l : Launch) (D : va_G) (k : Nat → ClassId) (a : Nat → Nat) (xLen : Nat → Int32) (xHits : Nat → Int32) (xUns : Nat → Int32) (xItems : Nat → Nat → Int32) (xLost : Nat → Int32) (xKind : Nat → Int32) (xSize : Nat → Int32) (xLet : Nat → Int32) (xRel : Nat → Int32) (xLim : Nat → Int32) (xOpen : Nat → Int32) (xMeas : Nat → Int32) (xSL : Int32) (xST : Int32) (xSD : Int32) (xSK : Int32) (xTal : Nat → Nat → Int32) (xKn : Nat → Int32) (xFT : Nat → Int32) (xFA : Int32) (xFE : Int32) (xOdds : Int32) (xPat : Int32) (xFind : Int32) (e0 : Nat) (he0 : e0 < 4) {o : Int32} (h : f_X2_howMany N e0 xLen xHits = some o) : mRi l yX2_howMany wo_X2_howMany 1 D k [.ref (a (14 + e0))] (wX k a xLen xHits xUns xItems xLost xKind xSize xLet xRel xLim xOpen xMeas xSL xST xSD xSK xTal xKn xFT xFA xFE xOdds xPat xFind) o := by
  refine Met.ofW (cc := cX2_howMany) (maxL := 4) (ret := some .int) (by decide) rfl ?_
  intro p e s m args below meth c s₁ B hml hv
  obtain ⟨rfl, hP, hK⟩ := hv
  rw [lg_entry_eq]
  exact core_X2_howMany D k a xLen xHits xUns xItems xLost xKind xSize xLet xRel xLim xOpen xMeas xSL xST xSD xSK xTal xKn xFT xFA xFE xOdds xPat xFind e0 he0 B.exec B.bytes hml B.returns (atoms_spec (ws := wo_X2_howMany) B.pre) (findClass_of_methodNamed B.named) B.notSynchronized (lv_entry [.ref (a (14 + e0))] (n := 4) (Nat.le_of_ble_eq_true rfl)) hK hP h
theorem qd_X2_howMany : yX2_howMany.cls ≠ "java/lang/invoke/MethodHandle" ∧ yX2_howMany.cls ≠ "java/lang/invoke/VarHandle" ∧ (parseMethodDescriptor yX2_howMany.desc).map (fun d => d.parameters.length) = some 1 := by decide +kernel
abbrev wo_X2_lowest : List Cond := .code yX2_lowest cX2_lowest 1 (some .int) :: wsL_law
set_option maxHeartbeats 4000000 in
set_option maxRecDepth 100000 in
theorem core_X2_lowest (D : va_G) (k : Nat → ClassId) (a : Nat → Nat) (xLen : Nat → Int32) (xHits : Nat → Int32) (xUns : Nat → Int32) (xItems : Nat → Nat → Int32) (xLost : Nat → Int32) (xKind : Nat → Int32) (xSize : Nat → Int32) (xLet : Nat → Int32) (xRel : Nat → Int32) (xLim : Nat → Int32) (xOpen : Nat → Int32) (xMeas : Nat → Int32) (xSL : Int32) (xST : Int32) (xSD : Int32) (xSK : Int32) (xTal : Nat → Nat → Int32) (xKn : Nat → Int32) (xFT : Nat → Int32) (xFA : Int32) (xFE : Int32) (xOdds : Int32) (xPat : Int32) (xFind : Int32) (e0 : Nat) (he0 : e0 < 4) {p : Program} {l : Launch} {e : Env} {s : State} {m : MethodId} {args : Array Value} {below : List Frame} {meth : Method} {c : Code} {ls : Array Slot} (hx : p.tables.exec = Jvm.exec) (hb : c.code = cX2_lowest) (hml : c.maxLocals = 1) (hr : meth.sig.returnType = some .int) (hts : ∀ w ∈ wo_X2_lowest, w.before args s = true) (hown : s.vm.findClass RX2 = some m.cls) (hlocks : meth.locks = false) (hl : lv_has ls 1 [(0, .ref (a (14 + e0)))]) (hK : va_K D vwCl (xTys k) s) (hP : va_P D vwCl (wX k a xLen xHits xUns xItems xLost xKind xSize xLet xRel xLim xOpen xMeas xSL xST xSD xSK xTal xKn xFT xFA xFE xOdds xPat xFind) s.heap) {o : Int32} (h : f_X2_lowest e0 xHits = some o) : gRi p l e wo_X2_lowest 1 s m args below meth c o (F0 m 0 ls []) := by
  have hi5 := (fun w h => List.mem_cons_of_mem _ (inlX5 w h) : ∀ w ∈ wsX50, w ∈ wo_X2_lowest)
  have kf7 := hts _ (List.mem_cons_of_mem _ wm_594)
  unfold f_X2_lowest at h
  refine lv_iconst (v := 1) hx hb dX2_lowest_0 (by decide) ?_
  refine lv_aload_n hx hb dX2_lowest_1 rfl (lv_at hl 0 rfl) ?_
  refine va_get (D := D) (ci := 1) (v := .int (xHits e0)) (C := RX5) (T := TX5) (N := 3) hx hb hts hi5 hown hK hP ((14 + e0)) (wX_row he0) rfl 1 (by decide) kf7 (fun _ h9 => h9) rfl dX2_lowest_2 ?_
  obtain ⟨o1, eq2, h⟩ := bnd_some h
  refine kPi (rest := [.int 1]) ⟨hx, hb, hml, hown, hts⟩ (c_J6_bitCount_0f7a4 l (xHits e0) eq2) (va_cwS 1 hts (gAS wm_596 wm_210 wm_211 wm_212) rfl rfl rfl qd_J6_bitCount_0f7a4 ⟨Nat.le_of_ble_eq_true rfl, Nat.le_of_ble_eq_true rfl⟩) rfl hl.1 rfl (Nat.le_of_ble_eq_true rfl) dX2_lowest_5 ⟨Nat.zero_le _, Nat.zero_le _⟩ ?_
  refine lv_ishl hx hb dX2_lowest_8 ?_
  refine lv_iconst (v := 1) hx hb dX2_lowest_9 (by decide) ?_
  refine lv_isub hx hb dX2_lowest_10 ?_
  exact W.iret (v := (((1 : Int32) <<< (o1 &&& 31)) - 1)) hx hb hr (fun t ht hW => ⟨_, rfl, Option.some.inj h, ht⟩) (fun q hq => by cases hq) dX2_lowest_11
set_option maxHeartbeats 4000000 in
set_option maxRecDepth 100000 in
theorem c_X2_lowest (l : Launch) (D : va_G) (k : Nat → ClassId) (a : Nat → Nat) (xLen : Nat → Int32) (xHits : Nat → Int32) (xUns : Nat → Int32) (xItems : Nat → Nat → Int32) (xLost : Nat → Int32) (xKind : Nat → Int32) (xSize : Nat → Int32) (xLet : Nat → Int32) (xRel : Nat → Int32) (xLim : Nat → Int32) (xOpen : Nat → Int32) (xMeas : Nat → Int32) (xSL : Int32) (xST : Int32) (xSD : Int32) (xSK : Int32) (xTal : Nat → Nat → Int32) (xKn : Nat → Int32) (xFT : Nat → Int32) (xFA : Int32) (xFE : Int32) (xOdds : Int32) (xPat : Int32) (xFind : Int32) (e0 : Nat) (he0 : e0 < 4) {o : Int32} (h : f_X2_lowest e0 xHits = some o) : mRi l yX2_lowest wo_X2_lowest 1 D k [.ref (a (14 + e0))] (wX k a xLen xHits xUns xItems xLost xKind xSize xLet xRel xLim xOpen xMeas xSL xST xSD xSK xTal xKn xFT xFA xFE xOdds xPat xFind) o := by
  refine Met.ofW (cc := cX2_lowest) (maxL := 1) (ret := some .int) (by decide) rfl ?_
  intro p e s m args below meth c s₁ B hml hv
  obtain ⟨rfl, hP, hK⟩ := hv
  rw [lg_entry_eq]
  exact core_X2_lowest D k a xLen xHits xUns xItems xLost xKind xSize xLet xRel xLim xOpen xMeas xSL xST xSD xSK xTal xKn xFT xFA xFE xOdds xPat xFind e0 he0 B.exec B.bytes hml B.returns (atoms_spec (ws := wo_X2_lowest) B.pre) (findClass_of_methodNamed B.named) B.notSynchronized (lv_entry [.ref (a (14 + e0))] (n := 1) (Nat.le_of_ble_eq_true rfl)) hK hP h
theorem qd_X2_lowest : yX2_lowest.cls ≠ "java/lang/invoke/MethodHandle" ∧ yX2_lowest.cls ≠ "java/lang/invoke/VarHandle" ∧ (parseMethodDescriptor yX2_lowest.desc).map (fun d => d.parameters.length) = some 1 := by decide +kernel
abbrev wo_X5_isFull : List Cond := .code yX5_isFull cX5_isFull 1 (some .boolean) :: wsL_law
set_option maxHeartbeats 4000000 in
set_option maxRecDepth 100000 in
theorem core_X5_isFull (D : va_G) (k : Nat → ClassId) (a : Nat → Nat) (xLen : Nat → Int32) (xHits : Nat → Int32) (xUns : Nat → Int32) (xItems : Nat → Nat → Int32) (xLost : Nat → Int32) (xKind : Nat → Int32) (xSize : Nat → Int32) (xLet : Nat → Int32) (xRel : Nat → Int32) (xLim : Nat → Int32) (xOpen : Nat → Int32) (xMeas : Nat → Int32) (xSL : Int32) (xST : Int32) (xSD : Int32) (xSK : Int32) (xTal : Nat → Nat → Int32) (xKn : Nat → Int32) (xFT : Nat → Int32) (xFA : Int32) (xFE : Int32) (xOdds : Int32) (xPat : Int32) (xFind : Int32) (e0 : Nat) (he0 : e0 < 4) {p : Program} {l : Launch} {e : Env} {s : State} {m : MethodId} {args : Array Value} {below : List Frame} {meth : Method} {c : Code} {ls : Array Slot} (hx : p.tables.exec = Jvm.exec) (hb : c.code = cX5_isFull) (hml : c.maxLocals = 1) (hr : meth.sig.returnType = some .boolean) (hts : ∀ w ∈ wo_X5_isFull, w.before args s = true) (hown : s.vm.findClass RX5 = some m.cls) (hlocks : meth.locks = false) (hl : lv_has ls 1 [(0, .ref (a (14 + e0)))]) (hK : va_K D vwCl (xTys k) s) (hP : va_P D vwCl (wX k a xLen xHits xUns xItems xLost xKind xSize xLet xRel xLim xOpen xMeas xSL xST xSD xSK xTal xKn xFT xFA xFE xOdds xPat xFind) s.heap) {o : Int32} (h : f_X5_isFull e0 xLen = some o) : gRi p l e wo_X5_isFull 0 s m args below meth c o (F0 m 0 ls []) := by
  have hi5 := (fun w h => List.mem_cons_of_mem _ (inlX5 w h) : ∀ w ∈ wsX50, w ∈ wo_X5_isFull)
  have kf9 := hts _ (List.mem_cons_of_mem _ wm_102)
  unfold f_X5_isFull at h
  refine lv_aload_n hx hb dX5_isFull_0 rfl (lv_at hl 0 rfl) ?_
  refine va_get (D := D) (ci := 1) (v := .int (xLen e0)) (C := RX5) (T := TX5) (N := 3) hx hb hts hi5 hown hK hP ((14 + e0)) (wX_row he0) rfl 0 (by decide) kf9 (fun _ h9 => h9) rfl dX5_isFull_1 ?_
  refine lv_bipush (v := 15) hx hb dX5_isFull_4 (by decide) ?_
  refine lv_icmp_lt (tgt := 13) hx hb dX5_isFull_6 (by decide) (fun c1 => ?_) (fun c1 => ?_)
  · replace h := (if_pos c1).symm.trans h
    refine lv_iconst (v := 0) hx hb dX5_isFull_13 (by decide) ?_
    exact W.zret (v := 0) hx hb hr rfl (fun t ht hW => ⟨_, rfl, Option.some.inj h, ht⟩) (fun q hq => by cases hq) dX5_isFull_14
  · replace h := (if_neg c1).symm.trans h
    refine lv_iconst (v := 1) hx hb dX5_isFull_9 (by decide) ?_
    refine lv_goto (tgt := 14) hx hb dX5_isFull_10 (by decide) ?_
    exact W.zret (v := 1) hx hb hr rfl (fun t ht hW => ⟨_, rfl, Option.some.inj h, ht⟩) (fun q hq => by cases hq) dX5_isFull_14
set_option maxHeartbeats 4000000 in
set_option maxRecDepth 100000 in
theorem c_X5_isFull (l : Launch) (D : va_G) (k : Nat → ClassId) (a : Nat → Nat) (xLen : Nat → Int32) (xHits : Nat → Int32) (xUns : Nat → Int32) (xItems : Nat → Nat → Int32) (xLost : Nat → Int32) (xKind : Nat → Int32) (xSize : Nat → Int32) (xLet : Nat → Int32) (xRel : Nat → Int32) (xLim : Nat → Int32) (xOpen : Nat → Int32) (xMeas : Nat → Int32) (xSL : Int32) (xST : Int32) (xSD : Int32) (xSK : Int32) (xTal : Nat → Nat → Int32) (xKn : Nat → Int32) (xFT : Nat → Int32) (xFA : Int32) (xFE : Int32) (xOdds : Int32) (xPat : Int32) (xFind : Int32) (e0 : Nat) (he0 : e0 < 4) {o : Int32} (h : f_X5_isFull e0 xLen = some o) : mRi l yX5_isFull wo_X5_isFull 0 D k [.ref (a (14 + e0))] (wX k a xLen xHits xUns xItems xLost xKind xSize xLet xRel xLim xOpen xMeas xSL xST xSD xSK xTal xKn xFT xFA xFE xOdds xPat xFind) o := by
  refine Met.ofW (cc := cX5_isFull) (maxL := 1) (ret := some .boolean) (by decide) rfl ?_
  intro p e s m args below meth c s₁ B hml hv
  obtain ⟨rfl, hP, hK⟩ := hv
  rw [lg_entry_eq]
  exact core_X5_isFull D k a xLen xHits xUns xItems xLost xKind xSize xLet xRel xLim xOpen xMeas xSL xST xSD xSK xTal xKn xFT xFA xFE xOdds xPat xFind e0 he0 B.exec B.bytes hml B.returns (atoms_spec (ws := wo_X5_isFull) B.pre) (findClass_of_methodNamed B.named) B.notSynchronized (lv_entry [.ref (a (14 + e0))] (n := 1) (Nat.le_of_ble_eq_true rfl)) hK hP h
theorem qd_X5_isFull : yX5_isFull.cls = RX5 ∧ yX5_isFull.cls ≠ "java/lang/invoke/MethodHandle" ∧ yX5_isFull.cls ≠ "java/lang/invoke/VarHandle" ∧ (parseMethodDescriptor yX5_isFull.desc).map (fun d => d.parameters.length) = some 0 := by decide +kernel
abbrev wo_X5_isWhole : List Cond := .code yX5_isWhole cX5_isWhole 1 (some .boolean) :: wsL_law
set_option maxHeartbeats 4000000 in
set_option maxRecDepth 100000 in
theorem core_X5_isWhole (D : va_G) (k : Nat → ClassId) (a : Nat → Nat) (xLen : Nat → Int32) (xHits : Nat → Int32) (xUns : Nat → Int32) (xItems : Nat → Nat → Int32) (xLost : Nat → Int32) (xKind : Nat → Int32) (xSize : Nat → Int32) (xLet : Nat → Int32) (xRel : Nat → Int32) (xLim : Nat → Int32) (xOpen : Nat → Int32) (xMeas : Nat → Int32) (xSL : Int32) (xST : Int32) (xSD : Int32) (xSK : Int32) (xTal : Nat → Nat → Int32) (xKn : Nat → Int32) (xFT : Nat → Int32) (xFA : Int32) (xFE : Int32) (xOdds : Int32) (xPat : Int32) (xFind : Int32) (e0 : Nat) (he0 : e0 < 4) {p : Program} {l : Launch} {e : Env} {s : State} {m : MethodId} {args : Array Value} {below : List Frame} {meth : Method} {c : Code} {ls : Array Slot} (hx : p.tables.exec = Jvm.exec) (hb : c.code = cX5_isWhole) (hml : c.maxLocals = 1) (hr : meth.sig.returnType = some .boolean) (hts : ∀ w ∈ wo_X5_isWhole, w.before args s = true) (hown : s.vm.findClass RX5 = some m.cls) (hlocks : meth.locks = false) (hl : lv_has ls 1 [(0, .ref (a (14 + e0)))]) (hK : va_K D vwCl (xTys k) s) (hP : va_P D vwCl (wX k a xLen xHits xUns xItems xLost xKind xSize xLet xRel xLim xOpen xMeas xSL xST xSD xSK xTal xKn xFT xFA xFE xOdds xPat xFind) s.heap) {o : Int32} (h : f_X5_isWhole e0 xUns = some o) : gRi p l e wo_X5_isWhole 0 s m args below meth c o (F0 m 0 ls []) := by
  have hi5 := (fun w h => List.mem_cons_of_mem _ (inlX5 w h) : ∀ w ∈ wsX50, w ∈ wo_X5_isWhole)
  have kf15 := hts _ (List.mem_cons_of_mem _ wm_108)
  unfold f_X5_isWhole at h
  refine lv_aload_n hx hb dX5_isWhole_0 rfl (lv_at hl 0 rfl) ?_
  refine va_get (D := D) (ci := 1) (v := .int (xUns e0)) (C := RX5) (T := TX5) (N := 3) hx hb hts hi5 hown hK hP ((14 + e0)) (wX_row he0) rfl 2 (by decide) kf15 (fun _ h9 => h9) rfl dX5_isWhole_1 ?_
  refine lv_if_ne (tgt := 11) hx hb dX5_isWhole_4 (by decide) (fun c1 => ?_) (fun c1 => ?_)
  · replace h := (if_neg c1).symm.trans h
    refine lv_iconst (v := 0) hx hb dX5_isWhole_11 (by decide) ?_
    exact W.zret (v := 0) hx hb hr rfl (fun t ht hW => ⟨_, rfl, Option.some.inj h, ht⟩) (fun q hq => by cases hq) dX5_isWhole_12
  · replace h := (if_pos c1).symm.trans h
    refine lv_iconst (v := 1) hx hb dX5_isWhole_7 (by decide) ?_
    refine lv_goto (tgt := 12) hx hb dX5_isWhole_8 (by decide) ?_
    exact W.zret (v := 1) hx hb hr rfl (fun t ht hW => ⟨_, rfl, Option.some.inj h, ht⟩) (fun q hq => by cases hq) dX5_isWhole_12
set_option maxHeartbeats 4000000 in
set_option maxRecDepth 100000 in
theorem c_X5_isWhole (l : Launch) (D : va_G) (k : Nat → ClassId) (a : Nat → Nat) (xLen : Nat → Int32) (xHits : Nat → Int32) (xUns : Nat → Int32) (xItems : Nat → Nat → Int32) (xLost : Nat → Int32) (xKind : Nat → Int32) (xSize : Nat → Int32) (xLet : Nat → Int32) (xRel : Nat → Int32) (xLim : Nat → Int32) (xOpen : Nat → Int32) (xMeas : Nat → Int32) (xSL : Int32) (xST : Int32) (xSD : Int32) (xSK : Int32) (xTal : Nat → Nat → Int32) (xKn : Nat → Int32) (xFT : Nat → Int32) (xFA : Int32) (xFE : Int32) (xOdds : Int32) (xPat : Int32) (xFind : Int32) (e0 : Nat) (he0 : e0 < 4) {o : Int32} (h : f_X5_isWhole e0 xUns = some o) : mRi l yX5_isWhole wo_X5_isWhole 0 D k [.ref (a (14 + e0))] (wX k a xLen xHits xUns xItems xLost xKind xSize xLet xRel xLim xOpen xMeas xSL xST xSD xSK xTal xKn xFT xFA xFE xOdds xPat xFind) o := by
  refine Met.ofW (cc := cX5_isWhole) (maxL := 1) (ret := some .boolean) (by decide) rfl ?_
  intro p e s m args below meth c s₁ B hml hv
  obtain ⟨rfl, hP, hK⟩ := hv
  rw [lg_entry_eq]
  exact core_X5_isWhole D k a xLen xHits xUns xItems xLost xKind xSize xLet xRel xLim xOpen xMeas xSL xST xSD xSK xTal xKn xFT xFA xFE xOdds xPat xFind e0 he0 B.exec B.bytes hml B.returns (atoms_spec (ws := wo_X5_isWhole) B.pre) (findClass_of_methodNamed B.named) B.notSynchronized (lv_entry [.ref (a (14 + e0))] (n := 1) (Nat.le_of_ble_eq_true rfl)) hK hP h
theorem qd_X5_isWhole : yX5_isWhole.cls = RX5 ∧ yX5_isWhole.cls ≠ "java/lang/invoke/MethodHandle" ∧ yX5_isWhole.cls ≠ "java/lang/invoke/VarHandle" ∧ (parseMethodDescriptor yX5_isWhole.desc).map (fun d => d.parameters.length) = some 0 := by decide +kernel
abbrev wo_X5_empty : List Cond := .code yX5_empty cX5_empty 1 none :: wsL_law
set_option maxHeartbeats 4000000 in
set_option maxRecDepth 100000 in
theorem core_X5_empty (D : va_G) (k : Nat → ClassId) (a : Nat → Nat) (xLen : Nat → Int32) (xHits : Nat → Int32) (xUns : Nat → Int32) (xItems : Nat → Nat → Int32) (xLost : Nat → Int32) (xKind : Nat → Int32) (xSize : Nat → Int32) (xLet : Nat → Int32) (xRel : Nat → Int32) (xLim : Nat → Int32) (xOpen : Nat → Int32) (xMeas : Nat → Int32) (xSL : Int32) (xST : Int32) (xSD : Int32) (xSK : Int32) (xTal : Nat → Nat → Int32) (xKn : Nat → Int32) (xFT : Nat → Int32) (xFA : Int32) (xFE : Int32) (xOdds : Int32) (xPat : Int32) (xFind : Int32) (e0 : Nat) (he0 : e0 < 4) {p : Program} {l : Launch} {e : Env} {s : State} {m : MethodId} {args : Array Value} {below : List Frame} {meth : Method} {c : Code} {ls : Array Slot} (hx : p.tables.exec = Jvm.exec) (hb : c.code = cX5_empty) (hml : c.maxLocals = 1) (hr : meth.sig.returnType = none) (hts : ∀ w ∈ wo_X5_empty, w.before args s = true) (hown : s.vm.findClass RX5 = some m.cls) (hlocks : meth.locks = false) (hl : lv_has ls 1 [(0, .ref (a (14 + e0)))]) (hK : va_K D vwCl (xTys k) s) (hP : va_P D vwCl (wX k a xLen xHits xUns xItems xLost xKind xSize xLet xRel xLim xOpen xMeas xSL xST xSD xSK xTal xKn xFT xFA xFE xOdds xPat xFind) s.heap) {A : Nat → Prop} (hD : va_D A (wX k a xLen xHits xUns xItems xLost xKind xSize xLet xRel xLim xOpen xMeas xSL xST xSD xSK xTal xKn xFT xFA xFE xOdds xPat xFind)) (hA : ∀ q : Nat, s.heap.size ≤ q → A q) {o : (Nat → Int32) × (Nat → Int32) × (Nat → Int32)} (h : f_X5_empty e0 xLen xHits xUns = some o) : gQv p l e wo_X5_empty 0 s m args below meth c D k A  (wX k a o.1 o.2.1 o.2.2 xItems xLost xKind xSize xLet xRel xLim xOpen xMeas xSL xST xSD xSK xTal xKn xFT xFA xFE xOdds xPat xFind) s.heap [] (F0 m 0 ls []) := by
  have hi5 := (fun w h => List.mem_cons_of_mem _ (inlX5 w h) : ∀ w ∈ wsX50, w ∈ wo_X5_empty)
  have kf9 := hts _ (List.mem_cons_of_mem _ wm_102)
  have kf18 := hts _ (List.mem_cons_of_mem _ wm_107)
  have kf15 := hts _ (List.mem_cons_of_mem _ wm_108)
  unfold f_X5_empty at h
  have hS : va_S A s.heap s.heap [] := va_S.rf
  obtain ⟨H, hH⟩ : ∃ H : Heap, H = s.heap := ⟨_, rfl⟩
  obtain ⟨locs, hlc⟩ : ∃ locs : List Loc, locs = [] := ⟨_, rfl⟩
  have hS : va_S A s.heap H locs := by rw [hH, hlc]; exact va_S.rf
  have hP : va_P D vwCl (wX k a xLen xHits xUns xItems xLost xKind xSize xLet xRel xLim xOpen xMeas xSL xST xSD xSK xTal xKn xFT xFA xFE xOdds xPat xFind) H := by rw [hH]; exact hP
  suffices hGo : gQv p l e wo_X5_empty 0 s m args below meth c D k A  (wX k a o.1 o.2.1 o.2.2 xItems xLost xKind xSize xLet xRel xLim xOpen xMeas xSL xST xSD xSK xTal xKn xFT xFA xFE xOdds xPat xFind) H locs (F0 m 0 ls []) by rw [hH, hlc] at hGo; exact hGo
  refine lv_aload_n hx hb dX5_empty_0 rfl (lv_at hl 0 rfl) ?_
  refine lv_iconst (v := 0) hx hb dX5_empty_1 (by decide) ?_
  refine va_put (D := D) (ci := 1) (v := .int 0) (ty := .int) (C := RX5) (T := TX5) (N := 3) hx hb hts hi5 tyX5 tyX5_ok nmX5 hown hK hP hD hS ((14 + e0)) (wX_row he0) rfl 0 (by decide) kf9 (fun _ h9 => h9) rfl (tyX5_ok 0 (by decide)) rfl rfl (Nat.le_of_ble_eq_true rfl) dX5_empty_2 (fun H locs hP hD hS => ?_)
  have hP : va_P D vwCl (wX k a (va_up xLen e0 0) xHits xUns xItems xLost xKind xSize xLet xRel xLim xOpen xMeas xSL xST xSD xSK xTal xKn xFT xFA xFE xOdds xPat xFind) H := by rw [← wX_s_xLen he0]; exact hP
  have hD : va_D A (wX k a (va_up xLen e0 0) xHits xUns xItems xLost xKind xSize xLet xRel xLim xOpen xMeas xSL xST xSD xSK xTal xKn xFT xFA xFE xOdds xPat xFind) := by rw [← wX_s_xLen he0]; exact hD
  refine lv_aload_n hx hb dX5_empty_5 rfl (lv_at hl 0 rfl) ?_
  refine lv_iconst (v := 0) hx hb dX5_empty_6 (by decide) ?_
  refine va_put (D := D) (ci := 1) (v := .int 0) (ty := .int) (C := RX5) (T := TX5) (N := 3) hx hb hts hi5 tyX5 tyX5_ok nmX5 hown hK hP hD hS ((14 + e0)) (wX_row he0) rfl 1 (by decide) kf18 (fun _ h9 => h9) rfl (tyX5_ok 1 (by decide)) rfl rfl (Nat.le_of_ble_eq_true rfl) dX5_empty_7 (fun H locs hP hD hS => ?_)
  have hP : va_P D vwCl (wX k a (va_up xLen e0 0) (va_up xHits e0 0) xUns xItems xLost xKind xSize xLet xRel xLim xOpen xMeas xSL xST xSD xSK xTal xKn xFT xFA xFE xOdds xPat xFind) H := by rw [← wX_s_xHits he0]; exact hP
  have hD : va_D A (wX k a (va_up xLen e0 0) (va_up xHits e0 0) xUns xItems xLost xKind xSize xLet xRel xLim xOpen xMeas xSL xST xSD xSK xTal xKn xFT xFA xFE xOdds xPat xFind) := by rw [← wX_s_xHits he0]; exact hD
  refine lv_aload_n hx hb dX5_empty_10 rfl (lv_at hl 0 rfl) ?_
  refine lv_iconst (v := 0) hx hb dX5_empty_11 (by decide) ?_
  refine va_put (D := D) (ci := 1) (v := .int 0) (ty := .int) (C := RX5) (T := TX5) (N := 3) hx hb hts hi5 tyX5 tyX5_ok nmX5 hown hK hP hD hS ((14 + e0)) (wX_row he0) rfl 2 (by decide) kf15 (fun _ h9 => h9) rfl (tyX5_ok 2 (by decide)) rfl rfl (Nat.le_of_ble_eq_true rfl) dX5_empty_12 (fun H locs hP hD hS => ?_)
  have hP : va_P D vwCl (wX k a (va_up xLen e0 0) (va_up xHits e0 0) (va_up xUns e0 0) xItems xLost xKind xSize xLet xRel xLim xOpen xMeas xSL xST xSD xSK xTal xKn xFT xFA xFE xOdds xPat xFind) H := by rw [← wX_s_xUns he0]; exact hP
  have hD : va_D A (wX k a (va_up xLen e0 0) (va_up xHits e0 0) (va_up xUns e0 0) xItems xLost xKind xSize xLet xRel xLim xOpen xMeas xSL xST xSD xSK xTal xKn xFT xFA xFE xOdds xPat xFind) := by rw [← wX_s_xUns he0]; exact hD
  have he := Option.some.inj h
  exact W.vret hx hb hr (fun t ht hW => ⟨⟨wX k a (va_up xLen e0 0) (va_up xHits e0 0) (va_up xUns e0 0) xItems xLost xKind xSize xLet xRel xLim xOpen xMeas xSL xST xSD xSK xTal xKn xFT xFA xFE xOdds xPat xFind, rfl, (congrArg (fun z => wX k a z.1 z.2.1 z.2.2 xItems xLost xKind xSize xLet xRel xLim xOpen xMeas xSL xST xSD xSK xTal xKn xFT xFA xFE xOdds xPat xFind) he), by rw [ht]; exact hP, va_K.moved hW.alike hK, hD⟩, hS.F ht⟩) hS.2.2 dX5_empty_15
set_option maxHeartbeats 4000000 in
set_option maxRecDepth 100000 in
theorem c_X5_empty (l : Launch) (D : va_G) (k : Nat → ClassId) (a : Nat → Nat) (xLen : Nat → Int32) (xHits : Nat → Int32) (xUns : Nat → Int32) (xItems : Nat → Nat → Int32) (xLost : Nat → Int32) (xKind : Nat → Int32) (xSize : Nat → Int32) (xLet : Nat → Int32) (xRel : Nat → Int32) (xLim : Nat → Int32) (xOpen : Nat → Int32) (xMeas : Nat → Int32) (xSL : Int32) (xST : Int32) (xSD : Int32) (xSK : Int32) (xTal : Nat → Nat → Int32) (xKn : Nat → Int32) (xFT : Nat → Int32) (xFA : Int32) (xFE : Int32) (xOdds : Int32) (xPat : Int32) (xFind : Int32) (e0 : Nat) (he0 : e0 < 4) {o : (Nat → Int32) × (Nat → Int32) × (Nat → Int32)} (h : f_X5_empty e0 xLen xHits xUns = some o) : mQv l yX5_empty wo_X5_empty 0 D k [.ref (a (14 + e0))] (wX k a xLen xHits xUns xItems xLost xKind xSize xLet xRel xLim xOpen xMeas xSL xST xSD xSK xTal xKn xFT xFA xFE xOdds xPat xFind) (wX k a o.1 o.2.1 o.2.2 xItems xLost xKind xSize xLet xRel xLim xOpen xMeas xSL xST xSD xSK xTal xKn xFT xFA xFE xOdds xPat xFind) := by
  intro sz
  refine Met.ofW (cc := cX5_empty) (maxL := 1) (ret := none) (by decide) rfl ?_
  intro p e s m args below meth c s₁ B hml hv
  obtain ⟨rfl, hsz, hP, hK, hD0⟩ := hv
  subst hsz
  rw [lg_entry_eq]
  exact core_X5_empty D k a xLen xHits xUns xItems xLost xKind xSize xLet xRel xLim xOpen xMeas xSL xST xSD xSK xTal xKn xFT xFA xFE xOdds xPat xFind e0 he0 B.exec B.bytes hml B.returns (atoms_spec (ws := wo_X5_empty) B.pre) (findClass_of_methodNamed B.named) B.notSynchronized (lv_entry [.ref (a (14 + e0))] (n := 1) (Nat.le_of_ble_eq_true rfl)) hK hP hD0.self (fun q h => Or.inr h) h
theorem qd_X5_empty : yX5_empty.cls = RX5 ∧ yX5_empty.cls ≠ "java/lang/invoke/MethodHandle" ∧ yX5_empty.cls ≠ "java/lang/invoke/VarHandle" ∧ (parseMethodDescriptor yX5_empty.desc).map (fun d => d.parameters.length) = some 0 := by decide +kernel
abbrev wo_X5_append : List Cond := .code yX5_append cX5_append 2 none :: wsL_law
set_option maxHeartbeats 4000000 in
set_option maxRecDepth 100000 in
theorem core_X5_append (D : va_G) (k : Nat → ClassId) (a : Nat → Nat) (xLen : Nat → Int32) (xHits : Nat → Int32) (xUns : Nat → Int32) (xItems : Nat → Nat → Int32) (xLost : Nat → Int32) (xKind : Nat → Int32) (xSize : Nat → Int32) (xLet : Nat → Int32) (xRel : Nat → Int32) (xLim : Nat → Int32) (xOpen : Nat → Int32) (xMeas : Nat → Int32) (xSL : Int32) (xST : Int32) (xSD : Int32) (xSK : Int32) (xTal : Nat → Nat → Int32) (xKn : Nat → Int32) (xFT : Nat → Int32) (xFA : Int32) (xFE : Int32) (xOdds : Int32) (xPat : Int32) (xFind : Int32) (e0 : Nat) (x1 : Int32) (he0 : e0 < 4) {p : Program} {l : Launch} {e : Env} {s : State} {m : MethodId} {args : Array Value} {below : List Frame} {meth : Method} {c : Code} {ls : Array Slot} (hx : p.tables.exec = Jvm.exec) (hb : c.code = cX5_append) (hml : c.maxLocals = 2) (hr : meth.sig.returnType = none) (hts : ∀ w ∈ wo_X5_append, w.before args s = true) (hown : s.vm.findClass RX5 = some m.cls) (hlocks : meth.locks = false) (hl : lv_has ls 2 [(0, .ref (a (14 + e0))), (1, .int x1)]) (hK : va_K D vwCl (xTys k) s) (hP : va_P D vwCl (wX k a xLen xHits xUns xItems xLost xKind xSize xLet xRel xLim xOpen xMeas xSL xST xSD xSK xTal xKn xFT xFA xFE xOdds xPat xFind) s.heap) {A : Nat → Prop} (hD : va_D A (wX k a xLen xHits xUns xItems xLost xKind xSize xLet xRel xLim xOpen xMeas xSL xST xSD xSK xTal xKn xFT xFA xFE xOdds xPat xFind)) (hA : ∀ q : Nat, s.heap.size ≤ q → A q) {o : (Nat → Int32) × (Nat → Int32) × (Nat → Int32)} (h : f_X5_append e0 x1 xLen xHits xUns = some o) : gQv p l e wo_X5_append 0 s m args below meth c D k A  (wX k a o.1 o.2.1 o.2.2 xItems xLost xKind xSize xLet xRel xLim xOpen xMeas xSL xST xSD xSK xTal xKn xFT xFA xFE xOdds xPat xFind) s.heap [] (F0 m 0 ls []) := by
  have hi5 := (fun w h => List.mem_cons_of_mem _ (inlX5 w h) : ∀ w ∈ wsX50, w ∈ wo_X5_append)
  have kf15 := hts _ (List.mem_cons_of_mem _ wm_108)
  have kf9 := hts _ (List.mem_cons_of_mem _ wm_102)
  have kf18 := hts _ (List.mem_cons_of_mem _ wm_107)
  unfold f_X5_append at h
  have hS : va_S A s.heap s.heap [] := va_S.rf
  have J38 : ∀ (e0 : Nat) (es0 : Nat) (s1 : Int32) (s2 : Int32) (xLen : Nat → Int32) (xHits : Nat → Int32) (xUns : Nat → Int32) (ls : Array Slot) (H : Heap) (locs : List Loc) (he0 : e0 < 4) (hes0 : es0 < 4) (hl : lv_has ls 2 [(0, .ref (a (14 + e0)))]) (hP : va_P D vwCl (wX k a xLen xHits xUns xItems xLost xKind xSize xLet xRel xLim xOpen xMeas xSL xST xSD xSK xTal xKn xFT xFA xFE xOdds xPat xFind) H) (hD : va_D A (wX k a xLen xHits xUns xItems xLost xKind xSize xLet xRel xLim xOpen xMeas xSL xST xSD xSK xTal xKn xFT xFA xFE xOdds xPat xFind)) (hS : va_S A s.heap H locs) (h : f_X5_append_38 e0 es0 s1 s2 xLen xHits xUns = some o), gQv p l e wo_X5_append 0 s m args below meth c D k A  (wX k a o.1 o.2.1 o.2.2 xItems xLost xKind xSize xLet xRel xLim xOpen xMeas xSL xST xSD xSK xTal xKn xFT xFA xFE xOdds xPat xFind) H locs (F0 m 38 ls [.int s2, .int s1, .ref (a (14 + es0))]) := by
    intro e0 es0 s1 s2 xLen xHits xUns ls H locs he0 hes0 hl hP hD hS h
    unfold f_X5_append_38 at h
    refine lv_ior hx hb dX5_append_38 ?_
    refine va_put (D := D) (ci := 1) (v := .int (s1 ||| s2)) (ty := .int) (C := RX5) (T := TX5) (N := 3) hx hb hts hi5 tyX5 tyX5_ok nmX5 hown hK hP hD hS ((14 + es0)) (wX_row hes0) rfl 2 (by decide) kf15 (fun _ h9 => h9) rfl (tyX5_ok 2 (by decide)) rfl rfl (Nat.le_of_ble_eq_true rfl) dX5_append_39 (fun H locs hP hD hS => ?_)
    have hP : va_P D vwCl (wX k a xLen xHits (va_up xUns es0 (s1 ||| s2)) xItems xLost xKind xSize xLet xRel xLim xOpen xMeas xSL xST xSD xSK xTal xKn xFT xFA xFE xOdds xPat xFind) H := by rw [← wX_s_xUns hes0]; exact hP
    have hD : va_D A (wX k a xLen xHits (va_up xUns es0 (s1 ||| s2)) xItems xLost xKind xSize xLet xRel xLim xOpen xMeas xSL xST xSD xSK xTal xKn xFT xFA xFE xOdds xPat xFind) := by rw [← wX_s_xUns hes0]; exact hD
    refine lv_aload_n hx hb dX5_append_42 rfl (lv_at hl 0 rfl) ?_
    refine lv_dup hx hb dX5_append_43 rfl ?_
    refine va_get (D := D) (ci := 1) (v := .int (xLen e0)) (C := RX5) (T := TX5) (N := 3) hx hb hts hi5 hown hK hP ((14 + e0)) (wX_row he0) rfl 0 (by decide) kf9 (fun _ h9 => h9) rfl dX5_append_44 ?_
    refine lv_iconst (v := 1) hx hb dX5_append_47 (by decide) ?_
    refine lv_iadd hx hb dX5_append_48 ?_
    refine va_put (D := D) (ci := 1) (v := .int ((xLen e0) + 1)) (ty := .int) (C := RX5) (T := TX5) (N := 3) hx hb hts hi5 tyX5 tyX5_ok nmX5 hown hK hP hD hS ((14 + e0)) (wX_row he0) rfl 0 (by decide) kf9 (fun _ h9 => h9) rfl (tyX5_ok 0 (by decide)) rfl rfl (Nat.le_of_ble_eq_true rfl) dX5_append_49 (fun H locs hP hD hS => ?_)
    have hP : va_P D vwCl (wX k a (va_up xLen e0 ((xLen e0) + 1)) xHits (va_up xUns es0 (s1 ||| s2)) xItems xLost xKind xSize xLet xRel xLim xOpen xMeas xSL xST xSD xSK xTal xKn xFT xFA xFE xOdds xPat xFind) H := by rw [← wX_s_xLen he0]; exact hP
    have hD : va_D A (wX k a (va_up xLen e0 ((xLen e0) + 1)) xHits (va_up xUns es0 (s1 ||| s2)) xItems xLost xKind xSize xLet xRel xLim xOpen xMeas xSL xST xSD xSK xTal xKn xFT xFA xFE xOdds xPat xFind) := by rw [← wX_s_xLen he0]; exact hD
    have he := Option.some.inj h
    exact W.vret hx hb hr (fun t ht hW => ⟨⟨wX k a (va_up xLen e0 ((xLen e0) + 1)) xHits (va_up xUns es0 (s1 ||| s2)) xItems xLost xKind xSize xLet xRel xLim xOpen xMeas xSL xST xSD xSK xTal xKn xFT xFA xFE xOdds xPat xFind, rfl, (congrArg (fun z => wX k a z.1 z.2.1 z.2.2 xItems xLost xKind xSize xLet xRel xLim xOpen xMeas xSL xST xSD xSK xTal xKn xFT xFA xFE xOdds xPat xFind) he), by rw [ht]; exact hP, va_K.moved hW.alike hK, hD⟩, hS.F ht⟩) hS.2.2 dX5_append_52
  have J17 : ∀ (e0 : Nat) (x1 : Int32) (es0 : Nat) (s1 : Int32) (s2 : Int32) (xLen : Nat → Int32) (xHits : Nat → Int32) (xUns : Nat → Int32) (ls : Array Slot) (H : Heap) (locs : List Loc) (he0 : e0 < 4) (hes0 : es0 < 4) (hl : lv_has ls 2 [(0, .ref (a (14 + e0))), (1, .int x1)]) (hP : va_P D vwCl (wX k a xLen xHits xUns xItems xLost xKind xSize xLet xRel xLim xOpen xMeas xSL xST xSD xSK xTal xKn xFT xFA xFE xOdds xPat xFind) H) (hD : va_D A (wX k a xLen xHits xUns xItems xLost xKind xSize xLet xRel xLim xOpen xMeas xSL xST xSD xSK xTal xKn xFT xFA xFE xOdds xPat xFind)) (hS : va_S A s.heap H locs) (h : f_X5_append_17 e0 x1 es0 s1 s2 xLen xHits xUns = some o), gQv p l e wo_X5_append 0 s m args below meth c D k A  (wX k a o.1 o.2.1 o.2.2 xItems xLost xKind xSize xLet xRel xLim xOpen xMeas xSL xST xSD xSK xTal xKn xFT xFA xFE xOdds xPat xFind) H locs (F0 m 17 ls [.int s2, .int s1, .ref (a (14 + es0))]) := by
    intro e0 x1 es0 s1 s2 xLen xHits xUns ls H locs he0 hes0 hl hP hD hS h
    unfold f_X5_append_17 at h
    refine lv_ior hx hb dX5_append_17 ?_
    refine va_put (D := D) (ci := 1) (v := .int (s1 ||| s2)) (ty := .int) (C := RX5) (T := TX5) (N := 3) hx hb hts hi5 tyX5 tyX5_ok nmX5 hown hK hP hD hS ((14 + es0)) (wX_row hes0) rfl 1 (by decide) kf18 (fun _ h9 => h9) rfl (tyX5_ok 1 (by decide)) rfl rfl (Nat.le_of_ble_eq_true rfl) dX5_append_18 (fun H locs hP hD hS => ?_)
    have hP : va_P D vwCl (wX k a xLen (va_up xHits es0 (s1 ||| s2)) xUns xItems xLost xKind xSize xLet xRel xLim xOpen xMeas xSL xST xSD xSK xTal xKn xFT xFA xFE xOdds xPat xFind) H := by rw [← wX_s_xHits hes0]; exact hP
    have hD : va_D A (wX k a xLen (va_up xHits es0 (s1 ||| s2)) xUns xItems xLost xKind xSize xLet xRel xLim xOpen xMeas xSL xST xSD xSK xTal xKn xFT xFA xFE xOdds xPat xFind) := by rw [← wX_s_xHits hes0]; exact hD
    refine lv_aload_n hx hb dX5_append_21 rfl (lv_at hl 0 rfl) ?_
    refine lv_aload_n hx hb dX5_append_22 rfl (lv_at hl 0 rfl) ?_
    refine va_get (D := D) (ci := 1) (v := .int (xUns e0)) (C := RX5) (T := TX5) (N := 3) hx hb hts hi5 hown hK hP ((14 + e0)) (wX_row he0) rfl 2 (by decide) kf15 (fun _ h9 => h9) rfl dX5_append_23 ?_
    refine lv_iconst (v := 1) hx hb dX5_append_26 (by decide) ?_
    refine lv_ishl hx hb dX5_append_27 ?_
    refine lv_iload_n hx hb dX5_append_28 rfl (lv_at hl 1 rfl) ?_
    refine lv_iconst (v := (-1)) hx hb dX5_append_29 (by decide) ?_
    refine lv_icmp_ne (tgt := 37) hx hb dX5_append_30 (by decide) (fun c1 => ?_) (fun c1 => ?_)
    · replace h := (if_neg c1).symm.trans h
      refine lv_iconst (v := 0) hx hb dX5_append_37 (by decide) ?_
      exact J38 e0 e0 ((xUns e0) <<< ((1 : Int32) &&& 31)) 0 xLen (va_up xHits es0 (s1 ||| s2)) xUns ls H locs he0 he0 (lv_sub hl [0] rfl) hP hD hS h
    · replace h := (if_pos c1).symm.trans h
      refine lv_iconst (v := 1) hx hb dX5_append_33 (by decide) ?_
      refine lv_goto (tgt := 38) hx hb dX5_append_34 (by decide) ?_
      exact J38 e0 e0 ((xUns e0) <<< ((1 : Int32) &&& 31)) 1 xLen (va_up xHits es0 (s1 ||| s2)) xUns ls H locs he0 he0 (lv_sub hl [0] rfl) hP hD hS h
  obtain ⟨H, hH⟩ : ∃ H : Heap, H = s.heap := ⟨_, rfl⟩
  obtain ⟨locs, hlc⟩ : ∃ locs : List Loc, locs = [] := ⟨_, rfl⟩
  have hS : va_S A s.heap H locs := by rw [hH, hlc]; exact va_S.rf
  have hP : va_P D vwCl (wX k a xLen xHits xUns xItems xLost xKind xSize xLet xRel xLim xOpen xMeas xSL xST xSD xSK xTal xKn xFT xFA xFE xOdds xPat xFind) H := by rw [hH]; exact hP
  suffices hGo : gQv p l e wo_X5_append 0 s m args below meth c D k A  (wX k a o.1 o.2.1 o.2.2 xItems xLost xKind xSize xLet xRel xLim xOpen xMeas xSL xST xSD xSK xTal xKn xFT xFA xFE xOdds xPat xFind) H locs (F0 m 0 ls []) by rw [hH, hlc] at hGo; exact hGo
  refine lv_aload_n hx hb dX5_append_0 rfl (lv_at hl 0 rfl) ?_
  refine lv_aload_n hx hb dX5_append_1 rfl (lv_at hl 0 rfl) ?_
  refine va_get (D := D) (ci := 1) (v := .int (xHits e0)) (C := RX5) (T := TX5) (N := 3) hx hb hts hi5 hown hK hP ((14 + e0)) (wX_row he0) rfl 1 (by decide) kf18 (fun _ h9 => h9) rfl dX5_append_2 ?_
  refine lv_iconst (v := 1) hx hb dX5_append_5 (by decide) ?_
  refine lv_ishl hx hb dX5_append_6 ?_
  refine lv_iload_n hx hb dX5_append_7 rfl (lv_at hl 1 rfl) ?_
  refine lv_iconst (v := 1) hx hb dX5_append_8 (by decide) ?_
  refine lv_icmp_ne (tgt := 16) hx hb dX5_append_9 (by decide) (fun c2 => ?_) (fun c2 => ?_)
  · replace h := (if_neg c2).symm.trans h
    refine lv_iconst (v := 0) hx hb dX5_append_16 (by decide) ?_
    exact J17 e0 x1 e0 ((xHits e0) <<< ((1 : Int32) &&& 31)) 0 xLen xHits xUns ls H locs he0 he0 (lv_sub hl [0, 1] rfl) hP hD hS h
  · replace h := (if_pos c2).symm.trans h
    refine lv_iconst (v := 1) hx hb dX5_append_12 (by decide) ?_
    refine lv_goto (tgt := 17) hx hb dX5_append_13 (by decide) ?_
    exact J17 e0 x1 e0 ((xHits e0) <<< ((1 : Int32) &&& 31)) 1 xLen xHits xUns ls H locs he0 he0 (lv_sub hl [0, 1] rfl) hP hD hS h
set_option maxHeartbeats 4000000 in
set_option maxRecDepth 100000 in
theorem c_X5_append (l : Launch) (D : va_G) (k : Nat → ClassId) (a : Nat → Nat) (xLen : Nat → Int32) (xHits : Nat → Int32) (xUns : Nat → Int32) (xItems : Nat → Nat → Int32) (xLost : Nat → Int32) (xKind : Nat → Int32) (xSize : Nat → Int32) (xLet : Nat → Int32) (xRel : Nat → Int32) (xLim : Nat → Int32) (xOpen : Nat → Int32) (xMeas : Nat → Int32) (xSL : Int32) (xST : Int32) (xSD : Int32) (xSK : Int32) (xTal : Nat → Nat → Int32) (xKn : Nat → Int32) (xFT : Nat → Int32) (xFA : Int32) (xFE : Int32) (xOdds : Int32) (xPat : Int32) (xFind : Int32) (e0 : Nat) (he0 : e0 < 4) (x1 : Int32) {o : (Nat → Int32) × (Nat → Int32) × (Nat → Int32)} (h : f_X5_append e0 x1 xLen xHits xUns = some o) : mQv l yX5_append wo_X5_append 0 D k [.ref (a (14 + e0)), .int x1] (wX k a xLen xHits xUns xItems xLost xKind xSize xLet xRel xLim xOpen xMeas xSL xST xSD xSK xTal xKn xFT xFA xFE xOdds xPat xFind) (wX k a o.1 o.2.1 o.2.2 xItems xLost xKind xSize xLet xRel xLim xOpen xMeas xSL xST xSD xSK xTal xKn xFT xFA xFE xOdds xPat xFind) := by
  intro sz
  refine Met.ofW (cc := cX5_append) (maxL := 2) (ret := none) (by decide) rfl ?_
  intro p e s m args below meth c s₁ B hml hv
  obtain ⟨rfl, hsz, hP, hK, hD0⟩ := hv
  subst hsz
  rw [lg_entry_eq]
  exact core_X5_append D k a xLen xHits xUns xItems xLost xKind xSize xLet xRel xLim xOpen xMeas xSL xST xSD xSK xTal xKn xFT xFA xFE xOdds xPat xFind e0 x1 he0 B.exec B.bytes hml B.returns (atoms_spec (ws := wo_X5_append) B.pre) (findClass_of_methodNamed B.named) B.notSynchronized (lv_entry [.ref (a (14 + e0)), .int x1] (n := 2) (Nat.le_of_ble_eq_true rfl)) hK hP hD0.self (fun q h => Or.inr h) h
theorem qd_X5_append : yX5_append.cls = RX5 ∧ yX5_append.cls ≠ "java/lang/invoke/MethodHandle" ∧ yX5_append.cls ≠ "java/lang/invoke/VarHandle" ∧ (parseMethodDescriptor yX5_append.desc).map (fun d => d.parameters.length) = some 1 := by decide +kernel
