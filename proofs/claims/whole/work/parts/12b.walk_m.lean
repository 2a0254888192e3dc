abbrev wo_X11_isWhole : List Cond := .code yX11_isWhole cX11_isWhole 3 (some .boolean) :: wsL_law
set_option maxHeartbeats 4000000 in
set_option maxRecDepth 100000 in
theorem core_X11_isWhole {N : Nat} (D : va_G) (k : Nat → ClassId) (a : Nat → Nat) (mSizes : Nat → Int32) (mSigns : Nat → Int32) (mOdds : Int32) (mPat : Int32) (mTyped : Int32) (mText : Nat → Int32) (mAt : Int32) (mFault : Int32) (mTests : Int32) (mTN : Nat → Int32) (mTS : Nat → Int32) (mTV : Nat → Int32) (mTB : Nat → Int32) (mRead : Int32) (mUns : Nat → Int32) (mUM : Int32) (mBA : Int32) (mBH : Int32) (mThere : Nat → Int32) (mTypes : Nat → Int32) (mHeld : Nat → Int32) (mItems : Nat → Int32) (mMoved : Nat → Int32) (mFind : Int32) (x1 : Int32) {p : Program} {l : Launch} {e : Env} {s : State} {m : MethodId} {args : Array Value} {below : List Frame} {meth : Method} {c : Code} {ls : Array Slot} (hx : p.tables.exec = Jvm.exec) (hb : c.code = cX11_isWhole) (hml : c.maxLocals = 3) (hr : meth.sig.returnType = some .boolean) (hts : ∀ w ∈ wo_X11_isWhole, w.before args s = true) (hown : s.vm.findClass RX11 = some m.cls) (hlocks : meth.locks = false) (hl : lv_has ls 3 [(0, .ref (a 0)), (1, .int x1)]) (hK : va_K D vwCl (xTys k) s) (hP : va_P D vwCl (wM k a mSizes mSigns mOdds mPat mTyped mText mAt mFault mTests mTN mTS mTV mTB mRead mUns mUM mBA mBH mThere mTypes mHeld mItems mMoved mFind) s.heap) {o : Int32} (h : f_X11_isWhole N x1 mSizes mSigns = some o) : gRi p l e wo_X11_isWhole 0 s m args below meth c o (F0 m 0 ls []) := by
  have hi11 := (fun w h => List.mem_cons_of_mem _ (inlX11 w h) : ∀ w ∈ wsX110, w ∈ wo_X11_isWhole)
  have kf7 := hts _ (List.mem_cons_of_mem _ wm_72)
  have kf13 := hts _ (List.mem_cons_of_mem _ wm_73)
  unfold f_X11_isWhole at h
  have L2 : ∀ (n2 : Nat) (x1 : Int32) (x2 : Int32) (ls : Array Slot) (hl : lv_has ls 3 [(0, .ref (a 0)), (1, .int x1), (2, .int x2)]) (h : f_X11_isWhole_2 N n2 x1 x2 mSizes mSigns = some o), gRi p l e wo_X11_isWhole 0 s m args below meth c o (F0 m 2 ls []) := by
    intro n2
    induction n2 with
    | zero => intro x1 x2 ls hl h; cases (show (none : Option (Int32)) = some o from h)
    | succ n2 ih2 =>
      intro x1 x2 ls hl h
      rw [f_X11_isWhole_2] at h
      refine lv_iload_n hx hb dX11_isWhole_2 rfl (lv_at hl 2 rfl) ?_
      refine lv_aload_n hx hb dX11_isWhole_3 rfl (lv_at hl 0 rfl) ?_
      refine va_get (D := D) (ci := 6) (v := .ref (a 1)) (C := RX11) (T := TX11) (N := 24) hx hb hts hi11 hown hK hP (0) (rfl) rfl 0 (by decide) kf7 (fun _ h9 => h9) rfl dX11_isWhole_4 ?_
      refine lv_iload_n hx hb dX11_isWhole_7 rfl (lv_at hl 1 rfl) ?_
      obtain ⟨g1, h⟩ := gIn_some h
      refine va_iald hx hb hK hP (1) 0 (rfl) rfl g1 dX11_isWhole_8 ?_
      refine lv_icmp_ge (tgt := 35) hx hb dX11_isWhole_9 (by decide) (fun c2 => ?_) (fun c2 => ?_)
      · replace h := (if_pos c2).symm.trans h
        refine lv_iconst (v := 1) hx hb dX11_isWhole_35 (by decide) ?_
        exact W.zret (v := 1) hx hb hr rfl (fun t ht hW => ⟨_, rfl, Option.some.inj h, ht⟩) (fun q hq => by cases hq) dX11_isWhole_36
      · replace h := (if_neg c2).symm.trans h
        refine lv_aload_n hx hb dX11_isWhole_12 rfl (lv_at hl 0 rfl) ?_
        refine va_get (D := D) (ci := 6) (v := .ref (a 2)) (C := RX11) (T := TX11) (N := 24) hx hb hts hi11 hown hK hP (0) (rfl) rfl 1 (by decide) kf13 (fun _ h9 => h9) rfl dX11_isWhole_13 ?_
        refine lv_bipush (v := 15) hx hb dX11_isWhole_16 (by decide) ?_
        refine lv_iload_n hx hb dX11_isWhole_18 rfl (lv_at hl 1 rfl) ?_
        refine lv_imul hx hb dX11_isWhole_19 ?_
        refine lv_iload_n hx hb dX11_isWhole_20 rfl (lv_at hl 2 rfl) ?_
        refine lv_iadd hx hb dX11_isWhole_21 ?_
        obtain ⟨g3, h⟩ := gIn_some h
        refine va_iald hx hb hK hP (2) 0 (rfl) rfl g3 dX11_isWhole_22 ?_
        refine lv_iconst (v := (-1)) hx hb dX11_isWhole_23 (by decide) ?_
        refine lv_icmp_ne (tgt := 29) hx hb dX11_isWhole_24 (by decide) (fun c4 => ?_) (fun c4 => ?_)
        · replace h := (if_neg c4).symm.trans h
          refine lv_iinc (v := (x2 + 1)) (lv' := [(2, .int (x2 + 1)), (0, .ref (a 0)), (1, .int x1)]) hx hb dX11_isWhole_29 hl (k := 2) rfl rfl (by decide) rfl (fun ls hl => ?_)
          refine lv_goto (tgt := 2) hx hb dX11_isWhole_32 (by decide) ?_
          exact ih2 x1 (x2 + 1) ls (lv_sub hl [1, 2, 0] rfl) h
        · replace h := (if_pos c4).symm.trans h
          refine lv_iconst (v := 0) hx hb dX11_isWhole_27 (by decide) ?_
          exact W.zret (v := 0) hx hb hr rfl (fun t ht hW => ⟨_, rfl, Option.some.inj h, ht⟩) (fun q hq => by cases hq) dX11_isWhole_28
  refine lv_iconst (v := 0) hx hb dX11_isWhole_0 (by decide) ?_
  refine lv_istore_n (lv' := [(2, .int 0), (0, .ref (a 0)), (1, .int x1)]) hx hb dX11_isWhole_1 rfl hl (by decide) rfl (fun ls hl => ?_)
  exact L2 N x1 0 ls (lv_sub hl [1, 2, 0] rfl) h
set_option maxHeartbeats 4000000 in
set_option maxRecDepth 100000 in
theorem c_X11_isWhole {N : Nat} (l : Launch) (D : va_G) (k : Nat → ClassId) (a : Nat → Nat) (mSizes : Nat → Int32) (mSigns : Nat → Int32) (mOdds : Int32) (mPat : Int32) (mTyped : Int32) (mText : Nat → Int32) (mAt : Int32) (mFault : Int32) (mTests : Int32) (mTN : Nat → Int32) (mTS : Nat → Int32) (mTV : Nat → Int32) (mTB : Nat → Int32) (mRead : Int32) (mUns : Nat → Int32) (mUM : Int32) (mBA : Int32) (mBH : Int32) (mThere : Nat → Int32) (mTypes : Nat → Int32) (mHeld : Nat → Int32) (mItems : Nat → Int32) (mMoved : Nat → Int32) (mFind : Int32) (x1 : Int32) {o : Int32} (h : f_X11_isWhole N x1 mSizes mSigns = some o) : mRi l yX11_isWhole wo_X11_isWhole 0 D k [.ref (a 0), .int x1] (wM k a mSizes mSigns mOdds mPat mTyped mText mAt mFault mTests mTN mTS mTV mTB mRead mUns mUM mBA mBH mThere mTypes mHeld mItems mMoved mFind) o := by
  refine Met.ofW (cc := cX11_isWhole) (maxL := 3) (ret := some .boolean) (by decide) rfl ?_
  intro p e s m args below meth c s₁ B hml hv
  obtain ⟨rfl, hP, hK⟩ := hv
  rw [lg_entry_eq]
  exact core_X11_isWhole D k a mSizes mSigns mOdds mPat mTyped mText mAt mFault mTests mTN mTS mTV mTB mRead mUns mUM mBA mBH mThere mTypes mHeld mItems mMoved mFind x1 B.exec B.bytes hml B.returns (atoms_spec (ws := wo_X11_isWhole) B.pre) (findClass_of_methodNamed B.named) B.notSynchronized (lv_entry [.ref (a 0), .int x1] (n := 3) (Nat.le_of_ble_eq_true rfl)) hK hP h
theorem qd_X11_isWhole : yX11_isWhole.cls = RX11 ∧ yX11_isWhole.cls ≠ "java/lang/invoke/MethodHandle" ∧ yX11_isWhole.cls ≠ "java/lang/invoke/VarHandle" ∧ (parseMethodDescriptor yX11_isWhole.desc).map (fun d => d.parameters.length) = some 1 := by decide +kernel
abbrev wo_X11_bitsOf : List Cond := .code yX11_bitsOf cX11_bitsOf 4 (some .int) :: wsL_law
set_option maxHeartbeats 4000000 in
set_option maxRecDepth 100000 in
theorem core_X11_bitsOf {N : Nat} (D : va_G) (k : Nat → ClassId) (a : Nat → Nat) (mSizes : Nat → Int32) (mSigns : Nat → Int32) (mOdds : Int32) (mPat : Int32) (mTyped : Int32) (mText : Nat → Int32) (mAt : Int32) (mFault : Int32) (mTests : Int32) (mTN : Nat → Int32) (mTS : Nat → Int32) (mTV : Nat → Int32) (mTB : Nat → Int32) (mRead : Int32) (mUns : Nat → Int32) (mUM : Int32) (mBA : Int32) (mBH : Int32) (mThere : Nat → Int32) (mTypes : Nat → Int32) (mHeld : Nat → Int32) (mItems : Nat → Int32) (mMoved : Nat → Int32) (mFind : Int32) (x1 : Int32) {p : Program} {l : Launch} {e : Env} {s : State} {m : MethodId} {args : Array Value} {below : List Frame} {meth : Method} {c : Code} {ls : Array Slot} (hx : p.tables.exec = Jvm.exec) (hb : c.code = cX11_bitsOf) (hml : c.maxLocals = 4) (hr : meth.sig.returnType = some .int) (hts : ∀ w ∈ wo_X11_bitsOf, w.before args s = true) (hown : s.vm.findClass RX11 = some m.cls) (hlocks : meth.locks = false) (hl : lv_has ls 4 [(0, .ref (a 0)), (1, .int x1)]) (hK : va_K D vwCl (xTys k) s) (hP : va_P D vwCl (wM k a mSizes mSigns mOdds mPat mTyped mText mAt mFault mTests mTN mTS mTV mTB mRead mUns mUM mBA mBH mThere mTypes mHeld mItems mMoved mFind) s.heap) {o : Int32} (h : f_X11_bitsOf N x1 mSizes mSigns = some o) : gRi p l e wo_X11_bitsOf 0 s m args below meth c o (F0 m 0 ls []) := by
  have hi11 := (fun w h => List.mem_cons_of_mem _ (inlX11 w h) : ∀ w ∈ wsX110, w ∈ wo_X11_bitsOf)
  have kf7 := hts _ (List.mem_cons_of_mem _ wm_72)
  have kf13 := hts _ (List.mem_cons_of_mem _ wm_73)
  unfold f_X11_bitsOf at h
  have L4 : ∀ (n4 : Nat) (x1 : Int32) (x2 : Int32) (x3 : Int32) (ls : Array Slot) (hl : lv_has ls 4 [(0, .ref (a 0)), (1, .int x1), (2, .int x2), (3, .int x3)]) (h : f_X11_bitsOf_4 N n4 x1 x2 x3 mSizes mSigns = some o), gRi p l e wo_X11_bitsOf 0 s m args below meth c o (F0 m 4 ls []) := by
    intro n4
    induction n4 with
    | zero => intro x1 x2 x3 ls hl h; cases (show (none : Option (Int32)) = some o from h)
    | succ n4 ih4 =>
      have J37 : ∀ (x1 : Int32) (x3 : Int32) (s0 : Int32) (s1 : Int32) (ls : Array Slot) (hl : lv_has ls 4 [(0, .ref (a 0)), (1, .int x1), (3, .int x3)]) (h : f_X11_bitsOf_37 N (fun y0 y1 y2 y3 y4 => f_X11_bitsOf_4 N n4 y0 y1 y2 y3 y4) x1 x3 s0 s1 mSizes mSigns = some o), gRi p l e wo_X11_bitsOf 0 s m args below meth c o (F0 m 37 ls [.int s1, .int s0]) := by
        intro x1 x3 s0 s1 ls hl h
        unfold f_X11_bitsOf_37 at h
        refine lv_iadd hx hb dX11_bitsOf_37 ?_
        refine lv_istore_n (lv' := [(2, .int (s0 + s1)), (0, .ref (a 0)), (1, .int x1), (3, .int x3)]) hx hb dX11_bitsOf_38 rfl hl (by decide) rfl (fun ls hl => ?_)
        refine lv_iinc (v := (x3 + 1)) (lv' := [(3, .int (x3 + 1)), (2, .int (s0 + s1)), (0, .ref (a 0)), (1, .int x1)]) hx hb dX11_bitsOf_39 hl (k := 3) rfl rfl (by decide) rfl (fun ls hl => ?_)
        refine lv_goto (tgt := 4) hx hb dX11_bitsOf_42 (by decide) ?_
        exact ih4 x1 (s0 + s1) (x3 + 1) ls (lv_sub hl [2, 3, 1, 0] rfl) h
      intro x1 x2 x3 ls hl h
      rw [f_X11_bitsOf_4] at h
      refine lv_iload_n hx hb dX11_bitsOf_4 rfl (lv_at hl 3 rfl) ?_
      refine lv_aload_n hx hb dX11_bitsOf_5 rfl (lv_at hl 0 rfl) ?_
      refine va_get (D := D) (ci := 6) (v := .ref (a 1)) (C := RX11) (T := TX11) (N := 24) hx hb hts hi11 hown hK hP (0) (rfl) rfl 0 (by decide) kf7 (fun _ h9 => h9) rfl dX11_bitsOf_6 ?_
      refine lv_iload_n hx hb dX11_bitsOf_9 rfl (lv_at hl 1 rfl) ?_
      obtain ⟨g1, h⟩ := gIn_some h
      refine va_iald hx hb hK hP (1) 0 (rfl) rfl g1 dX11_bitsOf_10 ?_
      refine lv_icmp_ge (tgt := 45) hx hb dX11_bitsOf_11 (by decide) (fun c2 => ?_) (fun c2 => ?_)
      · replace h := (if_pos c2).symm.trans h
        refine lv_iload_n hx hb dX11_bitsOf_45 rfl (lv_at hl 2 rfl) ?_
        exact W.iret (v := x2) hx hb hr (fun t ht hW => ⟨_, rfl, Option.some.inj h, ht⟩) (fun q hq => by cases hq) dX11_bitsOf_46
      · replace h := (if_neg c2).symm.trans h
        refine lv_iconst (v := 2) hx hb dX11_bitsOf_14 (by decide) ?_
        refine lv_iload_n hx hb dX11_bitsOf_15 rfl (lv_at hl 2 rfl) ?_
        refine lv_imul hx hb dX11_bitsOf_16 ?_
        refine lv_aload_n hx hb dX11_bitsOf_17 rfl (lv_at hl 0 rfl) ?_
        refine va_get (D := D) (ci := 6) (v := .ref (a 2)) (C := RX11) (T := TX11) (N := 24) hx hb hts hi11 hown hK hP (0) (rfl) rfl 1 (by decide) kf13 (fun _ h9 => h9) rfl dX11_bitsOf_18 ?_
        refine lv_bipush (v := 15) hx hb dX11_bitsOf_21 (by decide) ?_
        refine lv_iload_n hx hb dX11_bitsOf_23 rfl (lv_at hl 1 rfl) ?_
        refine lv_imul hx hb dX11_bitsOf_24 ?_
        refine lv_iload_n hx hb dX11_bitsOf_25 rfl (lv_at hl 3 rfl) ?_
        refine lv_iadd hx hb dX11_bitsOf_26 ?_
        obtain ⟨g3, h⟩ := gIn_some h
        refine va_iald hx hb hK hP (2) 0 (rfl) rfl g3 dX11_bitsOf_27 ?_
        refine lv_iconst (v := 1) hx hb dX11_bitsOf_28 (by decide) ?_
        refine lv_icmp_ne (tgt := 36) hx hb dX11_bitsOf_29 (by decide) (fun c4 => ?_) (fun c4 => ?_)
        · replace h := (if_neg c4).symm.trans h
          refine lv_iconst (v := 0) hx hb dX11_bitsOf_36 (by decide) ?_
          exact J37 x1 x3 ((2 : Int32) * x2) 0 ls (lv_sub hl [0, 1, 3] rfl) h
        · replace h := (if_pos c4).symm.trans h
          refine lv_iconst (v := 1) hx hb dX11_bitsOf_32 (by decide) ?_
          refine lv_goto (tgt := 37) hx hb dX11_bitsOf_33 (by decide) ?_
          exact J37 x1 x3 ((2 : Int32) * x2) 1 ls (lv_sub hl [0, 1, 3] rfl) h
  refine lv_iconst (v := 0) hx hb dX11_bitsOf_0 (by decide) ?_
  refine lv_istore_n (lv' := [(2, .int 0), (0, .ref (a 0)), (1, .int x1)]) hx hb dX11_bitsOf_1 rfl hl (by decide) rfl (fun ls hl => ?_)
  refine lv_iconst (v := 0) hx hb dX11_bitsOf_2 (by decide) ?_
  refine lv_istore_n (lv' := [(3, .int 0), (2, .int 0), (0, .ref (a 0)), (1, .int x1)]) hx hb dX11_bitsOf_3 rfl hl (by decide) rfl (fun ls hl => ?_)
  exact L4 N x1 0 0 ls (lv_sub hl [2, 3, 1, 0] rfl) h
set_option maxHeartbeats 4000000 in
set_option maxRecDepth 100000 in
theorem c_X11_bitsOf {N : Nat} (l : Launch) (D : va_G) (k : Nat → ClassId) (a : Nat → Nat) (mSizes : Nat → Int32) (mSigns : Nat → Int32) (mOdds : Int32) (mPat : Int32) (mTyped : Int32) (mText : Nat → Int32) (mAt : Int32) (mFault : Int32) (mTests : Int32) (mTN : Nat → Int32) (mTS : Nat → Int32) (mTV : Nat → Int32) (mTB : Nat → Int32) (mRead : Int32) (mUns : Nat → Int32) (mUM : Int32) (mBA : Int32) (mBH : Int32) (mThere : Nat → Int32) (mTypes : Nat → Int32) (mHeld : Nat → Int32) (mItems : Nat → Int32) (mMoved : Nat → Int32) (mFind : Int32) (x1 : Int32) {o : Int32} (h : f_X11_bitsOf N x1 mSizes mSigns = some o) : mRi l yX11_bitsOf wo_X11_bitsOf 0 D k [.ref (a 0), .int x1] (wM k a mSizes mSigns mOdds mPat mTyped mText mAt mFault mTests mTN mTS mTV mTB mRead mUns mUM mBA mBH mThere mTypes mHeld mItems mMoved mFind) o := by
  refine Met.ofW (cc := cX11_bitsOf) (maxL := 4) (ret := some .int) (by decide) rfl ?_
  intro p e s m args below meth c s₁ B hml hv
  obtain ⟨rfl, hP, hK⟩ := hv
  rw [lg_entry_eq]
  exact core_X11_bitsOf D k a mSizes mSigns mOdds mPat mTyped mText mAt mFault mTests mTN mTS mTV mTB mRead mUns mUM mBA mBH mThere mTypes mHeld mItems mMoved mFind x1 B.exec B.bytes hml B.returns (atoms_spec (ws := wo_X11_bitsOf) B.pre) (findClass_of_methodNamed B.named) B.notSynchronized (lv_entry [.ref (a 0), .int x1] (n := 4) (Nat.le_of_ble_eq_true rfl)) hK hP h
theorem qd_X11_bitsOf : yX11_bitsOf.cls = RX11 ∧ yX11_bitsOf.cls ≠ "java/lang/invoke/MethodHandle" ∧ yX11_bitsOf.cls ≠ "java/lang/invoke/VarHandle" ∧ (parseMethodDescriptor yX11_bitsOf.desc).map (fun d => d.parameters.length) = some 1 := by decide +kernel
abbrev wo_X11_lengthOf : List Cond := .code yX11_lengthOf cX11_lengthOf 2 (some .int) :: wsL_law
set_option maxHeartbeats 4000000 in
set_option maxRecDepth 100000 in
theorem core_X11_lengthOf {N : Nat} (x0 : Int32) {p : Program} {l : Launch} {e : Env} {s : State} {m : MethodId} {args : Array Value} {below : List Frame} {meth : Method} {c : Code} {ls : Array Slot} (hx : p.tables.exec = Jvm.exec) (hb : c.code = cX11_lengthOf) (hml : c.maxLocals = 2) (hr : meth.sig.returnType = some .int) (hts : ∀ w ∈ wo_X11_lengthOf, w.before args s = true) (hown : s.vm.findClass RX11 = some m.cls) (hlocks : meth.locks = false) (hl : lv_has ls 2 [(0, .int x0)]) {o : Int32} (h : f_X11_lengthOf N x0 = some o) : gRi p l e wo_X11_lengthOf 0 s m args below meth c o (F0 m 0 ls []) := by
  unfold f_X11_lengthOf at h
  have L2 : ∀ (n2 : Nat) (x0 : Int32) (x1 : Int32) (ls : Array Slot) (hl : lv_has ls 2 [(0, .int x0), (1, .int x1)]) (h : f_X11_lengthOf_2 N n2 x0 x1 = some o), gRi p l e wo_X11_lengthOf 0 s m args below meth c o (F0 m 2 ls []) := by
    intro n2
    induction n2 with
    | zero => intro x0 x1 ls hl h; cases (show (none : Option (Int32)) = some o from h)
    | succ n2 ih2 =>
      intro x0 x1 ls hl h
      rw [f_X11_lengthOf_2] at h
      refine lv_iload_n hx hb dX11_lengthOf_2 rfl (lv_at hl 0 rfl) ?_
      refine lv_iload_n hx hb dX11_lengthOf_3 rfl (lv_at hl 1 rfl) ?_
      refine lv_ishr hx hb dX11_lengthOf_4 ?_
      refine lv_iconst (v := 1) hx hb dX11_lengthOf_5 (by decide) ?_
      refine lv_icmp_le (tgt := 15) hx hb dX11_lengthOf_6 (by decide) (fun c1 => ?_) (fun c1 => ?_)
      · replace h := (if_pos c1).symm.trans h
        refine lv_iload_n hx hb dX11_lengthOf_15 rfl (lv_at hl 1 rfl) ?_
        exact W.iret (v := x1) hx hb hr (fun t ht hW => ⟨_, rfl, Option.some.inj h, ht⟩) (fun q hq => by cases hq) dX11_lengthOf_16
      · replace h := (if_neg c1).symm.trans h
        refine lv_iinc (v := (x1 + 1)) (lv' := [(1, .int (x1 + 1)), (0, .int x0)]) hx hb dX11_lengthOf_9 hl (k := 1) rfl rfl (by decide) rfl (fun ls hl => ?_)
        refine lv_goto (tgt := 2) hx hb dX11_lengthOf_12 (by decide) ?_
        exact ih2 x0 (x1 + 1) ls (lv_sub hl [1, 0] rfl) h
  refine lv_iconst (v := 0) hx hb dX11_lengthOf_0 (by decide) ?_
  refine lv_istore_n (lv' := [(1, .int 0), (0, .int x0)]) hx hb dX11_lengthOf_1 rfl hl (by decide) rfl (fun ls hl => ?_)
  exact L2 N x0 0 ls (lv_sub hl [1, 0] rfl) h
set_option maxHeartbeats 4000000 in
set_option maxRecDepth 100000 in
theorem c_X11_lengthOf {N : Nat} (l : Launch) (x0 : Int32) {o : Int32} (h : f_X11_lengthOf N x0 = some o) : mPi l yX11_lengthOf wo_X11_lengthOf 0 [.int x0] o := by
  refine Met.ofW (cc := cX11_lengthOf) (maxL := 2) (ret := some .int) (by decide) rfl ?_
  intro p e s m args below meth c s₁ B hml hv
  obtain ⟨rfl, -⟩ := hv
  rw [lg_entry_eq]
  exact core_X11_lengthOf x0 B.exec B.bytes hml B.returns (atoms_spec (ws := wo_X11_lengthOf) B.pre) (findClass_of_methodNamed B.named) B.notSynchronized (lv_entry [.int x0] (n := 2) (Nat.le_of_ble_eq_true rfl)) h
theorem qd_X11_lengthOf : yX11_lengthOf.cls ≠ "java/lang/invoke/MethodHandle" ∧ yX11_lengthOf.cls ≠ "java/lang/invoke/VarHandle" ∧ (parseMethodDescriptor yX11_lengthOf.desc).map (fun d => d.parameters.length) = some 1 := by decide +kernel
abbrev wo_X11_standing : List Cond := .code yX11_standing cX11_standing 7 (some .int) :: wsL_law
set_option maxHeartbeats 4000000 in
set_option maxRecDepth 100000 in
theorem core_X11_standing {N : Nat} (D : va_G) (k : Nat → ClassId) (a : Nat → Nat) (mSizes : Nat → Int32) (mSigns : Nat → Int32) (mOdds : Int32) (mPat : Int32) (mTyped : Int32) (mText : Nat → Int32) (mAt : Int32) (mFault : Int32) (mTests : Int32) (mTN : Nat → Int32) (mTS : Nat → Int32) (mTV : Nat → Int32) (mTB : Nat → Int32) (mRead : Int32) (mUns : Nat → Int32) (mUM : Int32) (mBA : Int32) (mBH : Int32) (mThere : Nat → Int32) (mTypes : Nat → Int32) (mHeld : Nat → Int32) (mItems : Nat → Int32) (mMoved : Nat → Int32) (mFind : Int32) (x1 : Int32) (x2 : Int32) {p : Program} {l : Launch} {e : Env} {s : State} {m : MethodId} {args : Array Value} {below : List Frame} {meth : Method} {c : Code} {ls : Array Slot} (hx : p.tables.exec = Jvm.exec) (hb : c.code = cX11_standing) (hml : c.maxLocals = 7) (hr : meth.sig.returnType = some .int) (hts : ∀ w ∈ wo_X11_standing, w.before args s = true) (hown : s.vm.findClass RX11 = some m.cls) (hlocks : meth.locks = false) (hl : lv_has ls 7 [(0, .ref (a 0)), (1, .int x1), (2, .int x2)]) (hK : va_K D vwCl (xTys k) s) (hP : va_P D vwCl (wM k a mSizes mSigns mOdds mPat mTyped mText mAt mFault mTests mTN mTS mTV mTB mRead mUns mUM mBA mBH mThere mTypes mHeld mItems mMoved mFind) s.heap) {o : Int32} (h : f_X11_standing N x1 x2 mPat = some o) : gRi p l e wo_X11_standing 1 s m args below meth c o (F0 m 0 ls []) := by
  have hi11 := (fun w h => List.mem_cons_of_mem _ (inlX11 w h) : ∀ w ∈ wsX110, w ∈ wo_X11_standing)
  have kf20 := hts _ (List.mem_cons_of_mem _ wm_75)
  unfold f_X11_standing at h
  have L24 : ∀ (n24 : Nat) (x1 : Int32) (x2 : Int32) (x3 : Int32) (x4 : Int32) (x5 : Int32) (x6 : Int32) (ls : Array Slot) (hl : lv_has ls 7 [(1, .int x1), (2, .int x2), (3, .int x3), (4, .int x4), (5, .int x5), (6, .int x6)]) (h : f_X11_standing_24 N n24 x1 x2 x3 x4 x5 x6 mPat = some o), gRi p l e wo_X11_standing 1 s m args below meth c o (F0 m 24 ls []) := by
    intro n24
    induction n24 with
    | zero => intro x1 x2 x3 x4 x5 x6 ls hl h; cases (show (none : Option (Int32)) = some o from h)
    | succ n24 ih24 =>
      have J58 : ∀ (x1 : Int32) (x2 : Int32) (x3 : Int32) (x4 : Int32) (x6 : Int32) (s0 : Int32) (s1 : Int32) (ls : Array Slot) (hl : lv_has ls 7 [(1, .int x1), (2, .int x2), (3, .int x3), (4, .int x4), (6, .int x6)]) (h : f_X11_standing_58 N (fun y0 y1 y2 y3 y4 y5 y6 => f_X11_standing_24 N n24 y0 y1 y2 y3 y4 y5 y6) x1 x2 x3 x4 x6 s0 s1 mPat = some o), gRi p l e wo_X11_standing 1 s m args below meth c o (F0 m 58 ls [.int s1, .int s0]) := by
        intro x1 x2 x3 x4 x6 s0 s1 ls hl h
        unfold f_X11_standing_58 at h
        refine lv_iadd hx hb dX11_standing_58 ?_
        refine lv_istore (lv' := [(5, .int (s0 + s1)), (1, .int x1), (2, .int x2), (3, .int x3), (4, .int x4), (6, .int x6)]) hx hb dX11_standing_59 hl (by decide) rfl (fun ls hl => ?_)
        refine lv_iinc (v := (x6 + 1)) (lv' := [(6, .int (x6 + 1)), (5, .int (s0 + s1)), (1, .int x1), (2, .int x2), (3, .int x3), (4, .int x4)]) hx hb dX11_standing_61 hl (k := 5) rfl rfl (by decide) rfl (fun ls hl => ?_)
        refine lv_goto (tgt := 24) hx hb dX11_standing_64 (by decide) ?_
        exact ih24 x1 x2 x3 x4 (s0 + s1) (x6 + 1) ls (lv_sub hl [2, 3, 4, 5, 1, 0] rfl) h
      intro x1 x2 x3 x4 x5 x6 ls hl h
      rw [f_X11_standing_24] at h
      refine lv_iload hx hb dX11_standing_24 (lv_at hl 5 rfl) ?_
      refine lv_iload_n hx hb dX11_standing_26 rfl (lv_at hl 2 rfl) ?_
      refine lv_iadd hx hb dX11_standing_27 ?_
      refine lv_iload_n hx hb dX11_standing_28 rfl (lv_at hl 1 rfl) ?_
      refine lv_icmp_gt (tgt := 67) hx hb dX11_standing_29 (by decide) (fun c1 => ?_) (fun c1 => ?_)
      · replace h := (if_pos c1).symm.trans h
        refine lv_iload hx hb dX11_standing_67 (lv_at hl 4 rfl) ?_
        exact W.iret (v := x5) hx hb hr (fun t ht hW => ⟨_, rfl, Option.some.inj h, ht⟩) (fun q hq => by cases hq) dX11_standing_69
      · replace h := (if_neg c1).symm.trans h
        refine lv_iload hx hb dX11_standing_32 (lv_at hl 4 rfl) ?_
        refine lv_iload_n hx hb dX11_standing_34 rfl (lv_at hl 0 rfl) ?_
        refine lv_iload_n hx hb dX11_standing_35 rfl (lv_at hl 1 rfl) ?_
        refine lv_iload_n hx hb dX11_standing_36 rfl (lv_at hl 2 rfl) ?_
        refine lv_isub hx hb dX11_standing_37 ?_
        refine lv_iload hx hb dX11_standing_38 (lv_at hl 5 rfl) ?_
        refine lv_isub hx hb dX11_standing_40 ?_
        refine lv_ishr hx hb dX11_standing_41 ?_
        refine lv_iconst (v := 1) hx hb dX11_standing_42 (by decide) ?_
        refine lv_iload_n hx hb dX11_standing_43 rfl (lv_at hl 2 rfl) ?_
        refine lv_ishl hx hb dX11_standing_44 ?_
        refine lv_iconst (v := 1) hx hb dX11_standing_45 (by decide) ?_
        refine lv_isub hx hb dX11_standing_46 ?_
        refine lv_iand hx hb dX11_standing_47 ?_
        refine lv_iload hx hb dX11_standing_48 (lv_at hl 3 rfl) ?_
        refine lv_icmp_ne (tgt := 57) hx hb dX11_standing_50 (by decide) (fun c2 => ?_) (fun c2 => ?_)
        · replace h := (if_neg c2).symm.trans h
          refine lv_iconst (v := 0) hx hb dX11_standing_57 (by decide) ?_
          exact J58 x1 x2 x3 x4 x6 x5 0 ls (lv_sub hl [0, 1, 2, 3, 5] rfl) h
        · replace h := (if_pos c2).symm.trans h
          refine lv_iconst (v := 1) hx hb dX11_standing_53 (by decide) ?_
          refine lv_goto (tgt := 58) hx hb dX11_standing_54 (by decide) ?_
          exact J58 x1 x2 x3 x4 x6 x5 1 ls (lv_sub hl [0, 1, 2, 3, 5] rfl) h
  refine lv_aload_n hx hb dX11_standing_0 rfl (lv_at hl 0 rfl) ?_
  refine va_get (D := D) (ci := 6) (v := .int mPat) (C := RX11) (T := TX11) (N := 24) hx hb hts hi11 hown hK hP (0) (rfl) rfl 3 (by decide) kf20 (fun _ h9 => h9) rfl dX11_standing_1 ?_
  obtain ⟨o3, eq4, h⟩ := bnd_some h
  refine kPi (rest := []) ⟨hx, hb, hml, hown, hts⟩ (c_X11_lengthOf l mPat eq4) (va_cwS 1 hts (gAS wm_260 wm_261 wm_5 wm_262) rfl rfl rfl qd_X11_lengthOf ⟨Nat.le_of_ble_eq_true rfl, Nat.le_of_ble_eq_true rfl⟩) rfl hl.1 rfl (Nat.le_of_ble_eq_true rfl) dX11_standing_4 ⟨Nat.zero_le _, Nat.zero_le _⟩ ?_
  refine lv_istore_n (lv' := [(3, .int o3), (0, .ref (a 0)), (1, .int x1), (2, .int x2)]) hx hb dX11_standing_7 rfl hl (by decide) rfl (fun ls hl => ?_)
  refine lv_aload_n hx hb dX11_standing_8 rfl (lv_at hl 1 rfl) ?_
  refine va_get (D := D) (ci := 6) (v := .int mPat) (C := RX11) (T := TX11) (N := 24) hx hb hts hi11 hown hK hP (0) (rfl) rfl 3 (by decide) kf20 (fun _ h9 => h9) rfl dX11_standing_9 ?_
  refine lv_iconst (v := 1) hx hb dX11_standing_12 (by decide) ?_
  refine lv_iload_n hx hb dX11_standing_13 rfl (lv_at hl 0 rfl) ?_
  refine lv_ishl hx hb dX11_standing_14 ?_
  refine lv_isub hx hb dX11_standing_15 ?_
  refine lv_istore (lv' := [(4, .int (mPat - ((1 : Int32) <<< (o3 &&& 31)))), (3, .int o3), (0, .ref (a 0)), (1, .int x1), (2, .int x2)]) hx hb dX11_standing_16 hl (by decide) rfl (fun ls hl => ?_)
  refine lv_iconst (v := 0) hx hb dX11_standing_18 (by decide) ?_
  refine lv_istore (lv' := [(5, .int 0), (4, .int (mPat - ((1 : Int32) <<< (o3 &&& 31)))), (3, .int o3), (0, .ref (a 0)), (1, .int x1), (2, .int x2)]) hx hb dX11_standing_19 hl (by decide) rfl (fun ls hl => ?_)
  refine lv_iconst (v := 0) hx hb dX11_standing_21 (by decide) ?_
  refine lv_istore (lv' := [(6, .int 0), (5, .int 0), (4, .int (mPat - ((1 : Int32) <<< (o3 &&& 31)))), (3, .int o3), (0, .ref (a 0)), (1, .int x1), (2, .int x2)]) hx hb dX11_standing_22 hl (by decide) rfl (fun ls hl => ?_)
  exact L24 N x1 x2 o3 (mPat - ((1 : Int32) <<< (o3 &&& 31))) 0 0 ls (lv_sub hl [5, 6, 3, 2, 1, 0] rfl) h
set_option maxHeartbeats 4000000 in
set_option maxRecDepth 100000 in
theorem c_X11_standing {N : Nat} (l : Launch) (D : va_G) (k : Nat → ClassId) (a : Nat → Nat) (mSizes : Nat → Int32) (mSigns : Nat → Int32) (mOdds : Int32) (mPat : Int32) (mTyped : Int32) (mText : Nat → Int32) (mAt : Int32) (mFault : Int32) (mTests : Int32) (mTN : Nat → Int32) (mTS : Nat → Int32) (mTV : Nat → Int32) (mTB : Nat → Int32) (mRead : Int32) (mUns : Nat → Int32) (mUM : Int32) (mBA : Int32) (mBH : Int32) (mThere : Nat → Int32) (mTypes : Nat → Int32) (mHeld : Nat → Int32) (mItems : Nat → Int32) (mMoved : Nat → Int32) (mFind : Int32) (x1 : Int32) (x2 : Int32) {o : Int32} (h : f_X11_standing N x1 x2 mPat = some o) : mRi l yX11_standing wo_X11_standing 1 D k [.ref (a 0), .int x1, .int x2] (wM k a mSizes mSigns mOdds mPat mTyped mText mAt mFault mTests mTN mTS mTV mTB mRead mUns mUM mBA mBH mThere mTypes mHeld mItems mMoved mFind) o := by
  refine Met.ofW (cc := cX11_standing) (maxL := 7) (ret := some .int) (by decide) rfl ?_
  intro p e s m args below meth c s₁ B hml hv
  obtain ⟨rfl, hP, hK⟩ := hv
  rw [lg_entry_eq]
  exact core_X11_standing D k a mSizes mSigns mOdds mPat mTyped mText mAt mFault mTests mTN mTS mTV mTB mRead mUns mUM mBA mBH mThere mTypes mHeld mItems mMoved mFind x1 x2 B.exec B.bytes hml B.returns (atoms_spec (ws := wo_X11_standing) B.pre) (findClass_of_methodNamed B.named) B.notSynchronized (lv_entry [.ref (a 0), .int x1, .int x2] (n := 7) (Nat.le_of_ble_eq_true rfl)) hK hP h
theorem qd_X11_standing : yX11_standing.cls = RX11 ∧ yX11_standing.cls ≠ "java/lang/invoke/MethodHandle" ∧ yX11_standing.cls ≠ "java/lang/invoke/VarHandle" ∧ (parseMethodDescriptor yX11_standing.desc).map (fun d => d.parameters.length) = some 2 := by decide +kernel
abbrev wo_X11_numberOf : List Cond := .code yX11_numberOf cX11_numberOf 13 (some .int) :: wsL_law
set_option maxHeartbeats 4000000 in
set_option maxRecDepth 100000 in
theorem core_X11_numberOf {N : Nat} (D : va_G) (k : Nat → ClassId) (a : Nat → Nat) (mSizes : Nat → Int32) (mSigns : Nat → Int32) (mOdds : Int32) (mPat : Int32) (mTyped : Int32) (mText : Nat → Int32) (mAt : Int32) (mFault : Int32) (mTests : Int32) (mTN : Nat → Int32) (mTS : Nat → Int32) (mTV : Nat → Int32) (mTB : Nat → Int32) (mRead : Int32) (mUns : Nat → Int32) (mUM : Int32) (mBA : Int32) (mBH : Int32) (mThere : Nat → Int32) (mTypes : Nat → Int32) (mHeld : Nat → Int32) (mItems : Nat → Int32) (mMoved : Nat → Int32) (mFind : Int32) (x1 : Int32) (x2 : Int32) (x3 : Int32) {p : Program} {l : Launch} {e : Env} {s : State} {m : MethodId} {args : Array Value} {below : List Frame} {meth : Method} {c : Code} {ls : Array Slot} (hx : p.tables.exec = Jvm.exec) (hb : c.code = cX11_numberOf) (hml : c.maxLocals = 13) (hr : meth.sig.returnType = some .int) (hts : ∀ w ∈ wo_X11_numberOf, w.before args s = true) (hown : s.vm.findClass RX11 = some m.cls) (hlocks : meth.locks = false) (hl : lv_has ls 13 [(0, .ref (a 0)), (1, .int x1), (2, .int x2), (3, .int x3)]) (hK : va_K D vwCl (xTys k) s) (hP : va_P D vwCl (wM k a mSizes mSigns mOdds mPat mTyped mText mAt mFault mTests mTN mTS mTV mTB mRead mUns mUM mBA mBH mThere mTypes mHeld mItems mMoved mFind) s.heap) {o : Int32} (h : f_X11_numberOf N x1 x2 x3 mPat = some o) : gRi p l e wo_X11_numberOf 2 s m args below meth c o (F0 m 0 ls []) := by
  unfold f_X11_numberOf at h
  have L44 : ∀ (n44 : Nat) (x1 : Int32) (x2 : Int32) (x3 : Int32) (x4 : Int32) (x5 : Int32) (x6 : Int32) (x7 : Int32) (x8 : Int32) (x9 : Int32) (x10 : Int32) (ls : Array Slot) (hl : lv_has ls 13 [(1, .int x1), (2, .int x2), (3, .int x3), (4, .int x4), (5, .int x5), (6, .int x6), (7, .int x7), (8, .int x8), (9, .int x9), (10, .int x10)]) (h : f_X11_numberOf_44 N n44 x1 x2 x3 x4 x5 x6 x7 x8 x9 x10 mPat = some o), gRi p l e wo_X11_numberOf 2 s m args below meth c o (F0 m 44 ls []) := by
    intro n44
    induction n44 with
    | zero => intro x1 x2 x3 x4 x5 x6 x7 x8 x9 x10 ls hl h; cases (show (none : Option (Int32)) = some o from h)
    | succ n44 ih44 =>
      have J196 : ∀ (x1 : Int32) (x2 : Int32) (x3 : Int32) (x4 : Int32) (x5 : Int32) (x6 : Int32) (x7 : Int32) (x9 : Int32) (x10 : Int32) (s0 : Int32) (ls : Array Slot) (hl : lv_has ls 13 [(1, .int x1), (2, .int x2), (3, .int x3), (4, .int x4), (5, .int x5), (6, .int x6), (7, .int x7), (9, .int x9), (10, .int x10)]) (h : f_X11_numberOf_196 N (fun y0 y1 y2 y3 y4 y5 y6 y7 y8 y9 y10 => f_X11_numberOf_44 N n44 y0 y1 y2 y3 y4 y5 y6 y7 y8 y9 y10) x1 x2 x3 x4 x5 x6 x7 x9 x10 s0 mPat = some o), gRi p l e wo_X11_numberOf 2 s m args below meth c o (F0 m 196 ls [.int s0]) := by
        intro x1 x2 x3 x4 x5 x6 x7 x9 x10 s0 ls hl h
        unfold f_X11_numberOf_196 at h
        refine lv_istore (lv' := [(8, .int s0), (1, .int x1), (2, .int x2), (3, .int x3), (4, .int x4), (5, .int x5), (6, .int x6), (7, .int x7), (9, .int x9), (10, .int x10)]) hx hb dX11_numberOf_196 hl (by decide) rfl (fun ls hl => ?_)
        refine lv_iinc (v := (x10 + 1)) (lv' := [(10, .int (x10 + 1)), (8, .int s0), (1, .int x1), (2, .int x2), (3, .int x3), (4, .int x4), (5, .int x5), (6, .int x6), (7, .int x7), (9, .int x9)]) hx hb dX11_numberOf_198 hl (k := 9) rfl rfl (by decide) rfl (fun ls hl => ?_)
        refine lv_goto (tgt := 44) hx hb dX11_numberOf_201 (by decide) ?_
        exact ih44 x1 x2 x3 x4 x5 x6 x7 s0 x9 (x10 + 1) ls (lv_sub hl [2, 3, 4, 5, 6, 7, 8, 1, 9, 0] rfl) h
      have J194 : ∀ (x1 : Int32) (x2 : Int32) (x3 : Int32) (x4 : Int32) (x5 : Int32) (x6 : Int32) (x7 : Int32) (x8 : Int32) (x9 : Int32) (x10 : Int32) (ls : Array Slot) (hl : lv_has ls 13 [(1, .int x1), (2, .int x2), (3, .int x3), (4, .int x4), (5, .int x5), (6, .int x6), (7, .int x7), (8, .int x8), (9, .int x9), (10, .int x10)]) (h : f_X11_numberOf_194 N (fun y0 y1 y2 y3 y4 y5 y6 y7 y8 y9 y10 => f_X11_numberOf_44 N n44 y0 y1 y2 y3 y4 y5 y6 y7 y8 y9 y10) x1 x2 x3 x4 x5 x6 x7 x8 x9 x10 mPat = some o), gRi p l e wo_X11_numberOf 2 s m args below meth c o (F0 m 194 ls []) := by
        intro x1 x2 x3 x4 x5 x6 x7 x8 x9 x10 ls hl h
        unfold f_X11_numberOf_194 at h
        refine lv_iload hx hb dX11_numberOf_194 (lv_at hl 7 rfl) ?_
        exact J196 x1 x2 x3 x4 x5 x6 x7 x9 x10 x8 ls (lv_sub hl [0, 1, 2, 3, 4, 5, 6, 8, 9] rfl) h
      have J173 : ∀ (x1 : Int32) (x2 : Int32) (x3 : Int32) (x4 : Int32) (x5 : Int32) (x6 : Int32) (x8 : Int32) (x9 : Int32) (x10 : Int32) (x11 : Int32) (s0 : Int32) (s1 : Int32) (ls : Array Slot) (hl : lv_has ls 13 [(1, .int x1), (2, .int x2), (3, .int x3), (4, .int x4), (5, .int x5), (6, .int x6), (8, .int x8), (9, .int x9), (10, .int x10), (11, .int x11)]) (h : f_X11_numberOf_173 N (fun y0 y1 y2 y3 y4 y5 y6 y7 y8 y9 y10 => f_X11_numberOf_44 N n44 y0 y1 y2 y3 y4 y5 y6 y7 y8 y9 y10) x1 x2 x3 x4 x5 x6 x8 x9 x10 x11 s0 s1 mPat = some o), gRi p l e wo_X11_numberOf 2 s m args below meth c o (F0 m 173 ls [.int s1, .int s0]) := by
        intro x1 x2 x3 x4 x5 x6 x8 x9 x10 x11 s0 s1 ls hl h
        unfold f_X11_numberOf_173 at h
        refine lv_iadd hx hb dX11_numberOf_173 ?_
        refine lv_istore (lv' := [(7, .int (s0 + s1)), (1, .int x1), (2, .int x2), (3, .int x3), (4, .int x4), (5, .int x5), (6, .int x6), (8, .int x8), (9, .int x9), (10, .int x10), (11, .int x11)]) hx hb dX11_numberOf_174 hl (by decide) rfl (fun ls hl => ?_)
        refine lv_iload hx hb dX11_numberOf_176 (lv_at hl 10 rfl) ?_
        refine lv_iconst (v := 1) hx hb dX11_numberOf_178 (by decide) ?_
        refine lv_icmp_ne (tgt := 194) hx hb dX11_numberOf_179 (by decide) (fun c1 => ?_) (fun c1 => ?_)
        · replace h := (if_neg c1).symm.trans h
          exact J194 x1 x2 x3 x4 x5 x6 (s0 + s1) x8 x9 x10 ls (lv_sub hl [1, 2, 3, 4, 5, 6, 0, 7, 8, 9] rfl) h
        · replace h := (if_pos c1).symm.trans h
          refine lv_iload hx hb dX11_numberOf_182 (lv_at hl 7 rfl) ?_
          refine lv_bipush (v := 15) hx hb dX11_numberOf_184 (by decide) ?_
          refine lv_icmp_ne (tgt := 194) hx hb dX11_numberOf_186 (by decide) (fun c2 => ?_) (fun c2 => ?_)
          · replace h := (if_neg c2).symm.trans h
            exact J194 x1 x2 x3 x4 x5 x6 (s0 + s1) x8 x9 x10 ls (lv_sub hl [1, 2, 3, 4, 5, 6, 0, 7, 8, 9] rfl) h
          · replace h := (if_pos c2).symm.trans h
            refine lv_iload hx hb dX11_numberOf_189 (lv_at hl 9 rfl) ?_
            refine lv_goto (tgt := 196) hx hb dX11_numberOf_191 (by decide) ?_
            exact J196 x1 x2 x3 x4 x5 x6 (s0 + s1) x9 x10 x10 ls (lv_sub hl [1, 2, 3, 4, 5, 6, 0, 8, 9] rfl) h
      have J172 : ∀ (x1 : Int32) (x2 : Int32) (x3 : Int32) (x4 : Int32) (x5 : Int32) (x6 : Int32) (x8 : Int32) (x9 : Int32) (x10 : Int32) (x11 : Int32) (s0 : Int32) (ls : Array Slot) (hl : lv_has ls 13 [(1, .int x1), (2, .int x2), (3, .int x3), (4, .int x4), (5, .int x5), (6, .int x6), (8, .int x8), (9, .int x9), (10, .int x10), (11, .int x11)]) (h : f_X11_numberOf_172 N (fun y0 y1 y2 y3 y4 y5 y6 y7 y8 y9 y10 => f_X11_numberOf_44 N n44 y0 y1 y2 y3 y4 y5 y6 y7 y8 y9 y10) x1 x2 x3 x4 x5 x6 x8 x9 x10 x11 s0 mPat = some o), gRi p l e wo_X11_numberOf 2 s m args below meth c o (F0 m 172 ls [.int s0]) := by
        intro x1 x2 x3 x4 x5 x6 x8 x9 x10 x11 s0 ls hl h
        unfold f_X11_numberOf_172 at h
        refine lv_iconst (v := 0) hx hb dX11_numberOf_172 (by decide) ?_
        exact J173 x1 x2 x3 x4 x5 x6 x8 x9 x10 x11 s0 0 ls (lv_sub hl [0, 1, 2, 3, 4, 5, 6, 7, 8, 9] rfl) h
      have J153 : ∀ (x1 : Int32) (x2 : Int32) (x3 : Int32) (x4 : Int32) (x5 : Int32) (x7 : Int32) (x8 : Int32) (x9 : Int32) (x10 : Int32) (x11 : Int32) (x12 : Int32) (s0 : Int32) (ls : Array Slot) (hl : lv_has ls 13 [(1, .int x1), (2, .int x2), (3, .int x3), (4, .int x4), (5, .int x5), (7, .int x7), (8, .int x8), (9, .int x9), (10, .int x10), (11, .int x11), (12, .int x12)]) (h : f_X11_numberOf_153 N (fun y0 y1 y2 y3 y4 y5 y6 y7 y8 y9 y10 => f_X11_numberOf_44 N n44 y0 y1 y2 y3 y4 y5 y6 y7 y8 y9 y10) x1 x2 x3 x4 x5 x7 x8 x9 x10 x11 x12 s0 mPat = some o), gRi p l e wo_X11_numberOf 2 s m args below meth c o (F0 m 153 ls [.int s0]) := by
        intro x1 x2 x3 x4 x5 x7 x8 x9 x10 x11 x12 s0 ls hl h
        unfold f_X11_numberOf_153 at h
        refine lv_istore (lv' := [(6, .int s0), (1, .int x1), (2, .int x2), (3, .int x3), (4, .int x4), (5, .int x5), (7, .int x7), (8, .int x8), (9, .int x9), (10, .int x10), (11, .int x11), (12, .int x12)]) hx hb dX11_numberOf_153 hl (by decide) rfl (fun ls hl => ?_)
        refine lv_iload hx hb dX11_numberOf_155 (lv_at hl 6 rfl) ?_
        refine lv_iload hx hb dX11_numberOf_157 (lv_at hl 11 rfl) ?_
        refine lv_if_eq (tgt := 172) hx hb dX11_numberOf_159 (by decide) (fun c3 => ?_) (fun c3 => ?_)
        · replace h := (if_pos c3).symm.trans h
          exact J172 x1 x2 x3 x4 x5 s0 x8 x9 x10 x11 x7 ls (lv_sub hl [1, 2, 3, 4, 5, 0, 7, 8, 9, 10] rfl) h
        · replace h := (if_neg c3).symm.trans h
          refine lv_iload hx hb dX11_numberOf_162 (lv_at hl 10 rfl) ?_
          refine lv_iconst (v := 1) hx hb dX11_numberOf_164 (by decide) ?_
          refine lv_icmp_ne (tgt := 172) hx hb dX11_numberOf_165 (by decide) (fun c4 => ?_) (fun c4 => ?_)
          · replace h := (if_neg c4).symm.trans h
            exact J172 x1 x2 x3 x4 x5 s0 x8 x9 x10 x11 x7 ls (lv_sub hl [1, 2, 3, 4, 5, 0, 7, 8, 9, 10] rfl) h
          · replace h := (if_pos c4).symm.trans h
            refine lv_iconst (v := 1) hx hb dX11_numberOf_168 (by decide) ?_
            refine lv_goto (tgt := 173) hx hb dX11_numberOf_169 (by decide) ?_
            exact J173 x1 x2 x3 x4 x5 s0 x8 x9 x10 x11 x7 1 ls (lv_sub hl [1, 2, 3, 4, 5, 0, 7, 8, 9, 10] rfl) h
      have J151 : ∀ (x1 : Int32) (x2 : Int32) (x3 : Int32) (x4 : Int32) (x5 : Int32) (x6 : Int32) (x7 : Int32) (x8 : Int32) (x9 : Int32) (x10 : Int32) (x11 : Int32) (x12 : Int32) (ls : Array Slot) (hl : lv_has ls 13 [(1, .int x1), (2, .int x2), (3, .int x3), (4, .int x4), (5, .int x5), (6, .int x6), (7, .int x7), (8, .int x8), (9, .int x9), (10, .int x10), (11, .int x11), (12, .int x12)]) (h : f_X11_numberOf_151 N (fun y0 y1 y2 y3 y4 y5 y6 y7 y8 y9 y10 => f_X11_numberOf_44 N n44 y0 y1 y2 y3 y4 y5 y6 y7 y8 y9 y10) x1 x2 x3 x4 x5 x6 x7 x8 x9 x10 x11 x12 mPat = some o), gRi p l e wo_X11_numberOf 2 s m args below meth c o (F0 m 151 ls []) := by
        intro x1 x2 x3 x4 x5 x6 x7 x8 x9 x10 x11 x12 ls hl h
        unfold f_X11_numberOf_151 at h
        refine lv_iload hx hb dX11_numberOf_151 (lv_at hl 5 rfl) ?_
        exact J153 x1 x2 x3 x4 x5 x7 x8 x9 x10 x11 x12 x6 ls (lv_sub hl [0, 1, 2, 3, 4, 6, 7, 8, 9, 10, 11] rfl) h
      have J131 : ∀ (x1 : Int32) (x2 : Int32) (x3 : Int32) (x4 : Int32) (x6 : Int32) (x7 : Int32) (x8 : Int32) (x9 : Int32) (x10 : Int32) (x11 : Int32) (x12 : Int32) (s0 : Int32) (ls : Array Slot) (hl : lv_has ls 13 [(1, .int x1), (2, .int x2), (3, .int x3), (4, .int x4), (6, .int x6), (7, .int x7), (8, .int x8), (9, .int x9), (10, .int x10), (11, .int x11), (12, .int x12)]) (h : f_X11_numberOf_131 N (fun y0 y1 y2 y3 y4 y5 y6 y7 y8 y9 y10 => f_X11_numberOf_44 N n44 y0 y1 y2 y3 y4 y5 y6 y7 y8 y9 y10) x1 x2 x3 x4 x6 x7 x8 x9 x10 x11 x12 s0 mPat = some o), gRi p l e wo_X11_numberOf 2 s m args below meth c o (F0 m 131 ls [.int s0]) := by
        intro x1 x2 x3 x4 x6 x7 x8 x9 x10 x11 x12 s0 ls hl h
        unfold f_X11_numberOf_131 at h
        refine lv_istore (lv' := [(5, .int s0), (1, .int x1), (2, .int x2), (3, .int x3), (4, .int x4), (6, .int x6), (7, .int x7), (8, .int x8), (9, .int x9), (10, .int x10), (11, .int x11), (12, .int x12)]) hx hb dX11_numberOf_131 hl (by decide) rfl (fun ls hl => ?_)
        refine lv_iload hx hb dX11_numberOf_133 (lv_at hl 10 rfl) ?_
        refine lv_iconst (v := 1) hx hb dX11_numberOf_135 (by decide) ?_
        refine lv_icmp_ne (tgt := 151) hx hb dX11_numberOf_136 (by decide) (fun c5 => ?_) (fun c5 => ?_)
        · replace h := (if_neg c5).symm.trans h
          exact J151 x1 x2 x3 x4 s0 x6 x7 x8 x9 x10 x11 x12 ls (lv_sub hl [1, 2, 3, 4, 0, 5, 6, 7, 8, 9, 10, 11] rfl) h
        · replace h := (if_pos c5).symm.trans h
          refine lv_iload hx hb dX11_numberOf_139 (lv_at hl 8 rfl) ?_
          refine lv_iload hx hb dX11_numberOf_141 (lv_at hl 5 rfl) ?_
          refine lv_icmp_le (tgt := 151) hx hb dX11_numberOf_143 (by decide) (fun c6 => ?_) (fun c6 => ?_)
          · replace h := (if_pos c6).symm.trans h
            exact J151 x1 x2 x3 x4 s0 x6 x7 x8 x9 x10 x11 x12 ls (lv_sub hl [1, 2, 3, 4, 0, 5, 6, 7, 8, 9, 10, 11] rfl) h
          · replace h := (if_neg c6).symm.trans h
            refine lv_iload hx hb dX11_numberOf_146 (lv_at hl 8 rfl) ?_
            refine lv_goto (tgt := 153) hx hb dX11_numberOf_148 (by decide) ?_
            exact J153 x1 x2 x3 x4 s0 x7 x8 x9 x10 x11 x12 x9 ls (lv_sub hl [1, 2, 3, 4, 0, 6, 7, 8, 9, 10, 11] rfl) h
      have J115 : ∀ (x1 : Int32) (x2 : Int32) (x3 : Int32) (x4 : Int32) (x5 : Int32) (x6 : Int32) (x7 : Int32) (x8 : Int32) (x10 : Int32) (x11 : Int32) (x12 : Int32) (s0 : Int32) (ls : Array Slot) (hl : lv_has ls 13 [(1, .int x1), (2, .int x2), (3, .int x3), (4, .int x4), (5, .int x5), (6, .int x6), (7, .int x7), (8, .int x8), (10, .int x10), (11, .int x11), (12, .int x12)]) (h : f_X11_numberOf_115 N (fun y0 y1 y2 y3 y4 y5 y6 y7 y8 y9 y10 => f_X11_numberOf_44 N n44 y0 y1 y2 y3 y4 y5 y6 y7 y8 y9 y10) x1 x2 x3 x4 x5 x6 x7 x8 x10 x11 x12 s0 mPat = some o), gRi p l e wo_X11_numberOf 2 s m args below meth c o (F0 m 115 ls [.int s0]) := by
        intro x1 x2 x3 x4 x5 x6 x7 x8 x10 x11 x12 s0 ls hl h
        unfold f_X11_numberOf_115 at h
        refine lv_istore (lv' := [(9, .int s0), (1, .int x1), (2, .int x2), (3, .int x3), (4, .int x4), (5, .int x5), (6, .int x6), (7, .int x7), (8, .int x8), (10, .int x10), (11, .int x11), (12, .int x12)]) hx hb dX11_numberOf_115 hl (by decide) rfl (fun ls hl => ?_)
        refine lv_iload hx hb dX11_numberOf_117 (lv_at hl 0 rfl) ?_
        refine lv_iload hx hb dX11_numberOf_119 (lv_at hl 5 rfl) ?_
        refine lv_icmp_le (tgt := 129) hx hb dX11_numberOf_121 (by decide) (fun c7 => ?_) (fun c7 => ?_)
        · replace h := (if_pos c7).symm.trans h
          refine lv_iload hx hb dX11_numberOf_129 (lv_at hl 5 rfl) ?_
          exact J131 x1 x2 x3 x4 x6 x7 x8 s0 x10 x11 x12 x5 ls (lv_sub hl [1, 2, 3, 4, 6, 7, 8, 0, 9, 10, 11] rfl) h
        · replace h := (if_neg c7).symm.trans h
          refine lv_iload hx hb dX11_numberOf_124 (lv_at hl 0 rfl) ?_
          refine lv_goto (tgt := 131) hx hb dX11_numberOf_126 (by decide) ?_
          exact J131 x1 x2 x3 x4 x6 x7 x8 s0 x10 x11 x12 s0 ls (lv_sub hl [1, 2, 3, 4, 6, 7, 8, 0, 9, 10, 11] rfl) h
      have J99 : ∀ (x1 : Int32) (x2 : Int32) (x3 : Int32) (x5 : Int32) (x6 : Int32) (x7 : Int32) (x8 : Int32) (x9 : Int32) (x10 : Int32) (x11 : Int32) (x12 : Int32) (s0 : Int32) (s1 : Int32) (ls : Array Slot) (hl : lv_has ls 13 [(1, .int x1), (2, .int x2), (3, .int x3), (5, .int x5), (6, .int x6), (7, .int x7), (8, .int x8), (9, .int x9), (10, .int x10), (11, .int x11), (12, .int x12)]) (h : f_X11_numberOf_99 N (fun y0 y1 y2 y3 y4 y5 y6 y7 y8 y9 y10 => f_X11_numberOf_44 N n44 y0 y1 y2 y3 y4 y5 y6 y7 y8 y9 y10) x1 x2 x3 x5 x6 x7 x8 x9 x10 x11 x12 s0 s1 mPat = some o), gRi p l e wo_X11_numberOf 2 s m args below meth c o (F0 m 99 ls [.int s1, .int s0]) := by
        intro x1 x2 x3 x5 x6 x7 x8 x9 x10 x11 x12 s0 s1 ls hl h
        unfold f_X11_numberOf_99 at h
        refine lv_iadd hx hb dX11_numberOf_99 ?_
        refine lv_istore (lv' := [(4, .int (s0 + s1)), (1, .int x1), (2, .int x2), (3, .int x3), (5, .int x5), (6, .int x6), (7, .int x7), (8, .int x8), (9, .int x9), (10, .int x10), (11, .int x11), (12, .int x12)]) hx hb dX11_numberOf_100 hl (by decide) rfl (fun ls hl => ?_)
        refine lv_iload hx hb dX11_numberOf_102 (lv_at hl 11 rfl) ?_
        refine lv_if_eq (tgt := 114) hx hb dX11_numberOf_104 (by decide) (fun c8 => ?_) (fun c8 => ?_)
        · replace h := (if_pos c8).symm.trans h
          refine lv_iconst (v := 1) hx hb dX11_numberOf_114 (by decide) ?_
          exact J115 x1 x2 x3 (s0 + s1) x5 x6 x7 x8 x10 x11 x12 1 ls (lv_sub hl [1, 2, 3, 0, 4, 5, 6, 7, 9, 10, 11] rfl) h
        · replace h := (if_neg c8).symm.trans h
          refine lv_iload hx hb dX11_numberOf_107 (lv_at hl 8 rfl) ?_
          refine lv_iconst (v := 1) hx hb dX11_numberOf_109 (by decide) ?_
          refine lv_iadd hx hb dX11_numberOf_110 ?_
          refine lv_goto (tgt := 115) hx hb dX11_numberOf_111 (by decide) ?_
          exact J115 x1 x2 x3 (s0 + s1) x5 x6 x7 x8 x10 x11 x12 (x9 + 1) ls (lv_sub hl [1, 2, 3, 0, 4, 5, 6, 7, 9, 10, 11] rfl) h
      have J85 : ∀ (x1 : Int32) (x2 : Int32) (x3 : Int32) (x4 : Int32) (x5 : Int32) (x6 : Int32) (x7 : Int32) (x8 : Int32) (x9 : Int32) (x10 : Int32) (x11 : Int32) (s0 : Int32) (ls : Array Slot) (hl : lv_has ls 13 [(1, .int x1), (2, .int x2), (3, .int x3), (4, .int x4), (5, .int x5), (6, .int x6), (7, .int x7), (8, .int x8), (9, .int x9), (10, .int x10), (11, .int x11)]) (h : f_X11_numberOf_85 N (fun y0 y1 y2 y3 y4 y5 y6 y7 y8 y9 y10 => f_X11_numberOf_44 N n44 y0 y1 y2 y3 y4 y5 y6 y7 y8 y9 y10) x1 x2 x3 x4 x5 x6 x7 x8 x9 x10 x11 s0 mPat = some o), gRi p l e wo_X11_numberOf 2 s m args below meth c o (F0 m 85 ls [.int s0]) := by
        intro x1 x2 x3 x4 x5 x6 x7 x8 x9 x10 x11 s0 ls hl h
        unfold f_X11_numberOf_85 at h
        refine lv_istore (lv' := [(12, .int s0), (1, .int x1), (2, .int x2), (3, .int x3), (4, .int x4), (5, .int x5), (6, .int x6), (7, .int x7), (8, .int x8), (9, .int x9), (10, .int x10), (11, .int x11)]) hx hb dX11_numberOf_85 hl (by decide) rfl (fun ls hl => ?_)
        refine lv_iload hx hb dX11_numberOf_87 (lv_at hl 4 rfl) ?_
        refine lv_iload hx hb dX11_numberOf_89 (lv_at hl 0 rfl) ?_
        refine lv_if_eq (tgt := 98) hx hb dX11_numberOf_91 (by decide) (fun c9 => ?_) (fun c9 => ?_)
        · replace h := (if_pos c9).symm.trans h
          refine lv_iconst (v := 1) hx hb dX11_numberOf_98 (by decide) ?_
          exact J99 x1 x2 x3 x5 x6 x7 x8 x9 x10 x11 s0 x4 1 ls (lv_sub hl [1, 2, 3, 5, 6, 7, 8, 9, 10, 11, 0] rfl) h
        · replace h := (if_neg c9).symm.trans h
          refine lv_iconst (v := 0) hx hb dX11_numberOf_94 (by decide) ?_
          refine lv_goto (tgt := 99) hx hb dX11_numberOf_95 (by decide) ?_
          exact J99 x1 x2 x3 x5 x6 x7 x8 x9 x10 x11 s0 x4 0 ls (lv_sub hl [1, 2, 3, 5, 6, 7, 8, 9, 10, 11, 0] rfl) h
      have J84 : ∀ (x1 : Int32) (x2 : Int32) (x3 : Int32) (x4 : Int32) (x5 : Int32) (x6 : Int32) (x7 : Int32) (x8 : Int32) (x9 : Int32) (x10 : Int32) (x11 : Int32) (ls : Array Slot) (hl : lv_has ls 13 [(1, .int x1), (2, .int x2), (3, .int x3), (4, .int x4), (5, .int x5), (6, .int x6), (7, .int x7), (8, .int x8), (9, .int x9), (10, .int x10), (11, .int x11)]) (h : f_X11_numberOf_84 N (fun y0 y1 y2 y3 y4 y5 y6 y7 y8 y9 y10 => f_X11_numberOf_44 N n44 y0 y1 y2 y3 y4 y5 y6 y7 y8 y9 y10) x1 x2 x3 x4 x5 x6 x7 x8 x9 x10 x11 mPat = some o), gRi p l e wo_X11_numberOf 2 s m args below meth c o (F0 m 84 ls []) := by
        intro x1 x2 x3 x4 x5 x6 x7 x8 x9 x10 x11 ls hl h
        unfold f_X11_numberOf_84 at h
        refine lv_iconst (v := 0) hx hb dX11_numberOf_84 (by decide) ?_
        exact J85 x1 x2 x3 x4 x5 x6 x7 x8 x9 x10 x11 0 ls (lv_sub hl [0, 1, 2, 3, 4, 5, 6, 7, 8, 9, 10] rfl) h
      intro x1 x2 x3 x4 x5 x6 x7 x8 x9 x10 ls hl h
      rw [f_X11_numberOf_44] at h
      refine lv_iload hx hb dX11_numberOf_44 (lv_at hl 9 rfl) ?_
      refine lv_iload_n hx hb dX11_numberOf_46 rfl (lv_at hl 1 rfl) ?_
      refine lv_icmp_ge (tgt := 204) hx hb dX11_numberOf_47 (by decide) (fun c10 => ?_) (fun c10 => ?_)
      · replace h := (if_pos c10).symm.trans h
        refine lv_iload_n hx hb dX11_numberOf_204 rfl (lv_at hl 2 rfl) ?_
        refine lv_iconst (v := 1) hx hb dX11_numberOf_205 (by decide) ?_
        refine lv_icmp_ne (tgt := 214) hx hb dX11_numberOf_206 (by decide) (fun c11 => ?_) (fun c11 => ?_)
        · replace h := (if_neg c11).symm.trans h
          refine lv_iload_n hx hb dX11_numberOf_214 rfl (lv_at hl 2 rfl) ?_
          refine lv_iconst (v := 2) hx hb dX11_numberOf_215 (by decide) ?_
          refine lv_icmp_ne (tgt := 224) hx hb dX11_numberOf_216 (by decide) (fun c12 => ?_) (fun c12 => ?_)
          · replace h := (if_neg c12).symm.trans h
            refine lv_iload_n hx hb dX11_numberOf_224 rfl (lv_at hl 2 rfl) ?_
            refine lv_iconst (v := 3) hx hb dX11_numberOf_225 (by decide) ?_
            refine lv_icmp_ne (tgt := 234) hx hb dX11_numberOf_226 (by decide) (fun c13 => ?_) (fun c13 => ?_)
            · replace h := (if_neg c13).symm.trans h
              refine lv_iload_n hx hb dX11_numberOf_234 rfl (lv_at hl 2 rfl) ?_
              refine lv_iconst (v := 4) hx hb dX11_numberOf_235 (by decide) ?_
              refine lv_icmp_ne (tgt := 244) hx hb dX11_numberOf_236 (by decide) (fun c14 => ?_) (fun c14 => ?_)
              · replace h := (if_neg c14).symm.trans h
                refine lv_iload hx hb dX11_numberOf_244 (lv_at hl 7 rfl) ?_
                exact W.iret (v := x8) hx hb hr (fun t ht hW => ⟨_, rfl, Option.some.inj h, ht⟩) (fun q hq => by cases hq) dX11_numberOf_246
              · replace h := (if_pos c14).symm.trans h
                refine lv_iload hx hb dX11_numberOf_239 (lv_at hl 6 rfl) ?_
                refine lv_goto (tgt := 246) hx hb dX11_numberOf_241 (by decide) ?_
                exact W.iret (v := x7) hx hb hr (fun t ht hW => ⟨_, rfl, Option.some.inj h, ht⟩) (fun q hq => by cases hq) dX11_numberOf_246
            · replace h := (if_pos c13).symm.trans h
              refine lv_iload hx hb dX11_numberOf_229 (lv_at hl 5 rfl) ?_
              refine lv_goto (tgt := 246) hx hb dX11_numberOf_231 (by decide) ?_
              exact W.iret (v := x6) hx hb hr (fun t ht hW => ⟨_, rfl, Option.some.inj h, ht⟩) (fun q hq => by cases hq) dX11_numberOf_246
          · replace h := (if_pos c12).symm.trans h
            refine lv_iload hx hb dX11_numberOf_219 (lv_at hl 4 rfl) ?_
            refine lv_goto (tgt := 246) hx hb dX11_numberOf_221 (by decide) ?_
            exact W.iret (v := x5) hx hb hr (fun t ht hW => ⟨_, rfl, Option.some.inj h, ht⟩) (fun q hq => by cases hq) dX11_numberOf_246
        · replace h := (if_pos c11).symm.trans h
          refine lv_iload hx hb dX11_numberOf_209 (lv_at hl 3 rfl) ?_
          refine lv_goto (tgt := 246) hx hb dX11_numberOf_211 (by decide) ?_
          exact W.iret (v := x4) hx hb hr (fun t ht hW => ⟨_, rfl, Option.some.inj h, ht⟩) (fun q hq => by cases hq) dX11_numberOf_246
      · replace h := (if_neg c10).symm.trans h
        refine lv_iload_n hx hb dX11_numberOf_50 rfl (lv_at hl 0 rfl) ?_
        refine lv_iload_n hx hb dX11_numberOf_51 rfl (lv_at hl 1 rfl) ?_
        refine lv_iconst (v := 1) hx hb dX11_numberOf_52 (by decide) ?_
        refine lv_isub hx hb dX11_numberOf_53 ?_
        refine lv_iload hx hb dX11_numberOf_54 (lv_at hl 9 rfl) ?_
        refine lv_isub hx hb dX11_numberOf_56 ?_
        refine lv_ishr hx hb dX11_numberOf_57 ?_
        refine lv_iconst (v := 1) hx hb dX11_numberOf_58 (by decide) ?_
        refine lv_iand hx hb dX11_numberOf_59 ?_
        refine lv_istore (lv' := [(11, .int ((x1 >>> (((x2 - 1) - x10) &&& 31)) &&& 1)), (1, .int x1), (2, .int x2), (3, .int x3), (4, .int x4), (5, .int x5), (6, .int x6), (7, .int x7), (8, .int x8), (9, .int x9), (10, .int x10)]) hx hb dX11_numberOf_60 hl (by decide) rfl (fun ls hl => ?_)
        refine lv_iload hx hb dX11_numberOf_62 (lv_at hl 10 rfl) ?_
        refine lv_if_le (tgt := 84) hx hb dX11_numberOf_64 (by decide) (fun c15 => ?_) (fun c15 => ?_)
        · replace h := (if_pos c15).symm.trans h
          exact J84 x1 x2 x3 x4 x5 x6 x7 x8 x9 x10 ((x1 >>> (((x2 - 1) - x10) &&& 31)) &&& 1) ls (lv_sub hl [1, 2, 3, 4, 5, 6, 7, 8, 9, 10, 0] rfl) h
        · replace h := (if_neg c15).symm.trans h
          refine lv_iload_n hx hb dX11_numberOf_67 rfl (lv_at hl 1 rfl) ?_
          refine lv_iload_n hx hb dX11_numberOf_68 rfl (lv_at hl 2 rfl) ?_
          refine lv_iload hx hb dX11_numberOf_69 (lv_at hl 10 rfl) ?_
          refine lv_isub hx hb dX11_numberOf_71 ?_
          refine lv_ishr hx hb dX11_numberOf_72 ?_
          refine lv_iconst (v := 1) hx hb dX11_numberOf_73 (by decide) ?_
          refine lv_iand hx hb dX11_numberOf_74 ?_
          refine lv_iload hx hb dX11_numberOf_75 (lv_at hl 0 rfl) ?_
          refine lv_icmp_ne (tgt := 84) hx hb dX11_numberOf_77 (by decide) (fun c16 => ?_) (fun c16 => ?_)
          · replace h := (if_neg c16).symm.trans h
            exact J84 x1 x2 x3 x4 x5 x6 x7 x8 x9 x10 ((x1 >>> (((x2 - 1) - x10) &&& 31)) &&& 1) ls (lv_sub hl [1, 2, 3, 4, 5, 6, 7, 8, 9, 10, 0] rfl) h
          · replace h := (if_pos c16).symm.trans h
            refine lv_iconst (v := 1) hx hb dX11_numberOf_80 (by decide) ?_
            refine lv_goto (tgt := 85) hx hb dX11_numberOf_81 (by decide) ?_
            exact J85 x1 x2 x3 x4 x5 x6 x7 x8 x9 x10 ((x1 >>> (((x2 - 1) - x10) &&& 31)) &&& 1) 1 ls (lv_sub hl [1, 2, 3, 4, 5, 6, 7, 8, 9, 10, 0] rfl) h
  refine lv_iload_n hx hb dX11_numberOf_0 rfl (lv_at hl 3 rfl) ?_
  refine lv_if_ne (tgt := 9) hx hb dX11_numberOf_1 (by decide) (fun c17 => ?_) (fun c17 => ?_)
  · replace h := (if_neg c17).symm.trans h
    refine lv_iload_n hx hb dX11_numberOf_9 rfl (lv_at hl 3 rfl) ?_
    refine lv_bipush (v := 6) hx hb dX11_numberOf_10 (by decide) ?_
    refine lv_icmp_ne (tgt := 22) hx hb dX11_numberOf_12 (by decide) (fun c18 => ?_) (fun c18 => ?_)
    · replace h := (if_neg c18).symm.trans h
      refine lv_iconst (v := 0) hx hb dX11_numberOf_22 (by decide) ?_
      refine lv_istore (lv' := [(4, .int 0), (0, .ref (a 0)), (1, .int x1), (2, .int x2), (3, .int x3)]) hx hb dX11_numberOf_23 hl (by decide) rfl (fun ls hl => ?_)
      refine lv_iconst (v := 0) hx hb dX11_numberOf_25 (by decide) ?_
      refine lv_istore (lv' := [(5, .int 0), (4, .int 0), (0, .ref (a 0)), (1, .int x1), (2, .int x2), (3, .int x3)]) hx hb dX11_numberOf_26 hl (by decide) rfl (fun ls hl => ?_)
      refine lv_iconst (v := 0) hx hb dX11_numberOf_28 (by decide) ?_
      refine lv_istore (lv' := [(6, .int 0), (5, .int 0), (4, .int 0), (0, .ref (a 0)), (1, .int x1), (2, .int x2), (3, .int x3)]) hx hb dX11_numberOf_29 hl (by decide) rfl (fun ls hl => ?_)
      refine lv_iconst (v := 0) hx hb dX11_numberOf_31 (by decide) ?_
      refine lv_istore (lv' := [(7, .int 0), (6, .int 0), (5, .int 0), (4, .int 0), (0, .ref (a 0)), (1, .int x1), (2, .int x2), (3, .int x3)]) hx hb dX11_numberOf_32 hl (by decide) rfl (fun ls hl => ?_)
      refine lv_bipush (v := 15) hx hb dX11_numberOf_34 (by decide) ?_
      refine lv_istore (lv' := [(8, .int 15), (7, .int 0), (6, .int 0), (5, .int 0), (4, .int 0), (0, .ref (a 0)), (1, .int x1), (2, .int x2), (3, .int x3)]) hx hb dX11_numberOf_36 hl (by decide) rfl (fun ls hl => ?_)
      refine lv_iconst (v := 0) hx hb dX11_numberOf_38 (by decide) ?_
      refine lv_istore (lv' := [(9, .int 0), (8, .int 15), (7, .int 0), (6, .int 0), (5, .int 0), (4, .int 0), (0, .ref (a 0)), (1, .int x1), (2, .int x2), (3, .int x3)]) hx hb dX11_numberOf_39 hl (by decide) rfl (fun ls hl => ?_)
      refine lv_iconst (v := 0) hx hb dX11_numberOf_41 (by decide) ?_
      refine lv_istore (lv' := [(10, .int 0), (9, .int 0), (8, .int 15), (7, .int 0), (6, .int 0), (5, .int 0), (4, .int 0), (0, .ref (a 0)), (1, .int x1), (2, .int x2), (3, .int x3)]) hx hb dX11_numberOf_42 hl (by decide) rfl (fun ls hl => ?_)
      exact L44 N x1 x2 x3 0 0 0 0 15 0 0 ls (lv_sub hl [8, 9, 10, 6, 5, 4, 3, 2, 1, 0] rfl) h
    · replace h := (if_pos c18).symm.trans h
      refine lv_aload_n hx hb dX11_numberOf_15 rfl (lv_at hl 0 rfl) ?_
      refine lv_iload_n hx hb dX11_numberOf_16 rfl (lv_at hl 1 rfl) ?_
      refine lv_iload_n hx hb dX11_numberOf_17 rfl (lv_at hl 2 rfl) ?_
      obtain ⟨o19, eq20, h⟩ := bnd_some h
      refine kRiV (rest := []) (q0 := 0) ⟨hx, hb, hml, hown, hts⟩ (c_X11_standing l D k a mSizes mSigns mOdds mPat mTyped mText mAt mFault mTests mTN mTS mTV mTB mRead mUns mUM mBA mBH mThere mTypes mHeld mItems mMoved mFind x1 x2 eq20) (cwV 2 hts (gAV wm_256 wm_257 wm_258 wm_5 wm_259) rfl rfl rfl qd_X11_standing ⟨Nat.le_of_ble_eq_true rfl, Nat.le_of_ble_eq_true rfl⟩) hK hP (rfl) rfl rfl hl.1 rfl (Nat.le_of_ble_eq_true rfl) dX11_numberOf_18 ⟨Nat.zero_le _, Nat.zero_le _⟩ ?_
      exact W.iret (v := o19) hx hb hr (fun t ht hW => ⟨_, rfl, Option.some.inj h, ht⟩) (fun q hq => by cases hq) dX11_numberOf_21
  · replace h := (if_pos c17).symm.trans h
    refine lv_iload_n hx hb dX11_numberOf_4 rfl (lv_at hl 1 rfl) ?_
    obtain ⟨o21, eq22, h⟩ := bnd_some h
    refine kPi (rest := []) ⟨hx, hb, hml, hown, hts⟩ (c_X11_ones l x1 eq22) (va_cwS 1 hts (gAS wm_253 wm_254 wm_5 wm_255) rfl rfl rfl qd_X11_ones ⟨Nat.le_of_ble_eq_true rfl, Nat.le_of_ble_eq_true rfl⟩) rfl hl.1 rfl (Nat.le_of_ble_eq_true rfl) dX11_numberOf_5 ⟨Nat.zero_le _, Nat.zero_le _⟩ ?_
    exact W.iret (v := o21) hx hb hr (fun t ht hW => ⟨_, rfl, Option.some.inj h, ht⟩) (fun q hq => by cases hq) dX11_numberOf_8
set_option maxHeartbeats 4000000 in
set_option maxRecDepth 100000 in
theorem c_X11_numberOf {N : Nat} (l : Launch) (D : va_G) (k : Nat → ClassId) (a : Nat → Nat) (mSizes : Nat → Int32) (mSigns : Nat → Int32) (mOdds : Int32) (mPat : Int32) (mTyped : Int32) (mText : Nat → Int32) (mAt : Int32) (mFault : Int32) (mTests : Int32) (mTN : Nat → Int32) (mTS : Nat → Int32) (mTV : Nat → Int32) (mTB : Nat → Int32) (mRead : Int32) (mUns : Nat → Int32) (mUM : Int32) (mBA : Int32) (mBH : Int32) (mThere : Nat → Int32) (mTypes : Nat → Int32) (mHeld : Nat → Int32) (mItems : Nat → Int32) (mMoved : Nat → Int32) (mFind : Int32) (x1 : Int32) (x2 : Int32) (x3 : Int32) {o : Int32} (h : f_X11_numberOf N x1 x2 x3 mPat = some o) : mRi l yX11_numberOf wo_X11_numberOf 2 D k [.ref (a 0), .int x1, .int x2, .int x3] (wM k a mSizes mSigns mOdds mPat mTyped mText mAt mFault mTests mTN mTS mTV mTB mRead mUns mUM mBA mBH mThere mTypes mHeld mItems mMoved mFind) o := by
  refine Met.ofW (cc := cX11_numberOf) (maxL := 13) (ret := some .int) (by decide) rfl ?_
  intro p e s m args below meth c s₁ B hml hv
  obtain ⟨rfl, hP, hK⟩ := hv
  rw [lg_entry_eq]
  exact core_X11_numberOf D k a mSizes mSigns mOdds mPat mTyped mText mAt mFault mTests mTN mTS mTV mTB mRead mUns mUM mBA mBH mThere mTypes mHeld mItems mMoved mFind x1 x2 x3 B.exec B.bytes hml B.returns (atoms_spec (ws := wo_X11_numberOf) B.pre) (findClass_of_methodNamed B.named) B.notSynchronized (lv_entry [.ref (a 0), .int x1, .int x2, .int x3] (n := 13) (Nat.le_of_ble_eq_true rfl)) hK hP h
theorem qd_X11_numberOf : yX11_numberOf.cls = RX11 ∧ yX11_numberOf.cls ≠ "java/lang/invoke/MethodHandle" ∧ yX11_numberOf.cls ≠ "java/lang/invoke/VarHandle" ∧ (parseMethodDescriptor yX11_numberOf.desc).map (fun d => d.parameters.length) = some 3 := by decide +kernel
abbrev wo_X11_showsNow : List Cond := .code yX11_showsNow cX11_showsNow 3 (some .int) :: wsL_law
set_option maxHeartbeats 4000000 in
set_option maxRecDepth 100000 in
theorem core_X11_showsNow {N : Nat} (D : va_G) (k : Nat → ClassId) (a : Nat → Nat) (mSizes : Nat → Int32) (mSigns : Nat → Int32) (mOdds : Int32) (mPat : Int32) (mTyped : Int32) (mText : Nat → Int32) (mAt : Int32) (mFault : Int32) (mTests : Int32) (mTN : Nat → Int32) (mTS : Nat → Int32) (mTV : Nat → Int32) (mTB : Nat → Int32) (mRead : Int32) (mUns : Nat → Int32) (mUM : Int32) (mBA : Int32) (mBH : Int32) (mThere : Nat → Int32) (mTypes : Nat → Int32) (mHeld : Nat → Int32) (mItems : Nat → Int32) (mMoved : Nat → Int32) (mFind : Int32) (x1 : Int32) (x2 : Int32) {p : Program} {l : Launch} {e : Env} {s : State} {m : MethodId} {args : Array Value} {below : List Frame} {meth : Method} {c : Code} {ls : Array Slot} (hx : p.tables.exec = Jvm.exec) (hb : c.code = cX11_showsNow) (hml : c.maxLocals = 3) (hr : meth.sig.returnType = some .int) (hts : ∀ w ∈ wo_X11_showsNow, w.before args s = true) (hown : s.vm.findClass RX11 = some m.cls) (hlocks : meth.locks = false) (hl : lv_has ls 3 [(0, .ref (a 0)), (1, .int x1), (2, .int x2)]) (hK : va_K D vwCl (xTys k) s) (hP : va_P D vwCl (wM k a mSizes mSigns mOdds mPat mTyped mText mAt mFault mTests mTN mTS mTV mTB mRead mUns mUM mBA mBH mThere mTypes mHeld mItems mMoved mFind) s.heap) {o : Int32} (h : f_X11_showsNow N x1 x2 mSizes mSigns mPat = some o) : gRi p l e wo_X11_showsNow 3 s m args below meth c o (F0 m 0 ls []) := by
  have hi11 := (fun w h => List.mem_cons_of_mem _ (inlX11 w h) : ∀ w ∈ wsX110, w ∈ wo_X11_showsNow)
  have kf7 := hts _ (List.mem_cons_of_mem _ wm_72)
  unfold f_X11_showsNow at h
  refine lv_aload_n hx hb dX11_showsNow_0 rfl (lv_at hl 0 rfl) ?_
  refine lv_iload_n hx hb dX11_showsNow_1 rfl (lv_at hl 1 rfl) ?_
  obtain ⟨o1, eq2, h⟩ := bnd_some h
  refine kRiV (rest := []) (q0 := 0) ⟨hx, hb, hml, hown, hts⟩ (c_X11_isWhole l D k a mSizes mSigns mOdds mPat mTyped mText mAt mFault mTests mTN mTS mTV mTB mRead mUns mUM mBA mBH mThere mTypes mHeld mItems mMoved mFind x1 eq2) (cwV 1 hts (gAV wm_241 wm_242 wm_243 wm_5 wm_244) rfl rfl rfl qd_X11_isWhole ⟨Nat.le_of_ble_eq_true rfl, Nat.le_of_ble_eq_true rfl⟩) hK hP (rfl) rfl rfl hl.1 rfl (Nat.le_of_ble_eq_true rfl) dX11_showsNow_2 ⟨Nat.zero_le _, Nat.zero_le _⟩ ?_
  refine lv_if_eq (tgt := 27) hx hb dX11_showsNow_5 (by decide) (fun c3 => ?_) (fun c3 => ?_)
  · replace h := (if_pos c3).symm.trans h
    refine lv_bipush (v := (-3)) hx hb dX11_showsNow_27 (by decide) ?_
    exact W.iret (v := (-3)) hx hb hr (fun t ht hW => ⟨_, rfl, Option.some.inj h, ht⟩) (fun q hq => by cases hq) dX11_showsNow_29
  · replace h := (if_neg c3).symm.trans h
    refine lv_aload_n hx hb dX11_showsNow_8 rfl (lv_at hl 0 rfl) ?_
    refine lv_aload_n hx hb dX11_showsNow_9 rfl (lv_at hl 0 rfl) ?_
    refine lv_iload_n hx hb dX11_showsNow_10 rfl (lv_at hl 1 rfl) ?_
    obtain ⟨o4, eq5, h⟩ := bnd_some h
    refine kRiV (rest := [.ref (a 0)]) (q0 := 0) ⟨hx, hb, hml, hown, hts⟩ (c_X11_bitsOf l D k a mSizes mSigns mOdds mPat mTyped mText mAt mFault mTests mTN mTS mTV mTB mRead mUns mUM mBA mBH mThere mTypes mHeld mItems mMoved mFind x1 eq5) (cwV 1 hts (gAV wm_245 wm_246 wm_247 wm_5 wm_248) rfl rfl rfl qd_X11_bitsOf ⟨Nat.le_of_ble_eq_true rfl, Nat.le_of_ble_eq_true rfl⟩) hK hP (rfl) rfl rfl hl.1 rfl (Nat.le_of_ble_eq_true rfl) dX11_showsNow_11 ⟨Nat.zero_le _, Nat.zero_le _⟩ ?_
    refine lv_aload_n hx hb dX11_showsNow_14 rfl (lv_at hl 0 rfl) ?_
    refine va_get (D := D) (ci := 6) (v := .ref (a 1)) (C := RX11) (T := TX11) (N := 24) hx hb hts hi11 hown hK hP (0) (rfl) rfl 0 (by decide) kf7 (fun _ h9 => h9) rfl dX11_showsNow_15 ?_
    refine lv_iload_n hx hb dX11_showsNow_18 rfl (lv_at hl 1 rfl) ?_
    obtain ⟨g6, h⟩ := gIn_some h
    refine va_iald hx hb hK hP (1) 0 (rfl) rfl g6 dX11_showsNow_19 ?_
    refine lv_iload_n hx hb dX11_showsNow_20 rfl (lv_at hl 2 rfl) ?_
    obtain ⟨o7, eq8, h⟩ := bnd_some h
    refine kRiV (rest := []) (q0 := 0) ⟨hx, hb, hml, hown, hts⟩ (c_X11_numberOf l D k a mSizes mSigns mOdds mPat mTyped mText mAt mFault mTests mTN mTS mTV mTB mRead mUns mUM mBA mBH mThere mTypes mHeld mItems mMoved mFind o4 (mSizes x1.toNatClampNeg) x2 eq8) (cwV 3 hts (gAV wm_249 wm_250 wm_251 wm_5 wm_252) rfl rfl rfl qd_X11_numberOf ⟨Nat.le_of_ble_eq_true rfl, Nat.le_of_ble_eq_true rfl⟩) hK hP (rfl) rfl rfl hl.1 rfl (Nat.le_of_ble_eq_true rfl) dX11_showsNow_21 ⟨Nat.zero_le _, Nat.zero_le _⟩ ?_
    refine lv_goto (tgt := 29) hx hb dX11_showsNow_24 (by decide) ?_
    exact W.iret (v := o7) hx hb hr (fun t ht hW => ⟨_, rfl, Option.some.inj h, ht⟩) (fun q hq => by cases hq) dX11_showsNow_29
set_option maxHeartbeats 4000000 in
set_option maxRecDepth 100000 in
theorem c_X11_showsNow {N : Nat} (l : Launch) (D : va_G) (k : Nat → ClassId) (a : Nat → Nat) (mSizes : Nat → Int32) (mSigns : Nat → Int32) (mOdds : Int32) (mPat : Int32) (mTyped : Int32) (mText : Nat → Int32) (mAt : Int32) (mFault : Int32) (mTests : Int32) (mTN : Nat → Int32) (mTS : Nat → Int32) (mTV : Nat → Int32) (mTB : Nat → Int32) (mRead : Int32) (mUns : Nat → Int32) (mUM : Int32) (mBA : Int32) (mBH : Int32) (mThere : Nat → Int32) (mTypes : Nat → Int32) (mHeld : Nat → Int32) (mItems : Nat → Int32) (mMoved : Nat → Int32) (mFind : Int32) (x1 : Int32) (x2 : Int32) {o : Int32} (h : f_X11_showsNow N x1 x2 mSizes mSigns mPat = some o) : mRi l yX11_showsNow wo_X11_showsNow 3 D k [.ref (a 0), .int x1, .int x2] (wM k a mSizes mSigns mOdds mPat mTyped mText mAt mFault mTests mTN mTS mTV mTB mRead mUns mUM mBA mBH mThere mTypes mHeld mItems mMoved mFind) o := by
  refine Met.ofW (cc := cX11_showsNow) (maxL := 3) (ret := some .int) (by decide) rfl ?_
  intro p e s m args below meth c s₁ B hml hv
  obtain ⟨rfl, hP, hK⟩ := hv
  rw [lg_entry_eq]
  exact core_X11_showsNow D k a mSizes mSigns mOdds mPat mTyped mText mAt mFault mTests mTN mTS mTV mTB mRead mUns mUM mBA mBH mThere mTypes mHeld mItems mMoved mFind x1 x2 B.exec B.bytes hml B.returns (atoms_spec (ws := wo_X11_showsNow) B.pre) (findClass_of_methodNamed B.named) B.notSynchronized (lv_entry [.ref (a 0), .int x1, .int x2] (n := 3) (Nat.le_of_ble_eq_true rfl)) hK hP h
theorem qd_X11_showsNow : yX11_showsNow.cls = RX11 ∧ yX11_showsNow.cls ≠ "java/lang/invoke/MethodHandle" ∧ yX11_showsNow.cls ≠ "java/lang/invoke/VarHandle" ∧ (parseMethodDescriptor yX11_showsNow.desc).map (fun d => d.parameters.length) = some 2 := by decide +kernel
abbrev wo_X11_shows : List Cond := .code yX11_shows cX11_shows 3 (some .int) :: wsL_law
set_option maxHeartbeats 4000000 in
set_option maxRecDepth 100000 in
theorem core_X11_shows {N : Nat} (D : va_G) (k : Nat → ClassId) (a : Nat → Nat) (mSizes : Nat → Int32) (mSigns : Nat → Int32) (mOdds : Int32) (mPat : Int32) (mTyped : Int32) (mText : Nat → Int32) (mAt : Int32) (mFault : Int32) (mTests : Int32) (mTN : Nat → Int32) (mTS : Nat → Int32) (mTV : Nat → Int32) (mTB : Nat → Int32) (mRead : Int32) (mUns : Nat → Int32) (mUM : Int32) (mBA : Int32) (mBH : Int32) (mThere : Nat → Int32) (mTypes : Nat → Int32) (mHeld : Nat → Int32) (mItems : Nat → Int32) (mMoved : Nat → Int32) (mFind : Int32) (x1 : Int32) (x2 : Int32) {p : Program} {l : Launch} {e : Env} {s : State} {m : MethodId} {args : Array Value} {below : List Frame} {meth : Method} {c : Code} {ls : Array Slot} (hx : p.tables.exec = Jvm.exec) (hb : c.code = cX11_shows) (hml : c.maxLocals = 3) (hr : meth.sig.returnType = some .int) (hts : ∀ w ∈ wo_X11_shows, w.before args s = true) (hown : s.vm.findClass RX11 = some m.cls) (hlocks : meth.locks = false) (hl : lv_has ls 3 [(0, .ref (a 0)), (1, .int x1), (2, .int x2)]) (hK : va_K D vwCl (xTys k) s) (hP : va_P D vwCl (wM k a mSizes mSigns mOdds mPat mTyped mText mAt mFault mTests mTN mTS mTV mTB mRead mUns mUM mBA mBH mThere mTypes mHeld mItems mMoved mFind) s.heap) {o : Int32} (h : f_X11_shows N x1 x2 mSizes mSigns mPat = some o) : gRi p l e wo_X11_shows 4 s m args below meth c o (F0 m 0 ls []) := by
  unfold f_X11_shows at h
  refine lv_iload_n hx hb dX11_shows_0 rfl (lv_at hl 1 rfl) ?_
  obtain ⟨o1, eq2, h⟩ := bnd_some h
  refine kPi (rest := []) ⟨hx, hb, hml, hown, hts⟩ (c_X11_isRow l x1 eq2) (va_cwS 1 hts (gAS wm_117 wm_118 wm_5 wm_119) rfl rfl rfl qd_X11_isRow ⟨Nat.le_of_ble_eq_true rfl, Nat.le_of_ble_eq_true rfl⟩) rfl hl.1 rfl (Nat.le_of_ble_eq_true rfl) dX11_shows_1 ⟨Nat.zero_le _, Nat.zero_le _⟩ ?_
  refine lv_if_eq (tgt := 26) hx hb dX11_shows_4 (by decide) (fun c3 => ?_) (fun c3 => ?_)
  · replace h := (if_pos c3).symm.trans h
    refine lv_bipush (v := (-2)) hx hb dX11_shows_26 (by decide) ?_
    exact W.iret (v := (-2)) hx hb hr (fun t ht hW => ⟨_, rfl, Option.some.inj h, ht⟩) (fun q hq => by cases hq) dX11_shows_28
  · replace h := (if_neg c3).symm.trans h
    refine lv_iload_n hx hb dX11_shows_7 rfl (lv_at hl 2 rfl) ?_
    refine lv_iconst (v := 0) hx hb dX11_shows_8 (by decide) ?_
    refine lv_bipush (v := 6) hx hb dX11_shows_9 (by decide) ?_
    obtain ⟨o4, eq5, h⟩ := bnd_some h
    refine kPi (rest := []) ⟨hx, hb, hml, hown, hts⟩ (c_X11_in l x2 0 6 eq5) (va_cwS 3 hts (gAS wm_120 wm_121 wm_5 wm_122) rfl rfl rfl qd_X11_in ⟨Nat.le_of_ble_eq_true rfl, Nat.le_of_ble_eq_true rfl⟩) rfl hl.1 rfl (Nat.le_of_ble_eq_true rfl) dX11_shows_11 ⟨Nat.zero_le _, Nat.zero_le _⟩ ?_
    refine lv_if_eq (tgt := 26) hx hb dX11_shows_14 (by decide) (fun c6 => ?_) (fun c6 => ?_)
    · replace h := (if_pos c6).symm.trans h
      refine lv_bipush (v := (-2)) hx hb dX11_shows_26 (by decide) ?_
      exact W.iret (v := (-2)) hx hb hr (fun t ht hW => ⟨_, rfl, Option.some.inj h, ht⟩) (fun q hq => by cases hq) dX11_shows_28
    · replace h := (if_neg c6).symm.trans h
      refine lv_aload_n hx hb dX11_shows_17 rfl (lv_at hl 0 rfl) ?_
      refine lv_iload_n hx hb dX11_shows_18 rfl (lv_at hl 1 rfl) ?_
      refine lv_iload_n hx hb dX11_shows_19 rfl (lv_at hl 2 rfl) ?_
      obtain ⟨o7, eq8, h⟩ := bnd_some h
      refine kRiV (rest := []) (q0 := 0) ⟨hx, hb, hml, hown, hts⟩ (c_X11_showsNow l D k a mSizes mSigns mOdds mPat mTyped mText mAt mFault mTests mTN mTS mTV mTB mRead mUns mUM mBA mBH mThere mTypes mHeld mItems mMoved mFind x1 x2 eq8) (cwV 2 hts (gAV wm_237 wm_238 wm_239 wm_5 wm_240) rfl rfl rfl qd_X11_showsNow ⟨Nat.le_of_ble_eq_true rfl, Nat.le_of_ble_eq_true rfl⟩) hK hP (rfl) rfl rfl hl.1 rfl (Nat.le_of_ble_eq_true rfl) dX11_shows_20 ⟨Nat.zero_le _, Nat.zero_le _⟩ ?_
      refine lv_goto (tgt := 28) hx hb dX11_shows_23 (by decide) ?_
      exact W.iret (v := o7) hx hb hr (fun t ht hW => ⟨_, rfl, Option.some.inj h, ht⟩) (fun q hq => by cases hq) dX11_shows_28
set_option maxHeartbeats 4000000 in
set_option maxRecDepth 100000 in
theorem c_X11_shows {N : Nat} (l : Launch) (D : va_G) (k : Nat → ClassId) (a : Nat → Nat) (mSizes : Nat → Int32) (mSigns : Nat → Int32) (mOdds : Int32) (mPat : Int32) (mTyped : Int32) (mText : Nat → Int32) (mAt : Int32) (mFault : Int32) (mTests : Int32) (mTN : Nat → Int32) (mTS : Nat → Int32) (mTV : Nat → Int32) (mTB : Nat → Int32) (mRead : Int32) (mUns : Nat → Int32) (mUM : Int32) (mBA : Int32) (mBH : Int32) (mThere : Nat → Int32) (mTypes : Nat → Int32) (mHeld : Nat → Int32) (mItems : Nat → Int32) (mMoved : Nat → Int32) (mFind : Int32) (x1 : Int32) (x2 : Int32) {o : Int32} (h : f_X11_shows N x1 x2 mSizes mSigns mPat = some o) : mRi l yX11_shows wo_X11_shows 4 D k [.ref (a 0), .int x1, .int x2] (wM k a mSizes mSigns mOdds mPat mTyped mText mAt mFault mTests mTN mTS mTV mTB mRead mUns mUM mBA mBH mThere mTypes mHeld mItems mMoved mFind) o := by
  refine Met.ofW (cc := cX11_shows) (maxL := 3) (ret := some .int) (by decide) rfl ?_
  intro p e s m args below meth c s₁ B hml hv
  obtain ⟨rfl, hP, hK⟩ := hv
  rw [lg_entry_eq]
  exact core_X11_shows D k a mSizes mSigns mOdds mPat mTyped mText mAt mFault mTests mTN mTS mTV mTB mRead mUns mUM mBA mBH mThere mTypes mHeld mItems mMoved mFind x1 x2 B.exec B.bytes hml B.returns (atoms_spec (ws := wo_X11_shows) B.pre) (findClass_of_methodNamed B.named) B.notSynchronized (lv_entry [.ref (a 0), .int x1, .int x2] (n := 3) (Nat.le_of_ble_eq_true rfl)) hK hP h
theorem qd_X11_shows : yX11_shows.cls = RX11 ∧ yX11_shows.cls ≠ "java/lang/invoke/MethodHandle" ∧ yX11_shows.cls ≠ "java/lang/invoke/VarHandle" ∧ (parseMethodDescriptor yX11_shows.desc).map (fun d => d.parameters.length) = some 2 := by decide +kernel
abbrev wo_X11_type : List Cond := .code yX11_type cX11_type 2 (some .int) :: wsL_law
set_option maxHeartbeats 4000000 in
set_option maxRecDepth 100000 in
theorem core_X11_type (D : va_G) (k : Nat → ClassId) (a : Nat → Nat) (mSizes : Nat → Int32) (mSigns : Nat → Int32) (mOdds : Int32) (mPat : Int32) (mTyped : Int32) (mText : Nat → Int32) (mAt : Int32) (mFault : Int32) (mTests : Int32) (mTN : Nat → Int32) (mTS : Nat → Int32) (mTV : Nat → Int32) (mTB : Nat → Int32) (mRead : Int32) (mUns : Nat → Int32) (mUM : Int32) (mBA : Int32) (mBH : Int32) (mThere : Nat → Int32) (mTypes : Nat → Int32) (mHeld : Nat → Int32) (mItems : Nat → Int32) (mMoved : Nat → Int32) (mFind : Int32) (x1 : Int32) {p : Program} {l : Launch} {e : Env} {s : State} {m : MethodId} {args : Array Value} {below : List Frame} {meth : Method} {c : Code} {ls : Array Slot} (hx : p.tables.exec = Jvm.exec) (hb : c.code = cX11_type) (hml : c.maxLocals = 2) (hr : meth.sig.returnType = some .int) (hts : ∀ w ∈ wo_X11_type, w.before args s = true) (hown : s.vm.findClass RX11 = some m.cls) (hlocks : meth.locks = false) (hl : lv_has ls 2 [(0, .ref (a 0)), (1, .int x1)]) (hK : va_K D vwCl (xTys k) s) (hP : va_P D vwCl (wM k a mSizes mSigns mOdds mPat mTyped mText mAt mFault mTests mTN mTS mTV mTB mRead mUns mUM mBA mBH mThere mTypes mHeld mItems mMoved mFind) s.heap) {A : Nat → Prop} (hD : va_D A (wM k a mSizes mSigns mOdds mPat mTyped mText mAt mFault mTests mTN mTS mTV mTB mRead mUns mUM mBA mBH mThere mTypes mHeld mItems mMoved mFind)) (hA : ∀ q : Nat, s.heap.size ≤ q → A q) {o : Int32 × (Int32) × (Nat → Int32) × (Int32)} (h : f_X11_type x1 mTyped mText mRead = some o) : gQi p l e wo_X11_type 1 s m args below meth c D k A o.1 (wM k a mSizes mSigns mOdds mPat o.2.1 o.2.2.1 mAt mFault mTests mTN mTS mTV mTB o.2.2.2 mUns mUM mBA mBH mThere mTypes mHeld mItems mMoved mFind) s.heap [] (F0 m 0 ls []) := by
  have hi11 := (fun w h => List.mem_cons_of_mem _ (inlX11 w h) : ∀ w ∈ wsX110, w ∈ wo_X11_type)
  have kf100 := hts _ (List.mem_cons_of_mem _ wm_389)
  have kf23 := hts _ (List.mem_cons_of_mem _ wm_76)
  have kf103 := hts _ (List.mem_cons_of_mem _ wm_390)
  unfold f_X11_type at h
  have hS : va_S A s.heap s.heap [] := va_S.rf
  obtain ⟨H, hH⟩ : ∃ H : Heap, H = s.heap := ⟨_, rfl⟩
  obtain ⟨locs, hlc⟩ : ∃ locs : List Loc, locs = [] := ⟨_, rfl⟩
  have hS : va_S A s.heap H locs := by rw [hH, hlc]; exact va_S.rf
  have hP : va_P D vwCl (wM k a mSizes mSigns mOdds mPat mTyped mText mAt mFault mTests mTN mTS mTV mTB mRead mUns mUM mBA mBH mThere mTypes mHeld mItems mMoved mFind) H := by rw [hH]; exact hP
  suffices hGo : gQi p l e wo_X11_type 1 s m args below meth c D k A o.1 (wM k a mSizes mSigns mOdds mPat o.2.1 o.2.2.1 mAt mFault mTests mTN mTS mTV mTB o.2.2.2 mUns mUM mBA mBH mThere mTypes mHeld mItems mMoved mFind) H locs (F0 m 0 ls []) by rw [hH, hlc] at hGo; exact hGo
  refine lv_iload_n hx hb dX11_type_0 rfl (lv_at hl 1 rfl) ?_
  refine lv_iconst (v := 0) hx hb dX11_type_1 (by decide) ?_
  refine lv_sipush (v := 255) hx hb dX11_type_2 (by decide) ?_
  obtain ⟨o1, eq2, h⟩ := bnd_some h
  refine kPi (rest := []) ⟨hx, hb, hml, hown, hts⟩ (c_X11_in l x1 0 255 eq2) (va_cwS 3 hts (gAS wm_120 wm_121 wm_5 wm_122) rfl rfl rfl qd_X11_in ⟨Nat.le_of_ble_eq_true rfl, Nat.le_of_ble_eq_true rfl⟩) rfl hl.1 rfl (Nat.le_of_ble_eq_true rfl) dX11_type_5 ⟨Nat.zero_le _, Nat.zero_le _⟩ ?_
  refine lv_if_ne (tgt := 14) hx hb dX11_type_8 (by decide) (fun c3 => ?_) (fun c3 => ?_)
  · replace h := (if_neg c3).symm.trans h
    refine lv_aload_n hx hb dX11_type_14 rfl (lv_at hl 0 rfl) ?_
    refine va_get (D := D) (ci := 6) (v := .int mTyped) (C := RX11) (T := TX11) (N := 24) hx hb hts hi11 hown hK hP (0) (rfl) rfl 4 (by decide) kf100 (fun _ h9 => h9) rfl dX11_type_15 ?_
    refine lv_bipush (v := 60) hx hb dX11_type_18 (by decide) ?_
    refine lv_icmp_ne (tgt := 26) hx hb dX11_type_20 (by decide) (fun c4 => ?_) (fun c4 => ?_)
    · replace h := (if_neg c4).symm.trans h
      refine lv_aload_n hx hb dX11_type_26 rfl (lv_at hl 0 rfl) ?_
      refine va_get (D := D) (ci := 6) (v := .ref (a 3)) (C := RX11) (T := TX11) (N := 24) hx hb hts hi11 hown hK hP (0) (rfl) rfl 5 (by decide) kf23 (fun _ h9 => h9) rfl dX11_type_27 ?_
      refine lv_aload_n hx hb dX11_type_30 rfl (lv_at hl 0 rfl) ?_
      refine va_get (D := D) (ci := 6) (v := .int mTyped) (C := RX11) (T := TX11) (N := 24) hx hb hts hi11 hown hK hP (0) (rfl) rfl 4 (by decide) kf100 (fun _ h9 => h9) rfl dX11_type_31 ?_
      refine lv_iload_n hx hb dX11_type_34 rfl (lv_at hl 1 rfl) ?_
      obtain ⟨g5, h⟩ := gIn_some h
      refine va_iast hx hb hK hP hD hS (3) 0 (rfl) rfl g5 dX11_type_35 (fun H locs hP hD hS => ?_)
      have hP : va_P D vwCl (wM k a mSizes mSigns mOdds mPat mTyped (upd mText mTyped.toNatClampNeg x1) mAt mFault mTests mTN mTS mTV mTB mRead mUns mUM mBA mBH mThere mTypes mHeld mItems mMoved mFind) H := hP
      have hD : va_D A (wM k a mSizes mSigns mOdds mPat mTyped (upd mText mTyped.toNatClampNeg x1) mAt mFault mTests mTN mTS mTV mTB mRead mUns mUM mBA mBH mThere mTypes mHeld mItems mMoved mFind) := hD
      refine lv_aload_n hx hb dX11_type_36 rfl (lv_at hl 0 rfl) ?_
      refine lv_dup hx hb dX11_type_37 rfl ?_
      refine va_get (D := D) (ci := 6) (v := .int mTyped) (C := RX11) (T := TX11) (N := 24) hx hb hts hi11 hown hK hP (0) (rfl) rfl 4 (by decide) kf100 (fun _ h9 => h9) rfl dX11_type_38 ?_
      refine lv_iconst (v := 1) hx hb dX11_type_41 (by decide) ?_
      refine lv_iadd hx hb dX11_type_42 ?_
      refine va_put (D := D) (ci := 6) (v := .int (mTyped + 1)) (ty := .int) (C := RX11) (T := TX11) (N := 24) hx hb hts hi11 tyX11 tyX11_ok nmX11 hown hK hP hD hS (0) (rfl) rfl 4 (by decide) kf100 (fun _ h9 => h9) rfl (tyX11_ok 4 (by decide)) rfl rfl (Nat.le_of_ble_eq_true rfl) dX11_type_43 (fun H locs hP hD hS => ?_)
      have hP : va_P D vwCl (wM k a mSizes mSigns mOdds mPat (mTyped + 1) (upd mText mTyped.toNatClampNeg x1) mAt mFault mTests mTN mTS mTV mTB mRead mUns mUM mBA mBH mThere mTypes mHeld mItems mMoved mFind) H := hP
      have hD : va_D A (wM k a mSizes mSigns mOdds mPat (mTyped + 1) (upd mText mTyped.toNatClampNeg x1) mAt mFault mTests mTN mTS mTV mTB mRead mUns mUM mBA mBH mThere mTypes mHeld mItems mMoved mFind) := hD
      refine lv_aload_n hx hb dX11_type_46 rfl (lv_at hl 0 rfl) ?_
      refine lv_iconst (v := 0) hx hb dX11_type_47 (by decide) ?_
      refine va_put (D := D) (ci := 6) (v := .int 0) (ty := .boolean) (C := RX11) (T := TX11) (N := 24) hx hb hts hi11 tyX11 tyX11_ok nmX11 hown hK hP hD hS (0) (rfl) rfl 13 (by decide) kf103 (fun _ h9 => h9) rfl (tyX11_ok 13 (by decide)) rfl rfl (Nat.le_of_ble_eq_true rfl) dX11_type_48 (fun H locs hP hD hS => ?_)
      have hP : va_P D vwCl (wM k a mSizes mSigns mOdds mPat (mTyped + 1) (upd mText mTyped.toNatClampNeg x1) mAt mFault mTests mTN mTS mTV mTB 0 mUns mUM mBA mBH mThere mTypes mHeld mItems mMoved mFind) H := hP
      have hD : va_D A (wM k a mSizes mSigns mOdds mPat (mTyped + 1) (upd mText mTyped.toNatClampNeg x1) mAt mFault mTests mTN mTS mTV mTB 0 mUns mUM mBA mBH mThere mTypes mHeld mItems mMoved mFind) := hD
      refine lv_aload_n hx hb dX11_type_51 rfl (lv_at hl 0 rfl) ?_
      refine va_get (D := D) (ci := 6) (v := .int (mTyped + 1)) (C := RX11) (T := TX11) (N := 24) hx hb hts hi11 hown hK hP (0) (rfl) rfl 4 (by decide) kf100 (fun _ h9 => h9) rfl dX11_type_52 ?_
      have he := Option.some.inj h
      exact W.iret (v := (mTyped + 1)) hx hb hr (fun t ht hW => ⟨⟨(mTyped + 1), wM k a mSizes mSigns mOdds mPat (mTyped + 1) (upd mText mTyped.toNatClampNeg x1) mAt mFault mTests mTN mTS mTV mTB 0 mUns mUM mBA mBH mThere mTypes mHeld mItems mMoved mFind, rfl, ⟨(congrArg (fun z => z.1) he), (congrArg (fun z => wM k a mSizes mSigns mOdds mPat z.2.1 z.2.2.1 mAt mFault mTests mTN mTS mTV mTB z.2.2.2 mUns mUM mBA mBH mThere mTypes mHeld mItems mMoved mFind) he)⟩, by rw [ht]; exact hP, va_K.moved hW.alike hK, hD⟩, hS.F ht⟩) hS.2.2 dX11_type_55
    · replace h := (if_pos c4).symm.trans h
      refine lv_bipush (v := (-4)) hx hb dX11_type_23 (by decide) ?_
      have he := Option.some.inj h
      exact W.iret (v := (-4)) hx hb hr (fun t ht hW => ⟨⟨(-4), wM k a mSizes mSigns mOdds mPat mTyped mText mAt mFault mTests mTN mTS mTV mTB mRead mUns mUM mBA mBH mThere mTypes mHeld mItems mMoved mFind, rfl, ⟨(congrArg (fun z => z.1) he), (congrArg (fun z => wM k a mSizes mSigns mOdds mPat z.2.1 z.2.2.1 mAt mFault mTests mTN mTS mTV mTB z.2.2.2 mUns mUM mBA mBH mThere mTypes mHeld mItems mMoved mFind) he)⟩, by rw [ht]; exact hP, va_K.moved hW.alike hK, hD⟩, hS.F ht⟩) hS.2.2 dX11_type_25
  · replace h := (if_pos c3).symm.trans h
    refine lv_bipush (v := (-2)) hx hb dX11_type_11 (by decide) ?_
    have he := Option.some.inj h
    exact W.iret (v := (-2)) hx hb hr (fun t ht hW => ⟨⟨(-2), wM k a mSizes mSigns mOdds mPat mTyped mText mAt mFault mTests mTN mTS mTV mTB mRead mUns mUM mBA mBH mThere mTypes mHeld mItems mMoved mFind, rfl, ⟨(congrArg (fun z => z.1) he), (congrArg (fun z => wM k a mSizes mSigns mOdds mPat z.2.1 z.2.2.1 mAt mFault mTests mTN mTS mTV mTB z.2.2.2 mUns mUM mBA mBH mThere mTypes mHeld mItems mMoved mFind) he)⟩, by rw [ht]; exact hP, va_K.moved hW.alike hK, hD⟩, hS.F ht⟩) hS.2.2 dX11_type_13
set_option maxHeartbeats 4000000 in
set_option maxRecDepth 100000 in
theorem c_X11_type (l : Launch) (D : va_G) (k : Nat → ClassId) (a : Nat → Nat) (mSizes : Nat → Int32) (mSigns : Nat → Int32) (mOdds : Int32) (mPat : Int32) (mTyped : Int32) (mText : Nat → Int32) (mAt : Int32) (mFault : Int32) (mTests : Int32) (mTN : Nat → Int32) (mTS : Nat → Int32) (mTV : Nat → Int32) (mTB : Nat → Int32) (mRead : Int32) (mUns : Nat → Int32) (mUM : Int32) (mBA : Int32) (mBH : Int32) (mThere : Nat → Int32) (mTypes : Nat → Int32) (mHeld : Nat → Int32) (mItems : Nat → Int32) (mMoved : Nat → Int32) (mFind : Int32) (x1 : Int32) {o : Int32 × (Int32) × (Nat → Int32) × (Int32)} (h : f_X11_type x1 mTyped mText mRead = some o) : mQi l yX11_type wo_X11_type 1 D k [.ref (a 0), .int x1] (wM k a mSizes mSigns mOdds mPat mTyped mText mAt mFault mTests mTN mTS mTV mTB mRead mUns mUM mBA mBH mThere mTypes mHeld mItems mMoved mFind) o.1 (wM k a mSizes mSigns mOdds mPat o.2.1 o.2.2.1 mAt mFault mTests mTN mTS mTV mTB o.2.2.2 mUns mUM mBA mBH mThere mTypes mHeld mItems mMoved mFind) := by
  intro sz
  refine Met.ofW (cc := cX11_type) (maxL := 2) (ret := some .int) (by decide) rfl ?_
  intro p e s m args below meth c s₁ B hml hv
  obtain ⟨rfl, hsz, hP, hK, hD0⟩ := hv
  subst hsz
  rw [lg_entry_eq]
  exact core_X11_type D k a mSizes mSigns mOdds mPat mTyped mText mAt mFault mTests mTN mTS mTV mTB mRead mUns mUM mBA mBH mThere mTypes mHeld mItems mMoved mFind x1 B.exec B.bytes hml B.returns (atoms_spec (ws := wo_X11_type) B.pre) (findClass_of_methodNamed B.named) B.notSynchronized (lv_entry [.ref (a 0), .int x1] (n := 2) (Nat.le_of_ble_eq_true rfl)) hK hP hD0.self (fun q h => Or.inr h) h
theorem qd_X11_type : yX11_type.cls = RX11 ∧ yX11_type.cls ≠ "java/lang/invoke/MethodHandle" ∧ yX11_type.cls ≠ "java/lang/invoke/VarHandle" ∧ (parseMethodDescriptor yX11_type.desc).map (fun d => d.parameters.length) = some 1 := by decide +kernel
abbrev wo_X11_wipe : List Cond := .code yX11_wipe cX11_wipe 2 (some .int) :: wsL_law
set_option maxHeartbeats 4000000 in
set_option maxRecDepth 100000 in
theorem core_X11_wipe (D : va_G) (k : Nat → ClassId) (a : Nat → Nat) (mSizes : Nat → Int32) (mSigns : Nat → Int32) (mOdds : Int32) (mPat : Int32) (mTyped : Int32) (mText : Nat → Int32) (mAt : Int32) (mFault : Int32) (mTests : Int32) (mTN : Nat → Int32) (mTS : Nat → Int32) (mTV : Nat → Int32) (mTB : Nat → Int32) (mRead : Int32) (mUns : Nat → Int32) (mUM : Int32) (mBA : Int32) (mBH : Int32) (mThere : Nat → Int32) (mTypes : Nat → Int32) (mHeld : Nat → Int32) (mItems : Nat → Int32) (mMoved : Nat → Int32) (mFind : Int32)  {p : Program} {l : Launch} {e : Env} {s : State} {m : MethodId} {args : Array Value} {below : List Frame} {meth : Method} {c : Code} {ls : Array Slot} (hx : p.tables.exec = Jvm.exec) (hb : c.code = cX11_wipe) (hml : c.maxLocals = 2) (hr : meth.sig.returnType = some .int) (hts : ∀ w ∈ wo_X11_wipe, w.before args s = true) (hown : s.vm.findClass RX11 = some m.cls) (hlocks : meth.locks = false) (hl : lv_has ls 2 [(0, .ref (a 0))]) (hK : va_K D vwCl (xTys k) s) (hP : va_P D vwCl (wM k a mSizes mSigns mOdds mPat mTyped mText mAt mFault mTests mTN mTS mTV mTB mRead mUns mUM mBA mBH mThere mTypes mHeld mItems mMoved mFind) s.heap) {A : Nat → Prop} (hD : va_D A (wM k a mSizes mSigns mOdds mPat mTyped mText mAt mFault mTests mTN mTS mTV mTB mRead mUns mUM mBA mBH mThere mTypes mHeld mItems mMoved mFind)) (hA : ∀ q : Nat, s.heap.size ≤ q → A q) {o : Int32 × (Int32) × (Int32)} (h : f_X11_wipe mTyped mRead = some o) : gQi p l e wo_X11_wipe 0 s m args below meth c D k A o.1 (wM k a mSizes mSigns mOdds mPat o.2.1 mText mAt mFault mTests mTN mTS mTV mTB o.2.2 mUns mUM mBA mBH mThere mTypes mHeld mItems mMoved mFind) s.heap [] (F0 m 0 ls []) := by
  have hi11 := (fun w h => List.mem_cons_of_mem _ (inlX11 w h) : ∀ w ∈ wsX110, w ∈ wo_X11_wipe)
  have kf100 := hts _ (List.mem_cons_of_mem _ wm_389)
  have kf103 := hts _ (List.mem_cons_of_mem _ wm_390)
  unfold f_X11_wipe at h
  have hS : va_S A s.heap s.heap [] := va_S.rf
  obtain ⟨H, hH⟩ : ∃ H : Heap, H = s.heap := ⟨_, rfl⟩
  obtain ⟨locs, hlc⟩ : ∃ locs : List Loc, locs = [] := ⟨_, rfl⟩
  have hS : va_S A s.heap H locs := by rw [hH, hlc]; exact va_S.rf
  have hP : va_P D vwCl (wM k a mSizes mSigns mOdds mPat mTyped mText mAt mFault mTests mTN mTS mTV mTB mRead mUns mUM mBA mBH mThere mTypes mHeld mItems mMoved mFind) H := by rw [hH]; exact hP
  suffices hGo : gQi p l e wo_X11_wipe 0 s m args below meth c D k A o.1 (wM k a mSizes mSigns mOdds mPat o.2.1 mText mAt mFault mTests mTN mTS mTV mTB o.2.2 mUns mUM mBA mBH mThere mTypes mHeld mItems mMoved mFind) H locs (F0 m 0 ls []) by rw [hH, hlc] at hGo; exact hGo
  refine lv_aload_n hx hb dX11_wipe_0 rfl (lv_at hl 0 rfl) ?_
  refine va_get (D := D) (ci := 6) (v := .int mTyped) (C := RX11) (T := TX11) (N := 24) hx hb hts hi11 hown hK hP (0) (rfl) rfl 4 (by decide) kf100 (fun _ h9 => h9) rfl dX11_wipe_1 ?_
  refine lv_istore_n (lv' := [(1, .int mTyped), (0, .ref (a 0))]) hx hb dX11_wipe_4 rfl hl (by decide) rfl (fun ls hl => ?_)
  refine lv_aload_n hx hb dX11_wipe_5 rfl (lv_at hl 1 rfl) ?_
  refine lv_iconst (v := 0) hx hb dX11_wipe_6 (by decide) ?_
  refine va_put (D := D) (ci := 6) (v := .int 0) (ty := .int) (C := RX11) (T := TX11) (N := 24) hx hb hts hi11 tyX11 tyX11_ok nmX11 hown hK hP hD hS (0) (rfl) rfl 4 (by decide) kf100 (fun _ h9 => h9) rfl (tyX11_ok 4 (by decide)) rfl rfl (Nat.le_of_ble_eq_true rfl) dX11_wipe_7 (fun H locs hP hD hS => ?_)
  have hP : va_P D vwCl (wM k a mSizes mSigns mOdds mPat 0 mText mAt mFault mTests mTN mTS mTV mTB mRead mUns mUM mBA mBH mThere mTypes mHeld mItems mMoved mFind) H := hP
  have hD : va_D A (wM k a mSizes mSigns mOdds mPat 0 mText mAt mFault mTests mTN mTS mTV mTB mRead mUns mUM mBA mBH mThere mTypes mHeld mItems mMoved mFind) := hD
  refine lv_aload_n hx hb dX11_wipe_10 rfl (lv_at hl 1 rfl) ?_
  refine lv_iconst (v := 0) hx hb dX11_wipe_11 (by decide) ?_
  refine va_put (D := D) (ci := 6) (v := .int 0) (ty := .boolean) (C := RX11) (T := TX11) (N := 24) hx hb hts hi11 tyX11 tyX11_ok nmX11 hown hK hP hD hS (0) (rfl) rfl 13 (by decide) kf103 (fun _ h9 => h9) rfl (tyX11_ok 13 (by decide)) rfl rfl (Nat.le_of_ble_eq_true rfl) dX11_wipe_12 (fun H locs hP hD hS => ?_)
  have hP : va_P D vwCl (wM k a mSizes mSigns mOdds mPat 0 mText mAt mFault mTests mTN mTS mTV mTB 0 mUns mUM mBA mBH mThere mTypes mHeld mItems mMoved mFind) H := hP
  have hD : va_D A (wM k a mSizes mSigns mOdds mPat 0 mText mAt mFault mTests mTN mTS mTV mTB 0 mUns mUM mBA mBH mThere mTypes mHeld mItems mMoved mFind) := hD
  refine lv_iload_n hx hb dX11_wipe_15 rfl (lv_at hl 0 rfl) ?_
  have he := Option.some.inj h
  exact W.iret (v := mTyped) hx hb hr (fun t ht hW => ⟨⟨mTyped, wM k a mSizes mSigns mOdds mPat 0 mText mAt mFault mTests mTN mTS mTV mTB 0 mUns mUM mBA mBH mThere mTypes mHeld mItems mMoved mFind, rfl, ⟨(congrArg (fun z => z.1) he), (congrArg (fun z => wM k a mSizes mSigns mOdds mPat z.2.1 mText mAt mFault mTests mTN mTS mTV mTB z.2.2 mUns mUM mBA mBH mThere mTypes mHeld mItems mMoved mFind) he)⟩, by rw [ht]; exact hP, va_K.moved hW.alike hK, hD⟩, hS.F ht⟩) hS.2.2 dX11_wipe_16
set_option maxHeartbeats 4000000 in
set_option maxRecDepth 100000 in
theorem c_X11_wipe (l : Launch) (D : va_G) (k : Nat → ClassId) (a : Nat → Nat) (mSizes : Nat → Int32) (mSigns : Nat → Int32) (mOdds : Int32) (mPat : Int32) (mTyped : Int32) (mText : Nat → Int32) (mAt : Int32) (mFault : Int32) (mTests : Int32) (mTN : Nat → Int32) (mTS : Nat → Int32) (mTV : Nat → Int32) (mTB : Nat → Int32) (mRead : Int32) (mUns : Nat → Int32) (mUM : Int32) (mBA : Int32) (mBH : Int32) (mThere : Nat → Int32) (mTypes : Nat → Int32) (mHeld : Nat → Int32) (mItems : Nat → Int32) (mMoved : Nat → Int32) (mFind : Int32)  {o : Int32 × (Int32) × (Int32)} (h : f_X11_wipe mTyped mRead = some o) : mQi l yX11_wipe wo_X11_wipe 0 D k [.ref (a 0)] (wM k a mSizes mSigns mOdds mPat mTyped mText mAt mFault mTests mTN mTS mTV mTB mRead mUns mUM mBA mBH mThere mTypes mHeld mItems mMoved mFind) o.1 (wM k a mSizes mSigns mOdds mPat o.2.1 mText mAt mFault mTests mTN mTS mTV mTB o.2.2 mUns mUM mBA mBH mThere mTypes mHeld mItems mMoved mFind) := by
  intro sz
  refine Met.ofW (cc := cX11_wipe) (maxL := 2) (ret := some .int) (by decide) rfl ?_
  intro p e s m args below meth c s₁ B hml hv
  obtain ⟨rfl, hsz, hP, hK, hD0⟩ := hv
  subst hsz
  rw [lg_entry_eq]
  exact core_X11_wipe D k a mSizes mSigns mOdds mPat mTyped mText mAt mFault mTests mTN mTS mTV mTB mRead mUns mUM mBA mBH mThere mTypes mHeld mItems mMoved mFind  B.exec B.bytes hml B.returns (atoms_spec (ws := wo_X11_wipe) B.pre) (findClass_of_methodNamed B.named) B.notSynchronized (lv_entry [.ref (a 0)] (n := 2) (Nat.le_of_ble_eq_true rfl)) hK hP hD0.self (fun q h => Or.inr h) h
theorem qd_X11_wipe : yX11_wipe.cls = RX11 ∧ yX11_wipe.cls ≠ "java/lang/invoke/MethodHandle" ∧ yX11_wipe.cls ≠ "java/lang/invoke/VarHandle" ∧ (parseMethodDescriptor yX11_wipe.desc).map (fun d => d.parameters.length) = some 0 := by decide +kernel
abbrev wo_X11_byteNow : List Cond := .code yX11_byteNow cX11_byteNow 1 (some .int) :: wsL_law
set_option maxHeartbeats 4000000 in
set_option maxRecDepth 100000 in
theorem core_X11_byteNow (D : va_G) (k : Nat → ClassId) (a : Nat → Nat) (mSizes : Nat → Int32) (mSigns : Nat → Int32) (mOdds : Int32) (mPat : Int32) (mTyped : Int32) (mText : Nat → Int32) (mAt : Int32) (mFault : Int32) (mTests : Int32) (mTN : Nat → Int32) (mTS : Nat → Int32) (mTV : Nat → Int32) (mTB : Nat → Int32) (mRead : Int32) (mUns : Nat → Int32) (mUM : Int32) (mBA : Int32) (mBH : Int32) (mThere : Nat → Int32) (mTypes : Nat → Int32) (mHeld : Nat → Int32) (mItems : Nat → Int32) (mMoved : Nat → Int32) (mFind : Int32)  {p : Program} {l : Launch} {e : Env} {s : State} {m : MethodId} {args : Array Value} {below : List Frame} {meth : Method} {c : Code} {ls : Array Slot} (hx : p.tables.exec = Jvm.exec) (hb : c.code = cX11_byteNow) (hml : c.maxLocals = 1) (hr : meth.sig.returnType = some .int) (hts : ∀ w ∈ wo_X11_byteNow, w.before args s = true) (hown : s.vm.findClass RX11 = some m.cls) (hlocks : meth.locks = false) (hl : lv_has ls 1 [(0, .ref (a 0))]) (hK : va_K D vwCl (xTys k) s) (hP : va_P D vwCl (wM k a mSizes mSigns mOdds mPat mTyped mText mAt mFault mTests mTN mTS mTV mTB mRead mUns mUM mBA mBH mThere mTypes mHeld mItems mMoved mFind) s.heap) {o : Int32} (h : f_X11_byteNow mTyped mText mAt = some o) : gRi p l e wo_X11_byteNow 0 s m args below meth c o (F0 m 0 ls []) := by
  have hi11 := (fun w h => List.mem_cons_of_mem _ (inlX11 w h) : ∀ w ∈ wsX110, w ∈ wo_X11_byteNow)
  have kf107 := hts _ (List.mem_cons_of_mem _ wm_420)
  have kf100 := hts _ (List.mem_cons_of_mem _ wm_389)
  have kf23 := hts _ (List.mem_cons_of_mem _ wm_76)
  unfold f_X11_byteNow at h
  refine lv_aload_n hx hb dX11_byteNow_0 rfl (lv_at hl 0 rfl) ?_
  refine va_get (D := D) (ci := 6) (v := .int mAt) (C := RX11) (T := TX11) (N := 24) hx hb hts hi11 hown hK hP (0) (rfl) rfl 6 (by decide) kf107 (fun _ h9 => h9) rfl dX11_byteNow_1 ?_
  refine lv_aload_n hx hb dX11_byteNow_4 rfl (lv_at hl 0 rfl) ?_
  refine va_get (D := D) (ci := 6) (v := .int mTyped) (C := RX11) (T := TX11) (N := 24) hx hb hts hi11 hown hK hP (0) (rfl) rfl 4 (by decide) kf100 (fun _ h9 => h9) rfl dX11_byteNow_5 ?_
  refine lv_icmp_ge (tgt := 23) hx hb dX11_byteNow_8 (by decide) (fun c1 => ?_) (fun c1 => ?_)
  · replace h := (if_pos c1).symm.trans h
    refine lv_iconst (v := (-1)) hx hb dX11_byteNow_23 (by decide) ?_
    exact W.iret (v := (-1)) hx hb hr (fun t ht hW => ⟨_, rfl, Option.some.inj h, ht⟩) (fun q hq => by cases hq) dX11_byteNow_24
  · replace h := (if_neg c1).symm.trans h
    refine lv_aload_n hx hb dX11_byteNow_11 rfl (lv_at hl 0 rfl) ?_
    refine va_get (D := D) (ci := 6) (v := .ref (a 3)) (C := RX11) (T := TX11) (N := 24) hx hb hts hi11 hown hK hP (0) (rfl) rfl 5 (by decide) kf23 (fun _ h9 => h9) rfl dX11_byteNow_12 ?_
    refine lv_aload_n hx hb dX11_byteNow_15 rfl (lv_at hl 0 rfl) ?_
    refine va_get (D := D) (ci := 6) (v := .int mAt) (C := RX11) (T := TX11) (N := 24) hx hb hts hi11 hown hK hP (0) (rfl) rfl 6 (by decide) kf107 (fun _ h9 => h9) rfl dX11_byteNow_16 ?_
    obtain ⟨g2, h⟩ := gIn_some h
    refine va_iald hx hb hK hP (3) 0 (rfl) rfl g2 dX11_byteNow_19 ?_
    refine lv_goto (tgt := 24) hx hb dX11_byteNow_20 (by decide) ?_
    exact W.iret (v := (mText mAt.toNatClampNeg)) hx hb hr (fun t ht hW => ⟨_, rfl, Option.some.inj h, ht⟩) (fun q hq => by cases hq) dX11_byteNow_24
set_option maxHeartbeats 4000000 in
set_option maxRecDepth 100000 in
theorem c_X11_byteNow (l : Launch) (D : va_G) (k : Nat → ClassId) (a : Nat → Nat) (mSizes : Nat → Int32) (mSigns : Nat → Int32) (mOdds : Int32) (mPat : Int32) (mTyped : Int32) (mText : Nat → Int32) (mAt : Int32) (mFault : Int32) (mTests : Int32) (mTN : Nat → Int32) (mTS : Nat → Int32) (mTV : Nat → Int32) (mTB : Nat → Int32) (mRead : Int32) (mUns : Nat → Int32) (mUM : Int32) (mBA : Int32) (mBH : Int32) (mThere : Nat → Int32) (mTypes : Nat → Int32) (mHeld : Nat → Int32) (mItems : Nat → Int32) (mMoved : Nat → Int32) (mFind : Int32)  {o : Int32} (h : f_X11_byteNow mTyped mText mAt = some o) : mRi l yX11_byteNow wo_X11_byteNow 0 D k [.ref (a 0)] (wM k a mSizes mSigns mOdds mPat mTyped mText mAt mFault mTests mTN mTS mTV mTB mRead mUns mUM mBA mBH mThere mTypes mHeld mItems mMoved mFind) o := by
  refine Met.ofW (cc := cX11_byteNow) (maxL := 1) (ret := some .int) (by decide) rfl ?_
  intro p e s m args below meth c s₁ B hml hv
  obtain ⟨rfl, hP, hK⟩ := hv
  rw [lg_entry_eq]
  exact core_X11_byteNow D k a mSizes mSigns mOdds mPat mTyped mText mAt mFault mTests mTN mTS mTV mTB mRead mUns mUM mBA mBH mThere mTypes mHeld mItems mMoved mFind  B.exec B.bytes hml B.returns (atoms_spec (ws := wo_X11_byteNow) B.pre) (findClass_of_methodNamed B.named) B.notSynchronized (lv_entry [.ref (a 0)] (n := 1) (Nat.le_of_ble_eq_true rfl)) hK hP h
theorem qd_X11_byteNow : yX11_byteNow.cls = RX11 ∧ yX11_byteNow.cls ≠ "java/lang/invoke/MethodHandle" ∧ yX11_byteNow.cls ≠ "java/lang/invoke/VarHandle" ∧ (parseMethodDescriptor yX11_byteNow.desc).map (fun d => d.parameters.length) = some 0 := by decide +kernel
