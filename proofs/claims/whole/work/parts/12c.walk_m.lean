abbrev wo_X11_numberBy : List Cond := .code yX11_numberBy cX11_numberBy 1 (some .int) :: wsL_law
set_option maxHeartbeats 4000000 in
set_option maxRecDepth 100000 in
theorem core_X11_numberBy (x0 : Int32) {p : Program} {l : Launch} {e : Env} {s : State} {m : MethodId} {args : Array Value} {below : List Frame} {meth : Method} {c : Code} {ls : Array Slot} (hx : p.tables.exec = Jvm.exec) (hb : c.code = cX11_numberBy) (hml : c.maxLocals = 1) (hr : meth.sig.returnType = some .int) (hts : ∀ w ∈ wo_X11_numberBy, w.before args s = true) (hown : s.vm.findClass RX11 = some m.cls) (hlocks : meth.locks = false) (hl : lv_has ls 1 [(0, .int x0)]) {o : Int32} (h : f_X11_numberBy x0 = some o) : gRi p l e wo_X11_numberBy 0 s m args below meth c o (F0 m 0 ls []) := by
  unfold f_X11_numberBy at h
  refine lv_iload_n hx hb dX11_numberBy_0 rfl (lv_at hl 0 rfl) ?_
  refine lv_bipush (v := 111) hx hb dX11_numberBy_1 (by decide) ?_
  refine lv_icmp_ne (tgt := 10) hx hb dX11_numberBy_3 (by decide) (fun c1 => ?_) (fun c1 => ?_)
  · replace h := (if_neg c1).symm.trans h
    refine lv_iload_n hx hb dX11_numberBy_10 rfl (lv_at hl 0 rfl) ?_
    refine lv_bipush (v := 114) hx hb dX11_numberBy_11 (by decide) ?_
    refine lv_icmp_ne (tgt := 20) hx hb dX11_numberBy_13 (by decide) (fun c2 => ?_) (fun c2 => ?_)
    · replace h := (if_neg c2).symm.trans h
      refine lv_iload_n hx hb dX11_numberBy_20 rfl (lv_at hl 0 rfl) ?_
      refine lv_bipush (v := 108) hx hb dX11_numberBy_21 (by decide) ?_
      refine lv_icmp_ne (tgt := 30) hx hb dX11_numberBy_23 (by decide) (fun c3 => ?_) (fun c3 => ?_)
      · replace h := (if_neg c3).symm.trans h
        refine lv_iload_n hx hb dX11_numberBy_30 rfl (lv_at hl 0 rfl) ?_
        refine lv_bipush (v := 104) hx hb dX11_numberBy_31 (by decide) ?_
        refine lv_icmp_ne (tgt := 40) hx hb dX11_numberBy_33 (by decide) (fun c4 => ?_) (fun c4 => ?_)
        · replace h := (if_neg c4).symm.trans h
          refine lv_iload_n hx hb dX11_numberBy_40 rfl (lv_at hl 0 rfl) ?_
          refine lv_bipush (v := 98) hx hb dX11_numberBy_41 (by decide) ?_
          refine lv_icmp_ne (tgt := 50) hx hb dX11_numberBy_43 (by decide) (fun c5 => ?_) (fun c5 => ?_)
          · replace h := (if_neg c5).symm.trans h
            refine lv_iload_n hx hb dX11_numberBy_50 rfl (lv_at hl 0 rfl) ?_
            refine lv_bipush (v := 102) hx hb dX11_numberBy_51 (by decide) ?_
            refine lv_icmp_ne (tgt := 60) hx hb dX11_numberBy_53 (by decide) (fun c6 => ?_) (fun c6 => ?_)
            · replace h := (if_neg c6).symm.trans h
              refine lv_iload_n hx hb dX11_numberBy_60 rfl (lv_at hl 0 rfl) ?_
              refine lv_bipush (v := 112) hx hb dX11_numberBy_61 (by decide) ?_
              refine lv_icmp_ne (tgt := 71) hx hb dX11_numberBy_63 (by decide) (fun c7 => ?_) (fun c7 => ?_)
              · replace h := (if_neg c7).symm.trans h
                refine lv_iconst (v := (-1)) hx hb dX11_numberBy_71 (by decide) ?_
                exact W.iret (v := (-1)) hx hb hr (fun t ht hW => ⟨_, rfl, Option.some.inj h, ht⟩) (fun q hq => by cases hq) dX11_numberBy_72
              · replace h := (if_pos c7).symm.trans h
                refine lv_bipush (v := 6) hx hb dX11_numberBy_66 (by decide) ?_
                refine lv_goto (tgt := 72) hx hb dX11_numberBy_68 (by decide) ?_
                exact W.iret (v := 6) hx hb hr (fun t ht hW => ⟨_, rfl, Option.some.inj h, ht⟩) (fun q hq => by cases hq) dX11_numberBy_72
            · replace h := (if_pos c6).symm.trans h
              refine lv_iconst (v := 5) hx hb dX11_numberBy_56 (by decide) ?_
              refine lv_goto (tgt := 72) hx hb dX11_numberBy_57 (by decide) ?_
              exact W.iret (v := 5) hx hb hr (fun t ht hW => ⟨_, rfl, Option.some.inj h, ht⟩) (fun q hq => by cases hq) dX11_numberBy_72
          · replace h := (if_pos c5).symm.trans h
            refine lv_iconst (v := 4) hx hb dX11_numberBy_46 (by decide) ?_
            refine lv_goto (tgt := 72) hx hb dX11_numberBy_47 (by decide) ?_
            exact W.iret (v := 4) hx hb hr (fun t ht hW => ⟨_, rfl, Option.some.inj h, ht⟩) (fun q hq => by cases hq) dX11_numberBy_72
        · replace h := (if_pos c4).symm.trans h
          refine lv_iconst (v := 3) hx hb dX11_numberBy_36 (by decide) ?_
          refine lv_goto (tgt := 72) hx hb dX11_numberBy_37 (by decide) ?_
          exact W.iret (v := 3) hx hb hr (fun t ht hW => ⟨_, rfl, Option.some.inj h, ht⟩) (fun q hq => by cases hq) dX11_numberBy_72
      · replace h := (if_pos c3).symm.trans h
        refine lv_iconst (v := 2) hx hb dX11_numberBy_26 (by decide) ?_
        refine lv_goto (tgt := 72) hx hb dX11_numberBy_27 (by decide) ?_
        exact W.iret (v := 2) hx hb hr (fun t ht hW => ⟨_, rfl, Option.some.inj h, ht⟩) (fun q hq => by cases hq) dX11_numberBy_72
    · replace h := (if_pos c2).symm.trans h
      refine lv_iconst (v := 1) hx hb dX11_numberBy_16 (by decide) ?_
      refine lv_goto (tgt := 72) hx hb dX11_numberBy_17 (by decide) ?_
      exact W.iret (v := 1) hx hb hr (fun t ht hW => ⟨_, rfl, Option.some.inj h, ht⟩) (fun q hq => by cases hq) dX11_numberBy_72
  · replace h := (if_pos c1).symm.trans h
    refine lv_iconst (v := 0) hx hb dX11_numberBy_6 (by decide) ?_
    refine lv_goto (tgt := 72) hx hb dX11_numberBy_7 (by decide) ?_
    exact W.iret (v := 0) hx hb hr (fun t ht hW => ⟨_, rfl, Option.some.inj h, ht⟩) (fun q hq => by cases hq) dX11_numberBy_72
set_option maxHeartbeats 4000000 in
set_option maxRecDepth 100000 in
theorem c_X11_numberBy (l : Launch) (x0 : Int32) {o : Int32} (h : f_X11_numberBy x0 = some o) : mPi l yX11_numberBy wo_X11_numberBy 0 [.int x0] o := by
  refine Met.ofW (cc := cX11_numberBy) (maxL := 1) (ret := some .int) (by decide) rfl ?_
  intro p e s m args below meth c s₁ B hml hv
  obtain ⟨rfl, -⟩ := hv
  rw [lg_entry_eq]
  exact core_X11_numberBy x0 B.exec B.bytes hml B.returns (atoms_spec (ws := wo_X11_numberBy) B.pre) (findClass_of_methodNamed B.named) B.notSynchronized (lv_entry [.int x0] (n := 1) (Nat.le_of_ble_eq_true rfl)) h
theorem qd_X11_numberBy : yX11_numberBy.cls ≠ "java/lang/invoke/MethodHandle" ∧ yX11_numberBy.cls ≠ "java/lang/invoke/VarHandle" ∧ (parseMethodDescriptor yX11_numberBy.desc).map (fun d => d.parameters.length) = some 1 := by decide +kernel
abbrev wo_X11_test : List Cond := .code yX11_test cX11_test 6 none :: wsL_law
set_option maxHeartbeats 4000000 in
set_option maxRecDepth 100000 in
theorem core_X11_test {N : Nat} (D : va_G) (k : Nat → ClassId) (a : Nat → Nat) (mSizes : Nat → Int32) (mSigns : Nat → Int32) (mOdds : Int32) (mPat : Int32) (mTyped : Int32) (mText : Nat → Int32) (mAt : Int32) (mFault : Int32) (mTests : Int32) (mTN : Nat → Int32) (mTS : Nat → Int32) (mTV : Nat → Int32) (mTB : Nat → Int32) (mRead : Int32) (mUns : Nat → Int32) (mUM : Int32) (mBA : Int32) (mBH : Int32) (mThere : Nat → Int32) (mTypes : Nat → Int32) (mHeld : Nat → Int32) (mItems : Nat → Int32) (mMoved : Nat → Int32) (mFind : Int32) (x1 : Int32) {p : Program} {l : Launch} {e : Env} {s : State} {m : MethodId} {args : Array Value} {below : List Frame} {meth : Method} {c : Code} {ls : Array Slot} (hx : p.tables.exec = Jvm.exec) (hb : c.code = cX11_test) (hml : c.maxLocals = 6) (hr : meth.sig.returnType = none) (hts : ∀ w ∈ wo_X11_test, w.before args s = true) (hown : s.vm.findClass RX11 = some m.cls) (hlocks : meth.locks = false) (hl : lv_has ls 6 [(0, .ref (a 0)), (1, .int x1)]) (hK : va_K D vwCl (xTys k) s) (hP : va_P D vwCl (wM k a mSizes mSigns mOdds mPat mTyped mText mAt mFault mTests mTN mTS mTV mTB mRead mUns mUM mBA mBH mThere mTypes mHeld mItems mMoved mFind) s.heap) {A : Nat → Prop} (hD : va_D A (wM k a mSizes mSigns mOdds mPat mTyped mText mAt mFault mTests mTN mTS mTV mTB mRead mUns mUM mBA mBH mThere mTypes mHeld mItems mMoved mFind)) (hA : ∀ q : Nat, s.heap.size ≤ q → A q) {o : (Int32) × (Int32) × (Int32) × (Nat → Int32) × (Nat → Int32) × (Nat → Int32) × (Nat → Int32)} (h : f_X11_test N x1 mTyped mText mAt mFault mTests mTN mTS mTV mTB = some o) : gQv p l e wo_X11_test 1 s m args below meth c D k A  (wM k a mSizes mSigns mOdds mPat mTyped mText o.1 o.2.1 o.2.2.1 o.2.2.2.1 o.2.2.2.2.1 o.2.2.2.2.2.1 o.2.2.2.2.2.2 mRead mUns mUM mBA mBH mThere mTypes mHeld mItems mMoved mFind) s.heap [] (F0 m 0 ls []) := by
  have hi11 := (fun w h => List.mem_cons_of_mem _ (inlX11 w h) : ∀ w ∈ wsX110, w ∈ wo_X11_test)
  have kf107 := hts _ (List.mem_cons_of_mem _ wm_420)
  have kf26 := hts _ (List.mem_cons_of_mem _ wm_77)
  have kf120 := hts _ (List.mem_cons_of_mem _ wm_421)
  have kf29 := hts _ (List.mem_cons_of_mem _ wm_78)
  have kf32 := hts _ (List.mem_cons_of_mem _ wm_79)
  have kf35 := hts _ (List.mem_cons_of_mem _ wm_80)
  have kf117 := hts _ (List.mem_cons_of_mem _ wm_419)
  unfold f_X11_test at h
  have hS : va_S A s.heap s.heap [] := va_S.rf
  have J133 : ∀ (x1 : Int32) (x2 : Int32) (x3 : Int32) (x4 : Int32) (x5 : Int32) (mAt : Int32) (mFault : Int32) (mTests : Int32) (mTN : Nat → Int32) (mTS : Nat → Int32) (mTV : Nat → Int32) (mTB : Nat → Int32) (ls : Array Slot) (H : Heap) (locs : List Loc) (hl : lv_has ls 6 [(0, .ref (a 0)), (1, .int x1), (2, .int x2), (3, .int x3), (4, .int x4), (5, .int x5)]) (hP : va_P D vwCl (wM k a mSizes mSigns mOdds mPat mTyped mText mAt mFault mTests mTN mTS mTV mTB mRead mUns mUM mBA mBH mThere mTypes mHeld mItems mMoved mFind) H) (hD : va_D A (wM k a mSizes mSigns mOdds mPat mTyped mText mAt mFault mTests mTN mTS mTV mTB mRead mUns mUM mBA mBH mThere mTypes mHeld mItems mMoved mFind)) (hS : va_S A s.heap H locs) (h : f_X11_test_133 N x1 x2 x3 x4 x5 mTyped mText mAt mFault mTests mTN mTS mTV mTB = some o), gQv p l e wo_X11_test 1 s m args below meth c D k A  (wM k a mSizes mSigns mOdds mPat mTyped mText o.1 o.2.1 o.2.2.1 o.2.2.2.1 o.2.2.2.2.1 o.2.2.2.2.2.1 o.2.2.2.2.2.2 mRead mUns mUM mBA mBH mThere mTypes mHeld mItems mMoved mFind) H locs (F0 m 133 ls []) := by
    intro x1 x2 x3 x4 x5 mAt mFault mTests mTN mTS mTV mTB ls H locs hl hP hD hS h
    unfold f_X11_test_133 at h
    refine lv_aload_n hx hb dX11_test_133 rfl (lv_at hl 0 rfl) ?_
    refine va_get (D := D) (ci := 6) (v := .int mAt) (C := RX11) (T := TX11) (N := 24) hx hb hts hi11 hown hK hP (0) (rfl) rfl 6 (by decide) kf107 (fun _ h9 => h9) rfl dX11_test_134 ?_
    refine lv_iload hx hb dX11_test_137 (lv_at hl 4 rfl) ?_
    refine lv_icmp_ne (tgt := 151) hx hb dX11_test_139 (by decide) (fun c1 => ?_) (fun c1 => ?_)
    · replace h := (if_neg c1).symm.trans h
      refine lv_aload_n hx hb dX11_test_151 rfl (lv_at hl 0 rfl) ?_
      refine va_get (D := D) (ci := 6) (v := .ref (a 4)) (C := RX11) (T := TX11) (N := 24) hx hb hts hi11 hown hK hP (0) (rfl) rfl 9 (by decide) kf26 (fun _ h9 => h9) rfl dX11_test_152 ?_
      refine lv_aload_n hx hb dX11_test_155 rfl (lv_at hl 0 rfl) ?_
      refine va_get (D := D) (ci := 6) (v := .int mTests) (C := RX11) (T := TX11) (N := 24) hx hb hts hi11 hown hK hP (0) (rfl) rfl 8 (by decide) kf120 (fun _ h9 => h9) rfl dX11_test_156 ?_
      refine lv_iload_n hx hb dX11_test_159 rfl (lv_at hl 2 rfl) ?_
      obtain ⟨g2, h⟩ := gIn_some h
      refine va_iast hx hb hK hP hD hS (4) 0 (rfl) rfl g2 dX11_test_160 (fun H locs hP hD hS => ?_)
      have hP : va_P D vwCl (wM k a mSizes mSigns mOdds mPat mTyped mText mAt mFault mTests (upd mTN mTests.toNatClampNeg x2) mTS mTV mTB mRead mUns mUM mBA mBH mThere mTypes mHeld mItems mMoved mFind) H := hP
      have hD : va_D A (wM k a mSizes mSigns mOdds mPat mTyped mText mAt mFault mTests (upd mTN mTests.toNatClampNeg x2) mTS mTV mTB mRead mUns mUM mBA mBH mThere mTypes mHeld mItems mMoved mFind) := hD
      refine lv_aload_n hx hb dX11_test_161 rfl (lv_at hl 0 rfl) ?_
      refine va_get (D := D) (ci := 6) (v := .ref (a 5)) (C := RX11) (T := TX11) (N := 24) hx hb hts hi11 hown hK hP (0) (rfl) rfl 10 (by decide) kf29 (fun _ h9 => h9) rfl dX11_test_162 ?_
      refine lv_aload_n hx hb dX11_test_165 rfl (lv_at hl 0 rfl) ?_
      refine va_get (D := D) (ci := 6) (v := .int mTests) (C := RX11) (T := TX11) (N := 24) hx hb hts hi11 hown hK hP (0) (rfl) rfl 8 (by decide) kf120 (fun _ h9 => h9) rfl dX11_test_166 ?_
      refine lv_iload_n hx hb dX11_test_169 rfl (lv_at hl 3 rfl) ?_
      refine va_iast hx hb hK hP hD hS (5) 0 (rfl) rfl g2 dX11_test_170 (fun H locs hP hD hS => ?_)
      have hP : va_P D vwCl (wM k a mSizes mSigns mOdds mPat mTyped mText mAt mFault mTests (upd mTN mTests.toNatClampNeg x2) (upd mTS mTests.toNatClampNeg x3) mTV mTB mRead mUns mUM mBA mBH mThere mTypes mHeld mItems mMoved mFind) H := hP
      have hD : va_D A (wM k a mSizes mSigns mOdds mPat mTyped mText mAt mFault mTests (upd mTN mTests.toNatClampNeg x2) (upd mTS mTests.toNatClampNeg x3) mTV mTB mRead mUns mUM mBA mBH mThere mTypes mHeld mItems mMoved mFind) := hD
      refine lv_aload_n hx hb dX11_test_171 rfl (lv_at hl 0 rfl) ?_
      refine va_get (D := D) (ci := 6) (v := .ref (a 6)) (C := RX11) (T := TX11) (N := 24) hx hb hts hi11 hown hK hP (0) (rfl) rfl 11 (by decide) kf32 (fun _ h9 => h9) rfl dX11_test_172 ?_
      refine lv_aload_n hx hb dX11_test_175 rfl (lv_at hl 0 rfl) ?_
      refine va_get (D := D) (ci := 6) (v := .int mTests) (C := RX11) (T := TX11) (N := 24) hx hb hts hi11 hown hK hP (0) (rfl) rfl 8 (by decide) kf120 (fun _ h9 => h9) rfl dX11_test_176 ?_
      refine lv_iload hx hb dX11_test_179 (lv_at hl 5 rfl) ?_
      refine va_iast hx hb hK hP hD hS (6) 0 (rfl) rfl g2 dX11_test_181 (fun H locs hP hD hS => ?_)
      have hP : va_P D vwCl (wM k a mSizes mSigns mOdds mPat mTyped mText mAt mFault mTests (upd mTN mTests.toNatClampNeg x2) (upd mTS mTests.toNatClampNeg x3) (upd mTV mTests.toNatClampNeg x5) mTB mRead mUns mUM mBA mBH mThere mTypes mHeld mItems mMoved mFind) H := hP
      have hD : va_D A (wM k a mSizes mSigns mOdds mPat mTyped mText mAt mFault mTests (upd mTN mTests.toNatClampNeg x2) (upd mTS mTests.toNatClampNeg x3) (upd mTV mTests.toNatClampNeg x5) mTB mRead mUns mUM mBA mBH mThere mTypes mHeld mItems mMoved mFind) := hD
      refine lv_aload_n hx hb dX11_test_182 rfl (lv_at hl 0 rfl) ?_
      refine va_get (D := D) (ci := 6) (v := .ref (a 7)) (C := RX11) (T := TX11) (N := 24) hx hb hts hi11 hown hK hP (0) (rfl) rfl 12 (by decide) kf35 (fun _ h9 => h9) rfl dX11_test_183 ?_
      refine lv_aload_n hx hb dX11_test_186 rfl (lv_at hl 0 rfl) ?_
      refine va_get (D := D) (ci := 6) (v := .int mTests) (C := RX11) (T := TX11) (N := 24) hx hb hts hi11 hown hK hP (0) (rfl) rfl 8 (by decide) kf120 (fun _ h9 => h9) rfl dX11_test_187 ?_
      refine lv_iload_n hx hb dX11_test_190 rfl (lv_at hl 1 rfl) ?_
      refine va_zast hx hb hK hP hD hS (7) 1 (rfl) rfl g2 dX11_test_191 (fun H locs hP hD hS => ?_)
      have hP : va_P D vwCl (wM k a mSizes mSigns mOdds mPat mTyped mText mAt mFault mTests (upd mTN mTests.toNatClampNeg x2) (upd mTS mTests.toNatClampNeg x3) (upd mTV mTests.toNatClampNeg x5) (upd mTB mTests.toNatClampNeg (vp_nar .boolean x1)) mRead mUns mUM mBA mBH mThere mTypes mHeld mItems mMoved mFind) H := hP
      have hD : va_D A (wM k a mSizes mSigns mOdds mPat mTyped mText mAt mFault mTests (upd mTN mTests.toNatClampNeg x2) (upd mTS mTests.toNatClampNeg x3) (upd mTV mTests.toNatClampNeg x5) (upd mTB mTests.toNatClampNeg (vp_nar .boolean x1)) mRead mUns mUM mBA mBH mThere mTypes mHeld mItems mMoved mFind) := hD
      refine lv_aload_n hx hb dX11_test_192 rfl (lv_at hl 0 rfl) ?_
      refine lv_dup hx hb dX11_test_193 rfl ?_
      refine va_get (D := D) (ci := 6) (v := .int mTests) (C := RX11) (T := TX11) (N := 24) hx hb hts hi11 hown hK hP (0) (rfl) rfl 8 (by decide) kf120 (fun _ h9 => h9) rfl dX11_test_194 ?_
      refine lv_iconst (v := 1) hx hb dX11_test_197 (by decide) ?_
      refine lv_iadd hx hb dX11_test_198 ?_
      refine va_put (D := D) (ci := 6) (v := .int (mTests + 1)) (ty := .int) (C := RX11) (T := TX11) (N := 24) hx hb hts hi11 tyX11 tyX11_ok nmX11 hown hK hP hD hS (0) (rfl) rfl 8 (by decide) kf120 (fun _ h9 => h9) rfl (tyX11_ok 8 (by decide)) rfl rfl (Nat.le_of_ble_eq_true rfl) dX11_test_199 (fun H locs hP hD hS => ?_)
      have hP : va_P D vwCl (wM k a mSizes mSigns mOdds mPat mTyped mText mAt mFault (mTests + 1) (upd mTN mTests.toNatClampNeg x2) (upd mTS mTests.toNatClampNeg x3) (upd mTV mTests.toNatClampNeg x5) (upd mTB mTests.toNatClampNeg (vp_nar .boolean x1)) mRead mUns mUM mBA mBH mThere mTypes mHeld mItems mMoved mFind) H := hP
      have hD : va_D A (wM k a mSizes mSigns mOdds mPat mTyped mText mAt mFault (mTests + 1) (upd mTN mTests.toNatClampNeg x2) (upd mTS mTests.toNatClampNeg x3) (upd mTV mTests.toNatClampNeg x5) (upd mTB mTests.toNatClampNeg (vp_nar .boolean x1)) mRead mUns mUM mBA mBH mThere mTypes mHeld mItems mMoved mFind) := hD
      have he := Option.some.inj h
      exact W.vret hx hb hr (fun t ht hW => ⟨⟨wM k a mSizes mSigns mOdds mPat mTyped mText mAt mFault (mTests + 1) (upd mTN mTests.toNatClampNeg x2) (upd mTS mTests.toNatClampNeg x3) (upd mTV mTests.toNatClampNeg x5) (upd mTB mTests.toNatClampNeg (vp_nar .boolean x1)) mRead mUns mUM mBA mBH mThere mTypes mHeld mItems mMoved mFind, rfl, (congrArg (fun z => wM k a mSizes mSigns mOdds mPat mTyped mText z.1 z.2.1 z.2.2.1 z.2.2.2.1 z.2.2.2.2.1 z.2.2.2.2.2.1 z.2.2.2.2.2.2 mRead mUns mUM mBA mBH mThere mTypes mHeld mItems mMoved mFind) he), by rw [ht]; exact hP, va_K.moved hW.alike hK, hD⟩, hS.F ht⟩) hS.2.2 dX11_test_202
    · replace h := (if_pos c1).symm.trans h
      refine lv_aload_n hx hb dX11_test_142 rfl (lv_at hl 0 rfl) ?_
      refine lv_aload_n hx hb dX11_test_143 rfl (lv_at hl 0 rfl) ?_
      refine va_get (D := D) (ci := 6) (v := .int mAt) (C := RX11) (T := TX11) (N := 24) hx hb hts hi11 hown hK hP (0) (rfl) rfl 6 (by decide) kf107 (fun _ h9 => h9) rfl dX11_test_144 ?_
      refine va_put (D := D) (ci := 6) (v := .int mAt) (ty := .int) (C := RX11) (T := TX11) (N := 24) hx hb hts hi11 tyX11 tyX11_ok nmX11 hown hK hP hD hS (0) (rfl) rfl 7 (by decide) kf117 (fun _ h9 => h9) rfl (tyX11_ok 7 (by decide)) rfl rfl (Nat.le_of_ble_eq_true rfl) dX11_test_147 (fun H locs hP hD hS => ?_)
      have hP : va_P D vwCl (wM k a mSizes mSigns mOdds mPat mTyped mText mAt mAt mTests mTN mTS mTV mTB mRead mUns mUM mBA mBH mThere mTypes mHeld mItems mMoved mFind) H := hP
      have hD : va_D A (wM k a mSizes mSigns mOdds mPat mTyped mText mAt mAt mTests mTN mTS mTV mTB mRead mUns mUM mBA mBH mThere mTypes mHeld mItems mMoved mFind) := hD
      have he := Option.some.inj h
      exact W.vret hx hb hr (fun t ht hW => ⟨⟨wM k a mSizes mSigns mOdds mPat mTyped mText mAt mAt mTests mTN mTS mTV mTB mRead mUns mUM mBA mBH mThere mTypes mHeld mItems mMoved mFind, rfl, (congrArg (fun z => wM k a mSizes mSigns mOdds mPat mTyped mText z.1 z.2.1 z.2.2.1 z.2.2.2.1 z.2.2.2.2.1 z.2.2.2.2.2.1 z.2.2.2.2.2.2 mRead mUns mUM mBA mBH mThere mTypes mHeld mItems mMoved mFind) he), by rw [ht]; exact hP, va_K.moved hW.alike hK, hD⟩, hS.F ht⟩) hS.2.2 dX11_test_150
  have L76 : ∀ (n76 : Nat) (x1 : Int32) (x2 : Int32) (x3 : Int32) (x4 : Int32) (x5 : Int32) (mAt : Int32) (mFault : Int32) (mTests : Int32) (mTN : Nat → Int32) (mTS : Nat → Int32) (mTV : Nat → Int32) (mTB : Nat → Int32) (ls : Array Slot) (H : Heap) (locs : List Loc) (hl : lv_has ls 6 [(0, .ref (a 0)), (1, .int x1), (2, .int x2), (3, .int x3), (4, .int x4), (5, .int x5)]) (hP : va_P D vwCl (wM k a mSizes mSigns mOdds mPat mTyped mText mAt mFault mTests mTN mTS mTV mTB mRead mUns mUM mBA mBH mThere mTypes mHeld mItems mMoved mFind) H) (hD : va_D A (wM k a mSizes mSigns mOdds mPat mTyped mText mAt mFault mTests mTN mTS mTV mTB mRead mUns mUM mBA mBH mThere mTypes mHeld mItems mMoved mFind)) (hS : va_S A s.heap H locs) (h : f_X11_test_76 N n76 x1 x2 x3 x4 x5 mTyped mText mAt mFault mTests mTN mTS mTV mTB = some o), gQv p l e wo_X11_test 1 s m args below meth c D k A  (wM k a mSizes mSigns mOdds mPat mTyped mText o.1 o.2.1 o.2.2.1 o.2.2.2.1 o.2.2.2.2.1 o.2.2.2.2.2.1 o.2.2.2.2.2.2 mRead mUns mUM mBA mBH mThere mTypes mHeld mItems mMoved mFind) H locs (F0 m 76 ls []) := by
    intro n76
    induction n76 with
    | zero => intro x1 x2 x3 x4 x5 mAt mFault mTests mTN mTS mTV mTB ls H locs hl hP hD hS h; cases (show (none : Option ((Int32) × (Int32) × (Int32) × (Nat → Int32) × (Nat → Int32) × (Nat → Int32) × (Nat → Int32))) = some o from h)
    | succ n76 ih76 =>
      intro x1 x2 x3 x4 x5 mAt mFault mTests mTN mTS mTV mTB ls H locs hl hP hD hS h
      rw [f_X11_test_76] at h
      refine lv_aload_n hx hb dX11_test_76 rfl (lv_at hl 0 rfl) ?_
      refine va_get (D := D) (ci := 6) (v := .int mAt) (C := RX11) (T := TX11) (N := 24) hx hb hts hi11 hown hK hP (0) (rfl) rfl 6 (by decide) kf107 (fun _ h9 => h9) rfl dX11_test_77 ?_
      refine lv_iload hx hb dX11_test_80 (lv_at hl 4 rfl) ?_
      refine lv_iconst (v := 2) hx hb dX11_test_82 (by decide) ?_
      refine lv_iadd hx hb dX11_test_83 ?_
      refine lv_icmp_ge (tgt := 133) hx hb dX11_test_84 (by decide) (fun c3 => ?_) (fun c3 => ?_)
      · replace h := (if_pos c3).symm.trans h
        exact J133 x1 x2 x3 x4 x5 mAt mFault mTests mTN mTS mTV mTB ls H locs (lv_sub hl [0, 1, 2, 3, 4, 5] rfl) hP hD hS h
      · replace h := (if_neg c3).symm.trans h
        refine lv_aload_n hx hb dX11_test_87 rfl (lv_at hl 0 rfl) ?_
        obtain ⟨o4, eq5, h⟩ := bnd_some h
        refine kRiV (rest := []) (q0 := 0) ⟨hx, hb, hml, hown, hts⟩ (c_X11_byteNow l D k a mSizes mSigns mOdds mPat mTyped mText mAt mFault mTests mTN mTS mTV mTB mRead mUns mUM mBA mBH mThere mTypes mHeld mItems mMoved mFind  eq5) (cwV 0 hts (gAV wm_426 wm_427 wm_428 wm_5 wm_429) rfl rfl rfl qd_X11_byteNow ⟨Nat.le_of_ble_eq_true rfl, Nat.le_of_ble_eq_true rfl⟩) hK hP (rfl) rfl rfl hl.1 rfl (Nat.le_of_ble_eq_true rfl) dX11_test_88 ⟨Nat.zero_le _, Nat.zero_le _⟩ ?_
        refine lv_bipush (v := 48) hx hb dX11_test_91 (by decide) ?_
        refine lv_icmp_lt (tgt := 133) hx hb dX11_test_93 (by decide) (fun c6 => ?_) (fun c6 => ?_)
        · replace h := (if_pos c6).symm.trans h
          exact J133 x1 x2 x3 x4 x5 mAt mFault mTests mTN mTS mTV mTB ls H locs (lv_sub hl [0, 1, 2, 3, 4, 5] rfl) hP hD hS h
        · replace h := (if_neg c6).symm.trans h
          refine lv_aload_n hx hb dX11_test_96 rfl (lv_at hl 0 rfl) ?_
          obtain ⟨o7, eq8, h⟩ := bnd_some h
          refine kRiV (rest := []) (q0 := 0) ⟨hx, hb, hml, hown, hts⟩ (c_X11_byteNow l D k a mSizes mSigns mOdds mPat mTyped mText mAt mFault mTests mTN mTS mTV mTB mRead mUns mUM mBA mBH mThere mTypes mHeld mItems mMoved mFind  eq8) (cwV 0 hts (gAV wm_426 wm_427 wm_428 wm_5 wm_429) rfl rfl rfl qd_X11_byteNow ⟨Nat.le_of_ble_eq_true rfl, Nat.le_of_ble_eq_true rfl⟩) hK hP (rfl) rfl rfl hl.1 rfl (Nat.le_of_ble_eq_true rfl) dX11_test_97 ⟨Nat.zero_le _, Nat.zero_le _⟩ ?_
          refine lv_bipush (v := 57) hx hb dX11_test_100 (by decide) ?_
          refine lv_icmp_gt (tgt := 133) hx hb dX11_test_102 (by decide) (fun c9 => ?_) (fun c9 => ?_)
          · replace h := (if_pos c9).symm.trans h
            exact J133 x1 x2 x3 x4 x5 mAt mFault mTests mTN mTS mTV mTB ls H locs (lv_sub hl [0, 1, 2, 3, 4, 5] rfl) hP hD hS h
          · replace h := (if_neg c9).symm.trans h
            refine lv_bipush (v := 10) hx hb dX11_test_105 (by decide) ?_
            refine lv_iload hx hb dX11_test_107 (lv_at hl 5 rfl) ?_
            refine lv_imul hx hb dX11_test_109 ?_
            refine lv_aload_n hx hb dX11_test_110 rfl (lv_at hl 0 rfl) ?_
            obtain ⟨o10, eq11, h⟩ := bnd_some h
            refine kRiV (rest := [.int ((10 : Int32) * x5)]) (q0 := 0) ⟨hx, hb, hml, hown, hts⟩ (c_X11_byteNow l D k a mSizes mSigns mOdds mPat mTyped mText mAt mFault mTests mTN mTS mTV mTB mRead mUns mUM mBA mBH mThere mTypes mHeld mItems mMoved mFind  eq11) (cwV 0 hts (gAV wm_426 wm_427 wm_428 wm_5 wm_429) rfl rfl rfl qd_X11_byteNow ⟨Nat.le_of_ble_eq_true rfl, Nat.le_of_ble_eq_true rfl⟩) hK hP (rfl) rfl rfl hl.1 rfl (Nat.le_of_ble_eq_true rfl) dX11_test_111 ⟨Nat.zero_le _, Nat.zero_le _⟩ ?_
            refine lv_iadd hx hb dX11_test_114 ?_
            refine lv_bipush (v := 48) hx hb dX11_test_115 (by decide) ?_
            refine lv_isub hx hb dX11_test_117 ?_
            refine lv_istore (lv' := [(5, .int ((((10 : Int32) * x5) + o10) - 48)), (0, .ref (a 0)), (1, .int x1), (2, .int x2), (3, .int x3), (4, .int x4)]) hx hb dX11_test_118 hl (by decide) rfl (fun ls hl => ?_)
            refine lv_aload_n hx hb dX11_test_120 rfl (lv_at hl 1 rfl) ?_
            refine lv_dup hx hb dX11_test_121 rfl ?_
            refine va_get (D := D) (ci := 6) (v := .int mAt) (C := RX11) (T := TX11) (N := 24) hx hb hts hi11 hown hK hP (0) (rfl) rfl 6 (by decide) kf107 (fun _ h9 => h9) rfl dX11_test_122 ?_
            refine lv_iconst (v := 1) hx hb dX11_test_125 (by decide) ?_
            refine lv_iadd hx hb dX11_test_126 ?_
            refine va_put (D := D) (ci := 6) (v := .int (mAt + 1)) (ty := .int) (C := RX11) (T := TX11) (N := 24) hx hb hts hi11 tyX11 tyX11_ok nmX11 hown hK hP hD hS (0) (rfl) rfl 6 (by decide) kf107 (fun _ h9 => h9) rfl (tyX11_ok 6 (by decide)) rfl rfl (Nat.le_of_ble_eq_true rfl) dX11_test_127 (fun H locs hP hD hS => ?_)
            have hP : va_P D vwCl (wM k a mSizes mSigns mOdds mPat mTyped mText (mAt + 1) mFault mTests mTN mTS mTV mTB mRead mUns mUM mBA mBH mThere mTypes mHeld mItems mMoved mFind) H := hP
            have hD : va_D A (wM k a mSizes mSigns mOdds mPat mTyped mText (mAt + 1) mFault mTests mTN mTS mTV mTB mRead mUns mUM mBA mBH mThere mTypes mHeld mItems mMoved mFind) := hD
            refine lv_goto (tgt := 76) hx hb dX11_test_130 (by decide) ?_
            exact ih76 x1 x2 x3 x4 ((((10 : Int32) * x5) + o10) - 48) (mAt + 1) mFault mTests mTN mTS mTV mTB ls H locs (lv_sub hl [1, 2, 3, 4, 5, 0] rfl) hP hD hS h
  obtain ⟨H, hH⟩ : ∃ H : Heap, H = s.heap := ⟨_, rfl⟩
  obtain ⟨locs, hlc⟩ : ∃ locs : List Loc, locs = [] := ⟨_, rfl⟩
  have hS : va_S A s.heap H locs := by rw [hH, hlc]; exact va_S.rf
  have hP : va_P D vwCl (wM k a mSizes mSigns mOdds mPat mTyped mText mAt mFault mTests mTN mTS mTV mTB mRead mUns mUM mBA mBH mThere mTypes mHeld mItems mMoved mFind) H := by rw [hH]; exact hP
  suffices hGo : gQv p l e wo_X11_test 1 s m args below meth c D k A  (wM k a mSizes mSigns mOdds mPat mTyped mText o.1 o.2.1 o.2.2.1 o.2.2.2.1 o.2.2.2.2.1 o.2.2.2.2.2.1 o.2.2.2.2.2.2 mRead mUns mUM mBA mBH mThere mTypes mHeld mItems mMoved mFind) H locs (F0 m 0 ls []) by rw [hH, hlc] at hGo; exact hGo
  refine lv_aload_n hx hb dX11_test_0 rfl (lv_at hl 0 rfl) ?_
  obtain ⟨o12, eq13, h⟩ := bnd_some h
  refine kRiV (rest := []) (q0 := 0) ⟨hx, hb, hml, hown, hts⟩ (c_X11_byteNow l D k a mSizes mSigns mOdds mPat mTyped mText mAt mFault mTests mTN mTS mTV mTB mRead mUns mUM mBA mBH mThere mTypes mHeld mItems mMoved mFind  eq13) (cwV 0 hts (gAV wm_426 wm_427 wm_428 wm_5 wm_429) rfl rfl rfl qd_X11_byteNow ⟨Nat.le_of_ble_eq_true rfl, Nat.le_of_ble_eq_true rfl⟩) hK hP (rfl) rfl rfl hl.1 rfl (Nat.le_of_ble_eq_true rfl) dX11_test_1 ⟨Nat.zero_le _, Nat.zero_le _⟩ ?_
  obtain ⟨o14, eq15, h⟩ := bnd_some h
  refine kPi (rest := []) ⟨hx, hb, hml, hown, hts⟩ (c_X11_numberBy l o12 eq15) (va_cwS 1 hts (gAS wm_430 wm_431 wm_5 wm_432) rfl rfl rfl qd_X11_numberBy ⟨Nat.le_of_ble_eq_true rfl, Nat.le_of_ble_eq_true rfl⟩) rfl hl.1 rfl (Nat.le_of_ble_eq_true rfl) dX11_test_4 ⟨Nat.zero_le _, Nat.zero_le _⟩ ?_
  refine lv_istore_n (lv' := [(2, .int o14), (0, .ref (a 0)), (1, .int x1)]) hx hb dX11_test_7 rfl hl (by decide) rfl (fun ls hl => ?_)
  refine lv_iload_n hx hb dX11_test_8 rfl (lv_at hl 0 rfl) ?_
  refine lv_iconst (v := (-1)) hx hb dX11_test_9 (by decide) ?_
  refine lv_icmp_ne (tgt := 22) hx hb dX11_test_10 (by decide) (fun c16 => ?_) (fun c16 => ?_)
  · replace h := (if_neg c16).symm.trans h
    refine lv_aload_n hx hb dX11_test_22 rfl (lv_at hl 1 rfl) ?_
    refine lv_dup hx hb dX11_test_23 rfl ?_
    refine va_get (D := D) (ci := 6) (v := .int mAt) (C := RX11) (T := TX11) (N := 24) hx hb hts hi11 hown hK hP (0) (rfl) rfl 6 (by decide) kf107 (fun _ h9 => h9) rfl dX11_test_24 ?_
    refine lv_iconst (v := 1) hx hb dX11_test_27 (by decide) ?_
    refine lv_iadd hx hb dX11_test_28 ?_
    refine va_put (D := D) (ci := 6) (v := .int (mAt + 1)) (ty := .int) (C := RX11) (T := TX11) (N := 24) hx hb hts hi11 tyX11 tyX11_ok nmX11 hown hK hP hD hS (0) (rfl) rfl 6 (by decide) kf107 (fun _ h9 => h9) rfl (tyX11_ok 6 (by decide)) rfl rfl (Nat.le_of_ble_eq_true rfl) dX11_test_29 (fun H locs hP hD hS => ?_)
    have hP : va_P D vwCl (wM k a mSizes mSigns mOdds mPat mTyped mText (mAt + 1) mFault mTests mTN mTS mTV mTB mRead mUns mUM mBA mBH mThere mTypes mHeld mItems mMoved mFind) H := hP
    have hD : va_D A (wM k a mSizes mSigns mOdds mPat mTyped mText (mAt + 1) mFault mTests mTN mTS mTV mTB mRead mUns mUM mBA mBH mThere mTypes mHeld mItems mMoved mFind) := hD
    refine lv_aload_n hx hb dX11_test_32 rfl (lv_at hl 1 rfl) ?_
    obtain ⟨o17, eq18, h⟩ := bnd_some h
    refine kRiV (rest := []) (q0 := 0) ⟨hx, hb, hml, hown, hts⟩ (c_X11_byteNow l D k a mSizes mSigns mOdds mPat mTyped mText (mAt + 1) mFault mTests mTN mTS mTV mTB mRead mUns mUM mBA mBH mThere mTypes mHeld mItems mMoved mFind  eq18) (cwV 0 hts (gAV wm_426 wm_427 wm_428 wm_5 wm_429) rfl rfl rfl qd_X11_byteNow ⟨Nat.le_of_ble_eq_true rfl, Nat.le_of_ble_eq_true rfl⟩) hK hP (rfl) rfl rfl hl.1 rfl (Nat.le_of_ble_eq_true rfl) dX11_test_33 ⟨Nat.zero_le _, Nat.zero_le _⟩ ?_
    refine lv_istore_n (lv' := [(3, .int o17), (2, .int o14), (0, .ref (a 0)), (1, .int x1)]) hx hb dX11_test_36 rfl hl (by decide) rfl (fun ls hl => ?_)
    refine lv_iload_n hx hb dX11_test_37 rfl (lv_at hl 0 rfl) ?_
    refine lv_bipush (v := 60) hx hb dX11_test_38 (by decide) ?_
    refine lv_bipush (v := 62) hx hb dX11_test_40 (by decide) ?_
    obtain ⟨o19, eq20, h⟩ := bnd_some h
    refine kPi (rest := []) ⟨hx, hb, hml, hown, hts⟩ (c_X11_in l o17 60 62 eq20) (va_cwS 3 hts (gAS wm_120 wm_121 wm_5 wm_122) rfl rfl rfl qd_X11_in ⟨Nat.le_of_ble_eq_true rfl, Nat.le_of_ble_eq_true rfl⟩) rfl hl.1 rfl (Nat.le_of_ble_eq_true rfl) dX11_test_42 ⟨Nat.zero_le _, Nat.zero_le _⟩ ?_
    refine lv_if_ne (tgt := 57) hx hb dX11_test_45 (by decide) (fun c21 => ?_) (fun c21 => ?_)
    · replace h := (if_neg c21).symm.trans h
      refine lv_aload_n hx hb dX11_test_57 rfl (lv_at hl 2 rfl) ?_
      refine lv_dup hx hb dX11_test_58 rfl ?_
      refine va_get (D := D) (ci := 6) (v := .int (mAt + 1)) (C := RX11) (T := TX11) (N := 24) hx hb hts hi11 hown hK hP (0) (rfl) rfl 6 (by decide) kf107 (fun _ h9 => h9) rfl dX11_test_59 ?_
      refine lv_iconst (v := 1) hx hb dX11_test_62 (by decide) ?_
      refine lv_iadd hx hb dX11_test_63 ?_
      refine va_put (D := D) (ci := 6) (v := .int ((mAt + 1) + 1)) (ty := .int) (C := RX11) (T := TX11) (N := 24) hx hb hts hi11 tyX11 tyX11_ok nmX11 hown hK hP hD hS (0) (rfl) rfl 6 (by decide) kf107 (fun _ h9 => h9) rfl (tyX11_ok 6 (by decide)) rfl rfl (Nat.le_of_ble_eq_true rfl) dX11_test_64 (fun H locs hP hD hS => ?_)
      have hP : va_P D vwCl (wM k a mSizes mSigns mOdds mPat mTyped mText ((mAt + 1) + 1) mFault mTests mTN mTS mTV mTB mRead mUns mUM mBA mBH mThere mTypes mHeld mItems mMoved mFind) H := hP
      have hD : va_D A (wM k a mSizes mSigns mOdds mPat mTyped mText ((mAt + 1) + 1) mFault mTests mTN mTS mTV mTB mRead mUns mUM mBA mBH mThere mTypes mHeld mItems mMoved mFind) := hD
      refine lv_aload_n hx hb dX11_test_67 rfl (lv_at hl 2 rfl) ?_
      refine va_get (D := D) (ci := 6) (v := .int ((mAt + 1) + 1)) (C := RX11) (T := TX11) (N := 24) hx hb hts hi11 hown hK hP (0) (rfl) rfl 6 (by decide) kf107 (fun _ h9 => h9) rfl dX11_test_68 ?_
      refine lv_istore (lv' := [(4, .int ((mAt + 1) + 1)), (3, .int o17), (2, .int o14), (0, .ref (a 0)), (1, .int x1)]) hx hb dX11_test_71 hl (by decide) rfl (fun ls hl => ?_)
      refine lv_iconst (v := 0) hx hb dX11_test_73 (by decide) ?_
      refine lv_istore (lv' := [(5, .int 0), (4, .int ((mAt + 1) + 1)), (3, .int o17), (2, .int o14), (0, .ref (a 0)), (1, .int x1)]) hx hb dX11_test_74 hl (by decide) rfl (fun ls hl => ?_)
      exact L76 N x1 o14 o17 ((mAt + 1) + 1) 0 ((mAt + 1) + 1) mFault mTests mTN mTS mTV mTB ls H locs (lv_sub hl [4, 5, 3, 2, 1, 0] rfl) hP hD hS h
    · replace h := (if_pos c21).symm.trans h
      refine lv_aload_n hx hb dX11_test_48 rfl (lv_at hl 2 rfl) ?_
      refine lv_aload_n hx hb dX11_test_49 rfl (lv_at hl 2 rfl) ?_
      refine va_get (D := D) (ci := 6) (v := .int (mAt + 1)) (C := RX11) (T := TX11) (N := 24) hx hb hts hi11 hown hK hP (0) (rfl) rfl 6 (by decide) kf107 (fun _ h9 => h9) rfl dX11_test_50 ?_
      refine va_put (D := D) (ci := 6) (v := .int (mAt + 1)) (ty := .int) (C := RX11) (T := TX11) (N := 24) hx hb hts hi11 tyX11 tyX11_ok nmX11 hown hK hP hD hS (0) (rfl) rfl 7 (by decide) kf117 (fun _ h9 => h9) rfl (tyX11_ok 7 (by decide)) rfl rfl (Nat.le_of_ble_eq_true rfl) dX11_test_53 (fun H locs hP hD hS => ?_)
      have hP : va_P D vwCl (wM k a mSizes mSigns mOdds mPat mTyped mText (mAt + 1) (mAt + 1) mTests mTN mTS mTV mTB mRead mUns mUM mBA mBH mThere mTypes mHeld mItems mMoved mFind) H := hP
      have hD : va_D A (wM k a mSizes mSigns mOdds mPat mTyped mText (mAt + 1) (mAt + 1) mTests mTN mTS mTV mTB mRead mUns mUM mBA mBH mThere mTypes mHeld mItems mMoved mFind) := hD
      have he := Option.some.inj h
      exact W.vret hx hb hr (fun t ht hW => ⟨⟨wM k a mSizes mSigns mOdds mPat mTyped mText (mAt + 1) (mAt + 1) mTests mTN mTS mTV mTB mRead mUns mUM mBA mBH mThere mTypes mHeld mItems mMoved mFind, rfl, (congrArg (fun z => wM k a mSizes mSigns mOdds mPat mTyped mText z.1 z.2.1 z.2.2.1 z.2.2.2.1 z.2.2.2.2.1 z.2.2.2.2.2.1 z.2.2.2.2.2.2 mRead mUns mUM mBA mBH mThere mTypes mHeld mItems mMoved mFind) he), by rw [ht]; exact hP, va_K.moved hW.alike hK, hD⟩, hS.F ht⟩) hS.2.2 dX11_test_56
  · replace h := (if_pos c16).symm.trans h
    refine lv_aload_n hx hb dX11_test_13 rfl (lv_at hl 1 rfl) ?_
    refine lv_aload_n hx hb dX11_test_14 rfl (lv_at hl 1 rfl) ?_
    refine va_get (D := D) (ci := 6) (v := .int mAt) (C := RX11) (T := TX11) (N := 24) hx hb hts hi11 hown hK hP (0) (rfl) rfl 6 (by decide) kf107 (fun _ h9 => h9) rfl dX11_test_15 ?_
    refine va_put (D := D) (ci := 6) (v := .int mAt) (ty := .int) (C := RX11) (T := TX11) (N := 24) hx hb hts hi11 tyX11 tyX11_ok nmX11 hown hK hP hD hS (0) (rfl) rfl 7 (by decide) kf117 (fun _ h9 => h9) rfl (tyX11_ok 7 (by decide)) rfl rfl (Nat.le_of_ble_eq_true rfl) dX11_test_18 (fun H locs hP hD hS => ?_)
    have hP : va_P D vwCl (wM k a mSizes mSigns mOdds mPat mTyped mText mAt mAt mTests mTN mTS mTV mTB mRead mUns mUM mBA mBH mThere mTypes mHeld mItems mMoved mFind) H := hP
    have hD : va_D A (wM k a mSizes mSigns mOdds mPat mTyped mText mAt mAt mTests mTN mTS mTV mTB mRead mUns mUM mBA mBH mThere mTypes mHeld mItems mMoved mFind) := hD
    have he := Option.some.inj h
    exact W.vret hx hb hr (fun t ht hW => ⟨⟨wM k a mSizes mSigns mOdds mPat mTyped mText mAt mAt mTests mTN mTS mTV mTB mRead mUns mUM mBA mBH mThere mTypes mHeld mItems mMoved mFind, rfl, (congrArg (fun z => wM k a mSizes mSigns mOdds mPat mTyped mText z.1 z.2.1 z.2.2.1 z.2.2.2.1 z.2.2.2.2.1 z.2.2.2.2.2.1 z.2.2.2.2.2.2 mRead mUns mUM mBA mBH mThere mTypes mHeld mItems mMoved mFind) he), by rw [ht]; exact hP, va_K.moved hW.alike hK, hD⟩, hS.F ht⟩) hS.2.2 dX11_test_21
set_option maxHeartbeats 4000000 in
set_option maxRecDepth 100000 in
theorem c_X11_test {N : Nat} (l : Launch) (D : va_G) (k : Nat → ClassId) (a : Nat → Nat) (mSizes : Nat → Int32) (mSigns : Nat → Int32) (mOdds : Int32) (mPat : Int32) (mTyped : Int32) (mText : Nat → Int32) (mAt : Int32) (mFault : Int32) (mTests : Int32) (mTN : Nat → Int32) (mTS : Nat → Int32) (mTV : Nat → Int32) (mTB : Nat → Int32) (mRead : Int32) (mUns : Nat → Int32) (mUM : Int32) (mBA : Int32) (mBH : Int32) (mThere : Nat → Int32) (mTypes : Nat → Int32) (mHeld : Nat → Int32) (mItems : Nat → Int32) (mMoved : Nat → Int32) (mFind : Int32) (x1 : Int32) {o : (Int32) × (Int32) × (Int32) × (Nat → Int32) × (Nat → Int32) × (Nat → Int32) × (Nat → Int32)} (h : f_X11_test N x1 mTyped mText mAt mFault mTests mTN mTS mTV mTB = some o) : mQv l yX11_test wo_X11_test 1 D k [.ref (a 0), .int x1] (wM k a mSizes mSigns mOdds mPat mTyped mText mAt mFault mTests mTN mTS mTV mTB mRead mUns mUM mBA mBH mThere mTypes mHeld mItems mMoved mFind) (wM k a mSizes mSigns mOdds mPat mTyped mText o.1 o.2.1 o.2.2.1 o.2.2.2.1 o.2.2.2.2.1 o.2.2.2.2.2.1 o.2.2.2.2.2.2 mRead mUns mUM mBA mBH mThere mTypes mHeld mItems mMoved mFind) := by
  intro sz
  refine Met.ofW (cc := cX11_test) (maxL := 6) (ret := none) (by decide) rfl ?_
  intro p e s m args below meth c s₁ B hml hv
  obtain ⟨rfl, hsz, hP, hK, hD0⟩ := hv
  subst hsz
  rw [lg_entry_eq]
  exact core_X11_test D k a mSizes mSigns mOdds mPat mTyped mText mAt mFault mTests mTN mTS mTV mTB mRead mUns mUM mBA mBH mThere mTypes mHeld mItems mMoved mFind x1 B.exec B.bytes hml B.returns (atoms_spec (ws := wo_X11_test) B.pre) (findClass_of_methodNamed B.named) B.notSynchronized (lv_entry [.ref (a 0), .int x1] (n := 6) (Nat.le_of_ble_eq_true rfl)) hK hP hD0.self (fun q h => Or.inr h) h
theorem qd_X11_test : yX11_test.cls = RX11 ∧ yX11_test.cls ≠ "java/lang/invoke/MethodHandle" ∧ yX11_test.cls ≠ "java/lang/invoke/VarHandle" ∧ (parseMethodDescriptor yX11_test.desc).map (fun d => d.parameters.length) = some 1 := by decide +kernel
abbrev wo_X11_faultNow : List Cond := .code yX11_faultNow cX11_faultNow 2 (some .int) :: wsL_law
set_option maxHeartbeats 4000000 in
set_option maxRecDepth 100000 in
theorem core_X11_faultNow {N : Nat} (D : va_G) (k : Nat → ClassId) (a : Nat → Nat) (mSizes : Nat → Int32) (mSigns : Nat → Int32) (mOdds : Int32) (mPat : Int32) (mTyped : Int32) (mText : Nat → Int32) (mAt : Int32) (mFault : Int32) (mTests : Int32) (mTN : Nat → Int32) (mTS : Nat → Int32) (mTV : Nat → Int32) (mTB : Nat → Int32) (mRead : Int32) (mUns : Nat → Int32) (mUM : Int32) (mBA : Int32) (mBH : Int32) (mThere : Nat → Int32) (mTypes : Nat → Int32) (mHeld : Nat → Int32) (mItems : Nat → Int32) (mMoved : Nat → Int32) (mFind : Int32)  {p : Program} {l : Launch} {e : Env} {s : State} {m : MethodId} {args : Array Value} {below : List Frame} {meth : Method} {c : Code} {ls : Array Slot} (hx : p.tables.exec = Jvm.exec) (hb : c.code = cX11_faultNow) (hml : c.maxLocals = 2) (hr : meth.sig.returnType = some .int) (hts : ∀ w ∈ wo_X11_faultNow, w.before args s = true) (hown : s.vm.findClass RX11 = some m.cls) (hlocks : meth.locks = false) (hl : lv_has ls 2 [(0, .ref (a 0))]) (hK : va_K D vwCl (xTys k) s) (hP : va_P D vwCl (wM k a mSizes mSigns mOdds mPat mTyped mText mAt mFault mTests mTN mTS mTV mTB mRead mUns mUM mBA mBH mThere mTypes mHeld mItems mMoved mFind) s.heap) {A : Nat → Prop} (hD : va_D A (wM k a mSizes mSigns mOdds mPat mTyped mText mAt mFault mTests mTN mTS mTV mTB mRead mUns mUM mBA mBH mThere mTypes mHeld mItems mMoved mFind)) (hA : ∀ q : Nat, s.heap.size ≤ q → A q) {o : Int32 × (Int32) × (Int32) × (Int32) × (Nat → Int32) × (Nat → Int32) × (Nat → Int32) × (Nat → Int32) × (Int32)} (h : f_X11_faultNow N mTyped mText mAt mFault mTests mTN mTS mTV mTB mRead = some o) : gQi p l e wo_X11_faultNow 2 s m args below meth c D k A o.1 (wM k a mSizes mSigns mOdds mPat mTyped mText o.2.1 o.2.2.1 o.2.2.2.1 o.2.2.2.2.1 o.2.2.2.2.2.1 o.2.2.2.2.2.2.1 o.2.2.2.2.2.2.2.1 o.2.2.2.2.2.2.2.2 mUns mUM mBA mBH mThere mTypes mHeld mItems mMoved mFind) s.heap [] (F0 m 0 ls []) := by
  have hi11 := (fun w h => List.mem_cons_of_mem _ (inlX11 w h) : ∀ w ∈ wsX110, w ∈ wo_X11_faultNow)
  have kf117 := hts _ (List.mem_cons_of_mem _ wm_419)
  have kf107 := hts _ (List.mem_cons_of_mem _ wm_420)
  have kf100 := hts _ (List.mem_cons_of_mem _ wm_389)
  have kf103 := hts _ (List.mem_cons_of_mem _ wm_390)
  have kf120 := hts _ (List.mem_cons_of_mem _ wm_421)
  unfold f_X11_faultNow at h
  have hS : va_S A s.heap s.heap [] := va_S.rf
  have J112 : ∀ (mAt : Int32) (mFault : Int32) (mTests : Int32) (mTN : Nat → Int32) (mTS : Nat → Int32) (mTV : Nat → Int32) (mTB : Nat → Int32) (mRead : Int32) (ls : Array Slot) (H : Heap) (locs : List Loc) (hl : lv_has ls 2 [(0, .ref (a 0))]) (hP : va_P D vwCl (wM k a mSizes mSigns mOdds mPat mTyped mText mAt mFault mTests mTN mTS mTV mTB mRead mUns mUM mBA mBH mThere mTypes mHeld mItems mMoved mFind) H) (hD : va_D A (wM k a mSizes mSigns mOdds mPat mTyped mText mAt mFault mTests mTN mTS mTV mTB mRead mUns mUM mBA mBH mThere mTypes mHeld mItems mMoved mFind)) (hS : va_S A s.heap H locs) (h : f_X11_faultNow_112 N mTyped mText mAt mFault mTests mTN mTS mTV mTB mRead = some o), gQi p l e wo_X11_faultNow 2 s m args below meth c D k A o.1 (wM k a mSizes mSigns mOdds mPat mTyped mText o.2.1 o.2.2.1 o.2.2.2.1 o.2.2.2.2.1 o.2.2.2.2.2.1 o.2.2.2.2.2.2.1 o.2.2.2.2.2.2.2.1 o.2.2.2.2.2.2.2.2 mUns mUM mBA mBH mThere mTypes mHeld mItems mMoved mFind) H locs (F0 m 112 ls []) := by
    intro mAt mFault mTests mTN mTS mTV mTB mRead ls H locs hl hP hD hS h
    unfold f_X11_faultNow_112 at h
    refine lv_aload_n hx hb dX11_faultNow_112 rfl (lv_at hl 0 rfl) ?_
    refine va_get (D := D) (ci := 6) (v := .int mFault) (C := RX11) (T := TX11) (N := 24) hx hb hts hi11 hown hK hP (0) (rfl) rfl 7 (by decide) kf117 (fun _ h9 => h9) rfl dX11_faultNow_113 ?_
    have he := Option.some.inj h
    exact W.iret (v := mFault) hx hb hr (fun t ht hW => ⟨⟨mFault, wM k a mSizes mSigns mOdds mPat mTyped mText mAt mFault mTests mTN mTS mTV mTB mRead mUns mUM mBA mBH mThere mTypes mHeld mItems mMoved mFind, rfl, ⟨(congrArg (fun z => z.1) he), (congrArg (fun z => wM k a mSizes mSigns mOdds mPat mTyped mText z.2.1 z.2.2.1 z.2.2.2.1 z.2.2.2.2.1 z.2.2.2.2.2.1 z.2.2.2.2.2.2.1 z.2.2.2.2.2.2.2.1 z.2.2.2.2.2.2.2.2 mUns mUM mBA mBH mThere mTypes mHeld mItems mMoved mFind) he)⟩, by rw [ht]; exact hP, va_K.moved hW.alike hK, hD⟩, hS.F ht⟩) hS.2.2 dX11_faultNow_116
  have L37 : ∀ (n37 : Nat) (mAt : Int32) (mFault : Int32) (mTests : Int32) (mTN : Nat → Int32) (mTS : Nat → Int32) (mTV : Nat → Int32) (mTB : Nat → Int32) (mRead : Int32) (ls : Array Slot) (H : Heap) (locs : List Loc) (hl : lv_has ls 2 [(0, .ref (a 0))]) (hP : va_P D vwCl (wM k a mSizes mSigns mOdds mPat mTyped mText mAt mFault mTests mTN mTS mTV mTB mRead mUns mUM mBA mBH mThere mTypes mHeld mItems mMoved mFind) H) (hD : va_D A (wM k a mSizes mSigns mOdds mPat mTyped mText mAt mFault mTests mTN mTS mTV mTB mRead mUns mUM mBA mBH mThere mTypes mHeld mItems mMoved mFind)) (hS : va_S A s.heap H locs) (h : f_X11_faultNow_37 N n37 mTyped mText mAt mFault mTests mTN mTS mTV mTB mRead = some o), gQi p l e wo_X11_faultNow 2 s m args below meth c D k A o.1 (wM k a mSizes mSigns mOdds mPat mTyped mText o.2.1 o.2.2.1 o.2.2.2.1 o.2.2.2.2.1 o.2.2.2.2.2.1 o.2.2.2.2.2.2.1 o.2.2.2.2.2.2.2.1 o.2.2.2.2.2.2.2.2 mUns mUM mBA mBH mThere mTypes mHeld mItems mMoved mFind) H locs (F0 m 37 ls []) := by
    intro n37
    induction n37 with
    | zero => intro mAt mFault mTests mTN mTS mTV mTB mRead ls H locs hl hP hD hS h; cases (show (none : Option (Int32 × (Int32) × (Int32) × (Int32) × (Nat → Int32) × (Nat → Int32) × (Nat → Int32) × (Nat → Int32) × (Int32))) = some o from h)
    | succ n37 ih37 =>
      have J109 : ∀ (mAt : Int32) (mFault : Int32) (mTests : Int32) (mTN : Nat → Int32) (mTS : Nat → Int32) (mTV : Nat → Int32) (mTB : Nat → Int32) (mRead : Int32) (ls : Array Slot) (H : Heap) (locs : List Loc) (hl : lv_has ls 2 [(0, .ref (a 0))]) (hP : va_P D vwCl (wM k a mSizes mSigns mOdds mPat mTyped mText mAt mFault mTests mTN mTS mTV mTB mRead mUns mUM mBA mBH mThere mTypes mHeld mItems mMoved mFind) H) (hD : va_D A (wM k a mSizes mSigns mOdds mPat mTyped mText mAt mFault mTests mTN mTS mTV mTB mRead mUns mUM mBA mBH mThere mTypes mHeld mItems mMoved mFind)) (hS : va_S A s.heap H locs) (h : f_X11_faultNow_109 N (fun y0 y1 y2 y3 y4 y5 y6 y7 y8 y9 => f_X11_faultNow_37 N n37 y0 y1 y2 y3 y4 y5 y6 y7 y8 y9) mTyped mText mAt mFault mTests mTN mTS mTV mTB mRead = some o), gQi p l e wo_X11_faultNow 2 s m args below meth c D k A o.1 (wM k a mSizes mSigns mOdds mPat mTyped mText o.2.1 o.2.2.1 o.2.2.2.1 o.2.2.2.2.1 o.2.2.2.2.2.1 o.2.2.2.2.2.2.1 o.2.2.2.2.2.2.2.1 o.2.2.2.2.2.2.2.2 mUns mUM mBA mBH mThere mTypes mHeld mItems mMoved mFind) H locs (F0 m 109 ls []) := by
        intro mAt mFault mTests mTN mTS mTV mTB mRead ls H locs hl hP hD hS h
        unfold f_X11_faultNow_109 at h
        refine lv_goto (tgt := 37) hx hb dX11_faultNow_109 (by decide) ?_
        exact ih37 mAt mFault mTests mTN mTS mTV mTB mRead ls H locs (lv_sub hl [0] rfl) hP hD hS h
      have J106 : ∀ (s1 : Int32) (mAt : Int32) (mFault : Int32) (mTests : Int32) (mTN : Nat → Int32) (mTS : Nat → Int32) (mTV : Nat → Int32) (mTB : Nat → Int32) (mRead : Int32) (ls : Array Slot) (H : Heap) (locs : List Loc) (hl : lv_has ls 2 [(0, .ref (a 0))]) (hP : va_P D vwCl (wM k a mSizes mSigns mOdds mPat mTyped mText mAt mFault mTests mTN mTS mTV mTB mRead mUns mUM mBA mBH mThere mTypes mHeld mItems mMoved mFind) H) (hD : va_D A (wM k a mSizes mSigns mOdds mPat mTyped mText mAt mFault mTests mTN mTS mTV mTB mRead mUns mUM mBA mBH mThere mTypes mHeld mItems mMoved mFind)) (hS : va_S A s.heap H locs) (h : f_X11_faultNow_106 N (fun y0 y1 y2 y3 y4 y5 y6 y7 y8 y9 => f_X11_faultNow_37 N n37 y0 y1 y2 y3 y4 y5 y6 y7 y8 y9) s1 mTyped mText mAt mFault mTests mTN mTS mTV mTB mRead = some o), gQi p l e wo_X11_faultNow 2 s m args below meth c D k A o.1 (wM k a mSizes mSigns mOdds mPat mTyped mText o.2.1 o.2.2.1 o.2.2.2.1 o.2.2.2.2.1 o.2.2.2.2.2.1 o.2.2.2.2.2.2.1 o.2.2.2.2.2.2.2.1 o.2.2.2.2.2.2.2.2 mUns mUM mBA mBH mThere mTypes mHeld mItems mMoved mFind) H locs (F0 m 106 ls [.int s1, .ref (a 0)]) := by
        intro s1 mAt mFault mTests mTN mTS mTV mTB mRead ls H locs hl hP hD hS h
        unfold f_X11_faultNow_106 at h
        obtain ⟨o1, eq2, h⟩ := bnd_some h
        refine kQvV (rest := []) (q0 := 0) ⟨hx, hb, hml, hown, hts⟩ (c_X11_test l D k a mSizes mSigns mOdds mPat mTyped mText mAt mFault mTests mTN mTS mTV mTB mRead mUns mUM mBA mBH mThere mTypes mHeld mItems mMoved mFind s1 eq2) (cwV 1 hts (gAV wm_422 wm_423 wm_424 wm_5 wm_425) rfl rfl rfl qd_X11_test ⟨Nat.le_of_ble_eq_true rfl, Nat.le_of_ble_eq_true rfl⟩) hK hP hD hS hA (rfl) rfl rfl hl.1 rfl (Nat.le_of_ble_eq_true rfl) dX11_faultNow_106 ⟨Nat.zero_le _, Nat.zero_le _⟩ (fun H locs hP hD hS => ?_)
        have hP : va_P D vwCl (wM k a mSizes mSigns mOdds mPat mTyped mText o1.1 o1.2.1 o1.2.2.1 o1.2.2.2.1 o1.2.2.2.2.1 o1.2.2.2.2.2.1 o1.2.2.2.2.2.2 mRead mUns mUM mBA mBH mThere mTypes mHeld mItems mMoved mFind) H := hP
        have hD : va_D A (wM k a mSizes mSigns mOdds mPat mTyped mText o1.1 o1.2.1 o1.2.2.1 o1.2.2.2.1 o1.2.2.2.2.1 o1.2.2.2.2.2.1 o1.2.2.2.2.2.2 mRead mUns mUM mBA mBH mThere mTypes mHeld mItems mMoved mFind) := hD
        exact J109 o1.1 o1.2.1 o1.2.2.1 o1.2.2.2.1 o1.2.2.2.2.1 o1.2.2.2.2.2.1 o1.2.2.2.2.2.2 mRead ls H locs (lv_sub hl [0] rfl) hP hD hS h
      have J84 : ∀ (x1 : Int32) (mAt : Int32) (mFault : Int32) (mTests : Int32) (mTN : Nat → Int32) (mTS : Nat → Int32) (mTV : Nat → Int32) (mTB : Nat → Int32) (mRead : Int32) (ls : Array Slot) (H : Heap) (locs : List Loc) (hl : lv_has ls 2 [(0, .ref (a 0)), (1, .int x1)]) (hP : va_P D vwCl (wM k a mSizes mSigns mOdds mPat mTyped mText mAt mFault mTests mTN mTS mTV mTB mRead mUns mUM mBA mBH mThere mTypes mHeld mItems mMoved mFind) H) (hD : va_D A (wM k a mSizes mSigns mOdds mPat mTyped mText mAt mFault mTests mTN mTS mTV mTB mRead mUns mUM mBA mBH mThere mTypes mHeld mItems mMoved mFind)) (hS : va_S A s.heap H locs) (h : f_X11_faultNow_84 N (fun y0 y1 y2 y3 y4 y5 y6 y7 y8 y9 => f_X11_faultNow_37 N n37 y0 y1 y2 y3 y4 y5 y6 y7 y8 y9) x1 mTyped mText mAt mFault mTests mTN mTS mTV mTB mRead = some o), gQi p l e wo_X11_faultNow 2 s m args below meth c D k A o.1 (wM k a mSizes mSigns mOdds mPat mTyped mText o.2.1 o.2.2.1 o.2.2.2.1 o.2.2.2.2.1 o.2.2.2.2.2.1 o.2.2.2.2.2.2.1 o.2.2.2.2.2.2.2.1 o.2.2.2.2.2.2.2.2 mUns mUM mBA mBH mThere mTypes mHeld mItems mMoved mFind) H locs (F0 m 84 ls []) := by
        intro x1 mAt mFault mTests mTN mTS mTV mTB mRead ls H locs hl hP hD hS h
        unfold f_X11_faultNow_84 at h
        refine lv_aload_n hx hb dX11_faultNow_84 rfl (lv_at hl 0 rfl) ?_
        refine lv_dup hx hb dX11_faultNow_85 rfl ?_
        refine va_get (D := D) (ci := 6) (v := .int mAt) (C := RX11) (T := TX11) (N := 24) hx hb hts hi11 hown hK hP (0) (rfl) rfl 6 (by decide) kf107 (fun _ h9 => h9) rfl dX11_faultNow_86 ?_
        refine lv_iconst (v := 1) hx hb dX11_faultNow_89 (by decide) ?_
        refine lv_iadd hx hb dX11_faultNow_90 ?_
        refine va_put (D := D) (ci := 6) (v := .int (mAt + 1)) (ty := .int) (C := RX11) (T := TX11) (N := 24) hx hb hts hi11 tyX11 tyX11_ok nmX11 hown hK hP hD hS (0) (rfl) rfl 6 (by decide) kf107 (fun _ h9 => h9) rfl (tyX11_ok 6 (by decide)) rfl rfl (Nat.le_of_ble_eq_true rfl) dX11_faultNow_91 (fun H locs hP hD hS => ?_)
        have hP : va_P D vwCl (wM k a mSizes mSigns mOdds mPat mTyped mText (mAt + 1) mFault mTests mTN mTS mTV mTB mRead mUns mUM mBA mBH mThere mTypes mHeld mItems mMoved mFind) H := hP
        have hD : va_D A (wM k a mSizes mSigns mOdds mPat mTyped mText (mAt + 1) mFault mTests mTN mTS mTV mTB mRead mUns mUM mBA mBH mThere mTypes mHeld mItems mMoved mFind) := hD
        refine lv_aload_n hx hb dX11_faultNow_94 rfl (lv_at hl 0 rfl) ?_
        refine lv_iload_n hx hb dX11_faultNow_95 rfl (lv_at hl 1 rfl) ?_
        refine lv_bipush (v := 124) hx hb dX11_faultNow_96 (by decide) ?_
        refine lv_icmp_ne (tgt := 105) hx hb dX11_faultNow_98 (by decide) (fun c3 => ?_) (fun c3 => ?_)
        · replace h := (if_neg c3).symm.trans h
          refine lv_iconst (v := 0) hx hb dX11_faultNow_105 (by decide) ?_
          exact J106 0 (mAt + 1) mFault mTests mTN mTS mTV mTB mRead ls H locs (lv_sub hl [0] rfl) hP hD hS h
        · replace h := (if_pos c3).symm.trans h
          refine lv_iconst (v := 1) hx hb dX11_faultNow_101 (by decide) ?_
          refine lv_goto (tgt := 106) hx hb dX11_faultNow_102 (by decide) ?_
          exact J106 1 (mAt + 1) mFault mTests mTN mTS mTV mTB mRead ls H locs (lv_sub hl [0] rfl) hP hD hS h
      intro mAt mFault mTests mTN mTS mTV mTB mRead ls H locs hl hP hD hS h
      rw [f_X11_faultNow_37] at h
      refine lv_aload_n hx hb dX11_faultNow_37 rfl (lv_at hl 0 rfl) ?_
      refine va_get (D := D) (ci := 6) (v := .int mFault) (C := RX11) (T := TX11) (N := 24) hx hb hts hi11 hown hK hP (0) (rfl) rfl 7 (by decide) kf117 (fun _ h9 => h9) rfl dX11_faultNow_38 ?_
      refine lv_iconst (v := (-1)) hx hb dX11_faultNow_41 (by decide) ?_
      refine lv_icmp_ne (tgt := 112) hx hb dX11_faultNow_42 (by decide) (fun c4 => ?_) (fun c4 => ?_)
      · replace h := (if_neg c4).symm.trans h
        exact J112 mAt mFault mTests mTN mTS mTV mTB mRead ls H locs (lv_sub hl [0] rfl) hP hD hS h
      · replace h := (if_pos c4).symm.trans h
        refine lv_aload_n hx hb dX11_faultNow_45 rfl (lv_at hl 0 rfl) ?_
        refine va_get (D := D) (ci := 6) (v := .int mAt) (C := RX11) (T := TX11) (N := 24) hx hb hts hi11 hown hK hP (0) (rfl) rfl 6 (by decide) kf107 (fun _ h9 => h9) rfl dX11_faultNow_46 ?_
        refine lv_aload_n hx hb dX11_faultNow_49 rfl (lv_at hl 0 rfl) ?_
        refine va_get (D := D) (ci := 6) (v := .int mTyped) (C := RX11) (T := TX11) (N := 24) hx hb hts hi11 hown hK hP (0) (rfl) rfl 4 (by decide) kf100 (fun _ h9 => h9) rfl dX11_faultNow_50 ?_
        refine lv_icmp_ge (tgt := 112) hx hb dX11_faultNow_53 (by decide) (fun c5 => ?_) (fun c5 => ?_)
        · replace h := (if_pos c5).symm.trans h
          exact J112 mAt mFault mTests mTN mTS mTV mTB mRead ls H locs (lv_sub hl [0] rfl) hP hD hS h
        · replace h := (if_neg c5).symm.trans h
          refine lv_aload_n hx hb dX11_faultNow_56 rfl (lv_at hl 0 rfl) ?_
          obtain ⟨o6, eq7, h⟩ := bnd_some h
          refine kRiV (rest := []) (q0 := 0) ⟨hx, hb, hml, hown, hts⟩ (c_X11_byteNow l D k a mSizes mSigns mOdds mPat mTyped mText mAt mFault mTests mTN mTS mTV mTB mRead mUns mUM mBA mBH mThere mTypes mHeld mItems mMoved mFind  eq7) (cwV 0 hts (gAV wm_426 wm_427 wm_428 wm_5 wm_429) rfl rfl rfl qd_X11_byteNow ⟨Nat.le_of_ble_eq_true rfl, Nat.le_of_ble_eq_true rfl⟩) hK hP (rfl) rfl rfl hl.1 rfl (Nat.le_of_ble_eq_true rfl) dX11_faultNow_57 ⟨Nat.zero_le _, Nat.zero_le _⟩ ?_
          refine lv_istore_n (lv' := [(1, .int o6), (0, .ref (a 0))]) hx hb dX11_faultNow_60 rfl hl (by decide) rfl (fun ls hl => ?_)
          refine lv_iload_n hx hb dX11_faultNow_61 rfl (lv_at hl 0 rfl) ?_
          refine lv_bipush (v := 124) hx hb dX11_faultNow_62 (by decide) ?_
          refine lv_icmp_eq (tgt := 84) hx hb dX11_faultNow_64 (by decide) (fun c8 => ?_) (fun c8 => ?_)
          · replace h := (if_pos c8).symm.trans h
            exact J84 o6 mAt mFault mTests mTN mTS mTV mTB mRead ls H locs (lv_sub hl [1, 0] rfl) hP hD hS h
          · replace h := (if_neg c8).symm.trans h
            refine lv_iload_n hx hb dX11_faultNow_67 rfl (lv_at hl 0 rfl) ?_
            refine lv_bipush (v := 43) hx hb dX11_faultNow_68 (by decide) ?_
            refine lv_icmp_eq (tgt := 84) hx hb dX11_faultNow_70 (by decide) (fun c9 => ?_) (fun c9 => ?_)
            · replace h := (if_pos c9).symm.trans h
              exact J84 o6 mAt mFault mTests mTN mTS mTV mTB mRead ls H locs (lv_sub hl [1, 0] rfl) hP hD hS h
            · replace h := (if_neg c9).symm.trans h
              refine lv_aload_n hx hb dX11_faultNow_73 rfl (lv_at hl 1 rfl) ?_
              refine lv_aload_n hx hb dX11_faultNow_74 rfl (lv_at hl 1 rfl) ?_
              refine va_get (D := D) (ci := 6) (v := .int mAt) (C := RX11) (T := TX11) (N := 24) hx hb hts hi11 hown hK hP (0) (rfl) rfl 6 (by decide) kf107 (fun _ h9 => h9) rfl dX11_faultNow_75 ?_
              refine va_put (D := D) (ci := 6) (v := .int mAt) (ty := .int) (C := RX11) (T := TX11) (N := 24) hx hb hts hi11 tyX11 tyX11_ok nmX11 hown hK hP hD hS (0) (rfl) rfl 7 (by decide) kf117 (fun _ h9 => h9) rfl (tyX11_ok 7 (by decide)) rfl rfl (Nat.le_of_ble_eq_true rfl) dX11_faultNow_78 (fun H locs hP hD hS => ?_)
              have hP : va_P D vwCl (wM k a mSizes mSigns mOdds mPat mTyped mText mAt mAt mTests mTN mTS mTV mTB mRead mUns mUM mBA mBH mThere mTypes mHeld mItems mMoved mFind) H := hP
              have hD : va_D A (wM k a mSizes mSigns mOdds mPat mTyped mText mAt mAt mTests mTN mTS mTV mTB mRead mUns mUM mBA mBH mThere mTypes mHeld mItems mMoved mFind) := hD
              refine lv_goto (tgt := 109) hx hb dX11_faultNow_81 (by decide) ?_
              exact J109 mAt mAt mTests mTN mTS mTV mTB mRead ls H locs (lv_sub hl [1] rfl) hP hD hS h
  obtain ⟨H, hH⟩ : ∃ H : Heap, H = s.heap := ⟨_, rfl⟩
  obtain ⟨locs, hlc⟩ : ∃ locs : List Loc, locs = [] := ⟨_, rfl⟩
  have hS : va_S A s.heap H locs := by rw [hH, hlc]; exact va_S.rf
  have hP : va_P D vwCl (wM k a mSizes mSigns mOdds mPat mTyped mText mAt mFault mTests mTN mTS mTV mTB mRead mUns mUM mBA mBH mThere mTypes mHeld mItems mMoved mFind) H := by rw [hH]; exact hP
  suffices hGo : gQi p l e wo_X11_faultNow 2 s m args below meth c D k A o.1 (wM k a mSizes mSigns mOdds mPat mTyped mText o.2.1 o.2.2.1 o.2.2.2.1 o.2.2.2.2.1 o.2.2.2.2.2.1 o.2.2.2.2.2.2.1 o.2.2.2.2.2.2.2.1 o.2.2.2.2.2.2.2.2 mUns mUM mBA mBH mThere mTypes mHeld mItems mMoved mFind) H locs (F0 m 0 ls []) by rw [hH, hlc] at hGo; exact hGo
  refine lv_aload_n hx hb dX11_faultNow_0 rfl (lv_at hl 0 rfl) ?_
  refine va_get (D := D) (ci := 6) (v := .int mRead) (C := RX11) (T := TX11) (N := 24) hx hb hts hi11 hown hK hP (0) (rfl) rfl 13 (by decide) kf103 (fun _ h9 => h9) rfl dX11_faultNow_1 ?_
  refine lv_if_eq (tgt := 12) hx hb dX11_faultNow_4 (by decide) (fun c10 => ?_) (fun c10 => ?_)
  · replace h := (if_pos c10).symm.trans h
    refine lv_aload_n hx hb dX11_faultNow_12 rfl (lv_at hl 0 rfl) ?_
    refine lv_iconst (v := 1) hx hb dX11_faultNow_13 (by decide) ?_
    refine va_put (D := D) (ci := 6) (v := .int 1) (ty := .boolean) (C := RX11) (T := TX11) (N := 24) hx hb hts hi11 tyX11 tyX11_ok nmX11 hown hK hP hD hS (0) (rfl) rfl 13 (by decide) kf103 (fun _ h9 => h9) rfl (tyX11_ok 13 (by decide)) rfl rfl (Nat.le_of_ble_eq_true rfl) dX11_faultNow_14 (fun H locs hP hD hS => ?_)
    have hP : va_P D vwCl (wM k a mSizes mSigns mOdds mPat mTyped mText mAt mFault mTests mTN mTS mTV mTB 1 mUns mUM mBA mBH mThere mTypes mHeld mItems mMoved mFind) H := hP
    have hD : va_D A (wM k a mSizes mSigns mOdds mPat mTyped mText mAt mFault mTests mTN mTS mTV mTB 1 mUns mUM mBA mBH mThere mTypes mHeld mItems mMoved mFind) := hD
    refine lv_aload_n hx hb dX11_faultNow_17 rfl (lv_at hl 0 rfl) ?_
    refine lv_iconst (v := 0) hx hb dX11_faultNow_18 (by decide) ?_
    refine va_put (D := D) (ci := 6) (v := .int 0) (ty := .int) (C := RX11) (T := TX11) (N := 24) hx hb hts hi11 tyX11 tyX11_ok nmX11 hown hK hP hD hS (0) (rfl) rfl 6 (by decide) kf107 (fun _ h9 => h9) rfl (tyX11_ok 6 (by decide)) rfl rfl (Nat.le_of_ble_eq_true rfl) dX11_faultNow_19 (fun H locs hP hD hS => ?_)
    have hP : va_P D vwCl (wM k a mSizes mSigns mOdds mPat mTyped mText 0 mFault mTests mTN mTS mTV mTB 1 mUns mUM mBA mBH mThere mTypes mHeld mItems mMoved mFind) H := hP
    have hD : va_D A (wM k a mSizes mSigns mOdds mPat mTyped mText 0 mFault mTests mTN mTS mTV mTB 1 mUns mUM mBA mBH mThere mTypes mHeld mItems mMoved mFind) := hD
    refine lv_aload_n hx hb dX11_faultNow_22 rfl (lv_at hl 0 rfl) ?_
    refine lv_iconst (v := (-1)) hx hb dX11_faultNow_23 (by decide) ?_
    refine va_put (D := D) (ci := 6) (v := .int (-1)) (ty := .int) (C := RX11) (T := TX11) (N := 24) hx hb hts hi11 tyX11 tyX11_ok nmX11 hown hK hP hD hS (0) (rfl) rfl 7 (by decide) kf117 (fun _ h9 => h9) rfl (tyX11_ok 7 (by decide)) rfl rfl (Nat.le_of_ble_eq_true rfl) dX11_faultNow_24 (fun H locs hP hD hS => ?_)
    have hP : va_P D vwCl (wM k a mSizes mSigns mOdds mPat mTyped mText 0 (-1) mTests mTN mTS mTV mTB 1 mUns mUM mBA mBH mThere mTypes mHeld mItems mMoved mFind) H := hP
    have hD : va_D A (wM k a mSizes mSigns mOdds mPat mTyped mText 0 (-1) mTests mTN mTS mTV mTB 1 mUns mUM mBA mBH mThere mTypes mHeld mItems mMoved mFind) := hD
    refine lv_aload_n hx hb dX11_faultNow_27 rfl (lv_at hl 0 rfl) ?_
    refine lv_iconst (v := 0) hx hb dX11_faultNow_28 (by decide) ?_
    refine va_put (D := D) (ci := 6) (v := .int 0) (ty := .int) (C := RX11) (T := TX11) (N := 24) hx hb hts hi11 tyX11 tyX11_ok nmX11 hown hK hP hD hS (0) (rfl) rfl 8 (by decide) kf120 (fun _ h9 => h9) rfl (tyX11_ok 8 (by decide)) rfl rfl (Nat.le_of_ble_eq_true rfl) dX11_faultNow_29 (fun H locs hP hD hS => ?_)
    have hP : va_P D vwCl (wM k a mSizes mSigns mOdds mPat mTyped mText 0 (-1) 0 mTN mTS mTV mTB 1 mUns mUM mBA mBH mThere mTypes mHeld mItems mMoved mFind) H := hP
    have hD : va_D A (wM k a mSizes mSigns mOdds mPat mTyped mText 0 (-1) 0 mTN mTS mTV mTB 1 mUns mUM mBA mBH mThere mTypes mHeld mItems mMoved mFind) := hD
    refine lv_aload_n hx hb dX11_faultNow_32 rfl (lv_at hl 0 rfl) ?_
    refine lv_iconst (v := 1) hx hb dX11_faultNow_33 (by decide) ?_
    obtain ⟨o11, eq12, h⟩ := bnd_some h
    refine kQvV (rest := []) (q0 := 0) ⟨hx, hb, hml, hown, hts⟩ (c_X11_test l D k a mSizes mSigns mOdds mPat mTyped mText 0 (-1) 0 mTN mTS mTV mTB 1 mUns mUM mBA mBH mThere mTypes mHeld mItems mMoved mFind 1 eq12) (cwV 1 hts (gAV wm_422 wm_423 wm_424 wm_5 wm_425) rfl rfl rfl qd_X11_test ⟨Nat.le_of_ble_eq_true rfl, Nat.le_of_ble_eq_true rfl⟩) hK hP hD hS hA (rfl) rfl rfl hl.1 rfl (Nat.le_of_ble_eq_true rfl) dX11_faultNow_34 ⟨Nat.zero_le _, Nat.zero_le _⟩ (fun H locs hP hD hS => ?_)
    have hP : va_P D vwCl (wM k a mSizes mSigns mOdds mPat mTyped mText o11.1 o11.2.1 o11.2.2.1 o11.2.2.2.1 o11.2.2.2.2.1 o11.2.2.2.2.2.1 o11.2.2.2.2.2.2 1 mUns mUM mBA mBH mThere mTypes mHeld mItems mMoved mFind) H := hP
    have hD : va_D A (wM k a mSizes mSigns mOdds mPat mTyped mText o11.1 o11.2.1 o11.2.2.1 o11.2.2.2.1 o11.2.2.2.2.1 o11.2.2.2.2.2.1 o11.2.2.2.2.2.2 1 mUns mUM mBA mBH mThere mTypes mHeld mItems mMoved mFind) := hD
    exact L37 N o11.1 o11.2.1 o11.2.2.1 o11.2.2.2.1 o11.2.2.2.2.1 o11.2.2.2.2.2.1 o11.2.2.2.2.2.2 1 ls H locs (lv_sub hl [0] rfl) hP hD hS h
  · replace h := (if_neg c10).symm.trans h
    refine lv_aload_n hx hb dX11_faultNow_7 rfl (lv_at hl 0 rfl) ?_
    refine va_get (D := D) (ci := 6) (v := .int mFault) (C := RX11) (T := TX11) (N := 24) hx hb hts hi11 hown hK hP (0) (rfl) rfl 7 (by decide) kf117 (fun _ h9 => h9) rfl dX11_faultNow_8 ?_
    have he := Option.some.inj h
    exact W.iret (v := mFault) hx hb hr (fun t ht hW => ⟨⟨mFault, wM k a mSizes mSigns mOdds mPat mTyped mText mAt mFault mTests mTN mTS mTV mTB mRead mUns mUM mBA mBH mThere mTypes mHeld mItems mMoved mFind, rfl, ⟨(congrArg (fun z => z.1) he), (congrArg (fun z => wM k a mSizes mSigns mOdds mPat mTyped mText z.2.1 z.2.2.1 z.2.2.2.1 z.2.2.2.2.1 z.2.2.2.2.2.1 z.2.2.2.2.2.2.1 z.2.2.2.2.2.2.2.1 z.2.2.2.2.2.2.2.2 mUns mUM mBA mBH mThere mTypes mHeld mItems mMoved mFind) he)⟩, by rw [ht]; exact hP, va_K.moved hW.alike hK, hD⟩, hS.F ht⟩) hS.2.2 dX11_faultNow_11
set_option maxHeartbeats 4000000 in
set_option maxRecDepth 100000 in
theorem c_X11_faultNow {N : Nat} (l : Launch) (D : va_G) (k : Nat → ClassId) (a : Nat → Nat) (mSizes : Nat → Int32) (mSigns : Nat → Int32) (mOdds : Int32) (mPat : Int32) (mTyped : Int32) (mText : Nat → Int32) (mAt : Int32) (mFault : Int32) (mTests : Int32) (mTN : Nat → Int32) (mTS : Nat → Int32) (mTV : Nat → Int32) (mTB : Nat → Int32) (mRead : Int32) (mUns : Nat → Int32) (mUM : Int32) (mBA : Int32) (mBH : Int32) (mThere : Nat → Int32) (mTypes : Nat → Int32) (mHeld : Nat → Int32) (mItems : Nat → Int32) (mMoved : Nat → Int32) (mFind : Int32)  {o : Int32 × (Int32) × (Int32) × (Int32) × (Nat → Int32) × (Nat → Int32) × (Nat → Int32) × (Nat → Int32) × (Int32)} (h : f_X11_faultNow N mTyped mText mAt mFault mTests mTN mTS mTV mTB mRead = some o) : mQi l yX11_faultNow wo_X11_faultNow 2 D k [.ref (a 0)] (wM k a mSizes mSigns mOdds mPat mTyped mText mAt mFault mTests mTN mTS mTV mTB mRead mUns mUM mBA mBH mThere mTypes mHeld mItems mMoved mFind) o.1 (wM k a mSizes mSigns mOdds mPat mTyped mText o.2.1 o.2.2.1 o.2.2.2.1 o.2.2.2.2.1 o.2.2.2.2.2.1 o.2.2.2.2.2.2.1 o.2.2.2.2.2.2.2.1 o.2.2.2.2.2.2.2.2 mUns mUM mBA mBH mThere mTypes mHeld mItems mMoved mFind) := by
  intro sz
  refine Met.ofW (cc := cX11_faultNow) (maxL := 2) (ret := some .int) (by decide) rfl ?_
  intro p e s m args below meth c s₁ B hml hv
  obtain ⟨rfl, hsz, hP, hK, hD0⟩ := hv
  subst hsz
  rw [lg_entry_eq]
  exact core_X11_faultNow D k a mSizes mSigns mOdds mPat mTyped mText mAt mFault mTests mTN mTS mTV mTB mRead mUns mUM mBA mBH mThere mTypes mHeld mItems mMoved mFind  B.exec B.bytes hml B.returns (atoms_spec (ws := wo_X11_faultNow) B.pre) (findClass_of_methodNamed B.named) B.notSynchronized (lv_entry [.ref (a 0)] (n := 2) (Nat.le_of_ble_eq_true rfl)) hK hP hD0.self (fun q h => Or.inr h) h
theorem qd_X11_faultNow : yX11_faultNow.cls = RX11 ∧ yX11_faultNow.cls ≠ "java/lang/invoke/MethodHandle" ∧ yX11_faultNow.cls ≠ "java/lang/invoke/VarHandle" ∧ (parseMethodDescriptor yX11_faultNow.desc).map (fun d => d.parameters.length) = some 0 := by decide +kernel
abbrev wo_X11_fault : List Cond := .code yX11_fault cX11_fault 1 (some .int) :: wsL_law
set_option maxHeartbeats 4000000 in
set_option maxRecDepth 100000 in
theorem core_X11_fault {N : Nat} (D : va_G) (k : Nat → ClassId) (a : Nat → Nat) (mSizes : Nat → Int32) (mSigns : Nat → Int32) (mOdds : Int32) (mPat : Int32) (mTyped : Int32) (mText : Nat → Int32) (mAt : Int32) (mFault : Int32) (mTests : Int32) (mTN : Nat → Int32) (mTS : Nat → Int32) (mTV : Nat → Int32) (mTB : Nat → Int32) (mRead : Int32) (mUns : Nat → Int32) (mUM : Int32) (mBA : Int32) (mBH : Int32) (mThere : Nat → Int32) (mTypes : Nat → Int32) (mHeld : Nat → Int32) (mItems : Nat → Int32) (mMoved : Nat → Int32) (mFind : Int32)  {p : Program} {l : Launch} {e : Env} {s : State} {m : MethodId} {args : Array Value} {below : List Frame} {meth : Method} {c : Code} {ls : Array Slot} (hx : p.tables.exec = Jvm.exec) (hb : c.code = cX11_fault) (hml : c.maxLocals = 1) (hr : meth.sig.returnType = some .int) (hts : ∀ w ∈ wo_X11_fault, w.before args s = true) (hown : s.vm.findClass RX11 = some m.cls) (hlocks : meth.locks = false) (hl : lv_has ls 1 [(0, .ref (a 0))]) (hK : va_K D vwCl (xTys k) s) (hP : va_P D vwCl (wM k a mSizes mSigns mOdds mPat mTyped mText mAt mFault mTests mTN mTS mTV mTB mRead mUns mUM mBA mBH mThere mTypes mHeld mItems mMoved mFind) s.heap) {A : Nat → Prop} (hD : va_D A (wM k a mSizes mSigns mOdds mPat mTyped mText mAt mFault mTests mTN mTS mTV mTB mRead mUns mUM mBA mBH mThere mTypes mHeld mItems mMoved mFind)) (hA : ∀ q : Nat, s.heap.size ≤ q → A q) {o : Int32 × (Int32) × (Int32) × (Int32) × (Nat → Int32) × (Nat → Int32) × (Nat → Int32) × (Nat → Int32) × (Int32)} (h : f_X11_fault N mTyped mText mAt mFault mTests mTN mTS mTV mTB mRead = some o) : gQi p l e wo_X11_fault 3 s m args below meth c D k A o.1 (wM k a mSizes mSigns mOdds mPat mTyped mText o.2.1 o.2.2.1 o.2.2.2.1 o.2.2.2.2.1 o.2.2.2.2.2.1 o.2.2.2.2.2.2.1 o.2.2.2.2.2.2.2.1 o.2.2.2.2.2.2.2.2 mUns mUM mBA mBH mThere mTypes mHeld mItems mMoved mFind) s.heap [] (F0 m 0 ls []) := by
  unfold f_X11_fault at h
  have hS : va_S A s.heap s.heap [] := va_S.rf
  obtain ⟨H, hH⟩ : ∃ H : Heap, H = s.heap := ⟨_, rfl⟩
  obtain ⟨locs, hlc⟩ : ∃ locs : List Loc, locs = [] := ⟨_, rfl⟩
  have hS : va_S A s.heap H locs := by rw [hH, hlc]; exact va_S.rf
  have hP : va_P D vwCl (wM k a mSizes mSigns mOdds mPat mTyped mText mAt mFault mTests mTN mTS mTV mTB mRead mUns mUM mBA mBH mThere mTypes mHeld mItems mMoved mFind) H := by rw [hH]; exact hP
  suffices hGo : gQi p l e wo_X11_fault 3 s m args below meth c D k A o.1 (wM k a mSizes mSigns mOdds mPat mTyped mText o.2.1 o.2.2.1 o.2.2.2.1 o.2.2.2.2.1 o.2.2.2.2.2.1 o.2.2.2.2.2.2.1 o.2.2.2.2.2.2.2.1 o.2.2.2.2.2.2.2.2 mUns mUM mBA mBH mThere mTypes mHeld mItems mMoved mFind) H locs (F0 m 0 ls []) by rw [hH, hlc] at hGo; exact hGo
  refine lv_aload_n hx hb dX11_fault_0 rfl (lv_at hl 0 rfl) ?_
  obtain ⟨o1, eq2, h⟩ := bnd_some h
  refine kQiV (rest := []) (q0 := 0) ⟨hx, hb, hml, hown, hts⟩ (c_X11_faultNow l D k a mSizes mSigns mOdds mPat mTyped mText mAt mFault mTests mTN mTS mTV mTB mRead mUns mUM mBA mBH mThere mTypes mHeld mItems mMoved mFind  eq2) (cwV 0 hts (gAV wm_415 wm_416 wm_417 wm_5 wm_418) rfl rfl rfl qd_X11_faultNow ⟨Nat.le_of_ble_eq_true rfl, Nat.le_of_ble_eq_true rfl⟩) hK hP hD hS hA (rfl) rfl rfl hl.1 rfl (Nat.le_of_ble_eq_true rfl) dX11_fault_1 ⟨Nat.zero_le _, Nat.zero_le _⟩ (fun H locs hP hD hS => ?_)
  have hP : va_P D vwCl (wM k a mSizes mSigns mOdds mPat mTyped mText o1.2.1 o1.2.2.1 o1.2.2.2.1 o1.2.2.2.2.1 o1.2.2.2.2.2.1 o1.2.2.2.2.2.2.1 o1.2.2.2.2.2.2.2.1 o1.2.2.2.2.2.2.2.2 mUns mUM mBA mBH mThere mTypes mHeld mItems mMoved mFind) H := hP
  have hD : va_D A (wM k a mSizes mSigns mOdds mPat mTyped mText o1.2.1 o1.2.2.1 o1.2.2.2.1 o1.2.2.2.2.1 o1.2.2.2.2.2.1 o1.2.2.2.2.2.2.1 o1.2.2.2.2.2.2.2.1 o1.2.2.2.2.2.2.2.2 mUns mUM mBA mBH mThere mTypes mHeld mItems mMoved mFind) := hD
  have he := Option.some.inj h
  exact W.iret (v := o1.1) hx hb hr (fun t ht hW => ⟨⟨o1.1, wM k a mSizes mSigns mOdds mPat mTyped mText o1.2.1 o1.2.2.1 o1.2.2.2.1 o1.2.2.2.2.1 o1.2.2.2.2.2.1 o1.2.2.2.2.2.2.1 o1.2.2.2.2.2.2.2.1 o1.2.2.2.2.2.2.2.2 mUns mUM mBA mBH mThere mTypes mHeld mItems mMoved mFind, rfl, ⟨(congrArg (fun z => z.1) he), (congrArg (fun z => wM k a mSizes mSigns mOdds mPat mTyped mText z.2.1 z.2.2.1 z.2.2.2.1 z.2.2.2.2.1 z.2.2.2.2.2.1 z.2.2.2.2.2.2.1 z.2.2.2.2.2.2.2.1 z.2.2.2.2.2.2.2.2 mUns mUM mBA mBH mThere mTypes mHeld mItems mMoved mFind) he)⟩, by rw [ht]; exact hP, va_K.moved hW.alike hK, hD⟩, hS.F ht⟩) hS.2.2 dX11_fault_4
set_option maxHeartbeats 4000000 in
set_option maxRecDepth 100000 in
theorem c_X11_fault {N : Nat} (l : Launch) (D : va_G) (k : Nat → ClassId) (a : Nat → Nat) (mSizes : Nat → Int32) (mSigns : Nat → Int32) (mOdds : Int32) (mPat : Int32) (mTyped : Int32) (mText : Nat → Int32) (mAt : Int32) (mFault : Int32) (mTests : Int32) (mTN : Nat → Int32) (mTS : Nat → Int32) (mTV : Nat → Int32) (mTB : Nat → Int32) (mRead : Int32) (mUns : Nat → Int32) (mUM : Int32) (mBA : Int32) (mBH : Int32) (mThere : Nat → Int32) (mTypes : Nat → Int32) (mHeld : Nat → Int32) (mItems : Nat → Int32) (mMoved : Nat → Int32) (mFind : Int32)  {o : Int32 × (Int32) × (Int32) × (Int32) × (Nat → Int32) × (Nat → Int32) × (Nat → Int32) × (Nat → Int32) × (Int32)} (h : f_X11_fault N mTyped mText mAt mFault mTests mTN mTS mTV mTB mRead = some o) : mQi l yX11_fault wo_X11_fault 3 D k [.ref (a 0)] (wM k a mSizes mSigns mOdds mPat mTyped mText mAt mFault mTests mTN mTS mTV mTB mRead mUns mUM mBA mBH mThere mTypes mHeld mItems mMoved mFind) o.1 (wM k a mSizes mSigns mOdds mPat mTyped mText o.2.1 o.2.2.1 o.2.2.2.1 o.2.2.2.2.1 o.2.2.2.2.2.1 o.2.2.2.2.2.2.1 o.2.2.2.2.2.2.2.1 o.2.2.2.2.2.2.2.2 mUns mUM mBA mBH mThere mTypes mHeld mItems mMoved mFind) := by
  intro sz
  refine Met.ofW (cc := cX11_fault) (maxL := 1) (ret := some .int) (by decide) rfl ?_
  intro p e s m args below meth c s₁ B hml hv
  obtain ⟨rfl, hsz, hP, hK, hD0⟩ := hv
  subst hsz
  rw [lg_entry_eq]
  exact core_X11_fault D k a mSizes mSigns mOdds mPat mTyped mText mAt mFault mTests mTN mTS mTV mTB mRead mUns mUM mBA mBH mThere mTypes mHeld mItems mMoved mFind  B.exec B.bytes hml B.returns (atoms_spec (ws := wo_X11_fault) B.pre) (findClass_of_methodNamed B.named) B.notSynchronized (lv_entry [.ref (a 0)] (n := 1) (Nat.le_of_ble_eq_true rfl)) hK hP hD0.self (fun q h => Or.inr h) h
theorem qd_X11_fault : yX11_fault.cls = RX11 ∧ yX11_fault.cls ≠ "java/lang/invoke/MethodHandle" ∧ yX11_fault.cls ≠ "java/lang/invoke/VarHandle" ∧ (parseMethodDescriptor yX11_fault.desc).map (fun d => d.parameters.length) = some 0 := by decide +kernel
abbrev wo_X11_does : List Cond := .code yX11_does cX11_does 6 (some .boolean) :: wsL_law
set_option maxHeartbeats 4000000 in
set_option maxRecDepth 100000 in
theorem core_X11_does {N : Nat} (D : va_G) (k : Nat → ClassId) (a : Nat → Nat) (mSizes : Nat → Int32) (mSigns : Nat → Int32) (mOdds : Int32) (mPat : Int32) (mTyped : Int32) (mText : Nat → Int32) (mAt : Int32) (mFault : Int32) (mTests : Int32) (mTN : Nat → Int32) (mTS : Nat → Int32) (mTV : Nat → Int32) (mTB : Nat → Int32) (mRead : Int32) (mUns : Nat → Int32) (mUM : Int32) (mBA : Int32) (mBH : Int32) (mThere : Nat → Int32) (mTypes : Nat → Int32) (mHeld : Nat → Int32) (mItems : Nat → Int32) (mMoved : Nat → Int32) (mFind : Int32) (x1 : Int32) (x2 : Int32) {p : Program} {l : Launch} {e : Env} {s : State} {m : MethodId} {args : Array Value} {below : List Frame} {meth : Method} {c : Code} {ls : Array Slot} (hx : p.tables.exec = Jvm.exec) (hb : c.code = cX11_does) (hml : c.maxLocals = 6) (hr : meth.sig.returnType = some .boolean) (hts : ∀ w ∈ wo_X11_does, w.before args s = true) (hown : s.vm.findClass RX11 = some m.cls) (hlocks : meth.locks = false) (hl : lv_has ls 6 [(0, .ref (a 0)), (1, .int x1), (2, .int x2)]) (hK : va_K D vwCl (xTys k) s) (hP : va_P D vwCl (wM k a mSizes mSigns mOdds mPat mTyped mText mAt mFault mTests mTN mTS mTV mTB mRead mUns mUM mBA mBH mThere mTypes mHeld mItems mMoved mFind) s.heap) {o : Int32} (h : f_X11_does N x1 x2 mPat mTests mTN mTS mTV mTB = some o) : gRi p l e wo_X11_does 3 s m args below meth c o (F0 m 0 ls []) := by
  have hi11 := (fun w h => List.mem_cons_of_mem _ (inlX11 w h) : ∀ w ∈ wsX110, w ∈ wo_X11_does)
  have kf26 := hts _ (List.mem_cons_of_mem _ wm_77)
  have kf29 := hts _ (List.mem_cons_of_mem _ wm_78)
  have kf32 := hts _ (List.mem_cons_of_mem _ wm_79)
  have kf120 := hts _ (List.mem_cons_of_mem _ wm_421)
  have kf35 := hts _ (List.mem_cons_of_mem _ wm_80)
  unfold f_X11_does at h
  have L5 : ∀ (n5 : Nat) (x1 : Int32) (x2 : Int32) (x3 : Int32) (x4 : Int32) (ls : Array Slot) (hl : lv_has ls 6 [(0, .ref (a 0)), (1, .int x1), (2, .int x2), (3, .int x3), (4, .int x4)]) (h : f_X11_does_5 N n5 x1 x2 x3 x4 mPat mTests mTN mTS mTV mTB = some o), gRi p l e wo_X11_does 3 s m args below meth c o (F0 m 5 ls []) := by
    intro n5
    induction n5 with
    | zero => intro x1 x2 x3 x4 ls hl h; cases (show (none : Option (Int32)) = some o from h)
    | succ n5 ih5 =>
      have J133 : ∀ (x1 : Int32) (x2 : Int32) (x3 : Int32) (x4 : Int32) (ls : Array Slot) (hl : lv_has ls 6 [(0, .ref (a 0)), (1, .int x1), (2, .int x2), (3, .int x3), (4, .int x4)]) (h : f_X11_does_133 N (fun y0 y1 y2 y3 y4 y5 y6 y7 y8 y9 => f_X11_does_5 N n5 y0 y1 y2 y3 y4 y5 y6 y7 y8 y9) x1 x2 x3 x4 mPat mTests mTN mTS mTV mTB = some o), gRi p l e wo_X11_does 3 s m args below meth c o (F0 m 133 ls []) := by
        intro x1 x2 x3 x4 ls hl h
        unfold f_X11_does_133 at h
        refine lv_iinc (v := (x4 + 1)) (lv' := [(4, .int (x4 + 1)), (0, .ref (a 0)), (1, .int x1), (2, .int x2), (3, .int x3)]) hx hb dX11_does_133 hl (k := 4) rfl rfl (by decide) rfl (fun ls hl => ?_)
        refine lv_goto (tgt := 5) hx hb dX11_does_136 (by decide) ?_
        exact ih5 x1 x2 x3 (x4 + 1) ls (lv_sub hl [1, 2, 3, 4, 0] rfl) h
      have J132 : ∀ (x1 : Int32) (x2 : Int32) (x4 : Int32) (s0 : Int32) (ls : Array Slot) (hl : lv_has ls 6 [(0, .ref (a 0)), (1, .int x1), (2, .int x2), (4, .int x4)]) (h : f_X11_does_132 N (fun y0 y1 y2 y3 y4 y5 y6 y7 y8 y9 => f_X11_does_5 N n5 y0 y1 y2 y3 y4 y5 y6 y7 y8 y9) x1 x2 x4 s0 mPat mTests mTN mTS mTV mTB = some o), gRi p l e wo_X11_does 3 s m args below meth c o (F0 m 132 ls [.int s0]) := by
        intro x1 x2 x4 s0 ls hl h
        unfold f_X11_does_132 at h
        refine lv_istore_n (lv' := [(3, .int s0), (0, .ref (a 0)), (1, .int x1), (2, .int x2), (4, .int x4)]) hx hb dX11_does_132 rfl hl (by decide) rfl (fun ls hl => ?_)
        exact J133 x1 x2 s0 x4 ls (lv_sub hl [1, 2, 3, 0, 4] rfl) h
      have J32 : ∀ (x1 : Int32) (x2 : Int32) (x3 : Int32) (x4 : Int32) (ls : Array Slot) (hl : lv_has ls 6 [(0, .ref (a 0)), (1, .int x1), (2, .int x2), (3, .int x3), (4, .int x4)]) (h : f_X11_does_32 N (fun y0 y1 y2 y3 y4 y5 y6 y7 y8 y9 => f_X11_does_5 N n5 y0 y1 y2 y3 y4 y5 y6 y7 y8 y9) x1 x2 x3 x4 mPat mTests mTN mTS mTV mTB = some o), gRi p l e wo_X11_does 3 s m args below meth c o (F0 m 32 ls []) := by
        intro x1 x2 x3 x4 ls hl h
        unfold f_X11_does_32 at h
        refine lv_iload_n hx hb dX11_does_32 rfl (lv_at hl 3 rfl) ?_
        refine lv_if_eq (tgt := 133) hx hb dX11_does_33 (by decide) (fun c1 => ?_) (fun c1 => ?_)
        · replace h := (if_pos c1).symm.trans h
          exact J133 x1 x2 x3 x4 ls (lv_sub hl [0, 1, 2, 3, 4] rfl) h
        · replace h := (if_neg c1).symm.trans h
          refine lv_aload_n hx hb dX11_does_36 rfl (lv_at hl 0 rfl) ?_
          refine lv_iload_n hx hb dX11_does_37 rfl (lv_at hl 1 rfl) ?_
          refine lv_iload_n hx hb dX11_does_38 rfl (lv_at hl 2 rfl) ?_
          refine lv_aload_n hx hb dX11_does_39 rfl (lv_at hl 0 rfl) ?_
          refine va_get (D := D) (ci := 6) (v := .ref (a 4)) (C := RX11) (T := TX11) (N := 24) hx hb hts hi11 hown hK hP (0) (rfl) rfl 9 (by decide) kf26 (fun _ h9 => h9) rfl dX11_does_40 ?_
          refine lv_iload hx hb dX11_does_43 (lv_at hl 4 rfl) ?_
          obtain ⟨g2, h⟩ := gIn_some h
          refine va_iald hx hb hK hP (4) 0 (rfl) rfl g2 dX11_does_45 ?_
          obtain ⟨o3, eq4, h⟩ := bnd_some h
          refine kRiV (rest := []) (q0 := 0) ⟨hx, hb, hml, hown, hts⟩ (c_X11_numberOf l D k a mSizes mSigns mOdds mPat mTyped mText mAt mFault mTests mTN mTS mTV mTB mRead mUns mUM mBA mBH mThere mTypes mHeld mItems mMoved mFind x1 x2 (mTN x4.toNatClampNeg) eq4) (cwV 3 hts (gAV wm_249 wm_250 wm_251 wm_5 wm_252) rfl rfl rfl qd_X11_numberOf ⟨Nat.le_of_ble_eq_true rfl, Nat.le_of_ble_eq_true rfl⟩) hK hP (rfl) rfl rfl hl.1 rfl (Nat.le_of_ble_eq_true rfl) dX11_does_46 ⟨Nat.zero_le _, Nat.zero_le _⟩ ?_
          refine lv_istore (lv' := [(5, .int o3), (0, .ref (a 0)), (1, .int x1), (2, .int x2), (3, .int x3), (4, .int x4)]) hx hb dX11_does_49 hl (by decide) rfl (fun ls hl => ?_)
          refine lv_aload_n hx hb dX11_does_51 rfl (lv_at hl 1 rfl) ?_
          refine va_get (D := D) (ci := 6) (v := .ref (a 5)) (C := RX11) (T := TX11) (N := 24) hx hb hts hi11 hown hK hP (0) (rfl) rfl 10 (by decide) kf29 (fun _ h9 => h9) rfl dX11_does_52 ?_
          refine lv_iload hx hb dX11_does_55 (lv_at hl 5 rfl) ?_
          refine va_iald hx hb hK hP (5) 0 (rfl) rfl g2 dX11_does_57 ?_
          refine lv_bipush (v := 60) hx hb dX11_does_58 (by decide) ?_
          refine lv_icmp_ne (tgt := 83) hx hb dX11_does_60 (by decide) (fun c5 => ?_) (fun c5 => ?_)
          · replace h := (if_neg c5).symm.trans h
            refine lv_aload_n hx hb dX11_does_83 rfl (lv_at hl 1 rfl) ?_
            refine va_get (D := D) (ci := 6) (v := .ref (a 5)) (C := RX11) (T := TX11) (N := 24) hx hb hts hi11 hown hK hP (0) (rfl) rfl 10 (by decide) kf29 (fun _ h9 => h9) rfl dX11_does_84 ?_
            refine lv_iload hx hb dX11_does_87 (lv_at hl 5 rfl) ?_
            refine va_iald hx hb hK hP (5) 0 (rfl) rfl g2 dX11_does_89 ?_
            refine lv_bipush (v := 61) hx hb dX11_does_90 (by decide) ?_
            refine lv_icmp_ne (tgt := 115) hx hb dX11_does_92 (by decide) (fun c6 => ?_) (fun c6 => ?_)
            · replace h := (if_neg c6).symm.trans h
              refine lv_iload hx hb dX11_does_115 (lv_at hl 0 rfl) ?_
              refine lv_aload_n hx hb dX11_does_117 rfl (lv_at hl 1 rfl) ?_
              refine va_get (D := D) (ci := 6) (v := .ref (a 6)) (C := RX11) (T := TX11) (N := 24) hx hb hts hi11 hown hK hP (0) (rfl) rfl 11 (by decide) kf32 (fun _ h9 => h9) rfl dX11_does_118 ?_
              refine lv_iload hx hb dX11_does_121 (lv_at hl 5 rfl) ?_
              refine va_iald hx hb hK hP (6) 0 (rfl) rfl g2 dX11_does_123 ?_
              refine lv_icmp_le (tgt := 131) hx hb dX11_does_124 (by decide) (fun c7 => ?_) (fun c7 => ?_)
              · replace h := (if_pos c7).symm.trans h
                refine lv_iconst (v := 0) hx hb dX11_does_131 (by decide) ?_
                exact J132 x1 x2 x4 0 ls (lv_sub hl [1, 2, 3, 5] rfl) h
              · replace h := (if_neg c7).symm.trans h
                refine lv_iconst (v := 1) hx hb dX11_does_127 (by decide) ?_
                refine lv_goto (tgt := 132) hx hb dX11_does_128 (by decide) ?_
                exact J132 x1 x2 x4 1 ls (lv_sub hl [1, 2, 3, 5] rfl) h
            · replace h := (if_pos c6).symm.trans h
              refine lv_iload hx hb dX11_does_95 (lv_at hl 0 rfl) ?_
              refine lv_aload_n hx hb dX11_does_97 rfl (lv_at hl 1 rfl) ?_
              refine va_get (D := D) (ci := 6) (v := .ref (a 6)) (C := RX11) (T := TX11) (N := 24) hx hb hts hi11 hown hK hP (0) (rfl) rfl 11 (by decide) kf32 (fun _ h9 => h9) rfl dX11_does_98 ?_
              refine lv_iload hx hb dX11_does_101 (lv_at hl 5 rfl) ?_
              refine va_iald hx hb hK hP (6) 0 (rfl) rfl g2 dX11_does_103 ?_
              refine lv_icmp_ne (tgt := 111) hx hb dX11_does_104 (by decide) (fun c8 => ?_) (fun c8 => ?_)
              · replace h := (if_neg c8).symm.trans h
                refine lv_iconst (v := 0) hx hb dX11_does_111 (by decide) ?_
                refine lv_goto (tgt := 132) hx hb dX11_does_112 (by decide) ?_
                exact J132 x1 x2 x4 0 ls (lv_sub hl [1, 2, 3, 5] rfl) h
              · replace h := (if_pos c8).symm.trans h
                refine lv_iconst (v := 1) hx hb dX11_does_107 (by decide) ?_
                refine lv_goto (tgt := 132) hx hb dX11_does_108 (by decide) ?_
                exact J132 x1 x2 x4 1 ls (lv_sub hl [1, 2, 3, 5] rfl) h
          · replace h := (if_pos c5).symm.trans h
            refine lv_iload hx hb dX11_does_63 (lv_at hl 0 rfl) ?_
            refine lv_aload_n hx hb dX11_does_65 rfl (lv_at hl 1 rfl) ?_
            refine va_get (D := D) (ci := 6) (v := .ref (a 6)) (C := RX11) (T := TX11) (N := 24) hx hb hts hi11 hown hK hP (0) (rfl) rfl 11 (by decide) kf32 (fun _ h9 => h9) rfl dX11_does_66 ?_
            refine lv_iload hx hb dX11_does_69 (lv_at hl 5 rfl) ?_
            refine va_iald hx hb hK hP (6) 0 (rfl) rfl g2 dX11_does_71 ?_
            refine lv_icmp_ge (tgt := 79) hx hb dX11_does_72 (by decide) (fun c9 => ?_) (fun c9 => ?_)
            · replace h := (if_pos c9).symm.trans h
              refine lv_iconst (v := 0) hx hb dX11_does_79 (by decide) ?_
              refine lv_goto (tgt := 132) hx hb dX11_does_80 (by decide) ?_
              exact J132 x1 x2 x4 0 ls (lv_sub hl [1, 2, 3, 5] rfl) h
            · replace h := (if_neg c9).symm.trans h
              refine lv_iconst (v := 1) hx hb dX11_does_75 (by decide) ?_
              refine lv_goto (tgt := 132) hx hb dX11_does_76 (by decide) ?_
              exact J132 x1 x2 x4 1 ls (lv_sub hl [1, 2, 3, 5] rfl) h
      intro x1 x2 x3 x4 ls hl h
      rw [f_X11_does_5] at h
      refine lv_iload hx hb dX11_does_5 (lv_at hl 4 rfl) ?_
      refine lv_aload_n hx hb dX11_does_7 rfl (lv_at hl 0 rfl) ?_
      refine va_get (D := D) (ci := 6) (v := .int mTests) (C := RX11) (T := TX11) (N := 24) hx hb hts hi11 hown hK hP (0) (rfl) rfl 8 (by decide) kf120 (fun _ h9 => h9) rfl dX11_does_8 ?_
      refine lv_icmp_ge (tgt := 139) hx hb dX11_does_11 (by decide) (fun c10 => ?_) (fun c10 => ?_)
      · replace h := (if_pos c10).symm.trans h
        refine lv_iload_n hx hb dX11_does_139 rfl (lv_at hl 3 rfl) ?_
        obtain ⟨g11, h⟩ := gZ_some h
        exact W.zret (v := x3) hx hb hr g11 (fun t ht hW => ⟨_, rfl, Option.some.inj h, ht⟩) (fun q hq => by cases hq) dX11_does_140
      · replace h := (if_neg c10).symm.trans h
        refine lv_aload_n hx hb dX11_does_14 rfl (lv_at hl 0 rfl) ?_
        refine va_get (D := D) (ci := 6) (v := .ref (a 7)) (C := RX11) (T := TX11) (N := 24) hx hb hts hi11 hown hK hP (0) (rfl) rfl 12 (by decide) kf35 (fun _ h9 => h9) rfl dX11_does_15 ?_
        refine lv_iload hx hb dX11_does_18 (lv_at hl 4 rfl) ?_
        obtain ⟨g12, h⟩ := gIn_some h
        refine va_zald hx hb hK hP (7) 1 (rfl) rfl g12 dX11_does_20 ?_
        refine lv_if_eq (tgt := 32) hx hb dX11_does_21 (by decide) (fun c13 => ?_) (fun c13 => ?_)
        · replace h := (if_pos c13).symm.trans h
          exact J32 x1 x2 x3 x4 ls (lv_sub hl [0, 1, 2, 3, 4] rfl) h
        · replace h := (if_neg c13).symm.trans h
          refine lv_iload_n hx hb dX11_does_24 rfl (lv_at hl 3 rfl) ?_
          refine lv_if_eq (tgt := 30) hx hb dX11_does_25 (by decide) (fun c14 => ?_) (fun c14 => ?_)
          · replace h := (if_pos c14).symm.trans h
            refine lv_iconst (v := 1) hx hb dX11_does_30 (by decide) ?_
            refine lv_istore_n (lv' := [(3, .int 1), (0, .ref (a 0)), (1, .int x1), (2, .int x2), (4, .int x4)]) hx hb dX11_does_31 rfl hl (by decide) rfl (fun ls hl => ?_)
            exact J32 x1 x2 1 x4 ls (lv_sub hl [1, 2, 3, 0, 4] rfl) h
          · replace h := (if_neg c14).symm.trans h
            refine lv_iconst (v := 1) hx hb dX11_does_28 (by decide) ?_
            exact W.zret (v := 1) hx hb hr rfl (fun t ht hW => ⟨_, rfl, Option.some.inj h, ht⟩) (fun q hq => by cases hq) dX11_does_29
  refine lv_iconst (v := 0) hx hb dX11_does_0 (by decide) ?_
  refine lv_istore_n (lv' := [(3, .int 0), (0, .ref (a 0)), (1, .int x1), (2, .int x2)]) hx hb dX11_does_1 rfl hl (by decide) rfl (fun ls hl => ?_)
  refine lv_iconst (v := 0) hx hb dX11_does_2 (by decide) ?_
  refine lv_istore (lv' := [(4, .int 0), (3, .int 0), (0, .ref (a 0)), (1, .int x1), (2, .int x2)]) hx hb dX11_does_3 hl (by decide) rfl (fun ls hl => ?_)
  exact L5 N x1 x2 0 0 ls (lv_sub hl [2, 3, 4, 1, 0] rfl) h
set_option maxHeartbeats 4000000 in
set_option maxRecDepth 100000 in
theorem c_X11_does {N : Nat} (l : Launch) (D : va_G) (k : Nat → ClassId) (a : Nat → Nat) (mSizes : Nat → Int32) (mSigns : Nat → Int32) (mOdds : Int32) (mPat : Int32) (mTyped : Int32) (mText : Nat → Int32) (mAt : Int32) (mFault : Int32) (mTests : Int32) (mTN : Nat → Int32) (mTS : Nat → Int32) (mTV : Nat → Int32) (mTB : Nat → Int32) (mRead : Int32) (mUns : Nat → Int32) (mUM : Int32) (mBA : Int32) (mBH : Int32) (mThere : Nat → Int32) (mTypes : Nat → Int32) (mHeld : Nat → Int32) (mItems : Nat → Int32) (mMoved : Nat → Int32) (mFind : Int32) (x1 : Int32) (x2 : Int32) {o : Int32} (h : f_X11_does N x1 x2 mPat mTests mTN mTS mTV mTB = some o) : mRi l yX11_does wo_X11_does 3 D k [.ref (a 0), .int x1, .int x2] (wM k a mSizes mSigns mOdds mPat mTyped mText mAt mFault mTests mTN mTS mTV mTB mRead mUns mUM mBA mBH mThere mTypes mHeld mItems mMoved mFind) o := by
  refine Met.ofW (cc := cX11_does) (maxL := 6) (ret := some .boolean) (by decide) rfl ?_
  intro p e s m args below meth c s₁ B hml hv
  obtain ⟨rfl, hP, hK⟩ := hv
  rw [lg_entry_eq]
  exact core_X11_does D k a mSizes mSigns mOdds mPat mTyped mText mAt mFault mTests mTN mTS mTV mTB mRead mUns mUM mBA mBH mThere mTypes mHeld mItems mMoved mFind x1 x2 B.exec B.bytes hml B.returns (atoms_spec (ws := wo_X11_does) B.pre) (findClass_of_methodNamed B.named) B.notSynchronized (lv_entry [.ref (a 0), .int x1, .int x2] (n := 6) (Nat.le_of_ble_eq_true rfl)) hK hP h
theorem qd_X11_does : yX11_does.cls = RX11 ∧ yX11_does.cls ≠ "java/lang/invoke/MethodHandle" ∧ yX11_does.cls ≠ "java/lang/invoke/VarHandle" ∧ (parseMethodDescriptor yX11_does.desc).map (fun d => d.parameters.length) = some 2 := by decide +kernel
abbrev wo_X11_holds : List Cond := .code yX11_holds cX11_holds 2 (some .int) :: wsL_law
set_option maxHeartbeats 4000000 in
set_option maxRecDepth 100000 in
theorem core_X11_holds {N : Nat} (D : va_G) (k : Nat → ClassId) (a : Nat → Nat) (mSizes : Nat → Int32) (mSigns : Nat → Int32) (mOdds : Int32) (mPat : Int32) (mTyped : Int32) (mText : Nat → Int32) (mAt : Int32) (mFault : Int32) (mTests : Int32) (mTN : Nat → Int32) (mTS : Nat → Int32) (mTV : Nat → Int32) (mTB : Nat → Int32) (mRead : Int32) (mUns : Nat → Int32) (mUM : Int32) (mBA : Int32) (mBH : Int32) (mThere : Nat → Int32) (mTypes : Nat → Int32) (mHeld : Nat → Int32) (mItems : Nat → Int32) (mMoved : Nat → Int32) (mFind : Int32) (x1 : Int32) {p : Program} {l : Launch} {e : Env} {s : State} {m : MethodId} {args : Array Value} {below : List Frame} {meth : Method} {c : Code} {ls : Array Slot} (hx : p.tables.exec = Jvm.exec) (hb : c.code = cX11_holds) (hml : c.maxLocals = 2) (hr : meth.sig.returnType = some .int) (hts : ∀ w ∈ wo_X11_holds, w.before args s = true) (hown : s.vm.findClass RX11 = some m.cls) (hlocks : meth.locks = false) (hl : lv_has ls 2 [(0, .ref (a 0)), (1, .int x1)]) (hK : va_K D vwCl (xTys k) s) (hP : va_P D vwCl (wM k a mSizes mSigns mOdds mPat mTyped mText mAt mFault mTests mTN mTS mTV mTB mRead mUns mUM mBA mBH mThere mTypes mHeld mItems mMoved mFind) s.heap) {A : Nat → Prop} (hD : va_D A (wM k a mSizes mSigns mOdds mPat mTyped mText mAt mFault mTests mTN mTS mTV mTB mRead mUns mUM mBA mBH mThere mTypes mHeld mItems mMoved mFind)) (hA : ∀ q : Nat, s.heap.size ≤ q → A q) {o : Int32 × (Int32) × (Int32) × (Int32) × (Nat → Int32) × (Nat → Int32) × (Nat → Int32) × (Nat → Int32) × (Int32)} (h : f_X11_holds N x1 mSizes mSigns mPat mTyped mText mAt mFault mTests mTN mTS mTV mTB mRead = some o) : gQi p l e wo_X11_holds 4 s m args below meth c D k A o.1 (wM k a mSizes mSigns mOdds mPat mTyped mText o.2.1 o.2.2.1 o.2.2.2.1 o.2.2.2.2.1 o.2.2.2.2.2.1 o.2.2.2.2.2.2.1 o.2.2.2.2.2.2.2.1 o.2.2.2.2.2.2.2.2 mUns mUM mBA mBH mThere mTypes mHeld mItems mMoved mFind) s.heap [] (F0 m 0 ls []) := by
  have hi11 := (fun w h => List.mem_cons_of_mem _ (inlX11 w h) : ∀ w ∈ wsX110, w ∈ wo_X11_holds)
  have kf7 := hts _ (List.mem_cons_of_mem _ wm_72)
  unfold f_X11_holds at h
  have hS : va_S A s.heap s.heap [] := va_S.rf
  obtain ⟨H, hH⟩ : ∃ H : Heap, H = s.heap := ⟨_, rfl⟩
  obtain ⟨locs, hlc⟩ : ∃ locs : List Loc, locs = [] := ⟨_, rfl⟩
  have hS : va_S A s.heap H locs := by rw [hH, hlc]; exact va_S.rf
  have hP : va_P D vwCl (wM k a mSizes mSigns mOdds mPat mTyped mText mAt mFault mTests mTN mTS mTV mTB mRead mUns mUM mBA mBH mThere mTypes mHeld mItems mMoved mFind) H := by rw [hH]; exact hP
  suffices hGo : gQi p l e wo_X11_holds 4 s m args below meth c D k A o.1 (wM k a mSizes mSigns mOdds mPat mTyped mText o.2.1 o.2.2.1 o.2.2.2.1 o.2.2.2.2.1 o.2.2.2.2.2.1 o.2.2.2.2.2.2.1 o.2.2.2.2.2.2.2.1 o.2.2.2.2.2.2.2.2 mUns mUM mBA mBH mThere mTypes mHeld mItems mMoved mFind) H locs (F0 m 0 ls []) by rw [hH, hlc] at hGo; exact hGo
  refine lv_iload_n hx hb dX11_holds_0 rfl (lv_at hl 1 rfl) ?_
  obtain ⟨o1, eq2, h⟩ := bnd_some h
  refine kPi (rest := []) ⟨hx, hb, hml, hown, hts⟩ (c_X11_isRow l x1 eq2) (va_cwS 1 hts (gAS wm_117 wm_118 wm_5 wm_119) rfl rfl rfl qd_X11_isRow ⟨Nat.le_of_ble_eq_true rfl, Nat.le_of_ble_eq_true rfl⟩) rfl hl.1 rfl (Nat.le_of_ble_eq_true rfl) dX11_holds_1 ⟨Nat.zero_le _, Nat.zero_le _⟩ ?_
  refine lv_if_ne (tgt := 10) hx hb dX11_holds_4 (by decide) (fun c3 => ?_) (fun c3 => ?_)
  · replace h := (if_neg c3).symm.trans h
    refine lv_aload_n hx hb dX11_holds_10 rfl (lv_at hl 0 rfl) ?_
    refine lv_iload_n hx hb dX11_holds_11 rfl (lv_at hl 1 rfl) ?_
    obtain ⟨o4, eq5, h⟩ := bnd_some h
    refine kRiV (rest := []) (q0 := 0) ⟨hx, hb, hml, hown, hts⟩ (c_X11_isWhole l D k a mSizes mSigns mOdds mPat mTyped mText mAt mFault mTests mTN mTS mTV mTB mRead mUns mUM mBA mBH mThere mTypes mHeld mItems mMoved mFind x1 eq5) (cwV 1 hts (gAV wm_241 wm_242 wm_243 wm_5 wm_244) rfl rfl rfl qd_X11_isWhole ⟨Nat.le_of_ble_eq_true rfl, Nat.le_of_ble_eq_true rfl⟩) hK hP (rfl) rfl rfl hl.1 rfl (Nat.le_of_ble_eq_true rfl) dX11_holds_12 ⟨Nat.zero_le _, Nat.zero_le _⟩ ?_
    refine lv_if_eq (tgt := 26) hx hb dX11_holds_15 (by decide) (fun c6 => ?_) (fun c6 => ?_)
    · replace h := (if_pos c6).symm.trans h
      refine lv_bipush (v := (-3)) hx hb dX11_holds_26 (by decide) ?_
      have he := Option.some.inj h
      exact W.iret (v := (-3)) hx hb hr (fun t ht hW => ⟨⟨(-3), wM k a mSizes mSigns mOdds mPat mTyped mText mAt mFault mTests mTN mTS mTV mTB mRead mUns mUM mBA mBH mThere mTypes mHeld mItems mMoved mFind, rfl, ⟨(congrArg (fun z => z.1) he), (congrArg (fun z => wM k a mSizes mSigns mOdds mPat mTyped mText z.2.1 z.2.2.1 z.2.2.2.1 z.2.2.2.2.1 z.2.2.2.2.2.1 z.2.2.2.2.2.2.1 z.2.2.2.2.2.2.2.1 z.2.2.2.2.2.2.2.2 mUns mUM mBA mBH mThere mTypes mHeld mItems mMoved mFind) he)⟩, by rw [ht]; exact hP, va_K.moved hW.alike hK, hD⟩, hS.F ht⟩) hS.2.2 dX11_holds_28
    · replace h := (if_neg c6).symm.trans h
      refine lv_aload_n hx hb dX11_holds_18 rfl (lv_at hl 0 rfl) ?_
      obtain ⟨o7, eq8, h⟩ := bnd_some h
      refine kQiV (rest := []) (q0 := 0) ⟨hx, hb, hml, hown, hts⟩ (c_X11_faultNow l D k a mSizes mSigns mOdds mPat mTyped mText mAt mFault mTests mTN mTS mTV mTB mRead mUns mUM mBA mBH mThere mTypes mHeld mItems mMoved mFind  eq8) (cwV 0 hts (gAV wm_415 wm_416 wm_417 wm_5 wm_418) rfl rfl rfl qd_X11_faultNow ⟨Nat.le_of_ble_eq_true rfl, Nat.le_of_ble_eq_true rfl⟩) hK hP hD hS hA (rfl) rfl rfl hl.1 rfl (Nat.le_of_ble_eq_true rfl) dX11_holds_19 ⟨Nat.zero_le _, Nat.zero_le _⟩ (fun H locs hP hD hS => ?_)
      have hP : va_P D vwCl (wM k a mSizes mSigns mOdds mPat mTyped mText o7.2.1 o7.2.2.1 o7.2.2.2.1 o7.2.2.2.2.1 o7.2.2.2.2.2.1 o7.2.2.2.2.2.2.1 o7.2.2.2.2.2.2.2.1 o7.2.2.2.2.2.2.2.2 mUns mUM mBA mBH mThere mTypes mHeld mItems mMoved mFind) H := hP
      have hD : va_D A (wM k a mSizes mSigns mOdds mPat mTyped mText o7.2.1 o7.2.2.1 o7.2.2.2.1 o7.2.2.2.2.1 o7.2.2.2.2.2.1 o7.2.2.2.2.2.2.1 o7.2.2.2.2.2.2.2.1 o7.2.2.2.2.2.2.2.2 mUns mUM mBA mBH mThere mTypes mHeld mItems mMoved mFind) := hD
      refine lv_iconst (v := (-1)) hx hb dX11_holds_22 (by decide) ?_
      refine lv_icmp_eq (tgt := 29) hx hb dX11_holds_23 (by decide) (fun c9 => ?_) (fun c9 => ?_)
      · replace h := (if_pos c9).symm.trans h
        refine lv_aload_n hx hb dX11_holds_29 rfl (lv_at hl 0 rfl) ?_
        refine lv_aload_n hx hb dX11_holds_30 rfl (lv_at hl 0 rfl) ?_
        refine lv_iload_n hx hb dX11_holds_31 rfl (lv_at hl 1 rfl) ?_
        obtain ⟨o10, eq11, h⟩ := bnd_some h
        refine kRiV (rest := [.ref (a 0)]) (q0 := 0) ⟨hx, hb, hml, hown, hts⟩ (c_X11_bitsOf l D k a mSizes mSigns mOdds mPat mTyped mText o7.2.1 o7.2.2.1 o7.2.2.2.1 o7.2.2.2.2.1 o7.2.2.2.2.2.1 o7.2.2.2.2.2.2.1 o7.2.2.2.2.2.2.2.1 o7.2.2.2.2.2.2.2.2 mUns mUM mBA mBH mThere mTypes mHeld mItems mMoved mFind x1 eq11) (cwV 1 hts (gAV wm_245 wm_246 wm_247 wm_5 wm_248) rfl rfl rfl qd_X11_bitsOf ⟨Nat.le_of_ble_eq_true rfl, Nat.le_of_ble_eq_true rfl⟩) hK hP (rfl) rfl rfl hl.1 rfl (Nat.le_of_ble_eq_true rfl) dX11_holds_32 ⟨Nat.zero_le _, Nat.zero_le _⟩ ?_
        refine lv_aload_n hx hb dX11_holds_35 rfl (lv_at hl 0 rfl) ?_
        refine va_get (D := D) (ci := 6) (v := .ref (a 1)) (C := RX11) (T := TX11) (N := 24) hx hb hts hi11 hown hK hP (0) (rfl) rfl 0 (by decide) kf7 (fun _ h9 => h9) rfl dX11_holds_36 ?_
        refine lv_iload_n hx hb dX11_holds_39 rfl (lv_at hl 1 rfl) ?_
        obtain ⟨g12, h⟩ := gIn_some h
        refine va_iald hx hb hK hP (1) 0 (rfl) rfl g12 dX11_holds_40 ?_
        obtain ⟨o13, eq14, h⟩ := bnd_some h
        refine kRiV (rest := []) (q0 := 0) ⟨hx, hb, hml, hown, hts⟩ (c_X11_does l D k a mSizes mSigns mOdds mPat mTyped mText o7.2.1 o7.2.2.1 o7.2.2.2.1 o7.2.2.2.2.1 o7.2.2.2.2.2.1 o7.2.2.2.2.2.2.1 o7.2.2.2.2.2.2.2.1 o7.2.2.2.2.2.2.2.2 mUns mUM mBA mBH mThere mTypes mHeld mItems mMoved mFind o10 (mSizes x1.toNatClampNeg) eq14) (cwV 2 hts (gAV wm_455 wm_456 wm_457 wm_5 wm_458) rfl rfl rfl qd_X11_does ⟨Nat.le_of_ble_eq_true rfl, Nat.le_of_ble_eq_true rfl⟩) hK hP (rfl) rfl rfl hl.1 rfl (Nat.le_of_ble_eq_true rfl) dX11_holds_41 ⟨Nat.zero_le _, Nat.zero_le _⟩ ?_
        refine lv_if_eq (tgt := 51) hx hb dX11_holds_44 (by decide) (fun c15 => ?_) (fun c15 => ?_)
        · replace h := (if_pos c15).symm.trans h
          refine lv_iconst (v := 0) hx hb dX11_holds_51 (by decide) ?_
          have he := Option.some.inj h
          exact W.iret (v := 0) hx hb hr (fun t ht hW => ⟨⟨0, wM k a mSizes mSigns mOdds mPat mTyped mText o7.2.1 o7.2.2.1 o7.2.2.2.1 o7.2.2.2.2.1 o7.2.2.2.2.2.1 o7.2.2.2.2.2.2.1 o7.2.2.2.2.2.2.2.1 o7.2.2.2.2.2.2.2.2 mUns mUM mBA mBH mThere mTypes mHeld mItems mMoved mFind, rfl, ⟨(congrArg (fun z => z.1) he), (congrArg (fun z => wM k a mSizes mSigns mOdds mPat mTyped mText z.2.1 z.2.2.1 z.2.2.2.1 z.2.2.2.2.1 z.2.2.2.2.2.1 z.2.2.2.2.2.2.1 z.2.2.2.2.2.2.2.1 z.2.2.2.2.2.2.2.2 mUns mUM mBA mBH mThere mTypes mHeld mItems mMoved mFind) he)⟩, by rw [ht]; exact hP, va_K.moved hW.alike hK, hD⟩, hS.F ht⟩) hS.2.2 dX11_holds_52
        · replace h := (if_neg c15).symm.trans h
          refine lv_iconst (v := 1) hx hb dX11_holds_47 (by decide) ?_
          refine lv_goto (tgt := 52) hx hb dX11_holds_48 (by decide) ?_
          have he := Option.some.inj h
          exact W.iret (v := 1) hx hb hr (fun t ht hW => ⟨⟨1, wM k a mSizes mSigns mOdds mPat mTyped mText o7.2.1 o7.2.2.1 o7.2.2.2.1 o7.2.2.2.2.1 o7.2.2.2.2.2.1 o7.2.2.2.2.2.2.1 o7.2.2.2.2.2.2.2.1 o7.2.2.2.2.2.2.2.2 mUns mUM mBA mBH mThere mTypes mHeld mItems mMoved mFind, rfl, ⟨(congrArg (fun z => z.1) he), (congrArg (fun z => wM k a mSizes mSigns mOdds mPat mTyped mText z.2.1 z.2.2.1 z.2.2.2.1 z.2.2.2.2.1 z.2.2.2.2.2.1 z.2.2.2.2.2.2.1 z.2.2.2.2.2.2.2.1 z.2.2.2.2.2.2.2.2 mUns mUM mBA mBH mThere mTypes mHeld mItems mMoved mFind) he)⟩, by rw [ht]; exact hP, va_K.moved hW.alike hK, hD⟩, hS.F ht⟩) hS.2.2 dX11_holds_52
      · replace h := (if_neg c9).symm.trans h
        refine lv_bipush (v := (-3)) hx hb dX11_holds_26 (by decide) ?_
        have he := Option.some.inj h
        exact W.iret (v := (-3)) hx hb hr (fun t ht hW => ⟨⟨(-3), wM k a mSizes mSigns mOdds mPat mTyped mText o7.2.1 o7.2.2.1 o7.2.2.2.1 o7.2.2.2.2.1 o7.2.2.2.2.2.1 o7.2.2.2.2.2.2.1 o7.2.2.2.2.2.2.2.1 o7.2.2.2.2.2.2.2.2 mUns mUM mBA mBH mThere mTypes mHeld mItems mMoved mFind, rfl, ⟨(congrArg (fun z => z.1) he), (congrArg (fun z => wM k a mSizes mSigns mOdds mPat mTyped mText z.2.1 z.2.2.1 z.2.2.2.1 z.2.2.2.2.1 z.2.2.2.2.2.1 z.2.2.2.2.2.2.1 z.2.2.2.2.2.2.2.1 z.2.2.2.2.2.2.2.2 mUns mUM mBA mBH mThere mTypes mHeld mItems mMoved mFind) he)⟩, by rw [ht]; exact hP, va_K.moved hW.alike hK, hD⟩, hS.F ht⟩) hS.2.2 dX11_holds_28
  · replace h := (if_pos c3).symm.trans h
    refine lv_bipush (v := (-2)) hx hb dX11_holds_7 (by decide) ?_
    have he := Option.some.inj h
    exact W.iret (v := (-2)) hx hb hr (fun t ht hW => ⟨⟨(-2), wM k a mSizes mSigns mOdds mPat mTyped mText mAt mFault mTests mTN mTS mTV mTB mRead mUns mUM mBA mBH mThere mTypes mHeld mItems mMoved mFind, rfl, ⟨(congrArg (fun z => z.1) he), (congrArg (fun z => wM k a mSizes mSigns mOdds mPat mTyped mText z.2.1 z.2.2.1 z.2.2.2.1 z.2.2.2.2.1 z.2.2.2.2.2.1 z.2.2.2.2.2.2.1 z.2.2.2.2.2.2.2.1 z.2.2.2.2.2.2.2.2 mUns mUM mBA mBH mThere mTypes mHeld mItems mMoved mFind) he)⟩, by rw [ht]; exact hP, va_K.moved hW.alike hK, hD⟩, hS.F ht⟩) hS.2.2 dX11_holds_9
set_option maxHeartbeats 4000000 in
set_option maxRecDepth 100000 in
theorem c_X11_holds {N : Nat} (l : Launch) (D : va_G) (k : Nat → ClassId) (a : Nat → Nat) (mSizes : Nat → Int32) (mSigns : Nat → Int32) (mOdds : Int32) (mPat : Int32) (mTyped : Int32) (mText : Nat → Int32) (mAt : Int32) (mFault : Int32) (mTests : Int32) (mTN : Nat → Int32) (mTS : Nat → Int32) (mTV : Nat → Int32) (mTB : Nat → Int32) (mRead : Int32) (mUns : Nat → Int32) (mUM : Int32) (mBA : Int32) (mBH : Int32) (mThere : Nat → Int32) (mTypes : Nat → Int32) (mHeld : Nat → Int32) (mItems : Nat → Int32) (mMoved : Nat → Int32) (mFind : Int32) (x1 : Int32) {o : Int32 × (Int32) × (Int32) × (Int32) × (Nat → Int32) × (Nat → Int32) × (Nat → Int32) × (Nat → Int32) × (Int32)} (h : f_X11_holds N x1 mSizes mSigns mPat mTyped mText mAt mFault mTests mTN mTS mTV mTB mRead = some o) : mQi l yX11_holds wo_X11_holds 4 D k [.ref (a 0), .int x1] (wM k a mSizes mSigns mOdds mPat mTyped mText mAt mFault mTests mTN mTS mTV mTB mRead mUns mUM mBA mBH mThere mTypes mHeld mItems mMoved mFind) o.1 (wM k a mSizes mSigns mOdds mPat mTyped mText o.2.1 o.2.2.1 o.2.2.2.1 o.2.2.2.2.1 o.2.2.2.2.2.1 o.2.2.2.2.2.2.1 o.2.2.2.2.2.2.2.1 o.2.2.2.2.2.2.2.2 mUns mUM mBA mBH mThere mTypes mHeld mItems mMoved mFind) := by
  intro sz
  refine Met.ofW (cc := cX11_holds) (maxL := 2) (ret := some .int) (by decide) rfl ?_
  intro p e s m args below meth c s₁ B hml hv
  obtain ⟨rfl, hsz, hP, hK, hD0⟩ := hv
  subst hsz
  rw [lg_entry_eq]
  exact core_X11_holds D k a mSizes mSigns mOdds mPat mTyped mText mAt mFault mTests mTN mTS mTV mTB mRead mUns mUM mBA mBH mThere mTypes mHeld mItems mMoved mFind x1 B.exec B.bytes hml B.returns (atoms_spec (ws := wo_X11_holds) B.pre) (findClass_of_methodNamed B.named) B.notSynchronized (lv_entry [.ref (a 0), .int x1] (n := 2) (Nat.le_of_ble_eq_true rfl)) hK hP hD0.self (fun q h => Or.inr h) h
theorem qd_X11_holds : yX11_holds.cls = RX11 ∧ yX11_holds.cls ≠ "java/lang/invoke/MethodHandle" ∧ yX11_holds.cls ≠ "java/lang/invoke/VarHandle" ∧ (parseMethodDescriptor yX11_holds.desc).map (fun d => d.parameters.length) = some 1 := by decide +kernel
abbrev wo_X11_shownNow : List Cond := .code yX11_shownNow cX11_shownNow 5 (some .int) :: wsL_law
set_option maxHeartbeats 4000000 in
set_option maxRecDepth 100000 in
theorem core_X11_shownNow {N : Nat} (D : va_G) (k : Nat → ClassId) (a : Nat → Nat) (mSizes : Nat → Int32) (mSigns : Nat → Int32) (mOdds : Int32) (mPat : Int32) (mTyped : Int32) (mText : Nat → Int32) (mAt : Int32) (mFault : Int32) (mTests : Int32) (mTN : Nat → Int32) (mTS : Nat → Int32) (mTV : Nat → Int32) (mTB : Nat → Int32) (mRead : Int32) (mUns : Nat → Int32) (mUM : Int32) (mBA : Int32) (mBH : Int32) (mThere : Nat → Int32) (mTypes : Nat → Int32) (mHeld : Nat → Int32) (mItems : Nat → Int32) (mMoved : Nat → Int32) (mFind : Int32) (x1 : Int32) (x2 : Int32) {p : Program} {l : Launch} {e : Env} {s : State} {m : MethodId} {args : Array Value} {below : List Frame} {meth : Method} {c : Code} {ls : Array Slot} (hx : p.tables.exec = Jvm.exec) (hb : c.code = cX11_shownNow) (hml : c.maxLocals = 5) (hr : meth.sig.returnType = some .int) (hts : ∀ w ∈ wo_X11_shownNow, w.before args s = true) (hown : s.vm.findClass RX11 = some m.cls) (hlocks : meth.locks = false) (hl : lv_has ls 5 [(0, .ref (a 0)), (1, .int x1), (2, .int x2)]) (hK : va_K D vwCl (xTys k) s) (hP : va_P D vwCl (wM k a mSizes mSigns mOdds mPat mTyped mText mAt mFault mTests mTN mTS mTV mTB mRead mUns mUM mBA mBH mThere mTypes mHeld mItems mMoved mFind) s.heap) {A : Nat → Prop} (hD : va_D A (wM k a mSizes mSigns mOdds mPat mTyped mText mAt mFault mTests mTN mTS mTV mTB mRead mUns mUM mBA mBH mThere mTypes mHeld mItems mMoved mFind)) (hA : ∀ q : Nat, s.heap.size ≤ q → A q) {o : Int32 × (Int32) × (Int32) × (Int32) × (Nat → Int32) × (Nat → Int32) × (Nat → Int32) × (Nat → Int32) × (Int32)} (h : f_X11_shownNow N x1 x2 mPat mTyped mText mAt mFault mTests mTN mTS mTV mTB mRead = some o) : gQi p l e wo_X11_shownNow 4 s m args below meth c D k A o.1 (wM k a mSizes mSigns mOdds mPat mTyped mText o.2.1 o.2.2.1 o.2.2.2.1 o.2.2.2.2.1 o.2.2.2.2.2.1 o.2.2.2.2.2.2.1 o.2.2.2.2.2.2.2.1 o.2.2.2.2.2.2.2.2 mUns mUM mBA mBH mThere mTypes mHeld mItems mMoved mFind) s.heap [] (F0 m 0 ls []) := by
  unfold f_X11_shownNow at h
  have hS : va_S A s.heap s.heap [] := va_S.rf
  have L16 : ∀ (n16 : Nat) (x1 : Int32) (x2 : Int32) (x3 : Int32) (x4 : Int32) (mAt : Int32) (mFault : Int32) (mTests : Int32) (mTN : Nat → Int32) (mTS : Nat → Int32) (mTV : Nat → Int32) (mTB : Nat → Int32) (mRead : Int32) (ls : Array Slot) (H : Heap) (locs : List Loc) (hl : lv_has ls 5 [(0, .ref (a 0)), (1, .int x1), (2, .int x2), (3, .int x3), (4, .int x4)]) (hP : va_P D vwCl (wM k a mSizes mSigns mOdds mPat mTyped mText mAt mFault mTests mTN mTS mTV mTB mRead mUns mUM mBA mBH mThere mTypes mHeld mItems mMoved mFind) H) (hD : va_D A (wM k a mSizes mSigns mOdds mPat mTyped mText mAt mFault mTests mTN mTS mTV mTB mRead mUns mUM mBA mBH mThere mTypes mHeld mItems mMoved mFind)) (hS : va_S A s.heap H locs) (h : f_X11_shownNow_16 N n16 x1 x2 x3 x4 mPat mTyped mText mAt mFault mTests mTN mTS mTV mTB mRead = some o), gQi p l e wo_X11_shownNow 4 s m args below meth c D k A o.1 (wM k a mSizes mSigns mOdds mPat mTyped mText o.2.1 o.2.2.1 o.2.2.2.1 o.2.2.2.2.1 o.2.2.2.2.2.1 o.2.2.2.2.2.2.1 o.2.2.2.2.2.2.2.1 o.2.2.2.2.2.2.2.2 mUns mUM mBA mBH mThere mTypes mHeld mItems mMoved mFind) H locs (F0 m 16 ls []) := by
    intro n16
    induction n16 with
    | zero => intro x1 x2 x3 x4 mAt mFault mTests mTN mTS mTV mTB mRead ls H locs hl hP hD hS h; cases (show (none : Option (Int32 × (Int32) × (Int32) × (Int32) × (Nat → Int32) × (Nat → Int32) × (Nat → Int32) × (Nat → Int32) × (Int32))) = some o from h)
    | succ n16 ih16 =>
      have J54 : ∀ (x1 : Int32) (x2 : Int32) (x4 : Int32) (s0 : Int32) (s1 : Int32) (mAt : Int32) (mFault : Int32) (mTests : Int32) (mTN : Nat → Int32) (mTS : Nat → Int32) (mTV : Nat → Int32) (mTB : Nat → Int32) (mRead : Int32) (ls : Array Slot) (H : Heap) (locs : List Loc) (hl : lv_has ls 5 [(0, .ref (a 0)), (1, .int x1), (2, .int x2), (4, .int x4)]) (hP : va_P D vwCl (wM k a mSizes mSigns mOdds mPat mTyped mText mAt mFault mTests mTN mTS mTV mTB mRead mUns mUM mBA mBH mThere mTypes mHeld mItems mMoved mFind) H) (hD : va_D A (wM k a mSizes mSigns mOdds mPat mTyped mText mAt mFault mTests mTN mTS mTV mTB mRead mUns mUM mBA mBH mThere mTypes mHeld mItems mMoved mFind)) (hS : va_S A s.heap H locs) (h : f_X11_shownNow_54 N (fun y0 y1 y2 y3 y4 y5 y6 y7 y8 y9 y10 y11 y12 y13 y14 => f_X11_shownNow_16 N n16 y0 y1 y2 y3 y4 y5 y6 y7 y8 y9 y10 y11 y12 y13 y14) x1 x2 x4 s0 s1 mPat mTyped mText mAt mFault mTests mTN mTS mTV mTB mRead = some o), gQi p l e wo_X11_shownNow 4 s m args below meth c D k A o.1 (wM k a mSizes mSigns mOdds mPat mTyped mText o.2.1 o.2.2.1 o.2.2.2.1 o.2.2.2.2.1 o.2.2.2.2.2.1 o.2.2.2.2.2.2.1 o.2.2.2.2.2.2.2.1 o.2.2.2.2.2.2.2.2 mUns mUM mBA mBH mThere mTypes mHeld mItems mMoved mFind) H locs (F0 m 54 ls [.int s1, .int s0]) := by
        intro x1 x2 x4 s0 s1 mAt mFault mTests mTN mTS mTV mTB mRead ls H locs hl hP hD hS h
        unfold f_X11_shownNow_54 at h
        refine lv_iadd hx hb dX11_shownNow_54 ?_
        refine lv_istore_n (lv' := [(3, .int (s0 + s1)), (0, .ref (a 0)), (1, .int x1), (2, .int x2), (4, .int x4)]) hx hb dX11_shownNow_55 rfl hl (by decide) rfl (fun ls hl => ?_)
        refine lv_iinc (v := (x4 + 1)) (lv' := [(4, .int (x4 + 1)), (3, .int (s0 + s1)), (0, .ref (a 0)), (1, .int x1), (2, .int x2)]) hx hb dX11_shownNow_56 hl (k := 4) rfl rfl (by decide) rfl (fun ls hl => ?_)
        refine lv_goto (tgt := 16) hx hb dX11_shownNow_59 (by decide) ?_
        exact ih16 x1 x2 (s0 + s1) (x4 + 1) mAt mFault mTests mTN mTS mTV mTB mRead ls H locs (lv_sub hl [2, 3, 4, 1, 0] rfl) hP hD hS h
      have J53 : ∀ (x1 : Int32) (x2 : Int32) (x4 : Int32) (s0 : Int32) (mAt : Int32) (mFault : Int32) (mTests : Int32) (mTN : Nat → Int32) (mTS : Nat → Int32) (mTV : Nat → Int32) (mTB : Nat → Int32) (mRead : Int32) (ls : Array Slot) (H : Heap) (locs : List Loc) (hl : lv_has ls 5 [(0, .ref (a 0)), (1, .int x1), (2, .int x2), (4, .int x4)]) (hP : va_P D vwCl (wM k a mSizes mSigns mOdds mPat mTyped mText mAt mFault mTests mTN mTS mTV mTB mRead mUns mUM mBA mBH mThere mTypes mHeld mItems mMoved mFind) H) (hD : va_D A (wM k a mSizes mSigns mOdds mPat mTyped mText mAt mFault mTests mTN mTS mTV mTB mRead mUns mUM mBA mBH mThere mTypes mHeld mItems mMoved mFind)) (hS : va_S A s.heap H locs) (h : f_X11_shownNow_53 N (fun y0 y1 y2 y3 y4 y5 y6 y7 y8 y9 y10 y11 y12 y13 y14 => f_X11_shownNow_16 N n16 y0 y1 y2 y3 y4 y5 y6 y7 y8 y9 y10 y11 y12 y13 y14) x1 x2 x4 s0 mPat mTyped mText mAt mFault mTests mTN mTS mTV mTB mRead = some o), gQi p l e wo_X11_shownNow 4 s m args below meth c D k A o.1 (wM k a mSizes mSigns mOdds mPat mTyped mText o.2.1 o.2.2.1 o.2.2.2.1 o.2.2.2.2.1 o.2.2.2.2.2.1 o.2.2.2.2.2.2.1 o.2.2.2.2.2.2.2.1 o.2.2.2.2.2.2.2.2 mUns mUM mBA mBH mThere mTypes mHeld mItems mMoved mFind) H locs (F0 m 53 ls [.int s0]) := by
        intro x1 x2 x4 s0 mAt mFault mTests mTN mTS mTV mTB mRead ls H locs hl hP hD hS h
        unfold f_X11_shownNow_53 at h
        refine lv_iconst (v := 0) hx hb dX11_shownNow_53 (by decide) ?_
        exact J54 x1 x2 x4 s0 0 mAt mFault mTests mTN mTS mTV mTB mRead ls H locs (lv_sub hl [0, 1, 2, 3] rfl) hP hD hS h
      have J39 : ∀ (x1 : Int32) (x2 : Int32) (x4 : Int32) (s0 : Int32) (mAt : Int32) (mFault : Int32) (mTests : Int32) (mTN : Nat → Int32) (mTS : Nat → Int32) (mTV : Nat → Int32) (mTB : Nat → Int32) (mRead : Int32) (ls : Array Slot) (H : Heap) (locs : List Loc) (hl : lv_has ls 5 [(0, .ref (a 0)), (1, .int x1), (2, .int x2), (4, .int x4)]) (hP : va_P D vwCl (wM k a mSizes mSigns mOdds mPat mTyped mText mAt mFault mTests mTN mTS mTV mTB mRead mUns mUM mBA mBH mThere mTypes mHeld mItems mMoved mFind) H) (hD : va_D A (wM k a mSizes mSigns mOdds mPat mTyped mText mAt mFault mTests mTN mTS mTV mTB mRead mUns mUM mBA mBH mThere mTypes mHeld mItems mMoved mFind)) (hS : va_S A s.heap H locs) (h : f_X11_shownNow_39 N (fun y0 y1 y2 y3 y4 y5 y6 y7 y8 y9 y10 y11 y12 y13 y14 => f_X11_shownNow_16 N n16 y0 y1 y2 y3 y4 y5 y6 y7 y8 y9 y10 y11 y12 y13 y14) x1 x2 x4 s0 mPat mTyped mText mAt mFault mTests mTN mTS mTV mTB mRead = some o), gQi p l e wo_X11_shownNow 4 s m args below meth c D k A o.1 (wM k a mSizes mSigns mOdds mPat mTyped mText o.2.1 o.2.2.1 o.2.2.2.1 o.2.2.2.2.1 o.2.2.2.2.2.1 o.2.2.2.2.2.2.1 o.2.2.2.2.2.2.2.1 o.2.2.2.2.2.2.2.2 mUns mUM mBA mBH mThere mTypes mHeld mItems mMoved mFind) H locs (F0 m 39 ls [.int s0]) := by
        intro x1 x2 x4 s0 mAt mFault mTests mTN mTS mTV mTB mRead ls H locs hl hP hD hS h
        unfold f_X11_shownNow_39 at h
        refine lv_aload_n hx hb dX11_shownNow_39 rfl (lv_at hl 0 rfl) ?_
        refine lv_iload hx hb dX11_shownNow_40 (lv_at hl 3 rfl) ?_
        refine lv_iload_n hx hb dX11_shownNow_42 rfl (lv_at hl 1 rfl) ?_
        obtain ⟨o1, eq2, h⟩ := bnd_some h
        refine kRiV (rest := [.int s0]) (q0 := 0) ⟨hx, hb, hml, hown, hts⟩ (c_X11_does l D k a mSizes mSigns mOdds mPat mTyped mText mAt mFault mTests mTN mTS mTV mTB mRead mUns mUM mBA mBH mThere mTypes mHeld mItems mMoved mFind x4 x1 eq2) (cwV 2 hts (gAV wm_455 wm_456 wm_457 wm_5 wm_458) rfl rfl rfl qd_X11_does ⟨Nat.le_of_ble_eq_true rfl, Nat.le_of_ble_eq_true rfl⟩) hK hP (rfl) rfl rfl hl.1 rfl (Nat.le_of_ble_eq_true rfl) dX11_shownNow_43 ⟨Nat.zero_le _, Nat.zero_le _⟩ ?_
        refine lv_if_eq (tgt := 53) hx hb dX11_shownNow_46 (by decide) (fun c3 => ?_) (fun c3 => ?_)
        · replace h := (if_pos c3).symm.trans h
          exact J53 x1 x2 x4 s0 mAt mFault mTests mTN mTS mTV mTB mRead ls H locs (lv_sub hl [0, 1, 2, 3] rfl) hP hD hS h
        · replace h := (if_neg c3).symm.trans h
          refine lv_iconst (v := 1) hx hb dX11_shownNow_49 (by decide) ?_
          refine lv_goto (tgt := 54) hx hb dX11_shownNow_50 (by decide) ?_
          exact J54 x1 x2 x4 s0 1 mAt mFault mTests mTN mTS mTV mTB mRead ls H locs (lv_sub hl [0, 1, 2, 3] rfl) hP hD hS h
      intro x1 x2 x3 x4 mAt mFault mTests mTN mTS mTV mTB mRead ls H locs hl hP hD hS h
      rw [f_X11_shownNow_16] at h
      refine lv_iload hx hb dX11_shownNow_16 (lv_at hl 4 rfl) ?_
      refine lv_iconst (v := 1) hx hb dX11_shownNow_18 (by decide) ?_
      refine lv_iload_n hx hb dX11_shownNow_19 rfl (lv_at hl 1 rfl) ?_
      refine lv_ishl hx hb dX11_shownNow_20 ?_
      refine lv_icmp_ge (tgt := 62) hx hb dX11_shownNow_21 (by decide) (fun c4 => ?_) (fun c4 => ?_)
      · replace h := (if_pos c4).symm.trans h
        refine lv_iload_n hx hb dX11_shownNow_62 rfl (lv_at hl 3 rfl) ?_
        have he := Option.some.inj h
        exact W.iret (v := x3) hx hb hr (fun t ht hW => ⟨⟨x3, wM k a mSizes mSigns mOdds mPat mTyped mText mAt mFault mTests mTN mTS mTV mTB mRead mUns mUM mBA mBH mThere mTypes mHeld mItems mMoved mFind, rfl, ⟨(congrArg (fun z => z.1) he), (congrArg (fun z => wM k a mSizes mSigns mOdds mPat mTyped mText z.2.1 z.2.2.1 z.2.2.2.1 z.2.2.2.2.1 z.2.2.2.2.2.1 z.2.2.2.2.2.2.1 z.2.2.2.2.2.2.2.1 z.2.2.2.2.2.2.2.2 mUns mUM mBA mBH mThere mTypes mHeld mItems mMoved mFind) he)⟩, by rw [ht]; exact hP, va_K.moved hW.alike hK, hD⟩, hS.F ht⟩) hS.2.2 dX11_shownNow_63
      · replace h := (if_neg c4).symm.trans h
        refine lv_iload_n hx hb dX11_shownNow_24 rfl (lv_at hl 3 rfl) ?_
        refine lv_iload_n hx hb dX11_shownNow_25 rfl (lv_at hl 2 rfl) ?_
        refine lv_iconst (v := (-1)) hx hb dX11_shownNow_26 (by decide) ?_
        refine lv_icmp_eq (tgt := 39) hx hb dX11_shownNow_27 (by decide) (fun c5 => ?_) (fun c5 => ?_)
        · replace h := (if_pos c5).symm.trans h
          exact J39 x1 x2 x4 x3 mAt mFault mTests mTN mTS mTV mTB mRead ls H locs (lv_sub hl [0, 1, 2, 4] rfl) hP hD hS h
        · replace h := (if_neg c5).symm.trans h
          refine lv_iload hx hb dX11_shownNow_30 (lv_at hl 4 rfl) ?_
          obtain ⟨o6, eq7, h⟩ := bnd_some h
          refine kPi (rest := [.int x3]) ⟨hx, hb, hml, hown, hts⟩ (c_X11_ones l x4 eq7) (va_cwS 1 hts (gAS wm_253 wm_254 wm_5 wm_255) rfl rfl rfl qd_X11_ones ⟨Nat.le_of_ble_eq_true rfl, Nat.le_of_ble_eq_true rfl⟩) rfl hl.1 rfl (Nat.le_of_ble_eq_true rfl) dX11_shownNow_32 ⟨Nat.zero_le _, Nat.zero_le _⟩ ?_
          refine lv_iload_n hx hb dX11_shownNow_35 rfl (lv_at hl 2 rfl) ?_
          refine lv_icmp_ne (tgt := 53) hx hb dX11_shownNow_36 (by decide) (fun c8 => ?_) (fun c8 => ?_)
          · replace h := (if_neg c8).symm.trans h
            exact J53 x1 x2 x4 x3 mAt mFault mTests mTN mTS mTV mTB mRead ls H locs (lv_sub hl [0, 1, 2, 4] rfl) hP hD hS h
          · replace h := (if_pos c8).symm.trans h
            exact J39 x1 x2 x4 x3 mAt mFault mTests mTN mTS mTV mTB mRead ls H locs (lv_sub hl [0, 1, 2, 4] rfl) hP hD hS h
  obtain ⟨H, hH⟩ : ∃ H : Heap, H = s.heap := ⟨_, rfl⟩
  obtain ⟨locs, hlc⟩ : ∃ locs : List Loc, locs = [] := ⟨_, rfl⟩
  have hS : va_S A s.heap H locs := by rw [hH, hlc]; exact va_S.rf
  have hP : va_P D vwCl (wM k a mSizes mSigns mOdds mPat mTyped mText mAt mFault mTests mTN mTS mTV mTB mRead mUns mUM mBA mBH mThere mTypes mHeld mItems mMoved mFind) H := by rw [hH]; exact hP
  suffices hGo : gQi p l e wo_X11_shownNow 4 s m args below meth c D k A o.1 (wM k a mSizes mSigns mOdds mPat mTyped mText o.2.1 o.2.2.1 o.2.2.2.1 o.2.2.2.2.1 o.2.2.2.2.2.1 o.2.2.2.2.2.2.1 o.2.2.2.2.2.2.2.1 o.2.2.2.2.2.2.2.2 mUns mUM mBA mBH mThere mTypes mHeld mItems mMoved mFind) H locs (F0 m 0 ls []) by rw [hH, hlc] at hGo; exact hGo
  refine lv_aload_n hx hb dX11_shownNow_0 rfl (lv_at hl 0 rfl) ?_
  obtain ⟨o9, eq10, h⟩ := bnd_some h
  refine kQiV (rest := []) (q0 := 0) ⟨hx, hb, hml, hown, hts⟩ (c_X11_faultNow l D k a mSizes mSigns mOdds mPat mTyped mText mAt mFault mTests mTN mTS mTV mTB mRead mUns mUM mBA mBH mThere mTypes mHeld mItems mMoved mFind  eq10) (cwV 0 hts (gAV wm_415 wm_416 wm_417 wm_5 wm_418) rfl rfl rfl qd_X11_faultNow ⟨Nat.le_of_ble_eq_true rfl, Nat.le_of_ble_eq_true rfl⟩) hK hP hD hS hA (rfl) rfl rfl hl.1 rfl (Nat.le_of_ble_eq_true rfl) dX11_shownNow_1 ⟨Nat.zero_le _, Nat.zero_le _⟩ (fun H locs hP hD hS => ?_)
  have hP : va_P D vwCl (wM k a mSizes mSigns mOdds mPat mTyped mText o9.2.1 o9.2.2.1 o9.2.2.2.1 o9.2.2.2.2.1 o9.2.2.2.2.2.1 o9.2.2.2.2.2.2.1 o9.2.2.2.2.2.2.2.1 o9.2.2.2.2.2.2.2.2 mUns mUM mBA mBH mThere mTypes mHeld mItems mMoved mFind) H := hP
  have hD : va_D A (wM k a mSizes mSigns mOdds mPat mTyped mText o9.2.1 o9.2.2.1 o9.2.2.2.1 o9.2.2.2.2.1 o9.2.2.2.2.2.1 o9.2.2.2.2.2.2.1 o9.2.2.2.2.2.2.2.1 o9.2.2.2.2.2.2.2.2 mUns mUM mBA mBH mThere mTypes mHeld mItems mMoved mFind) := hD
  refine lv_iconst (v := (-1)) hx hb dX11_shownNow_4 (by decide) ?_
  refine lv_icmp_eq (tgt := 11) hx hb dX11_shownNow_5 (by decide) (fun c11 => ?_) (fun c11 => ?_)
  · replace h := (if_pos c11).symm.trans h
    refine lv_iconst (v := 0) hx hb dX11_shownNow_11 (by decide) ?_
    refine lv_istore_n (lv' := [(3, .int 0), (0, .ref (a 0)), (1, .int x1), (2, .int x2)]) hx hb dX11_shownNow_12 rfl hl (by decide) rfl (fun ls hl => ?_)
    refine lv_iconst (v := 0) hx hb dX11_shownNow_13 (by decide) ?_
    refine lv_istore (lv' := [(4, .int 0), (3, .int 0), (0, .ref (a 0)), (1, .int x1), (2, .int x2)]) hx hb dX11_shownNow_14 hl (by decide) rfl (fun ls hl => ?_)
    exact L16 N x1 x2 0 0 o9.2.1 o9.2.2.1 o9.2.2.2.1 o9.2.2.2.2.1 o9.2.2.2.2.2.1 o9.2.2.2.2.2.2.1 o9.2.2.2.2.2.2.2.1 o9.2.2.2.2.2.2.2.2 ls H locs (lv_sub hl [2, 3, 4, 1, 0] rfl) hP hD hS h
  · replace h := (if_neg c11).symm.trans h
    refine lv_bipush (v := (-3)) hx hb dX11_shownNow_8 (by decide) ?_
    have he := Option.some.inj h
    exact W.iret (v := (-3)) hx hb hr (fun t ht hW => ⟨⟨(-3), wM k a mSizes mSigns mOdds mPat mTyped mText o9.2.1 o9.2.2.1 o9.2.2.2.1 o9.2.2.2.2.1 o9.2.2.2.2.2.1 o9.2.2.2.2.2.2.1 o9.2.2.2.2.2.2.2.1 o9.2.2.2.2.2.2.2.2 mUns mUM mBA mBH mThere mTypes mHeld mItems mMoved mFind, rfl, ⟨(congrArg (fun z => z.1) he), (congrArg (fun z => wM k a mSizes mSigns mOdds mPat mTyped mText z.2.1 z.2.2.1 z.2.2.2.1 z.2.2.2.2.1 z.2.2.2.2.2.1 z.2.2.2.2.2.2.1 z.2.2.2.2.2.2.2.1 z.2.2.2.2.2.2.2.2 mUns mUM mBA mBH mThere mTypes mHeld mItems mMoved mFind) he)⟩, by rw [ht]; exact hP, va_K.moved hW.alike hK, hD⟩, hS.F ht⟩) hS.2.2 dX11_shownNow_10
set_option maxHeartbeats 4000000 in
set_option maxRecDepth 100000 in
theorem c_X11_shownNow {N : Nat} (l : Launch) (D : va_G) (k : Nat → ClassId) (a : Nat → Nat) (mSizes : Nat → Int32) (mSigns : Nat → Int32) (mOdds : Int32) (mPat : Int32) (mTyped : Int32) (mText : Nat → Int32) (mAt : Int32) (mFault : Int32) (mTests : Int32) (mTN : Nat → Int32) (mTS : Nat → Int32) (mTV : Nat → Int32) (mTB : Nat → Int32) (mRead : Int32) (mUns : Nat → Int32) (mUM : Int32) (mBA : Int32) (mBH : Int32) (mThere : Nat → Int32) (mTypes : Nat → Int32) (mHeld : Nat → Int32) (mItems : Nat → Int32) (mMoved : Nat → Int32) (mFind : Int32) (x1 : Int32) (x2 : Int32) {o : Int32 × (Int32) × (Int32) × (Int32) × (Nat → Int32) × (Nat → Int32) × (Nat → Int32) × (Nat → Int32) × (Int32)} (h : f_X11_shownNow N x1 x2 mPat mTyped mText mAt mFault mTests mTN mTS mTV mTB mRead = some o) : mQi l yX11_shownNow wo_X11_shownNow 4 D k [.ref (a 0), .int x1, .int x2] (wM k a mSizes mSigns mOdds mPat mTyped mText mAt mFault mTests mTN mTS mTV mTB mRead mUns mUM mBA mBH mThere mTypes mHeld mItems mMoved mFind) o.1 (wM k a mSizes mSigns mOdds mPat mTyped mText o.2.1 o.2.2.1 o.2.2.2.1 o.2.2.2.2.1 o.2.2.2.2.2.1 o.2.2.2.2.2.2.1 o.2.2.2.2.2.2.2.1 o.2.2.2.2.2.2.2.2 mUns mUM mBA mBH mThere mTypes mHeld mItems mMoved mFind) := by
  intro sz
  refine Met.ofW (cc := cX11_shownNow) (maxL := 5) (ret := some .int) (by decide) rfl ?_
  intro p e s m args below meth c s₁ B hml hv
  obtain ⟨rfl, hsz, hP, hK, hD0⟩ := hv
  subst hsz
  rw [lg_entry_eq]
  exact core_X11_shownNow D k a mSizes mSigns mOdds mPat mTyped mText mAt mFault mTests mTN mTS mTV mTB mRead mUns mUM mBA mBH mThere mTypes mHeld mItems mMoved mFind x1 x2 B.exec B.bytes hml B.returns (atoms_spec (ws := wo_X11_shownNow) B.pre) (findClass_of_methodNamed B.named) B.notSynchronized (lv_entry [.ref (a 0), .int x1, .int x2] (n := 5) (Nat.le_of_ble_eq_true rfl)) hK hP hD0.self (fun q h => Or.inr h) h
theorem qd_X11_shownNow : yX11_shownNow.cls = RX11 ∧ yX11_shownNow.cls ≠ "java/lang/invoke/MethodHandle" ∧ yX11_shownNow.cls ≠ "java/lang/invoke/VarHandle" ∧ (parseMethodDescriptor yX11_shownNow.desc).map (fun d => d.parameters.length) = some 2 := by decide +kernel
