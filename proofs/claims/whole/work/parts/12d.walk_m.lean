abbrev wo_X11_shown : List Cond := .code yX11_shown cX11_shown 3 (some .int) :: wsL_law
set_option maxHeartbeats 4000000 in
set_option maxRecDepth 100000 in
theorem core_X11_shown {N : Nat} (D : va_G) (k : Nat → ClassId) (a : Nat → Nat) (mSizes : Nat → Int32) (mSigns : Nat → Int32) (mOdds : Int32) (mPat : Int32) (mTyped : Int32) (mText : Nat → Int32) (mAt : Int32) (mFault : Int32) (mTests : Int32) (mTN : Nat → Int32) (mTS : Nat → Int32) (mTV : Nat → Int32) (mTB : Nat → Int32) (mRead : Int32) (mUns : Nat → Int32) (mUM : Int32) (mBA : Int32) (mBH : Int32) (mThere : Nat → Int32) (mTypes : Nat → Int32) (mHeld : Nat → Int32) (mItems : Nat → Int32) (mMoved : Nat → Int32) (mFind : Int32) (x1 : Int32) (x2 : Int32) {p : Program} {l : Launch} {e : Env} {s : State} {m : MethodId} {args : Array Value} {below : List Frame} {meth : Method} {c : Code} {ls : Array Slot} (hx : p.tables.exec = Jvm.exec) (hb : c.code = cX11_shown) (hml : c.maxLocals = 3) (hr : meth.sig.returnType = some .int) (hts : ∀ w ∈ wo_X11_shown, w.before args s = true) (hown : s.vm.findClass RX11 = some m.cls) (hlocks : meth.locks = false) (hl : lv_has ls 3 [(0, .ref (a 0)), (1, .int x1), (2, .int x2)]) (hK : va_K D vwCl (xTys k) s) (hP : va_P D vwCl (wM k a mSizes mSigns mOdds mPat mTyped mText mAt mFault mTests mTN mTS mTV mTB mRead mUns mUM mBA mBH mThere mTypes mHeld mItems mMoved mFind) s.heap) {A : Nat → Prop} (hD : va_D A (wM k a mSizes mSigns mOdds mPat mTyped mText mAt mFault mTests mTN mTS mTV mTB mRead mUns mUM mBA mBH mThere mTypes mHeld mItems mMoved mFind)) (hA : ∀ q : Nat, s.heap.size ≤ q → A q) {o : Int32 × (Int32) × (Int32) × (Int32) × (Nat → Int32) × (Nat → Int32) × (Nat → Int32) × (Nat → Int32) × (Int32)} (h : f_X11_shown N x1 x2 mPat mTyped mText mAt mFault mTests mTN mTS mTV mTB mRead = some o) : gQi p l e wo_X11_shown 5 s m args below meth c D k A o.1 (wM k a mSizes mSigns mOdds mPat mTyped mText o.2.1 o.2.2.1 o.2.2.2.1 o.2.2.2.2.1 o.2.2.2.2.2.1 o.2.2.2.2.2.2.1 o.2.2.2.2.2.2.2.1 o.2.2.2.2.2.2.2.2 mUns mUM mBA mBH mThere mTypes mHeld mItems mMoved mFind) s.heap [] (F0 m 0 ls []) := by
  unfold f_X11_shown at h
  have hS : va_S A s.heap s.heap [] := va_S.rf
  obtain ⟨H, hH⟩ : ∃ H : Heap, H = s.heap := ⟨_, rfl⟩
  obtain ⟨locs, hlc⟩ : ∃ locs : List Loc, locs = [] := ⟨_, rfl⟩
  have hS : va_S A s.heap H locs := by rw [hH, hlc]; exact va_S.rf
  have hP : va_P D vwCl (wM k a mSizes mSigns mOdds mPat mTyped mText mAt mFault mTests mTN mTS mTV mTB mRead mUns mUM mBA mBH mThere mTypes mHeld mItems mMoved mFind) H := by rw [hH]; exact hP
  suffices hGo : gQi p l e wo_X11_shown 5 s m args below meth c D k A o.1 (wM k a mSizes mSigns mOdds mPat mTyped mText o.2.1 o.2.2.1 o.2.2.2.1 o.2.2.2.2.1 o.2.2.2.2.2.1 o.2.2.2.2.2.2.1 o.2.2.2.2.2.2.2.1 o.2.2.2.2.2.2.2.2 mUns mUM mBA mBH mThere mTypes mHeld mItems mMoved mFind) H locs (F0 m 0 ls []) by rw [hH, hlc] at hGo; exact hGo
  refine lv_iload_n hx hb dX11_shown_0 rfl (lv_at hl 1 rfl) ?_
  refine lv_iconst (v := 0) hx hb dX11_shown_1 (by decide) ?_
  refine lv_bipush (v := 15) hx hb dX11_shown_2 (by decide) ?_
  obtain ⟨o1, eq2, h⟩ := bnd_some h
  refine kPi (rest := []) ⟨hx, hb, hml, hown, hts⟩ (c_X11_in l x1 0 15 eq2) (va_cwS 3 hts (gAS wm_120 wm_121 wm_5 wm_122) rfl rfl rfl qd_X11_in ⟨Nat.le_of_ble_eq_true rfl, Nat.le_of_ble_eq_true rfl⟩) rfl hl.1 rfl (Nat.le_of_ble_eq_true rfl) dX11_shown_4 ⟨Nat.zero_le _, Nat.zero_le _⟩ ?_
  refine lv_if_eq (tgt := 29) hx hb dX11_shown_7 (by decide) (fun c3 => ?_) (fun c3 => ?_)
  · replace h := (if_pos c3).symm.trans h
    refine lv_bipush (v := (-2)) hx hb dX11_shown_29 (by decide) ?_
    have he := Option.some.inj h
    exact W.iret (v := (-2)) hx hb hr (fun t ht hW => ⟨⟨(-2), wM k a mSizes mSigns mOdds mPat mTyped mText mAt mFault mTests mTN mTS mTV mTB mRead mUns mUM mBA mBH mThere mTypes mHeld mItems mMoved mFind, rfl, ⟨(congrArg (fun z => z.1) he), (congrArg (fun z => wM k a mSizes mSigns mOdds mPat mTyped mText z.2.1 z.2.2.1 z.2.2.2.1 z.2.2.2.2.1 z.2.2.2.2.2.1 z.2.2.2.2.2.2.1 z.2.2.2.2.2.2.2.1 z.2.2.2.2.2.2.2.2 mUns mUM mBA mBH mThere mTypes mHeld mItems mMoved mFind) he)⟩, by rw [ht]; exact hP, va_K.moved hW.alike hK, hD⟩, hS.F ht⟩) hS.2.2 dX11_shown_31
  · replace h := (if_neg c3).symm.trans h
    refine lv_iload_n hx hb dX11_shown_10 rfl (lv_at hl 2 rfl) ?_
    refine lv_iconst (v := (-1)) hx hb dX11_shown_11 (by decide) ?_
    refine lv_bipush (v := 15) hx hb dX11_shown_12 (by decide) ?_
    obtain ⟨o4, eq5, h⟩ := bnd_some h
    refine kPi (rest := []) ⟨hx, hb, hml, hown, hts⟩ (c_X11_in l x2 (-1) 15 eq5) (va_cwS 3 hts (gAS wm_120 wm_121 wm_5 wm_122) rfl rfl rfl qd_X11_in ⟨Nat.le_of_ble_eq_true rfl, Nat.le_of_ble_eq_true rfl⟩) rfl hl.1 rfl (Nat.le_of_ble_eq_true rfl) dX11_shown_14 ⟨Nat.zero_le _, Nat.zero_le _⟩ ?_
    refine lv_if_eq (tgt := 29) hx hb dX11_shown_17 (by decide) (fun c6 => ?_) (fun c6 => ?_)
    · replace h := (if_pos c6).symm.trans h
      refine lv_bipush (v := (-2)) hx hb dX11_shown_29 (by decide) ?_
      have he := Option.some.inj h
      exact W.iret (v := (-2)) hx hb hr (fun t ht hW => ⟨⟨(-2), wM k a mSizes mSigns mOdds mPat mTyped mText mAt mFault mTests mTN mTS mTV mTB mRead mUns mUM mBA mBH mThere mTypes mHeld mItems mMoved mFind, rfl, ⟨(congrArg (fun z => z.1) he), (congrArg (fun z => wM k a mSizes mSigns mOdds mPat mTyped mText z.2.1 z.2.2.1 z.2.2.2.1 z.2.2.2.2.1 z.2.2.2.2.2.1 z.2.2.2.2.2.2.1 z.2.2.2.2.2.2.2.1 z.2.2.2.2.2.2.2.2 mUns mUM mBA mBH mThere mTypes mHeld mItems mMoved mFind) he)⟩, by rw [ht]; exact hP, va_K.moved hW.alike hK, hD⟩, hS.F ht⟩) hS.2.2 dX11_shown_31
    · replace h := (if_neg c6).symm.trans h
      refine lv_aload_n hx hb dX11_shown_20 rfl (lv_at hl 0 rfl) ?_
      refine lv_iload_n hx hb dX11_shown_21 rfl (lv_at hl 1 rfl) ?_
      refine lv_iload_n hx hb dX11_shown_22 rfl (lv_at hl 2 rfl) ?_
      obtain ⟨o7, eq8, h⟩ := bnd_some h
      refine kQiV (rest := []) (q0 := 0) ⟨hx, hb, hml, hown, hts⟩ (c_X11_shownNow l D k a mSizes mSigns mOdds mPat mTyped mText mAt mFault mTests mTN mTS mTV mTB mRead mUns mUM mBA mBH mThere mTypes mHeld mItems mMoved mFind x1 x2 eq8) (cwV 2 hts (gAV wm_481 wm_482 wm_483 wm_5 wm_484) rfl rfl rfl qd_X11_shownNow ⟨Nat.le_of_ble_eq_true rfl, Nat.le_of_ble_eq_true rfl⟩) hK hP hD hS hA (rfl) rfl rfl hl.1 rfl (Nat.le_of_ble_eq_true rfl) dX11_shown_23 ⟨Nat.zero_le _, Nat.zero_le _⟩ (fun H locs hP hD hS => ?_)
      have hP : va_P D vwCl (wM k a mSizes mSigns mOdds mPat mTyped mText o7.2.1 o7.2.2.1 o7.2.2.2.1 o7.2.2.2.2.1 o7.2.2.2.2.2.1 o7.2.2.2.2.2.2.1 o7.2.2.2.2.2.2.2.1 o7.2.2.2.2.2.2.2.2 mUns mUM mBA mBH mThere mTypes mHeld mItems mMoved mFind) H := hP
      have hD : va_D A (wM k a mSizes mSigns mOdds mPat mTyped mText o7.2.1 o7.2.2.1 o7.2.2.2.1 o7.2.2.2.2.1 o7.2.2.2.2.2.1 o7.2.2.2.2.2.2.1 o7.2.2.2.2.2.2.2.1 o7.2.2.2.2.2.2.2.2 mUns mUM mBA mBH mThere mTypes mHeld mItems mMoved mFind) := hD
      refine lv_goto (tgt := 31) hx hb dX11_shown_26 (by decide) ?_
      have he := Option.some.inj h
      exact W.iret (v := o7.1) hx hb hr (fun t ht hW => ⟨⟨o7.1, wM k a mSizes mSigns mOdds mPat mTyped mText o7.2.1 o7.2.2.1 o7.2.2.2.1 o7.2.2.2.2.1 o7.2.2.2.2.2.1 o7.2.2.2.2.2.2.1 o7.2.2.2.2.2.2.2.1 o7.2.2.2.2.2.2.2.2 mUns mUM mBA mBH mThere mTypes mHeld mItems mMoved mFind, rfl, ⟨(congrArg (fun z => z.1) he), (congrArg (fun z => wM k a mSizes mSigns mOdds mPat mTyped mText z.2.1 z.2.2.1 z.2.2.2.1 z.2.2.2.2.1 z.2.2.2.2.2.1 z.2.2.2.2.2.2.1 z.2.2.2.2.2.2.2.1 z.2.2.2.2.2.2.2.2 mUns mUM mBA mBH mThere mTypes mHeld mItems mMoved mFind) he)⟩, by rw [ht]; exact hP, va_K.moved hW.alike hK, hD⟩, hS.F ht⟩) hS.2.2 dX11_shown_31
set_option maxHeartbeats 4000000 in
set_option maxRecDepth 100000 in
theorem c_X11_shown {N : Nat} (l : Launch) (D : va_G) (k : Nat → ClassId) (a : Nat → Nat) (mSizes : Nat → Int32) (mSigns : Nat → Int32) (mOdds : Int32) (mPat : Int32) (mTyped : Int32) (mText : Nat → Int32) (mAt : Int32) (mFault : Int32) (mTests : Int32) (mTN : Nat → Int32) (mTS : Nat → Int32) (mTV : Nat → Int32) (mTB : Nat → Int32) (mRead : Int32) (mUns : Nat → Int32) (mUM : Int32) (mBA : Int32) (mBH : Int32) (mThere : Nat → Int32) (mTypes : Nat → Int32) (mHeld : Nat → Int32) (mItems : Nat → Int32) (mMoved : Nat → Int32) (mFind : Int32) (x1 : Int32) (x2 : Int32) {o : Int32 × (Int32) × (Int32) × (Int32) × (Nat → Int32) × (Nat → Int32) × (Nat → Int32) × (Nat → Int32) × (Int32)} (h : f_X11_shown N x1 x2 mPat mTyped mText mAt mFault mTests mTN mTS mTV mTB mRead = some o) : mQi l yX11_shown wo_X11_shown 5 D k [.ref (a 0), .int x1, .int x2] (wM k a mSizes mSigns mOdds mPat mTyped mText mAt mFault mTests mTN mTS mTV mTB mRead mUns mUM mBA mBH mThere mTypes mHeld mItems mMoved mFind) o.1 (wM k a mSizes mSigns mOdds mPat mTyped mText o.2.1 o.2.2.1 o.2.2.2.1 o.2.2.2.2.1 o.2.2.2.2.2.1 o.2.2.2.2.2.2.1 o.2.2.2.2.2.2.2.1 o.2.2.2.2.2.2.2.2 mUns mUM mBA mBH mThere mTypes mHeld mItems mMoved mFind) := by
  intro sz
  refine Met.ofW (cc := cX11_shown) (maxL := 3) (ret := some .int) (by decide) rfl ?_
  intro p e s m args below meth c s₁ B hml hv
  obtain ⟨rfl, hsz, hP, hK, hD0⟩ := hv
  subst hsz
  rw [lg_entry_eq]
  exact core_X11_shown D k a mSizes mSigns mOdds mPat mTyped mText mAt mFault mTests mTN mTS mTV mTB mRead mUns mUM mBA mBH mThere mTypes mHeld mItems mMoved mFind x1 x2 B.exec B.bytes hml B.returns (atoms_spec (ws := wo_X11_shown) B.pre) (findClass_of_methodNamed B.named) B.notSynchronized (lv_entry [.ref (a 0), .int x1, .int x2] (n := 3) (Nat.le_of_ble_eq_true rfl)) hK hP hD0.self (fun q h => Or.inr h) h
theorem qd_X11_shown : yX11_shown.cls = RX11 ∧ yX11_shown.cls ≠ "java/lang/invoke/MethodHandle" ∧ yX11_shown.cls ≠ "java/lang/invoke/VarHandle" ∧ (parseMethodDescriptor yX11_shown.desc).map (fun d => d.parameters.length) = some 2 := by decide +kernel
abbrev wo_X11_nth : List Cond := .code yX11_nth cX11_nth 5 (some .int) :: wsL_law
set_option maxHeartbeats 4000000 in
set_option maxRecDepth 100000 in
theorem core_X11_nth {N : Nat} (D : va_G) (k : Nat → ClassId) (a : Nat → Nat) (mSizes : Nat → Int32) (mSigns : Nat → Int32) (mOdds : Int32) (mPat : Int32) (mTyped : Int32) (mText : Nat → Int32) (mAt : Int32) (mFault : Int32) (mTests : Int32) (mTN : Nat → Int32) (mTS : Nat → Int32) (mTV : Nat → Int32) (mTB : Nat → Int32) (mRead : Int32) (mUns : Nat → Int32) (mUM : Int32) (mBA : Int32) (mBH : Int32) (mThere : Nat → Int32) (mTypes : Nat → Int32) (mHeld : Nat → Int32) (mItems : Nat → Int32) (mMoved : Nat → Int32) (mFind : Int32) (x1 : Int32) (x2 : Int32) {p : Program} {l : Launch} {e : Env} {s : State} {m : MethodId} {args : Array Value} {below : List Frame} {meth : Method} {c : Code} {ls : Array Slot} (hx : p.tables.exec = Jvm.exec) (hb : c.code = cX11_nth) (hml : c.maxLocals = 5) (hr : meth.sig.returnType = some .int) (hts : ∀ w ∈ wo_X11_nth, w.before args s = true) (hown : s.vm.findClass RX11 = some m.cls) (hlocks : meth.locks = false) (hl : lv_has ls 5 [(0, .ref (a 0)), (1, .int x1), (2, .int x2)]) (hK : va_K D vwCl (xTys k) s) (hP : va_P D vwCl (wM k a mSizes mSigns mOdds mPat mTyped mText mAt mFault mTests mTN mTS mTV mTB mRead mUns mUM mBA mBH mThere mTypes mHeld mItems mMoved mFind) s.heap) {A : Nat → Prop} (hD : va_D A (wM k a mSizes mSigns mOdds mPat mTyped mText mAt mFault mTests mTN mTS mTV mTB mRead mUns mUM mBA mBH mThere mTypes mHeld mItems mMoved mFind)) (hA : ∀ q : Nat, s.heap.size ≤ q → A q) {o : Int32 × (Int32) × (Int32) × (Int32) × (Nat → Int32) × (Nat → Int32) × (Nat → Int32) × (Nat → Int32) × (Int32)} (h : f_X11_nth N x1 x2 mPat mTyped mText mAt mFault mTests mTN mTS mTV mTB mRead = some o) : gQi p l e wo_X11_nth 4 s m args below meth c D k A o.1 (wM k a mSizes mSigns mOdds mPat mTyped mText o.2.1 o.2.2.1 o.2.2.2.1 o.2.2.2.2.1 o.2.2.2.2.2.1 o.2.2.2.2.2.2.1 o.2.2.2.2.2.2.2.1 o.2.2.2.2.2.2.2.2 mUns mUM mBA mBH mThere mTypes mHeld mItems mMoved mFind) s.heap [] (F0 m 0 ls []) := by
  unfold f_X11_nth at h
  have hS : va_S A s.heap s.heap [] := va_S.rf
  have L33 : ∀ (n33 : Nat) (x1 : Int32) (x3 : Int32) (x4 : Int32) (mAt : Int32) (mFault : Int32) (mTests : Int32) (mTN : Nat → Int32) (mTS : Nat → Int32) (mTV : Nat → Int32) (mTB : Nat → Int32) (mRead : Int32) (ls : Array Slot) (H : Heap) (locs : List Loc) (hl : lv_has ls 5 [(0, .ref (a 0)), (1, .int x1), (3, .int x3), (4, .int x4)]) (hP : va_P D vwCl (wM k a mSizes mSigns mOdds mPat mTyped mText mAt mFault mTests mTN mTS mTV mTB mRead mUns mUM mBA mBH mThere mTypes mHeld mItems mMoved mFind) H) (hD : va_D A (wM k a mSizes mSigns mOdds mPat mTyped mText mAt mFault mTests mTN mTS mTV mTB mRead mUns mUM mBA mBH mThere mTypes mHeld mItems mMoved mFind)) (hS : va_S A s.heap H locs) (h : f_X11_nth_33 N n33 x1 x3 x4 mPat mTyped mText mAt mFault mTests mTN mTS mTV mTB mRead = some o), gQi p l e wo_X11_nth 4 s m args below meth c D k A o.1 (wM k a mSizes mSigns mOdds mPat mTyped mText o.2.1 o.2.2.1 o.2.2.2.1 o.2.2.2.2.1 o.2.2.2.2.2.1 o.2.2.2.2.2.2.1 o.2.2.2.2.2.2.2.1 o.2.2.2.2.2.2.2.2 mUns mUM mBA mBH mThere mTypes mHeld mItems mMoved mFind) H locs (F0 m 33 ls []) := by
    intro n33
    induction n33 with
    | zero => intro x1 x3 x4 mAt mFault mTests mTN mTS mTV mTB mRead ls H locs hl hP hD hS h; cases (show (none : Option (Int32 × (Int32) × (Int32) × (Int32) × (Nat → Int32) × (Nat → Int32) × (Nat → Int32) × (Nat → Int32) × (Int32))) = some o from h)
    | succ n33 ih33 =>
      have J57 : ∀ (x1 : Int32) (x4 : Int32) (s0 : Int32) (s1 : Int32) (mAt : Int32) (mFault : Int32) (mTests : Int32) (mTN : Nat → Int32) (mTS : Nat → Int32) (mTV : Nat → Int32) (mTB : Nat → Int32) (mRead : Int32) (ls : Array Slot) (H : Heap) (locs : List Loc) (hl : lv_has ls 5 [(0, .ref (a 0)), (1, .int x1), (4, .int x4)]) (hP : va_P D vwCl (wM k a mSizes mSigns mOdds mPat mTyped mText mAt mFault mTests mTN mTS mTV mTB mRead mUns mUM mBA mBH mThere mTypes mHeld mItems mMoved mFind) H) (hD : va_D A (wM k a mSizes mSigns mOdds mPat mTyped mText mAt mFault mTests mTN mTS mTV mTB mRead mUns mUM mBA mBH mThere mTypes mHeld mItems mMoved mFind)) (hS : va_S A s.heap H locs) (h : f_X11_nth_57 N (fun y0 y1 y2 y3 y4 y5 y6 y7 y8 y9 y10 y11 y12 y13 => f_X11_nth_33 N n33 y0 y1 y2 y3 y4 y5 y6 y7 y8 y9 y10 y11 y12 y13) x1 x4 s0 s1 mPat mTyped mText mAt mFault mTests mTN mTS mTV mTB mRead = some o), gQi p l e wo_X11_nth 4 s m args below meth c D k A o.1 (wM k a mSizes mSigns mOdds mPat mTyped mText o.2.1 o.2.2.1 o.2.2.2.1 o.2.2.2.2.1 o.2.2.2.2.2.1 o.2.2.2.2.2.2.1 o.2.2.2.2.2.2.2.1 o.2.2.2.2.2.2.2.2 mUns mUM mBA mBH mThere mTypes mHeld mItems mMoved mFind) H locs (F0 m 57 ls [.int s1, .int s0]) := by
        intro x1 x4 s0 s1 mAt mFault mTests mTN mTS mTV mTB mRead ls H locs hl hP hD hS h
        unfold f_X11_nth_57 at h
        refine lv_isub hx hb dX11_nth_57 ?_
        refine lv_istore_n (lv' := [(3, .int (s0 - s1)), (0, .ref (a 0)), (1, .int x1), (4, .int x4)]) hx hb dX11_nth_58 rfl hl (by decide) rfl (fun ls hl => ?_)
        refine lv_iload_n hx hb dX11_nth_59 rfl (lv_at hl 0 rfl) ?_
        refine lv_if_ge (tgt := 70) hx hb dX11_nth_60 (by decide) (fun c1 => ?_) (fun c1 => ?_)
        · replace h := (if_pos c1).symm.trans h
          refine lv_iinc (v := (x4 + 1)) (lv' := [(4, .int (x4 + 1)), (3, .int (s0 - s1)), (0, .ref (a 0)), (1, .int x1)]) hx hb dX11_nth_70 hl (k := 3) rfl rfl (by decide) rfl (fun ls hl => ?_)
          refine lv_goto (tgt := 33) hx hb dX11_nth_73 (by decide) ?_
          exact ih33 x1 (s0 - s1) (x4 + 1) mAt mFault mTests mTN mTS mTV mTB mRead ls H locs (lv_sub hl [2, 3, 1, 0] rfl) hP hD hS h
        · replace h := (if_neg c1).symm.trans h
          refine lv_iconst (v := 1) hx hb dX11_nth_63 (by decide) ?_
          refine lv_iload_n hx hb dX11_nth_64 rfl (lv_at hl 2 rfl) ?_
          refine lv_ishl hx hb dX11_nth_65 ?_
          refine lv_iload hx hb dX11_nth_66 (lv_at hl 3 rfl) ?_
          refine lv_iadd hx hb dX11_nth_68 ?_
          have he := Option.some.inj h
          exact W.iret (v := (((1 : Int32) <<< (x1 &&& 31)) + x4)) hx hb hr (fun t ht hW => ⟨⟨(((1 : Int32) <<< (x1 &&& 31)) + x4), wM k a mSizes mSigns mOdds mPat mTyped mText mAt mFault mTests mTN mTS mTV mTB mRead mUns mUM mBA mBH mThere mTypes mHeld mItems mMoved mFind, rfl, ⟨(congrArg (fun z => z.1) he), (congrArg (fun z => wM k a mSizes mSigns mOdds mPat mTyped mText z.2.1 z.2.2.1 z.2.2.2.1 z.2.2.2.2.1 z.2.2.2.2.2.1 z.2.2.2.2.2.2.1 z.2.2.2.2.2.2.2.1 z.2.2.2.2.2.2.2.2 mUns mUM mBA mBH mThere mTypes mHeld mItems mMoved mFind) he)⟩, by rw [ht]; exact hP, va_K.moved hW.alike hK, hD⟩, hS.F ht⟩) hS.2.2 dX11_nth_69
      intro x1 x3 x4 mAt mFault mTests mTN mTS mTV mTB mRead ls H locs hl hP hD hS h
      rw [f_X11_nth_33] at h
      refine lv_iload hx hb dX11_nth_33 (lv_at hl 3 rfl) ?_
      refine lv_iconst (v := 1) hx hb dX11_nth_35 (by decide) ?_
      refine lv_iload_n hx hb dX11_nth_36 rfl (lv_at hl 1 rfl) ?_
      refine lv_ishl hx hb dX11_nth_37 ?_
      refine lv_icmp_ge (tgt := 76) hx hb dX11_nth_38 (by decide) (fun c2 => ?_) (fun c2 => ?_)
      · replace h := (if_pos c2).symm.trans h
        refine lv_iconst (v := (-1)) hx hb dX11_nth_76 (by decide) ?_
        have he := Option.some.inj h
        exact W.iret (v := (-1)) hx hb hr (fun t ht hW => ⟨⟨(-1), wM k a mSizes mSigns mOdds mPat mTyped mText mAt mFault mTests mTN mTS mTV mTB mRead mUns mUM mBA mBH mThere mTypes mHeld mItems mMoved mFind, rfl, ⟨(congrArg (fun z => z.1) he), (congrArg (fun z => wM k a mSizes mSigns mOdds mPat mTyped mText z.2.1 z.2.2.1 z.2.2.2.1 z.2.2.2.2.1 z.2.2.2.2.2.1 z.2.2.2.2.2.2.1 z.2.2.2.2.2.2.2.1 z.2.2.2.2.2.2.2.2 mUns mUM mBA mBH mThere mTypes mHeld mItems mMoved mFind) he)⟩, by rw [ht]; exact hP, va_K.moved hW.alike hK, hD⟩, hS.F ht⟩) hS.2.2 dX11_nth_77
      · replace h := (if_neg c2).symm.trans h
        refine lv_iload_n hx hb dX11_nth_41 rfl (lv_at hl 2 rfl) ?_
        refine lv_aload_n hx hb dX11_nth_42 rfl (lv_at hl 0 rfl) ?_
        refine lv_iload hx hb dX11_nth_43 (lv_at hl 3 rfl) ?_
        refine lv_iload_n hx hb dX11_nth_45 rfl (lv_at hl 1 rfl) ?_
        obtain ⟨o3, eq4, h⟩ := bnd_some h
        refine kRiV (rest := [.int x3]) (q0 := 0) ⟨hx, hb, hml, hown, hts⟩ (c_X11_does l D k a mSizes mSigns mOdds mPat mTyped mText mAt mFault mTests mTN mTS mTV mTB mRead mUns mUM mBA mBH mThere mTypes mHeld mItems mMoved mFind x4 x1 eq4) (cwV 2 hts (gAV wm_455 wm_456 wm_457 wm_5 wm_458) rfl rfl rfl qd_X11_does ⟨Nat.le_of_ble_eq_true rfl, Nat.le_of_ble_eq_true rfl⟩) hK hP (rfl) rfl rfl hl.1 rfl (Nat.le_of_ble_eq_true rfl) dX11_nth_46 ⟨Nat.zero_le _, Nat.zero_le _⟩ ?_
        refine lv_if_eq (tgt := 56) hx hb dX11_nth_49 (by decide) (fun c5 => ?_) (fun c5 => ?_)
        · replace h := (if_pos c5).symm.trans h
          refine lv_iconst (v := 0) hx hb dX11_nth_56 (by decide) ?_
          exact J57 x1 x4 x3 0 mAt mFault mTests mTN mTS mTV mTB mRead ls H locs (lv_sub hl [0, 1, 3] rfl) hP hD hS h
        · replace h := (if_neg c5).symm.trans h
          refine lv_iconst (v := 1) hx hb dX11_nth_52 (by decide) ?_
          refine lv_goto (tgt := 57) hx hb dX11_nth_53 (by decide) ?_
          exact J57 x1 x4 x3 1 mAt mFault mTests mTN mTS mTV mTB mRead ls H locs (lv_sub hl [0, 1, 3] rfl) hP hD hS h
  obtain ⟨H, hH⟩ : ∃ H : Heap, H = s.heap := ⟨_, rfl⟩
  obtain ⟨locs, hlc⟩ : ∃ locs : List Loc, locs = [] := ⟨_, rfl⟩
  have hS : va_S A s.heap H locs := by rw [hH, hlc]; exact va_S.rf
  have hP : va_P D vwCl (wM k a mSizes mSigns mOdds mPat mTyped mText mAt mFault mTests mTN mTS mTV mTB mRead mUns mUM mBA mBH mThere mTypes mHeld mItems mMoved mFind) H := by rw [hH]; exact hP
  suffices hGo : gQi p l e wo_X11_nth 4 s m args below meth c D k A o.1 (wM k a mSizes mSigns mOdds mPat mTyped mText o.2.1 o.2.2.1 o.2.2.2.1 o.2.2.2.2.1 o.2.2.2.2.2.1 o.2.2.2.2.2.2.1 o.2.2.2.2.2.2.2.1 o.2.2.2.2.2.2.2.2 mUns mUM mBA mBH mThere mTypes mHeld mItems mMoved mFind) H locs (F0 m 0 ls []) by rw [hH, hlc] at hGo; exact hGo
  refine lv_iload_n hx hb dX11_nth_0 rfl (lv_at hl 1 rfl) ?_
  refine lv_iconst (v := 0) hx hb dX11_nth_1 (by decide) ?_
  refine lv_bipush (v := 15) hx hb dX11_nth_2 (by decide) ?_
  obtain ⟨o6, eq7, h⟩ := bnd_some h
  refine kPi (rest := []) ⟨hx, hb, hml, hown, hts⟩ (c_X11_in l x1 0 15 eq7) (va_cwS 3 hts (gAS wm_120 wm_121 wm_5 wm_122) rfl rfl rfl qd_X11_in ⟨Nat.le_of_ble_eq_true rfl, Nat.le_of_ble_eq_true rfl⟩) rfl hl.1 rfl (Nat.le_of_ble_eq_true rfl) dX11_nth_4 ⟨Nat.zero_le _, Nat.zero_le _⟩ ?_
  refine lv_if_eq (tgt := 14) hx hb dX11_nth_7 (by decide) (fun c8 => ?_) (fun c8 => ?_)
  · replace h := (if_pos c8).symm.trans h
    refine lv_bipush (v := (-2)) hx hb dX11_nth_14 (by decide) ?_
    have he := Option.some.inj h
    exact W.iret (v := (-2)) hx hb hr (fun t ht hW => ⟨⟨(-2), wM k a mSizes mSigns mOdds mPat mTyped mText mAt mFault mTests mTN mTS mTV mTB mRead mUns mUM mBA mBH mThere mTypes mHeld mItems mMoved mFind, rfl, ⟨(congrArg (fun z => z.1) he), (congrArg (fun z => wM k a mSizes mSigns mOdds mPat mTyped mText z.2.1 z.2.2.1 z.2.2.2.1 z.2.2.2.2.1 z.2.2.2.2.2.1 z.2.2.2.2.2.2.1 z.2.2.2.2.2.2.2.1 z.2.2.2.2.2.2.2.2 mUns mUM mBA mBH mThere mTypes mHeld mItems mMoved mFind) he)⟩, by rw [ht]; exact hP, va_K.moved hW.alike hK, hD⟩, hS.F ht⟩) hS.2.2 dX11_nth_16
  · replace h := (if_neg c8).symm.trans h
    refine lv_iload_n hx hb dX11_nth_10 rfl (lv_at hl 2 rfl) ?_
    refine lv_if_ge (tgt := 17) hx hb dX11_nth_11 (by decide) (fun c9 => ?_) (fun c9 => ?_)
    · replace h := (if_pos c9).symm.trans h
      refine lv_aload_n hx hb dX11_nth_17 rfl (lv_at hl 0 rfl) ?_
      obtain ⟨o10, eq11, h⟩ := bnd_some h
      refine kQiV (rest := []) (q0 := 0) ⟨hx, hb, hml, hown, hts⟩ (c_X11_faultNow l D k a mSizes mSigns mOdds mPat mTyped mText mAt mFault mTests mTN mTS mTV mTB mRead mUns mUM mBA mBH mThere mTypes mHeld mItems mMoved mFind  eq11) (cwV 0 hts (gAV wm_415 wm_416 wm_417 wm_5 wm_418) rfl rfl rfl qd_X11_faultNow ⟨Nat.le_of_ble_eq_true rfl, Nat.le_of_ble_eq_true rfl⟩) hK hP hD hS hA (rfl) rfl rfl hl.1 rfl (Nat.le_of_ble_eq_true rfl) dX11_nth_18 ⟨Nat.zero_le _, Nat.zero_le _⟩ (fun H locs hP hD hS => ?_)
      have hP : va_P D vwCl (wM k a mSizes mSigns mOdds mPat mTyped mText o10.2.1 o10.2.2.1 o10.2.2.2.1 o10.2.2.2.2.1 o10.2.2.2.2.2.1 o10.2.2.2.2.2.2.1 o10.2.2.2.2.2.2.2.1 o10.2.2.2.2.2.2.2.2 mUns mUM mBA mBH mThere mTypes mHeld mItems mMoved mFind) H := hP
      have hD : va_D A (wM k a mSizes mSigns mOdds mPat mTyped mText o10.2.1 o10.2.2.1 o10.2.2.2.1 o10.2.2.2.2.1 o10.2.2.2.2.2.1 o10.2.2.2.2.2.2.1 o10.2.2.2.2.2.2.2.1 o10.2.2.2.2.2.2.2.2 mUns mUM mBA mBH mThere mTypes mHeld mItems mMoved mFind) := hD
      refine lv_iconst (v := (-1)) hx hb dX11_nth_21 (by decide) ?_
      refine lv_icmp_eq (tgt := 28) hx hb dX11_nth_22 (by decide) (fun c12 => ?_) (fun c12 => ?_)
      · replace h := (if_pos c12).symm.trans h
        refine lv_iload_n hx hb dX11_nth_28 rfl (lv_at hl 2 rfl) ?_
        refine lv_istore_n (lv' := [(3, .int x2), (0, .ref (a 0)), (1, .int x1), (2, .int x2)]) hx hb dX11_nth_29 rfl hl (by decide) rfl (fun ls hl => ?_)
        refine lv_iconst (v := 0) hx hb dX11_nth_30 (by decide) ?_
        refine lv_istore (lv' := [(4, .int 0), (3, .int x2), (0, .ref (a 0)), (1, .int x1), (2, .int x2)]) hx hb dX11_nth_31 hl (by decide) rfl (fun ls hl => ?_)
        exact L33 N x1 x2 0 o10.2.1 o10.2.2.1 o10.2.2.2.1 o10.2.2.2.2.1 o10.2.2.2.2.2.1 o10.2.2.2.2.2.2.1 o10.2.2.2.2.2.2.2.1 o10.2.2.2.2.2.2.2.2 ls H locs (lv_sub hl [2, 3, 1, 0] rfl) hP hD hS h
      · replace h := (if_neg c12).symm.trans h
        refine lv_bipush (v := (-3)) hx hb dX11_nth_25 (by decide) ?_
        have he := Option.some.inj h
        exact W.iret (v := (-3)) hx hb hr (fun t ht hW => ⟨⟨(-3), wM k a mSizes mSigns mOdds mPat mTyped mText o10.2.1 o10.2.2.1 o10.2.2.2.1 o10.2.2.2.2.1 o10.2.2.2.2.2.1 o10.2.2.2.2.2.2.1 o10.2.2.2.2.2.2.2.1 o10.2.2.2.2.2.2.2.2 mUns mUM mBA mBH mThere mTypes mHeld mItems mMoved mFind, rfl, ⟨(congrArg (fun z => z.1) he), (congrArg (fun z => wM k a mSizes mSigns mOdds mPat mTyped mText z.2.1 z.2.2.1 z.2.2.2.1 z.2.2.2.2.1 z.2.2.2.2.2.1 z.2.2.2.2.2.2.1 z.2.2.2.2.2.2.2.1 z.2.2.2.2.2.2.2.2 mUns mUM mBA mBH mThere mTypes mHeld mItems mMoved mFind) he)⟩, by rw [ht]; exact hP, va_K.moved hW.alike hK, hD⟩, hS.F ht⟩) hS.2.2 dX11_nth_27
    · replace h := (if_neg c9).symm.trans h
      refine lv_bipush (v := (-2)) hx hb dX11_nth_14 (by decide) ?_
      have he := Option.some.inj h
      exact W.iret (v := (-2)) hx hb hr (fun t ht hW => ⟨⟨(-2), wM k a mSizes mSigns mOdds mPat mTyped mText mAt mFault mTests mTN mTS mTV mTB mRead mUns mUM mBA mBH mThere mTypes mHeld mItems mMoved mFind, rfl, ⟨(congrArg (fun z => z.1) he), (congrArg (fun z => wM k a mSizes mSigns mOdds mPat mTyped mText z.2.1 z.2.2.1 z.2.2.2.1 z.2.2.2.2.1 z.2.2.2.2.2.1 z.2.2.2.2.2.2.1 z.2.2.2.2.2.2.2.1 z.2.2.2.2.2.2.2.2 mUns mUM mBA mBH mThere mTypes mHeld mItems mMoved mFind) he)⟩, by rw [ht]; exact hP, va_K.moved hW.alike hK, hD⟩, hS.F ht⟩) hS.2.2 dX11_nth_16
set_option maxHeartbeats 4000000 in
set_option maxRecDepth 100000 in
theorem c_X11_nth {N : Nat} (l : Launch) (D : va_G) (k : Nat → ClassId) (a : Nat → Nat) (mSizes : Nat → Int32) (mSigns : Nat → Int32) (mOdds : Int32) (mPat : Int32) (mTyped : Int32) (mText : Nat → Int32) (mAt : Int32) (mFault : Int32) (mTests : Int32) (mTN : Nat → Int32) (mTS : Nat → Int32) (mTV : Nat → Int32) (mTB : Nat → Int32) (mRead : Int32) (mUns : Nat → Int32) (mUM : Int32) (mBA : Int32) (mBH : Int32) (mThere : Nat → Int32) (mTypes : Nat → Int32) (mHeld : Nat → Int32) (mItems : Nat → Int32) (mMoved : Nat → Int32) (mFind : Int32) (x1 : Int32) (x2 : Int32) {o : Int32 × (Int32) × (Int32) × (Int32) × (Nat → Int32) × (Nat → Int32) × (Nat → Int32) × (Nat → Int32) × (Int32)} (h : f_X11_nth N x1 x2 mPat mTyped mText mAt mFault mTests mTN mTS mTV mTB mRead = some o) : mQi l yX11_nth wo_X11_nth 4 D k [.ref (a 0), .int x1, .int x2] (wM k a mSizes mSigns mOdds mPat mTyped mText mAt mFault mTests mTN mTS mTV mTB mRead mUns mUM mBA mBH mThere mTypes mHeld mItems mMoved mFind) o.1 (wM k a mSizes mSigns mOdds mPat mTyped mText o.2.1 o.2.2.1 o.2.2.2.1 o.2.2.2.2.1 o.2.2.2.2.2.1 o.2.2.2.2.2.2.1 o.2.2.2.2.2.2.2.1 o.2.2.2.2.2.2.2.2 mUns mUM mBA mBH mThere mTypes mHeld mItems mMoved mFind) := by
  intro sz
  refine Met.ofW (cc := cX11_nth) (maxL := 5) (ret := some .int) (by decide) rfl ?_
  intro p e s m args below meth c s₁ B hml hv
  obtain ⟨rfl, hsz, hP, hK, hD0⟩ := hv
  subst hsz
  rw [lg_entry_eq]
  exact core_X11_nth D k a mSizes mSigns mOdds mPat mTyped mText mAt mFault mTests mTN mTS mTV mTB mRead mUns mUM mBA mBH mThere mTypes mHeld mItems mMoved mFind x1 x2 B.exec B.bytes hml B.returns (atoms_spec (ws := wo_X11_nth) B.pre) (findClass_of_methodNamed B.named) B.notSynchronized (lv_entry [.ref (a 0), .int x1, .int x2] (n := 5) (Nat.le_of_ble_eq_true rfl)) hK hP hD0.self (fun q h => Or.inr h) h
theorem qd_X11_nth : yX11_nth.cls = RX11 ∧ yX11_nth.cls ≠ "java/lang/invoke/MethodHandle" ∧ yX11_nth.cls ≠ "java/lang/invoke/VarHandle" ∧ (parseMethodDescriptor yX11_nth.desc).map (fun d => d.parameters.length) = some 2 := by decide +kernel
abbrev wo_X11_share : List Cond := .code yX11_share cX11_share 6 (some .long) :: wsL_law
set_option maxHeartbeats 4000000 in
set_option maxRecDepth 100000 in
theorem core_X11_share {N : Nat} (D : va_G) (k : Nat → ClassId) (a : Nat → Nat) (mSizes : Nat → Int32) (mSigns : Nat → Int32) (mOdds : Int32) (mPat : Int32) (mTyped : Int32) (mText : Nat → Int32) (mAt : Int32) (mFault : Int32) (mTests : Int32) (mTN : Nat → Int32) (mTS : Nat → Int32) (mTV : Nat → Int32) (mTB : Nat → Int32) (mRead : Int32) (mUns : Nat → Int32) (mUM : Int32) (mBA : Int32) (mBH : Int32) (mThere : Nat → Int32) (mTypes : Nat → Int32) (mHeld : Nat → Int32) (mItems : Nat → Int32) (mMoved : Nat → Int32) (mFind : Int32) (x1 : Int32) (x2 : Int32) {p : Program} {l : Launch} {e : Env} {s : State} {m : MethodId} {args : Array Value} {below : List Frame} {meth : Method} {c : Code} {ls : Array Slot} (hx : p.tables.exec = Jvm.exec) (hb : c.code = cX11_share) (hml : c.maxLocals = 6) (hr : meth.sig.returnType = some .long) (hts : ∀ w ∈ wo_X11_share, w.before args s = true) (hown : s.vm.findClass RX11 = some m.cls) (hlocks : meth.locks = false) (hl : lv_has ls 6 [(0, .ref (a 0)), (1, .int x1), (2, .int x2)]) (hK : va_K D vwCl (xTys k) s) (hP : va_P D vwCl (wM k a mSizes mSigns mOdds mPat mTyped mText mAt mFault mTests mTN mTS mTV mTB mRead mUns mUM mBA mBH mThere mTypes mHeld mItems mMoved mFind) s.heap) {A : Nat → Prop} (hD : va_D A (wM k a mSizes mSigns mOdds mPat mTyped mText mAt mFault mTests mTN mTS mTV mTB mRead mUns mUM mBA mBH mThere mTypes mHeld mItems mMoved mFind)) (hA : ∀ q : Nat, s.heap.size ≤ q → A q) {o : Int64 × (Int32) × (Int32) × (Int32) × (Nat → Int32) × (Nat → Int32) × (Nat → Int32) × (Nat → Int32) × (Int32)} (h : f_X11_share N x1 x2 mOdds mPat mTyped mText mAt mFault mTests mTN mTS mTV mTB mRead = some o) : gQl p l e wo_X11_share 4 s m args below meth c D k A o.1 (wM k a mSizes mSigns mOdds mPat mTyped mText o.2.1 o.2.2.1 o.2.2.2.1 o.2.2.2.2.1 o.2.2.2.2.2.1 o.2.2.2.2.2.2.1 o.2.2.2.2.2.2.2.1 o.2.2.2.2.2.2.2.2 mUns mUM mBA mBH mThere mTypes mHeld mItems mMoved mFind) s.heap [] (F0 m 0 ls []) := by
  have kc145 := hts _ (List.mem_cons_of_mem _ wm_522)
  have hi11 := (fun w h => List.mem_cons_of_mem _ (inlX11 w h) : ∀ w ∈ wsX110, w ∈ wo_X11_share)
  have kf16 := hts _ (List.mem_cons_of_mem _ wm_74)
  unfold f_X11_share at h
  have hS : va_S A s.heap s.heap [] := va_S.rf
  have L44 : ∀ (n44 : Nat) (x1 : Int32) (x2 : Int32) (x3 : Int64) (x5 : Int32) (mAt : Int32) (mFault : Int32) (mTests : Int32) (mTN : Nat → Int32) (mTS : Nat → Int32) (mTV : Nat → Int32) (mTB : Nat → Int32) (mRead : Int32) (ls : Array Slot) (H : Heap) (locs : List Loc) (hl : lv_has ls 6 [(0, .ref (a 0)), (1, .int x1), (2, .int x2), (3, .long x3), (5, .int x5)]) (hP : va_P D vwCl (wM k a mSizes mSigns mOdds mPat mTyped mText mAt mFault mTests mTN mTS mTV mTB mRead mUns mUM mBA mBH mThere mTypes mHeld mItems mMoved mFind) H) (hD : va_D A (wM k a mSizes mSigns mOdds mPat mTyped mText mAt mFault mTests mTN mTS mTV mTB mRead mUns mUM mBA mBH mThere mTypes mHeld mItems mMoved mFind)) (hS : va_S A s.heap H locs) (h : f_X11_share_44 N n44 x1 x2 x3 x5 mOdds mPat mTyped mText mAt mFault mTests mTN mTS mTV mTB mRead = some o), gQl p l e wo_X11_share 4 s m args below meth c D k A o.1 (wM k a mSizes mSigns mOdds mPat mTyped mText o.2.1 o.2.2.1 o.2.2.2.1 o.2.2.2.2.1 o.2.2.2.2.2.1 o.2.2.2.2.2.2.1 o.2.2.2.2.2.2.2.1 o.2.2.2.2.2.2.2.2 mUns mUM mBA mBH mThere mTypes mHeld mItems mMoved mFind) H locs (F0 m 44 ls []) := by
    intro n44
    induction n44 with
    | zero => intro x1 x2 x3 x5 mAt mFault mTests mTN mTS mTV mTB mRead ls H locs hl hP hD hS h; cases (show (none : Option (Int64 × (Int32) × (Int32) × (Int32) × (Nat → Int32) × (Nat → Int32) × (Nat → Int32) × (Nat → Int32) × (Int32))) = some o from h)
    | succ n44 ih44 =>
      have J99 : ∀ (x1 : Int32) (x2 : Int32) (x5 : Int32) (s0 : Int64) (s1 : Int64) (mAt : Int32) (mFault : Int32) (mTests : Int32) (mTN : Nat → Int32) (mTS : Nat → Int32) (mTV : Nat → Int32) (mTB : Nat → Int32) (mRead : Int32) (ls : Array Slot) (H : Heap) (locs : List Loc) (hl : lv_has ls 6 [(0, .ref (a 0)), (1, .int x1), (2, .int x2), (5, .int x5)]) (hP : va_P D vwCl (wM k a mSizes mSigns mOdds mPat mTyped mText mAt mFault mTests mTN mTS mTV mTB mRead mUns mUM mBA mBH mThere mTypes mHeld mItems mMoved mFind) H) (hD : va_D A (wM k a mSizes mSigns mOdds mPat mTyped mText mAt mFault mTests mTN mTS mTV mTB mRead mUns mUM mBA mBH mThere mTypes mHeld mItems mMoved mFind)) (hS : va_S A s.heap H locs) (h : f_X11_share_99 N (fun y0 y1 y2 y3 y4 y5 y6 y7 y8 y9 y10 y11 y12 y13 y14 y15 => f_X11_share_44 N n44 y0 y1 y2 y3 y4 y5 y6 y7 y8 y9 y10 y11 y12 y13 y14 y15) x1 x2 x5 s0 s1 mOdds mPat mTyped mText mAt mFault mTests mTN mTS mTV mTB mRead = some o), gQl p l e wo_X11_share 4 s m args below meth c D k A o.1 (wM k a mSizes mSigns mOdds mPat mTyped mText o.2.1 o.2.2.1 o.2.2.2.1 o.2.2.2.2.1 o.2.2.2.2.2.1 o.2.2.2.2.2.2.1 o.2.2.2.2.2.2.2.1 o.2.2.2.2.2.2.2.2 mUns mUM mBA mBH mThere mTypes mHeld mItems mMoved mFind) H locs (F0 m 99 ls [.long s1, .long s0]) := by
        intro x1 x2 x5 s0 s1 mAt mFault mTests mTN mTS mTV mTB mRead ls H locs hl hP hD hS h
        unfold f_X11_share_99 at h
        refine lv_ladd hx hb dX11_share_99 ?_
        refine lv_lstore_n (lv' := [(3, .long (s0 + s1)), (0, .ref (a 0)), (1, .int x1), (2, .int x2), (5, .int x5)]) hx hb dX11_share_100 rfl hl (by decide) rfl (fun ls hl => ?_)
        refine lv_iinc (v := (x5 + 1)) (lv' := [(5, .int (x5 + 1)), (3, .long (s0 + s1)), (0, .ref (a 0)), (1, .int x1), (2, .int x2)]) hx hb dX11_share_101 hl (k := 4) rfl rfl (by decide) rfl (fun ls hl => ?_)
        refine lv_goto (tgt := 44) hx hb dX11_share_104 (by decide) ?_
        exact ih44 x1 x2 (s0 + s1) (x5 + 1) mAt mFault mTests mTN mTS mTV mTB mRead ls H locs (lv_sub hl [2, 3, 4, 1, 0] rfl) hP hD hS h
      intro x1 x2 x3 x5 mAt mFault mTests mTN mTS mTV mTB mRead ls H locs hl hP hD hS h
      rw [f_X11_share_44] at h
      refine lv_iload hx hb dX11_share_44 (lv_at hl 4 rfl) ?_
      refine lv_iconst (v := 1) hx hb dX11_share_46 (by decide) ?_
      refine lv_iload_n hx hb dX11_share_47 rfl (lv_at hl 1 rfl) ?_
      refine lv_ishl hx hb dX11_share_48 ?_
      refine lv_icmp_ge (tgt := 107) hx hb dX11_share_49 (by decide) (fun c1 => ?_) (fun c1 => ?_)
      · replace h := (if_pos c1).symm.trans h
        refine lv_lload_n hx hb dX11_share_107 rfl (lv_at hl 3 rfl) ?_
        refine lv_ldc2 (v := 16) hx hb hown kc145 dX11_share_108 ?_
        refine lv_iload_n hx hb dX11_share_111 rfl (lv_at hl 1 rfl) ?_
        obtain ⟨o2, eq3, h⟩ := bnd_some h
        refine kPl (rest := [.long x3]) ⟨hx, hb, hml, hown, hts⟩ (c_X11_power l 16 x1 eq3) (va_cwS 2 hts (gAS wm_527 wm_528 wm_5 wm_529) rfl rfl rfl qd_X11_power ⟨Nat.le_of_ble_eq_true rfl, Nat.le_of_ble_eq_true rfl⟩) rfl hl.1 rfl (Nat.le_of_ble_eq_true rfl) dX11_share_112 ⟨Nat.zero_le _, Nat.zero_le _⟩ ?_
        refine lv_iload_n hx hb dX11_share_115 rfl (lv_at hl 2 rfl) ?_
        obtain ⟨o4, eq5, h⟩ := bnd_some h
        refine kPl (rest := []) ⟨hx, hb, hml, hown, hts⟩ (c_X11_lowest l x3 o2 x2 eq5) (va_cwS 3 hts (gAS wm_530 wm_531 wm_5 wm_532) rfl rfl rfl qd_X11_lowest ⟨Nat.le_of_ble_eq_true rfl, Nat.le_of_ble_eq_true rfl⟩) rfl hl.1 rfl (Nat.le_of_ble_eq_true rfl) dX11_share_116 ⟨Nat.zero_le _, Nat.zero_le _⟩ ?_
        have he := Option.some.inj h
        exact W.lret (v := o4) hx hb hr (fun t ht hW => ⟨⟨o4, wM k a mSizes mSigns mOdds mPat mTyped mText mAt mFault mTests mTN mTS mTV mTB mRead mUns mUM mBA mBH mThere mTypes mHeld mItems mMoved mFind, rfl, ⟨(congrArg (fun z => z.1) he), (congrArg (fun z => wM k a mSizes mSigns mOdds mPat mTyped mText z.2.1 z.2.2.1 z.2.2.2.1 z.2.2.2.2.1 z.2.2.2.2.2.1 z.2.2.2.2.2.2.1 z.2.2.2.2.2.2.2.1 z.2.2.2.2.2.2.2.2 mUns mUM mBA mBH mThere mTypes mHeld mItems mMoved mFind) he)⟩, by rw [ht]; exact hP, va_K.moved hW.alike hK, hD⟩, hS.F ht⟩) hS.2.2 dX11_share_119
      · replace h := (if_neg c1).symm.trans h
        refine lv_lload_n hx hb dX11_share_52 rfl (lv_at hl 3 rfl) ?_
        refine lv_aload_n hx hb dX11_share_53 rfl (lv_at hl 0 rfl) ?_
        refine lv_iload hx hb dX11_share_54 (lv_at hl 4 rfl) ?_
        refine lv_iload_n hx hb dX11_share_56 rfl (lv_at hl 1 rfl) ?_
        obtain ⟨o6, eq7, h⟩ := bnd_some h
        refine kRiV (rest := [.long x3]) (q0 := 0) ⟨hx, hb, hml, hown, hts⟩ (c_X11_does l D k a mSizes mSigns mOdds mPat mTyped mText mAt mFault mTests mTN mTS mTV mTB mRead mUns mUM mBA mBH mThere mTypes mHeld mItems mMoved mFind x5 x1 eq7) (cwV 2 hts (gAV wm_455 wm_456 wm_457 wm_5 wm_458) rfl rfl rfl qd_X11_does ⟨Nat.le_of_ble_eq_true rfl, Nat.le_of_ble_eq_true rfl⟩) hK hP (rfl) rfl rfl hl.1 rfl (Nat.le_of_ble_eq_true rfl) dX11_share_57 ⟨Nat.zero_le _, Nat.zero_le _⟩ ?_
        refine lv_if_eq (tgt := 98) hx hb dX11_share_60 (by decide) (fun c8 => ?_) (fun c8 => ?_)
        · replace h := (if_pos c8).symm.trans h
          refine lv_lconst (v := 0) hx hb dX11_share_98 rfl ?_
          exact J99 x1 x2 x5 x3 0 mAt mFault mTests mTN mTS mTV mTB mRead ls H locs (lv_sub hl [0, 1, 2, 4] rfl) hP hD hS h
        · replace h := (if_neg c8).symm.trans h
          refine lv_aload_n hx hb dX11_share_63 rfl (lv_at hl 0 rfl) ?_
          refine va_get (D := D) (ci := 6) (v := .int mOdds) (C := RX11) (T := TX11) (N := 24) hx hb hts hi11 hown hK hP (0) (rfl) rfl 2 (by decide) kf16 (fun _ h9 => h9) rfl dX11_share_64 ?_
          refine lv_i2l (v := mOdds.toInt64) hx hb dX11_share_67 rfl ?_
          refine lv_iload hx hb dX11_share_68 (lv_at hl 4 rfl) ?_
          obtain ⟨o9, eq10, h⟩ := bnd_some h
          refine kPi (rest := [.long mOdds.toInt64, .long x3]) ⟨hx, hb, hml, hown, hts⟩ (c_X11_ones l x5 eq10) (va_cwS 1 hts (gAS wm_253 wm_254 wm_5 wm_255) rfl rfl rfl qd_X11_ones ⟨Nat.le_of_ble_eq_true rfl, Nat.le_of_ble_eq_true rfl⟩) rfl hl.1 rfl (Nat.le_of_ble_eq_true rfl) dX11_share_70 ⟨Nat.zero_le _, Nat.zero_le _⟩ ?_
          obtain ⟨o11, eq12, h⟩ := bnd_some h
          refine kPl (rest := [.long x3]) ⟨hx, hb, hml, hown, hts⟩ (c_X11_power l mOdds.toInt64 o9 eq12) (va_cwS 2 hts (gAS wm_527 wm_528 wm_5 wm_529) rfl rfl rfl qd_X11_power ⟨Nat.le_of_ble_eq_true rfl, Nat.le_of_ble_eq_true rfl⟩) rfl hl.1 rfl (Nat.le_of_ble_eq_true rfl) dX11_share_73 ⟨Nat.zero_le _, Nat.zero_le _⟩ ?_
          refine lv_bipush (v := 16) hx hb dX11_share_76 (by decide) ?_
          refine lv_aload_n hx hb dX11_share_78 rfl (lv_at hl 0 rfl) ?_
          refine va_get (D := D) (ci := 6) (v := .int mOdds) (C := RX11) (T := TX11) (N := 24) hx hb hts hi11 hown hK hP (0) (rfl) rfl 2 (by decide) kf16 (fun _ h9 => h9) rfl dX11_share_79 ?_
          refine lv_isub hx hb dX11_share_82 ?_
          refine lv_i2l (v := ((16 : Int32) - mOdds).toInt64) hx hb dX11_share_83 rfl ?_
          refine lv_iload_n hx hb dX11_share_84 rfl (lv_at hl 1 rfl) ?_
          refine lv_iload hx hb dX11_share_85 (lv_at hl 4 rfl) ?_
          obtain ⟨o13, eq14, h⟩ := bnd_some h
          refine kPi (rest := [.int x1, .long (((16 : Int32) - mOdds).toInt64), .long o11, .long x3]) ⟨hx, hb, hml, hown, hts⟩ (c_X11_ones l x5 eq14) (va_cwS 1 hts (gAS wm_253 wm_254 wm_5 wm_255) rfl rfl rfl qd_X11_ones ⟨Nat.le_of_ble_eq_true rfl, Nat.le_of_ble_eq_true rfl⟩) rfl hl.1 rfl (Nat.le_of_ble_eq_true rfl) dX11_share_87 ⟨Nat.zero_le _, Nat.zero_le _⟩ ?_
          refine lv_isub hx hb dX11_share_90 ?_
          obtain ⟨o15, eq16, h⟩ := bnd_some h
          refine kPl (rest := [.long o11, .long x3]) ⟨hx, hb, hml, hown, hts⟩ (c_X11_power l (((16 : Int32) - mOdds).toInt64) (x1 - o13) eq16) (va_cwS 2 hts (gAS wm_527 wm_528 wm_5 wm_529) rfl rfl rfl qd_X11_power ⟨Nat.le_of_ble_eq_true rfl, Nat.le_of_ble_eq_true rfl⟩) rfl hl.1 rfl (Nat.le_of_ble_eq_true rfl) dX11_share_91 ⟨Nat.zero_le _, Nat.zero_le _⟩ ?_
          refine lv_lmul hx hb dX11_share_94 ?_
          refine lv_goto (tgt := 99) hx hb dX11_share_95 (by decide) ?_
          exact J99 x1 x2 x5 x3 (o11 * o15) mAt mFault mTests mTN mTS mTV mTB mRead ls H locs (lv_sub hl [0, 1, 2, 4] rfl) hP hD hS h
  obtain ⟨H, hH⟩ : ∃ H : Heap, H = s.heap := ⟨_, rfl⟩
  obtain ⟨locs, hlc⟩ : ∃ locs : List Loc, locs = [] := ⟨_, rfl⟩
  have hS : va_S A s.heap H locs := by rw [hH, hlc]; exact va_S.rf
  have hP : va_P D vwCl (wM k a mSizes mSigns mOdds mPat mTyped mText mAt mFault mTests mTN mTS mTV mTB mRead mUns mUM mBA mBH mThere mTypes mHeld mItems mMoved mFind) H := by rw [hH]; exact hP
  suffices hGo : gQl p l e wo_X11_share 4 s m args below meth c D k A o.1 (wM k a mSizes mSigns mOdds mPat mTyped mText o.2.1 o.2.2.1 o.2.2.2.1 o.2.2.2.2.1 o.2.2.2.2.2.1 o.2.2.2.2.2.2.1 o.2.2.2.2.2.2.2.1 o.2.2.2.2.2.2.2.2 mUns mUM mBA mBH mThere mTypes mHeld mItems mMoved mFind) H locs (F0 m 0 ls []) by rw [hH, hlc] at hGo; exact hGo
  refine lv_iload_n hx hb dX11_share_0 rfl (lv_at hl 1 rfl) ?_
  refine lv_iconst (v := 0) hx hb dX11_share_1 (by decide) ?_
  refine lv_bipush (v := 15) hx hb dX11_share_2 (by decide) ?_
  obtain ⟨o17, eq18, h⟩ := bnd_some h
  refine kPi (rest := []) ⟨hx, hb, hml, hown, hts⟩ (c_X11_in l x1 0 15 eq18) (va_cwS 3 hts (gAS wm_120 wm_121 wm_5 wm_122) rfl rfl rfl qd_X11_in ⟨Nat.le_of_ble_eq_true rfl, Nat.le_of_ble_eq_true rfl⟩) rfl hl.1 rfl (Nat.le_of_ble_eq_true rfl) dX11_share_4 ⟨Nat.zero_le _, Nat.zero_le _⟩ ?_
  refine lv_if_eq (tgt := 19) hx hb dX11_share_7 (by decide) (fun c19 => ?_) (fun c19 => ?_)
  · replace h := (if_pos c19).symm.trans h
    refine lv_bipush (v := (-2)) hx hb dX11_share_19 (by decide) ?_
    obtain ⟨o20, eq21, h⟩ := bnd_some h
    refine kPl (rest := []) ⟨hx, hb, hml, hown, hts⟩ (c_X11_no l (-2) eq21) (va_cwS 1 hts (gAS wm_523 wm_524 wm_5 wm_525) rfl rfl rfl qd_X11_no ⟨Nat.le_of_ble_eq_true rfl, Nat.le_of_ble_eq_true rfl⟩) rfl hl.1 rfl (Nat.le_of_ble_eq_true rfl) dX11_share_21 ⟨Nat.zero_le _, Nat.zero_le _⟩ ?_
    have he := Option.some.inj h
    exact W.lret (v := o20) hx hb hr (fun t ht hW => ⟨⟨o20, wM k a mSizes mSigns mOdds mPat mTyped mText mAt mFault mTests mTN mTS mTV mTB mRead mUns mUM mBA mBH mThere mTypes mHeld mItems mMoved mFind, rfl, ⟨(congrArg (fun z => z.1) he), (congrArg (fun z => wM k a mSizes mSigns mOdds mPat mTyped mText z.2.1 z.2.2.1 z.2.2.2.1 z.2.2.2.2.1 z.2.2.2.2.2.1 z.2.2.2.2.2.2.1 z.2.2.2.2.2.2.2.1 z.2.2.2.2.2.2.2.2 mUns mUM mBA mBH mThere mTypes mHeld mItems mMoved mFind) he)⟩, by rw [ht]; exact hP, va_K.moved hW.alike hK, hD⟩, hS.F ht⟩) hS.2.2 dX11_share_24
  · replace h := (if_neg c19).symm.trans h
    refine lv_iload_n hx hb dX11_share_10 rfl (lv_at hl 2 rfl) ?_
    refine lv_iconst (v := 0) hx hb dX11_share_11 (by decide) ?_
    refine lv_iconst (v := 1) hx hb dX11_share_12 (by decide) ?_
    obtain ⟨o22, eq23, h⟩ := bnd_some h
    refine kPi (rest := []) ⟨hx, hb, hml, hown, hts⟩ (c_X11_in l x2 0 1 eq23) (va_cwS 3 hts (gAS wm_120 wm_121 wm_5 wm_122) rfl rfl rfl qd_X11_in ⟨Nat.le_of_ble_eq_true rfl, Nat.le_of_ble_eq_true rfl⟩) rfl hl.1 rfl (Nat.le_of_ble_eq_true rfl) dX11_share_13 ⟨Nat.zero_le _, Nat.zero_le _⟩ ?_
    refine lv_if_ne (tgt := 25) hx hb dX11_share_16 (by decide) (fun c24 => ?_) (fun c24 => ?_)
    · replace h := (if_neg c24).symm.trans h
      refine lv_aload_n hx hb dX11_share_25 rfl (lv_at hl 0 rfl) ?_
      obtain ⟨o25, eq26, h⟩ := bnd_some h
      refine kQiV (rest := []) (q0 := 0) ⟨hx, hb, hml, hown, hts⟩ (c_X11_faultNow l D k a mSizes mSigns mOdds mPat mTyped mText mAt mFault mTests mTN mTS mTV mTB mRead mUns mUM mBA mBH mThere mTypes mHeld mItems mMoved mFind  eq26) (cwV 0 hts (gAV wm_415 wm_416 wm_417 wm_5 wm_418) rfl rfl rfl qd_X11_faultNow ⟨Nat.le_of_ble_eq_true rfl, Nat.le_of_ble_eq_true rfl⟩) hK hP hD hS hA (rfl) rfl rfl hl.1 rfl (Nat.le_of_ble_eq_true rfl) dX11_share_26 ⟨Nat.zero_le _, Nat.zero_le _⟩ (fun H locs hP hD hS => ?_)
      have hP : va_P D vwCl (wM k a mSizes mSigns mOdds mPat mTyped mText o25.2.1 o25.2.2.1 o25.2.2.2.1 o25.2.2.2.2.1 o25.2.2.2.2.2.1 o25.2.2.2.2.2.2.1 o25.2.2.2.2.2.2.2.1 o25.2.2.2.2.2.2.2.2 mUns mUM mBA mBH mThere mTypes mHeld mItems mMoved mFind) H := hP
      have hD : va_D A (wM k a mSizes mSigns mOdds mPat mTyped mText o25.2.1 o25.2.2.1 o25.2.2.2.1 o25.2.2.2.2.1 o25.2.2.2.2.2.1 o25.2.2.2.2.2.2.1 o25.2.2.2.2.2.2.2.1 o25.2.2.2.2.2.2.2.2 mUns mUM mBA mBH mThere mTypes mHeld mItems mMoved mFind) := hD
      refine lv_iconst (v := (-1)) hx hb dX11_share_29 (by decide) ?_
      refine lv_icmp_eq (tgt := 39) hx hb dX11_share_30 (by decide) (fun c27 => ?_) (fun c27 => ?_)
      · replace h := (if_pos c27).symm.trans h
        refine lv_lconst (v := 0) hx hb dX11_share_39 rfl ?_
        refine lv_lstore_n (lv' := [(3, .long 0), (0, .ref (a 0)), (1, .int x1), (2, .int x2)]) hx hb dX11_share_40 rfl hl (by decide) rfl (fun ls hl => ?_)
        refine lv_iconst (v := 0) hx hb dX11_share_41 (by decide) ?_
        refine lv_istore (lv' := [(5, .int 0), (3, .long 0), (0, .ref (a 0)), (1, .int x1), (2, .int x2)]) hx hb dX11_share_42 hl (by decide) rfl (fun ls hl => ?_)
        exact L44 N x1 x2 0 0 o25.2.1 o25.2.2.1 o25.2.2.2.1 o25.2.2.2.2.1 o25.2.2.2.2.2.1 o25.2.2.2.2.2.2.1 o25.2.2.2.2.2.2.2.1 o25.2.2.2.2.2.2.2.2 ls H locs (lv_sub hl [2, 3, 4, 1, 0] rfl) hP hD hS h
      · replace h := (if_neg c27).symm.trans h
        refine lv_bipush (v := (-3)) hx hb dX11_share_33 (by decide) ?_
        obtain ⟨o28, eq29, h⟩ := bnd_some h
        refine kPl (rest := []) ⟨hx, hb, hml, hown, hts⟩ (c_X11_no l (-3) eq29) (va_cwS 1 hts (gAS wm_523 wm_524 wm_5 wm_525) rfl rfl rfl qd_X11_no ⟨Nat.le_of_ble_eq_true rfl, Nat.le_of_ble_eq_true rfl⟩) rfl hl.1 rfl (Nat.le_of_ble_eq_true rfl) dX11_share_35 ⟨Nat.zero_le _, Nat.zero_le _⟩ ?_
        have he := Option.some.inj h
        exact W.lret (v := o28) hx hb hr (fun t ht hW => ⟨⟨o28, wM k a mSizes mSigns mOdds mPat mTyped mText o25.2.1 o25.2.2.1 o25.2.2.2.1 o25.2.2.2.2.1 o25.2.2.2.2.2.1 o25.2.2.2.2.2.2.1 o25.2.2.2.2.2.2.2.1 o25.2.2.2.2.2.2.2.2 mUns mUM mBA mBH mThere mTypes mHeld mItems mMoved mFind, rfl, ⟨(congrArg (fun z => z.1) he), (congrArg (fun z => wM k a mSizes mSigns mOdds mPat mTyped mText z.2.1 z.2.2.1 z.2.2.2.1 z.2.2.2.2.1 z.2.2.2.2.2.1 z.2.2.2.2.2.2.1 z.2.2.2.2.2.2.2.1 z.2.2.2.2.2.2.2.2 mUns mUM mBA mBH mThere mTypes mHeld mItems mMoved mFind) he)⟩, by rw [ht]; exact hP, va_K.moved hW.alike hK, hD⟩, hS.F ht⟩) hS.2.2 dX11_share_38
    · replace h := (if_pos c24).symm.trans h
      refine lv_bipush (v := (-2)) hx hb dX11_share_19 (by decide) ?_
      obtain ⟨o30, eq31, h⟩ := bnd_some h
      refine kPl (rest := []) ⟨hx, hb, hml, hown, hts⟩ (c_X11_no l (-2) eq31) (va_cwS 1 hts (gAS wm_523 wm_524 wm_5 wm_525) rfl rfl rfl qd_X11_no ⟨Nat.le_of_ble_eq_true rfl, Nat.le_of_ble_eq_true rfl⟩) rfl hl.1 rfl (Nat.le_of_ble_eq_true rfl) dX11_share_21 ⟨Nat.zero_le _, Nat.zero_le _⟩ ?_
      have he := Option.some.inj h
      exact W.lret (v := o30) hx hb hr (fun t ht hW => ⟨⟨o30, wM k a mSizes mSigns mOdds mPat mTyped mText mAt mFault mTests mTN mTS mTV mTB mRead mUns mUM mBA mBH mThere mTypes mHeld mItems mMoved mFind, rfl, ⟨(congrArg (fun z => z.1) he), (congrArg (fun z => wM k a mSizes mSigns mOdds mPat mTyped mText z.2.1 z.2.2.1 z.2.2.2.1 z.2.2.2.2.1 z.2.2.2.2.2.1 z.2.2.2.2.2.2.1 z.2.2.2.2.2.2.2.1 z.2.2.2.2.2.2.2.2 mUns mUM mBA mBH mThere mTypes mHeld mItems mMoved mFind) he)⟩, by rw [ht]; exact hP, va_K.moved hW.alike hK, hD⟩, hS.F ht⟩) hS.2.2 dX11_share_24
set_option maxHeartbeats 4000000 in
set_option maxRecDepth 100000 in
theorem c_X11_share {N : Nat} (l : Launch) (D : va_G) (k : Nat → ClassId) (a : Nat → Nat) (mSizes : Nat → Int32) (mSigns : Nat → Int32) (mOdds : Int32) (mPat : Int32) (mTyped : Int32) (mText : Nat → Int32) (mAt : Int32) (mFault : Int32) (mTests : Int32) (mTN : Nat → Int32) (mTS : Nat → Int32) (mTV : Nat → Int32) (mTB : Nat → Int32) (mRead : Int32) (mUns : Nat → Int32) (mUM : Int32) (mBA : Int32) (mBH : Int32) (mThere : Nat → Int32) (mTypes : Nat → Int32) (mHeld : Nat → Int32) (mItems : Nat → Int32) (mMoved : Nat → Int32) (mFind : Int32) (x1 : Int32) (x2 : Int32) {o : Int64 × (Int32) × (Int32) × (Int32) × (Nat → Int32) × (Nat → Int32) × (Nat → Int32) × (Nat → Int32) × (Int32)} (h : f_X11_share N x1 x2 mOdds mPat mTyped mText mAt mFault mTests mTN mTS mTV mTB mRead = some o) : mQl l yX11_share wo_X11_share 4 D k [.ref (a 0), .int x1, .int x2] (wM k a mSizes mSigns mOdds mPat mTyped mText mAt mFault mTests mTN mTS mTV mTB mRead mUns mUM mBA mBH mThere mTypes mHeld mItems mMoved mFind) o.1 (wM k a mSizes mSigns mOdds mPat mTyped mText o.2.1 o.2.2.1 o.2.2.2.1 o.2.2.2.2.1 o.2.2.2.2.2.1 o.2.2.2.2.2.2.1 o.2.2.2.2.2.2.2.1 o.2.2.2.2.2.2.2.2 mUns mUM mBA mBH mThere mTypes mHeld mItems mMoved mFind) := by
  intro sz
  refine Met.ofW (cc := cX11_share) (maxL := 6) (ret := some .long) (by decide) rfl ?_
  intro p e s m args below meth c s₁ B hml hv
  obtain ⟨rfl, hsz, hP, hK, hD0⟩ := hv
  subst hsz
  rw [lg_entry_eq]
  exact core_X11_share D k a mSizes mSigns mOdds mPat mTyped mText mAt mFault mTests mTN mTS mTV mTB mRead mUns mUM mBA mBH mThere mTypes mHeld mItems mMoved mFind x1 x2 B.exec B.bytes hml B.returns (atoms_spec (ws := wo_X11_share) B.pre) (findClass_of_methodNamed B.named) B.notSynchronized (lv_entry [.ref (a 0), .int x1, .int x2] (n := 6) (Nat.le_of_ble_eq_true rfl)) hK hP hD0.self (fun q h => Or.inr h) h
theorem qd_X11_share : yX11_share.cls = RX11 ∧ yX11_share.cls ≠ "java/lang/invoke/MethodHandle" ∧ yX11_share.cls ≠ "java/lang/invoke/VarHandle" ∧ (parseMethodDescriptor yX11_share.desc).map (fun d => d.parameters.length) = some 2 := by decide +kernel
abbrev wo_X11_gathers : List Cond := .code yX11_gathers cX11_gathers 3 none :: wsL_law
set_option maxHeartbeats 4000000 in
set_option maxRecDepth 100000 in
theorem core_X11_gathers {N : Nat} (D : va_G) (k : Nat → ClassId) (a : Nat → Nat) (mSizes : Nat → Int32) (mSigns : Nat → Int32) (mOdds : Int32) (mPat : Int32) (mTyped : Int32) (mText : Nat → Int32) (mAt : Int32) (mFault : Int32) (mTests : Int32) (mTN : Nat → Int32) (mTS : Nat → Int32) (mTV : Nat → Int32) (mTB : Nat → Int32) (mRead : Int32) (mUns : Nat → Int32) (mUM : Int32) (mBA : Int32) (mBH : Int32) (mThere : Nat → Int32) (mTypes : Nat → Int32) (mHeld : Nat → Int32) (mItems : Nat → Int32) (mMoved : Nat → Int32) (mFind : Int32) (x1 : Int32) {p : Program} {l : Launch} {e : Env} {s : State} {m : MethodId} {args : Array Value} {below : List Frame} {meth : Method} {c : Code} {ls : Array Slot} (hx : p.tables.exec = Jvm.exec) (hb : c.code = cX11_gathers) (hml : c.maxLocals = 3) (hr : meth.sig.returnType = none) (hts : ∀ w ∈ wo_X11_gathers, w.before args s = true) (hown : s.vm.findClass RX11 = some m.cls) (hlocks : meth.locks = false) (hl : lv_has ls 3 [(0, .ref (a 0)), (1, .int x1)]) (hK : va_K D vwCl (xTys k) s) (hP : va_P D vwCl (wM k a mSizes mSigns mOdds mPat mTyped mText mAt mFault mTests mTN mTS mTV mTB mRead mUns mUM mBA mBH mThere mTypes mHeld mItems mMoved mFind) s.heap) {A : Nat → Prop} (hD : va_D A (wM k a mSizes mSigns mOdds mPat mTyped mText mAt mFault mTests mTN mTS mTV mTB mRead mUns mUM mBA mBH mThere mTypes mHeld mItems mMoved mFind)) (hA : ∀ q : Nat, s.heap.size ≤ q → A q) {o : (Nat → Int32) × (Int32)} (h : f_X11_gathers N x1 mSizes mSigns mUns mUM = some o) : gQv p l e wo_X11_gathers 0 s m args below meth c D k A  (wM k a mSizes mSigns mOdds mPat mTyped mText mAt mFault mTests mTN mTS mTV mTB mRead o.1 o.2 mBA mBH mThere mTypes mHeld mItems mMoved mFind) s.heap [] (F0 m 0 ls []) := by
  have hi11 := (fun w h => List.mem_cons_of_mem _ (inlX11 w h) : ∀ w ∈ wsX110, w ∈ wo_X11_gathers)
  have kf7 := hts _ (List.mem_cons_of_mem _ wm_72)
  have kf13 := hts _ (List.mem_cons_of_mem _ wm_73)
  have kf39 := hts _ (List.mem_cons_of_mem _ wm_81)
  have kf151 := hts _ (List.mem_cons_of_mem _ wm_555)
  unfold f_X11_gathers at h
  have hS : va_S A s.heap s.heap [] := va_S.rf
  have L7 : ∀ (n7 : Nat) (x1 : Int32) (x2 : Int32) (mUns : Nat → Int32) (mUM : Int32) (ls : Array Slot) (H : Heap) (locs : List Loc) (hl : lv_has ls 3 [(0, .ref (a 0)), (1, .int x1), (2, .int x2)]) (hP : va_P D vwCl (wM k a mSizes mSigns mOdds mPat mTyped mText mAt mFault mTests mTN mTS mTV mTB mRead mUns mUM mBA mBH mThere mTypes mHeld mItems mMoved mFind) H) (hD : va_D A (wM k a mSizes mSigns mOdds mPat mTyped mText mAt mFault mTests mTN mTS mTV mTB mRead mUns mUM mBA mBH mThere mTypes mHeld mItems mMoved mFind)) (hS : va_S A s.heap H locs) (h : f_X11_gathers_7 N n7 x1 x2 mSizes mSigns mUns mUM = some o), gQv p l e wo_X11_gathers 0 s m args below meth c D k A  (wM k a mSizes mSigns mOdds mPat mTyped mText mAt mFault mTests mTN mTS mTV mTB mRead o.1 o.2 mBA mBH mThere mTypes mHeld mItems mMoved mFind) H locs (F0 m 7 ls []) := by
    intro n7
    induction n7 with
    | zero => intro x1 x2 mUns mUM ls H locs hl hP hD hS h; cases (show (none : Option ((Nat → Int32) × (Int32))) = some o from h)
    | succ n7 ih7 =>
      have J63 : ∀ (x1 : Int32) (x2 : Int32) (mUns : Nat → Int32) (mUM : Int32) (ls : Array Slot) (H : Heap) (locs : List Loc) (hl : lv_has ls 3 [(0, .ref (a 0)), (1, .int x1), (2, .int x2)]) (hP : va_P D vwCl (wM k a mSizes mSigns mOdds mPat mTyped mText mAt mFault mTests mTN mTS mTV mTB mRead mUns mUM mBA mBH mThere mTypes mHeld mItems mMoved mFind) H) (hD : va_D A (wM k a mSizes mSigns mOdds mPat mTyped mText mAt mFault mTests mTN mTS mTV mTB mRead mUns mUM mBA mBH mThere mTypes mHeld mItems mMoved mFind)) (hS : va_S A s.heap H locs) (h : f_X11_gathers_63 N (fun y0 y1 y2 y3 y4 y5 => f_X11_gathers_7 N n7 y0 y1 y2 y3 y4 y5) x1 x2 mSizes mSigns mUns mUM = some o), gQv p l e wo_X11_gathers 0 s m args below meth c D k A  (wM k a mSizes mSigns mOdds mPat mTyped mText mAt mFault mTests mTN mTS mTV mTB mRead o.1 o.2 mBA mBH mThere mTypes mHeld mItems mMoved mFind) H locs (F0 m 63 ls []) := by
        intro x1 x2 mUns mUM ls H locs hl hP hD hS h
        unfold f_X11_gathers_63 at h
        refine lv_iinc (v := (x2 + 1)) (lv' := [(2, .int (x2 + 1)), (0, .ref (a 0)), (1, .int x1)]) hx hb dX11_gathers_63 hl (k := 2) rfl rfl (by decide) rfl (fun ls hl => ?_)
        refine lv_goto (tgt := 7) hx hb dX11_gathers_66 (by decide) ?_
        exact ih7 x1 (x2 + 1) mUns mUM ls H locs (lv_sub hl [1, 2, 0] rfl) hP hD hS h
      intro x1 x2 mUns mUM ls H locs hl hP hD hS h
      rw [f_X11_gathers_7] at h
      refine lv_iload_n hx hb dX11_gathers_7 rfl (lv_at hl 2 rfl) ?_
      refine lv_aload_n hx hb dX11_gathers_8 rfl (lv_at hl 0 rfl) ?_
      refine va_get (D := D) (ci := 6) (v := .ref (a 1)) (C := RX11) (T := TX11) (N := 24) hx hb hts hi11 hown hK hP (0) (rfl) rfl 0 (by decide) kf7 (fun _ h9 => h9) rfl dX11_gathers_9 ?_
      refine lv_iload_n hx hb dX11_gathers_12 rfl (lv_at hl 1 rfl) ?_
      obtain ⟨g1, h⟩ := gIn_some h
      refine va_iald hx hb hK hP (1) 0 (rfl) rfl g1 dX11_gathers_13 ?_
      refine lv_icmp_ge (tgt := 69) hx hb dX11_gathers_14 (by decide) (fun c2 => ?_) (fun c2 => ?_)
      · replace h := (if_pos c2).symm.trans h
        have he := Option.some.inj h
        exact W.vret hx hb hr (fun t ht hW => ⟨⟨wM k a mSizes mSigns mOdds mPat mTyped mText mAt mFault mTests mTN mTS mTV mTB mRead mUns mUM mBA mBH mThere mTypes mHeld mItems mMoved mFind, rfl, (congrArg (fun z => wM k a mSizes mSigns mOdds mPat mTyped mText mAt mFault mTests mTN mTS mTV mTB mRead z.1 z.2 mBA mBH mThere mTypes mHeld mItems mMoved mFind) he), by rw [ht]; exact hP, va_K.moved hW.alike hK, hD⟩, hS.F ht⟩) hS.2.2 dX11_gathers_69
      · replace h := (if_neg c2).symm.trans h
        refine lv_aload_n hx hb dX11_gathers_17 rfl (lv_at hl 0 rfl) ?_
        refine va_get (D := D) (ci := 6) (v := .ref (a 2)) (C := RX11) (T := TX11) (N := 24) hx hb hts hi11 hown hK hP (0) (rfl) rfl 1 (by decide) kf13 (fun _ h9 => h9) rfl dX11_gathers_18 ?_
        refine lv_bipush (v := 15) hx hb dX11_gathers_21 (by decide) ?_
        refine lv_iload_n hx hb dX11_gathers_23 rfl (lv_at hl 1 rfl) ?_
        refine lv_imul hx hb dX11_gathers_24 ?_
        refine lv_iload_n hx hb dX11_gathers_25 rfl (lv_at hl 2 rfl) ?_
        refine lv_iadd hx hb dX11_gathers_26 ?_
        obtain ⟨g3, h⟩ := gIn_some h
        refine va_iald hx hb hK hP (2) 0 (rfl) rfl g3 dX11_gathers_27 ?_
        refine lv_iconst (v := (-1)) hx hb dX11_gathers_28 (by decide) ?_
        refine lv_icmp_ne (tgt := 63) hx hb dX11_gathers_29 (by decide) (fun c4 => ?_) (fun c4 => ?_)
        · replace h := (if_neg c4).symm.trans h
          exact J63 x1 x2 mUns mUM ls H locs (lv_sub hl [0, 1, 2] rfl) hP hD hS h
        · replace h := (if_pos c4).symm.trans h
          refine lv_aload_n hx hb dX11_gathers_32 rfl (lv_at hl 0 rfl) ?_
          refine va_get (D := D) (ci := 6) (v := .ref (a 8)) (C := RX11) (T := TX11) (N := 24) hx hb hts hi11 hown hK hP (0) (rfl) rfl 14 (by decide) kf39 (fun _ h9 => h9) rfl dX11_gathers_33 ?_
          refine lv_aload_n hx hb dX11_gathers_36 rfl (lv_at hl 0 rfl) ?_
          refine va_get (D := D) (ci := 6) (v := .int mUM) (C := RX11) (T := TX11) (N := 24) hx hb hts hi11 hown hK hP (0) (rfl) rfl 15 (by decide) kf151 (fun _ h9 => h9) rfl dX11_gathers_37 ?_
          refine lv_iconst (v := 1) hx hb dX11_gathers_40 (by decide) ?_
          refine lv_aload_n hx hb dX11_gathers_41 rfl (lv_at hl 0 rfl) ?_
          refine va_get (D := D) (ci := 6) (v := .ref (a 1)) (C := RX11) (T := TX11) (N := 24) hx hb hts hi11 hown hK hP (0) (rfl) rfl 0 (by decide) kf7 (fun _ h9 => h9) rfl dX11_gathers_42 ?_
          refine lv_iload_n hx hb dX11_gathers_45 rfl (lv_at hl 1 rfl) ?_
          refine va_iald hx hb hK hP (1) 0 (rfl) rfl g1 dX11_gathers_46 ?_
          refine lv_iconst (v := 1) hx hb dX11_gathers_47 (by decide) ?_
          refine lv_isub hx hb dX11_gathers_48 ?_
          refine lv_iload_n hx hb dX11_gathers_49 rfl (lv_at hl 2 rfl) ?_
          refine lv_isub hx hb dX11_gathers_50 ?_
          refine lv_ishl hx hb dX11_gathers_51 ?_
          obtain ⟨g5, h⟩ := gIn_some h
          refine va_iast hx hb hK hP hD hS (8) 0 (rfl) rfl g5 dX11_gathers_52 (fun H locs hP hD hS => ?_)
          have hP : va_P D vwCl (wM k a mSizes mSigns mOdds mPat mTyped mText mAt mFault mTests mTN mTS mTV mTB mRead (upd mUns mUM.toNatClampNeg ((1 : Int32) <<< ((((mSizes x1.toNatClampNeg) - 1) - x2) &&& 31))) mUM mBA mBH mThere mTypes mHeld mItems mMoved mFind) H := hP
          have hD : va_D A (wM k a mSizes mSigns mOdds mPat mTyped mText mAt mFault mTests mTN mTS mTV mTB mRead (upd mUns mUM.toNatClampNeg ((1 : Int32) <<< ((((mSizes x1.toNatClampNeg) - 1) - x2) &&& 31))) mUM mBA mBH mThere mTypes mHeld mItems mMoved mFind) := hD
          refine lv_aload_n hx hb dX11_gathers_53 rfl (lv_at hl 0 rfl) ?_
          refine lv_dup hx hb dX11_gathers_54 rfl ?_
          refine va_get (D := D) (ci := 6) (v := .int mUM) (C := RX11) (T := TX11) (N := 24) hx hb hts hi11 hown hK hP (0) (rfl) rfl 15 (by decide) kf151 (fun _ h9 => h9) rfl dX11_gathers_55 ?_
          refine lv_iconst (v := 1) hx hb dX11_gathers_58 (by decide) ?_
          refine lv_iadd hx hb dX11_gathers_59 ?_
          refine va_put (D := D) (ci := 6) (v := .int (mUM + 1)) (ty := .int) (C := RX11) (T := TX11) (N := 24) hx hb hts hi11 tyX11 tyX11_ok nmX11 hown hK hP hD hS (0) (rfl) rfl 15 (by decide) kf151 (fun _ h9 => h9) rfl (tyX11_ok 15 (by decide)) rfl rfl (Nat.le_of_ble_eq_true rfl) dX11_gathers_60 (fun H locs hP hD hS => ?_)
          have hP : va_P D vwCl (wM k a mSizes mSigns mOdds mPat mTyped mText mAt mFault mTests mTN mTS mTV mTB mRead (upd mUns mUM.toNatClampNeg ((1 : Int32) <<< ((((mSizes x1.toNatClampNeg) - 1) - x2) &&& 31))) (mUM + 1) mBA mBH mThere mTypes mHeld mItems mMoved mFind) H := hP
          have hD : va_D A (wM k a mSizes mSigns mOdds mPat mTyped mText mAt mFault mTests mTN mTS mTV mTB mRead (upd mUns mUM.toNatClampNeg ((1 : Int32) <<< ((((mSizes x1.toNatClampNeg) - 1) - x2) &&& 31))) (mUM + 1) mBA mBH mThere mTypes mHeld mItems mMoved mFind) := hD
          exact J63 x1 x2 (upd mUns mUM.toNatClampNeg ((1 : Int32) <<< ((((mSizes x1.toNatClampNeg) - 1) - x2) &&& 31))) (mUM + 1) ls H locs (lv_sub hl [0, 1, 2] rfl) hP hD hS h
  obtain ⟨H, hH⟩ : ∃ H : Heap, H = s.heap := ⟨_, rfl⟩
  obtain ⟨locs, hlc⟩ : ∃ locs : List Loc, locs = [] := ⟨_, rfl⟩
  have hS : va_S A s.heap H locs := by rw [hH, hlc]; exact va_S.rf
  have hP : va_P D vwCl (wM k a mSizes mSigns mOdds mPat mTyped mText mAt mFault mTests mTN mTS mTV mTB mRead mUns mUM mBA mBH mThere mTypes mHeld mItems mMoved mFind) H := by rw [hH]; exact hP
  suffices hGo : gQv p l e wo_X11_gathers 0 s m args below meth c D k A  (wM k a mSizes mSigns mOdds mPat mTyped mText mAt mFault mTests mTN mTS mTV mTB mRead o.1 o.2 mBA mBH mThere mTypes mHeld mItems mMoved mFind) H locs (F0 m 0 ls []) by rw [hH, hlc] at hGo; exact hGo
  refine lv_aload_n hx hb dX11_gathers_0 rfl (lv_at hl 0 rfl) ?_
  refine lv_iconst (v := 0) hx hb dX11_gathers_1 (by decide) ?_
  refine va_put (D := D) (ci := 6) (v := .int 0) (ty := .int) (C := RX11) (T := TX11) (N := 24) hx hb hts hi11 tyX11 tyX11_ok nmX11 hown hK hP hD hS (0) (rfl) rfl 15 (by decide) kf151 (fun _ h9 => h9) rfl (tyX11_ok 15 (by decide)) rfl rfl (Nat.le_of_ble_eq_true rfl) dX11_gathers_2 (fun H locs hP hD hS => ?_)
  have hP : va_P D vwCl (wM k a mSizes mSigns mOdds mPat mTyped mText mAt mFault mTests mTN mTS mTV mTB mRead mUns 0 mBA mBH mThere mTypes mHeld mItems mMoved mFind) H := hP
  have hD : va_D A (wM k a mSizes mSigns mOdds mPat mTyped mText mAt mFault mTests mTN mTS mTV mTB mRead mUns 0 mBA mBH mThere mTypes mHeld mItems mMoved mFind) := hD
  refine lv_iconst (v := 0) hx hb dX11_gathers_5 (by decide) ?_
  refine lv_istore_n (lv' := [(2, .int 0), (0, .ref (a 0)), (1, .int x1)]) hx hb dX11_gathers_6 rfl hl (by decide) rfl (fun ls hl => ?_)
  exact L7 N x1 0 mUns 0 ls H locs (lv_sub hl [1, 2, 0] rfl) hP hD hS h
set_option maxHeartbeats 4000000 in
set_option maxRecDepth 100000 in
theorem c_X11_gathers {N : Nat} (l : Launch) (D : va_G) (k : Nat → ClassId) (a : Nat → Nat) (mSizes : Nat → Int32) (mSigns : Nat → Int32) (mOdds : Int32) (mPat : Int32) (mTyped : Int32) (mText : Nat → Int32) (mAt : Int32) (mFault : Int32) (mTests : Int32) (mTN : Nat → Int32) (mTS : Nat → Int32) (mTV : Nat → Int32) (mTB : Nat → Int32) (mRead : Int32) (mUns : Nat → Int32) (mUM : Int32) (mBA : Int32) (mBH : Int32) (mThere : Nat → Int32) (mTypes : Nat → Int32) (mHeld : Nat → Int32) (mItems : Nat → Int32) (mMoved : Nat → Int32) (mFind : Int32) (x1 : Int32) {o : (Nat → Int32) × (Int32)} (h : f_X11_gathers N x1 mSizes mSigns mUns mUM = some o) : mQv l yX11_gathers wo_X11_gathers 0 D k [.ref (a 0), .int x1] (wM k a mSizes mSigns mOdds mPat mTyped mText mAt mFault mTests mTN mTS mTV mTB mRead mUns mUM mBA mBH mThere mTypes mHeld mItems mMoved mFind) (wM k a mSizes mSigns mOdds mPat mTyped mText mAt mFault mTests mTN mTS mTV mTB mRead o.1 o.2 mBA mBH mThere mTypes mHeld mItems mMoved mFind) := by
  intro sz
  refine Met.ofW (cc := cX11_gathers) (maxL := 3) (ret := none) (by decide) rfl ?_
  intro p e s m args below meth c s₁ B hml hv
  obtain ⟨rfl, hsz, hP, hK, hD0⟩ := hv
  subst hsz
  rw [lg_entry_eq]
  exact core_X11_gathers D k a mSizes mSigns mOdds mPat mTyped mText mAt mFault mTests mTN mTS mTV mTB mRead mUns mUM mBA mBH mThere mTypes mHeld mItems mMoved mFind x1 B.exec B.bytes hml B.returns (atoms_spec (ws := wo_X11_gathers) B.pre) (findClass_of_methodNamed B.named) B.notSynchronized (lv_entry [.ref (a 0), .int x1] (n := 3) (Nat.le_of_ble_eq_true rfl)) hK hP hD0.self (fun q h => Or.inr h) h
theorem qd_X11_gathers : yX11_gathers.cls = RX11 ∧ yX11_gathers.cls ≠ "java/lang/invoke/MethodHandle" ∧ yX11_gathers.cls ≠ "java/lang/invoke/VarHandle" ∧ (parseMethodDescriptor yX11_gathers.desc).map (fun d => d.parameters.length) = some 1 := by decide +kernel
abbrev wo_X11_fill : List Cond := .code yX11_fill cX11_fill 5 (some .int) :: wsL_law
set_option maxHeartbeats 4000000 in
set_option maxRecDepth 100000 in
theorem core_X11_fill {N : Nat} (D : va_G) (k : Nat → ClassId) (a : Nat → Nat) (mSizes : Nat → Int32) (mSigns : Nat → Int32) (mOdds : Int32) (mPat : Int32) (mTyped : Int32) (mText : Nat → Int32) (mAt : Int32) (mFault : Int32) (mTests : Int32) (mTN : Nat → Int32) (mTS : Nat → Int32) (mTV : Nat → Int32) (mTB : Nat → Int32) (mRead : Int32) (mUns : Nat → Int32) (mUM : Int32) (mBA : Int32) (mBH : Int32) (mThere : Nat → Int32) (mTypes : Nat → Int32) (mHeld : Nat → Int32) (mItems : Nat → Int32) (mMoved : Nat → Int32) (mFind : Int32) (x1 : Int32) (x2 : Int32) {p : Program} {l : Launch} {e : Env} {s : State} {m : MethodId} {args : Array Value} {below : List Frame} {meth : Method} {c : Code} {ls : Array Slot} (hx : p.tables.exec = Jvm.exec) (hb : c.code = cX11_fill) (hml : c.maxLocals = 5) (hr : meth.sig.returnType = some .int) (hts : ∀ w ∈ wo_X11_fill, w.before args s = true) (hown : s.vm.findClass RX11 = some m.cls) (hlocks : meth.locks = false) (hl : lv_has ls 5 [(0, .ref (a 0)), (1, .int x1), (2, .int x2)]) (hK : va_K D vwCl (xTys k) s) (hP : va_P D vwCl (wM k a mSizes mSigns mOdds mPat mTyped mText mAt mFault mTests mTN mTS mTV mTB mRead mUns mUM mBA mBH mThere mTypes mHeld mItems mMoved mFind) s.heap) {o : Int32} (h : f_X11_fill N x1 x2 mSizes mSigns mUns mUM = some o) : gRi p l e wo_X11_fill 1 s m args below meth c o (F0 m 0 ls []) := by
  have hi11 := (fun w h => List.mem_cons_of_mem _ (inlX11 w h) : ∀ w ∈ wsX110, w ∈ wo_X11_fill)
  have kf151 := hts _ (List.mem_cons_of_mem _ wm_555)
  have kf39 := hts _ (List.mem_cons_of_mem _ wm_81)
  unfold f_X11_fill at h
  have L9 : ∀ (n9 : Nat) (x2 : Int32) (x3 : Int32) (x4 : Int32) (ls : Array Slot) (hl : lv_has ls 5 [(0, .ref (a 0)), (2, .int x2), (3, .int x3), (4, .int x4)]) (h : f_X11_fill_9 N n9 x2 x3 x4 mSizes mSigns mUns mUM = some o), gRi p l e wo_X11_fill 1 s m args below meth c o (F0 m 9 ls []) := by
    intro n9
    induction n9 with
    | zero => intro x2 x3 x4 ls hl h; cases (show (none : Option (Int32)) = some o from h)
    | succ n9 ih9 =>
      have J40 : ∀ (x2 : Int32) (x4 : Int32) (s0 : Int32) (s1 : Int32) (ls : Array Slot) (hl : lv_has ls 5 [(0, .ref (a 0)), (2, .int x2), (4, .int x4)]) (h : f_X11_fill_40 N (fun y0 y1 y2 y3 y4 y5 y6 => f_X11_fill_9 N n9 y0 y1 y2 y3 y4 y5 y6) x2 x4 s0 s1 mSizes mSigns mUns mUM = some o), gRi p l e wo_X11_fill 1 s m args below meth c o (F0 m 40 ls [.int s1, .int s0]) := by
        intro x2 x4 s0 s1 ls hl h
        unfold f_X11_fill_40 at h
        refine lv_ior hx hb dX11_fill_40 ?_
        refine lv_istore_n (lv' := [(3, .int (s0 ||| s1)), (0, .ref (a 0)), (2, .int x2), (4, .int x4)]) hx hb dX11_fill_41 rfl hl (by decide) rfl (fun ls hl => ?_)
        refine lv_iinc (v := (x4 + 1)) (lv' := [(4, .int (x4 + 1)), (3, .int (s0 ||| s1)), (0, .ref (a 0)), (2, .int x2)]) hx hb dX11_fill_42 hl (k := 3) rfl rfl (by decide) rfl (fun ls hl => ?_)
        refine lv_goto (tgt := 9) hx hb dX11_fill_45 (by decide) ?_
        exact ih9 x2 (s0 ||| s1) (x4 + 1) ls (lv_sub hl [2, 3, 1, 0] rfl) h
      intro x2 x3 x4 ls hl h
      rw [f_X11_fill_9] at h
      refine lv_iload hx hb dX11_fill_9 (lv_at hl 3 rfl) ?_
      refine lv_aload_n hx hb dX11_fill_11 rfl (lv_at hl 0 rfl) ?_
      refine va_get (D := D) (ci := 6) (v := .int mUM) (C := RX11) (T := TX11) (N := 24) hx hb hts hi11 hown hK hP (0) (rfl) rfl 15 (by decide) kf151 (fun _ h9 => h9) rfl dX11_fill_12 ?_
      refine lv_icmp_ge (tgt := 48) hx hb dX11_fill_15 (by decide) (fun c1 => ?_) (fun c1 => ?_)
      · replace h := (if_pos c1).symm.trans h
        refine lv_iload_n hx hb dX11_fill_48 rfl (lv_at hl 2 rfl) ?_
        exact W.iret (v := x3) hx hb hr (fun t ht hW => ⟨_, rfl, Option.some.inj h, ht⟩) (fun q hq => by cases hq) dX11_fill_49
      · replace h := (if_neg c1).symm.trans h
        refine lv_iload_n hx hb dX11_fill_18 rfl (lv_at hl 2 rfl) ?_
        refine lv_iload_n hx hb dX11_fill_19 rfl (lv_at hl 1 rfl) ?_
        refine lv_iload hx hb dX11_fill_20 (lv_at hl 3 rfl) ?_
        refine lv_ishr hx hb dX11_fill_22 ?_
        refine lv_iconst (v := 1) hx hb dX11_fill_23 (by decide) ?_
        refine lv_iand hx hb dX11_fill_24 ?_
        refine lv_iconst (v := 1) hx hb dX11_fill_25 (by decide) ?_
        refine lv_icmp_ne (tgt := 39) hx hb dX11_fill_26 (by decide) (fun c2 => ?_) (fun c2 => ?_)
        · replace h := (if_neg c2).symm.trans h
          refine lv_iconst (v := 0) hx hb dX11_fill_39 (by decide) ?_
          exact J40 x2 x4 x3 0 ls (lv_sub hl [0, 1, 3] rfl) h
        · replace h := (if_pos c2).symm.trans h
          refine lv_aload_n hx hb dX11_fill_29 rfl (lv_at hl 0 rfl) ?_
          refine va_get (D := D) (ci := 6) (v := .ref (a 8)) (C := RX11) (T := TX11) (N := 24) hx hb hts hi11 hown hK hP (0) (rfl) rfl 14 (by decide) kf39 (fun _ h9 => h9) rfl dX11_fill_30 ?_
          refine lv_iload hx hb dX11_fill_33 (lv_at hl 3 rfl) ?_
          obtain ⟨g3, h⟩ := gIn_some h
          refine va_iald hx hb hK hP (8) 0 (rfl) rfl g3 dX11_fill_35 ?_
          refine lv_goto (tgt := 40) hx hb dX11_fill_36 (by decide) ?_
          exact J40 x2 x4 x3 (mUns x4.toNatClampNeg) ls (lv_sub hl [0, 1, 3] rfl) h
  refine lv_aload_n hx hb dX11_fill_0 rfl (lv_at hl 0 rfl) ?_
  refine lv_iload_n hx hb dX11_fill_1 rfl (lv_at hl 1 rfl) ?_
  obtain ⟨o4, eq5, h⟩ := bnd_some h
  refine kRiV (rest := []) (q0 := 0) ⟨hx, hb, hml, hown, hts⟩ (c_X11_bitsOf l D k a mSizes mSigns mOdds mPat mTyped mText mAt mFault mTests mTN mTS mTV mTB mRead mUns mUM mBA mBH mThere mTypes mHeld mItems mMoved mFind x1 eq5) (cwV 1 hts (gAV wm_245 wm_246 wm_247 wm_5 wm_248) rfl rfl rfl qd_X11_bitsOf ⟨Nat.le_of_ble_eq_true rfl, Nat.le_of_ble_eq_true rfl⟩) hK hP (rfl) rfl rfl hl.1 rfl (Nat.le_of_ble_eq_true rfl) dX11_fill_2 ⟨Nat.zero_le _, Nat.zero_le _⟩ ?_
  refine lv_istore_n (lv' := [(3, .int o4), (0, .ref (a 0)), (1, .int x1), (2, .int x2)]) hx hb dX11_fill_5 rfl hl (by decide) rfl (fun ls hl => ?_)
  refine lv_iconst (v := 0) hx hb dX11_fill_6 (by decide) ?_
  refine lv_istore (lv' := [(4, .int 0), (3, .int o4), (0, .ref (a 0)), (1, .int x1), (2, .int x2)]) hx hb dX11_fill_7 hl (by decide) rfl (fun ls hl => ?_)
  exact L9 N x2 o4 0 ls (lv_sub hl [2, 4, 1, 0] rfl) h
set_option maxHeartbeats 4000000 in
set_option maxRecDepth 100000 in
theorem c_X11_fill {N : Nat} (l : Launch) (D : va_G) (k : Nat → ClassId) (a : Nat → Nat) (mSizes : Nat → Int32) (mSigns : Nat → Int32) (mOdds : Int32) (mPat : Int32) (mTyped : Int32) (mText : Nat → Int32) (mAt : Int32) (mFault : Int32) (mTests : Int32) (mTN : Nat → Int32) (mTS : Nat → Int32) (mTV : Nat → Int32) (mTB : Nat → Int32) (mRead : Int32) (mUns : Nat → Int32) (mUM : Int32) (mBA : Int32) (mBH : Int32) (mThere : Nat → Int32) (mTypes : Nat → Int32) (mHeld : Nat → Int32) (mItems : Nat → Int32) (mMoved : Nat → Int32) (mFind : Int32) (x1 : Int32) (x2 : Int32) {o : Int32} (h : f_X11_fill N x1 x2 mSizes mSigns mUns mUM = some o) : mRi l yX11_fill wo_X11_fill 1 D k [.ref (a 0), .int x1, .int x2] (wM k a mSizes mSigns mOdds mPat mTyped mText mAt mFault mTests mTN mTS mTV mTB mRead mUns mUM mBA mBH mThere mTypes mHeld mItems mMoved mFind) o := by
  refine Met.ofW (cc := cX11_fill) (maxL := 5) (ret := some .int) (by decide) rfl ?_
  intro p e s m args below meth c s₁ B hml hv
  obtain ⟨rfl, hP, hK⟩ := hv
  rw [lg_entry_eq]
  exact core_X11_fill D k a mSizes mSigns mOdds mPat mTyped mText mAt mFault mTests mTN mTS mTV mTB mRead mUns mUM mBA mBH mThere mTypes mHeld mItems mMoved mFind x1 x2 B.exec B.bytes hml B.returns (atoms_spec (ws := wo_X11_fill) B.pre) (findClass_of_methodNamed B.named) B.notSynchronized (lv_entry [.ref (a 0), .int x1, .int x2] (n := 5) (Nat.le_of_ble_eq_true rfl)) hK hP h
theorem qd_X11_fill : yX11_fill.cls = RX11 ∧ yX11_fill.cls ≠ "java/lang/invoke/MethodHandle" ∧ yX11_fill.cls ≠ "java/lang/invoke/VarHandle" ∧ (parseMethodDescriptor yX11_fill.desc).map (fun d => d.parameters.length) = some 2 := by decide +kernel
abbrev wo_X11_fills : List Cond := .code yX11_fills cX11_fills 5 (some .int) :: wsL_law
set_option maxHeartbeats 4000000 in
set_option maxRecDepth 100000 in
theorem core_X11_fills {N : Nat} (D : va_G) (k : Nat → ClassId) (a : Nat → Nat) (mSizes : Nat → Int32) (mSigns : Nat → Int32) (mOdds : Int32) (mPat : Int32) (mTyped : Int32) (mText : Nat → Int32) (mAt : Int32) (mFault : Int32) (mTests : Int32) (mTN : Nat → Int32) (mTS : Nat → Int32) (mTV : Nat → Int32) (mTB : Nat → Int32) (mRead : Int32) (mUns : Nat → Int32) (mUM : Int32) (mBA : Int32) (mBH : Int32) (mThere : Nat → Int32) (mTypes : Nat → Int32) (mHeld : Nat → Int32) (mItems : Nat → Int32) (mMoved : Nat → Int32) (mFind : Int32) (x1 : Int32) (x2 : Int32) {p : Program} {l : Launch} {e : Env} {s : State} {m : MethodId} {args : Array Value} {below : List Frame} {meth : Method} {c : Code} {ls : Array Slot} (hx : p.tables.exec = Jvm.exec) (hb : c.code = cX11_fills) (hml : c.maxLocals = 5) (hr : meth.sig.returnType = some .int) (hts : ∀ w ∈ wo_X11_fills, w.before args s = true) (hown : s.vm.findClass RX11 = some m.cls) (hlocks : meth.locks = false) (hl : lv_has ls 5 [(0, .ref (a 0)), (1, .int x1), (2, .int x2)]) (hK : va_K D vwCl (xTys k) s) (hP : va_P D vwCl (wM k a mSizes mSigns mOdds mPat mTyped mText mAt mFault mTests mTN mTS mTV mTB mRead mUns mUM mBA mBH mThere mTypes mHeld mItems mMoved mFind) s.heap) {A : Nat → Prop} (hD : va_D A (wM k a mSizes mSigns mOdds mPat mTyped mText mAt mFault mTests mTN mTS mTV mTB mRead mUns mUM mBA mBH mThere mTypes mHeld mItems mMoved mFind)) (hA : ∀ q : Nat, s.heap.size ≤ q → A q) {o : Int32 × (Int32) × (Int32) × (Int32) × (Nat → Int32) × (Nat → Int32) × (Nat → Int32) × (Nat → Int32) × (Int32) × (Nat → Int32) × (Int32)} (h : f_X11_fills N x1 x2 mSizes mSigns mPat mTyped mText mAt mFault mTests mTN mTS mTV mTB mRead mUns mUM = some o) : gQi p l e wo_X11_fills 4 s m args below meth c D k A o.1 (wM k a mSizes mSigns mOdds mPat mTyped mText o.2.1 o.2.2.1 o.2.2.2.1 o.2.2.2.2.1 o.2.2.2.2.2.1 o.2.2.2.2.2.2.1 o.2.2.2.2.2.2.2.1 o.2.2.2.2.2.2.2.2.1 o.2.2.2.2.2.2.2.2.2.1 o.2.2.2.2.2.2.2.2.2.2 mBA mBH mThere mTypes mHeld mItems mMoved mFind) s.heap [] (F0 m 0 ls []) := by
  have hi11 := (fun w h => List.mem_cons_of_mem _ (inlX11 w h) : ∀ w ∈ wsX110, w ∈ wo_X11_fills)
  have kf151 := hts _ (List.mem_cons_of_mem _ wm_555)
  have kf7 := hts _ (List.mem_cons_of_mem _ wm_72)
  unfold f_X11_fills at h
  have hS : va_S A s.heap s.heap [] := va_S.rf
  have L51 : ∀ (n51 : Nat) (x1 : Int32) (x3 : Int32) (x4 : Int32) (mAt : Int32) (mFault : Int32) (mTests : Int32) (mTN : Nat → Int32) (mTS : Nat → Int32) (mTV : Nat → Int32) (mTB : Nat → Int32) (mRead : Int32) (mUns : Nat → Int32) (mUM : Int32) (ls : Array Slot) (H : Heap) (locs : List Loc) (hl : lv_has ls 5 [(0, .ref (a 0)), (1, .int x1), (3, .int x3), (4, .int x4)]) (hP : va_P D vwCl (wM k a mSizes mSigns mOdds mPat mTyped mText mAt mFault mTests mTN mTS mTV mTB mRead mUns mUM mBA mBH mThere mTypes mHeld mItems mMoved mFind) H) (hD : va_D A (wM k a mSizes mSigns mOdds mPat mTyped mText mAt mFault mTests mTN mTS mTV mTB mRead mUns mUM mBA mBH mThere mTypes mHeld mItems mMoved mFind)) (hS : va_S A s.heap H locs) (h : f_X11_fills_51 N n51 x1 x3 x4 mSizes mSigns mPat mTyped mText mAt mFault mTests mTN mTS mTV mTB mRead mUns mUM = some o), gQi p l e wo_X11_fills 4 s m args below meth c D k A o.1 (wM k a mSizes mSigns mOdds mPat mTyped mText o.2.1 o.2.2.1 o.2.2.2.1 o.2.2.2.2.1 o.2.2.2.2.2.1 o.2.2.2.2.2.2.1 o.2.2.2.2.2.2.2.1 o.2.2.2.2.2.2.2.2.1 o.2.2.2.2.2.2.2.2.2.1 o.2.2.2.2.2.2.2.2.2.2 mBA mBH mThere mTypes mHeld mItems mMoved mFind) H locs (F0 m 51 ls []) := by
    intro n51
    induction n51 with
    | zero => intro x1 x3 x4 mAt mFault mTests mTN mTS mTV mTB mRead mUns mUM ls H locs hl hP hD hS h; cases (show (none : Option (Int32 × (Int32) × (Int32) × (Int32) × (Nat → Int32) × (Nat → Int32) × (Nat → Int32) × (Nat → Int32) × (Int32) × (Nat → Int32) × (Int32))) = some o from h)
    | succ n51 ih51 =>
      have J88 : ∀ (x1 : Int32) (x4 : Int32) (s0 : Int32) (s1 : Int32) (mAt : Int32) (mFault : Int32) (mTests : Int32) (mTN : Nat → Int32) (mTS : Nat → Int32) (mTV : Nat → Int32) (mTB : Nat → Int32) (mRead : Int32) (mUns : Nat → Int32) (mUM : Int32) (ls : Array Slot) (H : Heap) (locs : List Loc) (hl : lv_has ls 5 [(0, .ref (a 0)), (1, .int x1), (4, .int x4)]) (hP : va_P D vwCl (wM k a mSizes mSigns mOdds mPat mTyped mText mAt mFault mTests mTN mTS mTV mTB mRead mUns mUM mBA mBH mThere mTypes mHeld mItems mMoved mFind) H) (hD : va_D A (wM k a mSizes mSigns mOdds mPat mTyped mText mAt mFault mTests mTN mTS mTV mTB mRead mUns mUM mBA mBH mThere mTypes mHeld mItems mMoved mFind)) (hS : va_S A s.heap H locs) (h : f_X11_fills_88 N (fun y0 y1 y2 y3 y4 y5 y6 y7 y8 y9 y10 y11 y12 y13 y14 y15 y16 y17 => f_X11_fills_51 N n51 y0 y1 y2 y3 y4 y5 y6 y7 y8 y9 y10 y11 y12 y13 y14 y15 y16 y17) x1 x4 s0 s1 mSizes mSigns mPat mTyped mText mAt mFault mTests mTN mTS mTV mTB mRead mUns mUM = some o), gQi p l e wo_X11_fills 4 s m args below meth c D k A o.1 (wM k a mSizes mSigns mOdds mPat mTyped mText o.2.1 o.2.2.1 o.2.2.2.1 o.2.2.2.2.1 o.2.2.2.2.2.1 o.2.2.2.2.2.2.1 o.2.2.2.2.2.2.2.1 o.2.2.2.2.2.2.2.2.1 o.2.2.2.2.2.2.2.2.2.1 o.2.2.2.2.2.2.2.2.2.2 mBA mBH mThere mTypes mHeld mItems mMoved mFind) H locs (F0 m 88 ls [.int s1, .int s0]) := by
        intro x1 x4 s0 s1 mAt mFault mTests mTN mTS mTV mTB mRead mUns mUM ls H locs hl hP hD hS h
        unfold f_X11_fills_88 at h
        refine lv_iadd hx hb dX11_fills_88 ?_
        refine lv_istore_n (lv' := [(3, .int (s0 + s1)), (0, .ref (a 0)), (1, .int x1), (4, .int x4)]) hx hb dX11_fills_89 rfl hl (by decide) rfl (fun ls hl => ?_)
        refine lv_iinc (v := (x4 + 1)) (lv' := [(4, .int (x4 + 1)), (3, .int (s0 + s1)), (0, .ref (a 0)), (1, .int x1)]) hx hb dX11_fills_90 hl (k := 3) rfl rfl (by decide) rfl (fun ls hl => ?_)
        refine lv_goto (tgt := 51) hx hb dX11_fills_93 (by decide) ?_
        exact ih51 x1 (s0 + s1) (x4 + 1) mAt mFault mTests mTN mTS mTV mTB mRead mUns mUM ls H locs (lv_sub hl [2, 3, 1, 0] rfl) hP hD hS h
      intro x1 x3 x4 mAt mFault mTests mTN mTS mTV mTB mRead mUns mUM ls H locs hl hP hD hS h
      rw [f_X11_fills_51] at h
      refine lv_iload hx hb dX11_fills_51 (lv_at hl 3 rfl) ?_
      refine lv_iconst (v := 1) hx hb dX11_fills_53 (by decide) ?_
      refine lv_aload_n hx hb dX11_fills_54 rfl (lv_at hl 0 rfl) ?_
      refine va_get (D := D) (ci := 6) (v := .int mUM) (C := RX11) (T := TX11) (N := 24) hx hb hts hi11 hown hK hP (0) (rfl) rfl 15 (by decide) kf151 (fun _ h9 => h9) rfl dX11_fills_55 ?_
      refine lv_ishl hx hb dX11_fills_58 ?_
      refine lv_icmp_ge (tgt := 96) hx hb dX11_fills_59 (by decide) (fun c1 => ?_) (fun c1 => ?_)
      · replace h := (if_pos c1).symm.trans h
        refine lv_iload_n hx hb dX11_fills_96 rfl (lv_at hl 2 rfl) ?_
        have he := Option.some.inj h
        exact W.iret (v := x3) hx hb hr (fun t ht hW => ⟨⟨x3, wM k a mSizes mSigns mOdds mPat mTyped mText mAt mFault mTests mTN mTS mTV mTB mRead mUns mUM mBA mBH mThere mTypes mHeld mItems mMoved mFind, rfl, ⟨(congrArg (fun z => z.1) he), (congrArg (fun z => wM k a mSizes mSigns mOdds mPat mTyped mText z.2.1 z.2.2.1 z.2.2.2.1 z.2.2.2.2.1 z.2.2.2.2.2.1 z.2.2.2.2.2.2.1 z.2.2.2.2.2.2.2.1 z.2.2.2.2.2.2.2.2.1 z.2.2.2.2.2.2.2.2.2.1 z.2.2.2.2.2.2.2.2.2.2 mBA mBH mThere mTypes mHeld mItems mMoved mFind) he)⟩, by rw [ht]; exact hP, va_K.moved hW.alike hK, hD⟩, hS.F ht⟩) hS.2.2 dX11_fills_97
      · replace h := (if_neg c1).symm.trans h
        refine lv_iload_n hx hb dX11_fills_62 rfl (lv_at hl 2 rfl) ?_
        refine lv_aload_n hx hb dX11_fills_63 rfl (lv_at hl 0 rfl) ?_
        refine lv_aload_n hx hb dX11_fills_64 rfl (lv_at hl 0 rfl) ?_
        refine lv_iload_n hx hb dX11_fills_65 rfl (lv_at hl 1 rfl) ?_
        refine lv_iload hx hb dX11_fills_66 (lv_at hl 3 rfl) ?_
        obtain ⟨o2, eq3, h⟩ := bnd_some h
        refine kRiV (rest := [.ref (a 0), .int x3]) (q0 := 0) ⟨hx, hb, hml, hown, hts⟩ (c_X11_fill l D k a mSizes mSigns mOdds mPat mTyped mText mAt mFault mTests mTN mTS mTV mTB mRead mUns mUM mBA mBH mThere mTypes mHeld mItems mMoved mFind x1 x4 eq3) (cwV 2 hts (gAV wm_560 wm_561 wm_562 wm_5 wm_563) rfl rfl rfl qd_X11_fill ⟨Nat.le_of_ble_eq_true rfl, Nat.le_of_ble_eq_true rfl⟩) hK hP (rfl) rfl rfl hl.1 rfl (Nat.le_of_ble_eq_true rfl) dX11_fills_68 ⟨Nat.zero_le _, Nat.zero_le _⟩ ?_
        refine lv_aload_n hx hb dX11_fills_71 rfl (lv_at hl 0 rfl) ?_
        refine va_get (D := D) (ci := 6) (v := .ref (a 1)) (C := RX11) (T := TX11) (N := 24) hx hb hts hi11 hown hK hP (0) (rfl) rfl 0 (by decide) kf7 (fun _ h9 => h9) rfl dX11_fills_72 ?_
        refine lv_iload_n hx hb dX11_fills_75 rfl (lv_at hl 1 rfl) ?_
        obtain ⟨g4, h⟩ := gIn_some h
        refine va_iald hx hb hK hP (1) 0 (rfl) rfl g4 dX11_fills_76 ?_
        obtain ⟨o5, eq6, h⟩ := bnd_some h
        refine kRiV (rest := [.int x3]) (q0 := 0) ⟨hx, hb, hml, hown, hts⟩ (c_X11_does l D k a mSizes mSigns mOdds mPat mTyped mText mAt mFault mTests mTN mTS mTV mTB mRead mUns mUM mBA mBH mThere mTypes mHeld mItems mMoved mFind o2 (mSizes x1.toNatClampNeg) eq6) (cwV 2 hts (gAV wm_455 wm_456 wm_457 wm_5 wm_458) rfl rfl rfl qd_X11_does ⟨Nat.le_of_ble_eq_true rfl, Nat.le_of_ble_eq_true rfl⟩) hK hP (rfl) rfl rfl hl.1 rfl (Nat.le_of_ble_eq_true rfl) dX11_fills_77 ⟨Nat.zero_le _, Nat.zero_le _⟩ ?_
        refine lv_if_eq (tgt := 87) hx hb dX11_fills_80 (by decide) (fun c7 => ?_) (fun c7 => ?_)
        · replace h := (if_pos c7).symm.trans h
          refine lv_iconst (v := 0) hx hb dX11_fills_87 (by decide) ?_
          exact J88 x1 x4 x3 0 mAt mFault mTests mTN mTS mTV mTB mRead mUns mUM ls H locs (lv_sub hl [0, 1, 3] rfl) hP hD hS h
        · replace h := (if_neg c7).symm.trans h
          refine lv_iconst (v := 1) hx hb dX11_fills_83 (by decide) ?_
          refine lv_goto (tgt := 88) hx hb dX11_fills_84 (by decide) ?_
          exact J88 x1 x4 x3 1 mAt mFault mTests mTN mTS mTV mTB mRead mUns mUM ls H locs (lv_sub hl [0, 1, 3] rfl) hP hD hS h
  obtain ⟨H, hH⟩ : ∃ H : Heap, H = s.heap := ⟨_, rfl⟩
  obtain ⟨locs, hlc⟩ : ∃ locs : List Loc, locs = [] := ⟨_, rfl⟩
  have hS : va_S A s.heap H locs := by rw [hH, hlc]; exact va_S.rf
  have hP : va_P D vwCl (wM k a mSizes mSigns mOdds mPat mTyped mText mAt mFault mTests mTN mTS mTV mTB mRead mUns mUM mBA mBH mThere mTypes mHeld mItems mMoved mFind) H := by rw [hH]; exact hP
  suffices hGo : gQi p l e wo_X11_fills 4 s m args below meth c D k A o.1 (wM k a mSizes mSigns mOdds mPat mTyped mText o.2.1 o.2.2.1 o.2.2.2.1 o.2.2.2.2.1 o.2.2.2.2.2.1 o.2.2.2.2.2.2.1 o.2.2.2.2.2.2.2.1 o.2.2.2.2.2.2.2.2.1 o.2.2.2.2.2.2.2.2.2.1 o.2.2.2.2.2.2.2.2.2.2 mBA mBH mThere mTypes mHeld mItems mMoved mFind) H locs (F0 m 0 ls []) by rw [hH, hlc] at hGo; exact hGo
  refine lv_iload_n hx hb dX11_fills_0 rfl (lv_at hl 1 rfl) ?_
  obtain ⟨o8, eq9, h⟩ := bnd_some h
  refine kPi (rest := []) ⟨hx, hb, hml, hown, hts⟩ (c_X11_isRow l x1 eq9) (va_cwS 1 hts (gAS wm_117 wm_118 wm_5 wm_119) rfl rfl rfl qd_X11_isRow ⟨Nat.le_of_ble_eq_true rfl, Nat.le_of_ble_eq_true rfl⟩) rfl hl.1 rfl (Nat.le_of_ble_eq_true rfl) dX11_fills_1 ⟨Nat.zero_le _, Nat.zero_le _⟩ ?_
  refine lv_if_eq (tgt := 16) hx hb dX11_fills_4 (by decide) (fun c10 => ?_) (fun c10 => ?_)
  · replace h := (if_pos c10).symm.trans h
    refine lv_bipush (v := (-2)) hx hb dX11_fills_16 (by decide) ?_
    have he := Option.some.inj h
    exact W.iret (v := (-2)) hx hb hr (fun t ht hW => ⟨⟨(-2), wM k a mSizes mSigns mOdds mPat mTyped mText mAt mFault mTests mTN mTS mTV mTB mRead mUns mUM mBA mBH mThere mTypes mHeld mItems mMoved mFind, rfl, ⟨(congrArg (fun z => z.1) he), (congrArg (fun z => wM k a mSizes mSigns mOdds mPat mTyped mText z.2.1 z.2.2.1 z.2.2.2.1 z.2.2.2.2.1 z.2.2.2.2.2.1 z.2.2.2.2.2.2.1 z.2.2.2.2.2.2.2.1 z.2.2.2.2.2.2.2.2.1 z.2.2.2.2.2.2.2.2.2.1 z.2.2.2.2.2.2.2.2.2.2 mBA mBH mThere mTypes mHeld mItems mMoved mFind) he)⟩, by rw [ht]; exact hP, va_K.moved hW.alike hK, hD⟩, hS.F ht⟩) hS.2.2 dX11_fills_18
  · replace h := (if_neg c10).symm.trans h
    refine lv_iload_n hx hb dX11_fills_7 rfl (lv_at hl 2 rfl) ?_
    refine lv_iconst (v := 0) hx hb dX11_fills_8 (by decide) ?_
    refine lv_iconst (v := 1) hx hb dX11_fills_9 (by decide) ?_
    obtain ⟨o11, eq12, h⟩ := bnd_some h
    refine kPi (rest := []) ⟨hx, hb, hml, hown, hts⟩ (c_X11_in l x2 0 1 eq12) (va_cwS 3 hts (gAS wm_120 wm_121 wm_5 wm_122) rfl rfl rfl qd_X11_in ⟨Nat.le_of_ble_eq_true rfl, Nat.le_of_ble_eq_true rfl⟩) rfl hl.1 rfl (Nat.le_of_ble_eq_true rfl) dX11_fills_10 ⟨Nat.zero_le _, Nat.zero_le _⟩ ?_
    refine lv_if_ne (tgt := 19) hx hb dX11_fills_13 (by decide) (fun c13 => ?_) (fun c13 => ?_)
    · replace h := (if_neg c13).symm.trans h
      refine lv_aload_n hx hb dX11_fills_19 rfl (lv_at hl 0 rfl) ?_
      refine lv_iload_n hx hb dX11_fills_20 rfl (lv_at hl 1 rfl) ?_
      obtain ⟨o14, eq15, h⟩ := bnd_some h
      refine kQvV (rest := []) (q0 := 0) ⟨hx, hb, hml, hown, hts⟩ (c_X11_gathers l D k a mSizes mSigns mOdds mPat mTyped mText mAt mFault mTests mTN mTS mTV mTB mRead mUns mUM mBA mBH mThere mTypes mHeld mItems mMoved mFind x1 eq15) (cwV 1 hts (gAV wm_556 wm_557 wm_558 wm_5 wm_559) rfl rfl rfl qd_X11_gathers ⟨Nat.le_of_ble_eq_true rfl, Nat.le_of_ble_eq_true rfl⟩) hK hP hD hS hA (rfl) rfl rfl hl.1 rfl (Nat.le_of_ble_eq_true rfl) dX11_fills_21 ⟨Nat.zero_le _, Nat.zero_le _⟩ (fun H locs hP hD hS => ?_)
      have hP : va_P D vwCl (wM k a mSizes mSigns mOdds mPat mTyped mText mAt mFault mTests mTN mTS mTV mTB mRead o14.1 o14.2 mBA mBH mThere mTypes mHeld mItems mMoved mFind) H := hP
      have hD : va_D A (wM k a mSizes mSigns mOdds mPat mTyped mText mAt mFault mTests mTN mTS mTV mTB mRead o14.1 o14.2 mBA mBH mThere mTypes mHeld mItems mMoved mFind) := hD
      refine lv_iload_n hx hb dX11_fills_24 rfl (lv_at hl 2 rfl) ?_
      refine lv_if_ne (tgt := 35) hx hb dX11_fills_25 (by decide) (fun c16 => ?_) (fun c16 => ?_)
      · replace h := (if_neg c16).symm.trans h
        refine lv_aload_n hx hb dX11_fills_35 rfl (lv_at hl 0 rfl) ?_
        obtain ⟨o17, eq18, h⟩ := bnd_some h
        refine kQiV (rest := []) (q0 := 0) ⟨hx, hb, hml, hown, hts⟩ (c_X11_faultNow l D k a mSizes mSigns mOdds mPat mTyped mText mAt mFault mTests mTN mTS mTV mTB mRead o14.1 o14.2 mBA mBH mThere mTypes mHeld mItems mMoved mFind  eq18) (cwV 0 hts (gAV wm_415 wm_416 wm_417 wm_5 wm_418) rfl rfl rfl qd_X11_faultNow ⟨Nat.le_of_ble_eq_true rfl, Nat.le_of_ble_eq_true rfl⟩) hK hP hD hS hA (rfl) rfl rfl hl.1 rfl (Nat.le_of_ble_eq_true rfl) dX11_fills_36 ⟨Nat.zero_le _, Nat.zero_le _⟩ (fun H locs hP hD hS => ?_)
        have hP : va_P D vwCl (wM k a mSizes mSigns mOdds mPat mTyped mText o17.2.1 o17.2.2.1 o17.2.2.2.1 o17.2.2.2.2.1 o17.2.2.2.2.2.1 o17.2.2.2.2.2.2.1 o17.2.2.2.2.2.2.2.1 o17.2.2.2.2.2.2.2.2 o14.1 o14.2 mBA mBH mThere mTypes mHeld mItems mMoved mFind) H := hP
        have hD : va_D A (wM k a mSizes mSigns mOdds mPat mTyped mText o17.2.1 o17.2.2.1 o17.2.2.2.1 o17.2.2.2.2.1 o17.2.2.2.2.2.1 o17.2.2.2.2.2.2.1 o17.2.2.2.2.2.2.2.1 o17.2.2.2.2.2.2.2.2 o14.1 o14.2 mBA mBH mThere mTypes mHeld mItems mMoved mFind) := hD
        refine lv_iconst (v := (-1)) hx hb dX11_fills_39 (by decide) ?_
        refine lv_icmp_eq (tgt := 46) hx hb dX11_fills_40 (by decide) (fun c19 => ?_) (fun c19 => ?_)
        · replace h := (if_pos c19).symm.trans h
          refine lv_iconst (v := 0) hx hb dX11_fills_46 (by decide) ?_
          refine lv_istore_n (lv' := [(3, .int 0), (0, .ref (a 0)), (1, .int x1), (2, .int x2)]) hx hb dX11_fills_47 rfl hl (by decide) rfl (fun ls hl => ?_)
          refine lv_iconst (v := 0) hx hb dX11_fills_48 (by decide) ?_
          refine lv_istore (lv' := [(4, .int 0), (3, .int 0), (0, .ref (a 0)), (1, .int x1), (2, .int x2)]) hx hb dX11_fills_49 hl (by decide) rfl (fun ls hl => ?_)
          exact L51 N x1 0 0 o17.2.1 o17.2.2.1 o17.2.2.2.1 o17.2.2.2.2.1 o17.2.2.2.2.2.1 o17.2.2.2.2.2.2.1 o17.2.2.2.2.2.2.2.1 o17.2.2.2.2.2.2.2.2 o14.1 o14.2 ls H locs (lv_sub hl [2, 3, 1, 0] rfl) hP hD hS h
        · replace h := (if_neg c19).symm.trans h
          refine lv_bipush (v := (-3)) hx hb dX11_fills_43 (by decide) ?_
          have he := Option.some.inj h
          exact W.iret (v := (-3)) hx hb hr (fun t ht hW => ⟨⟨(-3), wM k a mSizes mSigns mOdds mPat mTyped mText o17.2.1 o17.2.2.1 o17.2.2.2.1 o17.2.2.2.2.1 o17.2.2.2.2.2.1 o17.2.2.2.2.2.2.1 o17.2.2.2.2.2.2.2.1 o17.2.2.2.2.2.2.2.2 o14.1 o14.2 mBA mBH mThere mTypes mHeld mItems mMoved mFind, rfl, ⟨(congrArg (fun z => z.1) he), (congrArg (fun z => wM k a mSizes mSigns mOdds mPat mTyped mText z.2.1 z.2.2.1 z.2.2.2.1 z.2.2.2.2.1 z.2.2.2.2.2.1 z.2.2.2.2.2.2.1 z.2.2.2.2.2.2.2.1 z.2.2.2.2.2.2.2.2.1 z.2.2.2.2.2.2.2.2.2.1 z.2.2.2.2.2.2.2.2.2.2 mBA mBH mThere mTypes mHeld mItems mMoved mFind) he)⟩, by rw [ht]; exact hP, va_K.moved hW.alike hK, hD⟩, hS.F ht⟩) hS.2.2 dX11_fills_45
      · replace h := (if_pos c16).symm.trans h
        refine lv_iconst (v := 1) hx hb dX11_fills_28 (by decide) ?_
        refine lv_aload_n hx hb dX11_fills_29 rfl (lv_at hl 0 rfl) ?_
        refine va_get (D := D) (ci := 6) (v := .int o14.2) (C := RX11) (T := TX11) (N := 24) hx hb hts hi11 hown hK hP (0) (rfl) rfl 15 (by decide) kf151 (fun _ h9 => h9) rfl dX11_fills_30 ?_
        refine lv_ishl hx hb dX11_fills_33 ?_
        have he := Option.some.inj h
        exact W.iret (v := ((1 : Int32) <<< (o14.2 &&& 31))) hx hb hr (fun t ht hW => ⟨⟨((1 : Int32) <<< (o14.2 &&& 31)), wM k a mSizes mSigns mOdds mPat mTyped mText mAt mFault mTests mTN mTS mTV mTB mRead o14.1 o14.2 mBA mBH mThere mTypes mHeld mItems mMoved mFind, rfl, ⟨(congrArg (fun z => z.1) he), (congrArg (fun z => wM k a mSizes mSigns mOdds mPat mTyped mText z.2.1 z.2.2.1 z.2.2.2.1 z.2.2.2.2.1 z.2.2.2.2.2.1 z.2.2.2.2.2.2.1 z.2.2.2.2.2.2.2.1 z.2.2.2.2.2.2.2.2.1 z.2.2.2.2.2.2.2.2.2.1 z.2.2.2.2.2.2.2.2.2.2 mBA mBH mThere mTypes mHeld mItems mMoved mFind) he)⟩, by rw [ht]; exact hP, va_K.moved hW.alike hK, hD⟩, hS.F ht⟩) hS.2.2 dX11_fills_34
    · replace h := (if_pos c13).symm.trans h
      refine lv_bipush (v := (-2)) hx hb dX11_fills_16 (by decide) ?_
      have he := Option.some.inj h
      exact W.iret (v := (-2)) hx hb hr (fun t ht hW => ⟨⟨(-2), wM k a mSizes mSigns mOdds mPat mTyped mText mAt mFault mTests mTN mTS mTV mTB mRead mUns mUM mBA mBH mThere mTypes mHeld mItems mMoved mFind, rfl, ⟨(congrArg (fun z => z.1) he), (congrArg (fun z => wM k a mSizes mSigns mOdds mPat mTyped mText z.2.1 z.2.2.1 z.2.2.2.1 z.2.2.2.2.1 z.2.2.2.2.2.1 z.2.2.2.2.2.2.1 z.2.2.2.2.2.2.2.1 z.2.2.2.2.2.2.2.2.1 z.2.2.2.2.2.2.2.2.2.1 z.2.2.2.2.2.2.2.2.2.2 mBA mBH mThere mTypes mHeld mItems mMoved mFind) he)⟩, by rw [ht]; exact hP, va_K.moved hW.alike hK, hD⟩, hS.F ht⟩) hS.2.2 dX11_fills_18
set_option maxHeartbeats 4000000 in
set_option maxRecDepth 100000 in
theorem c_X11_fills {N : Nat} (l : Launch) (D : va_G) (k : Nat → ClassId) (a : Nat → Nat) (mSizes : Nat → Int32) (mSigns : Nat → Int32) (mOdds : Int32) (mPat : Int32) (mTyped : Int32) (mText : Nat → Int32) (mAt : Int32) (mFault : Int32) (mTests : Int32) (mTN : Nat → Int32) (mTS : Nat → Int32) (mTV : Nat → Int32) (mTB : Nat → Int32) (mRead : Int32) (mUns : Nat → Int32) (mUM : Int32) (mBA : Int32) (mBH : Int32) (mThere : Nat → Int32) (mTypes : Nat → Int32) (mHeld : Nat → Int32) (mItems : Nat → Int32) (mMoved : Nat → Int32) (mFind : Int32) (x1 : Int32) (x2 : Int32) {o : Int32 × (Int32) × (Int32) × (Int32) × (Nat → Int32) × (Nat → Int32) × (Nat → Int32) × (Nat → Int32) × (Int32) × (Nat → Int32) × (Int32)} (h : f_X11_fills N x1 x2 mSizes mSigns mPat mTyped mText mAt mFault mTests mTN mTS mTV mTB mRead mUns mUM = some o) : mQi l yX11_fills wo_X11_fills 4 D k [.ref (a 0), .int x1, .int x2] (wM k a mSizes mSigns mOdds mPat mTyped mText mAt mFault mTests mTN mTS mTV mTB mRead mUns mUM mBA mBH mThere mTypes mHeld mItems mMoved mFind) o.1 (wM k a mSizes mSigns mOdds mPat mTyped mText o.2.1 o.2.2.1 o.2.2.2.1 o.2.2.2.2.1 o.2.2.2.2.2.1 o.2.2.2.2.2.2.1 o.2.2.2.2.2.2.2.1 o.2.2.2.2.2.2.2.2.1 o.2.2.2.2.2.2.2.2.2.1 o.2.2.2.2.2.2.2.2.2.2 mBA mBH mThere mTypes mHeld mItems mMoved mFind) := by
  intro sz
  refine Met.ofW (cc := cX11_fills) (maxL := 5) (ret := some .int) (by decide) rfl ?_
  intro p e s m args below meth c s₁ B hml hv
  obtain ⟨rfl, hsz, hP, hK, hD0⟩ := hv
  subst hsz
  rw [lg_entry_eq]
  exact core_X11_fills D k a mSizes mSigns mOdds mPat mTyped mText mAt mFault mTests mTN mTS mTV mTB mRead mUns mUM mBA mBH mThere mTypes mHeld mItems mMoved mFind x1 x2 B.exec B.bytes hml B.returns (atoms_spec (ws := wo_X11_fills) B.pre) (findClass_of_methodNamed B.named) B.notSynchronized (lv_entry [.ref (a 0), .int x1, .int x2] (n := 5) (Nat.le_of_ble_eq_true rfl)) hK hP hD0.self (fun q h => Or.inr h) h
theorem qd_X11_fills : yX11_fills.cls = RX11 ∧ yX11_fills.cls ≠ "java/lang/invoke/MethodHandle" ∧ yX11_fills.cls ≠ "java/lang/invoke/VarHandle" ∧ (parseMethodDescriptor yX11_fills.desc).map (fun d => d.parameters.length) = some 2 := by decide +kernel
abbrev wo_X11_filled : List Cond := .code yX11_filled cX11_filled 6 (some .long) :: wsL_law
set_option maxHeartbeats 4000000 in
set_option maxRecDepth 100000 in
theorem core_X11_filled {N : Nat} (D : va_G) (k : Nat → ClassId) (a : Nat → Nat) (mSizes : Nat → Int32) (mSigns : Nat → Int32) (mOdds : Int32) (mPat : Int32) (mTyped : Int32) (mText : Nat → Int32) (mAt : Int32) (mFault : Int32) (mTests : Int32) (mTN : Nat → Int32) (mTS : Nat → Int32) (mTV : Nat → Int32) (mTB : Nat → Int32) (mRead : Int32) (mUns : Nat → Int32) (mUM : Int32) (mBA : Int32) (mBH : Int32) (mThere : Nat → Int32) (mTypes : Nat → Int32) (mHeld : Nat → Int32) (mItems : Nat → Int32) (mMoved : Nat → Int32) (mFind : Int32) (x1 : Int32) (x2 : Int32) {p : Program} {l : Launch} {e : Env} {s : State} {m : MethodId} {args : Array Value} {below : List Frame} {meth : Method} {c : Code} {ls : Array Slot} (hx : p.tables.exec = Jvm.exec) (hb : c.code = cX11_filled) (hml : c.maxLocals = 6) (hr : meth.sig.returnType = some .long) (hts : ∀ w ∈ wo_X11_filled, w.before args s = true) (hown : s.vm.findClass RX11 = some m.cls) (hlocks : meth.locks = false) (hl : lv_has ls 6 [(0, .ref (a 0)), (1, .int x1), (2, .int x2)]) (hK : va_K D vwCl (xTys k) s) (hP : va_P D vwCl (wM k a mSizes mSigns mOdds mPat mTyped mText mAt mFault mTests mTN mTS mTV mTB mRead mUns mUM mBA mBH mThere mTypes mHeld mItems mMoved mFind) s.heap) {A : Nat → Prop} (hD : va_D A (wM k a mSizes mSigns mOdds mPat mTyped mText mAt mFault mTests mTN mTS mTV mTB mRead mUns mUM mBA mBH mThere mTypes mHeld mItems mMoved mFind)) (hA : ∀ q : Nat, s.heap.size ≤ q → A q) {o : Int64 × (Int32) × (Int32) × (Int32) × (Nat → Int32) × (Nat → Int32) × (Nat → Int32) × (Nat → Int32) × (Int32) × (Nat → Int32) × (Int32)} (h : f_X11_filled N x1 x2 mSizes mSigns mOdds mPat mTyped mText mAt mFault mTests mTN mTS mTV mTB mRead mUns mUM = some o) : gQl p l e wo_X11_filled 4 s m args below meth c D k A o.1 (wM k a mSizes mSigns mOdds mPat mTyped mText o.2.1 o.2.2.1 o.2.2.2.1 o.2.2.2.2.1 o.2.2.2.2.2.1 o.2.2.2.2.2.2.1 o.2.2.2.2.2.2.2.1 o.2.2.2.2.2.2.2.2.1 o.2.2.2.2.2.2.2.2.2.1 o.2.2.2.2.2.2.2.2.2.2 mBA mBH mThere mTypes mHeld mItems mMoved mFind) s.heap [] (F0 m 0 ls []) := by
  have hi11 := (fun w h => List.mem_cons_of_mem _ (inlX11 w h) : ∀ w ∈ wsX110, w ∈ wo_X11_filled)
  have kf151 := hts _ (List.mem_cons_of_mem _ wm_555)
  have kc145 := hts _ (List.mem_cons_of_mem _ wm_522)
  have kf7 := hts _ (List.mem_cons_of_mem _ wm_72)
  have kf16 := hts _ (List.mem_cons_of_mem _ wm_74)
  unfold f_X11_filled at h
  have hS : va_S A s.heap s.heap [] := va_S.rf
  have L46 : ∀ (n46 : Nat) (x1 : Int32) (x2 : Int32) (x3 : Int64) (x5 : Int32) (mAt : Int32) (mFault : Int32) (mTests : Int32) (mTN : Nat → Int32) (mTS : Nat → Int32) (mTV : Nat → Int32) (mTB : Nat → Int32) (mRead : Int32) (mUns : Nat → Int32) (mUM : Int32) (ls : Array Slot) (H : Heap) (locs : List Loc) (hl : lv_has ls 6 [(0, .ref (a 0)), (1, .int x1), (2, .int x2), (3, .long x3), (5, .int x5)]) (hP : va_P D vwCl (wM k a mSizes mSigns mOdds mPat mTyped mText mAt mFault mTests mTN mTS mTV mTB mRead mUns mUM mBA mBH mThere mTypes mHeld mItems mMoved mFind) H) (hD : va_D A (wM k a mSizes mSigns mOdds mPat mTyped mText mAt mFault mTests mTN mTS mTV mTB mRead mUns mUM mBA mBH mThere mTypes mHeld mItems mMoved mFind)) (hS : va_S A s.heap H locs) (h : f_X11_filled_46 N n46 x1 x2 x3 x5 mSizes mSigns mOdds mPat mTyped mText mAt mFault mTests mTN mTS mTV mTB mRead mUns mUM = some o), gQl p l e wo_X11_filled 4 s m args below meth c D k A o.1 (wM k a mSizes mSigns mOdds mPat mTyped mText o.2.1 o.2.2.1 o.2.2.2.1 o.2.2.2.2.1 o.2.2.2.2.2.1 o.2.2.2.2.2.2.1 o.2.2.2.2.2.2.2.1 o.2.2.2.2.2.2.2.2.1 o.2.2.2.2.2.2.2.2.2.1 o.2.2.2.2.2.2.2.2.2.2 mBA mBH mThere mTypes mHeld mItems mMoved mFind) H locs (F0 m 46 ls []) := by
    intro n46
    induction n46 with
    | zero => intro x1 x2 x3 x5 mAt mFault mTests mTN mTS mTV mTB mRead mUns mUM ls H locs hl hP hD hS h; cases (show (none : Option (Int64 × (Int32) × (Int32) × (Int32) × (Nat → Int32) × (Nat → Int32) × (Nat → Int32) × (Nat → Int32) × (Int32) × (Nat → Int32) × (Int32))) = some o from h)
    | succ n46 ih46 =>
      have J117 : ∀ (x1 : Int32) (x2 : Int32) (x5 : Int32) (s0 : Int64) (s1 : Int64) (mAt : Int32) (mFault : Int32) (mTests : Int32) (mTN : Nat → Int32) (mTS : Nat → Int32) (mTV : Nat → Int32) (mTB : Nat → Int32) (mRead : Int32) (mUns : Nat → Int32) (mUM : Int32) (ls : Array Slot) (H : Heap) (locs : List Loc) (hl : lv_has ls 6 [(0, .ref (a 0)), (1, .int x1), (2, .int x2), (5, .int x5)]) (hP : va_P D vwCl (wM k a mSizes mSigns mOdds mPat mTyped mText mAt mFault mTests mTN mTS mTV mTB mRead mUns mUM mBA mBH mThere mTypes mHeld mItems mMoved mFind) H) (hD : va_D A (wM k a mSizes mSigns mOdds mPat mTyped mText mAt mFault mTests mTN mTS mTV mTB mRead mUns mUM mBA mBH mThere mTypes mHeld mItems mMoved mFind)) (hS : va_S A s.heap H locs) (h : f_X11_filled_117 N (fun y0 y1 y2 y3 y4 y5 y6 y7 y8 y9 y10 y11 y12 y13 y14 y15 y16 y17 y18 y19 => f_X11_filled_46 N n46 y0 y1 y2 y3 y4 y5 y6 y7 y8 y9 y10 y11 y12 y13 y14 y15 y16 y17 y18 y19) x1 x2 x5 s0 s1 mSizes mSigns mOdds mPat mTyped mText mAt mFault mTests mTN mTS mTV mTB mRead mUns mUM = some o), gQl p l e wo_X11_filled 4 s m args below meth c D k A o.1 (wM k a mSizes mSigns mOdds mPat mTyped mText o.2.1 o.2.2.1 o.2.2.2.1 o.2.2.2.2.1 o.2.2.2.2.2.1 o.2.2.2.2.2.2.1 o.2.2.2.2.2.2.2.1 o.2.2.2.2.2.2.2.2.1 o.2.2.2.2.2.2.2.2.2.1 o.2.2.2.2.2.2.2.2.2.2 mBA mBH mThere mTypes mHeld mItems mMoved mFind) H locs (F0 m 117 ls [.long s1, .long s0]) := by
        intro x1 x2 x5 s0 s1 mAt mFault mTests mTN mTS mTV mTB mRead mUns mUM ls H locs hl hP hD hS h
        unfold f_X11_filled_117 at h
        refine lv_ladd hx hb dX11_filled_117 ?_
        refine lv_lstore_n (lv' := [(3, .long (s0 + s1)), (0, .ref (a 0)), (1, .int x1), (2, .int x2), (5, .int x5)]) hx hb dX11_filled_118 rfl hl (by decide) rfl (fun ls hl => ?_)
        refine lv_iinc (v := (x5 + 1)) (lv' := [(5, .int (x5 + 1)), (3, .long (s0 + s1)), (0, .ref (a 0)), (1, .int x1), (2, .int x2)]) hx hb dX11_filled_119 hl (k := 4) rfl rfl (by decide) rfl (fun ls hl => ?_)
        refine lv_goto (tgt := 46) hx hb dX11_filled_122 (by decide) ?_
        exact ih46 x1 x2 (s0 + s1) (x5 + 1) mAt mFault mTests mTN mTS mTV mTB mRead mUns mUM ls H locs (lv_sub hl [2, 3, 4, 1, 0] rfl) hP hD hS h
      intro x1 x2 x3 x5 mAt mFault mTests mTN mTS mTV mTB mRead mUns mUM ls H locs hl hP hD hS h
      rw [f_X11_filled_46] at h
      refine lv_iload hx hb dX11_filled_46 (lv_at hl 4 rfl) ?_
      refine lv_iconst (v := 1) hx hb dX11_filled_48 (by decide) ?_
      refine lv_aload_n hx hb dX11_filled_49 rfl (lv_at hl 0 rfl) ?_
      refine va_get (D := D) (ci := 6) (v := .int mUM) (C := RX11) (T := TX11) (N := 24) hx hb hts hi11 hown hK hP (0) (rfl) rfl 15 (by decide) kf151 (fun _ h9 => h9) rfl dX11_filled_50 ?_
      refine lv_ishl hx hb dX11_filled_53 ?_
      refine lv_icmp_ge (tgt := 125) hx hb dX11_filled_54 (by decide) (fun c1 => ?_) (fun c1 => ?_)
      · replace h := (if_pos c1).symm.trans h
        refine lv_lload_n hx hb dX11_filled_125 rfl (lv_at hl 3 rfl) ?_
        refine lv_ldc2 (v := 16) hx hb hown kc145 dX11_filled_126 ?_
        refine lv_aload_n hx hb dX11_filled_129 rfl (lv_at hl 0 rfl) ?_
        refine va_get (D := D) (ci := 6) (v := .int mUM) (C := RX11) (T := TX11) (N := 24) hx hb hts hi11 hown hK hP (0) (rfl) rfl 15 (by decide) kf151 (fun _ h9 => h9) rfl dX11_filled_130 ?_
        obtain ⟨o2, eq3, h⟩ := bnd_some h
        refine kPl (rest := [.long x3]) ⟨hx, hb, hml, hown, hts⟩ (c_X11_power l 16 mUM eq3) (va_cwS 2 hts (gAS wm_527 wm_528 wm_5 wm_529) rfl rfl rfl qd_X11_power ⟨Nat.le_of_ble_eq_true rfl, Nat.le_of_ble_eq_true rfl⟩) rfl hl.1 rfl (Nat.le_of_ble_eq_true rfl) dX11_filled_133 ⟨Nat.zero_le _, Nat.zero_le _⟩ ?_
        refine lv_iload_n hx hb dX11_filled_136 rfl (lv_at hl 2 rfl) ?_
        obtain ⟨o4, eq5, h⟩ := bnd_some h
        refine kPl (rest := []) ⟨hx, hb, hml, hown, hts⟩ (c_X11_lowest l x3 o2 x2 eq5) (va_cwS 3 hts (gAS wm_530 wm_531 wm_5 wm_532) rfl rfl rfl qd_X11_lowest ⟨Nat.le_of_ble_eq_true rfl, Nat.le_of_ble_eq_true rfl⟩) rfl hl.1 rfl (Nat.le_of_ble_eq_true rfl) dX11_filled_137 ⟨Nat.zero_le _, Nat.zero_le _⟩ ?_
        have he := Option.some.inj h
        exact W.lret (v := o4) hx hb hr (fun t ht hW => ⟨⟨o4, wM k a mSizes mSigns mOdds mPat mTyped mText mAt mFault mTests mTN mTS mTV mTB mRead mUns mUM mBA mBH mThere mTypes mHeld mItems mMoved mFind, rfl, ⟨(congrArg (fun z => z.1) he), (congrArg (fun z => wM k a mSizes mSigns mOdds mPat mTyped mText z.2.1 z.2.2.1 z.2.2.2.1 z.2.2.2.2.1 z.2.2.2.2.2.1 z.2.2.2.2.2.2.1 z.2.2.2.2.2.2.2.1 z.2.2.2.2.2.2.2.2.1 z.2.2.2.2.2.2.2.2.2.1 z.2.2.2.2.2.2.2.2.2.2 mBA mBH mThere mTypes mHeld mItems mMoved mFind) he)⟩, by rw [ht]; exact hP, va_K.moved hW.alike hK, hD⟩, hS.F ht⟩) hS.2.2 dX11_filled_140
      · replace h := (if_neg c1).symm.trans h
        refine lv_lload_n hx hb dX11_filled_57 rfl (lv_at hl 3 rfl) ?_
        refine lv_aload_n hx hb dX11_filled_58 rfl (lv_at hl 0 rfl) ?_
        refine lv_aload_n hx hb dX11_filled_59 rfl (lv_at hl 0 rfl) ?_
        refine lv_iload_n hx hb dX11_filled_60 rfl (lv_at hl 1 rfl) ?_
        refine lv_iload hx hb dX11_filled_61 (lv_at hl 4 rfl) ?_
        obtain ⟨o6, eq7, h⟩ := bnd_some h
        refine kRiV (rest := [.ref (a 0), .long x3]) (q0 := 0) ⟨hx, hb, hml, hown, hts⟩ (c_X11_fill l D k a mSizes mSigns mOdds mPat mTyped mText mAt mFault mTests mTN mTS mTV mTB mRead mUns mUM mBA mBH mThere mTypes mHeld mItems mMoved mFind x1 x5 eq7) (cwV 2 hts (gAV wm_560 wm_561 wm_562 wm_5 wm_563) rfl rfl rfl qd_X11_fill ⟨Nat.le_of_ble_eq_true rfl, Nat.le_of_ble_eq_true rfl⟩) hK hP (rfl) rfl rfl hl.1 rfl (Nat.le_of_ble_eq_true rfl) dX11_filled_63 ⟨Nat.zero_le _, Nat.zero_le _⟩ ?_
        refine lv_aload_n hx hb dX11_filled_66 rfl (lv_at hl 0 rfl) ?_
        refine va_get (D := D) (ci := 6) (v := .ref (a 1)) (C := RX11) (T := TX11) (N := 24) hx hb hts hi11 hown hK hP (0) (rfl) rfl 0 (by decide) kf7 (fun _ h9 => h9) rfl dX11_filled_67 ?_
        refine lv_iload_n hx hb dX11_filled_70 rfl (lv_at hl 1 rfl) ?_
        obtain ⟨g8, h⟩ := gIn_some h
        refine va_iald hx hb hK hP (1) 0 (rfl) rfl g8 dX11_filled_71 ?_
        obtain ⟨o9, eq10, h⟩ := bnd_some h
        refine kRiV (rest := [.long x3]) (q0 := 0) ⟨hx, hb, hml, hown, hts⟩ (c_X11_does l D k a mSizes mSigns mOdds mPat mTyped mText mAt mFault mTests mTN mTS mTV mTB mRead mUns mUM mBA mBH mThere mTypes mHeld mItems mMoved mFind o6 (mSizes x1.toNatClampNeg) eq10) (cwV 2 hts (gAV wm_455 wm_456 wm_457 wm_5 wm_458) rfl rfl rfl qd_X11_does ⟨Nat.le_of_ble_eq_true rfl, Nat.le_of_ble_eq_true rfl⟩) hK hP (rfl) rfl rfl hl.1 rfl (Nat.le_of_ble_eq_true rfl) dX11_filled_72 ⟨Nat.zero_le _, Nat.zero_le _⟩ ?_
        refine lv_if_eq (tgt := 116) hx hb dX11_filled_75 (by decide) (fun c11 => ?_) (fun c11 => ?_)
        · replace h := (if_pos c11).symm.trans h
          refine lv_lconst (v := 0) hx hb dX11_filled_116 rfl ?_
          exact J117 x1 x2 x5 x3 0 mAt mFault mTests mTN mTS mTV mTB mRead mUns mUM ls H locs (lv_sub hl [0, 1, 2, 4] rfl) hP hD hS h
        · replace h := (if_neg c11).symm.trans h
          refine lv_aload_n hx hb dX11_filled_78 rfl (lv_at hl 0 rfl) ?_
          refine va_get (D := D) (ci := 6) (v := .int mOdds) (C := RX11) (T := TX11) (N := 24) hx hb hts hi11 hown hK hP (0) (rfl) rfl 2 (by decide) kf16 (fun _ h9 => h9) rfl dX11_filled_79 ?_
          refine lv_i2l (v := mOdds.toInt64) hx hb dX11_filled_82 rfl ?_
          refine lv_iload hx hb dX11_filled_83 (lv_at hl 4 rfl) ?_
          obtain ⟨o12, eq13, h⟩ := bnd_some h
          refine kPi (rest := [.long mOdds.toInt64, .long x3]) ⟨hx, hb, hml, hown, hts⟩ (c_X11_ones l x5 eq13) (va_cwS 1 hts (gAS wm_253 wm_254 wm_5 wm_255) rfl rfl rfl qd_X11_ones ⟨Nat.le_of_ble_eq_true rfl, Nat.le_of_ble_eq_true rfl⟩) rfl hl.1 rfl (Nat.le_of_ble_eq_true rfl) dX11_filled_85 ⟨Nat.zero_le _, Nat.zero_le _⟩ ?_
          obtain ⟨o14, eq15, h⟩ := bnd_some h
          refine kPl (rest := [.long x3]) ⟨hx, hb, hml, hown, hts⟩ (c_X11_power l mOdds.toInt64 o12 eq15) (va_cwS 2 hts (gAS wm_527 wm_528 wm_5 wm_529) rfl rfl rfl qd_X11_power ⟨Nat.le_of_ble_eq_true rfl, Nat.le_of_ble_eq_true rfl⟩) rfl hl.1 rfl (Nat.le_of_ble_eq_true rfl) dX11_filled_88 ⟨Nat.zero_le _, Nat.zero_le _⟩ ?_
          refine lv_bipush (v := 16) hx hb dX11_filled_91 (by decide) ?_
          refine lv_aload_n hx hb dX11_filled_93 rfl (lv_at hl 0 rfl) ?_
          refine va_get (D := D) (ci := 6) (v := .int mOdds) (C := RX11) (T := TX11) (N := 24) hx hb hts hi11 hown hK hP (0) (rfl) rfl 2 (by decide) kf16 (fun _ h9 => h9) rfl dX11_filled_94 ?_
          refine lv_isub hx hb dX11_filled_97 ?_
          refine lv_i2l (v := ((16 : Int32) - mOdds).toInt64) hx hb dX11_filled_98 rfl ?_
          refine lv_aload_n hx hb dX11_filled_99 rfl (lv_at hl 0 rfl) ?_
          refine va_get (D := D) (ci := 6) (v := .int mUM) (C := RX11) (T := TX11) (N := 24) hx hb hts hi11 hown hK hP (0) (rfl) rfl 15 (by decide) kf151 (fun _ h9 => h9) rfl dX11_filled_100 ?_
          refine lv_iload hx hb dX11_filled_103 (lv_at hl 4 rfl) ?_
          obtain ⟨o16, eq17, h⟩ := bnd_some h
          refine kPi (rest := [.int mUM, .long (((16 : Int32) - mOdds).toInt64), .long o14, .long x3]) ⟨hx, hb, hml, hown, hts⟩ (c_X11_ones l x5 eq17) (va_cwS 1 hts (gAS wm_253 wm_254 wm_5 wm_255) rfl rfl rfl qd_X11_ones ⟨Nat.le_of_ble_eq_true rfl, Nat.le_of_ble_eq_true rfl⟩) rfl hl.1 rfl (Nat.le_of_ble_eq_true rfl) dX11_filled_105 ⟨Nat.zero_le _, Nat.zero_le _⟩ ?_
          refine lv_isub hx hb dX11_filled_108 ?_
          obtain ⟨o18, eq19, h⟩ := bnd_some h
          refine kPl (rest := [.long o14, .long x3]) ⟨hx, hb, hml, hown, hts⟩ (c_X11_power l (((16 : Int32) - mOdds).toInt64) (mUM - o16) eq19) (va_cwS 2 hts (gAS wm_527 wm_528 wm_5 wm_529) rfl rfl rfl qd_X11_power ⟨Nat.le_of_ble_eq_true rfl, Nat.le_of_ble_eq_true rfl⟩) rfl hl.1 rfl (Nat.le_of_ble_eq_true rfl) dX11_filled_109 ⟨Nat.zero_le _, Nat.zero_le _⟩ ?_
          refine lv_lmul hx hb dX11_filled_112 ?_
          refine lv_goto (tgt := 117) hx hb dX11_filled_113 (by decide) ?_
          exact J117 x1 x2 x5 x3 (o14 * o18) mAt mFault mTests mTN mTS mTV mTB mRead mUns mUM ls H locs (lv_sub hl [0, 1, 2, 4] rfl) hP hD hS h
  obtain ⟨H, hH⟩ : ∃ H : Heap, H = s.heap := ⟨_, rfl⟩
  obtain ⟨locs, hlc⟩ : ∃ locs : List Loc, locs = [] := ⟨_, rfl⟩
  have hS : va_S A s.heap H locs := by rw [hH, hlc]; exact va_S.rf
  have hP : va_P D vwCl (wM k a mSizes mSigns mOdds mPat mTyped mText mAt mFault mTests mTN mTS mTV mTB mRead mUns mUM mBA mBH mThere mTypes mHeld mItems mMoved mFind) H := by rw [hH]; exact hP
  suffices hGo : gQl p l e wo_X11_filled 4 s m args below meth c D k A o.1 (wM k a mSizes mSigns mOdds mPat mTyped mText o.2.1 o.2.2.1 o.2.2.2.1 o.2.2.2.2.1 o.2.2.2.2.2.1 o.2.2.2.2.2.2.1 o.2.2.2.2.2.2.2.1 o.2.2.2.2.2.2.2.2.1 o.2.2.2.2.2.2.2.2.2.1 o.2.2.2.2.2.2.2.2.2.2 mBA mBH mThere mTypes mHeld mItems mMoved mFind) H locs (F0 m 0 ls []) by rw [hH, hlc] at hGo; exact hGo
  refine lv_iload_n hx hb dX11_filled_0 rfl (lv_at hl 1 rfl) ?_
  obtain ⟨o20, eq21, h⟩ := bnd_some h
  refine kPi (rest := []) ⟨hx, hb, hml, hown, hts⟩ (c_X11_isRow l x1 eq21) (va_cwS 1 hts (gAS wm_117 wm_118 wm_5 wm_119) rfl rfl rfl qd_X11_isRow ⟨Nat.le_of_ble_eq_true rfl, Nat.le_of_ble_eq_true rfl⟩) rfl hl.1 rfl (Nat.le_of_ble_eq_true rfl) dX11_filled_1 ⟨Nat.zero_le _, Nat.zero_le _⟩ ?_
  refine lv_if_eq (tgt := 16) hx hb dX11_filled_4 (by decide) (fun c22 => ?_) (fun c22 => ?_)
  · replace h := (if_pos c22).symm.trans h
    refine lv_bipush (v := (-2)) hx hb dX11_filled_16 (by decide) ?_
    obtain ⟨o23, eq24, h⟩ := bnd_some h
    refine kPl (rest := []) ⟨hx, hb, hml, hown, hts⟩ (c_X11_no l (-2) eq24) (va_cwS 1 hts (gAS wm_523 wm_524 wm_5 wm_525) rfl rfl rfl qd_X11_no ⟨Nat.le_of_ble_eq_true rfl, Nat.le_of_ble_eq_true rfl⟩) rfl hl.1 rfl (Nat.le_of_ble_eq_true rfl) dX11_filled_18 ⟨Nat.zero_le _, Nat.zero_le _⟩ ?_
    have he := Option.some.inj h
    exact W.lret (v := o23) hx hb hr (fun t ht hW => ⟨⟨o23, wM k a mSizes mSigns mOdds mPat mTyped mText mAt mFault mTests mTN mTS mTV mTB mRead mUns mUM mBA mBH mThere mTypes mHeld mItems mMoved mFind, rfl, ⟨(congrArg (fun z => z.1) he), (congrArg (fun z => wM k a mSizes mSigns mOdds mPat mTyped mText z.2.1 z.2.2.1 z.2.2.2.1 z.2.2.2.2.1 z.2.2.2.2.2.1 z.2.2.2.2.2.2.1 z.2.2.2.2.2.2.2.1 z.2.2.2.2.2.2.2.2.1 z.2.2.2.2.2.2.2.2.2.1 z.2.2.2.2.2.2.2.2.2.2 mBA mBH mThere mTypes mHeld mItems mMoved mFind) he)⟩, by rw [ht]; exact hP, va_K.moved hW.alike hK, hD⟩, hS.F ht⟩) hS.2.2 dX11_filled_21
  · replace h := (if_neg c22).symm.trans h
    refine lv_iload_n hx hb dX11_filled_7 rfl (lv_at hl 2 rfl) ?_
    refine lv_iconst (v := 0) hx hb dX11_filled_8 (by decide) ?_
    refine lv_iconst (v := 1) hx hb dX11_filled_9 (by decide) ?_
    obtain ⟨o25, eq26, h⟩ := bnd_some h
    refine kPi (rest := []) ⟨hx, hb, hml, hown, hts⟩ (c_X11_in l x2 0 1 eq26) (va_cwS 3 hts (gAS wm_120 wm_121 wm_5 wm_122) rfl rfl rfl qd_X11_in ⟨Nat.le_of_ble_eq_true rfl, Nat.le_of_ble_eq_true rfl⟩) rfl hl.1 rfl (Nat.le_of_ble_eq_true rfl) dX11_filled_10 ⟨Nat.zero_le _, Nat.zero_le _⟩ ?_
    refine lv_if_ne (tgt := 22) hx hb dX11_filled_13 (by decide) (fun c27 => ?_) (fun c27 => ?_)
    · replace h := (if_neg c27).symm.trans h
      refine lv_aload_n hx hb dX11_filled_22 rfl (lv_at hl 0 rfl) ?_
      obtain ⟨o28, eq29, h⟩ := bnd_some h
      refine kQiV (rest := []) (q0 := 0) ⟨hx, hb, hml, hown, hts⟩ (c_X11_faultNow l D k a mSizes mSigns mOdds mPat mTyped mText mAt mFault mTests mTN mTS mTV mTB mRead mUns mUM mBA mBH mThere mTypes mHeld mItems mMoved mFind  eq29) (cwV 0 hts (gAV wm_415 wm_416 wm_417 wm_5 wm_418) rfl rfl rfl qd_X11_faultNow ⟨Nat.le_of_ble_eq_true rfl, Nat.le_of_ble_eq_true rfl⟩) hK hP hD hS hA (rfl) rfl rfl hl.1 rfl (Nat.le_of_ble_eq_true rfl) dX11_filled_23 ⟨Nat.zero_le _, Nat.zero_le _⟩ (fun H locs hP hD hS => ?_)
      have hP : va_P D vwCl (wM k a mSizes mSigns mOdds mPat mTyped mText o28.2.1 o28.2.2.1 o28.2.2.2.1 o28.2.2.2.2.1 o28.2.2.2.2.2.1 o28.2.2.2.2.2.2.1 o28.2.2.2.2.2.2.2.1 o28.2.2.2.2.2.2.2.2 mUns mUM mBA mBH mThere mTypes mHeld mItems mMoved mFind) H := hP
      have hD : va_D A (wM k a mSizes mSigns mOdds mPat mTyped mText o28.2.1 o28.2.2.1 o28.2.2.2.1 o28.2.2.2.2.1 o28.2.2.2.2.2.1 o28.2.2.2.2.2.2.1 o28.2.2.2.2.2.2.2.1 o28.2.2.2.2.2.2.2.2 mUns mUM mBA mBH mThere mTypes mHeld mItems mMoved mFind) := hD
      refine lv_iconst (v := (-1)) hx hb dX11_filled_26 (by decide) ?_
      refine lv_icmp_eq (tgt := 36) hx hb dX11_filled_27 (by decide) (fun c30 => ?_) (fun c30 => ?_)
      · replace h := (if_pos c30).symm.trans h
        refine lv_aload_n hx hb dX11_filled_36 rfl (lv_at hl 0 rfl) ?_
        refine lv_iload_n hx hb dX11_filled_37 rfl (lv_at hl 1 rfl) ?_
        obtain ⟨o31, eq32, h⟩ := bnd_some h
        refine kQvV (rest := []) (q0 := 0) ⟨hx, hb, hml, hown, hts⟩ (c_X11_gathers l D k a mSizes mSigns mOdds mPat mTyped mText o28.2.1 o28.2.2.1 o28.2.2.2.1 o28.2.2.2.2.1 o28.2.2.2.2.2.1 o28.2.2.2.2.2.2.1 o28.2.2.2.2.2.2.2.1 o28.2.2.2.2.2.2.2.2 mUns mUM mBA mBH mThere mTypes mHeld mItems mMoved mFind x1 eq32) (cwV 1 hts (gAV wm_556 wm_557 wm_558 wm_5 wm_559) rfl rfl rfl qd_X11_gathers ⟨Nat.le_of_ble_eq_true rfl, Nat.le_of_ble_eq_true rfl⟩) hK hP hD hS hA (rfl) rfl rfl hl.1 rfl (Nat.le_of_ble_eq_true rfl) dX11_filled_38 ⟨Nat.zero_le _, Nat.zero_le _⟩ (fun H locs hP hD hS => ?_)
        have hP : va_P D vwCl (wM k a mSizes mSigns mOdds mPat mTyped mText o28.2.1 o28.2.2.1 o28.2.2.2.1 o28.2.2.2.2.1 o28.2.2.2.2.2.1 o28.2.2.2.2.2.2.1 o28.2.2.2.2.2.2.2.1 o28.2.2.2.2.2.2.2.2 o31.1 o31.2 mBA mBH mThere mTypes mHeld mItems mMoved mFind) H := hP
        have hD : va_D A (wM k a mSizes mSigns mOdds mPat mTyped mText o28.2.1 o28.2.2.1 o28.2.2.2.1 o28.2.2.2.2.1 o28.2.2.2.2.2.1 o28.2.2.2.2.2.2.1 o28.2.2.2.2.2.2.2.1 o28.2.2.2.2.2.2.2.2 o31.1 o31.2 mBA mBH mThere mTypes mHeld mItems mMoved mFind) := hD
        refine lv_lconst (v := 0) hx hb dX11_filled_41 rfl ?_
        refine lv_lstore_n (lv' := [(3, .long 0), (0, .ref (a 0)), (1, .int x1), (2, .int x2)]) hx hb dX11_filled_42 rfl hl (by decide) rfl (fun ls hl => ?_)
        refine lv_iconst (v := 0) hx hb dX11_filled_43 (by decide) ?_
        refine lv_istore (lv' := [(5, .int 0), (3, .long 0), (0, .ref (a 0)), (1, .int x1), (2, .int x2)]) hx hb dX11_filled_44 hl (by decide) rfl (fun ls hl => ?_)
        exact L46 N x1 x2 0 0 o28.2.1 o28.2.2.1 o28.2.2.2.1 o28.2.2.2.2.1 o28.2.2.2.2.2.1 o28.2.2.2.2.2.2.1 o28.2.2.2.2.2.2.2.1 o28.2.2.2.2.2.2.2.2 o31.1 o31.2 ls H locs (lv_sub hl [2, 3, 4, 1, 0] rfl) hP hD hS h
      · replace h := (if_neg c30).symm.trans h
        refine lv_bipush (v := (-3)) hx hb dX11_filled_30 (by decide) ?_
        obtain ⟨o33, eq34, h⟩ := bnd_some h
        refine kPl (rest := []) ⟨hx, hb, hml, hown, hts⟩ (c_X11_no l (-3) eq34) (va_cwS 1 hts (gAS wm_523 wm_524 wm_5 wm_525) rfl rfl rfl qd_X11_no ⟨Nat.le_of_ble_eq_true rfl, Nat.le_of_ble_eq_true rfl⟩) rfl hl.1 rfl (Nat.le_of_ble_eq_true rfl) dX11_filled_32 ⟨Nat.zero_le _, Nat.zero_le _⟩ ?_
        have he := Option.some.inj h
        exact W.lret (v := o33) hx hb hr (fun t ht hW => ⟨⟨o33, wM k a mSizes mSigns mOdds mPat mTyped mText o28.2.1 o28.2.2.1 o28.2.2.2.1 o28.2.2.2.2.1 o28.2.2.2.2.2.1 o28.2.2.2.2.2.2.1 o28.2.2.2.2.2.2.2.1 o28.2.2.2.2.2.2.2.2 mUns mUM mBA mBH mThere mTypes mHeld mItems mMoved mFind, rfl, ⟨(congrArg (fun z => z.1) he), (congrArg (fun z => wM k a mSizes mSigns mOdds mPat mTyped mText z.2.1 z.2.2.1 z.2.2.2.1 z.2.2.2.2.1 z.2.2.2.2.2.1 z.2.2.2.2.2.2.1 z.2.2.2.2.2.2.2.1 z.2.2.2.2.2.2.2.2.1 z.2.2.2.2.2.2.2.2.2.1 z.2.2.2.2.2.2.2.2.2.2 mBA mBH mThere mTypes mHeld mItems mMoved mFind) he)⟩, by rw [ht]; exact hP, va_K.moved hW.alike hK, hD⟩, hS.F ht⟩) hS.2.2 dX11_filled_35
    · replace h := (if_pos c27).symm.trans h
      refine lv_bipush (v := (-2)) hx hb dX11_filled_16 (by decide) ?_
      obtain ⟨o35, eq36, h⟩ := bnd_some h
      refine kPl (rest := []) ⟨hx, hb, hml, hown, hts⟩ (c_X11_no l (-2) eq36) (va_cwS 1 hts (gAS wm_523 wm_524 wm_5 wm_525) rfl rfl rfl qd_X11_no ⟨Nat.le_of_ble_eq_true rfl, Nat.le_of_ble_eq_true rfl⟩) rfl hl.1 rfl (Nat.le_of_ble_eq_true rfl) dX11_filled_18 ⟨Nat.zero_le _, Nat.zero_le _⟩ ?_
      have he := Option.some.inj h
      exact W.lret (v := o35) hx hb hr (fun t ht hW => ⟨⟨o35, wM k a mSizes mSigns mOdds mPat mTyped mText mAt mFault mTests mTN mTS mTV mTB mRead mUns mUM mBA mBH mThere mTypes mHeld mItems mMoved mFind, rfl, ⟨(congrArg (fun z => z.1) he), (congrArg (fun z => wM k a mSizes mSigns mOdds mPat mTyped mText z.2.1 z.2.2.1 z.2.2.2.1 z.2.2.2.2.1 z.2.2.2.2.2.1 z.2.2.2.2.2.2.1 z.2.2.2.2.2.2.2.1 z.2.2.2.2.2.2.2.2.1 z.2.2.2.2.2.2.2.2.2.1 z.2.2.2.2.2.2.2.2.2.2 mBA mBH mThere mTypes mHeld mItems mMoved mFind) he)⟩, by rw [ht]; exact hP, va_K.moved hW.alike hK, hD⟩, hS.F ht⟩) hS.2.2 dX11_filled_21
set_option maxHeartbeats 4000000 in
set_option maxRecDepth 100000 in
theorem c_X11_filled {N : Nat} (l : Launch) (D : va_G) (k : Nat → ClassId) (a : Nat → Nat) (mSizes : Nat → Int32) (mSigns : Nat → Int32) (mOdds : Int32) (mPat : Int32) (mTyped : Int32) (mText : Nat → Int32) (mAt : Int32) (mFault : Int32) (mTests : Int32) (mTN : Nat → Int32) (mTS : Nat → Int32) (mTV : Nat → Int32) (mTB : Nat → Int32) (mRead : Int32) (mUns : Nat → Int32) (mUM : Int32) (mBA : Int32) (mBH : Int32) (mThere : Nat → Int32) (mTypes : Nat → Int32) (mHeld : Nat → Int32) (mItems : Nat → Int32) (mMoved : Nat → Int32) (mFind : Int32) (x1 : Int32) (x2 : Int32) {o : Int64 × (Int32) × (Int32) × (Int32) × (Nat → Int32) × (Nat → Int32) × (Nat → Int32) × (Nat → Int32) × (Int32) × (Nat → Int32) × (Int32)} (h : f_X11_filled N x1 x2 mSizes mSigns mOdds mPat mTyped mText mAt mFault mTests mTN mTS mTV mTB mRead mUns mUM = some o) : mQl l yX11_filled wo_X11_filled 4 D k [.ref (a 0), .int x1, .int x2] (wM k a mSizes mSigns mOdds mPat mTyped mText mAt mFault mTests mTN mTS mTV mTB mRead mUns mUM mBA mBH mThere mTypes mHeld mItems mMoved mFind) o.1 (wM k a mSizes mSigns mOdds mPat mTyped mText o.2.1 o.2.2.1 o.2.2.2.1 o.2.2.2.2.1 o.2.2.2.2.2.1 o.2.2.2.2.2.2.1 o.2.2.2.2.2.2.2.1 o.2.2.2.2.2.2.2.2.1 o.2.2.2.2.2.2.2.2.2.1 o.2.2.2.2.2.2.2.2.2.2 mBA mBH mThere mTypes mHeld mItems mMoved mFind) := by
  intro sz
  refine Met.ofW (cc := cX11_filled) (maxL := 6) (ret := some .long) (by decide) rfl ?_
  intro p e s m args below meth c s₁ B hml hv
  obtain ⟨rfl, hsz, hP, hK, hD0⟩ := hv
  subst hsz
  rw [lg_entry_eq]
  exact core_X11_filled D k a mSizes mSigns mOdds mPat mTyped mText mAt mFault mTests mTN mTS mTV mTB mRead mUns mUM mBA mBH mThere mTypes mHeld mItems mMoved mFind x1 x2 B.exec B.bytes hml B.returns (atoms_spec (ws := wo_X11_filled) B.pre) (findClass_of_methodNamed B.named) B.notSynchronized (lv_entry [.ref (a 0), .int x1, .int x2] (n := 6) (Nat.le_of_ble_eq_true rfl)) hK hP hD0.self (fun q h => Or.inr h) h
theorem qd_X11_filled : yX11_filled.cls = RX11 ∧ yX11_filled.cls ≠ "java/lang/invoke/MethodHandle" ∧ yX11_filled.cls ≠ "java/lang/invoke/VarHandle" ∧ (parseMethodDescriptor yX11_filled.desc).map (fun d => d.parameters.length) = some 2 := by decide +kernel
