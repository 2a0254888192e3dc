abbrev wo_X11_keep : List Cond := .code yX11_keep cX11_keep 4 none :: wsL_law
set_option maxHeartbeats 4000000 in
set_option maxRecDepth 100000 in
theorem core_X11_keep (D : va_G) (k : Nat → ClassId) (a : Nat → Nat) (mSizes : Nat → Int32) (mSigns : Nat → Int32) (mOdds : Int32) (mPat : Int32) (mTyped : Int32) (mText : Nat → Int32) (mAt : Int32) (mFault : Int32) (mTests : Int32) (mTN : Nat → Int32) (mTS : Nat → Int32) (mTV : Nat → Int32) (mTB : Nat → Int32) (mRead : Int32) (mUns : Nat → Int32) (mUM : Int32) (mBA : Int32) (mBH : Int32) (mThere : Nat → Int32) (mTypes : Nat → Int32) (mHeld : Nat → Int32) (mItems : Nat → Int32) (mMoved : Nat → Int32) (mFind : Int32) (x1 : Int32) (x2 : Int32) (x3 : Int32) {p : Program} {l : Launch} {e : Env} {s : State} {m : MethodId} {args : Array Value} {below : List Frame} {meth : Method} {c : Code} {ls : Array Slot} (hx : p.tables.exec = Jvm.exec) (hb : c.code = cX11_keep) (hml : c.maxLocals = 4) (hr : meth.sig.returnType = none) (hts : ∀ w ∈ wo_X11_keep, w.before args s = true) (hown : s.vm.findClass RX11 = some m.cls) (hlocks : meth.locks = false) (hl : lv_has ls 4 [(0, .ref (a 0)), (1, .int x1), (2, .int x2), (3, .int x3)]) (hK : va_K D vwCl (xTys k) s) (hP : va_P D vwCl (wM k a mSizes mSigns mOdds mPat mTyped mText mAt mFault mTests mTN mTS mTV mTB mRead mUns mUM mBA mBH mThere mTypes mHeld mItems mMoved mFind) s.heap) {A : Nat → Prop} (hD : va_D A (wM k a mSizes mSigns mOdds mPat mTyped mText mAt mFault mTests mTN mTS mTV mTB mRead mUns mUM mBA mBH mThere mTypes mHeld mItems mMoved mFind)) (hA : ∀ q : Nat, s.heap.size ≤ q → A q) {o : (Nat → Int32)} (h : f_X11_keep x1 x2 x3 mTypes mItems = some o) : gQv p l e wo_X11_keep 0 s m args below meth c D k A  (wM k a mSizes mSigns mOdds mPat mTyped mText mAt mFault mTests mTN mTS mTV mTB mRead mUns mUM mBA mBH mThere mTypes mHeld o mMoved mFind) s.heap [] (F0 m 0 ls []) := by
  have hi11 := (fun w h => List.mem_cons_of_mem _ (inlX11 w h) : ∀ w ∈ wsX110, w ∈ wo_X11_keep)
  have kf51 := hts _ (List.mem_cons_of_mem _ wm_85)
  have kf45 := hts _ (List.mem_cons_of_mem _ wm_83)
  unfold f_X11_keep at h
  have hS : va_S A s.heap s.heap [] := va_S.rf
  have J40 : ∀ (s1 : Int32) (s2 : Int32) (mItems : Nat → Int32) (ls : Array Slot) (H : Heap) (locs : List Loc) (hl : lv_has ls 4 []) (hP : va_P D vwCl (wM k a mSizes mSigns mOdds mPat mTyped mText mAt mFault mTests mTN mTS mTV mTB mRead mUns mUM mBA mBH mThere mTypes mHeld mItems mMoved mFind) H) (hD : va_D A (wM k a mSizes mSigns mOdds mPat mTyped mText mAt mFault mTests mTN mTS mTV mTB mRead mUns mUM mBA mBH mThere mTypes mHeld mItems mMoved mFind)) (hS : va_S A s.heap H locs) (h : f_X11_keep_40 s1 s2 mTypes mItems = some o), gQv p l e wo_X11_keep 0 s m args below meth c D k A  (wM k a mSizes mSigns mOdds mPat mTyped mText mAt mFault mTests mTN mTS mTV mTB mRead mUns mUM mBA mBH mThere mTypes mHeld o mMoved mFind) H locs (F0 m 40 ls [.int s2, .int s1, .ref (a 12)]) := by
    intro s1 s2 mItems ls H locs hl hP hD hS h
    unfold f_X11_keep_40 at h
    obtain ⟨g1, h⟩ := gIn_some h
    refine va_iast hx hb hK hP hD hS (12) 0 (rfl) rfl g1 dX11_keep_40 (fun H locs hP hD hS => ?_)
    have hP : va_P D vwCl (wM k a mSizes mSigns mOdds mPat mTyped mText mAt mFault mTests mTN mTS mTV mTB mRead mUns mUM mBA mBH mThere mTypes mHeld (upd mItems s1.toNatClampNeg s2) mMoved mFind) H := hP
    have hD : va_D A (wM k a mSizes mSigns mOdds mPat mTyped mText mAt mFault mTests mTN mTS mTV mTB mRead mUns mUM mBA mBH mThere mTypes mHeld (upd mItems s1.toNatClampNeg s2) mMoved mFind) := hD
    have he := Option.some.inj h
    exact W.vret hx hb hr (fun t ht hW => ⟨⟨wM k a mSizes mSigns mOdds mPat mTyped mText mAt mFault mTests mTN mTS mTV mTB mRead mUns mUM mBA mBH mThere mTypes mHeld (upd mItems s1.toNatClampNeg s2) mMoved mFind, rfl, (congrArg (fun z => wM k a mSizes mSigns mOdds mPat mTyped mText mAt mFault mTests mTN mTS mTV mTB mRead mUns mUM mBA mBH mThere mTypes mHeld z mMoved mFind) he), by rw [ht]; exact hP, va_K.moved hW.alike hK, hD⟩, hS.F ht⟩) hS.2.2 dX11_keep_41
  obtain ⟨H, hH⟩ : ∃ H : Heap, H = s.heap := ⟨_, rfl⟩
  obtain ⟨locs, hlc⟩ : ∃ locs : List Loc, locs = [] := ⟨_, rfl⟩
  have hS : va_S A s.heap H locs := by rw [hH, hlc]; exact va_S.rf
  have hP : va_P D vwCl (wM k a mSizes mSigns mOdds mPat mTyped mText mAt mFault mTests mTN mTS mTV mTB mRead mUns mUM mBA mBH mThere mTypes mHeld mItems mMoved mFind) H := by rw [hH]; exact hP
  suffices hGo : gQv p l e wo_X11_keep 0 s m args below meth c D k A  (wM k a mSizes mSigns mOdds mPat mTyped mText mAt mFault mTests mTN mTS mTV mTB mRead mUns mUM mBA mBH mThere mTypes mHeld o mMoved mFind) H locs (F0 m 0 ls []) by rw [hH, hlc] at hGo; exact hGo
  refine lv_aload_n hx hb dX11_keep_0 rfl (lv_at hl 0 rfl) ?_
  refine va_get (D := D) (ci := 6) (v := .ref (a 12)) (C := RX11) (T := TX11) (N := 24) hx hb hts hi11 hown hK hP (0) (rfl) rfl 21 (by decide) kf51 (fun _ h9 => h9) rfl dX11_keep_1 ?_
  refine lv_bipush (v := 40) hx hb dX11_keep_4 (by decide) ?_
  refine lv_iload_n hx hb dX11_keep_6 rfl (lv_at hl 1 rfl) ?_
  refine lv_imul hx hb dX11_keep_7 ?_
  refine lv_iload_n hx hb dX11_keep_8 rfl (lv_at hl 2 rfl) ?_
  refine lv_iadd hx hb dX11_keep_9 ?_
  refine lv_aload_n hx hb dX11_keep_10 rfl (lv_at hl 0 rfl) ?_
  refine va_get (D := D) (ci := 6) (v := .ref (a 10)) (C := RX11) (T := TX11) (N := 24) hx hb hts hi11 hown hK hP (0) (rfl) rfl 19 (by decide) kf45 (fun _ h9 => h9) rfl dX11_keep_11 ?_
  refine lv_iload_n hx hb dX11_keep_14 rfl (lv_at hl 1 rfl) ?_
  obtain ⟨g2, h⟩ := gIn_some h
  refine va_iald hx hb hK hP (10) 0 (rfl) rfl g2 dX11_keep_15 ?_
  refine lv_if_ne (tgt := 24) hx hb dX11_keep_16 (by decide) (fun c3 => ?_) (fun c3 => ?_)
  · replace h := (if_neg c3).symm.trans h
    refine lv_aload_n hx hb dX11_keep_24 rfl (lv_at hl 0 rfl) ?_
    refine va_get (D := D) (ci := 6) (v := .ref (a 10)) (C := RX11) (T := TX11) (N := 24) hx hb hts hi11 hown hK hP (0) (rfl) rfl 19 (by decide) kf45 (fun _ h9 => h9) rfl dX11_keep_25 ?_
    refine lv_iload_n hx hb dX11_keep_28 rfl (lv_at hl 1 rfl) ?_
    refine va_iald hx hb hK hP (10) 0 (rfl) rfl g2 dX11_keep_29 ?_
    refine lv_iconst (v := 1) hx hb dX11_keep_30 (by decide) ?_
    refine lv_icmp_ne (tgt := 39) hx hb dX11_keep_31 (by decide) (fun c4 => ?_) (fun c4 => ?_)
    · replace h := (if_neg c4).symm.trans h
      refine lv_iload_n hx hb dX11_keep_39 rfl (lv_at hl 3 rfl) ?_
      exact J40 (((40 : Int32) * x1) + x2) x3 mItems ls H locs (lv_sub hl [] rfl) hP hD hS h
    · replace h := (if_pos c4).symm.trans h
      refine lv_iload_n hx hb dX11_keep_34 rfl (lv_at hl 3 rfl) ?_
      refine lv_i2s (v := x3.toInt16.toInt32) hx hb dX11_keep_35 rfl ?_
      refine lv_goto (tgt := 40) hx hb dX11_keep_36 (by decide) ?_
      exact J40 (((40 : Int32) * x1) + x2) x3.toInt16.toInt32 mItems ls H locs (lv_sub hl [] rfl) hP hD hS h
  · replace h := (if_pos c3).symm.trans h
    refine lv_iload_n hx hb dX11_keep_19 rfl (lv_at hl 3 rfl) ?_
    refine lv_i2b (v := x3.toInt8.toInt32) hx hb dX11_keep_20 rfl ?_
    refine lv_goto (tgt := 40) hx hb dX11_keep_21 (by decide) ?_
    exact J40 (((40 : Int32) * x1) + x2) x3.toInt8.toInt32 mItems ls H locs (lv_sub hl [] rfl) hP hD hS h
set_option maxHeartbeats 4000000 in
set_option maxRecDepth 100000 in
theorem c_X11_keep (l : Launch) (D : va_G) (k : Nat → ClassId) (a : Nat → Nat) (mSizes : Nat → Int32) (mSigns : Nat → Int32) (mOdds : Int32) (mPat : Int32) (mTyped : Int32) (mText : Nat → Int32) (mAt : Int32) (mFault : Int32) (mTests : Int32) (mTN : Nat → Int32) (mTS : Nat → Int32) (mTV : Nat → Int32) (mTB : Nat → Int32) (mRead : Int32) (mUns : Nat → Int32) (mUM : Int32) (mBA : Int32) (mBH : Int32) (mThere : Nat → Int32) (mTypes : Nat → Int32) (mHeld : Nat → Int32) (mItems : Nat → Int32) (mMoved : Nat → Int32) (mFind : Int32) (x1 : Int32) (x2 : Int32) (x3 : Int32) {o : (Nat → Int32)} (h : f_X11_keep x1 x2 x3 mTypes mItems = some o) : mQv l yX11_keep wo_X11_keep 0 D k [.ref (a 0), .int x1, .int x2, .int x3] (wM k a mSizes mSigns mOdds mPat mTyped mText mAt mFault mTests mTN mTS mTV mTB mRead mUns mUM mBA mBH mThere mTypes mHeld mItems mMoved mFind) (wM k a mSizes mSigns mOdds mPat mTyped mText mAt mFault mTests mTN mTS mTV mTB mRead mUns mUM mBA mBH mThere mTypes mHeld o mMoved mFind) := by
  intro sz
  refine Met.ofW (cc := cX11_keep) (maxL := 4) (ret := none) (by decide) rfl ?_
  intro p e s m args below meth c s₁ B hml hv
  obtain ⟨rfl, hsz, hP, hK, hD0⟩ := hv
  subst hsz
  rw [lg_entry_eq]
  exact core_X11_keep D k a mSizes mSigns mOdds mPat mTyped mText mAt mFault mTests mTN mTS mTV mTB mRead mUns mUM mBA mBH mThere mTypes mHeld mItems mMoved mFind x1 x2 x3 B.exec B.bytes hml B.returns (atoms_spec (ws := wo_X11_keep) B.pre) (findClass_of_methodNamed B.named) B.notSynchronized (lv_entry [.ref (a 0), .int x1, .int x2, .int x3] (n := 4) (Nat.le_of_ble_eq_true rfl)) hK hP hD0.self (fun q h => Or.inr h) h
theorem qd_X11_keep : yX11_keep.cls = RX11 ∧ yX11_keep.cls ≠ "java/lang/invoke/MethodHandle" ∧ yX11_keep.cls ≠ "java/lang/invoke/VarHandle" ∧ (parseMethodDescriptor yX11_keep.desc).map (fun d => d.parameters.length) = some 3 := by decide +kernel
abbrev wo_X11_put : List Cond := .code yX11_put cX11_put 6 (some .int) :: wsL_law
set_option maxHeartbeats 4000000 in
set_option maxRecDepth 100000 in
theorem core_X11_put (D : va_G) (k : Nat → ClassId) (a : Nat → Nat) (mSizes : Nat → Int32) (mSigns : Nat → Int32) (mOdds : Int32) (mPat : Int32) (mTyped : Int32) (mText : Nat → Int32) (mAt : Int32) (mFault : Int32) (mTests : Int32) (mTN : Nat → Int32) (mTS : Nat → Int32) (mTV : Nat → Int32) (mTB : Nat → Int32) (mRead : Int32) (mUns : Nat → Int32) (mUM : Int32) (mBA : Int32) (mBH : Int32) (mThere : Nat → Int32) (mTypes : Nat → Int32) (mHeld : Nat → Int32) (mItems : Nat → Int32) (mMoved : Nat → Int32) (mFind : Int32) (x1 : Int32) (x2 : Int32) (x3 : Int32) (x4 : Int32) {p : Program} {l : Launch} {e : Env} {s : State} {m : MethodId} {args : Array Value} {below : List Frame} {meth : Method} {c : Code} {ls : Array Slot} (hx : p.tables.exec = Jvm.exec) (hb : c.code = cX11_put) (hml : c.maxLocals = 6) (hr : meth.sig.returnType = some .int) (hts : ∀ w ∈ wo_X11_put, w.before args s = true) (hown : s.vm.findClass RX11 = some m.cls) (hlocks : meth.locks = false) (hl : lv_has ls 6 [(0, .ref (a 0)), (1, .int x1), (2, .int x2), (3, .int x3), (4, .int x4)]) (hK : va_K D vwCl (xTys k) s) (hP : va_P D vwCl (wM k a mSizes mSigns mOdds mPat mTyped mText mAt mFault mTests mTN mTS mTV mTB mRead mUns mUM mBA mBH mThere mTypes mHeld mItems mMoved mFind) s.heap) {A : Nat → Prop} (hD : va_D A (wM k a mSizes mSigns mOdds mPat mTyped mText mAt mFault mTests mTN mTS mTV mTB mRead mUns mUM mBA mBH mThere mTypes mHeld mItems mMoved mFind)) (hA : ∀ q : Nat, s.heap.size ≤ q → A q) {o : Int32 × (Nat → Int32) × (Int32)} (h : f_X11_put x1 x2 x3 x4 mThere mTypes mHeld mItems mFind = some o) : gQi p l e wo_X11_put 2 s m args below meth c D k A o.1 (wM k a mSizes mSigns mOdds mPat mTyped mText mAt mFault mTests mTN mTS mTV mTB mRead mUns mUM mBA mBH mThere mTypes mHeld o.2.1 mMoved o.2.2) s.heap [] (F0 m 0 ls []) := by
  unfold f_X11_put at h
  have hS : va_S A s.heap s.heap [] := va_S.rf
  obtain ⟨H, hH⟩ : ∃ H : Heap, H = s.heap := ⟨_, rfl⟩
  obtain ⟨locs, hlc⟩ : ∃ locs : List Loc, locs = [] := ⟨_, rfl⟩
  have hS : va_S A s.heap H locs := by rw [hH, hlc]; exact va_S.rf
  have hP : va_P D vwCl (wM k a mSizes mSigns mOdds mPat mTyped mText mAt mFault mTests mTN mTS mTV mTB mRead mUns mUM mBA mBH mThere mTypes mHeld mItems mMoved mFind) H := by rw [hH]; exact hP
  suffices hGo : gQi p l e wo_X11_put 2 s m args below meth c D k A o.1 (wM k a mSizes mSigns mOdds mPat mTyped mText mAt mFault mTests mTN mTS mTV mTB mRead mUns mUM mBA mBH mThere mTypes mHeld o.2.1 mMoved o.2.2) H locs (F0 m 0 ls []) by rw [hH, hlc] at hGo; exact hGo
  refine lv_iload_n hx hb dX11_put_0 rfl (lv_at hl 1 rfl) ?_
  obtain ⟨o1, eq2, h⟩ := bnd_some h
  refine kPi (rest := []) ⟨hx, hb, hml, hown, hts⟩ (c_X11_isSheet l x1 eq2) (va_cwS 1 hts (gAS wm_141 wm_142 wm_5 wm_143) rfl rfl rfl qd_X11_isSheet ⟨Nat.le_of_ble_eq_true rfl, Nat.le_of_ble_eq_true rfl⟩) rfl hl.1 rfl (Nat.le_of_ble_eq_true rfl) dX11_put_1 ⟨Nat.zero_le _, Nat.zero_le _⟩ ?_
  refine lv_if_eq (tgt := 16) hx hb dX11_put_4 (by decide) (fun c3 => ?_) (fun c3 => ?_)
  · replace h := (if_pos c3).symm.trans h
    refine lv_bipush (v := (-2)) hx hb dX11_put_16 (by decide) ?_
    have he := Option.some.inj h
    exact W.iret (v := (-2)) hx hb hr (fun t ht hW => ⟨⟨(-2), wM k a mSizes mSigns mOdds mPat mTyped mText mAt mFault mTests mTN mTS mTV mTB mRead mUns mUM mBA mBH mThere mTypes mHeld mItems mMoved mFind, rfl, ⟨(congrArg (fun z => z.1) he), (congrArg (fun z => wM k a mSizes mSigns mOdds mPat mTyped mText mAt mFault mTests mTN mTS mTV mTB mRead mUns mUM mBA mBH mThere mTypes mHeld z.2.1 mMoved z.2.2) he)⟩, by rw [ht]; exact hP, va_K.moved hW.alike hK, hD⟩, hS.F ht⟩) hS.2.2 dX11_put_18
  · replace h := (if_neg c3).symm.trans h
    refine lv_iload_n hx hb dX11_put_7 rfl (lv_at hl 2 rfl) ?_
    refine lv_iconst (v := 0) hx hb dX11_put_8 (by decide) ?_
    refine lv_iconst (v := 2) hx hb dX11_put_9 (by decide) ?_
    obtain ⟨o4, eq5, h⟩ := bnd_some h
    refine kPi (rest := []) ⟨hx, hb, hml, hown, hts⟩ (c_X11_in l x2 0 2 eq5) (va_cwS 3 hts (gAS wm_120 wm_121 wm_5 wm_122) rfl rfl rfl qd_X11_in ⟨Nat.le_of_ble_eq_true rfl, Nat.le_of_ble_eq_true rfl⟩) rfl hl.1 rfl (Nat.le_of_ble_eq_true rfl) dX11_put_10 ⟨Nat.zero_le _, Nat.zero_le _⟩ ?_
    refine lv_if_ne (tgt := 19) hx hb dX11_put_13 (by decide) (fun c6 => ?_) (fun c6 => ?_)
    · replace h := (if_neg c6).symm.trans h
      refine lv_aload_n hx hb dX11_put_19 rfl (lv_at hl 0 rfl) ?_
      refine lv_iload_n hx hb dX11_put_20 rfl (lv_at hl 1 rfl) ?_
      refine lv_iload_n hx hb dX11_put_21 rfl (lv_at hl 2 rfl) ?_
      refine lv_iload_n hx hb dX11_put_22 rfl (lv_at hl 3 rfl) ?_
      obtain ⟨o7, eq8, h⟩ := bnd_some h
      refine kRiV (rest := []) (q0 := 0) ⟨hx, hb, hml, hown, hts⟩ (c_X11_lacks l D k a mSizes mSigns mOdds mPat mTyped mText mAt mFault mTests mTN mTS mTV mTB mRead mUns mUM mBA mBH mThere mTypes mHeld mItems mMoved mFind x1 x2 x3 eq8) (cwV 3 hts (gAV wm_792 wm_793 wm_794 wm_5 wm_795) rfl rfl rfl qd_X11_lacks ⟨Nat.le_of_ble_eq_true rfl, Nat.le_of_ble_eq_true rfl⟩) hK hP (rfl) rfl rfl hl.1 rfl (Nat.le_of_ble_eq_true rfl) dX11_put_23 ⟨Nat.zero_le _, Nat.zero_le _⟩ ?_
      refine lv_istore (lv' := [(5, .int o7), (0, .ref (a 0)), (1, .int x1), (2, .int x2), (3, .int x3), (4, .int x4)]) hx hb dX11_put_26 hl (by decide) rfl (fun ls hl => ?_)
      refine lv_iload hx hb dX11_put_28 (lv_at hl 0 rfl) ?_
      refine lv_if_le (tgt := 40) hx hb dX11_put_30 (by decide) (fun c9 => ?_) (fun c9 => ?_)
      · replace h := (if_pos c9).symm.trans h
        refine lv_aload_n hx hb dX11_put_40 rfl (lv_at hl 1 rfl) ?_
        refine lv_iload_n hx hb dX11_put_41 rfl (lv_at hl 2 rfl) ?_
        refine lv_iload_n hx hb dX11_put_42 rfl (lv_at hl 4 rfl) ?_
        refine lv_iload hx hb dX11_put_43 (lv_at hl 5 rfl) ?_
        obtain ⟨o10, eq11, h⟩ := bnd_some h
        refine kQvV (rest := []) (q0 := 0) ⟨hx, hb, hml, hown, hts⟩ (c_X11_keep l D k a mSizes mSigns mOdds mPat mTyped mText mAt mFault mTests mTN mTS mTV mTB mRead mUns mUM mBA mBH mThere mTypes mHeld mItems mMoved mFind x1 x3 x4 eq11) (cwV 3 hts (gAV wm_796 wm_797 wm_798 wm_5 wm_799) rfl rfl rfl qd_X11_keep ⟨Nat.le_of_ble_eq_true rfl, Nat.le_of_ble_eq_true rfl⟩) hK hP hD hS hA (rfl) rfl rfl hl.1 rfl (Nat.le_of_ble_eq_true rfl) dX11_put_45 ⟨Nat.zero_le _, Nat.zero_le _⟩ (fun H locs hP hD hS => ?_)
        have hP : va_P D vwCl (wM k a mSizes mSigns mOdds mPat mTyped mText mAt mFault mTests mTN mTS mTV mTB mRead mUns mUM mBA mBH mThere mTypes mHeld o10 mMoved mFind) H := hP
        have hD : va_D A (wM k a mSizes mSigns mOdds mPat mTyped mText mAt mFault mTests mTN mTS mTV mTB mRead mUns mUM mBA mBH mThere mTypes mHeld o10 mMoved mFind) := hD
        refine lv_iconst (v := 1) hx hb dX11_put_48 (by decide) ?_
        have he := Option.some.inj h
        exact W.iret (v := 1) hx hb hr (fun t ht hW => ⟨⟨1, wM k a mSizes mSigns mOdds mPat mTyped mText mAt mFault mTests mTN mTS mTV mTB mRead mUns mUM mBA mBH mThere mTypes mHeld o10 mMoved mFind, rfl, ⟨(congrArg (fun z => z.1) he), (congrArg (fun z => wM k a mSizes mSigns mOdds mPat mTyped mText mAt mFault mTests mTN mTS mTV mTB mRead mUns mUM mBA mBH mThere mTypes mHeld z.2.1 mMoved z.2.2) he)⟩, by rw [ht]; exact hP, va_K.moved hW.alike hK, hD⟩, hS.F ht⟩) hS.2.2 dX11_put_49
      · replace h := (if_neg c9).symm.trans h
        refine lv_aload_n hx hb dX11_put_33 rfl (lv_at hl 1 rfl) ?_
        refine lv_iload hx hb dX11_put_34 (lv_at hl 0 rfl) ?_
        obtain ⟨o12, eq13, h⟩ := bnd_some h
        refine kQiV (rest := []) (q0 := 0) ⟨hx, hb, hml, hown, hts⟩ (c_X11_meets l D k a mSizes mSigns mOdds mPat mTyped mText mAt mFault mTests mTN mTS mTV mTB mRead mUns mUM mBA mBH mThere mTypes mHeld mItems mMoved mFind o7 eq13) (cwV 1 hts (gAV wm_144 wm_145 wm_146 wm_5 wm_147) rfl rfl rfl qd_X11_meets ⟨Nat.le_of_ble_eq_true rfl, Nat.le_of_ble_eq_true rfl⟩) hK hP hD hS hA (rfl) rfl rfl hl.1 rfl (Nat.le_of_ble_eq_true rfl) dX11_put_36 ⟨Nat.zero_le _, Nat.zero_le _⟩ (fun H locs hP hD hS => ?_)
        have hP : va_P D vwCl (wM k a mSizes mSigns mOdds mPat mTyped mText mAt mFault mTests mTN mTS mTV mTB mRead mUns mUM mBA mBH mThere mTypes mHeld mItems mMoved o12.2) H := hP
        have hD : va_D A (wM k a mSizes mSigns mOdds mPat mTyped mText mAt mFault mTests mTN mTS mTV mTB mRead mUns mUM mBA mBH mThere mTypes mHeld mItems mMoved o12.2) := hD
        have he := Option.some.inj h
        exact W.iret (v := o12.1) hx hb hr (fun t ht hW => ⟨⟨o12.1, wM k a mSizes mSigns mOdds mPat mTyped mText mAt mFault mTests mTN mTS mTV mTB mRead mUns mUM mBA mBH mThere mTypes mHeld mItems mMoved o12.2, rfl, ⟨(congrArg (fun z => z.1) he), (congrArg (fun z => wM k a mSizes mSigns mOdds mPat mTyped mText mAt mFault mTests mTN mTS mTV mTB mRead mUns mUM mBA mBH mThere mTypes mHeld z.2.1 mMoved z.2.2) he)⟩, by rw [ht]; exact hP, va_K.moved hW.alike hK, hD⟩, hS.F ht⟩) hS.2.2 dX11_put_39
    · replace h := (if_pos c6).symm.trans h
      refine lv_bipush (v := (-2)) hx hb dX11_put_16 (by decide) ?_
      have he := Option.some.inj h
      exact W.iret (v := (-2)) hx hb hr (fun t ht hW => ⟨⟨(-2), wM k a mSizes mSigns mOdds mPat mTyped mText mAt mFault mTests mTN mTS mTV mTB mRead mUns mUM mBA mBH mThere mTypes mHeld mItems mMoved mFind, rfl, ⟨(congrArg (fun z => z.1) he), (congrArg (fun z => wM k a mSizes mSigns mOdds mPat mTyped mText mAt mFault mTests mTN mTS mTV mTB mRead mUns mUM mBA mBH mThere mTypes mHeld z.2.1 mMoved z.2.2) he)⟩, by rw [ht]; exact hP, va_K.moved hW.alike hK, hD⟩, hS.F ht⟩) hS.2.2 dX11_put_18
set_option maxHeartbeats 4000000 in
set_option maxRecDepth 100000 in
theorem c_X11_put (l : Launch) (D : va_G) (k : Nat → ClassId) (a : Nat → Nat) (mSizes : Nat → Int32) (mSigns : Nat → Int32) (mOdds : Int32) (mPat : Int32) (mTyped : Int32) (mText : Nat → Int32) (mAt : Int32) (mFault : Int32) (mTests : Int32) (mTN : Nat → Int32) (mTS : Nat → Int32) (mTV : Nat → Int32) (mTB : Nat → Int32) (mRead : Int32) (mUns : Nat → Int32) (mUM : Int32) (mBA : Int32) (mBH : Int32) (mThere : Nat → Int32) (mTypes : Nat → Int32) (mHeld : Nat → Int32) (mItems : Nat → Int32) (mMoved : Nat → Int32) (mFind : Int32) (x1 : Int32) (x2 : Int32) (x3 : Int32) (x4 : Int32) {o : Int32 × (Nat → Int32) × (Int32)} (h : f_X11_put x1 x2 x3 x4 mThere mTypes mHeld mItems mFind = some o) : mQi l yX11_put wo_X11_put 2 D k [.ref (a 0), .int x1, .int x2, .int x3, .int x4] (wM k a mSizes mSigns mOdds mPat mTyped mText mAt mFault mTests mTN mTS mTV mTB mRead mUns mUM mBA mBH mThere mTypes mHeld mItems mMoved mFind) o.1 (wM k a mSizes mSigns mOdds mPat mTyped mText mAt mFault mTests mTN mTS mTV mTB mRead mUns mUM mBA mBH mThere mTypes mHeld o.2.1 mMoved o.2.2) := by
  intro sz
  refine Met.ofW (cc := cX11_put) (maxL := 6) (ret := some .int) (by decide) rfl ?_
  intro p e s m args below meth c s₁ B hml hv
  obtain ⟨rfl, hsz, hP, hK, hD0⟩ := hv
  subst hsz
  rw [lg_entry_eq]
  exact core_X11_put D k a mSizes mSigns mOdds mPat mTyped mText mAt mFault mTests mTN mTS mTV mTB mRead mUns mUM mBA mBH mThere mTypes mHeld mItems mMoved mFind x1 x2 x3 x4 B.exec B.bytes hml B.returns (atoms_spec (ws := wo_X11_put) B.pre) (findClass_of_methodNamed B.named) B.notSynchronized (lv_entry [.ref (a 0), .int x1, .int x2, .int x3, .int x4] (n := 6) (Nat.le_of_ble_eq_true rfl)) hK hP hD0.self (fun q h => Or.inr h) h
theorem qd_X11_put : yX11_put.cls = RX11 ∧ yX11_put.cls ≠ "java/lang/invoke/MethodHandle" ∧ yX11_put.cls ≠ "java/lang/invoke/VarHandle" ∧ (parseMethodDescriptor yX11_put.desc).map (fun d => d.parameters.length) = some 4 := by decide +kernel
abbrev wo_X11_get : List Cond := .code yX11_get cX11_get 5 (some .int) :: wsL_law
set_option maxHeartbeats 4000000 in
set_option maxRecDepth 100000 in
theorem core_X11_get (D : va_G) (k : Nat → ClassId) (a : Nat → Nat) (mSizes : Nat → Int32) (mSigns : Nat → Int32) (mOdds : Int32) (mPat : Int32) (mTyped : Int32) (mText : Nat → Int32) (mAt : Int32) (mFault : Int32) (mTests : Int32) (mTN : Nat → Int32) (mTS : Nat → Int32) (mTV : Nat → Int32) (mTB : Nat → Int32) (mRead : Int32) (mUns : Nat → Int32) (mUM : Int32) (mBA : Int32) (mBH : Int32) (mThere : Nat → Int32) (mTypes : Nat → Int32) (mHeld : Nat → Int32) (mItems : Nat → Int32) (mMoved : Nat → Int32) (mFind : Int32) (x1 : Int32) (x2 : Int32) (x3 : Int32) {p : Program} {l : Launch} {e : Env} {s : State} {m : MethodId} {args : Array Value} {below : List Frame} {meth : Method} {c : Code} {ls : Array Slot} (hx : p.tables.exec = Jvm.exec) (hb : c.code = cX11_get) (hml : c.maxLocals = 5) (hr : meth.sig.returnType = some .int) (hts : ∀ w ∈ wo_X11_get, w.before args s = true) (hown : s.vm.findClass RX11 = some m.cls) (hlocks : meth.locks = false) (hl : lv_has ls 5 [(0, .ref (a 0)), (1, .int x1), (2, .int x2), (3, .int x3)]) (hK : va_K D vwCl (xTys k) s) (hP : va_P D vwCl (wM k a mSizes mSigns mOdds mPat mTyped mText mAt mFault mTests mTN mTS mTV mTB mRead mUns mUM mBA mBH mThere mTypes mHeld mItems mMoved mFind) s.heap) {A : Nat → Prop} (hD : va_D A (wM k a mSizes mSigns mOdds mPat mTyped mText mAt mFault mTests mTN mTS mTV mTB mRead mUns mUM mBA mBH mThere mTypes mHeld mItems mMoved mFind)) (hA : ∀ q : Nat, s.heap.size ≤ q → A q) {o : Int32 × (Int32)} (h : f_X11_get x1 x2 x3 mThere mTypes mHeld mItems mFind = some o) : gQi p l e wo_X11_get 2 s m args below meth c D k A o.1 (wM k a mSizes mSigns mOdds mPat mTyped mText mAt mFault mTests mTN mTS mTV mTB mRead mUns mUM mBA mBH mThere mTypes mHeld mItems mMoved o.2) s.heap [] (F0 m 0 ls []) := by
  have kc212 := hts _ (List.mem_cons_of_mem _ wm_809)
  have hi11 := (fun w h => List.mem_cons_of_mem _ (inlX11 w h) : ∀ w ∈ wsX110, w ∈ wo_X11_get)
  have kf51 := hts _ (List.mem_cons_of_mem _ wm_85)
  have kf203 := hts _ (List.mem_cons_of_mem _ wm_148)
  unfold f_X11_get at h
  have hS : va_S A s.heap s.heap [] := va_S.rf
  obtain ⟨H, hH⟩ : ∃ H : Heap, H = s.heap := ⟨_, rfl⟩
  obtain ⟨locs, hlc⟩ : ∃ locs : List Loc, locs = [] := ⟨_, rfl⟩
  have hS : va_S A s.heap H locs := by rw [hH, hlc]; exact va_S.rf
  have hP : va_P D vwCl (wM k a mSizes mSigns mOdds mPat mTyped mText mAt mFault mTests mTN mTS mTV mTB mRead mUns mUM mBA mBH mThere mTypes mHeld mItems mMoved mFind) H := by rw [hH]; exact hP
  suffices hGo : gQi p l e wo_X11_get 2 s m args below meth c D k A o.1 (wM k a mSizes mSigns mOdds mPat mTyped mText mAt mFault mTests mTN mTS mTV mTB mRead mUns mUM mBA mBH mThere mTypes mHeld mItems mMoved o.2) H locs (F0 m 0 ls []) by rw [hH, hlc] at hGo; exact hGo
  refine lv_iload_n hx hb dX11_get_0 rfl (lv_at hl 1 rfl) ?_
  obtain ⟨o1, eq2, h⟩ := bnd_some h
  refine kPi (rest := []) ⟨hx, hb, hml, hown, hts⟩ (c_X11_isSheet l x1 eq2) (va_cwS 1 hts (gAS wm_141 wm_142 wm_5 wm_143) rfl rfl rfl qd_X11_isSheet ⟨Nat.le_of_ble_eq_true rfl, Nat.le_of_ble_eq_true rfl⟩) rfl hl.1 rfl (Nat.le_of_ble_eq_true rfl) dX11_get_1 ⟨Nat.zero_le _, Nat.zero_le _⟩ ?_
  refine lv_if_eq (tgt := 16) hx hb dX11_get_4 (by decide) (fun c3 => ?_) (fun c3 => ?_)
  · replace h := (if_pos c3).symm.trans h
    refine lv_ldc (v := (-2147483648)) hx hb hown kc212 dX11_get_16 ?_
    have he := Option.some.inj h
    exact W.iret (v := (-2147483648)) hx hb hr (fun t ht hW => ⟨⟨(-2147483648), wM k a mSizes mSigns mOdds mPat mTyped mText mAt mFault mTests mTN mTS mTV mTB mRead mUns mUM mBA mBH mThere mTypes mHeld mItems mMoved mFind, rfl, ⟨(congrArg (fun z => z.1) he), (congrArg (fun z => wM k a mSizes mSigns mOdds mPat mTyped mText mAt mFault mTests mTN mTS mTV mTB mRead mUns mUM mBA mBH mThere mTypes mHeld mItems mMoved z.2) he)⟩, by rw [ht]; exact hP, va_K.moved hW.alike hK, hD⟩, hS.F ht⟩) hS.2.2 dX11_get_18
  · replace h := (if_neg c3).symm.trans h
    refine lv_iload_n hx hb dX11_get_7 rfl (lv_at hl 2 rfl) ?_
    refine lv_iconst (v := 0) hx hb dX11_get_8 (by decide) ?_
    refine lv_iconst (v := 2) hx hb dX11_get_9 (by decide) ?_
    obtain ⟨o4, eq5, h⟩ := bnd_some h
    refine kPi (rest := []) ⟨hx, hb, hml, hown, hts⟩ (c_X11_in l x2 0 2 eq5) (va_cwS 3 hts (gAS wm_120 wm_121 wm_5 wm_122) rfl rfl rfl qd_X11_in ⟨Nat.le_of_ble_eq_true rfl, Nat.le_of_ble_eq_true rfl⟩) rfl hl.1 rfl (Nat.le_of_ble_eq_true rfl) dX11_get_10 ⟨Nat.zero_le _, Nat.zero_le _⟩ ?_
    refine lv_if_ne (tgt := 19) hx hb dX11_get_13 (by decide) (fun c6 => ?_) (fun c6 => ?_)
    · replace h := (if_neg c6).symm.trans h
      refine lv_aload_n hx hb dX11_get_19 rfl (lv_at hl 0 rfl) ?_
      refine lv_iload_n hx hb dX11_get_20 rfl (lv_at hl 1 rfl) ?_
      refine lv_iload_n hx hb dX11_get_21 rfl (lv_at hl 2 rfl) ?_
      refine lv_iload_n hx hb dX11_get_22 rfl (lv_at hl 3 rfl) ?_
      obtain ⟨o7, eq8, h⟩ := bnd_some h
      refine kRiV (rest := []) (q0 := 0) ⟨hx, hb, hml, hown, hts⟩ (c_X11_lacks l D k a mSizes mSigns mOdds mPat mTyped mText mAt mFault mTests mTN mTS mTV mTB mRead mUns mUM mBA mBH mThere mTypes mHeld mItems mMoved mFind x1 x2 x3 eq8) (cwV 3 hts (gAV wm_792 wm_793 wm_794 wm_5 wm_795) rfl rfl rfl qd_X11_lacks ⟨Nat.le_of_ble_eq_true rfl, Nat.le_of_ble_eq_true rfl⟩) hK hP (rfl) rfl rfl hl.1 rfl (Nat.le_of_ble_eq_true rfl) dX11_get_23 ⟨Nat.zero_le _, Nat.zero_le _⟩ ?_
      refine lv_istore (lv' := [(4, .int o7), (0, .ref (a 0)), (1, .int x1), (2, .int x2), (3, .int x3)]) hx hb dX11_get_26 hl (by decide) rfl (fun ls hl => ?_)
      refine lv_iload hx hb dX11_get_28 (lv_at hl 0 rfl) ?_
      refine lv_if_le (tgt := 42) hx hb dX11_get_30 (by decide) (fun c9 => ?_) (fun c9 => ?_)
      · replace h := (if_pos c9).symm.trans h
        refine lv_aload_n hx hb dX11_get_42 rfl (lv_at hl 1 rfl) ?_
        refine va_get (D := D) (ci := 6) (v := .ref (a 12)) (C := RX11) (T := TX11) (N := 24) hx hb hts hi11 hown hK hP (0) (rfl) rfl 21 (by decide) kf51 (fun _ h9 => h9) rfl dX11_get_43 ?_
        refine lv_bipush (v := 40) hx hb dX11_get_46 (by decide) ?_
        refine lv_iload_n hx hb dX11_get_48 rfl (lv_at hl 2 rfl) ?_
        refine lv_imul hx hb dX11_get_49 ?_
        refine lv_iload_n hx hb dX11_get_50 rfl (lv_at hl 4 rfl) ?_
        refine lv_iadd hx hb dX11_get_51 ?_
        obtain ⟨g10, h⟩ := gIn_some h
        refine va_iald hx hb hK hP (12) 0 (rfl) rfl g10 dX11_get_52 ?_
        have he := Option.some.inj h
        exact W.iret (v := (mItems (((40 : Int32) * x1) + x3).toNatClampNeg)) hx hb hr (fun t ht hW => ⟨⟨(mItems (((40 : Int32) * x1) + x3).toNatClampNeg), wM k a mSizes mSigns mOdds mPat mTyped mText mAt mFault mTests mTN mTS mTV mTB mRead mUns mUM mBA mBH mThere mTypes mHeld mItems mMoved mFind, rfl, ⟨(congrArg (fun z => z.1) he), (congrArg (fun z => wM k a mSizes mSigns mOdds mPat mTyped mText mAt mFault mTests mTN mTS mTV mTB mRead mUns mUM mBA mBH mThere mTypes mHeld mItems mMoved z.2) he)⟩, by rw [ht]; exact hP, va_K.moved hW.alike hK, hD⟩, hS.F ht⟩) hS.2.2 dX11_get_53
      · replace h := (if_neg c9).symm.trans h
        refine lv_aload_n hx hb dX11_get_33 rfl (lv_at hl 1 rfl) ?_
        refine lv_iload hx hb dX11_get_34 (lv_at hl 0 rfl) ?_
        refine va_put (D := D) (ci := 6) (v := .int o7) (ty := .int) (C := RX11) (T := TX11) (N := 24) hx hb hts hi11 tyX11 tyX11_ok nmX11 hown hK hP hD hS (0) (rfl) rfl 23 (by decide) kf203 (fun _ h9 => h9) rfl (tyX11_ok 23 (by decide)) rfl rfl (Nat.le_of_ble_eq_true rfl) dX11_get_36 (fun H locs hP hD hS => ?_)
        have hP : va_P D vwCl (wM k a mSizes mSigns mOdds mPat mTyped mText mAt mFault mTests mTN mTS mTV mTB mRead mUns mUM mBA mBH mThere mTypes mHeld mItems mMoved o7) H := hP
        have hD : va_D A (wM k a mSizes mSigns mOdds mPat mTyped mText mAt mFault mTests mTN mTS mTV mTB mRead mUns mUM mBA mBH mThere mTypes mHeld mItems mMoved o7) := hD
        refine lv_ldc (v := (-2147483648)) hx hb hown kc212 dX11_get_39 ?_
        have he := Option.some.inj h
        exact W.iret (v := (-2147483648)) hx hb hr (fun t ht hW => ⟨⟨(-2147483648), wM k a mSizes mSigns mOdds mPat mTyped mText mAt mFault mTests mTN mTS mTV mTB mRead mUns mUM mBA mBH mThere mTypes mHeld mItems mMoved o7, rfl, ⟨(congrArg (fun z => z.1) he), (congrArg (fun z => wM k a mSizes mSigns mOdds mPat mTyped mText mAt mFault mTests mTN mTS mTV mTB mRead mUns mUM mBA mBH mThere mTypes mHeld mItems mMoved z.2) he)⟩, by rw [ht]; exact hP, va_K.moved hW.alike hK, hD⟩, hS.F ht⟩) hS.2.2 dX11_get_41
    · replace h := (if_pos c6).symm.trans h
      refine lv_ldc (v := (-2147483648)) hx hb hown kc212 dX11_get_16 ?_
      have he := Option.some.inj h
      exact W.iret (v := (-2147483648)) hx hb hr (fun t ht hW => ⟨⟨(-2147483648), wM k a mSizes mSigns mOdds mPat mTyped mText mAt mFault mTests mTN mTS mTV mTB mRead mUns mUM mBA mBH mThere mTypes mHeld mItems mMoved mFind, rfl, ⟨(congrArg (fun z => z.1) he), (congrArg (fun z => wM k a mSizes mSigns mOdds mPat mTyped mText mAt mFault mTests mTN mTS mTV mTB mRead mUns mUM mBA mBH mThere mTypes mHeld mItems mMoved z.2) he)⟩, by rw [ht]; exact hP, va_K.moved hW.alike hK, hD⟩, hS.F ht⟩) hS.2.2 dX11_get_18
set_option maxHeartbeats 4000000 in
set_option maxRecDepth 100000 in
theorem c_X11_get (l : Launch) (D : va_G) (k : Nat → ClassId) (a : Nat → Nat) (mSizes : Nat → Int32) (mSigns : Nat → Int32) (mOdds : Int32) (mPat : Int32) (mTyped : Int32) (mText : Nat → Int32) (mAt : Int32) (mFault : Int32) (mTests : Int32) (mTN : Nat → Int32) (mTS : Nat → Int32) (mTV : Nat → Int32) (mTB : Nat → Int32) (mRead : Int32) (mUns : Nat → Int32) (mUM : Int32) (mBA : Int32) (mBH : Int32) (mThere : Nat → Int32) (mTypes : Nat → Int32) (mHeld : Nat → Int32) (mItems : Nat → Int32) (mMoved : Nat → Int32) (mFind : Int32) (x1 : Int32) (x2 : Int32) (x3 : Int32) {o : Int32 × (Int32)} (h : f_X11_get x1 x2 x3 mThere mTypes mHeld mItems mFind = some o) : mQi l yX11_get wo_X11_get 2 D k [.ref (a 0), .int x1, .int x2, .int x3] (wM k a mSizes mSigns mOdds mPat mTyped mText mAt mFault mTests mTN mTS mTV mTB mRead mUns mUM mBA mBH mThere mTypes mHeld mItems mMoved mFind) o.1 (wM k a mSizes mSigns mOdds mPat mTyped mText mAt mFault mTests mTN mTS mTV mTB mRead mUns mUM mBA mBH mThere mTypes mHeld mItems mMoved o.2) := by
  intro sz
  refine Met.ofW (cc := cX11_get) (maxL := 5) (ret := some .int) (by decide) rfl ?_
  intro p e s m args below meth c s₁ B hml hv
  obtain ⟨rfl, hsz, hP, hK, hD0⟩ := hv
  subst hsz
  rw [lg_entry_eq]
  exact core_X11_get D k a mSizes mSigns mOdds mPat mTyped mText mAt mFault mTests mTN mTS mTV mTB mRead mUns mUM mBA mBH mThere mTypes mHeld mItems mMoved mFind x1 x2 x3 B.exec B.bytes hml B.returns (atoms_spec (ws := wo_X11_get) B.pre) (findClass_of_methodNamed B.named) B.notSynchronized (lv_entry [.ref (a 0), .int x1, .int x2, .int x3] (n := 5) (Nat.le_of_ble_eq_true rfl)) hK hP hD0.self (fun q h => Or.inr h) h
theorem qd_X11_get : yX11_get.cls = RX11 ∧ yX11_get.cls ≠ "java/lang/invoke/MethodHandle" ∧ yX11_get.cls ≠ "java/lang/invoke/VarHandle" ∧ (parseMethodDescriptor yX11_get.desc).map (fun d => d.parameters.length) = some 3 := by decide +kernel
abbrev wo_X11_copy : List Cond := .code yX11_copy cX11_copy 7 (some .int) :: wsL_law
set_option maxHeartbeats 4000000 in
set_option maxRecDepth 100000 in
theorem core_X11_copy {N : Nat} (D : va_G) (k : Nat → ClassId) (a : Nat → Nat) (mSizes : Nat → Int32) (mSigns : Nat → Int32) (mOdds : Int32) (mPat : Int32) (mTyped : Int32) (mText : Nat → Int32) (mAt : Int32) (mFault : Int32) (mTests : Int32) (mTN : Nat → Int32) (mTS : Nat → Int32) (mTV : Nat → Int32) (mTB : Nat → Int32) (mRead : Int32) (mUns : Nat → Int32) (mUM : Int32) (mBA : Int32) (mBH : Int32) (mThere : Nat → Int32) (mTypes : Nat → Int32) (mHeld : Nat → Int32) (mItems : Nat → Int32) (mMoved : Nat → Int32) (mFind : Int32) (x1 : Int32) (x2 : Int32) (x3 : Int32) (x4 : Int32) (x5 : Int32) {p : Program} {l : Launch} {e : Env} {s : State} {m : MethodId} {args : Array Value} {below : List Frame} {meth : Method} {c : Code} {ls : Array Slot} (hx : p.tables.exec = Jvm.exec) (hb : c.code = cX11_copy) (hml : c.maxLocals = 7) (hr : meth.sig.returnType = some .int) (hts : ∀ w ∈ wo_X11_copy, w.before args s = true) (hown : s.vm.findClass RX11 = some m.cls) (hlocks : meth.locks = false) (hl : lv_has ls 7 [(0, .ref (a 0)), (1, .int x1), (2, .int x2), (3, .int x3), (4, .int x4), (5, .int x5)]) (hK : va_K D vwCl (xTys k) s) (hP : va_P D vwCl (wM k a mSizes mSigns mOdds mPat mTyped mText mAt mFault mTests mTN mTS mTV mTB mRead mUns mUM mBA mBH mThere mTypes mHeld mItems mMoved mFind) s.heap) {A : Nat → Prop} (hD : va_D A (wM k a mSizes mSigns mOdds mPat mTyped mText mAt mFault mTests mTN mTS mTV mTB mRead mUns mUM mBA mBH mThere mTypes mHeld mItems mMoved mFind)) (hA : ∀ q : Nat, s.heap.size ≤ q → A q) {o : Int32 × (Nat → Int32) × (Nat → Int32) × (Int32)} (h : f_X11_copy N x1 x2 x3 x4 x5 mThere mTypes mHeld mItems mMoved mFind = some o) : gQi p l e wo_X11_copy 2 s m args below meth c D k A o.1 (wM k a mSizes mSigns mOdds mPat mTyped mText mAt mFault mTests mTN mTS mTV mTB mRead mUns mUM mBA mBH mThere mTypes mHeld o.2.1 o.2.2.1 o.2.2.2) s.heap [] (F0 m 0 ls []) := by
  have hi11 := (fun w h => List.mem_cons_of_mem _ (inlX11 w h) : ∀ w ∈ wsX110, w ∈ wo_X11_copy)
  have kf51 := hts _ (List.mem_cons_of_mem _ wm_85)
  have kf54 := hts _ (List.mem_cons_of_mem _ wm_86)
  have kf42 := hts _ (List.mem_cons_of_mem _ wm_82)
  have kf45 := hts _ (List.mem_cons_of_mem _ wm_83)
  have kf48 := hts _ (List.mem_cons_of_mem _ wm_84)
  unfold f_X11_copy at h
  have hS : va_S A s.heap s.heap [] := va_S.rf
  have L157 : ∀ (n157 : Nat) (x3 : Int32) (x4 : Int32) (x5 : Int32) (x6 : Int32) (mItems : Nat → Int32) (mMoved : Nat → Int32) (mFind : Int32) (ls : Array Slot) (H : Heap) (locs : List Loc) (hl : lv_has ls 7 [(0, .ref (a 0)), (3, .int x3), (4, .int x4), (5, .int x5), (6, .int x6)]) (hP : va_P D vwCl (wM k a mSizes mSigns mOdds mPat mTyped mText mAt mFault mTests mTN mTS mTV mTB mRead mUns mUM mBA mBH mThere mTypes mHeld mItems mMoved mFind) H) (hD : va_D A (wM k a mSizes mSigns mOdds mPat mTyped mText mAt mFault mTests mTN mTS mTV mTB mRead mUns mUM mBA mBH mThere mTypes mHeld mItems mMoved mFind)) (hS : va_S A s.heap H locs) (h : f_X11_copy_157 N n157 x3 x4 x5 x6 mThere mTypes mHeld mItems mMoved mFind = some o), gQi p l e wo_X11_copy 2 s m args below meth c D k A o.1 (wM k a mSizes mSigns mOdds mPat mTyped mText mAt mFault mTests mTN mTS mTV mTB mRead mUns mUM mBA mBH mThere mTypes mHeld o.2.1 o.2.2.1 o.2.2.2) H locs (F0 m 157 ls []) := by
    intro n157
    induction n157 with
    | zero => intro x3 x4 x5 x6 mItems mMoved mFind ls H locs hl hP hD hS h; cases (show (none : Option (Int32 × (Nat → Int32) × (Nat → Int32) × (Int32))) = some o from h)
    | succ n157 ih157 =>
      intro x3 x4 x5 x6 mItems mMoved mFind ls H locs hl hP hD hS h
      rw [f_X11_copy_157] at h
      refine lv_iload hx hb dX11_copy_157 (lv_at hl 4 rfl) ?_
      refine lv_iload hx hb dX11_copy_159 (lv_at hl 3 rfl) ?_
      refine lv_icmp_ge (tgt := 192) hx hb dX11_copy_161 (by decide) (fun c1 => ?_) (fun c1 => ?_)
      · replace h := (if_pos c1).symm.trans h
        refine lv_iconst (v := 1) hx hb dX11_copy_192 (by decide) ?_
        have he := Option.some.inj h
        exact W.iret (v := 1) hx hb hr (fun t ht hW => ⟨⟨1, wM k a mSizes mSigns mOdds mPat mTyped mText mAt mFault mTests mTN mTS mTV mTB mRead mUns mUM mBA mBH mThere mTypes mHeld mItems mMoved mFind, rfl, ⟨(congrArg (fun z => z.1) he), (congrArg (fun z => wM k a mSizes mSigns mOdds mPat mTyped mText mAt mFault mTests mTN mTS mTV mTB mRead mUns mUM mBA mBH mThere mTypes mHeld z.2.1 z.2.2.1 z.2.2.2) he)⟩, by rw [ht]; exact hP, va_K.moved hW.alike hK, hD⟩, hS.F ht⟩) hS.2.2 dX11_copy_193
      · replace h := (if_neg c1).symm.trans h
        refine lv_aload_n hx hb dX11_copy_164 rfl (lv_at hl 0 rfl) ?_
        refine va_get (D := D) (ci := 6) (v := .ref (a 12)) (C := RX11) (T := TX11) (N := 24) hx hb hts hi11 hown hK hP (0) (rfl) rfl 21 (by decide) kf51 (fun _ h9 => h9) rfl dX11_copy_165 ?_
        refine lv_bipush (v := 40) hx hb dX11_copy_168 (by decide) ?_
        refine lv_iload_n hx hb dX11_copy_170 rfl (lv_at hl 1 rfl) ?_
        refine lv_imul hx hb dX11_copy_171 ?_
        refine lv_iload hx hb dX11_copy_172 (lv_at hl 2 rfl) ?_
        refine lv_iadd hx hb dX11_copy_174 ?_
        refine lv_iload hx hb dX11_copy_175 (lv_at hl 4 rfl) ?_
        refine lv_iadd hx hb dX11_copy_177 ?_
        refine lv_aload_n hx hb dX11_copy_178 rfl (lv_at hl 0 rfl) ?_
        refine va_get (D := D) (ci := 6) (v := .ref (a 13)) (C := RX11) (T := TX11) (N := 24) hx hb hts hi11 hown hK hP (0) (rfl) rfl 22 (by decide) kf54 (fun _ h9 => h9) rfl dX11_copy_179 ?_
        refine lv_iload hx hb dX11_copy_182 (lv_at hl 4 rfl) ?_
        obtain ⟨g2, h⟩ := gIn_some h
        refine va_iald hx hb hK hP (13) 0 (rfl) rfl g2 dX11_copy_184 ?_
        obtain ⟨g3, h⟩ := gIn_some h
        refine va_iast hx hb hK hP hD hS (12) 0 (rfl) rfl g3 dX11_copy_185 (fun H locs hP hD hS => ?_)
        have hP : va_P D vwCl (wM k a mSizes mSigns mOdds mPat mTyped mText mAt mFault mTests mTN mTS mTV mTB mRead mUns mUM mBA mBH mThere mTypes mHeld (upd mItems ((((40 : Int32) * x3) + x4) + x6).toNatClampNeg (mMoved x6.toNatClampNeg)) mMoved mFind) H := hP
        have hD : va_D A (wM k a mSizes mSigns mOdds mPat mTyped mText mAt mFault mTests mTN mTS mTV mTB mRead mUns mUM mBA mBH mThere mTypes mHeld (upd mItems ((((40 : Int32) * x3) + x4) + x6).toNatClampNeg (mMoved x6.toNatClampNeg)) mMoved mFind) := hD
        refine lv_iinc (v := (x6 + 1)) (lv' := [(6, .int (x6 + 1)), (0, .ref (a 0)), (3, .int x3), (4, .int x4), (5, .int x5)]) hx hb dX11_copy_186 hl (k := 4) rfl rfl (by decide) rfl (fun ls hl => ?_)
        refine lv_goto (tgt := 157) hx hb dX11_copy_189 (by decide) ?_
        exact ih157 x3 x4 x5 (x6 + 1) (upd mItems ((((40 : Int32) * x3) + x4) + x6).toNatClampNeg (mMoved x6.toNatClampNeg)) mMoved mFind ls H locs (lv_sub hl [1, 2, 3, 4, 0] rfl) hP hD hS h
  have L120 : ∀ (n120 : Nat) (x1 : Int32) (x2 : Int32) (x3 : Int32) (x4 : Int32) (x5 : Int32) (x6 : Int32) (mItems : Nat → Int32) (mMoved : Nat → Int32) (mFind : Int32) (ls : Array Slot) (H : Heap) (locs : List Loc) (hl : lv_has ls 7 [(0, .ref (a 0)), (1, .int x1), (2, .int x2), (3, .int x3), (4, .int x4), (5, .int x5), (6, .int x6)]) (hP : va_P D vwCl (wM k a mSizes mSigns mOdds mPat mTyped mText mAt mFault mTests mTN mTS mTV mTB mRead mUns mUM mBA mBH mThere mTypes mHeld mItems mMoved mFind) H) (hD : va_D A (wM k a mSizes mSigns mOdds mPat mTyped mText mAt mFault mTests mTN mTS mTV mTB mRead mUns mUM mBA mBH mThere mTypes mHeld mItems mMoved mFind)) (hS : va_S A s.heap H locs) (h : f_X11_copy_120 N n120 x1 x2 x3 x4 x5 x6 mThere mTypes mHeld mItems mMoved mFind = some o), gQi p l e wo_X11_copy 2 s m args below meth c D k A o.1 (wM k a mSizes mSigns mOdds mPat mTyped mText mAt mFault mTests mTN mTS mTV mTB mRead mUns mUM mBA mBH mThere mTypes mHeld o.2.1 o.2.2.1 o.2.2.2) H locs (F0 m 120 ls []) := by
    intro n120
    induction n120 with
    | zero => intro x1 x2 x3 x4 x5 x6 mItems mMoved mFind ls H locs hl hP hD hS h; cases (show (none : Option (Int32 × (Nat → Int32) × (Nat → Int32) × (Int32))) = some o from h)
    | succ n120 ih120 =>
      intro x1 x2 x3 x4 x5 x6 mItems mMoved mFind ls H locs hl hP hD hS h
      rw [f_X11_copy_120] at h
      refine lv_iload hx hb dX11_copy_120 (lv_at hl 6 rfl) ?_
      refine lv_iload hx hb dX11_copy_122 (lv_at hl 5 rfl) ?_
      refine lv_icmp_ge (tgt := 154) hx hb dX11_copy_124 (by decide) (fun c4 => ?_) (fun c4 => ?_)
      · replace h := (if_pos c4).symm.trans h
        refine lv_iconst (v := 0) hx hb dX11_copy_154 (by decide) ?_
        refine lv_istore (lv' := [(6, .int 0), (0, .ref (a 0)), (1, .int x1), (2, .int x2), (3, .int x3), (4, .int x4), (5, .int x5)]) hx hb dX11_copy_155 hl (by decide) rfl (fun ls hl => ?_)
        exact L157 N x3 x4 x5 0 mItems mMoved mFind ls H locs (lv_sub hl [1, 4, 5, 6, 0] rfl) hP hD hS h
      · replace h := (if_neg c4).symm.trans h
        refine lv_aload_n hx hb dX11_copy_127 rfl (lv_at hl 0 rfl) ?_
        refine va_get (D := D) (ci := 6) (v := .ref (a 13)) (C := RX11) (T := TX11) (N := 24) hx hb hts hi11 hown hK hP (0) (rfl) rfl 22 (by decide) kf54 (fun _ h9 => h9) rfl dX11_copy_128 ?_
        refine lv_iload hx hb dX11_copy_131 (lv_at hl 6 rfl) ?_
        refine lv_aload_n hx hb dX11_copy_133 rfl (lv_at hl 0 rfl) ?_
        refine va_get (D := D) (ci := 6) (v := .ref (a 12)) (C := RX11) (T := TX11) (N := 24) hx hb hts hi11 hown hK hP (0) (rfl) rfl 21 (by decide) kf51 (fun _ h9 => h9) rfl dX11_copy_134 ?_
        refine lv_bipush (v := 40) hx hb dX11_copy_137 (by decide) ?_
        refine lv_iload_n hx hb dX11_copy_139 rfl (lv_at hl 1 rfl) ?_
        refine lv_imul hx hb dX11_copy_140 ?_
        refine lv_iload_n hx hb dX11_copy_141 rfl (lv_at hl 2 rfl) ?_
        refine lv_iadd hx hb dX11_copy_142 ?_
        refine lv_iload hx hb dX11_copy_143 (lv_at hl 6 rfl) ?_
        refine lv_iadd hx hb dX11_copy_145 ?_
        obtain ⟨g5, h⟩ := gIn_some h
        refine va_iald hx hb hK hP (12) 0 (rfl) rfl g5 dX11_copy_146 ?_
        obtain ⟨g6, h⟩ := gIn_some h
        refine va_iast hx hb hK hP hD hS (13) 0 (rfl) rfl g6 dX11_copy_147 (fun H locs hP hD hS => ?_)
        have hP : va_P D vwCl (wM k a mSizes mSigns mOdds mPat mTyped mText mAt mFault mTests mTN mTS mTV mTB mRead mUns mUM mBA mBH mThere mTypes mHeld mItems (upd mMoved x6.toNatClampNeg (mItems ((((40 : Int32) * x1) + x2) + x6).toNatClampNeg)) mFind) H := hP
        have hD : va_D A (wM k a mSizes mSigns mOdds mPat mTyped mText mAt mFault mTests mTN mTS mTV mTB mRead mUns mUM mBA mBH mThere mTypes mHeld mItems (upd mMoved x6.toNatClampNeg (mItems ((((40 : Int32) * x1) + x2) + x6).toNatClampNeg)) mFind) := hD
        refine lv_iinc (v := (x6 + 1)) (lv' := [(6, .int (x6 + 1)), (0, .ref (a 0)), (1, .int x1), (2, .int x2), (3, .int x3), (4, .int x4), (5, .int x5)]) hx hb dX11_copy_148 hl (k := 6) rfl rfl (by decide) rfl (fun ls hl => ?_)
        refine lv_goto (tgt := 120) hx hb dX11_copy_151 (by decide) ?_
        exact ih120 x1 x2 x3 x4 x5 (x6 + 1) mItems (upd mMoved x6.toNatClampNeg (mItems ((((40 : Int32) * x1) + x2) + x6).toNatClampNeg)) mFind ls H locs (lv_sub hl [1, 2, 3, 4, 5, 6, 0] rfl) hP hD hS h
  have J111 : ∀ (mItems : Nat → Int32) (mMoved : Nat → Int32) (mFind : Int32) (ls : Array Slot) (H : Heap) (locs : List Loc) (hl : lv_has ls 7 [(0, .ref (a 0))]) (hP : va_P D vwCl (wM k a mSizes mSigns mOdds mPat mTyped mText mAt mFault mTests mTN mTS mTV mTB mRead mUns mUM mBA mBH mThere mTypes mHeld mItems mMoved mFind) H) (hD : va_D A (wM k a mSizes mSigns mOdds mPat mTyped mText mAt mFault mTests mTN mTS mTV mTB mRead mUns mUM mBA mBH mThere mTypes mHeld mItems mMoved mFind)) (hS : va_S A s.heap H locs) (h : f_X11_copy_111 N mThere mTypes mHeld mItems mMoved mFind = some o), gQi p l e wo_X11_copy 2 s m args below meth c D k A o.1 (wM k a mSizes mSigns mOdds mPat mTyped mText mAt mFault mTests mTN mTS mTV mTB mRead mUns mUM mBA mBH mThere mTypes mHeld o.2.1 o.2.2.1 o.2.2.2) H locs (F0 m 111 ls []) := by
    intro mItems mMoved mFind ls H locs hl hP hD hS h
    unfold f_X11_copy_111 at h
    refine lv_aload_n hx hb dX11_copy_111 rfl (lv_at hl 0 rfl) ?_
    refine lv_iconst (v := 2) hx hb dX11_copy_112 (by decide) ?_
    obtain ⟨o7, eq8, h⟩ := bnd_some h
    refine kQiV (rest := []) (q0 := 0) ⟨hx, hb, hml, hown, hts⟩ (c_X11_meets l D k a mSizes mSigns mOdds mPat mTyped mText mAt mFault mTests mTN mTS mTV mTB mRead mUns mUM mBA mBH mThere mTypes mHeld mItems mMoved mFind 2 eq8) (cwV 1 hts (gAV wm_144 wm_145 wm_146 wm_5 wm_147) rfl rfl rfl qd_X11_meets ⟨Nat.le_of_ble_eq_true rfl, Nat.le_of_ble_eq_true rfl⟩) hK hP hD hS hA (rfl) rfl rfl hl.1 rfl (Nat.le_of_ble_eq_true rfl) dX11_copy_113 ⟨Nat.zero_le _, Nat.zero_le _⟩ (fun H locs hP hD hS => ?_)
    have hP : va_P D vwCl (wM k a mSizes mSigns mOdds mPat mTyped mText mAt mFault mTests mTN mTS mTV mTB mRead mUns mUM mBA mBH mThere mTypes mHeld mItems mMoved o7.2) H := hP
    have hD : va_D A (wM k a mSizes mSigns mOdds mPat mTyped mText mAt mFault mTests mTN mTS mTV mTB mRead mUns mUM mBA mBH mThere mTypes mHeld mItems mMoved o7.2) := hD
    have he := Option.some.inj h
    exact W.iret (v := o7.1) hx hb hr (fun t ht hW => ⟨⟨o7.1, wM k a mSizes mSigns mOdds mPat mTyped mText mAt mFault mTests mTN mTS mTV mTB mRead mUns mUM mBA mBH mThere mTypes mHeld mItems mMoved o7.2, rfl, ⟨(congrArg (fun z => z.1) he), (congrArg (fun z => wM k a mSizes mSigns mOdds mPat mTyped mText mAt mFault mTests mTN mTS mTV mTB mRead mUns mUM mBA mBH mThere mTypes mHeld z.2.1 z.2.2.1 z.2.2.2) he)⟩, by rw [ht]; exact hP, va_K.moved hW.alike hK, hD⟩, hS.F ht⟩) hS.2.2 dX11_copy_116
  have J35 : ∀ (mItems : Nat → Int32) (mMoved : Nat → Int32) (mFind : Int32) (ls : Array Slot) (H : Heap) (locs : List Loc) (hl : lv_has ls 7 [(0, .ref (a 0))]) (hP : va_P D vwCl (wM k a mSizes mSigns mOdds mPat mTyped mText mAt mFault mTests mTN mTS mTV mTB mRead mUns mUM mBA mBH mThere mTypes mHeld mItems mMoved mFind) H) (hD : va_D A (wM k a mSizes mSigns mOdds mPat mTyped mText mAt mFault mTests mTN mTS mTV mTB mRead mUns mUM mBA mBH mThere mTypes mHeld mItems mMoved mFind)) (hS : va_S A s.heap H locs) (h : f_X11_copy_35 N mThere mTypes mHeld mItems mMoved mFind = some o), gQi p l e wo_X11_copy 2 s m args below meth c D k A o.1 (wM k a mSizes mSigns mOdds mPat mTyped mText mAt mFault mTests mTN mTS mTV mTB mRead mUns mUM mBA mBH mThere mTypes mHeld o.2.1 o.2.2.1 o.2.2.2) H locs (F0 m 35 ls []) := by
    intro mItems mMoved mFind ls H locs hl hP hD hS h
    unfold f_X11_copy_35 at h
    refine lv_aload_n hx hb dX11_copy_35 rfl (lv_at hl 0 rfl) ?_
    refine lv_iconst (v := 1) hx hb dX11_copy_36 (by decide) ?_
    obtain ⟨o9, eq10, h⟩ := bnd_some h
    refine kQiV (rest := []) (q0 := 0) ⟨hx, hb, hml, hown, hts⟩ (c_X11_meets l D k a mSizes mSigns mOdds mPat mTyped mText mAt mFault mTests mTN mTS mTV mTB mRead mUns mUM mBA mBH mThere mTypes mHeld mItems mMoved mFind 1 eq10) (cwV 1 hts (gAV wm_144 wm_145 wm_146 wm_5 wm_147) rfl rfl rfl qd_X11_meets ⟨Nat.le_of_ble_eq_true rfl, Nat.le_of_ble_eq_true rfl⟩) hK hP hD hS hA (rfl) rfl rfl hl.1 rfl (Nat.le_of_ble_eq_true rfl) dX11_copy_37 ⟨Nat.zero_le _, Nat.zero_le _⟩ (fun H locs hP hD hS => ?_)
    have hP : va_P D vwCl (wM k a mSizes mSigns mOdds mPat mTyped mText mAt mFault mTests mTN mTS mTV mTB mRead mUns mUM mBA mBH mThere mTypes mHeld mItems mMoved o9.2) H := hP
    have hD : va_D A (wM k a mSizes mSigns mOdds mPat mTyped mText mAt mFault mTests mTN mTS mTV mTB mRead mUns mUM mBA mBH mThere mTypes mHeld mItems mMoved o9.2) := hD
    have he := Option.some.inj h
    exact W.iret (v := o9.1) hx hb hr (fun t ht hW => ⟨⟨o9.1, wM k a mSizes mSigns mOdds mPat mTyped mText mAt mFault mTests mTN mTS mTV mTB mRead mUns mUM mBA mBH mThere mTypes mHeld mItems mMoved o9.2, rfl, ⟨(congrArg (fun z => z.1) he), (congrArg (fun z => wM k a mSizes mSigns mOdds mPat mTyped mText mAt mFault mTests mTN mTS mTV mTB mRead mUns mUM mBA mBH mThere mTypes mHeld z.2.1 z.2.2.1 z.2.2.2) he)⟩, by rw [ht]; exact hP, va_K.moved hW.alike hK, hD⟩, hS.F ht⟩) hS.2.2 dX11_copy_40
  obtain ⟨H, hH⟩ : ∃ H : Heap, H = s.heap := ⟨_, rfl⟩
  obtain ⟨locs, hlc⟩ : ∃ locs : List Loc, locs = [] := ⟨_, rfl⟩
  have hS : va_S A s.heap H locs := by rw [hH, hlc]; exact va_S.rf
  have hP : va_P D vwCl (wM k a mSizes mSigns mOdds mPat mTyped mText mAt mFault mTests mTN mTS mTV mTB mRead mUns mUM mBA mBH mThere mTypes mHeld mItems mMoved mFind) H := by rw [hH]; exact hP
  suffices hGo : gQi p l e wo_X11_copy 2 s m args below meth c D k A o.1 (wM k a mSizes mSigns mOdds mPat mTyped mText mAt mFault mTests mTN mTS mTV mTB mRead mUns mUM mBA mBH mThere mTypes mHeld o.2.1 o.2.2.1 o.2.2.2) H locs (F0 m 0 ls []) by rw [hH, hlc] at hGo; exact hGo
  refine lv_iload_n hx hb dX11_copy_0 rfl (lv_at hl 1 rfl) ?_
  obtain ⟨o11, eq12, h⟩ := bnd_some h
  refine kPi (rest := []) ⟨hx, hb, hml, hown, hts⟩ (c_X11_isSheet l x1 eq12) (va_cwS 1 hts (gAS wm_141 wm_142 wm_5 wm_143) rfl rfl rfl qd_X11_isSheet ⟨Nat.le_of_ble_eq_true rfl, Nat.le_of_ble_eq_true rfl⟩) rfl hl.1 rfl (Nat.le_of_ble_eq_true rfl) dX11_copy_1 ⟨Nat.zero_le _, Nat.zero_le _⟩ ?_
  refine lv_if_eq (tgt := 14) hx hb dX11_copy_4 (by decide) (fun c13 => ?_) (fun c13 => ?_)
  · replace h := (if_pos c13).symm.trans h
    refine lv_bipush (v := (-2)) hx hb dX11_copy_14 (by decide) ?_
    have he := Option.some.inj h
    exact W.iret (v := (-2)) hx hb hr (fun t ht hW => ⟨⟨(-2), wM k a mSizes mSigns mOdds mPat mTyped mText mAt mFault mTests mTN mTS mTV mTB mRead mUns mUM mBA mBH mThere mTypes mHeld mItems mMoved mFind, rfl, ⟨(congrArg (fun z => z.1) he), (congrArg (fun z => wM k a mSizes mSigns mOdds mPat mTyped mText mAt mFault mTests mTN mTS mTV mTB mRead mUns mUM mBA mBH mThere mTypes mHeld z.2.1 z.2.2.1 z.2.2.2) he)⟩, by rw [ht]; exact hP, va_K.moved hW.alike hK, hD⟩, hS.F ht⟩) hS.2.2 dX11_copy_16
  · replace h := (if_neg c13).symm.trans h
    refine lv_iload_n hx hb dX11_copy_7 rfl (lv_at hl 3 rfl) ?_
    obtain ⟨o14, eq15, h⟩ := bnd_some h
    refine kPi (rest := []) ⟨hx, hb, hml, hown, hts⟩ (c_X11_isSheet l x3 eq15) (va_cwS 1 hts (gAS wm_141 wm_142 wm_5 wm_143) rfl rfl rfl qd_X11_isSheet ⟨Nat.le_of_ble_eq_true rfl, Nat.le_of_ble_eq_true rfl⟩) rfl hl.1 rfl (Nat.le_of_ble_eq_true rfl) dX11_copy_8 ⟨Nat.zero_le _, Nat.zero_le _⟩ ?_
    refine lv_if_ne (tgt := 17) hx hb dX11_copy_11 (by decide) (fun c16 => ?_) (fun c16 => ?_)
    · replace h := (if_neg c16).symm.trans h
      refine lv_aload_n hx hb dX11_copy_17 rfl (lv_at hl 0 rfl) ?_
      refine va_get (D := D) (ci := 6) (v := .ref (a 9)) (C := RX11) (T := TX11) (N := 24) hx hb hts hi11 hown hK hP (0) (rfl) rfl 18 (by decide) kf42 (fun _ h9 => h9) rfl dX11_copy_18 ?_
      refine lv_iload_n hx hb dX11_copy_21 rfl (lv_at hl 1 rfl) ?_
      obtain ⟨g17, h⟩ := gIn_some h
      refine va_zald hx hb hK hP (9) 1 (rfl) rfl g17 dX11_copy_22 ?_
      refine lv_if_eq (tgt := 35) hx hb dX11_copy_23 (by decide) (fun c18 => ?_) (fun c18 => ?_)
      · replace h := (if_pos c18).symm.trans h
        exact J35 mItems mMoved mFind ls H locs (lv_sub hl [0] rfl) hP hD hS h
      · replace h := (if_neg c18).symm.trans h
        refine lv_aload_n hx hb dX11_copy_26 rfl (lv_at hl 0 rfl) ?_
        refine va_get (D := D) (ci := 6) (v := .ref (a 9)) (C := RX11) (T := TX11) (N := 24) hx hb hts hi11 hown hK hP (0) (rfl) rfl 18 (by decide) kf42 (fun _ h9 => h9) rfl dX11_copy_27 ?_
        refine lv_iload_n hx hb dX11_copy_30 rfl (lv_at hl 3 rfl) ?_
        obtain ⟨g19, h⟩ := gIn_some h
        refine va_zald hx hb hK hP (9) 1 (rfl) rfl g19 dX11_copy_31 ?_
        refine lv_if_ne (tgt := 41) hx hb dX11_copy_32 (by decide) (fun c20 => ?_) (fun c20 => ?_)
        · replace h := (if_neg c20).symm.trans h
          refine lv_aload_n hx hb dX11_copy_41 rfl (lv_at hl 0 rfl) ?_
          refine va_get (D := D) (ci := 6) (v := .ref (a 10)) (C := RX11) (T := TX11) (N := 24) hx hb hts hi11 hown hK hP (0) (rfl) rfl 19 (by decide) kf45 (fun _ h9 => h9) rfl dX11_copy_42 ?_
          refine lv_iload_n hx hb dX11_copy_45 rfl (lv_at hl 1 rfl) ?_
          refine va_iald hx hb hK hP (10) 0 (rfl) rfl g17 dX11_copy_46 ?_
          refine lv_aload_n hx hb dX11_copy_47 rfl (lv_at hl 0 rfl) ?_
          refine va_get (D := D) (ci := 6) (v := .ref (a 10)) (C := RX11) (T := TX11) (N := 24) hx hb hts hi11 hown hK hP (0) (rfl) rfl 19 (by decide) kf45 (fun _ h9 => h9) rfl dX11_copy_48 ?_
          refine lv_iload_n hx hb dX11_copy_51 rfl (lv_at hl 3 rfl) ?_
          refine va_iald hx hb hK hP (10) 0 (rfl) rfl g19 dX11_copy_52 ?_
          refine lv_icmp_eq (tgt := 62) hx hb dX11_copy_53 (by decide) (fun c21 => ?_) (fun c21 => ?_)
          · replace h := (if_pos c21).symm.trans h
            refine lv_iload_n hx hb dX11_copy_62 rfl (lv_at hl 2 rfl) ?_
            refine lv_if_lt (tgt := 111) hx hb dX11_copy_63 (by decide) (fun c22 => ?_) (fun c22 => ?_)
            · replace h := (if_pos c22).symm.trans h
              exact J111 mItems mMoved mFind ls H locs (lv_sub hl [0] rfl) hP hD hS h
            · replace h := (if_neg c22).symm.trans h
              refine lv_iload hx hb dX11_copy_66 (lv_at hl 4 rfl) ?_
              refine lv_if_lt (tgt := 111) hx hb dX11_copy_68 (by decide) (fun c23 => ?_) (fun c23 => ?_)
              · replace h := (if_pos c23).symm.trans h
                exact J111 mItems mMoved mFind ls H locs (lv_sub hl [0] rfl) hP hD hS h
              · replace h := (if_neg c23).symm.trans h
                refine lv_iload hx hb dX11_copy_71 (lv_at hl 5 rfl) ?_
                refine lv_if_lt (tgt := 111) hx hb dX11_copy_73 (by decide) (fun c24 => ?_) (fun c24 => ?_)
                · replace h := (if_pos c24).symm.trans h
                  exact J111 mItems mMoved mFind ls H locs (lv_sub hl [0] rfl) hP hD hS h
                · replace h := (if_neg c24).symm.trans h
                  refine lv_iload_n hx hb dX11_copy_76 rfl (lv_at hl 2 rfl) ?_
                  refine lv_i2l (v := x2.toInt64) hx hb dX11_copy_77 rfl ?_
                  refine lv_iload hx hb dX11_copy_78 (lv_at hl 5 rfl) ?_
                  refine lv_i2l (v := x5.toInt64) hx hb dX11_copy_80 rfl ?_
                  refine lv_ladd hx hb dX11_copy_81 ?_
                  refine lv_aload_n hx hb dX11_copy_82 rfl (lv_at hl 0 rfl) ?_
                  refine va_get (D := D) (ci := 6) (v := .ref (a 11)) (C := RX11) (T := TX11) (N := 24) hx hb hts hi11 hown hK hP (0) (rfl) rfl 20 (by decide) kf48 (fun _ h9 => h9) rfl dX11_copy_83 ?_
                  refine lv_iload_n hx hb dX11_copy_86 rfl (lv_at hl 1 rfl) ?_
                  refine va_iald hx hb hK hP (11) 0 (rfl) rfl g17 dX11_copy_87 ?_
                  refine lv_i2l (v := (mHeld x1.toNatClampNeg).toInt64) hx hb dX11_copy_88 rfl ?_
                  refine W.lcmp hx hb dX11_copy_89 ?_
                  refine lv_if_gt (tgt := 111) hx hb dX11_copy_90 (by decide) (fun c25 => ?_) (fun c25 => ?_)
                  · replace h := (if_pos c25).symm.trans h
                    exact J111 mItems mMoved mFind ls H locs (lv_sub hl [0] rfl) hP hD hS h
                  · replace h := (if_neg c25).symm.trans h
                    refine lv_iload hx hb dX11_copy_93 (lv_at hl 4 rfl) ?_
                    refine lv_i2l (v := x4.toInt64) hx hb dX11_copy_95 rfl ?_
                    refine lv_iload hx hb dX11_copy_96 (lv_at hl 5 rfl) ?_
                    refine lv_i2l (v := x5.toInt64) hx hb dX11_copy_98 rfl ?_
                    refine lv_ladd hx hb dX11_copy_99 ?_
                    refine lv_aload_n hx hb dX11_copy_100 rfl (lv_at hl 0 rfl) ?_
                    refine va_get (D := D) (ci := 6) (v := .ref (a 11)) (C := RX11) (T := TX11) (N := 24) hx hb hts hi11 hown hK hP (0) (rfl) rfl 20 (by decide) kf48 (fun _ h9 => h9) rfl dX11_copy_101 ?_
                    refine lv_iload_n hx hb dX11_copy_104 rfl (lv_at hl 3 rfl) ?_
                    refine va_iald hx hb hK hP (11) 0 (rfl) rfl g19 dX11_copy_105 ?_
                    refine lv_i2l (v := (mHeld x3.toNatClampNeg).toInt64) hx hb dX11_copy_106 rfl ?_
                    refine W.lcmp hx hb dX11_copy_107 ?_
                    refine lv_if_le (tgt := 117) hx hb dX11_copy_108 (by decide) (fun c26 => ?_) (fun c26 => ?_)
                    · replace h := (if_pos c26).symm.trans h
                      refine lv_iconst (v := 0) hx hb dX11_copy_117 (by decide) ?_
                      refine lv_istore (lv' := [(6, .int 0), (0, .ref (a 0)), (1, .int x1), (2, .int x2), (3, .int x3), (4, .int x4), (5, .int x5)]) hx hb dX11_copy_118 hl (by decide) rfl (fun ls hl => ?_)
                      exact L120 N x1 x2 x3 x4 x5 0 mItems mMoved mFind ls H locs (lv_sub hl [1, 2, 3, 4, 5, 6, 0] rfl) hP hD hS h
                    · replace h := (if_neg c26).symm.trans h
                      exact J111 mItems mMoved mFind ls H locs (lv_sub hl [0] rfl) hP hD hS h
          · replace h := (if_neg c21).symm.trans h
            refine lv_aload_n hx hb dX11_copy_56 rfl (lv_at hl 0 rfl) ?_
            refine lv_iconst (v := 4) hx hb dX11_copy_57 (by decide) ?_
            obtain ⟨o27, eq28, h⟩ := bnd_some h
            refine kQiV (rest := []) (q0 := 0) ⟨hx, hb, hml, hown, hts⟩ (c_X11_meets l D k a mSizes mSigns mOdds mPat mTyped mText mAt mFault mTests mTN mTS mTV mTB mRead mUns mUM mBA mBH mThere mTypes mHeld mItems mMoved mFind 4 eq28) (cwV 1 hts (gAV wm_144 wm_145 wm_146 wm_5 wm_147) rfl rfl rfl qd_X11_meets ⟨Nat.le_of_ble_eq_true rfl, Nat.le_of_ble_eq_true rfl⟩) hK hP hD hS hA (rfl) rfl rfl hl.1 rfl (Nat.le_of_ble_eq_true rfl) dX11_copy_58 ⟨Nat.zero_le _, Nat.zero_le _⟩ (fun H locs hP hD hS => ?_)
            have hP : va_P D vwCl (wM k a mSizes mSigns mOdds mPat mTyped mText mAt mFault mTests mTN mTS mTV mTB mRead mUns mUM mBA mBH mThere mTypes mHeld mItems mMoved o27.2) H := hP
            have hD : va_D A (wM k a mSizes mSigns mOdds mPat mTyped mText mAt mFault mTests mTN mTS mTV mTB mRead mUns mUM mBA mBH mThere mTypes mHeld mItems mMoved o27.2) := hD
            have he := Option.some.inj h
            exact W.iret (v := o27.1) hx hb hr (fun t ht hW => ⟨⟨o27.1, wM k a mSizes mSigns mOdds mPat mTyped mText mAt mFault mTests mTN mTS mTV mTB mRead mUns mUM mBA mBH mThere mTypes mHeld mItems mMoved o27.2, rfl, ⟨(congrArg (fun z => z.1) he), (congrArg (fun z => wM k a mSizes mSigns mOdds mPat mTyped mText mAt mFault mTests mTN mTS mTV mTB mRead mUns mUM mBA mBH mThere mTypes mHeld z.2.1 z.2.2.1 z.2.2.2) he)⟩, by rw [ht]; exact hP, va_K.moved hW.alike hK, hD⟩, hS.F ht⟩) hS.2.2 dX11_copy_61
        · replace h := (if_pos c20).symm.trans h
          exact J35 mItems mMoved mFind ls H locs (lv_sub hl [0] rfl) hP hD hS h
    · replace h := (if_pos c16).symm.trans h
      refine lv_bipush (v := (-2)) hx hb dX11_copy_14 (by decide) ?_
      have he := Option.some.inj h
      exact W.iret (v := (-2)) hx hb hr (fun t ht hW => ⟨⟨(-2), wM k a mSizes mSigns mOdds mPat mTyped mText mAt mFault mTests mTN mTS mTV mTB mRead mUns mUM mBA mBH mThere mTypes mHeld mItems mMoved mFind, rfl, ⟨(congrArg (fun z => z.1) he), (congrArg (fun z => wM k a mSizes mSigns mOdds mPat mTyped mText mAt mFault mTests mTN mTS mTV mTB mRead mUns mUM mBA mBH mThere mTypes mHeld z.2.1 z.2.2.1 z.2.2.2) he)⟩, by rw [ht]; exact hP, va_K.moved hW.alike hK, hD⟩, hS.F ht⟩) hS.2.2 dX11_copy_16
set_option maxHeartbeats 4000000 in
set_option maxRecDepth 100000 in
theorem c_X11_copy {N : Nat} (l : Launch) (D : va_G) (k : Nat → ClassId) (a : Nat → Nat) (mSizes : Nat → Int32) (mSigns : Nat → Int32) (mOdds : Int32) (mPat : Int32) (mTyped : Int32) (mText : Nat → Int32) (mAt : Int32) (mFault : Int32) (mTests : Int32) (mTN : Nat → Int32) (mTS : Nat → Int32) (mTV : Nat → Int32) (mTB : Nat → Int32) (mRead : Int32) (mUns : Nat → Int32) (mUM : Int32) (mBA : Int32) (mBH : Int32) (mThere : Nat → Int32) (mTypes : Nat → Int32) (mHeld : Nat → Int32) (mItems : Nat → Int32) (mMoved : Nat → Int32) (mFind : Int32) (x1 : Int32) (x2 : Int32) (x3 : Int32) (x4 : Int32) (x5 : Int32) {o : Int32 × (Nat → Int32) × (Nat → Int32) × (Int32)} (h : f_X11_copy N x1 x2 x3 x4 x5 mThere mTypes mHeld mItems mMoved mFind = some o) : mQi l yX11_copy wo_X11_copy 2 D k [.ref (a 0), .int x1, .int x2, .int x3, .int x4, .int x5] (wM k a mSizes mSigns mOdds mPat mTyped mText mAt mFault mTests mTN mTS mTV mTB mRead mUns mUM mBA mBH mThere mTypes mHeld mItems mMoved mFind) o.1 (wM k a mSizes mSigns mOdds mPat mTyped mText mAt mFault mTests mTN mTS mTV mTB mRead mUns mUM mBA mBH mThere mTypes mHeld o.2.1 o.2.2.1 o.2.2.2) := by
  intro sz
  refine Met.ofW (cc := cX11_copy) (maxL := 7) (ret := some .int) (by decide) rfl ?_
  intro p e s m args below meth c s₁ B hml hv
  obtain ⟨rfl, hsz, hP, hK, hD0⟩ := hv
  subst hsz
  rw [lg_entry_eq]
  exact core_X11_copy D k a mSizes mSigns mOdds mPat mTyped mText mAt mFault mTests mTN mTS mTV mTB mRead mUns mUM mBA mBH mThere mTypes mHeld mItems mMoved mFind x1 x2 x3 x4 x5 B.exec B.bytes hml B.returns (atoms_spec (ws := wo_X11_copy) B.pre) (findClass_of_methodNamed B.named) B.notSynchronized (lv_entry [.ref (a 0), .int x1, .int x2, .int x3, .int x4, .int x5] (n := 7) (Nat.le_of_ble_eq_true rfl)) hK hP hD0.self (fun q h => Or.inr h) h
theorem qd_X11_copy : yX11_copy.cls = RX11 ∧ yX11_copy.cls ≠ "java/lang/invoke/MethodHandle" ∧ yX11_copy.cls ≠ "java/lang/invoke/VarHandle" ∧ (parseMethodDescriptor yX11_copy.desc).map (fun d => d.parameters.length) = some 5 := by decide +kernel
abbrev wo_X11_write : List Cond := .code yX11_write cX11_write 4 (some .int) :: wsL_law
set_option maxHeartbeats 4000000 in
set_option maxRecDepth 100000 in
theorem core_X11_write {N : Nat} (D : va_G) (k : Nat → ClassId) (a : Nat → Nat) (mSizes : Nat → Int32) (mSigns : Nat → Int32) (mOdds : Int32) (mPat : Int32) (mTyped : Int32) (mText : Nat → Int32) (mAt : Int32) (mFault : Int32) (mTests : Int32) (mTN : Nat → Int32) (mTS : Nat → Int32) (mTV : Nat → Int32) (mTB : Nat → Int32) (mRead : Int32) (mUns : Nat → Int32) (mUM : Int32) (mBA : Int32) (mBH : Int32) (mThere : Nat → Int32) (mTypes : Nat → Int32) (mHeld : Nat → Int32) (mItems : Nat → Int32) (mMoved : Nat → Int32) (mFind : Int32) (x1 : Int32) (x2 : Int32) {p : Program} {l : Launch} {e : Env} {s : State} {m : MethodId} {args : Array Value} {below : List Frame} {meth : Method} {c : Code} {ls : Array Slot} (hx : p.tables.exec = Jvm.exec) (hb : c.code = cX11_write) (hml : c.maxLocals = 4) (hr : meth.sig.returnType = some .int) (hts : ∀ w ∈ wo_X11_write, w.before args s = true) (hown : s.vm.findClass RX11 = some m.cls) (hlocks : meth.locks = false) (hl : lv_has ls 4 [(0, .ref (a 0)), (1, .int x1), (2, .int x2)]) (hK : va_K D vwCl (xTys k) s) (hP : va_P D vwCl (wM k a mSizes mSigns mOdds mPat mTyped mText mAt mFault mTests mTN mTS mTV mTB mRead mUns mUM mBA mBH mThere mTypes mHeld mItems mMoved mFind) s.heap) {A : Nat → Prop} (hD : va_D A (wM k a mSizes mSigns mOdds mPat mTyped mText mAt mFault mTests mTN mTS mTV mTB mRead mUns mUM mBA mBH mThere mTypes mHeld mItems mMoved mFind)) (hA : ∀ q : Nat, s.heap.size ≤ q → A q) {o : Int32 × (Nat → Int32) × (Int32)} (h : f_X11_write N x1 x2 mSizes mSigns mThere mTypes mHeld mItems mFind = some o) : gQi p l e wo_X11_write 2 s m args below meth c D k A o.1 (wM k a mSizes mSigns mOdds mPat mTyped mText mAt mFault mTests mTN mTS mTV mTB mRead mUns mUM mBA mBH mThere mTypes mHeld o.2.1 mMoved o.2.2) s.heap [] (F0 m 0 ls []) := by
  have hi11 := (fun w h => List.mem_cons_of_mem _ (inlX11 w h) : ∀ w ∈ wsX110, w ∈ wo_X11_write)
  have kf7 := hts _ (List.mem_cons_of_mem _ wm_72)
  have kf48 := hts _ (List.mem_cons_of_mem _ wm_84)
  have kf13 := hts _ (List.mem_cons_of_mem _ wm_73)
  have kf42 := hts _ (List.mem_cons_of_mem _ wm_82)
  unfold f_X11_write at h
  have hS : va_S A s.heap s.heap [] := va_S.rf
  have J77 : ∀ (x3 : Int32) (mItems : Nat → Int32) (mFind : Int32) (ls : Array Slot) (H : Heap) (locs : List Loc) (hl : lv_has ls 4 [(3, .int x3)]) (hP : va_P D vwCl (wM k a mSizes mSigns mOdds mPat mTyped mText mAt mFault mTests mTN mTS mTV mTB mRead mUns mUM mBA mBH mThere mTypes mHeld mItems mMoved mFind) H) (hD : va_D A (wM k a mSizes mSigns mOdds mPat mTyped mText mAt mFault mTests mTN mTS mTV mTB mRead mUns mUM mBA mBH mThere mTypes mHeld mItems mMoved mFind)) (hS : va_S A s.heap H locs) (h : f_X11_write_77 N x3 mSizes mSigns mThere mTypes mHeld mItems mFind = some o), gQi p l e wo_X11_write 2 s m args below meth c D k A o.1 (wM k a mSizes mSigns mOdds mPat mTyped mText mAt mFault mTests mTN mTS mTV mTB mRead mUns mUM mBA mBH mThere mTypes mHeld o.2.1 mMoved o.2.2) H locs (F0 m 77 ls []) := by
    intro x3 mItems mFind ls H locs hl hP hD hS h
    unfold f_X11_write_77 at h
    refine lv_iload_n hx hb dX11_write_77 rfl (lv_at hl 0 rfl) ?_
    have he := Option.some.inj h
    exact W.iret (v := x3) hx hb hr (fun t ht hW => ⟨⟨x3, wM k a mSizes mSigns mOdds mPat mTyped mText mAt mFault mTests mTN mTS mTV mTB mRead mUns mUM mBA mBH mThere mTypes mHeld mItems mMoved mFind, rfl, ⟨(congrArg (fun z => z.1) he), (congrArg (fun z => wM k a mSizes mSigns mOdds mPat mTyped mText mAt mFault mTests mTN mTS mTV mTB mRead mUns mUM mBA mBH mThere mTypes mHeld z.2.1 mMoved z.2.2) he)⟩, by rw [ht]; exact hP, va_K.moved hW.alike hK, hD⟩, hS.F ht⟩) hS.2.2 dX11_write_78
  have L34 : ∀ (n34 : Nat) (x1 : Int32) (x2 : Int32) (x3 : Int32) (mItems : Nat → Int32) (mFind : Int32) (ls : Array Slot) (H : Heap) (locs : List Loc) (hl : lv_has ls 4 [(0, .ref (a 0)), (1, .int x1), (2, .int x2), (3, .int x3)]) (hP : va_P D vwCl (wM k a mSizes mSigns mOdds mPat mTyped mText mAt mFault mTests mTN mTS mTV mTB mRead mUns mUM mBA mBH mThere mTypes mHeld mItems mMoved mFind) H) (hD : va_D A (wM k a mSizes mSigns mOdds mPat mTyped mText mAt mFault mTests mTN mTS mTV mTB mRead mUns mUM mBA mBH mThere mTypes mHeld mItems mMoved mFind)) (hS : va_S A s.heap H locs) (h : f_X11_write_34 N n34 x1 x2 x3 mSizes mSigns mThere mTypes mHeld mItems mFind = some o), gQi p l e wo_X11_write 2 s m args below meth c D k A o.1 (wM k a mSizes mSigns mOdds mPat mTyped mText mAt mFault mTests mTN mTS mTV mTB mRead mUns mUM mBA mBH mThere mTypes mHeld o.2.1 mMoved o.2.2) H locs (F0 m 34 ls []) := by
    intro n34
    induction n34 with
    | zero => intro x1 x2 x3 mItems mFind ls H locs hl hP hD hS h; cases (show (none : Option (Int32 × (Nat → Int32) × (Int32))) = some o from h)
    | succ n34 ih34 =>
      intro x1 x2 x3 mItems mFind ls H locs hl hP hD hS h
      rw [f_X11_write_34] at h
      refine lv_iload_n hx hb dX11_write_34 rfl (lv_at hl 3 rfl) ?_
      refine lv_aload_n hx hb dX11_write_35 rfl (lv_at hl 0 rfl) ?_
      refine va_get (D := D) (ci := 6) (v := .ref (a 1)) (C := RX11) (T := TX11) (N := 24) hx hb hts hi11 hown hK hP (0) (rfl) rfl 0 (by decide) kf7 (fun _ h9 => h9) rfl dX11_write_36 ?_
      refine lv_iload_n hx hb dX11_write_39 rfl (lv_at hl 1 rfl) ?_
      obtain ⟨g1, h⟩ := gIn_some h
      refine va_iald hx hb hK hP (1) 0 (rfl) rfl g1 dX11_write_40 ?_
      refine lv_icmp_ge (tgt := 77) hx hb dX11_write_41 (by decide) (fun c2 => ?_) (fun c2 => ?_)
      · replace h := (if_pos c2).symm.trans h
        exact J77 x3 mItems mFind ls H locs (lv_sub hl [3] rfl) hP hD hS h
      · replace h := (if_neg c2).symm.trans h
        refine lv_iload_n hx hb dX11_write_44 rfl (lv_at hl 3 rfl) ?_
        refine lv_aload_n hx hb dX11_write_45 rfl (lv_at hl 0 rfl) ?_
        refine va_get (D := D) (ci := 6) (v := .ref (a 11)) (C := RX11) (T := TX11) (N := 24) hx hb hts hi11 hown hK hP (0) (rfl) rfl 20 (by decide) kf48 (fun _ h9 => h9) rfl dX11_write_46 ?_
        refine lv_iload_n hx hb dX11_write_49 rfl (lv_at hl 2 rfl) ?_
        obtain ⟨g3, h⟩ := gIn_some h
        refine va_iald hx hb hK hP (11) 0 (rfl) rfl g3 dX11_write_50 ?_
        refine lv_icmp_ge (tgt := 77) hx hb dX11_write_51 (by decide) (fun c4 => ?_) (fun c4 => ?_)
        · replace h := (if_pos c4).symm.trans h
          exact J77 x3 mItems mFind ls H locs (lv_sub hl [3] rfl) hP hD hS h
        · replace h := (if_neg c4).symm.trans h
          refine lv_aload_n hx hb dX11_write_54 rfl (lv_at hl 0 rfl) ?_
          refine lv_iload_n hx hb dX11_write_55 rfl (lv_at hl 2 rfl) ?_
          refine lv_iload_n hx hb dX11_write_56 rfl (lv_at hl 3 rfl) ?_
          refine lv_aload_n hx hb dX11_write_57 rfl (lv_at hl 0 rfl) ?_
          refine va_get (D := D) (ci := 6) (v := .ref (a 2)) (C := RX11) (T := TX11) (N := 24) hx hb hts hi11 hown hK hP (0) (rfl) rfl 1 (by decide) kf13 (fun _ h9 => h9) rfl dX11_write_58 ?_
          refine lv_bipush (v := 15) hx hb dX11_write_61 (by decide) ?_
          refine lv_iload_n hx hb dX11_write_63 rfl (lv_at hl 1 rfl) ?_
          refine lv_imul hx hb dX11_write_64 ?_
          refine lv_iload_n hx hb dX11_write_65 rfl (lv_at hl 3 rfl) ?_
          refine lv_iadd hx hb dX11_write_66 ?_
          obtain ⟨g5, h⟩ := gIn_some h
          refine va_iald hx hb hK hP (2) 0 (rfl) rfl g5 dX11_write_67 ?_
          obtain ⟨o6, eq7, h⟩ := bnd_some h
          refine kQvV (rest := []) (q0 := 0) ⟨hx, hb, hml, hown, hts⟩ (c_X11_keep l D k a mSizes mSigns mOdds mPat mTyped mText mAt mFault mTests mTN mTS mTV mTB mRead mUns mUM mBA mBH mThere mTypes mHeld mItems mMoved mFind x2 x3 (mSigns (((15 : Int32) * x1) + x3).toNatClampNeg) eq7) (cwV 3 hts (gAV wm_796 wm_797 wm_798 wm_5 wm_799) rfl rfl rfl qd_X11_keep ⟨Nat.le_of_ble_eq_true rfl, Nat.le_of_ble_eq_true rfl⟩) hK hP hD hS hA (rfl) rfl rfl hl.1 rfl (Nat.le_of_ble_eq_true rfl) dX11_write_68 ⟨Nat.zero_le _, Nat.zero_le _⟩ (fun H locs hP hD hS => ?_)
          have hP : va_P D vwCl (wM k a mSizes mSigns mOdds mPat mTyped mText mAt mFault mTests mTN mTS mTV mTB mRead mUns mUM mBA mBH mThere mTypes mHeld o6 mMoved mFind) H := hP
          have hD : va_D A (wM k a mSizes mSigns mOdds mPat mTyped mText mAt mFault mTests mTN mTS mTV mTB mRead mUns mUM mBA mBH mThere mTypes mHeld o6 mMoved mFind) := hD
          refine lv_iinc (v := (x3 + 1)) (lv' := [(3, .int (x3 + 1)), (0, .ref (a 0)), (1, .int x1), (2, .int x2)]) hx hb dX11_write_71 hl (k := 3) rfl rfl (by decide) rfl (fun ls hl => ?_)
          refine lv_goto (tgt := 34) hx hb dX11_write_74 (by decide) ?_
          exact ih34 x1 x2 (x3 + 1) o6 mFind ls H locs (lv_sub hl [1, 2, 3, 0] rfl) hP hD hS h
  obtain ⟨H, hH⟩ : ∃ H : Heap, H = s.heap := ⟨_, rfl⟩
  obtain ⟨locs, hlc⟩ : ∃ locs : List Loc, locs = [] := ⟨_, rfl⟩
  have hS : va_S A s.heap H locs := by rw [hH, hlc]; exact va_S.rf
  have hP : va_P D vwCl (wM k a mSizes mSigns mOdds mPat mTyped mText mAt mFault mTests mTN mTS mTV mTB mRead mUns mUM mBA mBH mThere mTypes mHeld mItems mMoved mFind) H := by rw [hH]; exact hP
  suffices hGo : gQi p l e wo_X11_write 2 s m args below meth c D k A o.1 (wM k a mSizes mSigns mOdds mPat mTyped mText mAt mFault mTests mTN mTS mTV mTB mRead mUns mUM mBA mBH mThere mTypes mHeld o.2.1 mMoved o.2.2) H locs (F0 m 0 ls []) by rw [hH, hlc] at hGo; exact hGo
  refine lv_iload_n hx hb dX11_write_0 rfl (lv_at hl 1 rfl) ?_
  obtain ⟨o8, eq9, h⟩ := bnd_some h
  refine kPi (rest := []) ⟨hx, hb, hml, hown, hts⟩ (c_X11_isRow l x1 eq9) (va_cwS 1 hts (gAS wm_117 wm_118 wm_5 wm_119) rfl rfl rfl qd_X11_isRow ⟨Nat.le_of_ble_eq_true rfl, Nat.le_of_ble_eq_true rfl⟩) rfl hl.1 rfl (Nat.le_of_ble_eq_true rfl) dX11_write_1 ⟨Nat.zero_le _, Nat.zero_le _⟩ ?_
  refine lv_if_eq (tgt := 14) hx hb dX11_write_4 (by decide) (fun c10 => ?_) (fun c10 => ?_)
  · replace h := (if_pos c10).symm.trans h
    refine lv_bipush (v := (-2)) hx hb dX11_write_14 (by decide) ?_
    have he := Option.some.inj h
    exact W.iret (v := (-2)) hx hb hr (fun t ht hW => ⟨⟨(-2), wM k a mSizes mSigns mOdds mPat mTyped mText mAt mFault mTests mTN mTS mTV mTB mRead mUns mUM mBA mBH mThere mTypes mHeld mItems mMoved mFind, rfl, ⟨(congrArg (fun z => z.1) he), (congrArg (fun z => wM k a mSizes mSigns mOdds mPat mTyped mText mAt mFault mTests mTN mTS mTV mTB mRead mUns mUM mBA mBH mThere mTypes mHeld z.2.1 mMoved z.2.2) he)⟩, by rw [ht]; exact hP, va_K.moved hW.alike hK, hD⟩, hS.F ht⟩) hS.2.2 dX11_write_16
  · replace h := (if_neg c10).symm.trans h
    refine lv_iload_n hx hb dX11_write_7 rfl (lv_at hl 2 rfl) ?_
    obtain ⟨o11, eq12, h⟩ := bnd_some h
    refine kPi (rest := []) ⟨hx, hb, hml, hown, hts⟩ (c_X11_isSheet l x2 eq12) (va_cwS 1 hts (gAS wm_141 wm_142 wm_5 wm_143) rfl rfl rfl qd_X11_isSheet ⟨Nat.le_of_ble_eq_true rfl, Nat.le_of_ble_eq_true rfl⟩) rfl hl.1 rfl (Nat.le_of_ble_eq_true rfl) dX11_write_8 ⟨Nat.zero_le _, Nat.zero_le _⟩ ?_
    refine lv_if_ne (tgt := 17) hx hb dX11_write_11 (by decide) (fun c13 => ?_) (fun c13 => ?_)
    · replace h := (if_neg c13).symm.trans h
      refine lv_aload_n hx hb dX11_write_17 rfl (lv_at hl 0 rfl) ?_
      refine va_get (D := D) (ci := 6) (v := .ref (a 9)) (C := RX11) (T := TX11) (N := 24) hx hb hts hi11 hown hK hP (0) (rfl) rfl 18 (by decide) kf42 (fun _ h9 => h9) rfl dX11_write_18 ?_
      refine lv_iload_n hx hb dX11_write_21 rfl (lv_at hl 2 rfl) ?_
      obtain ⟨g14, h⟩ := gIn_some h
      refine va_zald hx hb hK hP (9) 1 (rfl) rfl g14 dX11_write_22 ?_
      refine lv_if_ne (tgt := 32) hx hb dX11_write_23 (by decide) (fun c15 => ?_) (fun c15 => ?_)
      · replace h := (if_neg c15).symm.trans h
        refine lv_iconst (v := 0) hx hb dX11_write_32 (by decide) ?_
        refine lv_istore_n (lv' := [(3, .int 0), (0, .ref (a 0)), (1, .int x1), (2, .int x2)]) hx hb dX11_write_33 rfl hl (by decide) rfl (fun ls hl => ?_)
        exact L34 N x1 x2 0 mItems mFind ls H locs (lv_sub hl [1, 2, 3, 0] rfl) hP hD hS h
      · replace h := (if_pos c15).symm.trans h
        refine lv_aload_n hx hb dX11_write_26 rfl (lv_at hl 0 rfl) ?_
        refine lv_iconst (v := 1) hx hb dX11_write_27 (by decide) ?_
        obtain ⟨o16, eq17, h⟩ := bnd_some h
        refine kQiV (rest := []) (q0 := 0) ⟨hx, hb, hml, hown, hts⟩ (c_X11_meets l D k a mSizes mSigns mOdds mPat mTyped mText mAt mFault mTests mTN mTS mTV mTB mRead mUns mUM mBA mBH mThere mTypes mHeld mItems mMoved mFind 1 eq17) (cwV 1 hts (gAV wm_144 wm_145 wm_146 wm_5 wm_147) rfl rfl rfl qd_X11_meets ⟨Nat.le_of_ble_eq_true rfl, Nat.le_of_ble_eq_true rfl⟩) hK hP hD hS hA (rfl) rfl rfl hl.1 rfl (Nat.le_of_ble_eq_true rfl) dX11_write_28 ⟨Nat.zero_le _, Nat.zero_le _⟩ (fun H locs hP hD hS => ?_)
        have hP : va_P D vwCl (wM k a mSizes mSigns mOdds mPat mTyped mText mAt mFault mTests mTN mTS mTV mTB mRead mUns mUM mBA mBH mThere mTypes mHeld mItems mMoved o16.2) H := hP
        have hD : va_D A (wM k a mSizes mSigns mOdds mPat mTyped mText mAt mFault mTests mTN mTS mTV mTB mRead mUns mUM mBA mBH mThere mTypes mHeld mItems mMoved o16.2) := hD
        have he := Option.some.inj h
        exact W.iret (v := o16.1) hx hb hr (fun t ht hW => ⟨⟨o16.1, wM k a mSizes mSigns mOdds mPat mTyped mText mAt mFault mTests mTN mTS mTV mTB mRead mUns mUM mBA mBH mThere mTypes mHeld mItems mMoved o16.2, rfl, ⟨(congrArg (fun z => z.1) he), (congrArg (fun z => wM k a mSizes mSigns mOdds mPat mTyped mText mAt mFault mTests mTN mTS mTV mTB mRead mUns mUM mBA mBH mThere mTypes mHeld z.2.1 mMoved z.2.2) he)⟩, by rw [ht]; exact hP, va_K.moved hW.alike hK, hD⟩, hS.F ht⟩) hS.2.2 dX11_write_31
    · replace h := (if_pos c13).symm.trans h
      refine lv_bipush (v := (-2)) hx hb dX11_write_14 (by decide) ?_
      have he := Option.some.inj h
      exact W.iret (v := (-2)) hx hb hr (fun t ht hW => ⟨⟨(-2), wM k a mSizes mSigns mOdds mPat mTyped mText mAt mFault mTests mTN mTS mTV mTB mRead mUns mUM mBA mBH mThere mTypes mHeld mItems mMoved mFind, rfl, ⟨(congrArg (fun z => z.1) he), (congrArg (fun z => wM k a mSizes mSigns mOdds mPat mTyped mText mAt mFault mTests mTN mTS mTV mTB mRead mUns mUM mBA mBH mThere mTypes mHeld z.2.1 mMoved z.2.2) he)⟩, by rw [ht]; exact hP, va_K.moved hW.alike hK, hD⟩, hS.F ht⟩) hS.2.2 dX11_write_16
set_option maxHeartbeats 4000000 in
set_option maxRecDepth 100000 in
theorem c_X11_write {N : Nat} (l : Launch) (D : va_G) (k : Nat → ClassId) (a : Nat → Nat) (mSizes : Nat → Int32) (mSigns : Nat → Int32) (mOdds : Int32) (mPat : Int32) (mTyped : Int32) (mText : Nat → Int32) (mAt : Int32) (mFault : Int32) (mTests : Int32) (mTN : Nat → Int32) (mTS : Nat → Int32) (mTV : Nat → Int32) (mTB : Nat → Int32) (mRead : Int32) (mUns : Nat → Int32) (mUM : Int32) (mBA : Int32) (mBH : Int32) (mThere : Nat → Int32) (mTypes : Nat → Int32) (mHeld : Nat → Int32) (mItems : Nat → Int32) (mMoved : Nat → Int32) (mFind : Int32) (x1 : Int32) (x2 : Int32) {o : Int32 × (Nat → Int32) × (Int32)} (h : f_X11_write N x1 x2 mSizes mSigns mThere mTypes mHeld mItems mFind = some o) : mQi l yX11_write wo_X11_write 2 D k [.ref (a 0), .int x1, .int x2] (wM k a mSizes mSigns mOdds mPat mTyped mText mAt mFault mTests mTN mTS mTV mTB mRead mUns mUM mBA mBH mThere mTypes mHeld mItems mMoved mFind) o.1 (wM k a mSizes mSigns mOdds mPat mTyped mText mAt mFault mTests mTN mTS mTV mTB mRead mUns mUM mBA mBH mThere mTypes mHeld o.2.1 mMoved o.2.2) := by
  intro sz
  refine Met.ofW (cc := cX11_write) (maxL := 4) (ret := some .int) (by decide) rfl ?_
  intro p e s m args below meth c s₁ B hml hv
  obtain ⟨rfl, hsz, hP, hK, hD0⟩ := hv
  subst hsz
  rw [lg_entry_eq]
  exact core_X11_write D k a mSizes mSigns mOdds mPat mTyped mText mAt mFault mTests mTN mTS mTV mTB mRead mUns mUM mBA mBH mThere mTypes mHeld mItems mMoved mFind x1 x2 B.exec B.bytes hml B.returns (atoms_spec (ws := wo_X11_write) B.pre) (findClass_of_methodNamed B.named) B.notSynchronized (lv_entry [.ref (a 0), .int x1, .int x2] (n := 4) (Nat.le_of_ble_eq_true rfl)) hK hP hD0.self (fun q h => Or.inr h) h
theorem qd_X11_write : yX11_write.cls = RX11 ∧ yX11_write.cls ≠ "java/lang/invoke/MethodHandle" ∧ yX11_write.cls ≠ "java/lang/invoke/VarHandle" ∧ (parseMethodDescriptor yX11_write.desc).map (fun d => d.parameters.length) = some 2 := by decide +kernel
abbrev wo_X11_wholeOnes : List Cond := .code yX11_wholeOnes cX11_wholeOnes 3 (some .int) :: wsL_law
set_option maxHeartbeats 4000000 in
set_option maxRecDepth 100000 in
theorem core_X11_wholeOnes {N : Nat} (D : va_G) (k : Nat → ClassId) (a : Nat → Nat) (mSizes : Nat → Int32) (mSigns : Nat → Int32) (mOdds : Int32) (mPat : Int32) (mTyped : Int32) (mText : Nat → Int32) (mAt : Int32) (mFault : Int32) (mTests : Int32) (mTN : Nat → Int32) (mTS : Nat → Int32) (mTV : Nat → Int32) (mTB : Nat → Int32) (mRead : Int32) (mUns : Nat → Int32) (mUM : Int32) (mBA : Int32) (mBH : Int32) (mThere : Nat → Int32) (mTypes : Nat → Int32) (mHeld : Nat → Int32) (mItems : Nat → Int32) (mMoved : Nat → Int32) (mFind : Int32)  {p : Program} {l : Launch} {e : Env} {s : State} {m : MethodId} {args : Array Value} {below : List Frame} {meth : Method} {c : Code} {ls : Array Slot} (hx : p.tables.exec = Jvm.exec) (hb : c.code = cX11_wholeOnes) (hml : c.maxLocals = 3) (hr : meth.sig.returnType = some .int) (hts : ∀ w ∈ wo_X11_wholeOnes, w.before args s = true) (hown : s.vm.findClass RX11 = some m.cls) (hlocks : meth.locks = false) (hl : lv_has ls 3 [(0, .ref (a 0))]) (hK : va_K D vwCl (xTys k) s) (hP : va_P D vwCl (wM k a mSizes mSigns mOdds mPat mTyped mText mAt mFault mTests mTN mTS mTV mTB mRead mUns mUM mBA mBH mThere mTypes mHeld mItems mMoved mFind) s.heap) {o : Int32} (h : f_X11_wholeOnes N mSizes mSigns = some o) : gRi p l e wo_X11_wholeOnes 1 s m args below meth c o (F0 m 0 ls []) := by
  unfold f_X11_wholeOnes at h
  have L4 : ∀ (n4 : Nat) (x1 : Int32) (x2 : Int32) (ls : Array Slot) (hl : lv_has ls 3 [(0, .ref (a 0)), (1, .int x1), (2, .int x2)]) (h : f_X11_wholeOnes_4 N n4 x1 x2 mSizes mSigns = some o), gRi p l e wo_X11_wholeOnes 1 s m args below meth c o (F0 m 4 ls []) := by
    intro n4
    induction n4 with
    | zero => intro x1 x2 ls hl h; cases (show (none : Option (Int32)) = some o from h)
    | succ n4 ih4 =>
      have J25 : ∀ (x2 : Int32) (s0 : Int32) (s1 : Int32) (ls : Array Slot) (hl : lv_has ls 3 [(0, .ref (a 0)), (2, .int x2)]) (h : f_X11_wholeOnes_25 N (fun y0 y1 y2 y3 => f_X11_wholeOnes_4 N n4 y0 y1 y2 y3) x2 s0 s1 mSizes mSigns = some o), gRi p l e wo_X11_wholeOnes 1 s m args below meth c o (F0 m 25 ls [.int s1, .int s0]) := by
        intro x2 s0 s1 ls hl h
        unfold f_X11_wholeOnes_25 at h
        refine lv_ior hx hb dX11_wholeOnes_25 ?_
        refine lv_istore_n (lv' := [(1, .int (s0 ||| s1)), (0, .ref (a 0)), (2, .int x2)]) hx hb dX11_wholeOnes_26 rfl hl (by decide) rfl (fun ls hl => ?_)
        refine lv_iinc (v := (x2 + 1)) (lv' := [(2, .int (x2 + 1)), (1, .int (s0 ||| s1)), (0, .ref (a 0))]) hx hb dX11_wholeOnes_27 hl (k := 2) rfl rfl (by decide) rfl (fun ls hl => ?_)
        refine lv_goto (tgt := 4) hx hb dX11_wholeOnes_30 (by decide) ?_
        exact ih4 (s0 ||| s1) (x2 + 1) ls (lv_sub hl [2, 1, 0] rfl) h
      intro x1 x2 ls hl h
      rw [f_X11_wholeOnes_4] at h
      refine lv_iload_n hx hb dX11_wholeOnes_4 rfl (lv_at hl 2 rfl) ?_
      refine lv_iconst (v := 4) hx hb dX11_wholeOnes_5 (by decide) ?_
      refine lv_icmp_ge (tgt := 33) hx hb dX11_wholeOnes_6 (by decide) (fun c1 => ?_) (fun c1 => ?_)
      · replace h := (if_pos c1).symm.trans h
        refine lv_iload_n hx hb dX11_wholeOnes_33 rfl (lv_at hl 1 rfl) ?_
        exact W.iret (v := x1) hx hb hr (fun t ht hW => ⟨_, rfl, Option.some.inj h, ht⟩) (fun q hq => by cases hq) dX11_wholeOnes_34
      · replace h := (if_neg c1).symm.trans h
        refine lv_iload_n hx hb dX11_wholeOnes_9 rfl (lv_at hl 1 rfl) ?_
        refine lv_aload_n hx hb dX11_wholeOnes_10 rfl (lv_at hl 0 rfl) ?_
        refine lv_iload_n hx hb dX11_wholeOnes_11 rfl (lv_at hl 2 rfl) ?_
        obtain ⟨o2, eq3, h⟩ := bnd_some h
        refine kRiV (rest := [.int x1]) (q0 := 0) ⟨hx, hb, hml, hown, hts⟩ (c_X11_isWhole l D k a mSizes mSigns mOdds mPat mTyped mText mAt mFault mTests mTN mTS mTV mTB mRead mUns mUM mBA mBH mThere mTypes mHeld mItems mMoved mFind x2 eq3) (cwV 1 hts (gAV wm_241 wm_242 wm_243 wm_5 wm_244) rfl rfl rfl qd_X11_isWhole ⟨Nat.le_of_ble_eq_true rfl, Nat.le_of_ble_eq_true rfl⟩) hK hP (rfl) rfl rfl hl.1 rfl (Nat.le_of_ble_eq_true rfl) dX11_wholeOnes_12 ⟨Nat.zero_le _, Nat.zero_le _⟩ ?_
        refine lv_if_eq (tgt := 24) hx hb dX11_wholeOnes_15 (by decide) (fun c4 => ?_) (fun c4 => ?_)
        · replace h := (if_pos c4).symm.trans h
          refine lv_iconst (v := 0) hx hb dX11_wholeOnes_24 (by decide) ?_
          exact J25 x2 x1 0 ls (lv_sub hl [0, 2] rfl) h
        · replace h := (if_neg c4).symm.trans h
          refine lv_iconst (v := 1) hx hb dX11_wholeOnes_18 (by decide) ?_
          refine lv_iload_n hx hb dX11_wholeOnes_19 rfl (lv_at hl 2 rfl) ?_
          refine lv_ishl hx hb dX11_wholeOnes_20 ?_
          refine lv_goto (tgt := 25) hx hb dX11_wholeOnes_21 (by decide) ?_
          exact J25 x2 x1 ((1 : Int32) <<< (x2 &&& 31)) ls (lv_sub hl [0, 2] rfl) h
  refine lv_iconst (v := 0) hx hb dX11_wholeOnes_0 (by decide) ?_
  refine lv_istore_n (lv' := [(1, .int 0), (0, .ref (a 0))]) hx hb dX11_wholeOnes_1 rfl hl (by decide) rfl (fun ls hl => ?_)
  refine lv_iconst (v := 0) hx hb dX11_wholeOnes_2 (by decide) ?_
  refine lv_istore_n (lv' := [(2, .int 0), (1, .int 0), (0, .ref (a 0))]) hx hb dX11_wholeOnes_3 rfl hl (by decide) rfl (fun ls hl => ?_)
  exact L4 N 0 0 ls (lv_sub hl [2, 1, 0] rfl) h
set_option maxHeartbeats 4000000 in
set_option maxRecDepth 100000 in
theorem c_X11_wholeOnes {N : Nat} (l : Launch) (D : va_G) (k : Nat → ClassId) (a : Nat → Nat) (mSizes : Nat → Int32) (mSigns : Nat → Int32) (mOdds : Int32) (mPat : Int32) (mTyped : Int32) (mText : Nat → Int32) (mAt : Int32) (mFault : Int32) (mTests : Int32) (mTN : Nat → Int32) (mTS : Nat → Int32) (mTV : Nat → Int32) (mTB : Nat → Int32) (mRead : Int32) (mUns : Nat → Int32) (mUM : Int32) (mBA : Int32) (mBH : Int32) (mThere : Nat → Int32) (mTypes : Nat → Int32) (mHeld : Nat → Int32) (mItems : Nat → Int32) (mMoved : Nat → Int32) (mFind : Int32)  {o : Int32} (h : f_X11_wholeOnes N mSizes mSigns = some o) : mRi l yX11_wholeOnes wo_X11_wholeOnes 1 D k [.ref (a 0)] (wM k a mSizes mSigns mOdds mPat mTyped mText mAt mFault mTests mTN mTS mTV mTB mRead mUns mUM mBA mBH mThere mTypes mHeld mItems mMoved mFind) o := by
  refine Met.ofW (cc := cX11_wholeOnes) (maxL := 3) (ret := some .int) (by decide) rfl ?_
  intro p e s m args below meth c s₁ B hml hv
  obtain ⟨rfl, hP, hK⟩ := hv
  rw [lg_entry_eq]
  exact core_X11_wholeOnes D k a mSizes mSigns mOdds mPat mTyped mText mAt mFault mTests mTN mTS mTV mTB mRead mUns mUM mBA mBH mThere mTypes mHeld mItems mMoved mFind  B.exec B.bytes hml B.returns (atoms_spec (ws := wo_X11_wholeOnes) B.pre) (findClass_of_methodNamed B.named) B.notSynchronized (lv_entry [.ref (a 0)] (n := 3) (Nat.le_of_ble_eq_true rfl)) hK hP h
theorem qd_X11_wholeOnes : yX11_wholeOnes.cls = RX11 ∧ yX11_wholeOnes.cls ≠ "java/lang/invoke/MethodHandle" ∧ yX11_wholeOnes.cls ≠ "java/lang/invoke/VarHandle" ∧ (parseMethodDescriptor yX11_wholeOnes.desc).map (fun d => d.parameters.length) = some 0 := by decide +kernel
abbrev wo_X11_count : List Cond := .code yX11_count cX11_count 2 (some .int) :: wsL_law
set_option maxHeartbeats 4000000 in
set_option maxRecDepth 100000 in
theorem core_X11_count {N : Nat} (D : va_G) (k : Nat → ClassId) (a : Nat → Nat) (mSizes : Nat → Int32) (mSigns : Nat → Int32) (mOdds : Int32) (mPat : Int32) (mTyped : Int32) (mText : Nat → Int32) (mAt : Int32) (mFault : Int32) (mTests : Int32) (mTN : Nat → Int32) (mTS : Nat → Int32) (mTV : Nat → Int32) (mTB : Nat → Int32) (mRead : Int32) (mUns : Nat → Int32) (mUM : Int32) (mBA : Int32) (mBH : Int32) (mThere : Nat → Int32) (mTypes : Nat → Int32) (mHeld : Nat → Int32) (mItems : Nat → Int32) (mMoved : Nat → Int32) (mFind : Int32) (x1 : Int32) {p : Program} {l : Launch} {e : Env} {s : State} {m : MethodId} {args : Array Value} {below : List Frame} {meth : Method} {c : Code} {ls : Array Slot} (hx : p.tables.exec = Jvm.exec) (hb : c.code = cX11_count) (hml : c.maxLocals = 2) (hr : meth.sig.returnType = some .int) (hts : ∀ w ∈ wo_X11_count, w.before args s = true) (hown : s.vm.findClass RX11 = some m.cls) (hlocks : meth.locks = false) (hl : lv_has ls 2 [(0, .ref (a 0)), (1, .int x1)]) (hK : va_K D vwCl (xTys k) s) (hP : va_P D vwCl (wM k a mSizes mSigns mOdds mPat mTyped mText mAt mFault mTests mTN mTS mTV mTB mRead mUns mUM mBA mBH mThere mTypes mHeld mItems mMoved mFind) s.heap) {o : Int32} (h : f_X11_count N x1 mSizes mSigns mOdds mPat mTyped mFind = some o) : gRi p l e wo_X11_count 2 s m args below meth c o (F0 m 0 ls []) := by
  have hi11 := (fun w h => List.mem_cons_of_mem _ (inlX11 w h) : ∀ w ∈ wsX110, w ∈ wo_X11_count)
  have kf7 := hts _ (List.mem_cons_of_mem _ wm_72)
  have kf100 := hts _ (List.mem_cons_of_mem _ wm_389)
  have kf16 := hts _ (List.mem_cons_of_mem _ wm_74)
  have kf20 := hts _ (List.mem_cons_of_mem _ wm_75)
  have kf203 := hts _ (List.mem_cons_of_mem _ wm_148)
  unfold f_X11_count at h
  refine lv_iload_n hx hb dX11_count_0 rfl (lv_at hl 1 rfl) ?_
  by_cases c1 : x1 = 0
  · replace h := (if_pos c1).symm.trans h
    refine lv_tableIn (tgt := 52) hx hb dX11_count_1 (by rw [c1]; decide) (by rw [c1]; decide) (by rw [c1]; rfl) (by decide) ?_
    refine lv_aload_n hx hb dX11_count_52 rfl (lv_at hl 0 rfl) ?_
    refine va_get (D := D) (ci := 6) (v := .ref (a 1)) (C := RX11) (T := TX11) (N := 24) hx hb hts hi11 hown hK hP (0) (rfl) rfl 0 (by decide) kf7 (fun _ h9 => h9) rfl dX11_count_53 ?_
    refine lv_iload_n hx hb dX11_count_56 rfl (lv_at hl 1 rfl) ?_
    obtain ⟨g2, h⟩ := gIn_some h
    refine va_iald hx hb hK hP (1) 0 (rfl) rfl g2 dX11_count_57 ?_
    exact W.iret (v := (mSizes x1.toNatClampNeg)) hx hb hr (fun t ht hW => ⟨_, rfl, Option.some.inj h, ht⟩) (fun q hq => by cases hq) dX11_count_58
  replace h := (if_neg c1).symm.trans h
  by_cases c3 : x1 = 1
  · replace h := (if_pos c3).symm.trans h
    refine lv_tableIn (tgt := 52) hx hb dX11_count_1 (by rw [c3]; decide) (by rw [c3]; decide) (by rw [c3]; rfl) (by decide) ?_
    refine lv_aload_n hx hb dX11_count_52 rfl (lv_at hl 0 rfl) ?_
    refine va_get (D := D) (ci := 6) (v := .ref (a 1)) (C := RX11) (T := TX11) (N := 24) hx hb hts hi11 hown hK hP (0) (rfl) rfl 0 (by decide) kf7 (fun _ h9 => h9) rfl dX11_count_53 ?_
    refine lv_iload_n hx hb dX11_count_56 rfl (lv_at hl 1 rfl) ?_
    obtain ⟨g4, h⟩ := gIn_some h
    refine va_iald hx hb hK hP (1) 0 (rfl) rfl g4 dX11_count_57 ?_
    exact W.iret (v := (mSizes x1.toNatClampNeg)) hx hb hr (fun t ht hW => ⟨_, rfl, Option.some.inj h, ht⟩) (fun q hq => by cases hq) dX11_count_58
  replace h := (if_neg c3).symm.trans h
  by_cases c5 : x1 = 2
  · replace h := (if_pos c5).symm.trans h
    refine lv_tableIn (tgt := 52) hx hb dX11_count_1 (by rw [c5]; decide) (by rw [c5]; decide) (by rw [c5]; rfl) (by decide) ?_
    refine lv_aload_n hx hb dX11_count_52 rfl (lv_at hl 0 rfl) ?_
    refine va_get (D := D) (ci := 6) (v := .ref (a 1)) (C := RX11) (T := TX11) (N := 24) hx hb hts hi11 hown hK hP (0) (rfl) rfl 0 (by decide) kf7 (fun _ h9 => h9) rfl dX11_count_53 ?_
    refine lv_iload_n hx hb dX11_count_56 rfl (lv_at hl 1 rfl) ?_
    obtain ⟨g6, h⟩ := gIn_some h
    refine va_iald hx hb hK hP (1) 0 (rfl) rfl g6 dX11_count_57 ?_
    exact W.iret (v := (mSizes x1.toNatClampNeg)) hx hb hr (fun t ht hW => ⟨_, rfl, Option.some.inj h, ht⟩) (fun q hq => by cases hq) dX11_count_58
  replace h := (if_neg c5).symm.trans h
  by_cases c7 : x1 = 3
  · replace h := (if_pos c7).symm.trans h
    refine lv_tableIn (tgt := 52) hx hb dX11_count_1 (by rw [c7]; decide) (by rw [c7]; decide) (by rw [c7]; rfl) (by decide) ?_
    refine lv_aload_n hx hb dX11_count_52 rfl (lv_at hl 0 rfl) ?_
    refine va_get (D := D) (ci := 6) (v := .ref (a 1)) (C := RX11) (T := TX11) (N := 24) hx hb hts hi11 hown hK hP (0) (rfl) rfl 0 (by decide) kf7 (fun _ h9 => h9) rfl dX11_count_53 ?_
    refine lv_iload_n hx hb dX11_count_56 rfl (lv_at hl 1 rfl) ?_
    obtain ⟨g8, h⟩ := gIn_some h
    refine va_iald hx hb hK hP (1) 0 (rfl) rfl g8 dX11_count_57 ?_
    exact W.iret (v := (mSizes x1.toNatClampNeg)) hx hb hr (fun t ht hW => ⟨_, rfl, Option.some.inj h, ht⟩) (fun q hq => by cases hq) dX11_count_58
  replace h := (if_neg c7).symm.trans h
  by_cases c9 : x1 = 4
  · replace h := (if_pos c9).symm.trans h
    refine lv_tableIn (tgt := 59) hx hb dX11_count_1 (by rw [c9]; decide) (by rw [c9]; decide) (by rw [c9]; rfl) (by decide) ?_
    refine lv_aload_n hx hb dX11_count_59 rfl (lv_at hl 0 rfl) ?_
    refine va_get (D := D) (ci := 6) (v := .int mTyped) (C := RX11) (T := TX11) (N := 24) hx hb hts hi11 hown hK hP (0) (rfl) rfl 4 (by decide) kf100 (fun _ h9 => h9) rfl dX11_count_60 ?_
    exact W.iret (v := mTyped) hx hb hr (fun t ht hW => ⟨_, rfl, Option.some.inj h, ht⟩) (fun q hq => by cases hq) dX11_count_63
  replace h := (if_neg c9).symm.trans h
  by_cases c10 : x1 = 5
  · replace h := (if_pos c10).symm.trans h
    refine lv_tableIn (tgt := 64) hx hb dX11_count_1 (by rw [c10]; decide) (by rw [c10]; decide) (by rw [c10]; rfl) (by decide) ?_
    refine lv_aload_n hx hb dX11_count_64 rfl (lv_at hl 0 rfl) ?_
    refine va_get (D := D) (ci := 6) (v := .int mOdds) (C := RX11) (T := TX11) (N := 24) hx hb hts hi11 hown hK hP (0) (rfl) rfl 2 (by decide) kf16 (fun _ h9 => h9) rfl dX11_count_65 ?_
    exact W.iret (v := mOdds) hx hb hr (fun t ht hW => ⟨_, rfl, Option.some.inj h, ht⟩) (fun q hq => by cases hq) dX11_count_68
  replace h := (if_neg c10).symm.trans h
  by_cases c11 : x1 = 6
  · replace h := (if_pos c11).symm.trans h
    refine lv_tableIn (tgt := 69) hx hb dX11_count_1 (by rw [c11]; decide) (by rw [c11]; decide) (by rw [c11]; rfl) (by decide) ?_
    refine lv_aload_n hx hb dX11_count_69 rfl (lv_at hl 0 rfl) ?_
    refine va_get (D := D) (ci := 6) (v := .int mPat) (C := RX11) (T := TX11) (N := 24) hx hb hts hi11 hown hK hP (0) (rfl) rfl 3 (by decide) kf20 (fun _ h9 => h9) rfl dX11_count_70 ?_
    exact W.iret (v := mPat) hx hb hr (fun t ht hW => ⟨_, rfl, Option.some.inj h, ht⟩) (fun q hq => by cases hq) dX11_count_73
  replace h := (if_neg c11).symm.trans h
  by_cases c12 : x1 = 7
  · replace h := (if_pos c12).symm.trans h
    refine lv_tableIn (tgt := 74) hx hb dX11_count_1 (by rw [c12]; decide) (by rw [c12]; decide) (by rw [c12]; rfl) (by decide) ?_
    refine lv_aload_n hx hb dX11_count_74 rfl (lv_at hl 0 rfl) ?_
    obtain ⟨o13, eq14, h⟩ := bnd_some h
    refine kRiV (rest := []) (q0 := 0) ⟨hx, hb, hml, hown, hts⟩ (c_X11_wholeOnes l D k a mSizes mSigns mOdds mPat mTyped mText mAt mFault mTests mTN mTS mTV mTB mRead mUns mUM mBA mBH mThere mTypes mHeld mItems mMoved mFind  eq14) (cwV 0 hts (gAV wm_847 wm_848 wm_849 wm_5 wm_850) rfl rfl rfl qd_X11_wholeOnes ⟨Nat.le_of_ble_eq_true rfl, Nat.le_of_ble_eq_true rfl⟩) hK hP (rfl) rfl rfl hl.1 rfl (Nat.le_of_ble_eq_true rfl) dX11_count_75 ⟨Nat.zero_le _, Nat.zero_le _⟩ ?_
    exact W.iret (v := o13) hx hb hr (fun t ht hW => ⟨_, rfl, Option.some.inj h, ht⟩) (fun q hq => by cases hq) dX11_count_78
  replace h := (if_neg c12).symm.trans h
  by_cases c15 : x1 = 8
  · replace h := (if_pos c15).symm.trans h
    refine lv_tableIn (tgt := 79) hx hb dX11_count_1 (by rw [c15]; decide) (by rw [c15]; decide) (by rw [c15]; rfl) (by decide) ?_
    refine lv_aload_n hx hb dX11_count_79 rfl (lv_at hl 0 rfl) ?_
    refine va_get (D := D) (ci := 6) (v := .int mFind) (C := RX11) (T := TX11) (N := 24) hx hb hts hi11 hown hK hP (0) (rfl) rfl 23 (by decide) kf203 (fun _ h9 => h9) rfl dX11_count_80 ?_
    exact W.iret (v := mFind) hx hb hr (fun t ht hW => ⟨_, rfl, Option.some.inj h, ht⟩) (fun q hq => by cases hq) dX11_count_83
  replace h := (if_neg c15).symm.trans h
  refine lv_tableOut (tgt := 84) hx hb dX11_count_1 (xOut_9 c1 c3 c5 c7 c9 c10 c11 c12 c15) (by decide) ?_
  refine lv_bipush (v := (-2)) hx hb dX11_count_84 (by decide) ?_
  exact W.iret (v := (-2)) hx hb hr (fun t ht hW => ⟨_, rfl, Option.some.inj h, ht⟩) (fun q hq => by cases hq) dX11_count_86
set_option maxHeartbeats 4000000 in
set_option maxRecDepth 100000 in
theorem c_X11_count {N : Nat} (l : Launch) (D : va_G) (k : Nat → ClassId) (a : Nat → Nat) (mSizes : Nat → Int32) (mSigns : Nat → Int32) (mOdds : Int32) (mPat : Int32) (mTyped : Int32) (mText : Nat → Int32) (mAt : Int32) (mFault : Int32) (mTests : Int32) (mTN : Nat → Int32) (mTS : Nat → Int32) (mTV : Nat → Int32) (mTB : Nat → Int32) (mRead : Int32) (mUns : Nat → Int32) (mUM : Int32) (mBA : Int32) (mBH : Int32) (mThere : Nat → Int32) (mTypes : Nat → Int32) (mHeld : Nat → Int32) (mItems : Nat → Int32) (mMoved : Nat → Int32) (mFind : Int32) (x1 : Int32) {o : Int32} (h : f_X11_count N x1 mSizes mSigns mOdds mPat mTyped mFind = some o) : mRi l yX11_count wo_X11_count 2 D k [.ref (a 0), .int x1] (wM k a mSizes mSigns mOdds mPat mTyped mText mAt mFault mTests mTN mTS mTV mTB mRead mUns mUM mBA mBH mThere mTypes mHeld mItems mMoved mFind) o := by
  refine Met.ofW (cc := cX11_count) (maxL := 2) (ret := some .int) (by decide) rfl ?_
  intro p e s m args below meth c s₁ B hml hv
  obtain ⟨rfl, hP, hK⟩ := hv
  rw [lg_entry_eq]
  exact core_X11_count D k a mSizes mSigns mOdds mPat mTyped mText mAt mFault mTests mTN mTS mTV mTB mRead mUns mUM mBA mBH mThere mTypes mHeld mItems mMoved mFind x1 B.exec B.bytes hml B.returns (atoms_spec (ws := wo_X11_count) B.pre) (findClass_of_methodNamed B.named) B.notSynchronized (lv_entry [.ref (a 0), .int x1] (n := 2) (Nat.le_of_ble_eq_true rfl)) hK hP h
theorem qd_X11_count : yX11_count.cls = RX11 ∧ yX11_count.cls ≠ "java/lang/invoke/MethodHandle" ∧ yX11_count.cls ≠ "java/lang/invoke/VarHandle" ∧ (parseMethodDescriptor yX11_count.desc).map (fun d => d.parameters.length) = some 1 := by decide +kernel
