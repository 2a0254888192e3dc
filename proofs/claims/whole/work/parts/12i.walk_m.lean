abbrev wo_X11_digest : List Cond := .code yX11_digest cX11_digest 5 (some .long) :: wsL_law
set_option maxHeartbeats 4000000 in
set_option maxRecDepth 100000 in
theorem core_X11_digest {N : Nat} (D : va_G) (k : Nat → ClassId) (a : Nat → Nat) (mSizes : Nat → Int32) (mSigns : Nat → Int32) (mOdds : Int32) (mPat : Int32) (mTyped : Int32) (mText : Nat → Int32) (mAt : Int32) (mFault : Int32) (mTests : Int32) (mTN : Nat → Int32) (mTS : Nat → Int32) (mTV : Nat → Int32) (mTB : Nat → Int32) (mRead : Int32) (mUns : Nat → Int32) (mUM : Int32) (mBA : Int32) (mBH : Int32) (mThere : Nat → Int32) (mTypes : Nat → Int32) (mHeld : Nat → Int32) (mItems : Nat → Int32) (mMoved : Nat → Int32) (mFind : Int32)  {p : Program} {l : Launch} {e : Env} {s : State} {m : MethodId} {args : Array Value} {below : List Frame} {meth : Method} {c : Code} {ls : Array Slot} (hx : p.tables.exec = Jvm.exec) (hb : c.code = cX11_digest) (hml : c.maxLocals = 5) (hr : meth.sig.returnType = some .long) (hts : ∀ w ∈ wo_X11_digest, w.before args s = true) (hown : s.vm.findClass RX11 = some m.cls) (hlocks : meth.locks = false) (hl : lv_has ls 5 [(0, .ref (a 0))]) (hK : va_K D vwCl (xTys k) s) (hP : va_P D vwCl (wM k a mSizes mSigns mOdds mPat mTyped mText mAt mFault mTests mTN mTS mTV mTB mRead mUns mUM mBA mBH mThere mTypes mHeld mItems mMoved mFind) s.heap) {A : Nat → Prop} (hD : va_D A (wM k a mSizes mSigns mOdds mPat mTyped mText mAt mFault mTests mTN mTS mTV mTB mRead mUns mUM mBA mBH mThere mTypes mHeld mItems mMoved mFind)) (hA : ∀ q : Nat, s.heap.size ≤ q → A q) {o : Int64 × (Int32) × (Int32) × (Int32) × (Nat → Int32) × (Nat → Int32) × (Nat → Int32) × (Nat → Int32) × (Int32) × (Nat → Int32) × (Int32)} (h : f_X11_digest N mSizes mSigns mOdds mPat mTyped mText mAt mFault mTests mTN mTS mTV mTB mRead mUns mUM mFind = some o) : gQl p l e wo_X11_digest 5 s m args below meth c D k A o.1 (wM k a mSizes mSigns mOdds mPat mTyped mText o.2.1 o.2.2.1 o.2.2.2.1 o.2.2.2.2.1 o.2.2.2.2.2.1 o.2.2.2.2.2.2.1 o.2.2.2.2.2.2.2.1 o.2.2.2.2.2.2.2.2.1 o.2.2.2.2.2.2.2.2.2.1 o.2.2.2.2.2.2.2.2.2.2 mBA mBH mThere mTypes mHeld mItems mMoved mFind) s.heap [] (F0 m 0 ls []) := by
  have kc218 := hts _ (List.mem_cons_of_mem _ wm_868)
  have hi11 := (fun w h => List.mem_cons_of_mem _ (inlX11 w h) : ∀ w ∈ wsX110, w ∈ wo_X11_digest)
  have kf7 := hts _ (List.mem_cons_of_mem _ wm_72)
  have kf13 := hts _ (List.mem_cons_of_mem _ wm_73)
  have kf151 := hts _ (List.mem_cons_of_mem _ wm_555)
  have kc216 := hts _ (List.mem_cons_of_mem _ wm_867)
  unfold f_X11_digest at h
  have hS : va_S A s.heap s.heap [] := va_S.rf
  have L33 : ∀ (n33 : Nat) (x1 : Int64) (x3 : Int32) (mAt : Int32) (mFault : Int32) (mTests : Int32) (mTN : Nat → Int32) (mTS : Nat → Int32) (mTV : Nat → Int32) (mTB : Nat → Int32) (mRead : Int32) (mUns : Nat → Int32) (mUM : Int32) (ls : Array Slot) (H : Heap) (locs : List Loc) (hl : lv_has ls 5 [(0, .ref (a 0)), (1, .long x1), (3, .int x3)]) (hP : va_P D vwCl (wM k a mSizes mSigns mOdds mPat mTyped mText mAt mFault mTests mTN mTS mTV mTB mRead mUns mUM mBA mBH mThere mTypes mHeld mItems mMoved mFind) H) (hD : va_D A (wM k a mSizes mSigns mOdds mPat mTyped mText mAt mFault mTests mTN mTS mTV mTB mRead mUns mUM mBA mBH mThere mTypes mHeld mItems mMoved mFind)) (hS : va_S A s.heap H locs) (h : f_X11_digest_33 N n33 x1 x3 mSizes mSigns mOdds mPat mTyped mText mAt mFault mTests mTN mTS mTV mTB mRead mUns mUM mFind = some o), gQl p l e wo_X11_digest 5 s m args below meth c D k A o.1 (wM k a mSizes mSigns mOdds mPat mTyped mText o.2.1 o.2.2.1 o.2.2.2.1 o.2.2.2.2.1 o.2.2.2.2.2.1 o.2.2.2.2.2.2.1 o.2.2.2.2.2.2.2.1 o.2.2.2.2.2.2.2.2.1 o.2.2.2.2.2.2.2.2.2.1 o.2.2.2.2.2.2.2.2.2.2 mBA mBH mThere mTypes mHeld mItems mMoved mFind) H locs (F0 m 33 ls []) := by
    intro n33
    induction n33 with
    | zero => intro x1 x3 mAt mFault mTests mTN mTS mTV mTB mRead mUns mUM ls H locs hl hP hD hS h; cases (show (none : Option (Int64 × (Int32) × (Int32) × (Int32) × (Nat → Int32) × (Nat → Int32) × (Nat → Int32) × (Nat → Int32) × (Int32) × (Nat → Int32) × (Int32))) = some o from h)
    | succ n33 ih33 =>
      have L81 : ∀ (n81 : Nat) (x1 : Int64) (x3 : Int32) (x4 : Int32) (mAt : Int32) (mFault : Int32) (mTests : Int32) (mTN : Nat → Int32) (mTS : Nat → Int32) (mTV : Nat → Int32) (mTB : Nat → Int32) (mRead : Int32) (mUns : Nat → Int32) (mUM : Int32) (ls : Array Slot) (H : Heap) (locs : List Loc) (hl : lv_has ls 5 [(0, .ref (a 0)), (1, .long x1), (3, .int x3), (4, .int x4)]) (hP : va_P D vwCl (wM k a mSizes mSigns mOdds mPat mTyped mText mAt mFault mTests mTN mTS mTV mTB mRead mUns mUM mBA mBH mThere mTypes mHeld mItems mMoved mFind) H) (hD : va_D A (wM k a mSizes mSigns mOdds mPat mTyped mText mAt mFault mTests mTN mTS mTV mTB mRead mUns mUM mBA mBH mThere mTypes mHeld mItems mMoved mFind)) (hS : va_S A s.heap H locs) (h : f_X11_digest_81 N (fun y0 y1 y2 y3 y4 y5 y6 y7 y8 y9 y10 y11 y12 y13 y14 y15 y16 y17 y18 => f_X11_digest_33 N n33 y0 y1 y2 y3 y4 y5 y6 y7 y8 y9 y10 y11 y12 y13 y14 y15 y16 y17 y18) n81 x1 x3 x4 mSizes mSigns mOdds mPat mTyped mText mAt mFault mTests mTN mTS mTV mTB mRead mUns mUM mFind = some o), gQl p l e wo_X11_digest 5 s m args below meth c D k A o.1 (wM k a mSizes mSigns mOdds mPat mTyped mText o.2.1 o.2.2.1 o.2.2.2.1 o.2.2.2.2.1 o.2.2.2.2.2.1 o.2.2.2.2.2.2.1 o.2.2.2.2.2.2.2.1 o.2.2.2.2.2.2.2.2.1 o.2.2.2.2.2.2.2.2.2.1 o.2.2.2.2.2.2.2.2.2.2 mBA mBH mThere mTypes mHeld mItems mMoved mFind) H locs (F0 m 81 ls []) := by
        intro n81
        induction n81 with
        | zero => intro x1 x3 x4 mAt mFault mTests mTN mTS mTV mTB mRead mUns mUM ls H locs hl hP hD hS h; cases (show (none : Option (Int64 × (Int32) × (Int32) × (Int32) × (Nat → Int32) × (Nat → Int32) × (Nat → Int32) × (Nat → Int32) × (Int32) × (Nat → Int32) × (Int32))) = some o from h)
        | succ n81 ih81 =>
          intro x1 x3 x4 mAt mFault mTests mTN mTS mTV mTB mRead mUns mUM ls H locs hl hP hD hS h
          rw [f_X11_digest_81] at h
          refine lv_iload hx hb dX11_digest_81 (lv_at hl 3 rfl) ?_
          refine lv_bipush (v := 7) hx hb dX11_digest_83 (by decide) ?_
          refine lv_icmp_ge (tgt := 109) hx hb dX11_digest_85 (by decide) (fun c1 => ?_) (fun c1 => ?_)
          · replace h := (if_pos c1).symm.trans h
            refine lv_iinc (v := (x3 + 1)) (lv' := [(3, .int (x3 + 1)), (0, .ref (a 0)), (1, .long x1), (4, .int x4)]) hx hb dX11_digest_109 hl (k := 2) rfl rfl (by decide) rfl (fun ls hl => ?_)
            refine lv_goto (tgt := 33) hx hb dX11_digest_112 (by decide) ?_
            exact ih33 x1 (x3 + 1) mAt mFault mTests mTN mTS mTV mTB mRead mUns mUM ls H locs (lv_sub hl [1, 2, 0] rfl) hP hD hS h
          · replace h := (if_neg c1).symm.trans h
            refine lv_ldc2 (v := 31) hx hb hown kc218 dX11_digest_88 ?_
            refine lv_lload_n hx hb dX11_digest_91 rfl (lv_at hl 1 rfl) ?_
            refine lv_lmul hx hb dX11_digest_92 ?_
            refine lv_aload_n hx hb dX11_digest_93 rfl (lv_at hl 0 rfl) ?_
            refine lv_iload_n hx hb dX11_digest_94 rfl (lv_at hl 2 rfl) ?_
            refine lv_iload hx hb dX11_digest_95 (lv_at hl 3 rfl) ?_
            obtain ⟨o2, eq3, h⟩ := bnd_some h
            refine kRiV (rest := [.long ((31 : Int64) * x1)]) (q0 := 0) ⟨hx, hb, hml, hown, hts⟩ (c_X11_showsNow l D k a mSizes mSigns mOdds mPat mTyped mText mAt mFault mTests mTN mTS mTV mTB mRead mUns mUM mBA mBH mThere mTypes mHeld mItems mMoved mFind x3 x4 eq3) (cwV 2 hts (gAV wm_237 wm_238 wm_239 wm_5 wm_240) rfl rfl rfl qd_X11_showsNow ⟨Nat.le_of_ble_eq_true rfl, Nat.le_of_ble_eq_true rfl⟩) hK hP (rfl) rfl rfl hl.1 rfl (Nat.le_of_ble_eq_true rfl) dX11_digest_97 ⟨Nat.zero_le _, Nat.zero_le _⟩ ?_
            refine lv_i2l (v := o2.toInt64) hx hb dX11_digest_100 rfl ?_
            refine lv_ladd hx hb dX11_digest_101 ?_
            refine lv_lstore_n (lv' := [(1, .long (((31 : Int64) * x1) + o2.toInt64)), (0, .ref (a 0)), (3, .int x3), (4, .int x4)]) hx hb dX11_digest_102 rfl hl (by decide) rfl (fun ls hl => ?_)
            refine lv_iinc (v := (x4 + 1)) (lv' := [(4, .int (x4 + 1)), (1, .long (((31 : Int64) * x1) + o2.toInt64)), (0, .ref (a 0)), (3, .int x3)]) hx hb dX11_digest_103 hl (k := 3) rfl rfl (by decide) rfl (fun ls hl => ?_)
            refine lv_goto (tgt := 81) hx hb dX11_digest_106 (by decide) ?_
            exact ih81 (((31 : Int64) * x1) + o2.toInt64) x3 (x4 + 1) mAt mFault mTests mTN mTS mTV mTB mRead mUns mUM ls H locs (lv_sub hl [2, 1, 3, 0] rfl) hP hD hS h
      have L41 : ∀ (n41 : Nat) (x1 : Int64) (x3 : Int32) (x4 : Int32) (mAt : Int32) (mFault : Int32) (mTests : Int32) (mTN : Nat → Int32) (mTS : Nat → Int32) (mTV : Nat → Int32) (mTB : Nat → Int32) (mRead : Int32) (mUns : Nat → Int32) (mUM : Int32) (ls : Array Slot) (H : Heap) (locs : List Loc) (hl : lv_has ls 5 [(0, .ref (a 0)), (1, .long x1), (3, .int x3), (4, .int x4)]) (hP : va_P D vwCl (wM k a mSizes mSigns mOdds mPat mTyped mText mAt mFault mTests mTN mTS mTV mTB mRead mUns mUM mBA mBH mThere mTypes mHeld mItems mMoved mFind) H) (hD : va_D A (wM k a mSizes mSigns mOdds mPat mTyped mText mAt mFault mTests mTN mTS mTV mTB mRead mUns mUM mBA mBH mThere mTypes mHeld mItems mMoved mFind)) (hS : va_S A s.heap H locs) (h : f_X11_digest_41 N (fun y0 y1 y2 y3 y4 y5 y6 y7 y8 y9 y10 y11 y12 y13 y14 y15 y16 y17 y18 => f_X11_digest_33 N n33 y0 y1 y2 y3 y4 y5 y6 y7 y8 y9 y10 y11 y12 y13 y14 y15 y16 y17 y18) n41 x1 x3 x4 mSizes mSigns mOdds mPat mTyped mText mAt mFault mTests mTN mTS mTV mTB mRead mUns mUM mFind = some o), gQl p l e wo_X11_digest 5 s m args below meth c D k A o.1 (wM k a mSizes mSigns mOdds mPat mTyped mText o.2.1 o.2.2.1 o.2.2.2.1 o.2.2.2.2.1 o.2.2.2.2.2.1 o.2.2.2.2.2.2.1 o.2.2.2.2.2.2.2.1 o.2.2.2.2.2.2.2.2.1 o.2.2.2.2.2.2.2.2.2.1 o.2.2.2.2.2.2.2.2.2.2 mBA mBH mThere mTypes mHeld mItems mMoved mFind) H locs (F0 m 41 ls []) := by
        intro n41
        induction n41 with
        | zero => intro x1 x3 x4 mAt mFault mTests mTN mTS mTV mTB mRead mUns mUM ls H locs hl hP hD hS h; cases (show (none : Option (Int64 × (Int32) × (Int32) × (Int32) × (Nat → Int32) × (Nat → Int32) × (Nat → Int32) × (Nat → Int32) × (Int32) × (Nat → Int32) × (Int32))) = some o from h)
        | succ n41 ih41 =>
          intro x1 x3 x4 mAt mFault mTests mTN mTS mTV mTB mRead mUns mUM ls H locs hl hP hD hS h
          rw [f_X11_digest_41] at h
          refine lv_iload hx hb dX11_digest_41 (lv_at hl 3 rfl) ?_
          refine lv_aload_n hx hb dX11_digest_43 rfl (lv_at hl 0 rfl) ?_
          refine va_get (D := D) (ci := 6) (v := .ref (a 1)) (C := RX11) (T := TX11) (N := 24) hx hb hts hi11 hown hK hP (0) (rfl) rfl 0 (by decide) kf7 (fun _ h9 => h9) rfl dX11_digest_44 ?_
          refine lv_iload_n hx hb dX11_digest_47 rfl (lv_at hl 2 rfl) ?_
          obtain ⟨g4, h⟩ := gIn_some h
          refine va_iald hx hb hK hP (1) 0 (rfl) rfl g4 dX11_digest_48 ?_
          refine lv_icmp_ge (tgt := 78) hx hb dX11_digest_49 (by decide) (fun c5 => ?_) (fun c5 => ?_)
          · replace h := (if_pos c5).symm.trans h
            refine lv_iconst (v := 0) hx hb dX11_digest_78 (by decide) ?_
            refine lv_istore (lv' := [(4, .int 0), (0, .ref (a 0)), (1, .long x1), (3, .int x3)]) hx hb dX11_digest_79 hl (by decide) rfl (fun ls hl => ?_)
            exact L81 N x1 x3 0 mAt mFault mTests mTN mTS mTV mTB mRead mUns mUM ls H locs (lv_sub hl [1, 2, 3, 0] rfl) hP hD hS h
          · replace h := (if_neg c5).symm.trans h
            refine lv_ldc2 (v := 31) hx hb hown kc218 dX11_digest_52 ?_
            refine lv_lload_n hx hb dX11_digest_55 rfl (lv_at hl 1 rfl) ?_
            refine lv_lmul hx hb dX11_digest_56 ?_
            refine lv_aload_n hx hb dX11_digest_57 rfl (lv_at hl 0 rfl) ?_
            refine va_get (D := D) (ci := 6) (v := .ref (a 2)) (C := RX11) (T := TX11) (N := 24) hx hb hts hi11 hown hK hP (0) (rfl) rfl 1 (by decide) kf13 (fun _ h9 => h9) rfl dX11_digest_58 ?_
            refine lv_bipush (v := 15) hx hb dX11_digest_61 (by decide) ?_
            refine lv_iload_n hx hb dX11_digest_63 rfl (lv_at hl 2 rfl) ?_
            refine lv_imul hx hb dX11_digest_64 ?_
            refine lv_iload hx hb dX11_digest_65 (lv_at hl 3 rfl) ?_
            refine lv_iadd hx hb dX11_digest_67 ?_
            obtain ⟨g6, h⟩ := gIn_some h
            refine va_iald hx hb hK hP (2) 0 (rfl) rfl g6 dX11_digest_68 ?_
            refine lv_i2l (v := (mSigns (((15 : Int32) * x3) + x4).toNatClampNeg).toInt64) hx hb dX11_digest_69 rfl ?_
            refine lv_ladd hx hb dX11_digest_70 ?_
            refine lv_lstore_n (lv' := [(1, .long (((31 : Int64) * x1) + (mSigns (((15 : Int32) * x3) + x4).toNatClampNeg).toInt64)), (0, .ref (a 0)), (3, .int x3), (4, .int x4)]) hx hb dX11_digest_71 rfl hl (by decide) rfl (fun ls hl => ?_)
            refine lv_iinc (v := (x4 + 1)) (lv' := [(4, .int (x4 + 1)), (1, .long (((31 : Int64) * x1) + (mSigns (((15 : Int32) * x3) + x4).toNatClampNeg).toInt64)), (0, .ref (a 0)), (3, .int x3)]) hx hb dX11_digest_72 hl (k := 3) rfl rfl (by decide) rfl (fun ls hl => ?_)
            refine lv_goto (tgt := 41) hx hb dX11_digest_75 (by decide) ?_
            exact ih41 (((31 : Int64) * x1) + (mSigns (((15 : Int32) * x3) + x4).toNatClampNeg).toInt64) x3 (x4 + 1) mAt mFault mTests mTN mTS mTV mTB mRead mUns mUM ls H locs (lv_sub hl [2, 1, 3, 0] rfl) hP hD hS h
      intro x1 x3 mAt mFault mTests mTN mTS mTV mTB mRead mUns mUM ls H locs hl hP hD hS h
      rw [f_X11_digest_33] at h
      refine lv_iload_n hx hb dX11_digest_33 rfl (lv_at hl 2 rfl) ?_
      refine lv_iconst (v := 4) hx hb dX11_digest_34 (by decide) ?_
      refine lv_icmp_ge (tgt := 115) hx hb dX11_digest_35 (by decide) (fun c7 => ?_) (fun c7 => ?_)
      · replace h := (if_pos c7).symm.trans h
        refine lv_ldc2 (v := 31) hx hb hown kc218 dX11_digest_115 ?_
        refine lv_lload_n hx hb dX11_digest_118 rfl (lv_at hl 1 rfl) ?_
        refine lv_lmul hx hb dX11_digest_119 ?_
        refine lv_aload_n hx hb dX11_digest_120 rfl (lv_at hl 0 rfl) ?_
        obtain ⟨o8, eq9, h⟩ := bnd_some h
        refine kQiV (rest := [.long ((31 : Int64) * x1)]) (q0 := 0) ⟨hx, hb, hml, hown, hts⟩ (c_X11_faultNow l D k a mSizes mSigns mOdds mPat mTyped mText mAt mFault mTests mTN mTS mTV mTB mRead mUns mUM mBA mBH mThere mTypes mHeld mItems mMoved mFind  eq9) (cwV 0 hts (gAV wm_415 wm_416 wm_417 wm_5 wm_418) rfl rfl rfl qd_X11_faultNow ⟨Nat.le_of_ble_eq_true rfl, Nat.le_of_ble_eq_true rfl⟩) hK hP hD hS hA (rfl) rfl rfl hl.1 rfl (Nat.le_of_ble_eq_true rfl) dX11_digest_121 ⟨Nat.zero_le _, Nat.zero_le _⟩ (fun H locs hP hD hS => ?_)
        have hP : va_P D vwCl (wM k a mSizes mSigns mOdds mPat mTyped mText o8.2.1 o8.2.2.1 o8.2.2.2.1 o8.2.2.2.2.1 o8.2.2.2.2.2.1 o8.2.2.2.2.2.2.1 o8.2.2.2.2.2.2.2.1 o8.2.2.2.2.2.2.2.2 mUns mUM mBA mBH mThere mTypes mHeld mItems mMoved mFind) H := hP
        have hD : va_D A (wM k a mSizes mSigns mOdds mPat mTyped mText o8.2.1 o8.2.2.1 o8.2.2.2.1 o8.2.2.2.2.1 o8.2.2.2.2.2.1 o8.2.2.2.2.2.2.1 o8.2.2.2.2.2.2.2.1 o8.2.2.2.2.2.2.2.2 mUns mUM mBA mBH mThere mTypes mHeld mItems mMoved mFind) := hD
        refine lv_i2l (v := o8.1.toInt64) hx hb dX11_digest_124 rfl ?_
        refine lv_ladd hx hb dX11_digest_125 ?_
        refine lv_lstore_n (lv' := [(1, .long (((31 : Int64) * x1) + o8.1.toInt64)), (0, .ref (a 0)), (3, .int x3)]) hx hb dX11_digest_126 rfl hl (by decide) rfl (fun ls hl => ?_)
        refine lv_ldc2 (v := 31) hx hb hown kc218 dX11_digest_127 ?_
        refine lv_lload_n hx hb dX11_digest_130 rfl (lv_at hl 0 rfl) ?_
        refine lv_lmul hx hb dX11_digest_131 ?_
        refine lv_aload_n hx hb dX11_digest_132 rfl (lv_at hl 1 rfl) ?_
        refine lv_bipush (v := 10) hx hb dX11_digest_133 (by decide) ?_
        refine lv_iconst (v := (-1)) hx hb dX11_digest_135 (by decide) ?_
        obtain ⟨o10, eq11, h⟩ := bnd_some h
        refine kQiV (rest := [.long ((31 : Int64) * (((31 : Int64) * x1) + o8.1.toInt64))]) (q0 := 0) ⟨hx, hb, hml, hown, hts⟩ (c_X11_shownNow l D k a mSizes mSigns mOdds mPat mTyped mText o8.2.1 o8.2.2.1 o8.2.2.2.1 o8.2.2.2.2.1 o8.2.2.2.2.2.1 o8.2.2.2.2.2.2.1 o8.2.2.2.2.2.2.2.1 o8.2.2.2.2.2.2.2.2 mUns mUM mBA mBH mThere mTypes mHeld mItems mMoved mFind 10 (-1) eq11) (cwV 2 hts (gAV wm_481 wm_482 wm_483 wm_5 wm_484) rfl rfl rfl qd_X11_shownNow ⟨Nat.le_of_ble_eq_true rfl, Nat.le_of_ble_eq_true rfl⟩) hK hP hD hS hA (rfl) rfl rfl hl.1 rfl (Nat.le_of_ble_eq_true rfl) dX11_digest_136 ⟨Nat.zero_le _, Nat.zero_le _⟩ (fun H locs hP hD hS => ?_)
        have hP : va_P D vwCl (wM k a mSizes mSigns mOdds mPat mTyped mText o10.2.1 o10.2.2.1 o10.2.2.2.1 o10.2.2.2.2.1 o10.2.2.2.2.2.1 o10.2.2.2.2.2.2.1 o10.2.2.2.2.2.2.2.1 o10.2.2.2.2.2.2.2.2 mUns mUM mBA mBH mThere mTypes mHeld mItems mMoved mFind) H := hP
        have hD : va_D A (wM k a mSizes mSigns mOdds mPat mTyped mText o10.2.1 o10.2.2.1 o10.2.2.2.1 o10.2.2.2.2.1 o10.2.2.2.2.2.1 o10.2.2.2.2.2.2.1 o10.2.2.2.2.2.2.2.1 o10.2.2.2.2.2.2.2.2 mUns mUM mBA mBH mThere mTypes mHeld mItems mMoved mFind) := hD
        refine lv_i2l (v := o10.1.toInt64) hx hb dX11_digest_139 rfl ?_
        refine lv_ladd hx hb dX11_digest_140 ?_
        refine lv_lstore_n (lv' := [(1, .long (((31 : Int64) * (((31 : Int64) * x1) + o8.1.toInt64)) + o10.1.toInt64)), (0, .ref (a 0)), (3, .int x3)]) hx hb dX11_digest_141 rfl hl (by decide) rfl (fun ls hl => ?_)
        refine lv_ldc2 (v := 31) hx hb hown kc218 dX11_digest_142 ?_
        refine lv_lload_n hx hb dX11_digest_145 rfl (lv_at hl 0 rfl) ?_
        refine lv_lmul hx hb dX11_digest_146 ?_
        refine lv_aload_n hx hb dX11_digest_147 rfl (lv_at hl 1 rfl) ?_
        refine lv_iconst (v := 0) hx hb dX11_digest_148 (by decide) ?_
        obtain ⟨o12, eq13, h⟩ := bnd_some h
        refine kRlV (rest := [.long ((31 : Int64) * (((31 : Int64) * (((31 : Int64) * x1) + o8.1.toInt64)) + o10.1.toInt64))]) (q0 := 0) ⟨hx, hb, hml, hown, hts⟩ (c_X11_waitsNow l D k a mSizes mSigns mOdds mPat mTyped mText o10.2.1 o10.2.2.1 o10.2.2.2.1 o10.2.2.2.2.1 o10.2.2.2.2.2.1 o10.2.2.2.2.2.2.1 o10.2.2.2.2.2.2.2.1 o10.2.2.2.2.2.2.2.2 mUns mUM mBA mBH mThere mTypes mHeld mItems mMoved mFind 0 eq13) (cwV 1 hts (gAV wm_685 wm_686 wm_687 wm_5 wm_688) rfl rfl rfl qd_X11_waitsNow ⟨Nat.le_of_ble_eq_true rfl, Nat.le_of_ble_eq_true rfl⟩) hK hP (rfl) rfl rfl hl.1 rfl (Nat.le_of_ble_eq_true rfl) dX11_digest_149 ⟨Nat.zero_le _, Nat.zero_le _⟩ ?_
        refine lv_ladd hx hb dX11_digest_152 ?_
        refine lv_lstore_n (lv' := [(1, .long (((31 : Int64) * (((31 : Int64) * (((31 : Int64) * x1) + o8.1.toInt64)) + o10.1.toInt64)) + o12)), (0, .ref (a 0)), (3, .int x3)]) hx hb dX11_digest_153 rfl hl (by decide) rfl (fun ls hl => ?_)
        refine lv_ldc2 (v := 31) hx hb hown kc218 dX11_digest_154 ?_
        refine lv_lload_n hx hb dX11_digest_157 rfl (lv_at hl 0 rfl) ?_
        refine lv_lmul hx hb dX11_digest_158 ?_
        refine lv_aload_n hx hb dX11_digest_159 rfl (lv_at hl 1 rfl) ?_
        refine lv_iconst (v := 1) hx hb dX11_digest_160 (by decide) ?_
        obtain ⟨o14, eq15, h⟩ := bnd_some h
        refine kRlV (rest := [.long ((31 : Int64) * (((31 : Int64) * (((31 : Int64) * (((31 : Int64) * x1) + o8.1.toInt64)) + o10.1.toInt64)) + o12))]) (q0 := 0) ⟨hx, hb, hml, hown, hts⟩ (c_X11_waitsNow l D k a mSizes mSigns mOdds mPat mTyped mText o10.2.1 o10.2.2.1 o10.2.2.2.1 o10.2.2.2.2.1 o10.2.2.2.2.2.1 o10.2.2.2.2.2.2.1 o10.2.2.2.2.2.2.2.1 o10.2.2.2.2.2.2.2.2 mUns mUM mBA mBH mThere mTypes mHeld mItems mMoved mFind 1 eq15) (cwV 1 hts (gAV wm_685 wm_686 wm_687 wm_5 wm_688) rfl rfl rfl qd_X11_waitsNow ⟨Nat.le_of_ble_eq_true rfl, Nat.le_of_ble_eq_true rfl⟩) hK hP (rfl) rfl rfl hl.1 rfl (Nat.le_of_ble_eq_true rfl) dX11_digest_161 ⟨Nat.zero_le _, Nat.zero_le _⟩ ?_
        refine lv_ladd hx hb dX11_digest_164 ?_
        refine lv_lstore_n (lv' := [(1, .long (((31 : Int64) * (((31 : Int64) * (((31 : Int64) * (((31 : Int64) * x1) + o8.1.toInt64)) + o10.1.toInt64)) + o12)) + o14)), (0, .ref (a 0)), (3, .int x3)]) hx hb dX11_digest_165 rfl hl (by decide) rfl (fun ls hl => ?_)
        refine lv_aload_n hx hb dX11_digest_166 rfl (lv_at hl 1 rfl) ?_
        refine lv_iconst (v := 0) hx hb dX11_digest_167 (by decide) ?_
        obtain ⟨o16, eq17, h⟩ := bnd_some h
        refine kQvV (rest := []) (q0 := 0) ⟨hx, hb, hml, hown, hts⟩ (c_X11_gathers l D k a mSizes mSigns mOdds mPat mTyped mText o10.2.1 o10.2.2.1 o10.2.2.2.1 o10.2.2.2.2.1 o10.2.2.2.2.2.1 o10.2.2.2.2.2.2.1 o10.2.2.2.2.2.2.2.1 o10.2.2.2.2.2.2.2.2 mUns mUM mBA mBH mThere mTypes mHeld mItems mMoved mFind 0 eq17) (cwV 1 hts (gAV wm_556 wm_557 wm_558 wm_5 wm_559) rfl rfl rfl qd_X11_gathers ⟨Nat.le_of_ble_eq_true rfl, Nat.le_of_ble_eq_true rfl⟩) hK hP hD hS hA (rfl) rfl rfl hl.1 rfl (Nat.le_of_ble_eq_true rfl) dX11_digest_168 ⟨Nat.zero_le _, Nat.zero_le _⟩ (fun H locs hP hD hS => ?_)
        have hP : va_P D vwCl (wM k a mSizes mSigns mOdds mPat mTyped mText o10.2.1 o10.2.2.1 o10.2.2.2.1 o10.2.2.2.2.1 o10.2.2.2.2.2.1 o10.2.2.2.2.2.2.1 o10.2.2.2.2.2.2.2.1 o10.2.2.2.2.2.2.2.2 o16.1 o16.2 mBA mBH mThere mTypes mHeld mItems mMoved mFind) H := hP
        have hD : va_D A (wM k a mSizes mSigns mOdds mPat mTyped mText o10.2.1 o10.2.2.1 o10.2.2.2.1 o10.2.2.2.2.1 o10.2.2.2.2.2.1 o10.2.2.2.2.2.2.1 o10.2.2.2.2.2.2.2.1 o10.2.2.2.2.2.2.2.2 o16.1 o16.2 mBA mBH mThere mTypes mHeld mItems mMoved mFind) := hD
        refine lv_ldc2 (v := 31) hx hb hown kc218 dX11_digest_171 ?_
        refine lv_lload_n hx hb dX11_digest_174 rfl (lv_at hl 0 rfl) ?_
        refine lv_lmul hx hb dX11_digest_175 ?_
        refine lv_iconst (v := 1) hx hb dX11_digest_176 (by decide) ?_
        refine lv_aload_n hx hb dX11_digest_177 rfl (lv_at hl 1 rfl) ?_
        refine va_get (D := D) (ci := 6) (v := .int o16.2) (C := RX11) (T := TX11) (N := 24) hx hb hts hi11 hown hK hP (0) (rfl) rfl 15 (by decide) kf151 (fun _ h9 => h9) rfl dX11_digest_178 ?_
        refine lv_ishl hx hb dX11_digest_181 ?_
        refine lv_i2l (v := ((1 : Int32) <<< (o16.2 &&& 31)).toInt64) hx hb dX11_digest_182 rfl ?_
        refine lv_ladd hx hb dX11_digest_183 ?_
        have he := Option.some.inj h
        exact W.lret (v := (((31 : Int64) * (((31 : Int64) * (((31 : Int64) * (((31 : Int64) * (((31 : Int64) * x1) + o8.1.toInt64)) + o10.1.toInt64)) + o12)) + o14)) + ((1 : Int32) <<< (o16.2 &&& 31)).toInt64)) hx hb hr (fun t ht hW => ⟨⟨(((31 : Int64) * (((31 : Int64) * (((31 : Int64) * (((31 : Int64) * (((31 : Int64) * x1) + o8.1.toInt64)) + o10.1.toInt64)) + o12)) + o14)) + ((1 : Int32) <<< (o16.2 &&& 31)).toInt64), wM k a mSizes mSigns mOdds mPat mTyped mText o10.2.1 o10.2.2.1 o10.2.2.2.1 o10.2.2.2.2.1 o10.2.2.2.2.2.1 o10.2.2.2.2.2.2.1 o10.2.2.2.2.2.2.2.1 o10.2.2.2.2.2.2.2.2 o16.1 o16.2 mBA mBH mThere mTypes mHeld mItems mMoved mFind, rfl, ⟨(congrArg (fun z => z.1) he), (congrArg (fun z => wM k a mSizes mSigns mOdds mPat mTyped mText z.2.1 z.2.2.1 z.2.2.2.1 z.2.2.2.2.1 z.2.2.2.2.2.1 z.2.2.2.2.2.2.1 z.2.2.2.2.2.2.2.1 z.2.2.2.2.2.2.2.2.1 z.2.2.2.2.2.2.2.2.2.1 z.2.2.2.2.2.2.2.2.2.2 mBA mBH mThere mTypes mHeld mItems mMoved mFind) he)⟩, by rw [ht]; exact hP, va_K.moved hW.alike hK, hD⟩, hS.F ht⟩) hS.2.2 dX11_digest_184
      · replace h := (if_neg c7).symm.trans h
        refine lv_iconst (v := 0) hx hb dX11_digest_38 (by decide) ?_
        refine lv_istore (lv' := [(4, .int 0), (0, .ref (a 0)), (1, .long x1), (3, .int x3)]) hx hb dX11_digest_39 hl (by decide) rfl (fun ls hl => ?_)
        exact L41 N x1 x3 0 mAt mFault mTests mTN mTS mTV mTB mRead mUns mUM ls H locs (lv_sub hl [1, 2, 3, 0] rfl) hP hD hS h
  have L6 : ∀ (n6 : Nat) (x1 : Int64) (x3 : Int32) (mAt : Int32) (mFault : Int32) (mTests : Int32) (mTN : Nat → Int32) (mTS : Nat → Int32) (mTV : Nat → Int32) (mTB : Nat → Int32) (mRead : Int32) (mUns : Nat → Int32) (mUM : Int32) (ls : Array Slot) (H : Heap) (locs : List Loc) (hl : lv_has ls 5 [(0, .ref (a 0)), (1, .long x1), (3, .int x3)]) (hP : va_P D vwCl (wM k a mSizes mSigns mOdds mPat mTyped mText mAt mFault mTests mTN mTS mTV mTB mRead mUns mUM mBA mBH mThere mTypes mHeld mItems mMoved mFind) H) (hD : va_D A (wM k a mSizes mSigns mOdds mPat mTyped mText mAt mFault mTests mTN mTS mTV mTB mRead mUns mUM mBA mBH mThere mTypes mHeld mItems mMoved mFind)) (hS : va_S A s.heap H locs) (h : f_X11_digest_6 N n6 x1 x3 mSizes mSigns mOdds mPat mTyped mText mAt mFault mTests mTN mTS mTV mTB mRead mUns mUM mFind = some o), gQl p l e wo_X11_digest 5 s m args below meth c D k A o.1 (wM k a mSizes mSigns mOdds mPat mTyped mText o.2.1 o.2.2.1 o.2.2.2.1 o.2.2.2.2.1 o.2.2.2.2.2.1 o.2.2.2.2.2.2.1 o.2.2.2.2.2.2.2.1 o.2.2.2.2.2.2.2.2.1 o.2.2.2.2.2.2.2.2.2.1 o.2.2.2.2.2.2.2.2.2.2 mBA mBH mThere mTypes mHeld mItems mMoved mFind) H locs (F0 m 6 ls []) := by
    intro n6
    induction n6 with
    | zero => intro x1 x3 mAt mFault mTests mTN mTS mTV mTB mRead mUns mUM ls H locs hl hP hD hS h; cases (show (none : Option (Int64 × (Int32) × (Int32) × (Int32) × (Nat → Int32) × (Nat → Int32) × (Nat → Int32) × (Nat → Int32) × (Int32) × (Nat → Int32) × (Int32))) = some o from h)
    | succ n6 ih6 =>
      intro x1 x3 mAt mFault mTests mTN mTS mTV mTB mRead mUns mUM ls H locs hl hP hD hS h
      rw [f_X11_digest_6] at h
      refine lv_iload_n hx hb dX11_digest_6 rfl (lv_at hl 2 rfl) ?_
      refine lv_bipush (v := 8) hx hb dX11_digest_7 (by decide) ?_
      refine lv_icmp_ge (tgt := 31) hx hb dX11_digest_9 (by decide) (fun c18 => ?_) (fun c18 => ?_)
      · replace h := (if_pos c18).symm.trans h
        refine lv_iconst (v := 0) hx hb dX11_digest_31 (by decide) ?_
        refine lv_istore_n (lv' := [(3, .int 0), (0, .ref (a 0)), (1, .long x1)]) hx hb dX11_digest_32 rfl hl (by decide) rfl (fun ls hl => ?_)
        exact L33 N x1 0 mAt mFault mTests mTN mTS mTV mTB mRead mUns mUM ls H locs (lv_sub hl [1, 2, 0] rfl) hP hD hS h
      · replace h := (if_neg c18).symm.trans h
        refine lv_ldc2 (v := 31) hx hb hown kc218 dX11_digest_12 ?_
        refine lv_lload_n hx hb dX11_digest_15 rfl (lv_at hl 1 rfl) ?_
        refine lv_lmul hx hb dX11_digest_16 ?_
        refine lv_aload_n hx hb dX11_digest_17 rfl (lv_at hl 0 rfl) ?_
        refine lv_iload_n hx hb dX11_digest_18 rfl (lv_at hl 2 rfl) ?_
        obtain ⟨o19, eq20, h⟩ := bnd_some h
        refine kRiV (rest := [.long ((31 : Int64) * x1)]) (q0 := 0) ⟨hx, hb, hml, hown, hts⟩ (c_X11_count l D k a mSizes mSigns mOdds mPat mTyped mText mAt mFault mTests mTN mTS mTV mTB mRead mUns mUM mBA mBH mThere mTypes mHeld mItems mMoved mFind x3 eq20) (cwV 1 hts (gAV wm_869 wm_844 wm_845 wm_5 wm_846) rfl rfl rfl qd_X11_count ⟨Nat.le_of_ble_eq_true rfl, Nat.le_of_ble_eq_true rfl⟩) hK hP (rfl) rfl rfl hl.1 rfl (Nat.le_of_ble_eq_true rfl) dX11_digest_19 ⟨Nat.zero_le _, Nat.zero_le _⟩ ?_
        refine lv_i2l (v := o19.toInt64) hx hb dX11_digest_22 rfl ?_
        refine lv_ladd hx hb dX11_digest_23 ?_
        refine lv_lstore_n (lv' := [(1, .long (((31 : Int64) * x1) + o19.toInt64)), (0, .ref (a 0)), (3, .int x3)]) hx hb dX11_digest_24 rfl hl (by decide) rfl (fun ls hl => ?_)
        refine lv_iinc (v := (x3 + 1)) (lv' := [(3, .int (x3 + 1)), (1, .long (((31 : Int64) * x1) + o19.toInt64)), (0, .ref (a 0))]) hx hb dX11_digest_25 hl (k := 2) rfl rfl (by decide) rfl (fun ls hl => ?_)
        refine lv_goto (tgt := 6) hx hb dX11_digest_28 (by decide) ?_
        exact ih6 (((31 : Int64) * x1) + o19.toInt64) (x3 + 1) mAt mFault mTests mTN mTS mTV mTB mRead mUns mUM ls H locs (lv_sub hl [2, 1, 0] rfl) hP hD hS h
  obtain ⟨H, hH⟩ : ∃ H : Heap, H = s.heap := ⟨_, rfl⟩
  obtain ⟨locs, hlc⟩ : ∃ locs : List Loc, locs = [] := ⟨_, rfl⟩
  have hS : va_S A s.heap H locs := by rw [hH, hlc]; exact va_S.rf
  have hP : va_P D vwCl (wM k a mSizes mSigns mOdds mPat mTyped mText mAt mFault mTests mTN mTS mTV mTB mRead mUns mUM mBA mBH mThere mTypes mHeld mItems mMoved mFind) H := by rw [hH]; exact hP
  suffices hGo : gQl p l e wo_X11_digest 5 s m args below meth c D k A o.1 (wM k a mSizes mSigns mOdds mPat mTyped mText o.2.1 o.2.2.1 o.2.2.2.1 o.2.2.2.2.1 o.2.2.2.2.2.1 o.2.2.2.2.2.2.1 o.2.2.2.2.2.2.2.1 o.2.2.2.2.2.2.2.2.1 o.2.2.2.2.2.2.2.2.2.1 o.2.2.2.2.2.2.2.2.2.2 mBA mBH mThere mTypes mHeld mItems mMoved mFind) H locs (F0 m 0 ls []) by rw [hH, hlc] at hGo; exact hGo
  refine lv_ldc2 (v := 17) hx hb hown kc216 dX11_digest_0 ?_
  refine lv_lstore_n (lv' := [(1, .long 17), (0, .ref (a 0))]) hx hb dX11_digest_3 rfl hl (by decide) rfl (fun ls hl => ?_)
  refine lv_iconst (v := 0) hx hb dX11_digest_4 (by decide) ?_
  refine lv_istore_n (lv' := [(3, .int 0), (1, .long 17), (0, .ref (a 0))]) hx hb dX11_digest_5 rfl hl (by decide) rfl (fun ls hl => ?_)
  exact L6 N 17 0 mAt mFault mTests mTN mTS mTV mTB mRead mUns mUM ls H locs (lv_sub hl [2, 1, 0] rfl) hP hD hS h
set_option maxHeartbeats 4000000 in
set_option maxRecDepth 100000 in
theorem c_X11_digest {N : Nat} (l : Launch) (D : va_G) (k : Nat → ClassId) (a : Nat → Nat) (mSizes : Nat → Int32) (mSigns : Nat → Int32) (mOdds : Int32) (mPat : Int32) (mTyped : Int32) (mText : Nat → Int32) (mAt : Int32) (mFault : Int32) (mTests : Int32) (mTN : Nat → Int32) (mTS : Nat → Int32) (mTV : Nat → Int32) (mTB : Nat → Int32) (mRead : Int32) (mUns : Nat → Int32) (mUM : Int32) (mBA : Int32) (mBH : Int32) (mThere : Nat → Int32) (mTypes : Nat → Int32) (mHeld : Nat → Int32) (mItems : Nat → Int32) (mMoved : Nat → Int32) (mFind : Int32)  {o : Int64 × (Int32) × (Int32) × (Int32) × (Nat → Int32) × (Nat → Int32) × (Nat → Int32) × (Nat → Int32) × (Int32) × (Nat → Int32) × (Int32)} (h : f_X11_digest N mSizes mSigns mOdds mPat mTyped mText mAt mFault mTests mTN mTS mTV mTB mRead mUns mUM mFind = some o) : mQl l yX11_digest wo_X11_digest 5 D k [.ref (a 0)] (wM k a mSizes mSigns mOdds mPat mTyped mText mAt mFault mTests mTN mTS mTV mTB mRead mUns mUM mBA mBH mThere mTypes mHeld mItems mMoved mFind) o.1 (wM k a mSizes mSigns mOdds mPat mTyped mText o.2.1 o.2.2.1 o.2.2.2.1 o.2.2.2.2.1 o.2.2.2.2.2.1 o.2.2.2.2.2.2.1 o.2.2.2.2.2.2.2.1 o.2.2.2.2.2.2.2.2.1 o.2.2.2.2.2.2.2.2.2.1 o.2.2.2.2.2.2.2.2.2.2 mBA mBH mThere mTypes mHeld mItems mMoved mFind) := by
  intro sz
  refine Met.ofW (cc := cX11_digest) (maxL := 5) (ret := some .long) (by decide) rfl ?_
  intro p e s m args below meth c s₁ B hml hv
  obtain ⟨rfl, hsz, hP, hK, hD0⟩ := hv
  subst hsz
  rw [lg_entry_eq]
  exact core_X11_digest D k a mSizes mSigns mOdds mPat mTyped mText mAt mFault mTests mTN mTS mTV mTB mRead mUns mUM mBA mBH mThere mTypes mHeld mItems mMoved mFind  B.exec B.bytes hml B.returns (atoms_spec (ws := wo_X11_digest) B.pre) (findClass_of_methodNamed B.named) B.notSynchronized (lv_entry [.ref (a 0)] (n := 5) (Nat.le_of_ble_eq_true rfl)) hK hP hD0.self (fun q h => Or.inr h) h
theorem qd_X11_digest : yX11_digest.cls = RX11 ∧ yX11_digest.cls ≠ "java/lang/invoke/MethodHandle" ∧ yX11_digest.cls ≠ "java/lang/invoke/VarHandle" ∧ (parseMethodDescriptor yX11_digest.desc).map (fun d => d.parameters.length) = some 0 := by decide +kernel
