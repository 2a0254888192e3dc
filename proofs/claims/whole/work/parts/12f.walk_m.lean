abbrev wo_X11_already : List Cond := .code yX11_already cX11_already 10 (some .long) :: wsL_law
set_option maxHeartbeats 4000000 in
set_option maxRecDepth 100000 in
theorem core_X11_already {N : Nat} (D : va_G) (k : Nat → ClassId) (a : Nat → Nat) (mSizes : Nat → Int32) (mSigns : Nat → Int32) (mOdds : Int32) (mPat : Int32) (mTyped : Int32) (mText : Nat → Int32) (mAt : Int32) (mFault : Int32) (mTests : Int32) (mTN : Nat → Int32) (mTS : Nat → Int32) (mTV : Nat → Int32) (mTB : Nat → Int32) (mRead : Int32) (mUns : Nat → Int32) (mUM : Int32) (mBA : Int32) (mBH : Int32) (mThere : Nat → Int32) (mTypes : Nat → Int32) (mHeld : Nat → Int32) (mItems : Nat → Int32) (mMoved : Nat → Int32) (mFind : Int32) (x1 : Int32) (x2 : Int32) (x3 : Int32) {p : Program} {l : Launch} {e : Env} {s : State} {m : MethodId} {args : Array Value} {below : List Frame} {meth : Method} {c : Code} {ls : Array Slot} (hx : p.tables.exec = Jvm.exec) (hb : c.code = cX11_already) (hml : c.maxLocals = 10) (hr : meth.sig.returnType = some .long) (hts : ∀ w ∈ wo_X11_already, w.before args s = true) (hown : s.vm.findClass RX11 = some m.cls) (hlocks : meth.locks = false) (hl : lv_has ls 10 [(0, .ref (a 0)), (1, .int x1), (2, .int x2), (3, .int x3)]) (hK : va_K D vwCl (xTys k) s) (hP : va_P D vwCl (wM k a mSizes mSigns mOdds mPat mTyped mText mAt mFault mTests mTN mTS mTV mTB mRead mUns mUM mBA mBH mThere mTypes mHeld mItems mMoved mFind) s.heap) {A : Nat → Prop} (hD : va_D A (wM k a mSizes mSigns mOdds mPat mTyped mText mAt mFault mTests mTN mTS mTV mTB mRead mUns mUM mBA mBH mThere mTypes mHeld mItems mMoved mFind)) (hA : ∀ q : Nat, s.heap.size ≤ q → A q) {o : Int64 × (Int32) × (Int32)} (h : f_X11_already N x1 x2 x3 mSizes mSigns mBA mBH = some o) : gQl p l e wo_X11_already 2 s m args below meth c D k A o.1 (wM k a mSizes mSigns mOdds mPat mTyped mText mAt mFault mTests mTN mTS mTV mTB mRead mUns mUM o.2.1 o.2.2 mThere mTypes mHeld mItems mMoved mFind) s.heap [] (F0 m 0 ls []) := by
  have hi11 := (fun w h => List.mem_cons_of_mem _ (inlX11 w h) : ∀ w ∈ wsX110, w ∈ wo_X11_already)
  have kf174 := hts _ (List.mem_cons_of_mem _ wm_646)
  have kf7 := hts _ (List.mem_cons_of_mem _ wm_72)
  have kc184 := hts _ (List.mem_cons_of_mem _ wm_665)
  have kf177 := hts _ (List.mem_cons_of_mem _ wm_647)
  unfold f_X11_already at h
  have hS : va_S A s.heap s.heap [] := va_S.rf
  have L64 : ∀ (n64 : Nat) (x1 : Int32) (x2 : Int32) (x3 : Int32) (x4 : Int32) (x5 : Int64) (x7 : Int64) (x9 : Int32) (mBA : Int32) (mBH : Int32) (ls : Array Slot) (H : Heap) (locs : List Loc) (hl : lv_has ls 10 [(0, .ref (a 0)), (1, .int x1), (2, .int x2), (3, .int x3), (4, .int x4), (5, .long x5), (7, .long x7), (9, .int x9)]) (hP : va_P D vwCl (wM k a mSizes mSigns mOdds mPat mTyped mText mAt mFault mTests mTN mTS mTV mTB mRead mUns mUM mBA mBH mThere mTypes mHeld mItems mMoved mFind) H) (hD : va_D A (wM k a mSizes mSigns mOdds mPat mTyped mText mAt mFault mTests mTN mTS mTV mTB mRead mUns mUM mBA mBH mThere mTypes mHeld mItems mMoved mFind)) (hS : va_S A s.heap H locs) (h : f_X11_already_64 N n64 x1 x2 x3 x4 x5 x7 x9 mSizes mSigns mBA mBH = some o), gQl p l e wo_X11_already 2 s m args below meth c D k A o.1 (wM k a mSizes mSigns mOdds mPat mTyped mText mAt mFault mTests mTN mTS mTV mTB mRead mUns mUM o.2.1 o.2.2 mThere mTypes mHeld mItems mMoved mFind) H locs (F0 m 64 ls []) := by
    intro n64
    induction n64 with
    | zero => intro x1 x2 x3 x4 x5 x7 x9 mBA mBH ls H locs hl hP hD hS h; cases (show (none : Option (Int64 × (Int32) × (Int32))) = some o from h)
    | succ n64 ih64 =>
      have J148 : ∀ (x1 : Int32) (x2 : Int32) (x3 : Int32) (x4 : Int32) (x5 : Int64) (x7 : Int64) (x9 : Int32) (mBA : Int32) (mBH : Int32) (ls : Array Slot) (H : Heap) (locs : List Loc) (hl : lv_has ls 10 [(0, .ref (a 0)), (1, .int x1), (2, .int x2), (3, .int x3), (4, .int x4), (5, .long x5), (7, .long x7), (9, .int x9)]) (hP : va_P D vwCl (wM k a mSizes mSigns mOdds mPat mTyped mText mAt mFault mTests mTN mTS mTV mTB mRead mUns mUM mBA mBH mThere mTypes mHeld mItems mMoved mFind) H) (hD : va_D A (wM k a mSizes mSigns mOdds mPat mTyped mText mAt mFault mTests mTN mTS mTV mTB mRead mUns mUM mBA mBH mThere mTypes mHeld mItems mMoved mFind)) (hS : va_S A s.heap H locs) (h : f_X11_already_148 N (fun y0 y1 y2 y3 y4 y5 y6 y7 y8 y9 y10 => f_X11_already_64 N n64 y0 y1 y2 y3 y4 y5 y6 y7 y8 y9 y10) x1 x2 x3 x4 x5 x7 x9 mSizes mSigns mBA mBH = some o), gQl p l e wo_X11_already 2 s m args below meth c D k A o.1 (wM k a mSizes mSigns mOdds mPat mTyped mText mAt mFault mTests mTN mTS mTV mTB mRead mUns mUM o.2.1 o.2.2 mThere mTypes mHeld mItems mMoved mFind) H locs (F0 m 148 ls []) := by
        intro x1 x2 x3 x4 x5 x7 x9 mBA mBH ls H locs hl hP hD hS h
        unfold f_X11_already_148 at h
        refine lv_iinc (v := (x9 + 1)) (lv' := [(9, .int (x9 + 1)), (0, .ref (a 0)), (1, .int x1), (2, .int x2), (3, .int x3), (4, .int x4), (5, .long x5), (7, .long x7)]) hx hb dX11_already_148 hl (k := 7) rfl rfl (by decide) rfl (fun ls hl => ?_)
        refine lv_goto (tgt := 64) hx hb dX11_already_151 (by decide) ?_
        exact ih64 x1 x2 x3 x4 x5 x7 (x9 + 1) mBA mBH ls H locs (lv_sub hl [1, 2, 3, 4, 5, 6, 7, 0] rfl) hP hD hS h
      have J145 : ∀ (x1 : Int32) (x2 : Int32) (x3 : Int32) (x4 : Int32) (x5 : Int64) (x9 : Int32) (s0 : Int64) (s1 : Int64) (mBA : Int32) (mBH : Int32) (ls : Array Slot) (H : Heap) (locs : List Loc) (hl : lv_has ls 10 [(0, .ref (a 0)), (1, .int x1), (2, .int x2), (3, .int x3), (4, .int x4), (5, .long x5), (9, .int x9)]) (hP : va_P D vwCl (wM k a mSizes mSigns mOdds mPat mTyped mText mAt mFault mTests mTN mTS mTV mTB mRead mUns mUM mBA mBH mThere mTypes mHeld mItems mMoved mFind) H) (hD : va_D A (wM k a mSizes mSigns mOdds mPat mTyped mText mAt mFault mTests mTN mTS mTV mTB mRead mUns mUM mBA mBH mThere mTypes mHeld mItems mMoved mFind)) (hS : va_S A s.heap H locs) (h : f_X11_already_145 N (fun y0 y1 y2 y3 y4 y5 y6 y7 y8 y9 y10 => f_X11_already_64 N n64 y0 y1 y2 y3 y4 y5 y6 y7 y8 y9 y10) x1 x2 x3 x4 x5 x9 s0 s1 mSizes mSigns mBA mBH = some o), gQl p l e wo_X11_already 2 s m args below meth c D k A o.1 (wM k a mSizes mSigns mOdds mPat mTyped mText mAt mFault mTests mTN mTS mTV mTB mRead mUns mUM o.2.1 o.2.2 mThere mTypes mHeld mItems mMoved mFind) H locs (F0 m 145 ls [.long s1, .long s0]) := by
        intro x1 x2 x3 x4 x5 x9 s0 s1 mBA mBH ls H locs hl hP hD hS h
        unfold f_X11_already_145 at h
        refine lv_ladd hx hb dX11_already_145 ?_
        refine lv_lstore (lv' := [(7, .long (s0 + s1)), (0, .ref (a 0)), (1, .int x1), (2, .int x2), (3, .int x3), (4, .int x4), (5, .long x5), (9, .int x9)]) hx hb dX11_already_146 hl (by decide) rfl (fun ls hl => ?_)
        exact J148 x1 x2 x3 x4 x5 (s0 + s1) x9 mBA mBH ls H locs (lv_sub hl [1, 2, 3, 4, 5, 6, 0, 7] rfl) hP hD hS h
      have J128 : ∀ (x1 : Int32) (x2 : Int32) (x3 : Int32) (x4 : Int32) (x7 : Int64) (x9 : Int32) (s0 : Int64) (s1 : Int64) (mBA : Int32) (mBH : Int32) (ls : Array Slot) (H : Heap) (locs : List Loc) (hl : lv_has ls 10 [(0, .ref (a 0)), (1, .int x1), (2, .int x2), (3, .int x3), (4, .int x4), (7, .long x7), (9, .int x9)]) (hP : va_P D vwCl (wM k a mSizes mSigns mOdds mPat mTyped mText mAt mFault mTests mTN mTS mTV mTB mRead mUns mUM mBA mBH mThere mTypes mHeld mItems mMoved mFind) H) (hD : va_D A (wM k a mSizes mSigns mOdds mPat mTyped mText mAt mFault mTests mTN mTS mTV mTB mRead mUns mUM mBA mBH mThere mTypes mHeld mItems mMoved mFind)) (hS : va_S A s.heap H locs) (h : f_X11_already_128 N (fun y0 y1 y2 y3 y4 y5 y6 y7 y8 y9 y10 => f_X11_already_64 N n64 y0 y1 y2 y3 y4 y5 y6 y7 y8 y9 y10) x1 x2 x3 x4 x7 x9 s0 s1 mSizes mSigns mBA mBH = some o), gQl p l e wo_X11_already 2 s m args below meth c D k A o.1 (wM k a mSizes mSigns mOdds mPat mTyped mText mAt mFault mTests mTN mTS mTV mTB mRead mUns mUM o.2.1 o.2.2 mThere mTypes mHeld mItems mMoved mFind) H locs (F0 m 128 ls [.long s1, .long s0]) := by
        intro x1 x2 x3 x4 x7 x9 s0 s1 mBA mBH ls H locs hl hP hD hS h
        unfold f_X11_already_128 at h
        refine lv_ladd hx hb dX11_already_128 ?_
        refine lv_lstore (lv' := [(5, .long (s0 + s1)), (0, .ref (a 0)), (1, .int x1), (2, .int x2), (3, .int x3), (4, .int x4), (7, .long x7), (9, .int x9)]) hx hb dX11_already_129 hl (by decide) rfl (fun ls hl => ?_)
        refine lv_lload hx hb dX11_already_131 (lv_at hl 6 rfl) ?_
        refine lv_aload_n hx hb dX11_already_133 rfl (lv_at hl 1 rfl) ?_
        refine va_get (D := D) (ci := 6) (v := .int mBA) (C := RX11) (T := TX11) (N := 24) hx hb hts hi11 hown hK hP (0) (rfl) rfl 16 (by decide) kf174 (fun _ h9 => h9) rfl dX11_already_134 ?_
        refine lv_if_ne (tgt := 144) hx hb dX11_already_137 (by decide) (fun c1 => ?_) (fun c1 => ?_)
        · replace h := (if_neg c1).symm.trans h
          refine lv_lconst (v := 1) hx hb dX11_already_144 rfl ?_
          exact J145 x1 x2 x3 x4 (s0 + s1) x9 x7 1 mBA mBH ls H locs (lv_sub hl [1, 2, 3, 4, 5, 0, 7] rfl) hP hD hS h
        · replace h := (if_pos c1).symm.trans h
          refine lv_lconst (v := 0) hx hb dX11_already_140 rfl ?_
          refine lv_goto (tgt := 145) hx hb dX11_already_141 (by decide) ?_
          exact J145 x1 x2 x3 x4 (s0 + s1) x9 x7 0 mBA mBH ls H locs (lv_sub hl [1, 2, 3, 4, 5, 0, 7] rfl) hP hD hS h
      intro x1 x2 x3 x4 x5 x7 x9 mBA mBH ls H locs hl hP hD hS h
      rw [f_X11_already_64] at h
      refine lv_iload hx hb dX11_already_64 (lv_at hl 7 rfl) ?_
      refine lv_iconst (v := 1) hx hb dX11_already_66 (by decide) ?_
      refine lv_aload_n hx hb dX11_already_67 rfl (lv_at hl 0 rfl) ?_
      refine va_get (D := D) (ci := 6) (v := .ref (a 1)) (C := RX11) (T := TX11) (N := 24) hx hb hts hi11 hown hK hP (0) (rfl) rfl 0 (by decide) kf7 (fun _ h9 => h9) rfl dX11_already_68 ?_
      refine lv_iload_n hx hb dX11_already_71 rfl (lv_at hl 1 rfl) ?_
      obtain ⟨g2, h⟩ := gIn_some h
      refine va_iald hx hb hK hP (1) 0 (rfl) rfl g2 dX11_already_72 ?_
      refine lv_ishl hx hb dX11_already_73 ?_
      refine lv_icmp_ge (tgt := 154) hx hb dX11_already_74 (by decide) (fun c3 => ?_) (fun c3 => ?_)
      · replace h := (if_pos c3).symm.trans h
        refine lv_lload hx hb dX11_already_154 (lv_at hl 6 rfl) ?_
        refine lv_lconst (v := 0) hx hb dX11_already_156 rfl ?_
        refine W.lcmp hx hb dX11_already_157 ?_
        refine lv_if_ne (tgt := 169) hx hb dX11_already_158 (by decide) (fun c4 => ?_) (fun c4 => ?_)
        · replace h := (if_neg c4).symm.trans h
          refine lv_lload hx hb dX11_already_169 (lv_at hl 5 rfl) ?_
          refine lv_ldc2 (v := 360360) hx hb hown kc184 dX11_already_171 ?_
          refine lv_lload hx hb dX11_already_174 (lv_at hl 6 rfl) ?_
          refine lv_lmul hx hb dX11_already_176 ?_
          refine lv_iload_n hx hb dX11_already_177 rfl (lv_at hl 3 rfl) ?_
          obtain ⟨o5, eq6, h⟩ := bnd_some h
          refine kPl (rest := []) ⟨hx, hb, hml, hown, hts⟩ (c_X11_lowest l x5 ((360360 : Int64) * x7) x3 eq6) (va_cwS 3 hts (gAS wm_530 wm_531 wm_5 wm_532) rfl rfl rfl qd_X11_lowest ⟨Nat.le_of_ble_eq_true rfl, Nat.le_of_ble_eq_true rfl⟩) rfl hl.1 rfl (Nat.le_of_ble_eq_true rfl) dX11_already_178 ⟨Nat.zero_le _, Nat.zero_le _⟩ ?_
          have he := Option.some.inj h
          exact W.lret (v := o5) hx hb hr (fun t ht hW => ⟨⟨o5, wM k a mSizes mSigns mOdds mPat mTyped mText mAt mFault mTests mTN mTS mTV mTB mRead mUns mUM mBA mBH mThere mTypes mHeld mItems mMoved mFind, rfl, ⟨(congrArg (fun z => z.1) he), (congrArg (fun z => wM k a mSizes mSigns mOdds mPat mTyped mText mAt mFault mTests mTN mTS mTV mTB mRead mUns mUM z.2.1 z.2.2 mThere mTypes mHeld mItems mMoved mFind) he)⟩, by rw [ht]; exact hP, va_K.moved hW.alike hK, hD⟩, hS.F ht⟩) hS.2.2 dX11_already_181
        · replace h := (if_pos c4).symm.trans h
          refine lv_bipush (v := (-3)) hx hb dX11_already_161 (by decide) ?_
          obtain ⟨o7, eq8, h⟩ := bnd_some h
          refine kPl (rest := []) ⟨hx, hb, hml, hown, hts⟩ (c_X11_no l (-3) eq8) (va_cwS 1 hts (gAS wm_523 wm_524 wm_5 wm_525) rfl rfl rfl qd_X11_no ⟨Nat.le_of_ble_eq_true rfl, Nat.le_of_ble_eq_true rfl⟩) rfl hl.1 rfl (Nat.le_of_ble_eq_true rfl) dX11_already_163 ⟨Nat.zero_le _, Nat.zero_le _⟩ ?_
          refine lv_goto (tgt := 181) hx hb dX11_already_166 (by decide) ?_
          have he := Option.some.inj h
          exact W.lret (v := o7) hx hb hr (fun t ht hW => ⟨⟨o7, wM k a mSizes mSigns mOdds mPat mTyped mText mAt mFault mTests mTN mTS mTV mTB mRead mUns mUM mBA mBH mThere mTypes mHeld mItems mMoved mFind, rfl, ⟨(congrArg (fun z => z.1) he), (congrArg (fun z => wM k a mSizes mSigns mOdds mPat mTyped mText mAt mFault mTests mTN mTS mTV mTB mRead mUns mUM z.2.1 z.2.2 mThere mTypes mHeld mItems mMoved mFind) he)⟩, by rw [ht]; exact hP, va_K.moved hW.alike hK, hD⟩, hS.F ht⟩) hS.2.2 dX11_already_181
      · replace h := (if_neg c3).symm.trans h
        refine lv_iload hx hb dX11_already_77 (lv_at hl 7 rfl) ?_
        obtain ⟨o9, eq10, h⟩ := bnd_some h
        refine kPi (rest := []) ⟨hx, hb, hml, hown, hts⟩ (c_X11_ones l x9 eq10) (va_cwS 1 hts (gAS wm_253 wm_254 wm_5 wm_255) rfl rfl rfl qd_X11_ones ⟨Nat.le_of_ble_eq_true rfl, Nat.le_of_ble_eq_true rfl⟩) rfl hl.1 rfl (Nat.le_of_ble_eq_true rfl) dX11_already_79 ⟨Nat.zero_le _, Nat.zero_le _⟩ ?_
        refine lv_iload hx hb dX11_already_82 (lv_at hl 4 rfl) ?_
        refine lv_icmp_ne (tgt := 148) hx hb dX11_already_84 (by decide) (fun c11 => ?_) (fun c11 => ?_)
        · replace h := (if_neg c11).symm.trans h
          exact J148 x1 x2 x3 x4 x5 x7 x9 mBA mBH ls H locs (lv_sub hl [0, 1, 2, 3, 4, 5, 6, 7] rfl) hP hD hS h
        · replace h := (if_pos c11).symm.trans h
          refine lv_aload_n hx hb dX11_already_87 rfl (lv_at hl 0 rfl) ?_
          refine lv_iload hx hb dX11_already_88 (lv_at hl 7 rfl) ?_
          refine lv_aload_n hx hb dX11_already_90 rfl (lv_at hl 0 rfl) ?_
          refine va_get (D := D) (ci := 6) (v := .ref (a 1)) (C := RX11) (T := TX11) (N := 24) hx hb hts hi11 hown hK hP (0) (rfl) rfl 0 (by decide) kf7 (fun _ h9 => h9) rfl dX11_already_91 ?_
          refine lv_iload_n hx hb dX11_already_94 rfl (lv_at hl 1 rfl) ?_
          refine va_iald hx hb hK hP (1) 0 (rfl) rfl g2 dX11_already_95 ?_
          refine lv_iload_n hx hb dX11_already_96 rfl (lv_at hl 2 rfl) ?_
          obtain ⟨o12, eq13, h⟩ := bnd_some h
          refine kQvV (rest := []) (q0 := 0) ⟨hx, hb, hml, hown, hts⟩ (c_X11_behind l D k a mSizes mSigns mOdds mPat mTyped mText mAt mFault mTests mTN mTS mTV mTB mRead mUns mUM mBA mBH mThere mTypes mHeld mItems mMoved mFind x9 (mSizes x1.toNatClampNeg) x2 eq13) (cwV 3 hts (gAV wm_648 wm_649 wm_650 wm_5 wm_651) rfl rfl rfl qd_X11_behind ⟨Nat.le_of_ble_eq_true rfl, Nat.le_of_ble_eq_true rfl⟩) hK hP hD hS hA (rfl) rfl rfl hl.1 rfl (Nat.le_of_ble_eq_true rfl) dX11_already_97 ⟨Nat.zero_le _, Nat.zero_le _⟩ (fun H locs hP hD hS => ?_)
          have hP : va_P D vwCl (wM k a mSizes mSigns mOdds mPat mTyped mText mAt mFault mTests mTN mTS mTV mTB mRead mUns mUM o12.1 o12.2 mThere mTypes mHeld mItems mMoved mFind) H := hP
          have hD : va_D A (wM k a mSizes mSigns mOdds mPat mTyped mText mAt mFault mTests mTN mTS mTV mTB mRead mUns mUM o12.1 o12.2 mThere mTypes mHeld mItems mMoved mFind) := hD
          refine lv_lload hx hb dX11_already_100 (lv_at hl 5 rfl) ?_
          refine lv_aload_n hx hb dX11_already_102 rfl (lv_at hl 0 rfl) ?_
          refine va_get (D := D) (ci := 6) (v := .int o12.1) (C := RX11) (T := TX11) (N := 24) hx hb hts hi11 hown hK hP (0) (rfl) rfl 16 (by decide) kf174 (fun _ h9 => h9) rfl dX11_already_103 ?_
          refine lv_if_ne (tgt := 113) hx hb dX11_already_106 (by decide) (fun c14 => ?_) (fun c14 => ?_)
          · replace h := (if_neg c14).symm.trans h
            refine lv_aload_n hx hb dX11_already_113 rfl (lv_at hl 0 rfl) ?_
            refine va_get (D := D) (ci := 6) (v := .int o12.2) (C := RX11) (T := TX11) (N := 24) hx hb hts hi11 hown hK hP (0) (rfl) rfl 17 (by decide) kf177 (fun _ h9 => h9) rfl dX11_already_114 ?_
            refine lv_i2l (v := o12.2.toInt64) hx hb dX11_already_117 rfl ?_
            refine lv_ldc2 (v := 360360) hx hb hown kc184 dX11_already_118 ?_
            refine lv_aload_n hx hb dX11_already_121 rfl (lv_at hl 0 rfl) ?_
            refine va_get (D := D) (ci := 6) (v := .int o12.1) (C := RX11) (T := TX11) (N := 24) hx hb hts hi11 hown hK hP (0) (rfl) rfl 16 (by decide) kf174 (fun _ h9 => h9) rfl dX11_already_122 ?_
            refine lv_i2l (v := o12.1.toInt64) hx hb dX11_already_125 rfl ?_
            obtain ⟨g15, h⟩ := gNeL_some h
            refine lv_ldiv hx hb dX11_already_126 g15 ?_
            refine lv_lmul hx hb dX11_already_127 ?_
            exact J128 x1 x2 x3 x4 x7 x9 x5 (o12.2.toInt64 * (360360 / o12.1.toInt64)) o12.1 o12.2 ls H locs (lv_sub hl [0, 1, 2, 3, 4, 6, 7] rfl) hP hD hS h
          · replace h := (if_pos c14).symm.trans h
            refine lv_lconst (v := 0) hx hb dX11_already_109 rfl ?_
            refine lv_goto (tgt := 128) hx hb dX11_already_110 (by decide) ?_
            exact J128 x1 x2 x3 x4 x7 x9 x5 0 o12.1 o12.2 ls H locs (lv_sub hl [0, 1, 2, 3, 4, 6, 7] rfl) hP hD hS h
  obtain ⟨H, hH⟩ : ∃ H : Heap, H = s.heap := ⟨_, rfl⟩
  obtain ⟨locs, hlc⟩ : ∃ locs : List Loc, locs = [] := ⟨_, rfl⟩
  have hS : va_S A s.heap H locs := by rw [hH, hlc]; exact va_S.rf
  have hP : va_P D vwCl (wM k a mSizes mSigns mOdds mPat mTyped mText mAt mFault mTests mTN mTS mTV mTB mRead mUns mUM mBA mBH mThere mTypes mHeld mItems mMoved mFind) H := by rw [hH]; exact hP
  suffices hGo : gQl p l e wo_X11_already 2 s m args below meth c D k A o.1 (wM k a mSizes mSigns mOdds mPat mTyped mText mAt mFault mTests mTN mTS mTV mTB mRead mUns mUM o.2.1 o.2.2 mThere mTypes mHeld mItems mMoved mFind) H locs (F0 m 0 ls []) by rw [hH, hlc] at hGo; exact hGo
  refine lv_iload_n hx hb dX11_already_0 rfl (lv_at hl 1 rfl) ?_
  obtain ⟨o16, eq17, h⟩ := bnd_some h
  refine kPi (rest := []) ⟨hx, hb, hml, hown, hts⟩ (c_X11_isRow l x1 eq17) (va_cwS 1 hts (gAS wm_117 wm_118 wm_5 wm_119) rfl rfl rfl qd_X11_isRow ⟨Nat.le_of_ble_eq_true rfl, Nat.le_of_ble_eq_true rfl⟩) rfl hl.1 rfl (Nat.le_of_ble_eq_true rfl) dX11_already_1 ⟨Nat.zero_le _, Nat.zero_le _⟩ ?_
  refine lv_if_eq (tgt := 25) hx hb dX11_already_4 (by decide) (fun c18 => ?_) (fun c18 => ?_)
  · replace h := (if_pos c18).symm.trans h
    refine lv_bipush (v := (-2)) hx hb dX11_already_25 (by decide) ?_
    obtain ⟨o19, eq20, h⟩ := bnd_some h
    refine kPl (rest := []) ⟨hx, hb, hml, hown, hts⟩ (c_X11_no l (-2) eq20) (va_cwS 1 hts (gAS wm_523 wm_524 wm_5 wm_525) rfl rfl rfl qd_X11_no ⟨Nat.le_of_ble_eq_true rfl, Nat.le_of_ble_eq_true rfl⟩) rfl hl.1 rfl (Nat.le_of_ble_eq_true rfl) dX11_already_27 ⟨Nat.zero_le _, Nat.zero_le _⟩ ?_
    have he := Option.some.inj h
    exact W.lret (v := o19) hx hb hr (fun t ht hW => ⟨⟨o19, wM k a mSizes mSigns mOdds mPat mTyped mText mAt mFault mTests mTN mTS mTV mTB mRead mUns mUM mBA mBH mThere mTypes mHeld mItems mMoved mFind, rfl, ⟨(congrArg (fun z => z.1) he), (congrArg (fun z => wM k a mSizes mSigns mOdds mPat mTyped mText mAt mFault mTests mTN mTS mTV mTB mRead mUns mUM z.2.1 z.2.2 mThere mTypes mHeld mItems mMoved mFind) he)⟩, by rw [ht]; exact hP, va_K.moved hW.alike hK, hD⟩, hS.F ht⟩) hS.2.2 dX11_already_30
  · replace h := (if_neg c18).symm.trans h
    refine lv_iload_n hx hb dX11_already_7 rfl (lv_at hl 2 rfl) ?_
    refine lv_iconst (v := 1) hx hb dX11_already_8 (by decide) ?_
    refine lv_iconst (v := 4) hx hb dX11_already_9 (by decide) ?_
    obtain ⟨o21, eq22, h⟩ := bnd_some h
    refine kPi (rest := []) ⟨hx, hb, hml, hown, hts⟩ (c_X11_in l x2 1 4 eq22) (va_cwS 3 hts (gAS wm_120 wm_121 wm_5 wm_122) rfl rfl rfl qd_X11_in ⟨Nat.le_of_ble_eq_true rfl, Nat.le_of_ble_eq_true rfl⟩) rfl hl.1 rfl (Nat.le_of_ble_eq_true rfl) dX11_already_10 ⟨Nat.zero_le _, Nat.zero_le _⟩ ?_
    refine lv_if_eq (tgt := 25) hx hb dX11_already_13 (by decide) (fun c23 => ?_) (fun c23 => ?_)
    · replace h := (if_pos c23).symm.trans h
      refine lv_bipush (v := (-2)) hx hb dX11_already_25 (by decide) ?_
      obtain ⟨o24, eq25, h⟩ := bnd_some h
      refine kPl (rest := []) ⟨hx, hb, hml, hown, hts⟩ (c_X11_no l (-2) eq25) (va_cwS 1 hts (gAS wm_523 wm_524 wm_5 wm_525) rfl rfl rfl qd_X11_no ⟨Nat.le_of_ble_eq_true rfl, Nat.le_of_ble_eq_true rfl⟩) rfl hl.1 rfl (Nat.le_of_ble_eq_true rfl) dX11_already_27 ⟨Nat.zero_le _, Nat.zero_le _⟩ ?_
      have he := Option.some.inj h
      exact W.lret (v := o24) hx hb hr (fun t ht hW => ⟨⟨o24, wM k a mSizes mSigns mOdds mPat mTyped mText mAt mFault mTests mTN mTS mTV mTB mRead mUns mUM mBA mBH mThere mTypes mHeld mItems mMoved mFind, rfl, ⟨(congrArg (fun z => z.1) he), (congrArg (fun z => wM k a mSizes mSigns mOdds mPat mTyped mText mAt mFault mTests mTN mTS mTV mTB mRead mUns mUM z.2.1 z.2.2 mThere mTypes mHeld mItems mMoved mFind) he)⟩, by rw [ht]; exact hP, va_K.moved hW.alike hK, hD⟩, hS.F ht⟩) hS.2.2 dX11_already_30
    · replace h := (if_neg c23).symm.trans h
      refine lv_iload_n hx hb dX11_already_16 rfl (lv_at hl 3 rfl) ?_
      refine lv_iconst (v := 0) hx hb dX11_already_17 (by decide) ?_
      refine lv_iconst (v := 1) hx hb dX11_already_18 (by decide) ?_
      obtain ⟨o26, eq27, h⟩ := bnd_some h
      refine kPi (rest := []) ⟨hx, hb, hml, hown, hts⟩ (c_X11_in l x3 0 1 eq27) (va_cwS 3 hts (gAS wm_120 wm_121 wm_5 wm_122) rfl rfl rfl qd_X11_in ⟨Nat.le_of_ble_eq_true rfl, Nat.le_of_ble_eq_true rfl⟩) rfl hl.1 rfl (Nat.le_of_ble_eq_true rfl) dX11_already_19 ⟨Nat.zero_le _, Nat.zero_le _⟩ ?_
      refine lv_if_ne (tgt := 31) hx hb dX11_already_22 (by decide) (fun c28 => ?_) (fun c28 => ?_)
      · replace h := (if_neg c28).symm.trans h
        refine lv_aload_n hx hb dX11_already_31 rfl (lv_at hl 0 rfl) ?_
        refine lv_iload_n hx hb dX11_already_32 rfl (lv_at hl 1 rfl) ?_
        obtain ⟨o29, eq30, h⟩ := bnd_some h
        refine kRiV (rest := []) (q0 := 0) ⟨hx, hb, hml, hown, hts⟩ (c_X11_isWhole l D k a mSizes mSigns mOdds mPat mTyped mText mAt mFault mTests mTN mTS mTV mTB mRead mUns mUM mBA mBH mThere mTypes mHeld mItems mMoved mFind x1 eq30) (cwV 1 hts (gAV wm_241 wm_242 wm_243 wm_5 wm_244) rfl rfl rfl qd_X11_isWhole ⟨Nat.le_of_ble_eq_true rfl, Nat.le_of_ble_eq_true rfl⟩) hK hP (rfl) rfl rfl hl.1 rfl (Nat.le_of_ble_eq_true rfl) dX11_already_33 ⟨Nat.zero_le _, Nat.zero_le _⟩ ?_
        refine lv_if_ne (tgt := 45) hx hb dX11_already_36 (by decide) (fun c31 => ?_) (fun c31 => ?_)
        · replace h := (if_neg c31).symm.trans h
          refine lv_aload_n hx hb dX11_already_45 rfl (lv_at hl 0 rfl) ?_
          refine lv_iload_n hx hb dX11_already_46 rfl (lv_at hl 1 rfl) ?_
          obtain ⟨o32, eq33, h⟩ := bnd_some h
          refine kRiV (rest := []) (q0 := 0) ⟨hx, hb, hml, hown, hts⟩ (c_X11_bitsOf l D k a mSizes mSigns mOdds mPat mTyped mText mAt mFault mTests mTN mTS mTV mTB mRead mUns mUM mBA mBH mThere mTypes mHeld mItems mMoved mFind x1 eq33) (cwV 1 hts (gAV wm_245 wm_246 wm_247 wm_5 wm_248) rfl rfl rfl qd_X11_bitsOf ⟨Nat.le_of_ble_eq_true rfl, Nat.le_of_ble_eq_true rfl⟩) hK hP (rfl) rfl rfl hl.1 rfl (Nat.le_of_ble_eq_true rfl) dX11_already_47 ⟨Nat.zero_le _, Nat.zero_le _⟩ ?_
          obtain ⟨o34, eq35, h⟩ := bnd_some h
          refine kPi (rest := []) ⟨hx, hb, hml, hown, hts⟩ (c_X11_ones l o32 eq35) (va_cwS 1 hts (gAS wm_253 wm_254 wm_5 wm_255) rfl rfl rfl qd_X11_ones ⟨Nat.le_of_ble_eq_true rfl, Nat.le_of_ble_eq_true rfl⟩) rfl hl.1 rfl (Nat.le_of_ble_eq_true rfl) dX11_already_50 ⟨Nat.zero_le _, Nat.zero_le _⟩ ?_
          refine lv_istore (lv' := [(4, .int o34), (0, .ref (a 0)), (1, .int x1), (2, .int x2), (3, .int x3)]) hx hb dX11_already_53 hl (by decide) rfl (fun ls hl => ?_)
          refine lv_lconst (v := 0) hx hb dX11_already_55 rfl ?_
          refine lv_lstore (lv' := [(5, .long 0), (4, .int o34), (0, .ref (a 0)), (1, .int x1), (2, .int x2), (3, .int x3)]) hx hb dX11_already_56 hl (by decide) rfl (fun ls hl => ?_)
          refine lv_lconst (v := 0) hx hb dX11_already_58 rfl ?_
          refine lv_lstore (lv' := [(7, .long 0), (5, .long 0), (4, .int o34), (0, .ref (a 0)), (1, .int x1), (2, .int x2), (3, .int x3)]) hx hb dX11_already_59 hl (by decide) rfl (fun ls hl => ?_)
          refine lv_iconst (v := 0) hx hb dX11_already_61 (by decide) ?_
          refine lv_istore (lv' := [(9, .int 0), (7, .long 0), (5, .long 0), (4, .int o34), (0, .ref (a 0)), (1, .int x1), (2, .int x2), (3, .int x3)]) hx hb dX11_already_62 hl (by decide) rfl (fun ls hl => ?_)
          exact L64 N x1 x2 x3 o34 0 0 0 mBA mBH ls H locs (lv_sub hl [4, 5, 6, 7, 3, 2, 1, 0] rfl) hP hD hS h
        · replace h := (if_pos c31).symm.trans h
          refine lv_bipush (v := (-3)) hx hb dX11_already_39 (by decide) ?_
          obtain ⟨o36, eq37, h⟩ := bnd_some h
          refine kPl (rest := []) ⟨hx, hb, hml, hown, hts⟩ (c_X11_no l (-3) eq37) (va_cwS 1 hts (gAS wm_523 wm_524 wm_5 wm_525) rfl rfl rfl qd_X11_no ⟨Nat.le_of_ble_eq_true rfl, Nat.le_of_ble_eq_true rfl⟩) rfl hl.1 rfl (Nat.le_of_ble_eq_true rfl) dX11_already_41 ⟨Nat.zero_le _, Nat.zero_le _⟩ ?_
          have he := Option.some.inj h
          exact W.lret (v := o36) hx hb hr (fun t ht hW => ⟨⟨o36, wM k a mSizes mSigns mOdds mPat mTyped mText mAt mFault mTests mTN mTS mTV mTB mRead mUns mUM mBA mBH mThere mTypes mHeld mItems mMoved mFind, rfl, ⟨(congrArg (fun z => z.1) he), (congrArg (fun z => wM k a mSizes mSigns mOdds mPat mTyped mText mAt mFault mTests mTN mTS mTV mTB mRead mUns mUM z.2.1 z.2.2 mThere mTypes mHeld mItems mMoved mFind) he)⟩, by rw [ht]; exact hP, va_K.moved hW.alike hK, hD⟩, hS.F ht⟩) hS.2.2 dX11_already_44
      · replace h := (if_pos c28).symm.trans h
        refine lv_bipush (v := (-2)) hx hb dX11_already_25 (by decide) ?_
        obtain ⟨o38, eq39, h⟩ := bnd_some h
        refine kPl (rest := []) ⟨hx, hb, hml, hown, hts⟩ (c_X11_no l (-2) eq39) (va_cwS 1 hts (gAS wm_523 wm_524 wm_5 wm_525) rfl rfl rfl qd_X11_no ⟨Nat.le_of_ble_eq_true rfl, Nat.le_of_ble_eq_true rfl⟩) rfl hl.1 rfl (Nat.le_of_ble_eq_true rfl) dX11_already_27 ⟨Nat.zero_le _, Nat.zero_le _⟩ ?_
        have he := Option.some.inj h
        exact W.lret (v := o38) hx hb hr (fun t ht hW => ⟨⟨o38, wM k a mSizes mSigns mOdds mPat mTyped mText mAt mFault mTests mTN mTS mTV mTB mRead mUns mUM mBA mBH mThere mTypes mHeld mItems mMoved mFind, rfl, ⟨(congrArg (fun z => z.1) he), (congrArg (fun z => wM k a mSizes mSigns mOdds mPat mTyped mText mAt mFault mTests mTN mTS mTV mTB mRead mUns mUM z.2.1 z.2.2 mThere mTypes mHeld mItems mMoved mFind) he)⟩, by rw [ht]; exact hP, va_K.moved hW.alike hK, hD⟩, hS.F ht⟩) hS.2.2 dX11_already_30
set_option maxHeartbeats 4000000 in
set_option maxRecDepth 100000 in
theorem c_X11_already {N : Nat} (l : Launch) (D : va_G) (k : Nat → ClassId) (a : Nat → Nat) (mSizes : Nat → Int32) (mSigns : Nat → Int32) (mOdds : Int32) (mPat : Int32) (mTyped : Int32) (mText : Nat → Int32) (mAt : Int32) (mFault : Int32) (mTests : Int32) (mTN : Nat → Int32) (mTS : Nat → Int32) (mTV : Nat → Int32) (mTB : Nat → Int32) (mRead : Int32) (mUns : Nat → Int32) (mUM : Int32) (mBA : Int32) (mBH : Int32) (mThere : Nat → Int32) (mTypes : Nat → Int32) (mHeld : Nat → Int32) (mItems : Nat → Int32) (mMoved : Nat → Int32) (mFind : Int32) (x1 : Int32) (x2 : Int32) (x3 : Int32) {o : Int64 × (Int32) × (Int32)} (h : f_X11_already N x1 x2 x3 mSizes mSigns mBA mBH = some o) : mQl l yX11_already wo_X11_already 2 D k [.ref (a 0), .int x1, .int x2, .int x3] (wM k a mSizes mSigns mOdds mPat mTyped mText mAt mFault mTests mTN mTS mTV mTB mRead mUns mUM mBA mBH mThere mTypes mHeld mItems mMoved mFind) o.1 (wM k a mSizes mSigns mOdds mPat mTyped mText mAt mFault mTests mTN mTS mTV mTB mRead mUns mUM o.2.1 o.2.2 mThere mTypes mHeld mItems mMoved mFind) := by
  intro sz
  refine Met.ofW (cc := cX11_already) (maxL := 10) (ret := some .long) (by decide) rfl ?_
  intro p e s m args below meth c s₁ B hml hv
  obtain ⟨rfl, hsz, hP, hK, hD0⟩ := hv
  subst hsz
  rw [lg_entry_eq]
  exact core_X11_already D k a mSizes mSigns mOdds mPat mTyped mText mAt mFault mTests mTN mTS mTV mTB mRead mUns mUM mBA mBH mThere mTypes mHeld mItems mMoved mFind x1 x2 x3 B.exec B.bytes hml B.returns (atoms_spec (ws := wo_X11_already) B.pre) (findClass_of_methodNamed B.named) B.notSynchronized (lv_entry [.ref (a 0), .int x1, .int x2, .int x3] (n := 10) (Nat.le_of_ble_eq_true rfl)) hK hP hD0.self (fun q h => Or.inr h) h
theorem qd_X11_already : yX11_already.cls = RX11 ∧ yX11_already.cls ≠ "java/lang/invoke/MethodHandle" ∧ yX11_already.cls ≠ "java/lang/invoke/VarHandle" ∧ (parseMethodDescriptor yX11_already.desc).map (fun d => d.parameters.length) = some 3 := by decide +kernel
abbrev wo_X11_oddsOf : List Cond := .code yX11_oddsOf cX11_oddsOf 7 (some .long) :: wsL_law
set_option maxHeartbeats 4000000 in
set_option maxRecDepth 100000 in
theorem core_X11_oddsOf {N : Nat} (D : va_G) (k : Nat → ClassId) (a : Nat → Nat) (mSizes : Nat → Int32) (mSigns : Nat → Int32) (mOdds : Int32) (mPat : Int32) (mTyped : Int32) (mText : Nat → Int32) (mAt : Int32) (mFault : Int32) (mTests : Int32) (mTN : Nat → Int32) (mTS : Nat → Int32) (mTV : Nat → Int32) (mTB : Nat → Int32) (mRead : Int32) (mUns : Nat → Int32) (mUM : Int32) (mBA : Int32) (mBH : Int32) (mThere : Nat → Int32) (mTypes : Nat → Int32) (mHeld : Nat → Int32) (mItems : Nat → Int32) (mMoved : Nat → Int32) (mFind : Int32) (x1 : Int32) (x2 : Int32) {p : Program} {l : Launch} {e : Env} {s : State} {m : MethodId} {args : Array Value} {below : List Frame} {meth : Method} {c : Code} {ls : Array Slot} (hx : p.tables.exec = Jvm.exec) (hb : c.code = cX11_oddsOf) (hml : c.maxLocals = 7) (hr : meth.sig.returnType = some .long) (hts : ∀ w ∈ wo_X11_oddsOf, w.before args s = true) (hown : s.vm.findClass RX11 = some m.cls) (hlocks : meth.locks = false) (hl : lv_has ls 7 [(0, .ref (a 0)), (1, .int x1), (2, .int x2)]) (hK : va_K D vwCl (xTys k) s) (hP : va_P D vwCl (wM k a mSizes mSigns mOdds mPat mTyped mText mAt mFault mTests mTN mTS mTV mTB mRead mUns mUM mBA mBH mThere mTypes mHeld mItems mMoved mFind) s.heap) {o : Int64} (h : f_X11_oddsOf N x1 x2 mOdds = some o) : gRl p l e wo_X11_oddsOf 1 s m args below meth c o (F0 m 0 ls []) := by
  have hi11 := (fun w h => List.mem_cons_of_mem _ (inlX11 w h) : ∀ w ∈ wsX110, w ∈ wo_X11_oddsOf)
  have kf16 := hts _ (List.mem_cons_of_mem _ wm_74)
  unfold f_X11_oddsOf at h
  have L11 : ∀ (n11 : Nat) (x1 : Int32) (x2 : Int32) (x3 : Int32) (x4 : Int64) (x6 : Int32) (ls : Array Slot) (hl : lv_has ls 7 [(0, .ref (a 0)), (1, .int x1), (2, .int x2), (3, .int x3), (4, .long x4), (6, .int x6)]) (h : f_X11_oddsOf_11 N n11 x1 x2 x3 x4 x6 mOdds = some o), gRl p l e wo_X11_oddsOf 1 s m args below meth c o (F0 m 11 ls []) := by
    intro n11
    induction n11 with
    | zero => intro x1 x2 x3 x4 x6 ls hl h; cases (show (none : Option (Int64)) = some o from h)
    | succ n11 ih11 =>
      have J49 : ∀ (x1 : Int32) (x2 : Int32) (x3 : Int32) (x6 : Int32) (s0 : Int64) (s1 : Int64) (ls : Array Slot) (hl : lv_has ls 7 [(0, .ref (a 0)), (1, .int x1), (2, .int x2), (3, .int x3), (6, .int x6)]) (h : f_X11_oddsOf_49 N (fun y0 y1 y2 y3 y4 y5 => f_X11_oddsOf_11 N n11 y0 y1 y2 y3 y4 y5) x1 x2 x3 x6 s0 s1 mOdds = some o), gRl p l e wo_X11_oddsOf 1 s m args below meth c o (F0 m 49 ls [.long s1, .long s0]) := by
        intro x1 x2 x3 x6 s0 s1 ls hl h
        unfold f_X11_oddsOf_49 at h
        refine lv_lmul hx hb dX11_oddsOf_49 ?_
        refine lv_lstore (lv' := [(4, .long (s0 * s1)), (0, .ref (a 0)), (1, .int x1), (2, .int x2), (3, .int x3), (6, .int x6)]) hx hb dX11_oddsOf_50 hl (by decide) rfl (fun ls hl => ?_)
        refine lv_iinc (v := (x6 + 1)) (lv' := [(6, .int (x6 + 1)), (4, .long (s0 * s1)), (0, .ref (a 0)), (1, .int x1), (2, .int x2), (3, .int x3)]) hx hb dX11_oddsOf_52 hl (k := 5) rfl rfl (by decide) rfl (fun ls hl => ?_)
        refine lv_goto (tgt := 11) hx hb dX11_oddsOf_55 (by decide) ?_
        exact ih11 x1 x2 x3 (s0 * s1) (x6 + 1) ls (lv_sub hl [2, 3, 4, 5, 1, 0] rfl) h
      intro x1 x2 x3 x4 x6 ls hl h
      rw [f_X11_oddsOf_11] at h
      refine lv_iload hx hb dX11_oddsOf_11 (lv_at hl 5 rfl) ?_
      refine lv_iload_n hx hb dX11_oddsOf_13 rfl (lv_at hl 2 rfl) ?_
      refine lv_icmp_ge (tgt := 58) hx hb dX11_oddsOf_14 (by decide) (fun c1 => ?_) (fun c1 => ?_)
      · replace h := (if_pos c1).symm.trans h
        refine lv_lload hx hb dX11_oddsOf_58 (lv_at hl 4 rfl) ?_
        exact W.lret (v := x4) hx hb hr (fun t ht hW => ⟨_, rfl, Option.some.inj h, ht⟩) (fun q hq => by cases hq) dX11_oddsOf_60
      · replace h := (if_neg c1).symm.trans h
        refine lv_lload hx hb dX11_oddsOf_17 (lv_at hl 4 rfl) ?_
        refine lv_iload_n hx hb dX11_oddsOf_19 rfl (lv_at hl 1 rfl) ?_
        refine lv_iload_n hx hb dX11_oddsOf_20 rfl (lv_at hl 3 rfl) ?_
        refine lv_iconst (v := 1) hx hb dX11_oddsOf_21 (by decide) ?_
        refine lv_isub hx hb dX11_oddsOf_22 ?_
        refine lv_iload hx hb dX11_oddsOf_23 (lv_at hl 5 rfl) ?_
        refine lv_isub hx hb dX11_oddsOf_25 ?_
        refine lv_ishr hx hb dX11_oddsOf_26 ?_
        refine lv_iconst (v := 1) hx hb dX11_oddsOf_27 (by decide) ?_
        refine lv_iand hx hb dX11_oddsOf_28 ?_
        refine lv_iconst (v := 1) hx hb dX11_oddsOf_29 (by decide) ?_
        refine lv_icmp_ne (tgt := 41) hx hb dX11_oddsOf_30 (by decide) (fun c2 => ?_) (fun c2 => ?_)
        · replace h := (if_neg c2).symm.trans h
          refine lv_bipush (v := 16) hx hb dX11_oddsOf_41 (by decide) ?_
          refine lv_aload_n hx hb dX11_oddsOf_43 rfl (lv_at hl 0 rfl) ?_
          refine va_get (D := D) (ci := 6) (v := .int mOdds) (C := RX11) (T := TX11) (N := 24) hx hb hts hi11 hown hK hP (0) (rfl) rfl 2 (by decide) kf16 (fun _ h9 => h9) rfl dX11_oddsOf_44 ?_
          refine lv_isub hx hb dX11_oddsOf_47 ?_
          refine lv_i2l (v := ((16 : Int32) - mOdds).toInt64) hx hb dX11_oddsOf_48 rfl ?_
          exact J49 x1 x2 x3 x6 x4 (((16 : Int32) - mOdds).toInt64) ls (lv_sub hl [0, 1, 2, 3, 5] rfl) h
        · replace h := (if_pos c2).symm.trans h
          refine lv_aload_n hx hb dX11_oddsOf_33 rfl (lv_at hl 0 rfl) ?_
          refine va_get (D := D) (ci := 6) (v := .int mOdds) (C := RX11) (T := TX11) (N := 24) hx hb hts hi11 hown hK hP (0) (rfl) rfl 2 (by decide) kf16 (fun _ h9 => h9) rfl dX11_oddsOf_34 ?_
          refine lv_i2l (v := mOdds.toInt64) hx hb dX11_oddsOf_37 rfl ?_
          refine lv_goto (tgt := 49) hx hb dX11_oddsOf_38 (by decide) ?_
          exact J49 x1 x2 x3 x6 x4 mOdds.toInt64 ls (lv_sub hl [0, 1, 2, 3, 5] rfl) h
  refine lv_iload_n hx hb dX11_oddsOf_0 rfl (lv_at hl 1 rfl) ?_
  obtain ⟨o3, eq4, h⟩ := bnd_some h
  refine kPi (rest := []) ⟨hx, hb, hml, hown, hts⟩ (c_X11_lengthOf l x1 eq4) (va_cwS 1 hts (gAS wm_260 wm_261 wm_5 wm_262) rfl rfl rfl qd_X11_lengthOf ⟨Nat.le_of_ble_eq_true rfl, Nat.le_of_ble_eq_true rfl⟩) rfl hl.1 rfl (Nat.le_of_ble_eq_true rfl) dX11_oddsOf_1 ⟨Nat.zero_le _, Nat.zero_le _⟩ ?_
  refine lv_istore_n (lv' := [(3, .int o3), (0, .ref (a 0)), (1, .int x1), (2, .int x2)]) hx hb dX11_oddsOf_4 rfl hl (by decide) rfl (fun ls hl => ?_)
  refine lv_lconst (v := 1) hx hb dX11_oddsOf_5 rfl ?_
  refine lv_lstore (lv' := [(4, .long 1), (3, .int o3), (0, .ref (a 0)), (1, .int x1), (2, .int x2)]) hx hb dX11_oddsOf_6 hl (by decide) rfl (fun ls hl => ?_)
  refine lv_iconst (v := 0) hx hb dX11_oddsOf_8 (by decide) ?_
  refine lv_istore (lv' := [(6, .int 0), (4, .long 1), (3, .int o3), (0, .ref (a 0)), (1, .int x1), (2, .int x2)]) hx hb dX11_oddsOf_9 hl (by decide) rfl (fun ls hl => ?_)
  exact L11 N x1 x2 o3 1 0 ls (lv_sub hl [3, 4, 5, 2, 1, 0] rfl) h
set_option maxHeartbeats 4000000 in
set_option maxRecDepth 100000 in
theorem c_X11_oddsOf {N : Nat} (l : Launch) (D : va_G) (k : Nat → ClassId) (a : Nat → Nat) (mSizes : Nat → Int32) (mSigns : Nat → Int32) (mOdds : Int32) (mPat : Int32) (mTyped : Int32) (mText : Nat → Int32) (mAt : Int32) (mFault : Int32) (mTests : Int32) (mTN : Nat → Int32) (mTS : Nat → Int32) (mTV : Nat → Int32) (mTB : Nat → Int32) (mRead : Int32) (mUns : Nat → Int32) (mUM : Int32) (mBA : Int32) (mBH : Int32) (mThere : Nat → Int32) (mTypes : Nat → Int32) (mHeld : Nat → Int32) (mItems : Nat → Int32) (mMoved : Nat → Int32) (mFind : Int32) (x1 : Int32) (x2 : Int32) {o : Int64} (h : f_X11_oddsOf N x1 x2 mOdds = some o) : mRl l yX11_oddsOf wo_X11_oddsOf 1 D k [.ref (a 0), .int x1, .int x2] (wM k a mSizes mSigns mOdds mPat mTyped mText mAt mFault mTests mTN mTS mTV mTB mRead mUns mUM mBA mBH mThere mTypes mHeld mItems mMoved mFind) o := by
  refine Met.ofW (cc := cX11_oddsOf) (maxL := 7) (ret := some .long) (by decide) rfl ?_
  intro p e s m args below meth c s₁ B hml hv
  obtain ⟨rfl, hP, hK⟩ := hv
  rw [lg_entry_eq]
  exact core_X11_oddsOf D k a mSizes mSigns mOdds mPat mTyped mText mAt mFault mTests mTN mTS mTV mTB mRead mUns mUM mBA mBH mThere mTypes mHeld mItems mMoved mFind x1 x2 B.exec B.bytes hml B.returns (atoms_spec (ws := wo_X11_oddsOf) B.pre) (findClass_of_methodNamed B.named) B.notSynchronized (lv_entry [.ref (a 0), .int x1, .int x2] (n := 7) (Nat.le_of_ble_eq_true rfl)) hK hP h
theorem qd_X11_oddsOf : yX11_oddsOf.cls = RX11 ∧ yX11_oddsOf.cls ≠ "java/lang/invoke/MethodHandle" ∧ yX11_oddsOf.cls ≠ "java/lang/invoke/VarHandle" ∧ (parseMethodDescriptor yX11_oddsOf.desc).map (fun d => d.parameters.length) = some 2 := by decide +kernel
abbrev wo_X11_overlaps : List Cond := .code yX11_overlaps cX11_overlaps 4 (some .boolean) :: wsL_law
set_option maxHeartbeats 4000000 in
set_option maxRecDepth 100000 in
theorem core_X11_overlaps {N : Nat} (x0 : Int32) (x1 : Int32) (x2 : Int32) {p : Program} {l : Launch} {e : Env} {s : State} {m : MethodId} {args : Array Value} {below : List Frame} {meth : Method} {c : Code} {ls : Array Slot} (hx : p.tables.exec = Jvm.exec) (hb : c.code = cX11_overlaps) (hml : c.maxLocals = 4) (hr : meth.sig.returnType = some .boolean) (hts : ∀ w ∈ wo_X11_overlaps, w.before args s = true) (hown : s.vm.findClass RX11 = some m.cls) (hlocks : meth.locks = false) (hl : lv_has ls 4 [(0, .int x0), (1, .int x1), (2, .int x2)]) {o : Int32} (h : f_X11_overlaps N x0 x1 x2 = some o) : gRi p l e wo_X11_overlaps 1 s m args below meth c o (F0 m 0 ls []) := by
  unfold f_X11_overlaps at h
  refine lv_iconst (v := 1) hx hb dX11_overlaps_0 (by decide) ?_
  refine lv_iload_n hx hb dX11_overlaps_1 rfl (lv_at hl 2 rfl) ?_
  refine lv_ishl hx hb dX11_overlaps_2 ?_
  refine lv_iconst (v := 1) hx hb dX11_overlaps_3 (by decide) ?_
  refine lv_isub hx hb dX11_overlaps_4 ?_
  refine lv_istore_n (lv' := [(3, .int (((1 : Int32) <<< (x2 &&& 31)) - 1)), (0, .int x0), (1, .int x1), (2, .int x2)]) hx hb dX11_overlaps_5 rfl hl (by decide) rfl (fun ls hl => ?_)
  refine lv_iload_n hx hb dX11_overlaps_6 rfl (lv_at hl 3 rfl) ?_
  refine lv_iload_n hx hb dX11_overlaps_7 rfl (lv_at hl 1 rfl) ?_
  obtain ⟨o1, eq2, h⟩ := bnd_some h
  refine kPi (rest := [.int x2]) ⟨hx, hb, hml, hown, hts⟩ (c_X11_lengthOf l x0 eq2) (va_cwS 1 hts (gAS wm_260 wm_261 wm_5 wm_262) rfl rfl rfl qd_X11_lengthOf ⟨Nat.le_of_ble_eq_true rfl, Nat.le_of_ble_eq_true rfl⟩) rfl hl.1 rfl (Nat.le_of_ble_eq_true rfl) dX11_overlaps_8 ⟨Nat.zero_le _, Nat.zero_le _⟩ ?_
  refine lv_icmp_gt (tgt := 42) hx hb dX11_overlaps_11 (by decide) (fun c3 => ?_) (fun c3 => ?_)
  · replace h := (if_pos c3).symm.trans h
    refine lv_iconst (v := 0) hx hb dX11_overlaps_42 (by decide) ?_
    exact W.zret (v := 0) hx hb hr rfl (fun t ht hW => ⟨_, rfl, Option.some.inj h, ht⟩) (fun q hq => by cases hq) dX11_overlaps_43
  · replace h := (if_neg c3).symm.trans h
    refine lv_iload_n hx hb dX11_overlaps_14 rfl (lv_at hl 3 rfl) ?_
    refine lv_iload_n hx hb dX11_overlaps_15 rfl (lv_at hl 2 rfl) ?_
    obtain ⟨o4, eq5, h⟩ := bnd_some h
    refine kPi (rest := [.int x2]) ⟨hx, hb, hml, hown, hts⟩ (c_X11_lengthOf l x1 eq5) (va_cwS 1 hts (gAS wm_260 wm_261 wm_5 wm_262) rfl rfl rfl qd_X11_lengthOf ⟨Nat.le_of_ble_eq_true rfl, Nat.le_of_ble_eq_true rfl⟩) rfl hl.1 rfl (Nat.le_of_ble_eq_true rfl) dX11_overlaps_16 ⟨Nat.zero_le _, Nat.zero_le _⟩ ?_
    refine lv_icmp_gt (tgt := 42) hx hb dX11_overlaps_19 (by decide) (fun c6 => ?_) (fun c6 => ?_)
    · replace h := (if_pos c6).symm.trans h
      refine lv_iconst (v := 0) hx hb dX11_overlaps_42 (by decide) ?_
      exact W.zret (v := 0) hx hb hr rfl (fun t ht hW => ⟨_, rfl, Option.some.inj h, ht⟩) (fun q hq => by cases hq) dX11_overlaps_43
    · replace h := (if_neg c6).symm.trans h
      refine lv_iload_n hx hb dX11_overlaps_22 rfl (lv_at hl 1 rfl) ?_
      refine lv_iload_n hx hb dX11_overlaps_23 rfl (lv_at hl 0 rfl) ?_
      refine lv_iand hx hb dX11_overlaps_24 ?_
      refine lv_iload_n hx hb dX11_overlaps_25 rfl (lv_at hl 2 rfl) ?_
      refine lv_iload_n hx hb dX11_overlaps_26 rfl (lv_at hl 2 rfl) ?_
      obtain ⟨o7, eq8, h⟩ := bnd_some h
      refine kPi (rest := [.int x1, .int (x0 &&& (((1 : Int32) <<< (x2 &&& 31)) - 1))]) ⟨hx, hb, hml, hown, hts⟩ (c_X11_lengthOf l x1 eq8) (va_cwS 1 hts (gAS wm_260 wm_261 wm_5 wm_262) rfl rfl rfl qd_X11_lengthOf ⟨Nat.le_of_ble_eq_true rfl, Nat.le_of_ble_eq_true rfl⟩) rfl hl.1 rfl (Nat.le_of_ble_eq_true rfl) dX11_overlaps_27 ⟨Nat.zero_le _, Nat.zero_le _⟩ ?_
      refine lv_iload_n hx hb dX11_overlaps_30 rfl (lv_at hl 3 rfl) ?_
      refine lv_isub hx hb dX11_overlaps_31 ?_
      refine lv_ishr hx hb dX11_overlaps_32 ?_
      refine lv_iload_n hx hb dX11_overlaps_33 rfl (lv_at hl 0 rfl) ?_
      refine lv_iand hx hb dX11_overlaps_34 ?_
      refine lv_icmp_ne (tgt := 42) hx hb dX11_overlaps_35 (by decide) (fun c9 => ?_) (fun c9 => ?_)
      · replace h := (if_neg c9).symm.trans h
        refine lv_iconst (v := 0) hx hb dX11_overlaps_42 (by decide) ?_
        exact W.zret (v := 0) hx hb hr rfl (fun t ht hW => ⟨_, rfl, Option.some.inj h, ht⟩) (fun q hq => by cases hq) dX11_overlaps_43
      · replace h := (if_pos c9).symm.trans h
        refine lv_iconst (v := 1) hx hb dX11_overlaps_38 (by decide) ?_
        refine lv_goto (tgt := 43) hx hb dX11_overlaps_39 (by decide) ?_
        exact W.zret (v := 1) hx hb hr rfl (fun t ht hW => ⟨_, rfl, Option.some.inj h, ht⟩) (fun q hq => by cases hq) dX11_overlaps_43
set_option maxHeartbeats 4000000 in
set_option maxRecDepth 100000 in
theorem c_X11_overlaps {N : Nat} (l : Launch) (x0 : Int32) (x1 : Int32) (x2 : Int32) {o : Int32} (h : f_X11_overlaps N x0 x1 x2 = some o) : mPi l yX11_overlaps wo_X11_overlaps 1 [.int x0, .int x1, .int x2] o := by
  refine Met.ofW (cc := cX11_overlaps) (maxL := 4) (ret := some .boolean) (by decide) rfl ?_
  intro p e s m args below meth c s₁ B hml hv
  obtain ⟨rfl, -⟩ := hv
  rw [lg_entry_eq]
  exact core_X11_overlaps x0 x1 x2 B.exec B.bytes hml B.returns (atoms_spec (ws := wo_X11_overlaps) B.pre) (findClass_of_methodNamed B.named) B.notSynchronized (lv_entry [.int x0, .int x1, .int x2] (n := 4) (Nat.le_of_ble_eq_true rfl)) h
theorem qd_X11_overlaps : yX11_overlaps.cls ≠ "java/lang/invoke/MethodHandle" ∧ yX11_overlaps.cls ≠ "java/lang/invoke/VarHandle" ∧ (parseMethodDescriptor yX11_overlaps.desc).map (fun d => d.parameters.length) = some 3 := by decide +kernel
abbrev wo_X11_lead : List Cond := .code yX11_lead cX11_lead 7 (some .long) :: wsL_law
set_option maxHeartbeats 4000000 in
set_option maxRecDepth 100000 in
theorem core_X11_lead {N : Nat} (D : va_G) (k : Nat → ClassId) (a : Nat → Nat) (mSizes : Nat → Int32) (mSigns : Nat → Int32) (mOdds : Int32) (mPat : Int32) (mTyped : Int32) (mText : Nat → Int32) (mAt : Int32) (mFault : Int32) (mTests : Int32) (mTN : Nat → Int32) (mTS : Nat → Int32) (mTV : Nat → Int32) (mTB : Nat → Int32) (mRead : Int32) (mUns : Nat → Int32) (mUM : Int32) (mBA : Int32) (mBH : Int32) (mThere : Nat → Int32) (mTypes : Nat → Int32) (mHeld : Nat → Int32) (mItems : Nat → Int32) (mMoved : Nat → Int32) (mFind : Int32) (x1 : Int32) (x2 : Int32) {p : Program} {l : Launch} {e : Env} {s : State} {m : MethodId} {args : Array Value} {below : List Frame} {meth : Method} {c : Code} {ls : Array Slot} (hx : p.tables.exec = Jvm.exec) (hb : c.code = cX11_lead) (hml : c.maxLocals = 7) (hr : meth.sig.returnType = some .long) (hts : ∀ w ∈ wo_X11_lead, w.before args s = true) (hown : s.vm.findClass RX11 = some m.cls) (hlocks : meth.locks = false) (hl : lv_has ls 7 [(0, .ref (a 0)), (1, .int x1), (2, .int x2)]) (hK : va_K D vwCl (xTys k) s) (hP : va_P D vwCl (wM k a mSizes mSigns mOdds mPat mTyped mText mAt mFault mTests mTN mTS mTV mTB mRead mUns mUM mBA mBH mThere mTypes mHeld mItems mMoved mFind) s.heap) {o : Int64} (h : f_X11_lead N x1 x2 mOdds = some o) : gRl p l e wo_X11_lead 2 s m args below meth c o (F0 m 0 ls []) := by
  have kc145 := hts _ (List.mem_cons_of_mem _ wm_522)
  unfold f_X11_lead at h
  have L11 : ∀ (n11 : Nat) (x1 : Int32) (x2 : Int32) (x3 : Int32) (x4 : Int64) (x6 : Int32) (ls : Array Slot) (hl : lv_has ls 7 [(0, .ref (a 0)), (1, .int x1), (2, .int x2), (3, .int x3), (4, .long x4), (6, .int x6)]) (h : f_X11_lead_11 N n11 x1 x2 x3 x4 x6 mOdds = some o), gRl p l e wo_X11_lead 2 s m args below meth c o (F0 m 11 ls []) := by
    intro n11
    induction n11 with
    | zero => intro x1 x2 x3 x4 x6 ls hl h; cases (show (none : Option (Int64)) = some o from h)
    | succ n11 ih11 =>
      have J56 : ∀ (x1 : Int32) (x2 : Int32) (x3 : Int32) (x6 : Int32) (s0 : Int64) (s1 : Int64) (ls : Array Slot) (hl : lv_has ls 7 [(0, .ref (a 0)), (1, .int x1), (2, .int x2), (3, .int x3), (6, .int x6)]) (h : f_X11_lead_56 N (fun y0 y1 y2 y3 y4 y5 => f_X11_lead_11 N n11 y0 y1 y2 y3 y4 y5) x1 x2 x3 x6 s0 s1 mOdds = some o), gRl p l e wo_X11_lead 2 s m args below meth c o (F0 m 56 ls [.long s1, .long s0]) := by
        intro x1 x2 x3 x6 s0 s1 ls hl h
        unfold f_X11_lead_56 at h
        refine lv_ladd hx hb dX11_lead_56 ?_
        refine lv_lstore (lv' := [(4, .long (s0 + s1)), (0, .ref (a 0)), (1, .int x1), (2, .int x2), (3, .int x3), (6, .int x6)]) hx hb dX11_lead_57 hl (by decide) rfl (fun ls hl => ?_)
        refine lv_iinc (v := (x6 + 1)) (lv' := [(6, .int (x6 + 1)), (4, .long (s0 + s1)), (0, .ref (a 0)), (1, .int x1), (2, .int x2), (3, .int x3)]) hx hb dX11_lead_59 hl (k := 5) rfl rfl (by decide) rfl (fun ls hl => ?_)
        refine lv_goto (tgt := 11) hx hb dX11_lead_62 (by decide) ?_
        exact ih11 x1 x2 x3 (s0 + s1) (x6 + 1) ls (lv_sub hl [2, 3, 4, 5, 1, 0] rfl) h
      intro x1 x2 x3 x4 x6 ls hl h
      rw [f_X11_lead_11] at h
      refine lv_iload hx hb dX11_lead_11 (lv_at hl 5 rfl) ?_
      refine lv_iload_n hx hb dX11_lead_13 rfl (lv_at hl 3 rfl) ?_
      refine lv_icmp_gt (tgt := 65) hx hb dX11_lead_14 (by decide) (fun c1 => ?_) (fun c1 => ?_)
      · replace h := (if_pos c1).symm.trans h
        refine lv_lload hx hb dX11_lead_65 (lv_at hl 4 rfl) ?_
        exact W.lret (v := x4) hx hb hr (fun t ht hW => ⟨_, rfl, Option.some.inj h, ht⟩) (fun q hq => by cases hq) dX11_lead_67
      · replace h := (if_neg c1).symm.trans h
        refine lv_lload hx hb dX11_lead_17 (lv_at hl 4 rfl) ?_
        refine lv_iload_n hx hb dX11_lead_19 rfl (lv_at hl 1 rfl) ?_
        refine lv_iload_n hx hb dX11_lead_20 rfl (lv_at hl 2 rfl) ?_
        refine lv_iload hx hb dX11_lead_21 (lv_at hl 5 rfl) ?_
        obtain ⟨o2, eq3, h⟩ := bnd_some h
        refine kPi (rest := [.long x4]) ⟨hx, hb, hml, hown, hts⟩ (c_X11_overlaps l x1 x2 x6 eq3) (va_cwS 3 hts (gAS wm_693 wm_694 wm_5 wm_695) rfl rfl rfl qd_X11_overlaps ⟨Nat.le_of_ble_eq_true rfl, Nat.le_of_ble_eq_true rfl⟩) rfl hl.1 rfl (Nat.le_of_ble_eq_true rfl) dX11_lead_23 ⟨Nat.zero_le _, Nat.zero_le _⟩ ?_
        refine lv_if_eq (tgt := 55) hx hb dX11_lead_26 (by decide) (fun c4 => ?_) (fun c4 => ?_)
        · replace h := (if_pos c4).symm.trans h
          refine lv_lconst (v := 0) hx hb dX11_lead_55 rfl ?_
          exact J56 x1 x2 x3 x6 x4 0 ls (lv_sub hl [0, 1, 2, 3, 5] rfl) h
        · replace h := (if_neg c4).symm.trans h
          refine lv_ldc2 (v := 16) hx hb hown kc145 dX11_lead_29 ?_
          refine lv_iload hx hb dX11_lead_32 (lv_at hl 5 rfl) ?_
          obtain ⟨o5, eq6, h⟩ := bnd_some h
          refine kPl (rest := [.long x4]) ⟨hx, hb, hml, hown, hts⟩ (c_X11_power l 16 x6 eq6) (va_cwS 2 hts (gAS wm_527 wm_528 wm_5 wm_529) rfl rfl rfl qd_X11_power ⟨Nat.le_of_ble_eq_true rfl, Nat.le_of_ble_eq_true rfl⟩) rfl hl.1 rfl (Nat.le_of_ble_eq_true rfl) dX11_lead_34 ⟨Nat.zero_le _, Nat.zero_le _⟩ ?_
          refine lv_aload_n hx hb dX11_lead_37 rfl (lv_at hl 0 rfl) ?_
          refine lv_iload_n hx hb dX11_lead_38 rfl (lv_at hl 2 rfl) ?_
          refine lv_iload_n hx hb dX11_lead_39 rfl (lv_at hl 3 rfl) ?_
          obtain ⟨o7, eq8, h⟩ := bnd_some h
          refine kRlV (rest := [.long o5, .long x4]) (q0 := 0) ⟨hx, hb, hml, hown, hts⟩ (c_X11_oddsOf l D k a mSizes mSigns mOdds mPat mTyped mText mAt mFault mTests mTN mTS mTV mTB mRead mUns mUM mBA mBH mThere mTypes mHeld mItems mMoved mFind x2 x3 eq8) (cwV 2 hts (gAV wm_696 wm_697 wm_698 wm_5 wm_699) rfl rfl rfl qd_X11_oddsOf ⟨Nat.le_of_ble_eq_true rfl, Nat.le_of_ble_eq_true rfl⟩) hK hP (rfl) rfl rfl hl.1 rfl (Nat.le_of_ble_eq_true rfl) dX11_lead_40 ⟨Nat.zero_le _, Nat.zero_le _⟩ ?_
          refine lv_aload_n hx hb dX11_lead_43 rfl (lv_at hl 0 rfl) ?_
          refine lv_iload_n hx hb dX11_lead_44 rfl (lv_at hl 2 rfl) ?_
          refine lv_iload hx hb dX11_lead_45 (lv_at hl 5 rfl) ?_
          obtain ⟨o9, eq10, h⟩ := bnd_some h
          refine kRlV (rest := [.long o7, .long o5, .long x4]) (q0 := 0) ⟨hx, hb, hml, hown, hts⟩ (c_X11_oddsOf l D k a mSizes mSigns mOdds mPat mTyped mText mAt mFault mTests mTN mTS mTV mTB mRead mUns mUM mBA mBH mThere mTypes mHeld mItems mMoved mFind x2 x6 eq10) (cwV 2 hts (gAV wm_696 wm_697 wm_698 wm_5 wm_699) rfl rfl rfl qd_X11_oddsOf ⟨Nat.le_of_ble_eq_true rfl, Nat.le_of_ble_eq_true rfl⟩) hK hP (rfl) rfl rfl hl.1 rfl (Nat.le_of_ble_eq_true rfl) dX11_lead_47 ⟨Nat.zero_le _, Nat.zero_le _⟩ ?_
          obtain ⟨g11, h⟩ := gNeL_some h
          refine lv_ldiv hx hb dX11_lead_50 g11 ?_
          refine lv_lmul hx hb dX11_lead_51 ?_
          refine lv_goto (tgt := 56) hx hb dX11_lead_52 (by decide) ?_
          exact J56 x1 x2 x3 x6 x4 (o5 * (o7 / o9)) ls (lv_sub hl [0, 1, 2, 3, 5] rfl) h
  refine lv_iload_n hx hb dX11_lead_0 rfl (lv_at hl 2 rfl) ?_
  obtain ⟨o12, eq13, h⟩ := bnd_some h
  refine kPi (rest := []) ⟨hx, hb, hml, hown, hts⟩ (c_X11_lengthOf l x2 eq13) (va_cwS 1 hts (gAS wm_260 wm_261 wm_5 wm_262) rfl rfl rfl qd_X11_lengthOf ⟨Nat.le_of_ble_eq_true rfl, Nat.le_of_ble_eq_true rfl⟩) rfl hl.1 rfl (Nat.le_of_ble_eq_true rfl) dX11_lead_1 ⟨Nat.zero_le _, Nat.zero_le _⟩ ?_
  refine lv_istore_n (lv' := [(3, .int o12), (0, .ref (a 0)), (1, .int x1), (2, .int x2)]) hx hb dX11_lead_4 rfl hl (by decide) rfl (fun ls hl => ?_)
  refine lv_lconst (v := 0) hx hb dX11_lead_5 rfl ?_
  refine lv_lstore (lv' := [(4, .long 0), (3, .int o12), (0, .ref (a 0)), (1, .int x1), (2, .int x2)]) hx hb dX11_lead_6 hl (by decide) rfl (fun ls hl => ?_)
  refine lv_iconst (v := 1) hx hb dX11_lead_8 (by decide) ?_
  refine lv_istore (lv' := [(6, .int 1), (4, .long 0), (3, .int o12), (0, .ref (a 0)), (1, .int x1), (2, .int x2)]) hx hb dX11_lead_9 hl (by decide) rfl (fun ls hl => ?_)
  exact L11 N x1 x2 o12 0 1 ls (lv_sub hl [3, 4, 5, 2, 1, 0] rfl) h
set_option maxHeartbeats 4000000 in
set_option maxRecDepth 100000 in
theorem c_X11_lead {N : Nat} (l : Launch) (D : va_G) (k : Nat → ClassId) (a : Nat → Nat) (mSizes : Nat → Int32) (mSigns : Nat → Int32) (mOdds : Int32) (mPat : Int32) (mTyped : Int32) (mText : Nat → Int32) (mAt : Int32) (mFault : Int32) (mTests : Int32) (mTN : Nat → Int32) (mTS : Nat → Int32) (mTV : Nat → Int32) (mTB : Nat → Int32) (mRead : Int32) (mUns : Nat → Int32) (mUM : Int32) (mBA : Int32) (mBH : Int32) (mThere : Nat → Int32) (mTypes : Nat → Int32) (mHeld : Nat → Int32) (mItems : Nat → Int32) (mMoved : Nat → Int32) (mFind : Int32) (x1 : Int32) (x2 : Int32) {o : Int64} (h : f_X11_lead N x1 x2 mOdds = some o) : mRl l yX11_lead wo_X11_lead 2 D k [.ref (a 0), .int x1, .int x2] (wM k a mSizes mSigns mOdds mPat mTyped mText mAt mFault mTests mTN mTS mTV mTB mRead mUns mUM mBA mBH mThere mTypes mHeld mItems mMoved mFind) o := by
  refine Met.ofW (cc := cX11_lead) (maxL := 7) (ret := some .long) (by decide) rfl ?_
  intro p e s m args below meth c s₁ B hml hv
  obtain ⟨rfl, hP, hK⟩ := hv
  rw [lg_entry_eq]
  exact core_X11_lead D k a mSizes mSigns mOdds mPat mTyped mText mAt mFault mTests mTN mTS mTV mTB mRead mUns mUM mBA mBH mThere mTypes mHeld mItems mMoved mFind x1 x2 B.exec B.bytes hml B.returns (atoms_spec (ws := wo_X11_lead) B.pre) (findClass_of_methodNamed B.named) B.notSynchronized (lv_entry [.ref (a 0), .int x1, .int x2] (n := 7) (Nat.le_of_ble_eq_true rfl)) hK hP h
theorem qd_X11_lead : yX11_lead.cls = RX11 ∧ yX11_lead.cls ≠ "java/lang/invoke/MethodHandle" ∧ yX11_lead.cls ≠ "java/lang/invoke/VarHandle" ∧ (parseMethodDescriptor yX11_lead.desc).map (fun d => d.parameters.length) = some 2 := by decide +kernel
abbrev wo_X11_waitsNow : List Cond := .code yX11_waitsNow cX11_waitsNow 2 (some .long) :: wsL_law
set_option maxHeartbeats 4000000 in
set_option maxRecDepth 100000 in
theorem core_X11_waitsNow {N : Nat} (D : va_G) (k : Nat → ClassId) (a : Nat → Nat) (mSizes : Nat → Int32) (mSigns : Nat → Int32) (mOdds : Int32) (mPat : Int32) (mTyped : Int32) (mText : Nat → Int32) (mAt : Int32) (mFault : Int32) (mTests : Int32) (mTN : Nat → Int32) (mTS : Nat → Int32) (mTV : Nat → Int32) (mTB : Nat → Int32) (mRead : Int32) (mUns : Nat → Int32) (mUM : Int32) (mBA : Int32) (mBH : Int32) (mThere : Nat → Int32) (mTypes : Nat → Int32) (mHeld : Nat → Int32) (mItems : Nat → Int32) (mMoved : Nat → Int32) (mFind : Int32) (x1 : Int32) {p : Program} {l : Launch} {e : Env} {s : State} {m : MethodId} {args : Array Value} {below : List Frame} {meth : Method} {c : Code} {ls : Array Slot} (hx : p.tables.exec = Jvm.exec) (hb : c.code = cX11_waitsNow) (hml : c.maxLocals = 2) (hr : meth.sig.returnType = some .long) (hts : ∀ w ∈ wo_X11_waitsNow, w.before args s = true) (hown : s.vm.findClass RX11 = some m.cls) (hlocks : meth.locks = false) (hl : lv_has ls 2 [(0, .ref (a 0)), (1, .int x1)]) (hK : va_K D vwCl (xTys k) s) (hP : va_P D vwCl (wM k a mSizes mSigns mOdds mPat mTyped mText mAt mFault mTests mTN mTS mTV mTB mRead mUns mUM mBA mBH mThere mTypes mHeld mItems mMoved mFind) s.heap) {o : Int64} (h : f_X11_waitsNow N x1 mOdds mPat = some o) : gRl p l e wo_X11_waitsNow 3 s m args below meth c o (F0 m 0 ls []) := by
  have hi11 := (fun w h => List.mem_cons_of_mem _ (inlX11 w h) : ∀ w ∈ wsX110, w ∈ wo_X11_waitsNow)
  have kf20 := hts _ (List.mem_cons_of_mem _ wm_75)
  unfold f_X11_waitsNow at h
  refine lv_aload_n hx hb dX11_waitsNow_0 rfl (lv_at hl 0 rfl) ?_
  refine lv_aload_n hx hb dX11_waitsNow_1 rfl (lv_at hl 0 rfl) ?_
  refine va_get (D := D) (ci := 6) (v := .int mPat) (C := RX11) (T := TX11) (N := 24) hx hb hts hi11 hown hK hP (0) (rfl) rfl 3 (by decide) kf20 (fun _ h9 => h9) rfl dX11_waitsNow_2 ?_
  refine lv_aload_n hx hb dX11_waitsNow_5 rfl (lv_at hl 0 rfl) ?_
  refine va_get (D := D) (ci := 6) (v := .int mPat) (C := RX11) (T := TX11) (N := 24) hx hb hts hi11 hown hK hP (0) (rfl) rfl 3 (by decide) kf20 (fun _ h9 => h9) rfl dX11_waitsNow_6 ?_
  obtain ⟨o1, eq2, h⟩ := bnd_some h
  refine kRlV (rest := []) (q0 := 0) ⟨hx, hb, hml, hown, hts⟩ (c_X11_lead l D k a mSizes mSigns mOdds mPat mTyped mText mAt mFault mTests mTN mTS mTV mTB mRead mUns mUM mBA mBH mThere mTypes mHeld mItems mMoved mFind mPat mPat eq2) (cwV 2 hts (gAV wm_689 wm_690 wm_691 wm_5 wm_692) rfl rfl rfl qd_X11_lead ⟨Nat.le_of_ble_eq_true rfl, Nat.le_of_ble_eq_true rfl⟩) hK hP (rfl) rfl rfl hl.1 rfl (Nat.le_of_ble_eq_true rfl) dX11_waitsNow_9 ⟨Nat.zero_le _, Nat.zero_le _⟩ ?_
  refine lv_aload_n hx hb dX11_waitsNow_12 rfl (lv_at hl 0 rfl) ?_
  refine lv_aload_n hx hb dX11_waitsNow_13 rfl (lv_at hl 0 rfl) ?_
  refine va_get (D := D) (ci := 6) (v := .int mPat) (C := RX11) (T := TX11) (N := 24) hx hb hts hi11 hown hK hP (0) (rfl) rfl 3 (by decide) kf20 (fun _ h9 => h9) rfl dX11_waitsNow_14 ?_
  refine lv_aload_n hx hb dX11_waitsNow_17 rfl (lv_at hl 0 rfl) ?_
  refine va_get (D := D) (ci := 6) (v := .int mPat) (C := RX11) (T := TX11) (N := 24) hx hb hts hi11 hown hK hP (0) (rfl) rfl 3 (by decide) kf20 (fun _ h9 => h9) rfl dX11_waitsNow_18 ?_
  obtain ⟨o3, eq4, h⟩ := bnd_some h
  refine kPi (rest := [.int mPat, .ref (a 0), .long o1]) ⟨hx, hb, hml, hown, hts⟩ (c_X11_lengthOf l mPat eq4) (va_cwS 1 hts (gAS wm_260 wm_261 wm_5 wm_262) rfl rfl rfl qd_X11_lengthOf ⟨Nat.le_of_ble_eq_true rfl, Nat.le_of_ble_eq_true rfl⟩) rfl hl.1 rfl (Nat.le_of_ble_eq_true rfl) dX11_waitsNow_21 ⟨Nat.zero_le _, Nat.zero_le _⟩ ?_
  obtain ⟨o5, eq6, h⟩ := bnd_some h
  refine kRlV (rest := [.long o1]) (q0 := 0) ⟨hx, hb, hml, hown, hts⟩ (c_X11_oddsOf l D k a mSizes mSigns mOdds mPat mTyped mText mAt mFault mTests mTN mTS mTV mTB mRead mUns mUM mBA mBH mThere mTypes mHeld mItems mMoved mFind mPat o3 eq6) (cwV 2 hts (gAV wm_696 wm_697 wm_698 wm_5 wm_699) rfl rfl rfl qd_X11_oddsOf ⟨Nat.le_of_ble_eq_true rfl, Nat.le_of_ble_eq_true rfl⟩) hK hP (rfl) rfl rfl hl.1 rfl (Nat.le_of_ble_eq_true rfl) dX11_waitsNow_24 ⟨Nat.zero_le _, Nat.zero_le _⟩ ?_
  refine lv_iload_n hx hb dX11_waitsNow_27 rfl (lv_at hl 1 rfl) ?_
  obtain ⟨o7, eq8, h⟩ := bnd_some h
  refine kPl (rest := []) ⟨hx, hb, hml, hown, hts⟩ (c_X11_lowest l o1 o5 x1 eq8) (va_cwS 3 hts (gAS wm_530 wm_531 wm_5 wm_532) rfl rfl rfl qd_X11_lowest ⟨Nat.le_of_ble_eq_true rfl, Nat.le_of_ble_eq_true rfl⟩) rfl hl.1 rfl (Nat.le_of_ble_eq_true rfl) dX11_waitsNow_28 ⟨Nat.zero_le _, Nat.zero_le _⟩ ?_
  exact W.lret (v := o7) hx hb hr (fun t ht hW => ⟨_, rfl, Option.some.inj h, ht⟩) (fun q hq => by cases hq) dX11_waitsNow_31
set_option maxHeartbeats 4000000 in
set_option maxRecDepth 100000 in
theorem c_X11_waitsNow {N : Nat} (l : Launch) (D : va_G) (k : Nat → ClassId) (a : Nat → Nat) (mSizes : Nat → Int32) (mSigns : Nat → Int32) (mOdds : Int32) (mPat : Int32) (mTyped : Int32) (mText : Nat → Int32) (mAt : Int32) (mFault : Int32) (mTests : Int32) (mTN : Nat → Int32) (mTS : Nat → Int32) (mTV : Nat → Int32) (mTB : Nat → Int32) (mRead : Int32) (mUns : Nat → Int32) (mUM : Int32) (mBA : Int32) (mBH : Int32) (mThere : Nat → Int32) (mTypes : Nat → Int32) (mHeld : Nat → Int32) (mItems : Nat → Int32) (mMoved : Nat → Int32) (mFind : Int32) (x1 : Int32) {o : Int64} (h : f_X11_waitsNow N x1 mOdds mPat = some o) : mRl l yX11_waitsNow wo_X11_waitsNow 3 D k [.ref (a 0), .int x1] (wM k a mSizes mSigns mOdds mPat mTyped mText mAt mFault mTests mTN mTS mTV mTB mRead mUns mUM mBA mBH mThere mTypes mHeld mItems mMoved mFind) o := by
  refine Met.ofW (cc := cX11_waitsNow) (maxL := 2) (ret := some .long) (by decide) rfl ?_
  intro p e s m args below meth c s₁ B hml hv
  obtain ⟨rfl, hP, hK⟩ := hv
  rw [lg_entry_eq]
  exact core_X11_waitsNow D k a mSizes mSigns mOdds mPat mTyped mText mAt mFault mTests mTN mTS mTV mTB mRead mUns mUM mBA mBH mThere mTypes mHeld mItems mMoved mFind x1 B.exec B.bytes hml B.returns (atoms_spec (ws := wo_X11_waitsNow) B.pre) (findClass_of_methodNamed B.named) B.notSynchronized (lv_entry [.ref (a 0), .int x1] (n := 2) (Nat.le_of_ble_eq_true rfl)) hK hP h
theorem qd_X11_waitsNow : yX11_waitsNow.cls = RX11 ∧ yX11_waitsNow.cls ≠ "java/lang/invoke/MethodHandle" ∧ yX11_waitsNow.cls ≠ "java/lang/invoke/VarHandle" ∧ (parseMethodDescriptor yX11_waitsNow.desc).map (fun d => d.parameters.length) = some 1 := by decide +kernel
abbrev wo_X11_waits : List Cond := .code yX11_waits cX11_waits 2 (some .long) :: wsL_law
set_option maxHeartbeats 4000000 in
set_option maxRecDepth 100000 in
theorem core_X11_waits {N : Nat} (D : va_G) (k : Nat → ClassId) (a : Nat → Nat) (mSizes : Nat → Int32) (mSigns : Nat → Int32) (mOdds : Int32) (mPat : Int32) (mTyped : Int32) (mText : Nat → Int32) (mAt : Int32) (mFault : Int32) (mTests : Int32) (mTN : Nat → Int32) (mTS : Nat → Int32) (mTV : Nat → Int32) (mTB : Nat → Int32) (mRead : Int32) (mUns : Nat → Int32) (mUM : Int32) (mBA : Int32) (mBH : Int32) (mThere : Nat → Int32) (mTypes : Nat → Int32) (mHeld : Nat → Int32) (mItems : Nat → Int32) (mMoved : Nat → Int32) (mFind : Int32) (x1 : Int32) {p : Program} {l : Launch} {e : Env} {s : State} {m : MethodId} {args : Array Value} {below : List Frame} {meth : Method} {c : Code} {ls : Array Slot} (hx : p.tables.exec = Jvm.exec) (hb : c.code = cX11_waits) (hml : c.maxLocals = 2) (hr : meth.sig.returnType = some .long) (hts : ∀ w ∈ wo_X11_waits, w.before args s = true) (hown : s.vm.findClass RX11 = some m.cls) (hlocks : meth.locks = false) (hl : lv_has ls 2 [(0, .ref (a 0)), (1, .int x1)]) (hK : va_K D vwCl (xTys k) s) (hP : va_P D vwCl (wM k a mSizes mSigns mOdds mPat mTyped mText mAt mFault mTests mTN mTS mTV mTB mRead mUns mUM mBA mBH mThere mTypes mHeld mItems mMoved mFind) s.heap) {o : Int64} (h : f_X11_waits N x1 mOdds mPat = some o) : gRl p l e wo_X11_waits 4 s m args below meth c o (F0 m 0 ls []) := by
  unfold f_X11_waits at h
  refine lv_iload_n hx hb dX11_waits_0 rfl (lv_at hl 1 rfl) ?_
  refine lv_iconst (v := 0) hx hb dX11_waits_1 (by decide) ?_
  refine lv_iconst (v := 1) hx hb dX11_waits_2 (by decide) ?_
  obtain ⟨o1, eq2, h⟩ := bnd_some h
  refine kPi (rest := []) ⟨hx, hb, hml, hown, hts⟩ (c_X11_in l x1 0 1 eq2) (va_cwS 3 hts (gAS wm_120 wm_121 wm_5 wm_122) rfl rfl rfl qd_X11_in ⟨Nat.le_of_ble_eq_true rfl, Nat.le_of_ble_eq_true rfl⟩) rfl hl.1 rfl (Nat.le_of_ble_eq_true rfl) dX11_waits_3 ⟨Nat.zero_le _, Nat.zero_le _⟩ ?_
  refine lv_if_eq (tgt := 17) hx hb dX11_waits_6 (by decide) (fun c3 => ?_) (fun c3 => ?_)
  · replace h := (if_pos c3).symm.trans h
    refine lv_bipush (v := (-2)) hx hb dX11_waits_17 (by decide) ?_
    obtain ⟨o4, eq5, h⟩ := bnd_some h
    refine kPl (rest := []) ⟨hx, hb, hml, hown, hts⟩ (c_X11_no l (-2) eq5) (va_cwS 1 hts (gAS wm_523 wm_524 wm_5 wm_525) rfl rfl rfl qd_X11_no ⟨Nat.le_of_ble_eq_true rfl, Nat.le_of_ble_eq_true rfl⟩) rfl hl.1 rfl (Nat.le_of_ble_eq_true rfl) dX11_waits_19 ⟨Nat.zero_le _, Nat.zero_le _⟩ ?_
    exact W.lret (v := o4) hx hb hr (fun t ht hW => ⟨_, rfl, Option.some.inj h, ht⟩) (fun q hq => by cases hq) dX11_waits_22
  · replace h := (if_neg c3).symm.trans h
    refine lv_aload_n hx hb dX11_waits_9 rfl (lv_at hl 0 rfl) ?_
    refine lv_iload_n hx hb dX11_waits_10 rfl (lv_at hl 1 rfl) ?_
    obtain ⟨o6, eq7, h⟩ := bnd_some h
    refine kRlV (rest := []) (q0 := 0) ⟨hx, hb, hml, hown, hts⟩ (c_X11_waitsNow l D k a mSizes mSigns mOdds mPat mTyped mText mAt mFault mTests mTN mTS mTV mTB mRead mUns mUM mBA mBH mThere mTypes mHeld mItems mMoved mFind x1 eq7) (cwV 1 hts (gAV wm_685 wm_686 wm_687 wm_5 wm_688) rfl rfl rfl qd_X11_waitsNow ⟨Nat.le_of_ble_eq_true rfl, Nat.le_of_ble_eq_true rfl⟩) hK hP (rfl) rfl rfl hl.1 rfl (Nat.le_of_ble_eq_true rfl) dX11_waits_11 ⟨Nat.zero_le _, Nat.zero_le _⟩ ?_
    refine lv_goto (tgt := 22) hx hb dX11_waits_14 (by decide) ?_
    exact W.lret (v := o6) hx hb hr (fun t ht hW => ⟨_, rfl, Option.some.inj h, ht⟩) (fun q hq => by cases hq) dX11_waits_22
set_option maxHeartbeats 4000000 in
set_option maxRecDepth 100000 in
theorem c_X11_waits {N : Nat} (l : Launch) (D : va_G) (k : Nat → ClassId) (a : Nat → Nat) (mSizes : Nat → Int32) (mSigns : Nat → Int32) (mOdds : Int32) (mPat : Int32) (mTyped : Int32) (mText : Nat → Int32) (mAt : Int32) (mFault : Int32) (mTests : Int32) (mTN : Nat → Int32) (mTS : Nat → Int32) (mTV : Nat → Int32) (mTB : Nat → Int32) (mRead : Int32) (mUns : Nat → Int32) (mUM : Int32) (mBA : Int32) (mBH : Int32) (mThere : Nat → Int32) (mTypes : Nat → Int32) (mHeld : Nat → Int32) (mItems : Nat → Int32) (mMoved : Nat → Int32) (mFind : Int32) (x1 : Int32) {o : Int64} (h : f_X11_waits N x1 mOdds mPat = some o) : mRl l yX11_waits wo_X11_waits 4 D k [.ref (a 0), .int x1] (wM k a mSizes mSigns mOdds mPat mTyped mText mAt mFault mTests mTN mTS mTV mTB mRead mUns mUM mBA mBH mThere mTypes mHeld mItems mMoved mFind) o := by
  refine Met.ofW (cc := cX11_waits) (maxL := 2) (ret := some .long) (by decide) rfl ?_
  intro p e s m args below meth c s₁ B hml hv
  obtain ⟨rfl, hP, hK⟩ := hv
  rw [lg_entry_eq]
  exact core_X11_waits D k a mSizes mSigns mOdds mPat mTyped mText mAt mFault mTests mTN mTS mTV mTB mRead mUns mUM mBA mBH mThere mTypes mHeld mItems mMoved mFind x1 B.exec B.bytes hml B.returns (atoms_spec (ws := wo_X11_waits) B.pre) (findClass_of_methodNamed B.named) B.notSynchronized (lv_entry [.ref (a 0), .int x1] (n := 2) (Nat.le_of_ble_eq_true rfl)) hK hP h
theorem qd_X11_waits : yX11_waits.cls = RX11 ∧ yX11_waits.cls ≠ "java/lang/invoke/MethodHandle" ∧ yX11_waits.cls ≠ "java/lang/invoke/VarHandle" ∧ (parseMethodDescriptor yX11_waits.desc).map (fun d => d.parameters.length) = some 1 := by decide +kernel
abbrev wo_X11_stands : List Cond := .code yX11_stands cX11_stands 5 (some .boolean) :: wsL_law
set_option maxHeartbeats 4000000 in
set_option maxRecDepth 100000 in
theorem core_X11_stands {N : Nat} (x0 : Int32) (x1 : Int32) {p : Program} {l : Launch} {e : Env} {s : State} {m : MethodId} {args : Array Value} {below : List Frame} {meth : Method} {c : Code} {ls : Array Slot} (hx : p.tables.exec = Jvm.exec) (hb : c.code = cX11_stands) (hml : c.maxLocals = 5) (hr : meth.sig.returnType = some .boolean) (hts : ∀ w ∈ wo_X11_stands, w.before args s = true) (hown : s.vm.findClass RX11 = some m.cls) (hlocks : meth.locks = false) (hl : lv_has ls 5 [(0, .int x0), (1, .int x1)]) {o : Int32} (h : f_X11_stands N x0 x1 = some o) : gRi p l e wo_X11_stands 1 s m args below meth c o (F0 m 0 ls []) := by
  unfold f_X11_stands at h
  have L13 : ∀ (n13 : Nat) (x0 : Int32) (x1 : Int32) (x2 : Int32) (x3 : Int32) (x4 : Int32) (ls : Array Slot) (hl : lv_has ls 5 [(0, .int x0), (1, .int x1), (2, .int x2), (3, .int x3), (4, .int x4)]) (h : f_X11_stands_13 N n13 x0 x1 x2 x3 x4 = some o), gRi p l e wo_X11_stands 1 s m args below meth c o (F0 m 13 ls []) := by
    intro n13
    induction n13 with
    | zero => intro x0 x1 x2 x3 x4 ls hl h; cases (show (none : Option (Int32)) = some o from h)
    | succ n13 ih13 =>
      intro x0 x1 x2 x3 x4 ls hl h
      rw [f_X11_stands_13] at h
      refine lv_iload hx hb dX11_stands_13 (lv_at hl 4 rfl) ?_
      refine lv_iload_n hx hb dX11_stands_15 rfl (lv_at hl 2 rfl) ?_
      refine lv_iadd hx hb dX11_stands_16 ?_
      refine lv_iload_n hx hb dX11_stands_17 rfl (lv_at hl 3 rfl) ?_
      refine lv_icmp_gt (tgt := 53) hx hb dX11_stands_18 (by decide) (fun c1 => ?_) (fun c1 => ?_)
      · replace h := (if_pos c1).symm.trans h
        refine lv_iconst (v := 0) hx hb dX11_stands_53 (by decide) ?_
        exact W.zret (v := 0) hx hb hr rfl (fun t ht hW => ⟨_, rfl, Option.some.inj h, ht⟩) (fun q hq => by cases hq) dX11_stands_54
      · replace h := (if_neg c1).symm.trans h
        refine lv_iload_n hx hb dX11_stands_21 rfl (lv_at hl 1 rfl) ?_
        refine lv_iload_n hx hb dX11_stands_22 rfl (lv_at hl 3 rfl) ?_
        refine lv_iload_n hx hb dX11_stands_23 rfl (lv_at hl 2 rfl) ?_
        refine lv_isub hx hb dX11_stands_24 ?_
        refine lv_iload hx hb dX11_stands_25 (lv_at hl 4 rfl) ?_
        refine lv_isub hx hb dX11_stands_27 ?_
        refine lv_ishr hx hb dX11_stands_28 ?_
        refine lv_iconst (v := 1) hx hb dX11_stands_29 (by decide) ?_
        refine lv_iload_n hx hb dX11_stands_30 rfl (lv_at hl 2 rfl) ?_
        refine lv_ishl hx hb dX11_stands_31 ?_
        refine lv_iconst (v := 1) hx hb dX11_stands_32 (by decide) ?_
        refine lv_isub hx hb dX11_stands_33 ?_
        refine lv_iand hx hb dX11_stands_34 ?_
        refine lv_iload_n hx hb dX11_stands_35 rfl (lv_at hl 0 rfl) ?_
        refine lv_iconst (v := 1) hx hb dX11_stands_36 (by decide) ?_
        refine lv_iload_n hx hb dX11_stands_37 rfl (lv_at hl 2 rfl) ?_
        refine lv_ishl hx hb dX11_stands_38 ?_
        refine lv_iconst (v := 1) hx hb dX11_stands_39 (by decide) ?_
        refine lv_isub hx hb dX11_stands_40 ?_
        refine lv_iand hx hb dX11_stands_41 ?_
        refine lv_icmp_ne (tgt := 47) hx hb dX11_stands_42 (by decide) (fun c2 => ?_) (fun c2 => ?_)
        · replace h := (if_neg c2).symm.trans h
          refine lv_iinc (v := (x4 + 1)) (lv' := [(4, .int (x4 + 1)), (0, .int x0), (1, .int x1), (2, .int x2), (3, .int x3)]) hx hb dX11_stands_47 hl (k := 4) rfl rfl (by decide) rfl (fun ls hl => ?_)
          refine lv_goto (tgt := 13) hx hb dX11_stands_50 (by decide) ?_
          exact ih13 x0 x1 x2 x3 (x4 + 1) ls (lv_sub hl [1, 2, 3, 4, 0] rfl) h
        · replace h := (if_pos c2).symm.trans h
          refine lv_iconst (v := 1) hx hb dX11_stands_45 (by decide) ?_
          exact W.zret (v := 1) hx hb hr rfl (fun t ht hW => ⟨_, rfl, Option.some.inj h, ht⟩) (fun q hq => by cases hq) dX11_stands_46
  refine lv_iload_n hx hb dX11_stands_0 rfl (lv_at hl 0 rfl) ?_
  obtain ⟨o3, eq4, h⟩ := bnd_some h
  refine kPi (rest := []) ⟨hx, hb, hml, hown, hts⟩ (c_X11_lengthOf l x0 eq4) (va_cwS 1 hts (gAS wm_260 wm_261 wm_5 wm_262) rfl rfl rfl qd_X11_lengthOf ⟨Nat.le_of_ble_eq_true rfl, Nat.le_of_ble_eq_true rfl⟩) rfl hl.1 rfl (Nat.le_of_ble_eq_true rfl) dX11_stands_1 ⟨Nat.zero_le _, Nat.zero_le _⟩ ?_
  refine lv_istore_n (lv' := [(2, .int o3), (0, .int x0), (1, .int x1)]) hx hb dX11_stands_4 rfl hl (by decide) rfl (fun ls hl => ?_)
  refine lv_iload_n hx hb dX11_stands_5 rfl (lv_at hl 2 rfl) ?_
  obtain ⟨o5, eq6, h⟩ := bnd_some h
  refine kPi (rest := []) ⟨hx, hb, hml, hown, hts⟩ (c_X11_lengthOf l x1 eq6) (va_cwS 1 hts (gAS wm_260 wm_261 wm_5 wm_262) rfl rfl rfl qd_X11_lengthOf ⟨Nat.le_of_ble_eq_true rfl, Nat.le_of_ble_eq_true rfl⟩) rfl hl.1 rfl (Nat.le_of_ble_eq_true rfl) dX11_stands_6 ⟨Nat.zero_le _, Nat.zero_le _⟩ ?_
  refine lv_istore_n (lv' := [(3, .int o5), (2, .int o3), (0, .int x0), (1, .int x1)]) hx hb dX11_stands_9 rfl hl (by decide) rfl (fun ls hl => ?_)
  refine lv_iconst (v := 0) hx hb dX11_stands_10 (by decide) ?_
  refine lv_istore (lv' := [(4, .int 0), (3, .int o5), (2, .int o3), (0, .int x0), (1, .int x1)]) hx hb dX11_stands_11 hl (by decide) rfl (fun ls hl => ?_)
  exact L13 N x0 x1 o3 o5 0 ls (lv_sub hl [3, 4, 2, 1, 0] rfl) h
set_option maxHeartbeats 4000000 in
set_option maxRecDepth 100000 in
theorem c_X11_stands {N : Nat} (l : Launch) (x0 : Int32) (x1 : Int32) {o : Int32} (h : f_X11_stands N x0 x1 = some o) : mPi l yX11_stands wo_X11_stands 1 [.int x0, .int x1] o := by
  refine Met.ofW (cc := cX11_stands) (maxL := 5) (ret := some .boolean) (by decide) rfl ?_
  intro p e s m args below meth c s₁ B hml hv
  obtain ⟨rfl, -⟩ := hv
  rw [lg_entry_eq]
  exact core_X11_stands x0 x1 B.exec B.bytes hml B.returns (atoms_spec (ws := wo_X11_stands) B.pre) (findClass_of_methodNamed B.named) B.notSynchronized (lv_entry [.int x0, .int x1] (n := 5) (Nat.le_of_ble_eq_true rfl)) h
theorem qd_X11_stands : yX11_stands.cls ≠ "java/lang/invoke/MethodHandle" ∧ yX11_stands.cls ≠ "java/lang/invoke/VarHandle" ∧ (parseMethodDescriptor yX11_stands.desc).map (fun d => d.parameters.length) = some 2 := by decide +kernel
abbrev wo_X11_first : List Cond := .code yX11_first cX11_first 12 (some .long) :: wsL_law
set_option maxHeartbeats 4000000 in
set_option maxRecDepth 100000 in
theorem core_X11_first {N : Nat} (D : va_G) (k : Nat → ClassId) (a : Nat → Nat) (mSizes : Nat → Int32) (mSigns : Nat → Int32) (mOdds : Int32) (mPat : Int32) (mTyped : Int32) (mText : Nat → Int32) (mAt : Int32) (mFault : Int32) (mTests : Int32) (mTN : Nat → Int32) (mTS : Nat → Int32) (mTV : Nat → Int32) (mTB : Nat → Int32) (mRead : Int32) (mUns : Nat → Int32) (mUM : Int32) (mBA : Int32) (mBH : Int32) (mThere : Nat → Int32) (mTypes : Nat → Int32) (mHeld : Nat → Int32) (mItems : Nat → Int32) (mMoved : Nat → Int32) (mFind : Int32) (x1 : Int32) (x2 : Int32) (x3 : Int32) {p : Program} {l : Launch} {e : Env} {s : State} {m : MethodId} {args : Array Value} {below : List Frame} {meth : Method} {c : Code} {ls : Array Slot} (hx : p.tables.exec = Jvm.exec) (hb : c.code = cX11_first) (hml : c.maxLocals = 12) (hr : meth.sig.returnType = some .long) (hts : ∀ w ∈ wo_X11_first, w.before args s = true) (hown : s.vm.findClass RX11 = some m.cls) (hlocks : meth.locks = false) (hl : lv_has ls 12 [(0, .ref (a 0)), (1, .int x1), (2, .int x2), (3, .int x3)]) (hK : va_K D vwCl (xTys k) s) (hP : va_P D vwCl (wM k a mSizes mSigns mOdds mPat mTyped mText mAt mFault mTests mTN mTS mTV mTB mRead mUns mUM mBA mBH mThere mTypes mHeld mItems mMoved mFind) s.heap) {o : Int64} (h : f_X11_first N x1 x2 x3 mOdds = some o) : gRl p l e wo_X11_first 3 s m args below meth c o (F0 m 0 ls []) := by
  unfold f_X11_first at h
  refine lv_iload_n hx hb dX11_first_0 rfl (lv_at hl 1 rfl) ?_
  refine lv_iconst (v := 2) hx hb dX11_first_1 (by decide) ?_
  refine lv_bipush (v := 31) hx hb dX11_first_2 (by decide) ?_
  obtain ⟨o1, eq2, h⟩ := bnd_some h
  refine kPi (rest := []) ⟨hx, hb, hml, hown, hts⟩ (c_X11_in l x1 2 31 eq2) (va_cwS 3 hts (gAS wm_120 wm_121 wm_5 wm_122) rfl rfl rfl qd_X11_in ⟨Nat.le_of_ble_eq_true rfl, Nat.le_of_ble_eq_true rfl⟩) rfl hl.1 rfl (Nat.le_of_ble_eq_true rfl) dX11_first_4 ⟨Nat.zero_le _, Nat.zero_le _⟩ ?_
  refine lv_if_eq (tgt := 29) hx hb dX11_first_7 (by decide) (fun c3 => ?_) (fun c3 => ?_)
  · replace h := (if_pos c3).symm.trans h
    refine lv_bipush (v := (-2)) hx hb dX11_first_29 (by decide) ?_
    obtain ⟨o4, eq5, h⟩ := bnd_some h
    refine kPl (rest := []) ⟨hx, hb, hml, hown, hts⟩ (c_X11_no l (-2) eq5) (va_cwS 1 hts (gAS wm_523 wm_524 wm_5 wm_525) rfl rfl rfl qd_X11_no ⟨Nat.le_of_ble_eq_true rfl, Nat.le_of_ble_eq_true rfl⟩) rfl hl.1 rfl (Nat.le_of_ble_eq_true rfl) dX11_first_31 ⟨Nat.zero_le _, Nat.zero_le _⟩ ?_
    exact W.lret (v := o4) hx hb hr (fun t ht hW => ⟨_, rfl, Option.some.inj h, ht⟩) (fun q hq => by cases hq) dX11_first_34
  · replace h := (if_neg c3).symm.trans h
    refine lv_iload_n hx hb dX11_first_10 rfl (lv_at hl 2 rfl) ?_
    refine lv_iconst (v := 2) hx hb dX11_first_11 (by decide) ?_
    refine lv_bipush (v := 31) hx hb dX11_first_12 (by decide) ?_
    obtain ⟨o6, eq7, h⟩ := bnd_some h
    refine kPi (rest := []) ⟨hx, hb, hml, hown, hts⟩ (c_X11_in l x2 2 31 eq7) (va_cwS 3 hts (gAS wm_120 wm_121 wm_5 wm_122) rfl rfl rfl qd_X11_in ⟨Nat.le_of_ble_eq_true rfl, Nat.le_of_ble_eq_true rfl⟩) rfl hl.1 rfl (Nat.le_of_ble_eq_true rfl) dX11_first_14 ⟨Nat.zero_le _, Nat.zero_le _⟩ ?_
    refine lv_if_eq (tgt := 29) hx hb dX11_first_17 (by decide) (fun c8 => ?_) (fun c8 => ?_)
    · replace h := (if_pos c8).symm.trans h
      refine lv_bipush (v := (-2)) hx hb dX11_first_29 (by decide) ?_
      obtain ⟨o9, eq10, h⟩ := bnd_some h
      refine kPl (rest := []) ⟨hx, hb, hml, hown, hts⟩ (c_X11_no l (-2) eq10) (va_cwS 1 hts (gAS wm_523 wm_524 wm_5 wm_525) rfl rfl rfl qd_X11_no ⟨Nat.le_of_ble_eq_true rfl, Nat.le_of_ble_eq_true rfl⟩) rfl hl.1 rfl (Nat.le_of_ble_eq_true rfl) dX11_first_31 ⟨Nat.zero_le _, Nat.zero_le _⟩ ?_
      exact W.lret (v := o9) hx hb hr (fun t ht hW => ⟨_, rfl, Option.some.inj h, ht⟩) (fun q hq => by cases hq) dX11_first_34
    · replace h := (if_neg c8).symm.trans h
      refine lv_iload_n hx hb dX11_first_20 rfl (lv_at hl 3 rfl) ?_
      refine lv_iconst (v := 0) hx hb dX11_first_21 (by decide) ?_
      refine lv_iconst (v := 1) hx hb dX11_first_22 (by decide) ?_
      obtain ⟨o11, eq12, h⟩ := bnd_some h
      refine kPi (rest := []) ⟨hx, hb, hml, hown, hts⟩ (c_X11_in l x3 0 1 eq12) (va_cwS 3 hts (gAS wm_120 wm_121 wm_5 wm_122) rfl rfl rfl qd_X11_in ⟨Nat.le_of_ble_eq_true rfl, Nat.le_of_ble_eq_true rfl⟩) rfl hl.1 rfl (Nat.le_of_ble_eq_true rfl) dX11_first_23 ⟨Nat.zero_le _, Nat.zero_le _⟩ ?_
      refine lv_if_ne (tgt := 35) hx hb dX11_first_26 (by decide) (fun c13 => ?_) (fun c13 => ?_)
      · replace h := (if_neg c13).symm.trans h
        refine lv_iload_n hx hb dX11_first_35 rfl (lv_at hl 1 rfl) ?_
        refine lv_iload_n hx hb dX11_first_36 rfl (lv_at hl 2 rfl) ?_
        obtain ⟨o14, eq15, h⟩ := bnd_some h
        refine kPi (rest := []) ⟨hx, hb, hml, hown, hts⟩ (c_X11_stands l x1 x2 eq15) (va_cwS 2 hts (gAS wm_715 wm_716 wm_5 wm_717) rfl rfl rfl qd_X11_stands ⟨Nat.le_of_ble_eq_true rfl, Nat.le_of_ble_eq_true rfl⟩) rfl hl.1 rfl (Nat.le_of_ble_eq_true rfl) dX11_first_37 ⟨Nat.zero_le _, Nat.zero_le _⟩ ?_
        refine lv_if_ne (tgt := 51) hx hb dX11_first_40 (by decide) (fun c16 => ?_) (fun c16 => ?_)
        · replace h := (if_neg c16).symm.trans h
          refine lv_bipush (v := (-3)) hx hb dX11_first_51 (by decide) ?_
          obtain ⟨o17, eq18, h⟩ := bnd_some h
          refine kPl (rest := []) ⟨hx, hb, hml, hown, hts⟩ (c_X11_no l (-3) eq18) (va_cwS 1 hts (gAS wm_523 wm_524 wm_5 wm_525) rfl rfl rfl qd_X11_no ⟨Nat.le_of_ble_eq_true rfl, Nat.le_of_ble_eq_true rfl⟩) rfl hl.1 rfl (Nat.le_of_ble_eq_true rfl) dX11_first_53 ⟨Nat.zero_le _, Nat.zero_le _⟩ ?_
          exact W.lret (v := o17) hx hb hr (fun t ht hW => ⟨_, rfl, Option.some.inj h, ht⟩) (fun q hq => by cases hq) dX11_first_56
        · replace h := (if_pos c16).symm.trans h
          refine lv_iload_n hx hb dX11_first_43 rfl (lv_at hl 2 rfl) ?_
          refine lv_iload_n hx hb dX11_first_44 rfl (lv_at hl 1 rfl) ?_
          obtain ⟨o19, eq20, h⟩ := bnd_some h
          refine kPi (rest := []) ⟨hx, hb, hml, hown, hts⟩ (c_X11_stands l x2 x1 eq20) (va_cwS 2 hts (gAS wm_715 wm_716 wm_5 wm_717) rfl rfl rfl qd_X11_stands ⟨Nat.le_of_ble_eq_true rfl, Nat.le_of_ble_eq_true rfl⟩) rfl hl.1 rfl (Nat.le_of_ble_eq_true rfl) dX11_first_45 ⟨Nat.zero_le _, Nat.zero_le _⟩ ?_
          refine lv_if_eq (tgt := 57) hx hb dX11_first_48 (by decide) (fun c21 => ?_) (fun c21 => ?_)
          · replace h := (if_pos c21).symm.trans h
            refine lv_aload_n hx hb dX11_first_57 rfl (lv_at hl 0 rfl) ?_
            refine lv_iload_n hx hb dX11_first_58 rfl (lv_at hl 1 rfl) ?_
            refine lv_iload_n hx hb dX11_first_59 rfl (lv_at hl 1 rfl) ?_
            obtain ⟨o22, eq23, h⟩ := bnd_some h
            refine kPi (rest := [.int x1, .ref (a 0)]) ⟨hx, hb, hml, hown, hts⟩ (c_X11_lengthOf l x1 eq23) (va_cwS 1 hts (gAS wm_260 wm_261 wm_5 wm_262) rfl rfl rfl qd_X11_lengthOf ⟨Nat.le_of_ble_eq_true rfl, Nat.le_of_ble_eq_true rfl⟩) rfl hl.1 rfl (Nat.le_of_ble_eq_true rfl) dX11_first_60 ⟨Nat.zero_le _, Nat.zero_le _⟩ ?_
            obtain ⟨o24, eq25, h⟩ := bnd_some h
            refine kRlV (rest := []) (q0 := 0) ⟨hx, hb, hml, hown, hts⟩ (c_X11_oddsOf l D k a mSizes mSigns mOdds mPat mTyped mText mAt mFault mTests mTN mTS mTV mTB mRead mUns mUM mBA mBH mThere mTypes mHeld mItems mMoved mFind x1 o22 eq25) (cwV 2 hts (gAV wm_696 wm_697 wm_698 wm_5 wm_699) rfl rfl rfl qd_X11_oddsOf ⟨Nat.le_of_ble_eq_true rfl, Nat.le_of_ble_eq_true rfl⟩) hK hP (rfl) rfl rfl hl.1 rfl (Nat.le_of_ble_eq_true rfl) dX11_first_63 ⟨Nat.zero_le _, Nat.zero_le _⟩ ?_
            refine lv_lstore (lv' := [(4, .long o24), (0, .ref (a 0)), (1, .int x1), (2, .int x2), (3, .int x3)]) hx hb dX11_first_66 hl (by decide) rfl (fun ls hl => ?_)
            refine lv_aload_n hx hb dX11_first_68 rfl (lv_at hl 1 rfl) ?_
            refine lv_iload_n hx hb dX11_first_69 rfl (lv_at hl 3 rfl) ?_
            refine lv_iload_n hx hb dX11_first_70 rfl (lv_at hl 3 rfl) ?_
            obtain ⟨o26, eq27, h⟩ := bnd_some h
            refine kPi (rest := [.int x2, .ref (a 0)]) ⟨hx, hb, hml, hown, hts⟩ (c_X11_lengthOf l x2 eq27) (va_cwS 1 hts (gAS wm_260 wm_261 wm_5 wm_262) rfl rfl rfl qd_X11_lengthOf ⟨Nat.le_of_ble_eq_true rfl, Nat.le_of_ble_eq_true rfl⟩) rfl hl.1 rfl (Nat.le_of_ble_eq_true rfl) dX11_first_71 ⟨Nat.zero_le _, Nat.zero_le _⟩ ?_
            obtain ⟨o28, eq29, h⟩ := bnd_some h
            refine kRlV (rest := []) (q0 := 0) ⟨hx, hb, hml, hown, hts⟩ (c_X11_oddsOf l D k a mSizes mSigns mOdds mPat mTyped mText mAt mFault mTests mTN mTS mTV mTB mRead mUns mUM mBA mBH mThere mTypes mHeld mItems mMoved mFind x2 o26 eq29) (cwV 2 hts (gAV wm_696 wm_697 wm_698 wm_5 wm_699) rfl rfl rfl qd_X11_oddsOf ⟨Nat.le_of_ble_eq_true rfl, Nat.le_of_ble_eq_true rfl⟩) hK hP (rfl) rfl rfl hl.1 rfl (Nat.le_of_ble_eq_true rfl) dX11_first_74 ⟨Nat.zero_le _, Nat.zero_le _⟩ ?_
            refine lv_lstore (lv' := [(6, .long o28), (4, .long o24), (0, .ref (a 0)), (1, .int x1), (2, .int x2), (3, .int x3)]) hx hb dX11_first_77 hl (by decide) rfl (fun ls hl => ?_)
            refine lv_aload_n hx hb dX11_first_79 rfl (lv_at hl 2 rfl) ?_
            refine lv_iload_n hx hb dX11_first_80 rfl (lv_at hl 4 rfl) ?_
            refine lv_iload_n hx hb dX11_first_81 rfl (lv_at hl 4 rfl) ?_
            obtain ⟨o30, eq31, h⟩ := bnd_some h
            refine kRlV (rest := []) (q0 := 0) ⟨hx, hb, hml, hown, hts⟩ (c_X11_lead l D k a mSizes mSigns mOdds mPat mTyped mText mAt mFault mTests mTN mTS mTV mTB mRead mUns mUM mBA mBH mThere mTypes mHeld mItems mMoved mFind x2 x2 eq31) (cwV 2 hts (gAV wm_689 wm_690 wm_691 wm_5 wm_692) rfl rfl rfl qd_X11_lead ⟨Nat.le_of_ble_eq_true rfl, Nat.le_of_ble_eq_true rfl⟩) hK hP (rfl) rfl rfl hl.1 rfl (Nat.le_of_ble_eq_true rfl) dX11_first_82 ⟨Nat.zero_le _, Nat.zero_le _⟩ ?_
            refine lv_lload hx hb dX11_first_85 (lv_at hl 1 rfl) ?_
            refine lv_lmul hx hb dX11_first_87 ?_
            refine lv_aload_n hx hb dX11_first_88 rfl (lv_at hl 2 rfl) ?_
            refine lv_iload_n hx hb dX11_first_89 rfl (lv_at hl 4 rfl) ?_
            refine lv_iload_n hx hb dX11_first_90 rfl (lv_at hl 3 rfl) ?_
            obtain ⟨o32, eq33, h⟩ := bnd_some h
            refine kRlV (rest := [.long (o30 * o24)]) (q0 := 0) ⟨hx, hb, hml, hown, hts⟩ (c_X11_lead l D k a mSizes mSigns mOdds mPat mTyped mText mAt mFault mTests mTN mTS mTV mTB mRead mUns mUM mBA mBH mThere mTypes mHeld mItems mMoved mFind x2 x1 eq33) (cwV 2 hts (gAV wm_689 wm_690 wm_691 wm_5 wm_692) rfl rfl rfl qd_X11_lead ⟨Nat.le_of_ble_eq_true rfl, Nat.le_of_ble_eq_true rfl⟩) hK hP (rfl) rfl rfl hl.1 rfl (Nat.le_of_ble_eq_true rfl) dX11_first_91 ⟨Nat.zero_le _, Nat.zero_le _⟩ ?_
            refine lv_lload hx hb dX11_first_94 (lv_at hl 0 rfl) ?_
            refine lv_lmul hx hb dX11_first_96 ?_
            refine lv_lsub hx hb dX11_first_97 ?_
            refine lv_lstore (lv' := [(8, .long ((o30 * o24) - (o32 * o28))), (6, .long o28), (4, .long o24), (0, .ref (a 0)), (1, .int x1), (2, .int x2), (3, .int x3)]) hx hb dX11_first_98 hl (by decide) rfl (fun ls hl => ?_)
            refine lv_aload_n hx hb dX11_first_100 rfl (lv_at hl 3 rfl) ?_
            refine lv_iload_n hx hb dX11_first_101 rfl (lv_at hl 4 rfl) ?_
            refine lv_iload_n hx hb dX11_first_102 rfl (lv_at hl 4 rfl) ?_
            obtain ⟨o34, eq35, h⟩ := bnd_some h
            refine kRlV (rest := []) (q0 := 0) ⟨hx, hb, hml, hown, hts⟩ (c_X11_lead l D k a mSizes mSigns mOdds mPat mTyped mText mAt mFault mTests mTN mTS mTV mTB mRead mUns mUM mBA mBH mThere mTypes mHeld mItems mMoved mFind x1 x1 eq35) (cwV 2 hts (gAV wm_689 wm_690 wm_691 wm_5 wm_692) rfl rfl rfl qd_X11_lead ⟨Nat.le_of_ble_eq_true rfl, Nat.le_of_ble_eq_true rfl⟩) hK hP (rfl) rfl rfl hl.1 rfl (Nat.le_of_ble_eq_true rfl) dX11_first_103 ⟨Nat.zero_le _, Nat.zero_le _⟩ ?_
            refine lv_lload hx hb dX11_first_106 (lv_at hl 1 rfl) ?_
            refine lv_lmul hx hb dX11_first_108 ?_
            refine lv_aload_n hx hb dX11_first_109 rfl (lv_at hl 3 rfl) ?_
            refine lv_iload_n hx hb dX11_first_110 rfl (lv_at hl 4 rfl) ?_
            refine lv_iload_n hx hb dX11_first_111 rfl (lv_at hl 5 rfl) ?_
            obtain ⟨o36, eq37, h⟩ := bnd_some h
            refine kRlV (rest := [.long (o34 * o28)]) (q0 := 0) ⟨hx, hb, hml, hown, hts⟩ (c_X11_lead l D k a mSizes mSigns mOdds mPat mTyped mText mAt mFault mTests mTN mTS mTV mTB mRead mUns mUM mBA mBH mThere mTypes mHeld mItems mMoved mFind x1 x2 eq37) (cwV 2 hts (gAV wm_689 wm_690 wm_691 wm_5 wm_692) rfl rfl rfl qd_X11_lead ⟨Nat.le_of_ble_eq_true rfl, Nat.le_of_ble_eq_true rfl⟩) hK hP (rfl) rfl rfl hl.1 rfl (Nat.le_of_ble_eq_true rfl) dX11_first_112 ⟨Nat.zero_le _, Nat.zero_le _⟩ ?_
            refine lv_lload hx hb dX11_first_115 (lv_at hl 2 rfl) ?_
            refine lv_lmul hx hb dX11_first_117 ?_
            refine lv_lsub hx hb dX11_first_118 ?_
            refine lv_lstore (lv' := [(10, .long ((o34 * o28) - (o36 * o24))), (8, .long ((o30 * o24) - (o32 * o28))), (6, .long o28), (4, .long o24), (0, .ref (a 0)), (1, .int x1), (2, .int x2), (3, .int x3)]) hx hb dX11_first_119 hl (by decide) rfl (fun ls hl => ?_)
            refine lv_lload hx hb dX11_first_121 (lv_at hl 1 rfl) ?_
            refine lv_lload hx hb dX11_first_123 (lv_at hl 1 rfl) ?_
            refine lv_lload hx hb dX11_first_125 (lv_at hl 0 rfl) ?_
            refine lv_ladd hx hb dX11_first_127 ?_
            refine lv_iload_n hx hb dX11_first_128 rfl (lv_at hl 7 rfl) ?_
            obtain ⟨o38, eq39, h⟩ := bnd_some h
            refine kPl (rest := []) ⟨hx, hb, hml, hown, hts⟩ (c_X11_lowest l ((o30 * o24) - (o32 * o28)) (((o30 * o24) - (o32 * o28)) + ((o34 * o28) - (o36 * o24))) x3 eq39) (va_cwS 3 hts (gAS wm_530 wm_531 wm_5 wm_532) rfl rfl rfl qd_X11_lowest ⟨Nat.le_of_ble_eq_true rfl, Nat.le_of_ble_eq_true rfl⟩) rfl hl.1 rfl (Nat.le_of_ble_eq_true rfl) dX11_first_129 ⟨Nat.zero_le _, Nat.zero_le _⟩ ?_
            exact W.lret (v := o38) hx hb hr (fun t ht hW => ⟨_, rfl, Option.some.inj h, ht⟩) (fun q hq => by cases hq) dX11_first_132
          · replace h := (if_neg c21).symm.trans h
            refine lv_bipush (v := (-3)) hx hb dX11_first_51 (by decide) ?_
            obtain ⟨o40, eq41, h⟩ := bnd_some h
            refine kPl (rest := []) ⟨hx, hb, hml, hown, hts⟩ (c_X11_no l (-3) eq41) (va_cwS 1 hts (gAS wm_523 wm_524 wm_5 wm_525) rfl rfl rfl qd_X11_no ⟨Nat.le_of_ble_eq_true rfl, Nat.le_of_ble_eq_true rfl⟩) rfl hl.1 rfl (Nat.le_of_ble_eq_true rfl) dX11_first_53 ⟨Nat.zero_le _, Nat.zero_le _⟩ ?_
            exact W.lret (v := o40) hx hb hr (fun t ht hW => ⟨_, rfl, Option.some.inj h, ht⟩) (fun q hq => by cases hq) dX11_first_56
      · replace h := (if_pos c13).symm.trans h
        refine lv_bipush (v := (-2)) hx hb dX11_first_29 (by decide) ?_
        obtain ⟨o42, eq43, h⟩ := bnd_some h
        refine kPl (rest := []) ⟨hx, hb, hml, hown, hts⟩ (c_X11_no l (-2) eq43) (va_cwS 1 hts (gAS wm_523 wm_524 wm_5 wm_525) rfl rfl rfl qd_X11_no ⟨Nat.le_of_ble_eq_true rfl, Nat.le_of_ble_eq_true rfl⟩) rfl hl.1 rfl (Nat.le_of_ble_eq_true rfl) dX11_first_31 ⟨Nat.zero_le _, Nat.zero_le _⟩ ?_
        exact W.lret (v := o42) hx hb hr (fun t ht hW => ⟨_, rfl, Option.some.inj h, ht⟩) (fun q hq => by cases hq) dX11_first_34
set_option maxHeartbeats 4000000 in
set_option maxRecDepth 100000 in
theorem c_X11_first {N : Nat} (l : Launch) (D : va_G) (k : Nat → ClassId) (a : Nat → Nat) (mSizes : Nat → Int32) (mSigns : Nat → Int32) (mOdds : Int32) (mPat : Int32) (mTyped : Int32) (mText : Nat → Int32) (mAt : Int32) (mFault : Int32) (mTests : Int32) (mTN : Nat → Int32) (mTS : Nat → Int32) (mTV : Nat → Int32) (mTB : Nat → Int32) (mRead : Int32) (mUns : Nat → Int32) (mUM : Int32) (mBA : Int32) (mBH : Int32) (mThere : Nat → Int32) (mTypes : Nat → Int32) (mHeld : Nat → Int32) (mItems : Nat → Int32) (mMoved : Nat → Int32) (mFind : Int32) (x1 : Int32) (x2 : Int32) (x3 : Int32) {o : Int64} (h : f_X11_first N x1 x2 x3 mOdds = some o) : mRl l yX11_first wo_X11_first 3 D k [.ref (a 0), .int x1, .int x2, .int x3] (wM k a mSizes mSigns mOdds mPat mTyped mText mAt mFault mTests mTN mTS mTV mTB mRead mUns mUM mBA mBH mThere mTypes mHeld mItems mMoved mFind) o := by
  refine Met.ofW (cc := cX11_first) (maxL := 12) (ret := some .long) (by decide) rfl ?_
  intro p e s m args below meth c s₁ B hml hv
  obtain ⟨rfl, hP, hK⟩ := hv
  rw [lg_entry_eq]
  exact core_X11_first D k a mSizes mSigns mOdds mPat mTyped mText mAt mFault mTests mTN mTS mTV mTB mRead mUns mUM mBA mBH mThere mTypes mHeld mItems mMoved mFind x1 x2 x3 B.exec B.bytes hml B.returns (atoms_spec (ws := wo_X11_first) B.pre) (findClass_of_methodNamed B.named) B.notSynchronized (lv_entry [.ref (a 0), .int x1, .int x2, .int x3] (n := 12) (Nat.le_of_ble_eq_true rfl)) hK hP h
theorem qd_X11_first : yX11_first.cls = RX11 ∧ yX11_first.cls ≠ "java/lang/invoke/MethodHandle" ∧ yX11_first.cls ≠ "java/lang/invoke/VarHandle" ∧ (parseMethodDescriptor yX11_first.desc).map (fun d => d.parameters.length) = some 3 := by decide +kernel
abbrev wo_X11_agree : List Cond := .code yX11_agree cX11_agree 10 (some .int) :: wsL_law
set_option maxHeartbeats 4000000 in
set_option maxRecDepth 100000 in
theorem core_X11_agree {N : Nat} (D : va_G) (k : Nat → ClassId) (a : Nat → Nat) (mSizes : Nat → Int32) (mSigns : Nat → Int32) (mOdds : Int32) (mPat : Int32) (mTyped : Int32) (mText : Nat → Int32) (mAt : Int32) (mFault : Int32) (mTests : Int32) (mTN : Nat → Int32) (mTS : Nat → Int32) (mTV : Nat → Int32) (mTB : Nat → Int32) (mRead : Int32) (mUns : Nat → Int32) (mUM : Int32) (mBA : Int32) (mBH : Int32) (mThere : Nat → Int32) (mTypes : Nat → Int32) (mHeld : Nat → Int32) (mItems : Nat → Int32) (mMoved : Nat → Int32) (mFind : Int32) (x1 : Int32) (x2 : Int32) (x3 : Int32) {p : Program} {l : Launch} {e : Env} {s : State} {m : MethodId} {args : Array Value} {below : List Frame} {meth : Method} {c : Code} {ls : Array Slot} (hx : p.tables.exec = Jvm.exec) (hb : c.code = cX11_agree) (hml : c.maxLocals = 10) (hr : meth.sig.returnType = some .int) (hts : ∀ w ∈ wo_X11_agree, w.before args s = true) (hown : s.vm.findClass RX11 = some m.cls) (hlocks : meth.locks = false) (hl : lv_has ls 10 [(0, .ref (a 0)), (1, .int x1), (2, .int x2), (3, .int x3)]) (hK : va_K D vwCl (xTys k) s) (hP : va_P D vwCl (wM k a mSizes mSigns mOdds mPat mTyped mText mAt mFault mTests mTN mTS mTV mTB mRead mUns mUM mBA mBH mThere mTypes mHeld mItems mMoved mFind) s.heap) {o : Int32} (h : f_X11_agree N x1 x2 x3 mSizes mSigns = some o) : gRi p l e wo_X11_agree 2 s m args below meth c o (F0 m 0 ls []) := by
  have kc165 := hts _ (List.mem_cons_of_mem _ wm_611)
  have hi11 := (fun w h => List.mem_cons_of_mem _ (inlX11 w h) : ∀ w ∈ wsX110, w ∈ wo_X11_agree)
  have kf7 := hts _ (List.mem_cons_of_mem _ wm_72)
  unfold f_X11_agree at h
  have L109 : ∀ (n109 : Nat) (x2 : Int32) (x4 : Int32) (x5 : Int32) (x6 : Int32) (x7 : Int32) (x8 : Int32) (x9 : Int32) (ls : Array Slot) (hl : lv_has ls 10 [(0, .ref (a 0)), (2, .int x2), (4, .int x4), (5, .int x5), (6, .int x6), (7, .int x7), (8, .int x8), (9, .int x9)]) (h : f_X11_agree_109 N n109 x2 x4 x5 x6 x7 x8 x9 mSizes mSigns = some o), gRi p l e wo_X11_agree 2 s m args below meth c o (F0 m 109 ls []) := by
    intro n109
    induction n109 with
    | zero => intro x2 x4 x5 x6 x7 x8 x9 ls hl h; cases (show (none : Option (Int32)) = some o from h)
    | succ n109 ih109 =>
      have J154 : ∀ (x2 : Int32) (x4 : Int32) (x5 : Int32) (x6 : Int32) (x7 : Int32) (x9 : Int32) (s0 : Int32) (s1 : Int32) (ls : Array Slot) (hl : lv_has ls 10 [(0, .ref (a 0)), (2, .int x2), (4, .int x4), (5, .int x5), (6, .int x6), (7, .int x7), (9, .int x9)]) (h : f_X11_agree_154 N (fun y0 y1 y2 y3 y4 y5 y6 y7 y8 => f_X11_agree_109 N n109 y0 y1 y2 y3 y4 y5 y6 y7 y8) x2 x4 x5 x6 x7 x9 s0 s1 mSizes mSigns = some o), gRi p l e wo_X11_agree 2 s m args below meth c o (F0 m 154 ls [.int s1, .int s0]) := by
        intro x2 x4 x5 x6 x7 x9 s0 s1 ls hl h
        unfold f_X11_agree_154 at h
        refine lv_iadd hx hb dX11_agree_154 ?_
        refine lv_istore (lv' := [(8, .int (s0 + s1)), (0, .ref (a 0)), (2, .int x2), (4, .int x4), (5, .int x5), (6, .int x6), (7, .int x7), (9, .int x9)]) hx hb dX11_agree_155 hl (by decide) rfl (fun ls hl => ?_)
        refine lv_iinc (v := (x9 + 1)) (lv' := [(9, .int (x9 + 1)), (8, .int (s0 + s1)), (0, .ref (a 0)), (2, .int x2), (4, .int x4), (5, .int x5), (6, .int x6), (7, .int x7)]) hx hb dX11_agree_157 hl (k := 7) rfl rfl (by decide) rfl (fun ls hl => ?_)
        refine lv_goto (tgt := 109) hx hb dX11_agree_160 (by decide) ?_
        exact ih109 x2 x4 x5 x6 x7 (s0 + s1) (x9 + 1) ls (lv_sub hl [2, 3, 4, 5, 6, 7, 1, 0] rfl) h
      have J153 : ∀ (x2 : Int32) (x4 : Int32) (x5 : Int32) (x6 : Int32) (x7 : Int32) (x9 : Int32) (s0 : Int32) (ls : Array Slot) (hl : lv_has ls 10 [(0, .ref (a 0)), (2, .int x2), (4, .int x4), (5, .int x5), (6, .int x6), (7, .int x7), (9, .int x9)]) (h : f_X11_agree_153 N (fun y0 y1 y2 y3 y4 y5 y6 y7 y8 => f_X11_agree_109 N n109 y0 y1 y2 y3 y4 y5 y6 y7 y8) x2 x4 x5 x6 x7 x9 s0 mSizes mSigns = some o), gRi p l e wo_X11_agree 2 s m args below meth c o (F0 m 153 ls [.int s0]) := by
        intro x2 x4 x5 x6 x7 x9 s0 ls hl h
        unfold f_X11_agree_153 at h
        refine lv_iconst (v := 0) hx hb dX11_agree_153 (by decide) ?_
        exact J154 x2 x4 x5 x6 x7 x9 s0 0 ls (lv_sub hl [0, 1, 2, 3, 4, 5, 6] rfl) h
      intro x2 x4 x5 x6 x7 x8 x9 ls hl h
      rw [f_X11_agree_109] at h
      refine lv_iload hx hb dX11_agree_109 (lv_at hl 7 rfl) ?_
      refine lv_iconst (v := 1) hx hb dX11_agree_111 (by decide) ?_
      refine lv_iload hx hb dX11_agree_112 (lv_at hl 2 rfl) ?_
      refine lv_ishl hx hb dX11_agree_114 ?_
      refine lv_icmp_ge (tgt := 163) hx hb dX11_agree_115 (by decide) (fun c1 => ?_) (fun c1 => ?_)
      · replace h := (if_pos c1).symm.trans h
        refine lv_ldc2 (v := 1000000) hx hb hown kc165 dX11_agree_163 ?_
        refine lv_iload hx hb dX11_agree_166 (lv_at hl 6 rfl) ?_
        refine lv_i2l (v := x8.toInt64) hx hb dX11_agree_168 rfl ?_
        refine lv_lmul hx hb dX11_agree_169 ?_
        refine lv_aload_n hx hb dX11_agree_170 rfl (lv_at hl 0 rfl) ?_
        refine lv_iload_n hx hb dX11_agree_171 rfl (lv_at hl 1 rfl) ?_
        obtain ⟨o2, eq3, h⟩ := bnd_some h
        refine kRlV (rest := [.long ((1000000 : Int64) * x8.toInt64)]) (q0 := 0) ⟨hx, hb, hml, hown, hts⟩ (c_X11_dealtAll l D k a mSizes mSigns mOdds mPat mTyped mText mAt mFault mTests mTN mTS mTV mTB mRead mUns mUM mBA mBH mThere mTypes mHeld mItems mMoved mFind x2 eq3) (cwV 1 hts (gAV wm_616 wm_617 wm_618 wm_5 wm_619) rfl rfl rfl qd_X11_dealtAll ⟨Nat.le_of_ble_eq_true rfl, Nat.le_of_ble_eq_true rfl⟩) hK hP (rfl) rfl rfl hl.1 rfl (Nat.le_of_ble_eq_true rfl) dX11_agree_172 ⟨Nat.zero_le _, Nat.zero_le _⟩ ?_
        obtain ⟨g4, h⟩ := gNeL_some h
        refine lv_ldiv hx hb dX11_agree_175 g4 ?_
        refine lv_l2i (v := (((1000000 : Int64) * x8.toInt64) / o2).toInt32) hx hb dX11_agree_176 rfl ?_
        exact W.iret (v := (((1000000 : Int64) * x8.toInt64) / o2).toInt32) hx hb hr (fun t ht hW => ⟨_, rfl, Option.some.inj h, ht⟩) (fun q hq => by cases hq) dX11_agree_177
      · replace h := (if_neg c1).symm.trans h
        refine lv_iload hx hb dX11_agree_118 (lv_at hl 6 rfl) ?_
        refine lv_iload hx hb dX11_agree_120 (lv_at hl 7 rfl) ?_
        obtain ⟨o5, eq6, h⟩ := bnd_some h
        refine kPi (rest := [.int x8]) ⟨hx, hb, hml, hown, hts⟩ (c_X11_ones l x9 eq6) (va_cwS 1 hts (gAS wm_253 wm_254 wm_5 wm_255) rfl rfl rfl qd_X11_ones ⟨Nat.le_of_ble_eq_true rfl, Nat.le_of_ble_eq_true rfl⟩) rfl hl.1 rfl (Nat.le_of_ble_eq_true rfl) dX11_agree_122 ⟨Nat.zero_le _, Nat.zero_le _⟩ ?_
        refine lv_iload hx hb dX11_agree_125 (lv_at hl 4 rfl) ?_
        obtain ⟨o7, eq8, h⟩ := bnd_some h
        refine kPi (rest := [.int o5, .int x8]) ⟨hx, hb, hml, hown, hts⟩ (c_X11_ones l x6 eq8) (va_cwS 1 hts (gAS wm_253 wm_254 wm_5 wm_255) rfl rfl rfl qd_X11_ones ⟨Nat.le_of_ble_eq_true rfl, Nat.le_of_ble_eq_true rfl⟩) rfl hl.1 rfl (Nat.le_of_ble_eq_true rfl) dX11_agree_127 ⟨Nat.zero_le _, Nat.zero_le _⟩ ?_
        refine lv_icmp_ne (tgt := 153) hx hb dX11_agree_130 (by decide) (fun c9 => ?_) (fun c9 => ?_)
        · replace h := (if_neg c9).symm.trans h
          exact J153 x2 x4 x5 x6 x7 x9 x8 ls (lv_sub hl [0, 1, 2, 3, 4, 5, 7] rfl) h
        · replace h := (if_pos c9).symm.trans h
          refine lv_iload hx hb dX11_agree_133 (lv_at hl 2 rfl) ?_
          refine lv_iload hx hb dX11_agree_135 (lv_at hl 3 rfl) ?_
          refine lv_iload hx hb dX11_agree_137 (lv_at hl 7 rfl) ?_
          refine lv_ixor hx hb dX11_agree_139 ?_
          obtain ⟨o10, eq11, h⟩ := bnd_some h
          refine kPi (rest := [.int x4, .int x8]) ⟨hx, hb, hml, hown, hts⟩ (c_X11_ones l (x5 ^^^ x9) eq11) (va_cwS 1 hts (gAS wm_253 wm_254 wm_5 wm_255) rfl rfl rfl qd_X11_ones ⟨Nat.le_of_ble_eq_true rfl, Nat.le_of_ble_eq_true rfl⟩) rfl hl.1 rfl (Nat.le_of_ble_eq_true rfl) dX11_agree_140 ⟨Nat.zero_le _, Nat.zero_le _⟩ ?_
          refine lv_isub hx hb dX11_agree_143 ?_
          refine lv_iload hx hb dX11_agree_144 (lv_at hl 5 rfl) ?_
          refine lv_icmp_lt (tgt := 153) hx hb dX11_agree_146 (by decide) (fun c12 => ?_) (fun c12 => ?_)
          · replace h := (if_pos c12).symm.trans h
            exact J153 x2 x4 x5 x6 x7 x9 x8 ls (lv_sub hl [0, 1, 2, 3, 4, 5, 7] rfl) h
          · replace h := (if_neg c12).symm.trans h
            refine lv_iconst (v := 1) hx hb dX11_agree_149 (by decide) ?_
            refine lv_goto (tgt := 154) hx hb dX11_agree_150 (by decide) ?_
            exact J154 x2 x4 x5 x6 x7 x9 x8 1 ls (lv_sub hl [0, 1, 2, 3, 4, 5, 7] rfl) h
  refine lv_iload_n hx hb dX11_agree_0 rfl (lv_at hl 1 rfl) ?_
  obtain ⟨o13, eq14, h⟩ := bnd_some h
  refine kPi (rest := []) ⟨hx, hb, hml, hown, hts⟩ (c_X11_isRow l x1 eq14) (va_cwS 1 hts (gAS wm_117 wm_118 wm_5 wm_119) rfl rfl rfl qd_X11_isRow ⟨Nat.le_of_ble_eq_true rfl, Nat.le_of_ble_eq_true rfl⟩) rfl hl.1 rfl (Nat.le_of_ble_eq_true rfl) dX11_agree_1 ⟨Nat.zero_le _, Nat.zero_le _⟩ ?_
  refine lv_if_eq (tgt := 28) hx hb dX11_agree_4 (by decide) (fun c15 => ?_) (fun c15 => ?_)
  · replace h := (if_pos c15).symm.trans h
    refine lv_bipush (v := (-2)) hx hb dX11_agree_28 (by decide) ?_
    exact W.iret (v := (-2)) hx hb hr (fun t ht hW => ⟨_, rfl, Option.some.inj h, ht⟩) (fun q hq => by cases hq) dX11_agree_30
  · replace h := (if_neg c15).symm.trans h
    refine lv_iload_n hx hb dX11_agree_7 rfl (lv_at hl 2 rfl) ?_
    obtain ⟨o16, eq17, h⟩ := bnd_some h
    refine kPi (rest := []) ⟨hx, hb, hml, hown, hts⟩ (c_X11_isRow l x2 eq17) (va_cwS 1 hts (gAS wm_117 wm_118 wm_5 wm_119) rfl rfl rfl qd_X11_isRow ⟨Nat.le_of_ble_eq_true rfl, Nat.le_of_ble_eq_true rfl⟩) rfl hl.1 rfl (Nat.le_of_ble_eq_true rfl) dX11_agree_8 ⟨Nat.zero_le _, Nat.zero_le _⟩ ?_
    refine lv_if_eq (tgt := 28) hx hb dX11_agree_11 (by decide) (fun c18 => ?_) (fun c18 => ?_)
    · replace h := (if_pos c18).symm.trans h
      refine lv_bipush (v := (-2)) hx hb dX11_agree_28 (by decide) ?_
      exact W.iret (v := (-2)) hx hb hr (fun t ht hW => ⟨_, rfl, Option.some.inj h, ht⟩) (fun q hq => by cases hq) dX11_agree_30
    · replace h := (if_neg c18).symm.trans h
      refine lv_iload_n hx hb dX11_agree_14 rfl (lv_at hl 1 rfl) ?_
      refine lv_iload_n hx hb dX11_agree_15 rfl (lv_at hl 2 rfl) ?_
      refine lv_icmp_eq (tgt := 28) hx hb dX11_agree_16 (by decide) (fun c19 => ?_) (fun c19 => ?_)
      · replace h := (if_pos c19).symm.trans h
        refine lv_bipush (v := (-2)) hx hb dX11_agree_28 (by decide) ?_
        exact W.iret (v := (-2)) hx hb hr (fun t ht hW => ⟨_, rfl, Option.some.inj h, ht⟩) (fun q hq => by cases hq) dX11_agree_30
      · replace h := (if_neg c19).symm.trans h
        refine lv_iload_n hx hb dX11_agree_19 rfl (lv_at hl 3 rfl) ?_
        refine lv_iconst (v := 0) hx hb dX11_agree_20 (by decide) ?_
        refine lv_iconst (v := 1) hx hb dX11_agree_21 (by decide) ?_
        obtain ⟨o20, eq21, h⟩ := bnd_some h
        refine kPi (rest := []) ⟨hx, hb, hml, hown, hts⟩ (c_X11_in l x3 0 1 eq21) (va_cwS 3 hts (gAS wm_120 wm_121 wm_5 wm_122) rfl rfl rfl qd_X11_in ⟨Nat.le_of_ble_eq_true rfl, Nat.le_of_ble_eq_true rfl⟩) rfl hl.1 rfl (Nat.le_of_ble_eq_true rfl) dX11_agree_22 ⟨Nat.zero_le _, Nat.zero_le _⟩ ?_
        refine lv_if_ne (tgt := 31) hx hb dX11_agree_25 (by decide) (fun c22 => ?_) (fun c22 => ?_)
        · replace h := (if_neg c22).symm.trans h
          refine lv_aload_n hx hb dX11_agree_31 rfl (lv_at hl 0 rfl) ?_
          refine va_get (D := D) (ci := 6) (v := .ref (a 1)) (C := RX11) (T := TX11) (N := 24) hx hb hts hi11 hown hK hP (0) (rfl) rfl 0 (by decide) kf7 (fun _ h9 => h9) rfl dX11_agree_32 ?_
          refine lv_iload_n hx hb dX11_agree_35 rfl (lv_at hl 1 rfl) ?_
          obtain ⟨g23, h⟩ := gIn_some h
          refine va_iald hx hb hK hP (1) 0 (rfl) rfl g23 dX11_agree_36 ?_
          refine lv_istore (lv' := [(4, .int (mSizes x1.toNatClampNeg)), (0, .ref (a 0)), (1, .int x1), (2, .int x2), (3, .int x3)]) hx hb dX11_agree_37 hl (by decide) rfl (fun ls hl => ?_)
          refine lv_aload_n hx hb dX11_agree_39 rfl (lv_at hl 1 rfl) ?_
          refine lv_iload_n hx hb dX11_agree_40 rfl (lv_at hl 2 rfl) ?_
          obtain ⟨o24, eq25, h⟩ := bnd_some h
          refine kRiV (rest := []) (q0 := 0) ⟨hx, hb, hml, hown, hts⟩ (c_X11_isWhole l D k a mSizes mSigns mOdds mPat mTyped mText mAt mFault mTests mTN mTS mTV mTB mRead mUns mUM mBA mBH mThere mTypes mHeld mItems mMoved mFind x1 eq25) (cwV 1 hts (gAV wm_241 wm_242 wm_243 wm_5 wm_244) rfl rfl rfl qd_X11_isWhole ⟨Nat.le_of_ble_eq_true rfl, Nat.le_of_ble_eq_true rfl⟩) hK hP (rfl) rfl rfl hl.1 rfl (Nat.le_of_ble_eq_true rfl) dX11_agree_41 ⟨Nat.zero_le _, Nat.zero_le _⟩ ?_
          refine lv_if_eq (tgt := 66) hx hb dX11_agree_44 (by decide) (fun c26 => ?_) (fun c26 => ?_)
          · replace h := (if_pos c26).symm.trans h
            refine lv_bipush (v := (-3)) hx hb dX11_agree_66 (by decide) ?_
            exact W.iret (v := (-3)) hx hb hr (fun t ht hW => ⟨_, rfl, Option.some.inj h, ht⟩) (fun q hq => by cases hq) dX11_agree_68
          · replace h := (if_neg c26).symm.trans h
            refine lv_aload_n hx hb dX11_agree_47 rfl (lv_at hl 1 rfl) ?_
            refine lv_iload_n hx hb dX11_agree_48 rfl (lv_at hl 3 rfl) ?_
            obtain ⟨o27, eq28, h⟩ := bnd_some h
            refine kRiV (rest := []) (q0 := 0) ⟨hx, hb, hml, hown, hts⟩ (c_X11_isWhole l D k a mSizes mSigns mOdds mPat mTyped mText mAt mFault mTests mTN mTS mTV mTB mRead mUns mUM mBA mBH mThere mTypes mHeld mItems mMoved mFind x2 eq28) (cwV 1 hts (gAV wm_241 wm_242 wm_243 wm_5 wm_244) rfl rfl rfl qd_X11_isWhole ⟨Nat.le_of_ble_eq_true rfl, Nat.le_of_ble_eq_true rfl⟩) hK hP (rfl) rfl rfl hl.1 rfl (Nat.le_of_ble_eq_true rfl) dX11_agree_49 ⟨Nat.zero_le _, Nat.zero_le _⟩ ?_
            refine lv_if_eq (tgt := 66) hx hb dX11_agree_52 (by decide) (fun c29 => ?_) (fun c29 => ?_)
            · replace h := (if_pos c29).symm.trans h
              refine lv_bipush (v := (-3)) hx hb dX11_agree_66 (by decide) ?_
              exact W.iret (v := (-3)) hx hb hr (fun t ht hW => ⟨_, rfl, Option.some.inj h, ht⟩) (fun q hq => by cases hq) dX11_agree_68
            · replace h := (if_neg c29).symm.trans h
              refine lv_iload hx hb dX11_agree_55 (lv_at hl 0 rfl) ?_
              refine lv_aload_n hx hb dX11_agree_57 rfl (lv_at hl 1 rfl) ?_
              refine va_get (D := D) (ci := 6) (v := .ref (a 1)) (C := RX11) (T := TX11) (N := 24) hx hb hts hi11 hown hK hP (0) (rfl) rfl 0 (by decide) kf7 (fun _ h9 => h9) rfl dX11_agree_58 ?_
              refine lv_iload_n hx hb dX11_agree_61 rfl (lv_at hl 3 rfl) ?_
              obtain ⟨g30, h⟩ := gIn_some h
              refine va_iald hx hb hK hP (1) 0 (rfl) rfl g30 dX11_agree_62 ?_
              refine lv_icmp_eq (tgt := 69) hx hb dX11_agree_63 (by decide) (fun c31 => ?_) (fun c31 => ?_)
              · replace h := (if_pos c31).symm.trans h
                refine lv_aload_n hx hb dX11_agree_69 rfl (lv_at hl 1 rfl) ?_
                refine lv_iload_n hx hb dX11_agree_70 rfl (lv_at hl 2 rfl) ?_
                obtain ⟨o32, eq33, h⟩ := bnd_some h
                refine kRiV (rest := []) (q0 := 0) ⟨hx, hb, hml, hown, hts⟩ (c_X11_bitsOf l D k a mSizes mSigns mOdds mPat mTyped mText mAt mFault mTests mTN mTS mTV mTB mRead mUns mUM mBA mBH mThere mTypes mHeld mItems mMoved mFind x1 eq33) (cwV 1 hts (gAV wm_245 wm_246 wm_247 wm_5 wm_248) rfl rfl rfl qd_X11_bitsOf ⟨Nat.le_of_ble_eq_true rfl, Nat.le_of_ble_eq_true rfl⟩) hK hP (rfl) rfl rfl hl.1 rfl (Nat.le_of_ble_eq_true rfl) dX11_agree_71 ⟨Nat.zero_le _, Nat.zero_le _⟩ ?_
                refine lv_istore (lv' := [(5, .int o32), (4, .int (mSizes x1.toNatClampNeg)), (0, .ref (a 0)), (1, .int x1), (2, .int x2), (3, .int x3)]) hx hb dX11_agree_74 hl (by decide) rfl (fun ls hl => ?_)
                refine lv_aload_n hx hb dX11_agree_76 rfl (lv_at hl 2 rfl) ?_
                refine lv_iload_n hx hb dX11_agree_77 rfl (lv_at hl 4 rfl) ?_
                obtain ⟨o34, eq35, h⟩ := bnd_some h
                refine kRiV (rest := []) (q0 := 0) ⟨hx, hb, hml, hown, hts⟩ (c_X11_bitsOf l D k a mSizes mSigns mOdds mPat mTyped mText mAt mFault mTests mTN mTS mTV mTB mRead mUns mUM mBA mBH mThere mTypes mHeld mItems mMoved mFind x2 eq35) (cwV 1 hts (gAV wm_245 wm_246 wm_247 wm_5 wm_248) rfl rfl rfl qd_X11_bitsOf ⟨Nat.le_of_ble_eq_true rfl, Nat.le_of_ble_eq_true rfl⟩) hK hP (rfl) rfl rfl hl.1 rfl (Nat.le_of_ble_eq_true rfl) dX11_agree_78 ⟨Nat.zero_le _, Nat.zero_le _⟩ ?_
                refine lv_istore (lv' := [(6, .int o34), (5, .int o32), (4, .int (mSizes x1.toNatClampNeg)), (0, .ref (a 0)), (1, .int x1), (2, .int x2), (3, .int x3)]) hx hb dX11_agree_81 hl (by decide) rfl (fun ls hl => ?_)
                refine lv_iload hx hb dX11_agree_83 (lv_at hl 2 rfl) ?_
                refine lv_iload hx hb dX11_agree_85 (lv_at hl 1 rfl) ?_
                refine lv_iload hx hb dX11_agree_87 (lv_at hl 0 rfl) ?_
                refine lv_ixor hx hb dX11_agree_89 ?_
                obtain ⟨o36, eq37, h⟩ := bnd_some h
                refine kPi (rest := [.int (mSizes x1.toNatClampNeg)]) ⟨hx, hb, hml, hown, hts⟩ (c_X11_ones l (o32 ^^^ o34) eq37) (va_cwS 1 hts (gAS wm_253 wm_254 wm_5 wm_255) rfl rfl rfl qd_X11_ones ⟨Nat.le_of_ble_eq_true rfl, Nat.le_of_ble_eq_true rfl⟩) rfl hl.1 rfl (Nat.le_of_ble_eq_true rfl) dX11_agree_90 ⟨Nat.zero_le _, Nat.zero_le _⟩ ?_
                refine lv_isub hx hb dX11_agree_93 ?_
                refine lv_istore (lv' := [(7, .int ((mSizes x1.toNatClampNeg) - o36)), (6, .int o34), (5, .int o32), (4, .int (mSizes x1.toNatClampNeg)), (0, .ref (a 0)), (1, .int x1), (2, .int x2), (3, .int x3)]) hx hb dX11_agree_94 hl (by decide) rfl (fun ls hl => ?_)
                refine lv_iload_n hx hb dX11_agree_96 rfl (lv_at hl 7 rfl) ?_
                refine lv_if_ne (tgt := 103) hx hb dX11_agree_97 (by decide) (fun c38 => ?_) (fun c38 => ?_)
                · replace h := (if_neg c38).symm.trans h
                  refine lv_iconst (v := 0) hx hb dX11_agree_103 (by decide) ?_
                  refine lv_istore (lv' := [(8, .int 0), (7, .int ((mSizes x1.toNatClampNeg) - o36)), (6, .int o34), (5, .int o32), (4, .int (mSizes x1.toNatClampNeg)), (0, .ref (a 0)), (1, .int x1), (2, .int x2), (3, .int x3)]) hx hb dX11_agree_104 hl (by decide) rfl (fun ls hl => ?_)
                  refine lv_iconst (v := 0) hx hb dX11_agree_106 (by decide) ?_
                  refine lv_istore (lv' := [(9, .int 0), (8, .int 0), (7, .int ((mSizes x1.toNatClampNeg) - o36)), (6, .int o34), (5, .int o32), (4, .int (mSizes x1.toNatClampNeg)), (0, .ref (a 0)), (1, .int x1), (2, .int x2), (3, .int x3)]) hx hb dX11_agree_107 hl (by decide) rfl (fun ls hl => ?_)
                  exact L109 N x2 (mSizes x1.toNatClampNeg) o32 o34 ((mSizes x1.toNatClampNeg) - o36) 0 0 ls (lv_sub hl [6, 8, 5, 4, 3, 2, 1, 0] rfl) h
                · replace h := (if_pos c38).symm.trans h
                  refine lv_iload hx hb dX11_agree_100 (lv_at hl 0 rfl) ?_
                  exact W.iret (v := ((mSizes x1.toNatClampNeg) - o36)) hx hb hr (fun t ht hW => ⟨_, rfl, Option.some.inj h, ht⟩) (fun q hq => by cases hq) dX11_agree_102
              · replace h := (if_neg c31).symm.trans h
                refine lv_bipush (v := (-3)) hx hb dX11_agree_66 (by decide) ?_
                exact W.iret (v := (-3)) hx hb hr (fun t ht hW => ⟨_, rfl, Option.some.inj h, ht⟩) (fun q hq => by cases hq) dX11_agree_68
        · replace h := (if_pos c22).symm.trans h
          refine lv_bipush (v := (-2)) hx hb dX11_agree_28 (by decide) ?_
          exact W.iret (v := (-2)) hx hb hr (fun t ht hW => ⟨_, rfl, Option.some.inj h, ht⟩) (fun q hq => by cases hq) dX11_agree_30
set_option maxHeartbeats 4000000 in
set_option maxRecDepth 100000 in
theorem c_X11_agree {N : Nat} (l : Launch) (D : va_G) (k : Nat → ClassId) (a : Nat → Nat) (mSizes : Nat → Int32) (mSigns : Nat → Int32) (mOdds : Int32) (mPat : Int32) (mTyped : Int32) (mText : Nat → Int32) (mAt : Int32) (mFault : Int32) (mTests : Int32) (mTN : Nat → Int32) (mTS : Nat → Int32) (mTV : Nat → Int32) (mTB : Nat → Int32) (mRead : Int32) (mUns : Nat → Int32) (mUM : Int32) (mBA : Int32) (mBH : Int32) (mThere : Nat → Int32) (mTypes : Nat → Int32) (mHeld : Nat → Int32) (mItems : Nat → Int32) (mMoved : Nat → Int32) (mFind : Int32) (x1 : Int32) (x2 : Int32) (x3 : Int32) {o : Int32} (h : f_X11_agree N x1 x2 x3 mSizes mSigns = some o) : mRi l yX11_agree wo_X11_agree 2 D k [.ref (a 0), .int x1, .int x2, .int x3] (wM k a mSizes mSigns mOdds mPat mTyped mText mAt mFault mTests mTN mTS mTV mTB mRead mUns mUM mBA mBH mThere mTypes mHeld mItems mMoved mFind) o := by
  refine Met.ofW (cc := cX11_agree) (maxL := 10) (ret := some .int) (by decide) rfl ?_
  intro p e s m args below meth c s₁ B hml hv
  obtain ⟨rfl, hP, hK⟩ := hv
  rw [lg_entry_eq]
  exact core_X11_agree D k a mSizes mSigns mOdds mPat mTyped mText mAt mFault mTests mTN mTS mTV mTB mRead mUns mUM mBA mBH mThere mTypes mHeld mItems mMoved mFind x1 x2 x3 B.exec B.bytes hml B.returns (atoms_spec (ws := wo_X11_agree) B.pre) (findClass_of_methodNamed B.named) B.notSynchronized (lv_entry [.ref (a 0), .int x1, .int x2, .int x3] (n := 10) (Nat.le_of_ble_eq_true rfl)) hK hP h
theorem qd_X11_agree : yX11_agree.cls = RX11 ∧ yX11_agree.cls ≠ "java/lang/invoke/MethodHandle" ∧ yX11_agree.cls ≠ "java/lang/invoke/VarHandle" ∧ (parseMethodDescriptor yX11_agree.desc).map (fun d => d.parameters.length) = some 3 := by decide +kernel
