abbrev wo_X11_sure : List Cond := .code yX11_sure cX11_sure 8 (some .int) :: wsL_law
set_option maxHeartbeats 4000000 in
set_option maxRecDepth 100000 in
theorem core_X11_sure {N : Nat} (D : va_G) (k : Nat → ClassId) (a : Nat → Nat) (mSizes : Nat → Int32) (mSigns : Nat → Int32) (mOdds : Int32) (mPat : Int32) (mTyped : Int32) (mText : Nat → Int32) (mAt : Int32) (mFault : Int32) (mTests : Int32) (mTN : Nat → Int32) (mTS : Nat → Int32) (mTV : Nat → Int32) (mTB : Nat → Int32) (mRead : Int32) (mUns : Nat → Int32) (mUM : Int32) (mBA : Int32) (mBH : Int32) (mThere : Nat → Int32) (mTypes : Nat → Int32) (mHeld : Nat → Int32) (mItems : Nat → Int32) (mMoved : Nat → Int32) (mFind : Int32) (x1 : Int32) (x2 : Int32) {p : Program} {l : Launch} {e : Env} {s : State} {m : MethodId} {args : Array Value} {below : List Frame} {meth : Method} {c : Code} {ls : Array Slot} (hx : p.tables.exec = Jvm.exec) (hb : c.code = cX11_sure) (hml : c.maxLocals = 8) (hr : meth.sig.returnType = some .int) (hts : ∀ w ∈ wo_X11_sure, w.before args s = true) (hown : s.vm.findClass RX11 = some m.cls) (hlocks : meth.locks = false) (hl : lv_has ls 8 [(0, .ref (a 0)), (1, .int x1), (2, .int x2)]) (hK : va_K D vwCl (xTys k) s) (hP : va_P D vwCl (wM k a mSizes mSigns mOdds mPat mTyped mText mAt mFault mTests mTN mTS mTV mTB mRead mUns mUM mBA mBH mThere mTypes mHeld mItems mMoved mFind) s.heap) {A : Nat → Prop} (hD : va_D A (wM k a mSizes mSigns mOdds mPat mTyped mText mAt mFault mTests mTN mTS mTV mTB mRead mUns mUM mBA mBH mThere mTypes mHeld mItems mMoved mFind)) (hA : ∀ q : Nat, s.heap.size ≤ q → A q) {o : Int32 × (Int32) × (Int32) × (Int32) × (Nat → Int32) × (Nat → Int32) × (Nat → Int32) × (Nat → Int32) × (Int32) × (Nat → Int32) × (Int32)} (h : f_X11_sure N x1 x2 mSizes mSigns mPat mTyped mText mAt mFault mTests mTN mTS mTV mTB mRead mUns mUM = some o) : gQi p l e wo_X11_sure 4 s m args below meth c D k A o.1 (wM k a mSizes mSigns mOdds mPat mTyped mText o.2.1 o.2.2.1 o.2.2.2.1 o.2.2.2.2.1 o.2.2.2.2.2.1 o.2.2.2.2.2.2.1 o.2.2.2.2.2.2.2.1 o.2.2.2.2.2.2.2.2.1 o.2.2.2.2.2.2.2.2.2.1 o.2.2.2.2.2.2.2.2.2.2 mBA mBH mThere mTypes mHeld mItems mMoved mFind) s.heap [] (F0 m 0 ls []) := by
  have hi11 := (fun w h => List.mem_cons_of_mem _ (inlX11 w h) : ∀ w ∈ wsX110, w ∈ wo_X11_sure)
  have kf151 := hts _ (List.mem_cons_of_mem _ wm_555)
  have kf7 := hts _ (List.mem_cons_of_mem _ wm_72)
  unfold f_X11_sure at h
  have hS : va_S A s.heap s.heap [] := va_S.rf
  have L48 : ∀ (n48 : Nat) (x1 : Int32) (x2 : Int32) (x3 : Int32) (x4 : Int32) (x5 : Int32) (mAt : Int32) (mFault : Int32) (mTests : Int32) (mTN : Nat → Int32) (mTS : Nat → Int32) (mTV : Nat → Int32) (mTB : Nat → Int32) (mRead : Int32) (mUns : Nat → Int32) (mUM : Int32) (ls : Array Slot) (H : Heap) (locs : List Loc) (hl : lv_has ls 8 [(0, .ref (a 0)), (1, .int x1), (2, .int x2), (3, .int x3), (4, .int x4), (5, .int x5)]) (hP : va_P D vwCl (wM k a mSizes mSigns mOdds mPat mTyped mText mAt mFault mTests mTN mTS mTV mTB mRead mUns mUM mBA mBH mThere mTypes mHeld mItems mMoved mFind) H) (hD : va_D A (wM k a mSizes mSigns mOdds mPat mTyped mText mAt mFault mTests mTN mTS mTV mTB mRead mUns mUM mBA mBH mThere mTypes mHeld mItems mMoved mFind)) (hS : va_S A s.heap H locs) (h : f_X11_sure_48 N n48 x1 x2 x3 x4 x5 mSizes mSigns mPat mTyped mText mAt mFault mTests mTN mTS mTV mTB mRead mUns mUM = some o), gQi p l e wo_X11_sure 4 s m args below meth c D k A o.1 (wM k a mSizes mSigns mOdds mPat mTyped mText o.2.1 o.2.2.1 o.2.2.2.1 o.2.2.2.2.1 o.2.2.2.2.2.1 o.2.2.2.2.2.2.1 o.2.2.2.2.2.2.2.1 o.2.2.2.2.2.2.2.2.1 o.2.2.2.2.2.2.2.2.2.1 o.2.2.2.2.2.2.2.2.2.2 mBA mBH mThere mTypes mHeld mItems mMoved mFind) H locs (F0 m 48 ls []) := by
    intro n48
    induction n48 with
    | zero => intro x1 x2 x3 x4 x5 mAt mFault mTests mTN mTS mTV mTB mRead mUns mUM ls H locs hl hP hD hS h; cases (show (none : Option (Int32 × (Int32) × (Int32) × (Int32) × (Nat → Int32) × (Nat → Int32) × (Nat → Int32) × (Nat → Int32) × (Int32) × (Nat → Int32) × (Int32))) = some o from h)
    | succ n48 ih48 =>
      have J114 : ∀ (x1 : Int32) (x2 : Int32) (x3 : Int32) (x4 : Int32) (x5 : Int32) (mAt : Int32) (mFault : Int32) (mTests : Int32) (mTN : Nat → Int32) (mTS : Nat → Int32) (mTV : Nat → Int32) (mTB : Nat → Int32) (mRead : Int32) (mUns : Nat → Int32) (mUM : Int32) (ls : Array Slot) (H : Heap) (locs : List Loc) (hl : lv_has ls 8 [(0, .ref (a 0)), (1, .int x1), (2, .int x2), (3, .int x3), (4, .int x4), (5, .int x5)]) (hP : va_P D vwCl (wM k a mSizes mSigns mOdds mPat mTyped mText mAt mFault mTests mTN mTS mTV mTB mRead mUns mUM mBA mBH mThere mTypes mHeld mItems mMoved mFind) H) (hD : va_D A (wM k a mSizes mSigns mOdds mPat mTyped mText mAt mFault mTests mTN mTS mTV mTB mRead mUns mUM mBA mBH mThere mTypes mHeld mItems mMoved mFind)) (hS : va_S A s.heap H locs) (h : f_X11_sure_114 N (fun y0 y1 y2 y3 y4 y5 y6 y7 y8 y9 y10 y11 y12 y13 y14 y15 y16 y17 y18 y19 => f_X11_sure_48 N n48 y0 y1 y2 y3 y4 y5 y6 y7 y8 y9 y10 y11 y12 y13 y14 y15 y16 y17 y18 y19) x1 x2 x3 x4 x5 mSizes mSigns mPat mTyped mText mAt mFault mTests mTN mTS mTV mTB mRead mUns mUM = some o), gQi p l e wo_X11_sure 4 s m args below meth c D k A o.1 (wM k a mSizes mSigns mOdds mPat mTyped mText o.2.1 o.2.2.1 o.2.2.2.1 o.2.2.2.2.1 o.2.2.2.2.2.1 o.2.2.2.2.2.2.1 o.2.2.2.2.2.2.2.1 o.2.2.2.2.2.2.2.2.1 o.2.2.2.2.2.2.2.2.2.1 o.2.2.2.2.2.2.2.2.2.2 mBA mBH mThere mTypes mHeld mItems mMoved mFind) H locs (F0 m 114 ls []) := by
        intro x1 x2 x3 x4 x5 mAt mFault mTests mTN mTS mTV mTB mRead mUns mUM ls H locs hl hP hD hS h
        unfold f_X11_sure_114 at h
        refine lv_iinc (v := (x5 + 1)) (lv' := [(5, .int (x5 + 1)), (0, .ref (a 0)), (1, .int x1), (2, .int x2), (3, .int x3), (4, .int x4)]) hx hb dX11_sure_114 hl (k := 5) rfl rfl (by decide) rfl (fun ls hl => ?_)
        refine lv_goto (tgt := 48) hx hb dX11_sure_117 (by decide) ?_
        exact ih48 x1 x2 x3 x4 (x5 + 1) mAt mFault mTests mTN mTS mTV mTB mRead mUns mUM ls H locs (lv_sub hl [1, 2, 3, 4, 5, 0] rfl) hP hD hS h
      intro x1 x2 x3 x4 x5 mAt mFault mTests mTN mTS mTV mTB mRead mUns mUM ls H locs hl hP hD hS h
      rw [f_X11_sure_48] at h
      refine lv_iload hx hb dX11_sure_48 (lv_at hl 5 rfl) ?_
      refine lv_iconst (v := 1) hx hb dX11_sure_50 (by decide) ?_
      refine lv_aload_n hx hb dX11_sure_51 rfl (lv_at hl 0 rfl) ?_
      refine va_get (D := D) (ci := 6) (v := .int mUM) (C := RX11) (T := TX11) (N := 24) hx hb hts hi11 hown hK hP (0) (rfl) rfl 15 (by decide) kf151 (fun _ h9 => h9) rfl dX11_sure_52 ?_
      refine lv_ishl hx hb dX11_sure_55 ?_
      refine lv_icmp_ge (tgt := 120) hx hb dX11_sure_56 (by decide) (fun c1 => ?_) (fun c1 => ?_)
      · replace h := (if_pos c1).symm.trans h
        refine lv_iload_n hx hb dX11_sure_120 rfl (lv_at hl 3 rfl) ?_
        refine lv_iload hx hb dX11_sure_121 (lv_at hl 4 rfl) ?_
        refine lv_iadd hx hb dX11_sure_123 ?_
        refine lv_if_ne (tgt := 132) hx hb dX11_sure_124 (by decide) (fun c2 => ?_) (fun c2 => ?_)
        · replace h := (if_neg c2).symm.trans h
          refine lv_iload hx hb dX11_sure_132 (lv_at hl 4 rfl) ?_
          refine lv_if_ne (tgt := 141) hx hb dX11_sure_134 (by decide) (fun c3 => ?_) (fun c3 => ?_)
          · replace h := (if_neg c3).symm.trans h
            refine lv_iload_n hx hb dX11_sure_141 rfl (lv_at hl 3 rfl) ?_
            refine lv_if_ne (tgt := 149) hx hb dX11_sure_142 (by decide) (fun c4 => ?_) (fun c4 => ?_)
            · replace h := (if_neg c4).symm.trans h
              refine lv_iconst (v := (-1)) hx hb dX11_sure_149 (by decide) ?_
              have he := Option.some.inj h
              exact W.iret (v := (-1)) hx hb hr (fun t ht hW => ⟨⟨(-1), wM k a mSizes mSigns mOdds mPat mTyped mText mAt mFault mTests mTN mTS mTV mTB mRead mUns mUM mBA mBH mThere mTypes mHeld mItems mMoved mFind, rfl, ⟨(congrArg (fun z => z.1) he), (congrArg (fun z => wM k a mSizes mSigns mOdds mPat mTyped mText z.2.1 z.2.2.1 z.2.2.2.1 z.2.2.2.2.1 z.2.2.2.2.2.1 z.2.2.2.2.2.2.1 z.2.2.2.2.2.2.2.1 z.2.2.2.2.2.2.2.2.1 z.2.2.2.2.2.2.2.2.2.1 z.2.2.2.2.2.2.2.2.2.2 mBA mBH mThere mTypes mHeld mItems mMoved mFind) he)⟩, by rw [ht]; exact hP, va_K.moved hW.alike hK, hD⟩, hS.F ht⟩) hS.2.2 dX11_sure_150
            · replace h := (if_pos c4).symm.trans h
              refine lv_iconst (v := 0) hx hb dX11_sure_145 (by decide) ?_
              refine lv_goto (tgt := 150) hx hb dX11_sure_146 (by decide) ?_
              have he := Option.some.inj h
              exact W.iret (v := 0) hx hb hr (fun t ht hW => ⟨⟨0, wM k a mSizes mSigns mOdds mPat mTyped mText mAt mFault mTests mTN mTS mTV mTB mRead mUns mUM mBA mBH mThere mTypes mHeld mItems mMoved mFind, rfl, ⟨(congrArg (fun z => z.1) he), (congrArg (fun z => wM k a mSizes mSigns mOdds mPat mTyped mText z.2.1 z.2.2.1 z.2.2.2.1 z.2.2.2.2.1 z.2.2.2.2.2.1 z.2.2.2.2.2.2.1 z.2.2.2.2.2.2.2.1 z.2.2.2.2.2.2.2.2.1 z.2.2.2.2.2.2.2.2.2.1 z.2.2.2.2.2.2.2.2.2.2 mBA mBH mThere mTypes mHeld mItems mMoved mFind) he)⟩, by rw [ht]; exact hP, va_K.moved hW.alike hK, hD⟩, hS.F ht⟩) hS.2.2 dX11_sure_150
          · replace h := (if_pos c3).symm.trans h
            refine lv_iconst (v := 1) hx hb dX11_sure_137 (by decide) ?_
            refine lv_goto (tgt := 150) hx hb dX11_sure_138 (by decide) ?_
            have he := Option.some.inj h
            exact W.iret (v := 1) hx hb hr (fun t ht hW => ⟨⟨1, wM k a mSizes mSigns mOdds mPat mTyped mText mAt mFault mTests mTN mTS mTV mTB mRead mUns mUM mBA mBH mThere mTypes mHeld mItems mMoved mFind, rfl, ⟨(congrArg (fun z => z.1) he), (congrArg (fun z => wM k a mSizes mSigns mOdds mPat mTyped mText z.2.1 z.2.2.1 z.2.2.2.1 z.2.2.2.2.1 z.2.2.2.2.2.1 z.2.2.2.2.2.2.1 z.2.2.2.2.2.2.2.1 z.2.2.2.2.2.2.2.2.1 z.2.2.2.2.2.2.2.2.2.1 z.2.2.2.2.2.2.2.2.2.2 mBA mBH mThere mTypes mHeld mItems mMoved mFind) he)⟩, by rw [ht]; exact hP, va_K.moved hW.alike hK, hD⟩, hS.F ht⟩) hS.2.2 dX11_sure_150
        · replace h := (if_pos c2).symm.trans h
          refine lv_bipush (v := (-3)) hx hb dX11_sure_127 (by decide) ?_
          refine lv_goto (tgt := 150) hx hb dX11_sure_129 (by decide) ?_
          have he := Option.some.inj h
          exact W.iret (v := (-3)) hx hb hr (fun t ht hW => ⟨⟨(-3), wM k a mSizes mSigns mOdds mPat mTyped mText mAt mFault mTests mTN mTS mTV mTB mRead mUns mUM mBA mBH mThere mTypes mHeld mItems mMoved mFind, rfl, ⟨(congrArg (fun z => z.1) he), (congrArg (fun z => wM k a mSizes mSigns mOdds mPat mTyped mText z.2.1 z.2.2.1 z.2.2.2.1 z.2.2.2.2.1 z.2.2.2.2.2.1 z.2.2.2.2.2.2.1 z.2.2.2.2.2.2.2.1 z.2.2.2.2.2.2.2.2.1 z.2.2.2.2.2.2.2.2.2.1 z.2.2.2.2.2.2.2.2.2.2 mBA mBH mThere mTypes mHeld mItems mMoved mFind) he)⟩, by rw [ht]; exact hP, va_K.moved hW.alike hK, hD⟩, hS.F ht⟩) hS.2.2 dX11_sure_150
      · replace h := (if_neg c1).symm.trans h
        refine lv_aload_n hx hb dX11_sure_59 rfl (lv_at hl 0 rfl) ?_
        refine lv_iload_n hx hb dX11_sure_60 rfl (lv_at hl 1 rfl) ?_
        refine lv_iload hx hb dX11_sure_61 (lv_at hl 5 rfl) ?_
        obtain ⟨o5, eq6, h⟩ := bnd_some h
        refine kRiV (rest := []) (q0 := 0) ⟨hx, hb, hml, hown, hts⟩ (c_X11_fill l D k a mSizes mSigns mOdds mPat mTyped mText mAt mFault mTests mTN mTS mTV mTB mRead mUns mUM mBA mBH mThere mTypes mHeld mItems mMoved mFind x1 x5 eq6) (cwV 2 hts (gAV wm_560 wm_561 wm_562 wm_5 wm_563) rfl rfl rfl qd_X11_fill ⟨Nat.le_of_ble_eq_true rfl, Nat.le_of_ble_eq_true rfl⟩) hK hP (rfl) rfl rfl hl.1 rfl (Nat.le_of_ble_eq_true rfl) dX11_sure_63 ⟨Nat.zero_le _, Nat.zero_le _⟩ ?_
        refine lv_istore (lv' := [(6, .int o5), (0, .ref (a 0)), (1, .int x1), (2, .int x2), (3, .int x3), (4, .int x4), (5, .int x5)]) hx hb dX11_sure_66 hl (by decide) rfl (fun ls hl => ?_)
        refine lv_aload_n hx hb dX11_sure_68 rfl (lv_at hl 1 rfl) ?_
        refine lv_iload hx hb dX11_sure_69 (lv_at hl 0 rfl) ?_
        refine lv_aload_n hx hb dX11_sure_71 rfl (lv_at hl 1 rfl) ?_
        refine va_get (D := D) (ci := 6) (v := .ref (a 1)) (C := RX11) (T := TX11) (N := 24) hx hb hts hi11 hown hK hP (0) (rfl) rfl 0 (by decide) kf7 (fun _ h9 => h9) rfl dX11_sure_72 ?_
        refine lv_iload_n hx hb dX11_sure_75 rfl (lv_at hl 2 rfl) ?_
        obtain ⟨g7, h⟩ := gIn_some h
        refine va_iald hx hb hK hP (1) 0 (rfl) rfl g7 dX11_sure_76 ?_
        obtain ⟨o8, eq9, h⟩ := bnd_some h
        refine kRiV (rest := []) (q0 := 0) ⟨hx, hb, hml, hown, hts⟩ (c_X11_does l D k a mSizes mSigns mOdds mPat mTyped mText mAt mFault mTests mTN mTS mTV mTB mRead mUns mUM mBA mBH mThere mTypes mHeld mItems mMoved mFind o5 (mSizes x1.toNatClampNeg) eq9) (cwV 2 hts (gAV wm_455 wm_456 wm_457 wm_5 wm_458) rfl rfl rfl qd_X11_does ⟨Nat.le_of_ble_eq_true rfl, Nat.le_of_ble_eq_true rfl⟩) hK hP (rfl) rfl rfl hl.1 rfl (Nat.le_of_ble_eq_true rfl) dX11_sure_77 ⟨Nat.zero_le _, Nat.zero_le _⟩ ?_
        refine lv_if_eq (tgt := 114) hx hb dX11_sure_80 (by decide) (fun c10 => ?_) (fun c10 => ?_)
        · replace h := (if_pos c10).symm.trans h
          exact J114 x1 x2 x3 x4 x5 mAt mFault mTests mTN mTS mTV mTB mRead mUns mUM ls H locs (lv_sub hl [1, 2, 3, 4, 5, 6] rfl) hP hD hS h
        · replace h := (if_neg c10).symm.trans h
          refine lv_iload hx hb dX11_sure_83 (lv_at hl 0 rfl) ?_
          refine lv_aload_n hx hb dX11_sure_85 rfl (lv_at hl 1 rfl) ?_
          refine va_get (D := D) (ci := 6) (v := .ref (a 1)) (C := RX11) (T := TX11) (N := 24) hx hb hts hi11 hown hK hP (0) (rfl) rfl 0 (by decide) kf7 (fun _ h9 => h9) rfl dX11_sure_86 ?_
          refine lv_iload_n hx hb dX11_sure_89 rfl (lv_at hl 2 rfl) ?_
          refine va_iald hx hb hK hP (1) 0 (rfl) rfl g7 dX11_sure_90 ?_
          refine lv_iconst (v := 1) hx hb dX11_sure_91 (by decide) ?_
          refine lv_isub hx hb dX11_sure_92 ?_
          refine lv_iload_n hx hb dX11_sure_93 rfl (lv_at hl 3 rfl) ?_
          refine lv_isub hx hb dX11_sure_94 ?_
          refine lv_ishr hx hb dX11_sure_95 ?_
          refine lv_iconst (v := 1) hx hb dX11_sure_96 (by decide) ?_
          refine lv_iand hx hb dX11_sure_97 ?_
          refine lv_istore (lv' := [(7, .int ((o5 >>> ((((mSizes x1.toNatClampNeg) - 1) - x2) &&& 31)) &&& 1)), (6, .int o5), (0, .ref (a 0)), (1, .int x1), (2, .int x2), (3, .int x3), (4, .int x4), (5, .int x5)]) hx hb dX11_sure_98 hl (by decide) rfl (fun ls hl => ?_)
          refine lv_iload_n hx hb dX11_sure_100 rfl (lv_at hl 5 rfl) ?_
          refine lv_iload hx hb dX11_sure_101 (lv_at hl 0 rfl) ?_
          refine lv_iadd hx hb dX11_sure_103 ?_
          refine lv_istore_n (lv' := [(3, .int (x3 + ((o5 >>> ((((mSizes x1.toNatClampNeg) - 1) - x2) &&& 31)) &&& 1))), (7, .int ((o5 >>> ((((mSizes x1.toNatClampNeg) - 1) - x2) &&& 31)) &&& 1)), (6, .int o5), (0, .ref (a 0)), (1, .int x1), (2, .int x2), (4, .int x4), (5, .int x5)]) hx hb dX11_sure_104 rfl hl (by decide) rfl (fun ls hl => ?_)
          refine lv_iload hx hb dX11_sure_105 (lv_at hl 6 rfl) ?_
          refine lv_iconst (v := 1) hx hb dX11_sure_107 (by decide) ?_
          refine lv_iload hx hb dX11_sure_108 (lv_at hl 1 rfl) ?_
          refine lv_isub hx hb dX11_sure_110 ?_
          refine lv_iadd hx hb dX11_sure_111 ?_
          refine lv_istore (lv' := [(4, .int (x4 + ((1 : Int32) - ((o5 >>> ((((mSizes x1.toNatClampNeg) - 1) - x2) &&& 31)) &&& 1)))), (3, .int (x3 + ((o5 >>> ((((mSizes x1.toNatClampNeg) - 1) - x2) &&& 31)) &&& 1))), (7, .int ((o5 >>> ((((mSizes x1.toNatClampNeg) - 1) - x2) &&& 31)) &&& 1)), (6, .int o5), (0, .ref (a 0)), (1, .int x1), (2, .int x2), (5, .int x5)]) hx hb dX11_sure_112 hl (by decide) rfl (fun ls hl => ?_)
          exact J114 x1 x2 (x3 + ((o5 >>> ((((mSizes x1.toNatClampNeg) - 1) - x2) &&& 31)) &&& 1)) (x4 + ((1 : Int32) - ((o5 >>> ((((mSizes x1.toNatClampNeg) - 1) - x2) &&& 31)) &&& 1))) x5 mAt mFault mTests mTN mTS mTV mTB mRead mUns mUM ls H locs (lv_sub hl [4, 5, 6, 1, 0, 7] rfl) hP hD hS h
  obtain ⟨H, hH⟩ : ∃ H : Heap, H = s.heap := ⟨_, rfl⟩
  obtain ⟨locs, hlc⟩ : ∃ locs : List Loc, locs = [] := ⟨_, rfl⟩
  have hS : va_S A s.heap H locs := by rw [hH, hlc]; exact va_S.rf
  have hP : va_P D vwCl (wM k a mSizes mSigns mOdds mPat mTyped mText mAt mFault mTests mTN mTS mTV mTB mRead mUns mUM mBA mBH mThere mTypes mHeld mItems mMoved mFind) H := by rw [hH]; exact hP
  suffices hGo : gQi p l e wo_X11_sure 4 s m args below meth c D k A o.1 (wM k a mSizes mSigns mOdds mPat mTyped mText o.2.1 o.2.2.1 o.2.2.2.1 o.2.2.2.2.1 o.2.2.2.2.2.1 o.2.2.2.2.2.2.1 o.2.2.2.2.2.2.2.1 o.2.2.2.2.2.2.2.2.1 o.2.2.2.2.2.2.2.2.2.1 o.2.2.2.2.2.2.2.2.2.2 mBA mBH mThere mTypes mHeld mItems mMoved mFind) H locs (F0 m 0 ls []) by rw [hH, hlc] at hGo; exact hGo
  refine lv_iload_n hx hb dX11_sure_0 rfl (lv_at hl 1 rfl) ?_
  obtain ⟨o11, eq12, h⟩ := bnd_some h
  refine kPi (rest := []) ⟨hx, hb, hml, hown, hts⟩ (c_X11_isRow l x1 eq12) (va_cwS 1 hts (gAS wm_117 wm_118 wm_5 wm_119) rfl rfl rfl qd_X11_isRow ⟨Nat.le_of_ble_eq_true rfl, Nat.le_of_ble_eq_true rfl⟩) rfl hl.1 rfl (Nat.le_of_ble_eq_true rfl) dX11_sure_1 ⟨Nat.zero_le _, Nat.zero_le _⟩ ?_
  refine lv_if_eq (tgt := 11) hx hb dX11_sure_4 (by decide) (fun c13 => ?_) (fun c13 => ?_)
  · replace h := (if_pos c13).symm.trans h
    refine lv_bipush (v := (-2)) hx hb dX11_sure_11 (by decide) ?_
    have he := Option.some.inj h
    exact W.iret (v := (-2)) hx hb hr (fun t ht hW => ⟨⟨(-2), wM k a mSizes mSigns mOdds mPat mTyped mText mAt mFault mTests mTN mTS mTV mTB mRead mUns mUM mBA mBH mThere mTypes mHeld mItems mMoved mFind, rfl, ⟨(congrArg (fun z => z.1) he), (congrArg (fun z => wM k a mSizes mSigns mOdds mPat mTyped mText z.2.1 z.2.2.1 z.2.2.2.1 z.2.2.2.2.1 z.2.2.2.2.2.1 z.2.2.2.2.2.2.1 z.2.2.2.2.2.2.2.1 z.2.2.2.2.2.2.2.2.1 z.2.2.2.2.2.2.2.2.2.1 z.2.2.2.2.2.2.2.2.2.2 mBA mBH mThere mTypes mHeld mItems mMoved mFind) he)⟩, by rw [ht]; exact hP, va_K.moved hW.alike hK, hD⟩, hS.F ht⟩) hS.2.2 dX11_sure_13
  · replace h := (if_neg c13).symm.trans h
    refine lv_iload_n hx hb dX11_sure_7 rfl (lv_at hl 2 rfl) ?_
    refine lv_if_ge (tgt := 14) hx hb dX11_sure_8 (by decide) (fun c14 => ?_) (fun c14 => ?_)
    · replace h := (if_pos c14).symm.trans h
      refine lv_aload_n hx hb dX11_sure_14 rfl (lv_at hl 0 rfl) ?_
      obtain ⟨o15, eq16, h⟩ := bnd_some h
      refine kQiV (rest := []) (q0 := 0) ⟨hx, hb, hml, hown, hts⟩ (c_X11_faultNow l D k a mSizes mSigns mOdds mPat mTyped mText mAt mFault mTests mTN mTS mTV mTB mRead mUns mUM mBA mBH mThere mTypes mHeld mItems mMoved mFind  eq16) (cwV 0 hts (gAV wm_415 wm_416 wm_417 wm_5 wm_418) rfl rfl rfl qd_X11_faultNow ⟨Nat.le_of_ble_eq_true rfl, Nat.le_of_ble_eq_true rfl⟩) hK hP hD hS hA (rfl) rfl rfl hl.1 rfl (Nat.le_of_ble_eq_true rfl) dX11_sure_15 ⟨Nat.zero_le _, Nat.zero_le _⟩ (fun H locs hP hD hS => ?_)
      have hP : va_P D vwCl (wM k a mSizes mSigns mOdds mPat mTyped mText o15.2.1 o15.2.2.1 o15.2.2.2.1 o15.2.2.2.2.1 o15.2.2.2.2.2.1 o15.2.2.2.2.2.2.1 o15.2.2.2.2.2.2.2.1 o15.2.2.2.2.2.2.2.2 mUns mUM mBA mBH mThere mTypes mHeld mItems mMoved mFind) H := hP
      have hD : va_D A (wM k a mSizes mSigns mOdds mPat mTyped mText o15.2.1 o15.2.2.1 o15.2.2.2.1 o15.2.2.2.2.1 o15.2.2.2.2.2.1 o15.2.2.2.2.2.2.1 o15.2.2.2.2.2.2.2.1 o15.2.2.2.2.2.2.2.2 mUns mUM mBA mBH mThere mTypes mHeld mItems mMoved mFind) := hD
      refine lv_iconst (v := (-1)) hx hb dX11_sure_18 (by decide) ?_
      refine lv_icmp_ne (tgt := 32) hx hb dX11_sure_19 (by decide) (fun c17 => ?_) (fun c17 => ?_)
      · replace h := (if_neg c17).symm.trans h
        refine lv_bipush (v := (-3)) hx hb dX11_sure_32 (by decide) ?_
        have he := Option.some.inj h
        exact W.iret (v := (-3)) hx hb hr (fun t ht hW => ⟨⟨(-3), wM k a mSizes mSigns mOdds mPat mTyped mText o15.2.1 o15.2.2.1 o15.2.2.2.1 o15.2.2.2.2.1 o15.2.2.2.2.2.1 o15.2.2.2.2.2.2.1 o15.2.2.2.2.2.2.2.1 o15.2.2.2.2.2.2.2.2 mUns mUM mBA mBH mThere mTypes mHeld mItems mMoved mFind, rfl, ⟨(congrArg (fun z => z.1) he), (congrArg (fun z => wM k a mSizes mSigns mOdds mPat mTyped mText z.2.1 z.2.2.1 z.2.2.2.1 z.2.2.2.2.1 z.2.2.2.2.2.1 z.2.2.2.2.2.2.1 z.2.2.2.2.2.2.2.1 z.2.2.2.2.2.2.2.2.1 z.2.2.2.2.2.2.2.2.2.1 z.2.2.2.2.2.2.2.2.2.2 mBA mBH mThere mTypes mHeld mItems mMoved mFind) he)⟩, by rw [ht]; exact hP, va_K.moved hW.alike hK, hD⟩, hS.F ht⟩) hS.2.2 dX11_sure_34
      · replace h := (if_pos c17).symm.trans h
        refine lv_iload_n hx hb dX11_sure_22 rfl (lv_at hl 2 rfl) ?_
        refine lv_aload_n hx hb dX11_sure_23 rfl (lv_at hl 0 rfl) ?_
        refine va_get (D := D) (ci := 6) (v := .ref (a 1)) (C := RX11) (T := TX11) (N := 24) hx hb hts hi11 hown hK hP (0) (rfl) rfl 0 (by decide) kf7 (fun _ h9 => h9) rfl dX11_sure_24 ?_
        refine lv_iload_n hx hb dX11_sure_27 rfl (lv_at hl 1 rfl) ?_
        obtain ⟨g18, h⟩ := gIn_some h
        refine va_iald hx hb hK hP (1) 0 (rfl) rfl g18 dX11_sure_28 ?_
        refine lv_icmp_lt (tgt := 35) hx hb dX11_sure_29 (by decide) (fun c19 => ?_) (fun c19 => ?_)
        · replace h := (if_pos c19).symm.trans h
          refine lv_aload_n hx hb dX11_sure_35 rfl (lv_at hl 0 rfl) ?_
          refine lv_iload_n hx hb dX11_sure_36 rfl (lv_at hl 1 rfl) ?_
          obtain ⟨o20, eq21, h⟩ := bnd_some h
          refine kQvV (rest := []) (q0 := 0) ⟨hx, hb, hml, hown, hts⟩ (c_X11_gathers l D k a mSizes mSigns mOdds mPat mTyped mText o15.2.1 o15.2.2.1 o15.2.2.2.1 o15.2.2.2.2.1 o15.2.2.2.2.2.1 o15.2.2.2.2.2.2.1 o15.2.2.2.2.2.2.2.1 o15.2.2.2.2.2.2.2.2 mUns mUM mBA mBH mThere mTypes mHeld mItems mMoved mFind x1 eq21) (cwV 1 hts (gAV wm_556 wm_557 wm_558 wm_5 wm_559) rfl rfl rfl qd_X11_gathers ⟨Nat.le_of_ble_eq_true rfl, Nat.le_of_ble_eq_true rfl⟩) hK hP hD hS hA (rfl) rfl rfl hl.1 rfl (Nat.le_of_ble_eq_true rfl) dX11_sure_37 ⟨Nat.zero_le _, Nat.zero_le _⟩ (fun H locs hP hD hS => ?_)
          have hP : va_P D vwCl (wM k a mSizes mSigns mOdds mPat mTyped mText o15.2.1 o15.2.2.1 o15.2.2.2.1 o15.2.2.2.2.1 o15.2.2.2.2.2.1 o15.2.2.2.2.2.2.1 o15.2.2.2.2.2.2.2.1 o15.2.2.2.2.2.2.2.2 o20.1 o20.2 mBA mBH mThere mTypes mHeld mItems mMoved mFind) H := hP
          have hD : va_D A (wM k a mSizes mSigns mOdds mPat mTyped mText o15.2.1 o15.2.2.1 o15.2.2.2.1 o15.2.2.2.2.1 o15.2.2.2.2.2.1 o15.2.2.2.2.2.2.1 o15.2.2.2.2.2.2.2.1 o15.2.2.2.2.2.2.2.2 o20.1 o20.2 mBA mBH mThere mTypes mHeld mItems mMoved mFind) := hD
          refine lv_iconst (v := 0) hx hb dX11_sure_40 (by decide) ?_
          refine lv_istore_n (lv' := [(3, .int 0), (0, .ref (a 0)), (1, .int x1), (2, .int x2)]) hx hb dX11_sure_41 rfl hl (by decide) rfl (fun ls hl => ?_)
          refine lv_iconst (v := 0) hx hb dX11_sure_42 (by decide) ?_
          refine lv_istore (lv' := [(4, .int 0), (3, .int 0), (0, .ref (a 0)), (1, .int x1), (2, .int x2)]) hx hb dX11_sure_43 hl (by decide) rfl (fun ls hl => ?_)
          refine lv_iconst (v := 0) hx hb dX11_sure_45 (by decide) ?_
          refine lv_istore (lv' := [(5, .int 0), (4, .int 0), (3, .int 0), (0, .ref (a 0)), (1, .int x1), (2, .int x2)]) hx hb dX11_sure_46 hl (by decide) rfl (fun ls hl => ?_)
          exact L48 N x1 x2 0 0 0 o15.2.1 o15.2.2.1 o15.2.2.2.1 o15.2.2.2.2.1 o15.2.2.2.2.2.1 o15.2.2.2.2.2.2.1 o15.2.2.2.2.2.2.2.1 o15.2.2.2.2.2.2.2.2 o20.1 o20.2 ls H locs (lv_sub hl [3, 4, 5, 2, 1, 0] rfl) hP hD hS h
        · replace h := (if_neg c19).symm.trans h
          refine lv_bipush (v := (-3)) hx hb dX11_sure_32 (by decide) ?_
          have he := Option.some.inj h
          exact W.iret (v := (-3)) hx hb hr (fun t ht hW => ⟨⟨(-3), wM k a mSizes mSigns mOdds mPat mTyped mText o15.2.1 o15.2.2.1 o15.2.2.2.1 o15.2.2.2.2.1 o15.2.2.2.2.2.1 o15.2.2.2.2.2.2.1 o15.2.2.2.2.2.2.2.1 o15.2.2.2.2.2.2.2.2 mUns mUM mBA mBH mThere mTypes mHeld mItems mMoved mFind, rfl, ⟨(congrArg (fun z => z.1) he), (congrArg (fun z => wM k a mSizes mSigns mOdds mPat mTyped mText z.2.1 z.2.2.1 z.2.2.2.1 z.2.2.2.2.1 z.2.2.2.2.2.1 z.2.2.2.2.2.2.1 z.2.2.2.2.2.2.2.1 z.2.2.2.2.2.2.2.2.1 z.2.2.2.2.2.2.2.2.2.1 z.2.2.2.2.2.2.2.2.2.2 mBA mBH mThere mTypes mHeld mItems mMoved mFind) he)⟩, by rw [ht]; exact hP, va_K.moved hW.alike hK, hD⟩, hS.F ht⟩) hS.2.2 dX11_sure_34
    · replace h := (if_neg c14).symm.trans h
      refine lv_bipush (v := (-2)) hx hb dX11_sure_11 (by decide) ?_
      have he := Option.some.inj h
      exact W.iret (v := (-2)) hx hb hr (fun t ht hW => ⟨⟨(-2), wM k a mSizes mSigns mOdds mPat mTyped mText mAt mFault mTests mTN mTS mTV mTB mRead mUns mUM mBA mBH mThere mTypes mHeld mItems mMoved mFind, rfl, ⟨(congrArg (fun z => z.1) he), (congrArg (fun z => wM k a mSizes mSigns mOdds mPat mTyped mText z.2.1 z.2.2.1 z.2.2.2.1 z.2.2.2.2.1 z.2.2.2.2.2.1 z.2.2.2.2.2.2.1 z.2.2.2.2.2.2.2.1 z.2.2.2.2.2.2.2.2.1 z.2.2.2.2.2.2.2.2.2.1 z.2.2.2.2.2.2.2.2.2.2 mBA mBH mThere mTypes mHeld mItems mMoved mFind) he)⟩, by rw [ht]; exact hP, va_K.moved hW.alike hK, hD⟩, hS.F ht⟩) hS.2.2 dX11_sure_13
set_option maxHeartbeats 4000000 in
set_option maxRecDepth 100000 in
theorem c_X11_sure {N : Nat} (l : Launch) (D : va_G) (k : Nat → ClassId) (a : Nat → Nat) (mSizes : Nat → Int32) (mSigns : Nat → Int32) (mOdds : Int32) (mPat : Int32) (mTyped : Int32) (mText : Nat → Int32) (mAt : Int32) (mFault : Int32) (mTests : Int32) (mTN : Nat → Int32) (mTS : Nat → Int32) (mTV : Nat → Int32) (mTB : Nat → Int32) (mRead : Int32) (mUns : Nat → Int32) (mUM : Int32) (mBA : Int32) (mBH : Int32) (mThere : Nat → Int32) (mTypes : Nat → Int32) (mHeld : Nat → Int32) (mItems : Nat → Int32) (mMoved : Nat → Int32) (mFind : Int32) (x1 : Int32) (x2 : Int32) {o : Int32 × (Int32) × (Int32) × (Int32) × (Nat → Int32) × (Nat → Int32) × (Nat → Int32) × (Nat → Int32) × (Int32) × (Nat → Int32) × (Int32)} (h : f_X11_sure N x1 x2 mSizes mSigns mPat mTyped mText mAt mFault mTests mTN mTS mTV mTB mRead mUns mUM = some o) : mQi l yX11_sure wo_X11_sure 4 D k [.ref (a 0), .int x1, .int x2] (wM k a mSizes mSigns mOdds mPat mTyped mText mAt mFault mTests mTN mTS mTV mTB mRead mUns mUM mBA mBH mThere mTypes mHeld mItems mMoved mFind) o.1 (wM k a mSizes mSigns mOdds mPat mTyped mText o.2.1 o.2.2.1 o.2.2.2.1 o.2.2.2.2.1 o.2.2.2.2.2.1 o.2.2.2.2.2.2.1 o.2.2.2.2.2.2.2.1 o.2.2.2.2.2.2.2.2.1 o.2.2.2.2.2.2.2.2.2.1 o.2.2.2.2.2.2.2.2.2.2 mBA mBH mThere mTypes mHeld mItems mMoved mFind) := by
  intro sz
  refine Met.ofW (cc := cX11_sure) (maxL := 8) (ret := some .int) (by decide) rfl ?_
  intro p e s m args below meth c s₁ B hml hv
  obtain ⟨rfl, hsz, hP, hK, hD0⟩ := hv
  subst hsz
  rw [lg_entry_eq]
  exact core_X11_sure D k a mSizes mSigns mOdds mPat mTyped mText mAt mFault mTests mTN mTS mTV mTB mRead mUns mUM mBA mBH mThere mTypes mHeld mItems mMoved mFind x1 x2 B.exec B.bytes hml B.returns (atoms_spec (ws := wo_X11_sure) B.pre) (findClass_of_methodNamed B.named) B.notSynchronized (lv_entry [.ref (a 0), .int x1, .int x2] (n := 8) (Nat.le_of_ble_eq_true rfl)) hK hP hD0.self (fun q h => Or.inr h) h
theorem qd_X11_sure : yX11_sure.cls = RX11 ∧ yX11_sure.cls ≠ "java/lang/invoke/MethodHandle" ∧ yX11_sure.cls ≠ "java/lang/invoke/VarHandle" ∧ (parseMethodDescriptor yX11_sure.desc).map (fun d => d.parameters.length) = some 2 := by decide +kernel
abbrev wo_X11_dealtMany : List Cond := .code yX11_dealtMany cX11_dealtMany 11 (some .int) :: wsL_law
set_option maxHeartbeats 4000000 in
set_option maxRecDepth 100000 in
theorem core_X11_dealtMany {N : Nat} (D : va_G) (k : Nat → ClassId) (a : Nat → Nat) (mSizes : Nat → Int32) (mSigns : Nat → Int32) (mOdds : Int32) (mPat : Int32) (mTyped : Int32) (mText : Nat → Int32) (mAt : Int32) (mFault : Int32) (mTests : Int32) (mTN : Nat → Int32) (mTS : Nat → Int32) (mTV : Nat → Int32) (mTB : Nat → Int32) (mRead : Int32) (mUns : Nat → Int32) (mUM : Int32) (mBA : Int32) (mBH : Int32) (mThere : Nat → Int32) (mTypes : Nat → Int32) (mHeld : Nat → Int32) (mItems : Nat → Int32) (mMoved : Nat → Int32) (mFind : Int32) (x1 : Int32) (x2 : Int32) (x3 : Int32) {p : Program} {l : Launch} {e : Env} {s : State} {m : MethodId} {args : Array Value} {below : List Frame} {meth : Method} {c : Code} {ls : Array Slot} (hx : p.tables.exec = Jvm.exec) (hb : c.code = cX11_dealtMany) (hml : c.maxLocals = 11) (hr : meth.sig.returnType = some .int) (hts : ∀ w ∈ wo_X11_dealtMany, w.before args s = true) (hown : s.vm.findClass RX11 = some m.cls) (hlocks : meth.locks = false) (hl : lv_has ls 11 [(0, .ref (a 0)), (1, .int x1), (2, .int x2), (3, .int x3)]) (hK : va_K D vwCl (xTys k) s) (hP : va_P D vwCl (wM k a mSizes mSigns mOdds mPat mTyped mText mAt mFault mTests mTN mTS mTV mTB mRead mUns mUM mBA mBH mThere mTypes mHeld mItems mMoved mFind) s.heap) {o : Int32} (h : f_X11_dealtMany N x1 x2 x3 mSizes mSigns mPat = some o) : gRi p l e wo_X11_dealtMany 3 s m args below meth c o (F0 m 0 ls []) := by
  have hi11 := (fun w h => List.mem_cons_of_mem _ (inlX11 w h) : ∀ w ∈ wsX110, w ∈ wo_X11_dealtMany)
  have kf7 := hts _ (List.mem_cons_of_mem _ wm_72)
  unfold f_X11_dealtMany at h
  have L39 : ∀ (n39 : Nat) (x2 : Int32) (x3 : Int32) (x4 : Int32) (x6 : Int32) (x7 : Int32) (x8 : Int32) (x9 : Int32) (ls : Array Slot) (hl : lv_has ls 11 [(0, .ref (a 0)), (2, .int x2), (3, .int x3), (4, .int x4), (6, .int x6), (7, .int x7), (8, .int x8), (9, .int x9)]) (h : f_X11_dealtMany_39 N n39 x2 x3 x4 x6 x7 x8 x9 mSizes mSigns mPat = some o), gRi p l e wo_X11_dealtMany 3 s m args below meth c o (F0 m 39 ls []) := by
    intro n39
    induction n39 with
    | zero => intro x2 x3 x4 x6 x7 x8 x9 ls hl h; cases (show (none : Option (Int32)) = some o from h)
    | succ n39 ih39 =>
      have J101 : ∀ (x2 : Int32) (x3 : Int32) (x4 : Int32) (x6 : Int32) (x7 : Int32) (x8 : Int32) (x9 : Int32) (ls : Array Slot) (hl : lv_has ls 11 [(0, .ref (a 0)), (2, .int x2), (3, .int x3), (4, .int x4), (6, .int x6), (7, .int x7), (8, .int x8), (9, .int x9)]) (h : f_X11_dealtMany_101 N (fun y0 y1 y2 y3 y4 y5 y6 y7 y8 y9 => f_X11_dealtMany_39 N n39 y0 y1 y2 y3 y4 y5 y6 y7 y8 y9) x2 x3 x4 x6 x7 x8 x9 mSizes mSigns mPat = some o), gRi p l e wo_X11_dealtMany 3 s m args below meth c o (F0 m 101 ls []) := by
        intro x2 x3 x4 x6 x7 x8 x9 ls hl h
        unfold f_X11_dealtMany_101 at h
        refine lv_iinc (v := (x9 + 1)) (lv' := [(9, .int (x9 + 1)), (0, .ref (a 0)), (2, .int x2), (3, .int x3), (4, .int x4), (6, .int x6), (7, .int x7), (8, .int x8)]) hx hb dX11_dealtMany_101 hl (k := 7) rfl rfl (by decide) rfl (fun ls hl => ?_)
        refine lv_goto (tgt := 39) hx hb dX11_dealtMany_104 (by decide) ?_
        exact ih39 x2 x3 x4 x6 x7 x8 (x9 + 1) ls (lv_sub hl [1, 2, 3, 4, 5, 6, 7, 0] rfl) h
      have J98 : ∀ (x2 : Int32) (x3 : Int32) (x4 : Int32) (x6 : Int32) (x7 : Int32) (x9 : Int32) (s0 : Int32) (s1 : Int32) (ls : Array Slot) (hl : lv_has ls 11 [(0, .ref (a 0)), (2, .int x2), (3, .int x3), (4, .int x4), (6, .int x6), (7, .int x7), (9, .int x9)]) (h : f_X11_dealtMany_98 N (fun y0 y1 y2 y3 y4 y5 y6 y7 y8 y9 => f_X11_dealtMany_39 N n39 y0 y1 y2 y3 y4 y5 y6 y7 y8 y9) x2 x3 x4 x6 x7 x9 s0 s1 mSizes mSigns mPat = some o), gRi p l e wo_X11_dealtMany 3 s m args below meth c o (F0 m 98 ls [.int s1, .int s0]) := by
        intro x2 x3 x4 x6 x7 x9 s0 s1 ls hl h
        unfold f_X11_dealtMany_98 at h
        refine lv_iadd hx hb dX11_dealtMany_98 ?_
        refine lv_istore (lv' := [(8, .int (s0 + s1)), (0, .ref (a 0)), (2, .int x2), (3, .int x3), (4, .int x4), (6, .int x6), (7, .int x7), (9, .int x9)]) hx hb dX11_dealtMany_99 hl (by decide) rfl (fun ls hl => ?_)
        exact J101 x2 x3 x4 x6 x7 (s0 + s1) x9 ls (lv_sub hl [1, 2, 3, 4, 5, 6, 0, 7] rfl) h
      have J97 : ∀ (x2 : Int32) (x3 : Int32) (x4 : Int32) (x6 : Int32) (x7 : Int32) (x9 : Int32) (s0 : Int32) (ls : Array Slot) (hl : lv_has ls 11 [(0, .ref (a 0)), (2, .int x2), (3, .int x3), (4, .int x4), (6, .int x6), (7, .int x7), (9, .int x9)]) (h : f_X11_dealtMany_97 N (fun y0 y1 y2 y3 y4 y5 y6 y7 y8 y9 => f_X11_dealtMany_39 N n39 y0 y1 y2 y3 y4 y5 y6 y7 y8 y9) x2 x3 x4 x6 x7 x9 s0 mSizes mSigns mPat = some o), gRi p l e wo_X11_dealtMany 3 s m args below meth c o (F0 m 97 ls [.int s0]) := by
        intro x2 x3 x4 x6 x7 x9 s0 ls hl h
        unfold f_X11_dealtMany_97 at h
        refine lv_iconst (v := 0) hx hb dX11_dealtMany_97 (by decide) ?_
        exact J98 x2 x3 x4 x6 x7 x9 s0 0 ls (lv_sub hl [0, 1, 2, 3, 4, 5, 6] rfl) h
      have J93 : ∀ (x2 : Int32) (x3 : Int32) (x4 : Int32) (x6 : Int32) (x7 : Int32) (x9 : Int32) (s0 : Int32) (ls : Array Slot) (hl : lv_has ls 11 [(0, .ref (a 0)), (2, .int x2), (3, .int x3), (4, .int x4), (6, .int x6), (7, .int x7), (9, .int x9)]) (h : f_X11_dealtMany_93 N (fun y0 y1 y2 y3 y4 y5 y6 y7 y8 y9 => f_X11_dealtMany_39 N n39 y0 y1 y2 y3 y4 y5 y6 y7 y8 y9) x2 x3 x4 x6 x7 x9 s0 mSizes mSigns mPat = some o), gRi p l e wo_X11_dealtMany 3 s m args below meth c o (F0 m 93 ls [.int s0]) := by
        intro x2 x3 x4 x6 x7 x9 s0 ls hl h
        unfold f_X11_dealtMany_93 at h
        refine lv_iconst (v := 1) hx hb dX11_dealtMany_93 (by decide) ?_
        refine lv_goto (tgt := 98) hx hb dX11_dealtMany_94 (by decide) ?_
        exact J98 x2 x3 x4 x6 x7 x9 s0 1 ls (lv_sub hl [0, 1, 2, 3, 4, 5, 6] rfl) h
      have J82 : ∀ (x2 : Int32) (x3 : Int32) (x4 : Int32) (x6 : Int32) (x7 : Int32) (x9 : Int32) (x10 : Int32) (s0 : Int32) (ls : Array Slot) (hl : lv_has ls 11 [(0, .ref (a 0)), (2, .int x2), (3, .int x3), (4, .int x4), (6, .int x6), (7, .int x7), (9, .int x9), (10, .int x10)]) (h : f_X11_dealtMany_82 N (fun y0 y1 y2 y3 y4 y5 y6 y7 y8 y9 => f_X11_dealtMany_39 N n39 y0 y1 y2 y3 y4 y5 y6 y7 y8 y9) x2 x3 x4 x6 x7 x9 x10 s0 mSizes mSigns mPat = some o), gRi p l e wo_X11_dealtMany 3 s m args below meth c o (F0 m 82 ls [.int s0]) := by
        intro x2 x3 x4 x6 x7 x9 x10 s0 ls hl h
        unfold f_X11_dealtMany_82 at h
        refine lv_iload_n hx hb dX11_dealtMany_82 rfl (lv_at hl 2 rfl) ?_
        refine lv_if_ne (tgt := 97) hx hb dX11_dealtMany_83 (by decide) (fun c1 => ?_) (fun c1 => ?_)
        · replace h := (if_neg c1).symm.trans h
          exact J97 x2 x3 x4 x6 x7 x9 s0 ls (lv_sub hl [0, 1, 2, 3, 4, 5, 6] rfl) h
        · replace h := (if_pos c1).symm.trans h
          refine lv_iload hx hb dX11_dealtMany_86 (lv_at hl 7 rfl) ?_
          refine lv_iload hx hb dX11_dealtMany_88 (lv_at hl 5 rfl) ?_
          refine lv_icmp_gt (tgt := 97) hx hb dX11_dealtMany_90 (by decide) (fun c2 => ?_) (fun c2 => ?_)
          · replace h := (if_pos c2).symm.trans h
            exact J97 x2 x3 x4 x6 x7 x9 s0 ls (lv_sub hl [0, 1, 2, 3, 4, 5, 6] rfl) h
          · replace h := (if_neg c2).symm.trans h
            exact J93 x2 x3 x4 x6 x7 x9 s0 ls (lv_sub hl [0, 1, 2, 3, 4, 5, 6] rfl) h
      intro x2 x3 x4 x6 x7 x8 x9 ls hl h
      rw [f_X11_dealtMany_39] at h
      refine lv_iload hx hb dX11_dealtMany_39 (lv_at hl 7 rfl) ?_
      refine lv_iconst (v := 1) hx hb dX11_dealtMany_41 (by decide) ?_
      refine lv_iload hx hb dX11_dealtMany_42 (lv_at hl 3 rfl) ?_
      refine lv_ishl hx hb dX11_dealtMany_44 ?_
      refine lv_icmp_ge (tgt := 107) hx hb dX11_dealtMany_45 (by decide) (fun c3 => ?_) (fun c3 => ?_)
      · replace h := (if_pos c3).symm.trans h
        refine lv_iload hx hb dX11_dealtMany_107 (lv_at hl 6 rfl) ?_
        exact W.iret (v := x8) hx hb hr (fun t ht hW => ⟨_, rfl, Option.some.inj h, ht⟩) (fun q hq => by cases hq) dX11_dealtMany_109
      · replace h := (if_neg c3).symm.trans h
        refine lv_iload hx hb dX11_dealtMany_48 (lv_at hl 7 rfl) ?_
        obtain ⟨o4, eq5, h⟩ := bnd_some h
        refine kPi (rest := []) ⟨hx, hb, hml, hown, hts⟩ (c_X11_ones l x9 eq5) (va_cwS 1 hts (gAS wm_253 wm_254 wm_5 wm_255) rfl rfl rfl qd_X11_ones ⟨Nat.le_of_ble_eq_true rfl, Nat.le_of_ble_eq_true rfl⟩) rfl hl.1 rfl (Nat.le_of_ble_eq_true rfl) dX11_dealtMany_50 ⟨Nat.zero_le _, Nat.zero_le _⟩ ?_
        refine lv_iload hx hb dX11_dealtMany_53 (lv_at hl 4 rfl) ?_
        refine lv_icmp_ne (tgt := 101) hx hb dX11_dealtMany_55 (by decide) (fun c6 => ?_) (fun c6 => ?_)
        · replace h := (if_neg c6).symm.trans h
          exact J101 x2 x3 x4 x6 x7 x8 x9 ls (lv_sub hl [0, 1, 2, 3, 4, 5, 6, 7] rfl) h
        · replace h := (if_pos c6).symm.trans h
          refine lv_aload_n hx hb dX11_dealtMany_58 rfl (lv_at hl 0 rfl) ?_
          refine lv_iload hx hb dX11_dealtMany_59 (lv_at hl 7 rfl) ?_
          refine lv_iload hx hb dX11_dealtMany_61 (lv_at hl 3 rfl) ?_
          refine lv_iload_n hx hb dX11_dealtMany_63 rfl (lv_at hl 1 rfl) ?_
          obtain ⟨o7, eq8, h⟩ := bnd_some h
          refine kRiV (rest := []) (q0 := 0) ⟨hx, hb, hml, hown, hts⟩ (c_X11_numberOf l D k a mSizes mSigns mOdds mPat mTyped mText mAt mFault mTests mTN mTS mTV mTB mRead mUns mUM mBA mBH mThere mTypes mHeld mItems mMoved mFind x9 x4 x2 eq8) (cwV 3 hts (gAV wm_249 wm_250 wm_251 wm_5 wm_252) rfl rfl rfl qd_X11_numberOf ⟨Nat.le_of_ble_eq_true rfl, Nat.le_of_ble_eq_true rfl⟩) hK hP (rfl) rfl rfl hl.1 rfl (Nat.le_of_ble_eq_true rfl) dX11_dealtMany_64 ⟨Nat.zero_le _, Nat.zero_le _⟩ ?_
          refine lv_istore (lv' := [(10, .int o7), (0, .ref (a 0)), (2, .int x2), (3, .int x3), (4, .int x4), (6, .int x6), (7, .int x7), (8, .int x8), (9, .int x9)]) hx hb dX11_dealtMany_67 hl (by decide) rfl (fun ls hl => ?_)
          refine lv_iload hx hb dX11_dealtMany_69 (lv_at hl 7 rfl) ?_
          refine lv_iload_n hx hb dX11_dealtMany_71 rfl (lv_at hl 3 rfl) ?_
          refine lv_if_eq (tgt := 82) hx hb dX11_dealtMany_72 (by decide) (fun c9 => ?_) (fun c9 => ?_)
          · replace h := (if_pos c9).symm.trans h
            exact J82 x2 x3 x4 x6 x7 x9 o7 x8 ls (lv_sub hl [1, 2, 3, 4, 5, 6, 8, 0] rfl) h
          · replace h := (if_neg c9).symm.trans h
            refine lv_iload hx hb dX11_dealtMany_75 (lv_at hl 0 rfl) ?_
            refine lv_iload hx hb dX11_dealtMany_77 (lv_at hl 6 rfl) ?_
            refine lv_icmp_ge (tgt := 93) hx hb dX11_dealtMany_79 (by decide) (fun c10 => ?_) (fun c10 => ?_)
            · replace h := (if_pos c10).symm.trans h
              exact J93 x2 x3 x4 x6 x7 x9 x8 ls (lv_sub hl [1, 2, 3, 4, 5, 6, 8] rfl) h
            · replace h := (if_neg c10).symm.trans h
              exact J82 x2 x3 x4 x6 x7 x9 o7 x8 ls (lv_sub hl [1, 2, 3, 4, 5, 6, 8, 0] rfl) h
  refine lv_aload_n hx hb dX11_dealtMany_0 rfl (lv_at hl 0 rfl) ?_
  refine va_get (D := D) (ci := 6) (v := .ref (a 1)) (C := RX11) (T := TX11) (N := 24) hx hb hts hi11 hown hK hP (0) (rfl) rfl 0 (by decide) kf7 (fun _ h9 => h9) rfl dX11_dealtMany_1 ?_
  refine lv_iload_n hx hb dX11_dealtMany_4 rfl (lv_at hl 1 rfl) ?_
  obtain ⟨g11, h⟩ := gIn_some h
  refine va_iald hx hb hK hP (1) 0 (rfl) rfl g11 dX11_dealtMany_5 ?_
  refine lv_istore (lv' := [(4, .int (mSizes x1.toNatClampNeg)), (0, .ref (a 0)), (1, .int x1), (2, .int x2), (3, .int x3)]) hx hb dX11_dealtMany_6 hl (by decide) rfl (fun ls hl => ?_)
  refine lv_aload_n hx hb dX11_dealtMany_8 rfl (lv_at hl 1 rfl) ?_
  refine lv_iload_n hx hb dX11_dealtMany_9 rfl (lv_at hl 2 rfl) ?_
  obtain ⟨o12, eq13, h⟩ := bnd_some h
  refine kRiV (rest := []) (q0 := 0) ⟨hx, hb, hml, hown, hts⟩ (c_X11_bitsOf l D k a mSizes mSigns mOdds mPat mTyped mText mAt mFault mTests mTN mTS mTV mTB mRead mUns mUM mBA mBH mThere mTypes mHeld mItems mMoved mFind x1 eq13) (cwV 1 hts (gAV wm_245 wm_246 wm_247 wm_5 wm_248) rfl rfl rfl qd_X11_bitsOf ⟨Nat.le_of_ble_eq_true rfl, Nat.le_of_ble_eq_true rfl⟩) hK hP (rfl) rfl rfl hl.1 rfl (Nat.le_of_ble_eq_true rfl) dX11_dealtMany_10 ⟨Nat.zero_le _, Nat.zero_le _⟩ ?_
  refine lv_istore (lv' := [(5, .int o12), (4, .int (mSizes x1.toNatClampNeg)), (0, .ref (a 0)), (1, .int x1), (2, .int x2), (3, .int x3)]) hx hb dX11_dealtMany_13 hl (by decide) rfl (fun ls hl => ?_)
  refine lv_iload hx hb dX11_dealtMany_15 (lv_at hl 0 rfl) ?_
  obtain ⟨o14, eq15, h⟩ := bnd_some h
  refine kPi (rest := []) ⟨hx, hb, hml, hown, hts⟩ (c_X11_ones l o12 eq15) (va_cwS 1 hts (gAS wm_253 wm_254 wm_5 wm_255) rfl rfl rfl qd_X11_ones ⟨Nat.le_of_ble_eq_true rfl, Nat.le_of_ble_eq_true rfl⟩) rfl hl.1 rfl (Nat.le_of_ble_eq_true rfl) dX11_dealtMany_17 ⟨Nat.zero_le _, Nat.zero_le _⟩ ?_
  refine lv_istore (lv' := [(6, .int o14), (5, .int o12), (4, .int (mSizes x1.toNatClampNeg)), (0, .ref (a 0)), (1, .int x1), (2, .int x2), (3, .int x3)]) hx hb dX11_dealtMany_20 hl (by decide) rfl (fun ls hl => ?_)
  refine lv_aload_n hx hb dX11_dealtMany_22 rfl (lv_at hl 3 rfl) ?_
  refine lv_iload hx hb dX11_dealtMany_23 (lv_at hl 1 rfl) ?_
  refine lv_iload hx hb dX11_dealtMany_25 (lv_at hl 2 rfl) ?_
  refine lv_iload_n hx hb dX11_dealtMany_27 rfl (lv_at hl 5 rfl) ?_
  obtain ⟨o16, eq17, h⟩ := bnd_some h
  refine kRiV (rest := []) (q0 := 0) ⟨hx, hb, hml, hown, hts⟩ (c_X11_numberOf l D k a mSizes mSigns mOdds mPat mTyped mText mAt mFault mTests mTN mTS mTV mTB mRead mUns mUM mBA mBH mThere mTypes mHeld mItems mMoved mFind o12 (mSizes x1.toNatClampNeg) x2 eq17) (cwV 3 hts (gAV wm_249 wm_250 wm_251 wm_5 wm_252) rfl rfl rfl qd_X11_numberOf ⟨Nat.le_of_ble_eq_true rfl, Nat.le_of_ble_eq_true rfl⟩) hK hP (rfl) rfl rfl hl.1 rfl (Nat.le_of_ble_eq_true rfl) dX11_dealtMany_28 ⟨Nat.zero_le _, Nat.zero_le _⟩ ?_
  refine lv_istore (lv' := [(7, .int o16), (6, .int o14), (5, .int o12), (4, .int (mSizes x1.toNatClampNeg)), (0, .ref (a 0)), (1, .int x1), (2, .int x2), (3, .int x3)]) hx hb dX11_dealtMany_31 hl (by decide) rfl (fun ls hl => ?_)
  refine lv_iconst (v := 0) hx hb dX11_dealtMany_33 (by decide) ?_
  refine lv_istore (lv' := [(8, .int 0), (7, .int o16), (6, .int o14), (5, .int o12), (4, .int (mSizes x1.toNatClampNeg)), (0, .ref (a 0)), (1, .int x1), (2, .int x2), (3, .int x3)]) hx hb dX11_dealtMany_34 hl (by decide) rfl (fun ls hl => ?_)
  refine lv_iconst (v := 0) hx hb dX11_dealtMany_36 (by decide) ?_
  refine lv_istore (lv' := [(9, .int 0), (8, .int 0), (7, .int o16), (6, .int o14), (5, .int o12), (4, .int (mSizes x1.toNatClampNeg)), (0, .ref (a 0)), (1, .int x1), (2, .int x2), (3, .int x3)]) hx hb dX11_dealtMany_37 hl (by decide) rfl (fun ls hl => ?_)
  exact L39 N x2 x3 (mSizes x1.toNatClampNeg) o14 o16 0 0 ls (lv_sub hl [6, 8, 9, 5, 3, 2, 1, 0] rfl) h
set_option maxHeartbeats 4000000 in
set_option maxRecDepth 100000 in
theorem c_X11_dealtMany {N : Nat} (l : Launch) (D : va_G) (k : Nat → ClassId) (a : Nat → Nat) (mSizes : Nat → Int32) (mSigns : Nat → Int32) (mOdds : Int32) (mPat : Int32) (mTyped : Int32) (mText : Nat → Int32) (mAt : Int32) (mFault : Int32) (mTests : Int32) (mTN : Nat → Int32) (mTS : Nat → Int32) (mTV : Nat → Int32) (mTB : Nat → Int32) (mRead : Int32) (mUns : Nat → Int32) (mUM : Int32) (mBA : Int32) (mBH : Int32) (mThere : Nat → Int32) (mTypes : Nat → Int32) (mHeld : Nat → Int32) (mItems : Nat → Int32) (mMoved : Nat → Int32) (mFind : Int32) (x1 : Int32) (x2 : Int32) (x3 : Int32) {o : Int32} (h : f_X11_dealtMany N x1 x2 x3 mSizes mSigns mPat = some o) : mRi l yX11_dealtMany wo_X11_dealtMany 3 D k [.ref (a 0), .int x1, .int x2, .int x3] (wM k a mSizes mSigns mOdds mPat mTyped mText mAt mFault mTests mTN mTS mTV mTB mRead mUns mUM mBA mBH mThere mTypes mHeld mItems mMoved mFind) o := by
  refine Met.ofW (cc := cX11_dealtMany) (maxL := 11) (ret := some .int) (by decide) rfl ?_
  intro p e s m args below meth c s₁ B hml hv
  obtain ⟨rfl, hP, hK⟩ := hv
  rw [lg_entry_eq]
  exact core_X11_dealtMany D k a mSizes mSigns mOdds mPat mTyped mText mAt mFault mTests mTN mTS mTV mTB mRead mUns mUM mBA mBH mThere mTypes mHeld mItems mMoved mFind x1 x2 x3 B.exec B.bytes hml B.returns (atoms_spec (ws := wo_X11_dealtMany) B.pre) (findClass_of_methodNamed B.named) B.notSynchronized (lv_entry [.ref (a 0), .int x1, .int x2, .int x3] (n := 11) (Nat.le_of_ble_eq_true rfl)) hK hP h
theorem qd_X11_dealtMany : yX11_dealtMany.cls = RX11 ∧ yX11_dealtMany.cls ≠ "java/lang/invoke/MethodHandle" ∧ yX11_dealtMany.cls ≠ "java/lang/invoke/VarHandle" ∧ (parseMethodDescriptor yX11_dealtMany.desc).map (fun d => d.parameters.length) = some 3 := by decide +kernel
abbrev wo_X11_choose : List Cond := .code yX11_choose cX11_choose 5 (some .long) :: wsL_law
set_option maxHeartbeats 4000000 in
set_option maxRecDepth 100000 in
theorem core_X11_choose {N : Nat} (x0 : Int32) (x1 : Int32) {p : Program} {l : Launch} {e : Env} {s : State} {m : MethodId} {args : Array Value} {below : List Frame} {meth : Method} {c : Code} {ls : Array Slot} (hx : p.tables.exec = Jvm.exec) (hb : c.code = cX11_choose) (hml : c.maxLocals = 5) (hr : meth.sig.returnType = some .long) (hts : ∀ w ∈ wo_X11_choose, w.before args s = true) (hown : s.vm.findClass RX11 = some m.cls) (hlocks : meth.locks = false) (hl : lv_has ls 5 [(0, .int x0), (1, .int x1)]) {o : Int64} (h : f_X11_choose N x0 x1 = some o) : gRl p l e wo_X11_choose 0 s m args below meth c o (F0 m 0 ls []) := by
  unfold f_X11_choose at h
  have L5 : ∀ (n5 : Nat) (x0 : Int32) (x1 : Int32) (x2 : Int64) (x4 : Int32) (ls : Array Slot) (hl : lv_has ls 5 [(0, .int x0), (1, .int x1), (2, .long x2), (4, .int x4)]) (h : f_X11_choose_5 N n5 x0 x1 x2 x4 = some o), gRl p l e wo_X11_choose 0 s m args below meth c o (F0 m 5 ls []) := by
    intro n5
    induction n5 with
    | zero => intro x0 x1 x2 x4 ls hl h; cases (show (none : Option (Int64)) = some o from h)
    | succ n5 ih5 =>
      intro x0 x1 x2 x4 ls hl h
      rw [f_X11_choose_5] at h
      refine lv_iload hx hb dX11_choose_5 (lv_at hl 3 rfl) ?_
      refine lv_iload_n hx hb dX11_choose_7 rfl (lv_at hl 1 rfl) ?_
      refine lv_icmp_gt (tgt := 31) hx hb dX11_choose_8 (by decide) (fun c1 => ?_) (fun c1 => ?_)
      · replace h := (if_pos c1).symm.trans h
        refine lv_lload_n hx hb dX11_choose_31 rfl (lv_at hl 2 rfl) ?_
        exact W.lret (v := x2) hx hb hr (fun t ht hW => ⟨_, rfl, Option.some.inj h, ht⟩) (fun q hq => by cases hq) dX11_choose_32
      · replace h := (if_neg c1).symm.trans h
        refine lv_lload_n hx hb dX11_choose_11 rfl (lv_at hl 2 rfl) ?_
        refine lv_iload_n hx hb dX11_choose_12 rfl (lv_at hl 0 rfl) ?_
        refine lv_iload_n hx hb dX11_choose_13 rfl (lv_at hl 1 rfl) ?_
        refine lv_isub hx hb dX11_choose_14 ?_
        refine lv_iload hx hb dX11_choose_15 (lv_at hl 3 rfl) ?_
        refine lv_iadd hx hb dX11_choose_17 ?_
        refine lv_i2l (v := ((x0 - x1) + x4).toInt64) hx hb dX11_choose_18 rfl ?_
        refine lv_lmul hx hb dX11_choose_19 ?_
        refine lv_iload hx hb dX11_choose_20 (lv_at hl 3 rfl) ?_
        refine lv_i2l (v := x4.toInt64) hx hb dX11_choose_22 rfl ?_
        obtain ⟨g2, h⟩ := gNeL_some h
        refine lv_ldiv hx hb dX11_choose_23 g2 ?_
        refine lv_lstore_n (lv' := [(2, .long ((x2 * ((x0 - x1) + x4).toInt64) / x4.toInt64)), (0, .int x0), (1, .int x1), (4, .int x4)]) hx hb dX11_choose_24 rfl hl (by decide) rfl (fun ls hl => ?_)
        refine lv_iinc (v := (x4 + 1)) (lv' := [(4, .int (x4 + 1)), (2, .long ((x2 * ((x0 - x1) + x4).toInt64) / x4.toInt64)), (0, .int x0), (1, .int x1)]) hx hb dX11_choose_25 hl (k := 3) rfl rfl (by decide) rfl (fun ls hl => ?_)
        refine lv_goto (tgt := 5) hx hb dX11_choose_28 (by decide) ?_
        exact ih5 x0 x1 ((x2 * ((x0 - x1) + x4).toInt64) / x4.toInt64) (x4 + 1) ls (lv_sub hl [2, 3, 1, 0] rfl) h
  refine lv_lconst (v := 1) hx hb dX11_choose_0 rfl ?_
  refine lv_lstore_n (lv' := [(2, .long 1), (0, .int x0), (1, .int x1)]) hx hb dX11_choose_1 rfl hl (by decide) rfl (fun ls hl => ?_)
  refine lv_iconst (v := 1) hx hb dX11_choose_2 (by decide) ?_
  refine lv_istore (lv' := [(4, .int 1), (2, .long 1), (0, .int x0), (1, .int x1)]) hx hb dX11_choose_3 hl (by decide) rfl (fun ls hl => ?_)
  exact L5 N x0 x1 1 1 ls (lv_sub hl [2, 3, 1, 0] rfl) h
set_option maxHeartbeats 4000000 in
set_option maxRecDepth 100000 in
theorem c_X11_choose {N : Nat} (l : Launch) (x0 : Int32) (x1 : Int32) {o : Int64} (h : f_X11_choose N x0 x1 = some o) : mPl l yX11_choose wo_X11_choose 0 [.int x0, .int x1] o := by
  refine Met.ofW (cc := cX11_choose) (maxL := 5) (ret := some .long) (by decide) rfl ?_
  intro p e s m args below meth c s₁ B hml hv
  obtain ⟨rfl, -⟩ := hv
  rw [lg_entry_eq]
  exact core_X11_choose x0 x1 B.exec B.bytes hml B.returns (atoms_spec (ws := wo_X11_choose) B.pre) (findClass_of_methodNamed B.named) B.notSynchronized (lv_entry [.int x0, .int x1] (n := 5) (Nat.le_of_ble_eq_true rfl)) h
theorem qd_X11_choose : yX11_choose.cls ≠ "java/lang/invoke/MethodHandle" ∧ yX11_choose.cls ≠ "java/lang/invoke/VarHandle" ∧ (parseMethodDescriptor yX11_choose.desc).map (fun d => d.parameters.length) = some 2 := by decide +kernel
abbrev wo_X11_dealtAll : List Cond := .code yX11_dealtAll cX11_dealtAll 2 (some .long) :: wsL_law
set_option maxHeartbeats 4000000 in
set_option maxRecDepth 100000 in
theorem core_X11_dealtAll {N : Nat} (D : va_G) (k : Nat → ClassId) (a : Nat → Nat) (mSizes : Nat → Int32) (mSigns : Nat → Int32) (mOdds : Int32) (mPat : Int32) (mTyped : Int32) (mText : Nat → Int32) (mAt : Int32) (mFault : Int32) (mTests : Int32) (mTN : Nat → Int32) (mTS : Nat → Int32) (mTV : Nat → Int32) (mTB : Nat → Int32) (mRead : Int32) (mUns : Nat → Int32) (mUM : Int32) (mBA : Int32) (mBH : Int32) (mThere : Nat → Int32) (mTypes : Nat → Int32) (mHeld : Nat → Int32) (mItems : Nat → Int32) (mMoved : Nat → Int32) (mFind : Int32) (x1 : Int32) {p : Program} {l : Launch} {e : Env} {s : State} {m : MethodId} {args : Array Value} {below : List Frame} {meth : Method} {c : Code} {ls : Array Slot} (hx : p.tables.exec = Jvm.exec) (hb : c.code = cX11_dealtAll) (hml : c.maxLocals = 2) (hr : meth.sig.returnType = some .long) (hts : ∀ w ∈ wo_X11_dealtAll, w.before args s = true) (hown : s.vm.findClass RX11 = some m.cls) (hlocks : meth.locks = false) (hl : lv_has ls 2 [(0, .ref (a 0)), (1, .int x1)]) (hK : va_K D vwCl (xTys k) s) (hP : va_P D vwCl (wM k a mSizes mSigns mOdds mPat mTyped mText mAt mFault mTests mTN mTS mTV mTB mRead mUns mUM mBA mBH mThere mTypes mHeld mItems mMoved mFind) s.heap) {o : Int64} (h : f_X11_dealtAll N x1 mSizes mSigns = some o) : gRl p l e wo_X11_dealtAll 1 s m args below meth c o (F0 m 0 ls []) := by
  have hi11 := (fun w h => List.mem_cons_of_mem _ (inlX11 w h) : ∀ w ∈ wsX110, w ∈ wo_X11_dealtAll)
  have kf7 := hts _ (List.mem_cons_of_mem _ wm_72)
  unfold f_X11_dealtAll at h
  refine lv_aload_n hx hb dX11_dealtAll_0 rfl (lv_at hl 0 rfl) ?_
  refine va_get (D := D) (ci := 6) (v := .ref (a 1)) (C := RX11) (T := TX11) (N := 24) hx hb hts hi11 hown hK hP (0) (rfl) rfl 0 (by decide) kf7 (fun _ h9 => h9) rfl dX11_dealtAll_1 ?_
  refine lv_iload_n hx hb dX11_dealtAll_4 rfl (lv_at hl 1 rfl) ?_
  obtain ⟨g1, h⟩ := gIn_some h
  refine va_iald hx hb hK hP (1) 0 (rfl) rfl g1 dX11_dealtAll_5 ?_
  refine lv_aload_n hx hb dX11_dealtAll_6 rfl (lv_at hl 0 rfl) ?_
  refine lv_iload_n hx hb dX11_dealtAll_7 rfl (lv_at hl 1 rfl) ?_
  obtain ⟨o2, eq3, h⟩ := bnd_some h
  refine kRiV (rest := [.int (mSizes x1.toNatClampNeg)]) (q0 := 0) ⟨hx, hb, hml, hown, hts⟩ (c_X11_bitsOf l D k a mSizes mSigns mOdds mPat mTyped mText mAt mFault mTests mTN mTS mTV mTB mRead mUns mUM mBA mBH mThere mTypes mHeld mItems mMoved mFind x1 eq3) (cwV 1 hts (gAV wm_245 wm_246 wm_247 wm_5 wm_248) rfl rfl rfl qd_X11_bitsOf ⟨Nat.le_of_ble_eq_true rfl, Nat.le_of_ble_eq_true rfl⟩) hK hP (rfl) rfl rfl hl.1 rfl (Nat.le_of_ble_eq_true rfl) dX11_dealtAll_8 ⟨Nat.zero_le _, Nat.zero_le _⟩ ?_
  obtain ⟨o4, eq5, h⟩ := bnd_some h
  refine kPi (rest := [.int (mSizes x1.toNatClampNeg)]) ⟨hx, hb, hml, hown, hts⟩ (c_X11_ones l o2 eq5) (va_cwS 1 hts (gAS wm_253 wm_254 wm_5 wm_255) rfl rfl rfl qd_X11_ones ⟨Nat.le_of_ble_eq_true rfl, Nat.le_of_ble_eq_true rfl⟩) rfl hl.1 rfl (Nat.le_of_ble_eq_true rfl) dX11_dealtAll_11 ⟨Nat.zero_le _, Nat.zero_le _⟩ ?_
  obtain ⟨o6, eq7, h⟩ := bnd_some h
  refine kPl (rest := []) ⟨hx, hb, hml, hown, hts⟩ (c_X11_choose l (mSizes x1.toNatClampNeg) o4 eq7) (va_cwS 2 hts (gAS wm_620 wm_621 wm_5 wm_622) rfl rfl rfl qd_X11_choose ⟨Nat.le_of_ble_eq_true rfl, Nat.le_of_ble_eq_true rfl⟩) rfl hl.1 rfl (Nat.le_of_ble_eq_true rfl) dX11_dealtAll_14 ⟨Nat.zero_le _, Nat.zero_le _⟩ ?_
  exact W.lret (v := o6) hx hb hr (fun t ht hW => ⟨_, rfl, Option.some.inj h, ht⟩) (fun q hq => by cases hq) dX11_dealtAll_17
set_option maxHeartbeats 4000000 in
set_option maxRecDepth 100000 in
theorem c_X11_dealtAll {N : Nat} (l : Launch) (D : va_G) (k : Nat → ClassId) (a : Nat → Nat) (mSizes : Nat → Int32) (mSigns : Nat → Int32) (mOdds : Int32) (mPat : Int32) (mTyped : Int32) (mText : Nat → Int32) (mAt : Int32) (mFault : Int32) (mTests : Int32) (mTN : Nat → Int32) (mTS : Nat → Int32) (mTV : Nat → Int32) (mTB : Nat → Int32) (mRead : Int32) (mUns : Nat → Int32) (mUM : Int32) (mBA : Int32) (mBH : Int32) (mThere : Nat → Int32) (mTypes : Nat → Int32) (mHeld : Nat → Int32) (mItems : Nat → Int32) (mMoved : Nat → Int32) (mFind : Int32) (x1 : Int32) {o : Int64} (h : f_X11_dealtAll N x1 mSizes mSigns = some o) : mRl l yX11_dealtAll wo_X11_dealtAll 1 D k [.ref (a 0), .int x1] (wM k a mSizes mSigns mOdds mPat mTyped mText mAt mFault mTests mTN mTS mTV mTB mRead mUns mUM mBA mBH mThere mTypes mHeld mItems mMoved mFind) o := by
  refine Met.ofW (cc := cX11_dealtAll) (maxL := 2) (ret := some .long) (by decide) rfl ?_
  intro p e s m args below meth c s₁ B hml hv
  obtain ⟨rfl, hP, hK⟩ := hv
  rw [lg_entry_eq]
  exact core_X11_dealtAll D k a mSizes mSigns mOdds mPat mTyped mText mAt mFault mTests mTN mTS mTV mTB mRead mUns mUM mBA mBH mThere mTypes mHeld mItems mMoved mFind x1 B.exec B.bytes hml B.returns (atoms_spec (ws := wo_X11_dealtAll) B.pre) (findClass_of_methodNamed B.named) B.notSynchronized (lv_entry [.ref (a 0), .int x1] (n := 2) (Nat.le_of_ble_eq_true rfl)) hK hP h
theorem qd_X11_dealtAll : yX11_dealtAll.cls = RX11 ∧ yX11_dealtAll.cls ≠ "java/lang/invoke/MethodHandle" ∧ yX11_dealtAll.cls ≠ "java/lang/invoke/VarHandle" ∧ (parseMethodDescriptor yX11_dealtAll.desc).map (fun d => d.parameters.length) = some 1 := by decide +kernel
abbrev wo_X11_dealt : List Cond := .code yX11_dealt cX11_dealt 4 (some .int) :: wsL_law
set_option maxHeartbeats 4000000 in
set_option maxRecDepth 100000 in
theorem core_X11_dealt {N : Nat} (D : va_G) (k : Nat → ClassId) (a : Nat → Nat) (mSizes : Nat → Int32) (mSigns : Nat → Int32) (mOdds : Int32) (mPat : Int32) (mTyped : Int32) (mText : Nat → Int32) (mAt : Int32) (mFault : Int32) (mTests : Int32) (mTN : Nat → Int32) (mTS : Nat → Int32) (mTV : Nat → Int32) (mTB : Nat → Int32) (mRead : Int32) (mUns : Nat → Int32) (mUM : Int32) (mBA : Int32) (mBH : Int32) (mThere : Nat → Int32) (mTypes : Nat → Int32) (mHeld : Nat → Int32) (mItems : Nat → Int32) (mMoved : Nat → Int32) (mFind : Int32) (x1 : Int32) (x2 : Int32) (x3 : Int32) {p : Program} {l : Launch} {e : Env} {s : State} {m : MethodId} {args : Array Value} {below : List Frame} {meth : Method} {c : Code} {ls : Array Slot} (hx : p.tables.exec = Jvm.exec) (hb : c.code = cX11_dealt) (hml : c.maxLocals = 4) (hr : meth.sig.returnType = some .int) (hts : ∀ w ∈ wo_X11_dealt, w.before args s = true) (hown : s.vm.findClass RX11 = some m.cls) (hlocks : meth.locks = false) (hl : lv_has ls 4 [(0, .ref (a 0)), (1, .int x1), (2, .int x2), (3, .int x3)]) (hK : va_K D vwCl (xTys k) s) (hP : va_P D vwCl (wM k a mSizes mSigns mOdds mPat mTyped mText mAt mFault mTests mTN mTS mTV mTB mRead mUns mUM mBA mBH mThere mTypes mHeld mItems mMoved mFind) s.heap) {o : Int32} (h : f_X11_dealt N x1 x2 x3 mSizes mSigns mPat = some o) : gRi p l e wo_X11_dealt 4 s m args below meth c o (F0 m 0 ls []) := by
  have kc165 := hts _ (List.mem_cons_of_mem _ wm_611)
  unfold f_X11_dealt at h
  refine lv_iload_n hx hb dX11_dealt_0 rfl (lv_at hl 1 rfl) ?_
  obtain ⟨o1, eq2, h⟩ := bnd_some h
  refine kPi (rest := []) ⟨hx, hb, hml, hown, hts⟩ (c_X11_isRow l x1 eq2) (va_cwS 1 hts (gAS wm_117 wm_118 wm_5 wm_119) rfl rfl rfl qd_X11_isRow ⟨Nat.le_of_ble_eq_true rfl, Nat.le_of_ble_eq_true rfl⟩) rfl hl.1 rfl (Nat.le_of_ble_eq_true rfl) dX11_dealt_1 ⟨Nat.zero_le _, Nat.zero_le _⟩ ?_
  refine lv_if_eq (tgt := 17) hx hb dX11_dealt_4 (by decide) (fun c3 => ?_) (fun c3 => ?_)
  · replace h := (if_pos c3).symm.trans h
    refine lv_bipush (v := (-2)) hx hb dX11_dealt_17 (by decide) ?_
    exact W.iret (v := (-2)) hx hb hr (fun t ht hW => ⟨_, rfl, Option.some.inj h, ht⟩) (fun q hq => by cases hq) dX11_dealt_19
  · replace h := (if_neg c3).symm.trans h
    refine lv_iload_n hx hb dX11_dealt_7 rfl (lv_at hl 2 rfl) ?_
    refine lv_iconst (v := 0) hx hb dX11_dealt_8 (by decide) ?_
    refine lv_bipush (v := 6) hx hb dX11_dealt_9 (by decide) ?_
    obtain ⟨o4, eq5, h⟩ := bnd_some h
    refine kPi (rest := []) ⟨hx, hb, hml, hown, hts⟩ (c_X11_in l x2 0 6 eq5) (va_cwS 3 hts (gAS wm_120 wm_121 wm_5 wm_122) rfl rfl rfl qd_X11_in ⟨Nat.le_of_ble_eq_true rfl, Nat.le_of_ble_eq_true rfl⟩) rfl hl.1 rfl (Nat.le_of_ble_eq_true rfl) dX11_dealt_11 ⟨Nat.zero_le _, Nat.zero_le _⟩ ?_
    refine lv_if_ne (tgt := 20) hx hb dX11_dealt_14 (by decide) (fun c6 => ?_) (fun c6 => ?_)
    · replace h := (if_neg c6).symm.trans h
      refine lv_aload_n hx hb dX11_dealt_20 rfl (lv_at hl 0 rfl) ?_
      refine lv_iload_n hx hb dX11_dealt_21 rfl (lv_at hl 1 rfl) ?_
      obtain ⟨o7, eq8, h⟩ := bnd_some h
      refine kRiV (rest := []) (q0 := 0) ⟨hx, hb, hml, hown, hts⟩ (c_X11_isWhole l D k a mSizes mSigns mOdds mPat mTyped mText mAt mFault mTests mTN mTS mTV mTB mRead mUns mUM mBA mBH mThere mTypes mHeld mItems mMoved mFind x1 eq8) (cwV 1 hts (gAV wm_241 wm_242 wm_243 wm_5 wm_244) rfl rfl rfl qd_X11_isWhole ⟨Nat.le_of_ble_eq_true rfl, Nat.le_of_ble_eq_true rfl⟩) hK hP (rfl) rfl rfl hl.1 rfl (Nat.le_of_ble_eq_true rfl) dX11_dealt_22 ⟨Nat.zero_le _, Nat.zero_le _⟩ ?_
      refine lv_if_eq (tgt := 50) hx hb dX11_dealt_25 (by decide) (fun c9 => ?_) (fun c9 => ?_)
      · replace h := (if_pos c9).symm.trans h
        refine lv_bipush (v := (-3)) hx hb dX11_dealt_50 (by decide) ?_
        exact W.iret (v := (-3)) hx hb hr (fun t ht hW => ⟨_, rfl, Option.some.inj h, ht⟩) (fun q hq => by cases hq) dX11_dealt_52
      · replace h := (if_neg c9).symm.trans h
        refine lv_ldc2 (v := 1000000) hx hb hown kc165 dX11_dealt_28 ?_
        refine lv_aload_n hx hb dX11_dealt_31 rfl (lv_at hl 0 rfl) ?_
        refine lv_iload_n hx hb dX11_dealt_32 rfl (lv_at hl 1 rfl) ?_
        refine lv_iload_n hx hb dX11_dealt_33 rfl (lv_at hl 2 rfl) ?_
        refine lv_iload_n hx hb dX11_dealt_34 rfl (lv_at hl 3 rfl) ?_
        obtain ⟨o10, eq11, h⟩ := bnd_some h
        refine kRiV (rest := [.long 1000000]) (q0 := 0) ⟨hx, hb, hml, hown, hts⟩ (c_X11_dealtMany l D k a mSizes mSigns mOdds mPat mTyped mText mAt mFault mTests mTN mTS mTV mTB mRead mUns mUM mBA mBH mThere mTypes mHeld mItems mMoved mFind x1 x2 x3 eq11) (cwV 3 hts (gAV wm_612 wm_613 wm_614 wm_5 wm_615) rfl rfl rfl qd_X11_dealtMany ⟨Nat.le_of_ble_eq_true rfl, Nat.le_of_ble_eq_true rfl⟩) hK hP (rfl) rfl rfl hl.1 rfl (Nat.le_of_ble_eq_true rfl) dX11_dealt_35 ⟨Nat.zero_le _, Nat.zero_le _⟩ ?_
        refine lv_i2l (v := o10.toInt64) hx hb dX11_dealt_38 rfl ?_
        refine lv_lmul hx hb dX11_dealt_39 ?_
        refine lv_aload_n hx hb dX11_dealt_40 rfl (lv_at hl 0 rfl) ?_
        refine lv_iload_n hx hb dX11_dealt_41 rfl (lv_at hl 1 rfl) ?_
        obtain ⟨o12, eq13, h⟩ := bnd_some h
        refine kRlV (rest := [.long ((1000000 : Int64) * o10.toInt64)]) (q0 := 0) ⟨hx, hb, hml, hown, hts⟩ (c_X11_dealtAll l D k a mSizes mSigns mOdds mPat mTyped mText mAt mFault mTests mTN mTS mTV mTB mRead mUns mUM mBA mBH mThere mTypes mHeld mItems mMoved mFind x1 eq13) (cwV 1 hts (gAV wm_616 wm_617 wm_618 wm_5 wm_619) rfl rfl rfl qd_X11_dealtAll ⟨Nat.le_of_ble_eq_true rfl, Nat.le_of_ble_eq_true rfl⟩) hK hP (rfl) rfl rfl hl.1 rfl (Nat.le_of_ble_eq_true rfl) dX11_dealt_42 ⟨Nat.zero_le _, Nat.zero_le _⟩ ?_
        obtain ⟨g14, h⟩ := gNeL_some h
        refine lv_ldiv hx hb dX11_dealt_45 g14 ?_
        refine lv_l2i (v := (((1000000 : Int64) * o10.toInt64) / o12).toInt32) hx hb dX11_dealt_46 rfl ?_
        refine lv_goto (tgt := 52) hx hb dX11_dealt_47 (by decide) ?_
        exact W.iret (v := (((1000000 : Int64) * o10.toInt64) / o12).toInt32) hx hb hr (fun t ht hW => ⟨_, rfl, Option.some.inj h, ht⟩) (fun q hq => by cases hq) dX11_dealt_52
    · replace h := (if_pos c6).symm.trans h
      refine lv_bipush (v := (-2)) hx hb dX11_dealt_17 (by decide) ?_
      exact W.iret (v := (-2)) hx hb hr (fun t ht hW => ⟨_, rfl, Option.some.inj h, ht⟩) (fun q hq => by cases hq) dX11_dealt_19
set_option maxHeartbeats 4000000 in
set_option maxRecDepth 100000 in
theorem c_X11_dealt {N : Nat} (l : Launch) (D : va_G) (k : Nat → ClassId) (a : Nat → Nat) (mSizes : Nat → Int32) (mSigns : Nat → Int32) (mOdds : Int32) (mPat : Int32) (mTyped : Int32) (mText : Nat → Int32) (mAt : Int32) (mFault : Int32) (mTests : Int32) (mTN : Nat → Int32) (mTS : Nat → Int32) (mTV : Nat → Int32) (mTB : Nat → Int32) (mRead : Int32) (mUns : Nat → Int32) (mUM : Int32) (mBA : Int32) (mBH : Int32) (mThere : Nat → Int32) (mTypes : Nat → Int32) (mHeld : Nat → Int32) (mItems : Nat → Int32) (mMoved : Nat → Int32) (mFind : Int32) (x1 : Int32) (x2 : Int32) (x3 : Int32) {o : Int32} (h : f_X11_dealt N x1 x2 x3 mSizes mSigns mPat = some o) : mRi l yX11_dealt wo_X11_dealt 4 D k [.ref (a 0), .int x1, .int x2, .int x3] (wM k a mSizes mSigns mOdds mPat mTyped mText mAt mFault mTests mTN mTS mTV mTB mRead mUns mUM mBA mBH mThere mTypes mHeld mItems mMoved mFind) o := by
  refine Met.ofW (cc := cX11_dealt) (maxL := 4) (ret := some .int) (by decide) rfl ?_
  intro p e s m args below meth c s₁ B hml hv
  obtain ⟨rfl, hP, hK⟩ := hv
  rw [lg_entry_eq]
  exact core_X11_dealt D k a mSizes mSigns mOdds mPat mTyped mText mAt mFault mTests mTN mTS mTV mTB mRead mUns mUM mBA mBH mThere mTypes mHeld mItems mMoved mFind x1 x2 x3 B.exec B.bytes hml B.returns (atoms_spec (ws := wo_X11_dealt) B.pre) (findClass_of_methodNamed B.named) B.notSynchronized (lv_entry [.ref (a 0), .int x1, .int x2, .int x3] (n := 4) (Nat.le_of_ble_eq_true rfl)) hK hP h
theorem qd_X11_dealt : yX11_dealt.cls = RX11 ∧ yX11_dealt.cls ≠ "java/lang/invoke/MethodHandle" ∧ yX11_dealt.cls ≠ "java/lang/invoke/VarHandle" ∧ (parseMethodDescriptor yX11_dealt.desc).map (fun d => d.parameters.length) = some 3 := by decide +kernel
abbrev wo_X11_strangest : List Cond := .code yX11_strangest cX11_strangest 7 (some .int) :: wsL_law
set_option maxHeartbeats 4000000 in
set_option maxRecDepth 100000 in
theorem core_X11_strangest {N : Nat} (D : va_G) (k : Nat → ClassId) (a : Nat → Nat) (mSizes : Nat → Int32) (mSigns : Nat → Int32) (mOdds : Int32) (mPat : Int32) (mTyped : Int32) (mText : Nat → Int32) (mAt : Int32) (mFault : Int32) (mTests : Int32) (mTN : Nat → Int32) (mTS : Nat → Int32) (mTV : Nat → Int32) (mTB : Nat → Int32) (mRead : Int32) (mUns : Nat → Int32) (mUM : Int32) (mBA : Int32) (mBH : Int32) (mThere : Nat → Int32) (mTypes : Nat → Int32) (mHeld : Nat → Int32) (mItems : Nat → Int32) (mMoved : Nat → Int32) (mFind : Int32) (x1 : Int32) {p : Program} {l : Launch} {e : Env} {s : State} {m : MethodId} {args : Array Value} {below : List Frame} {meth : Method} {c : Code} {ls : Array Slot} (hx : p.tables.exec = Jvm.exec) (hb : c.code = cX11_strangest) (hml : c.maxLocals = 7) (hr : meth.sig.returnType = some .int) (hts : ∀ w ∈ wo_X11_strangest, w.before args s = true) (hown : s.vm.findClass RX11 = some m.cls) (hlocks : meth.locks = false) (hl : lv_has ls 7 [(0, .ref (a 0)), (1, .int x1)]) (hK : va_K D vwCl (xTys k) s) (hP : va_P D vwCl (wM k a mSizes mSigns mOdds mPat mTyped mText mAt mFault mTests mTN mTS mTV mTB mRead mUns mUM mBA mBH mThere mTypes mHeld mItems mMoved mFind) s.heap) {o : Int32} (h : f_X11_strangest N x1 mSizes mSigns mPat = some o) : gRi p l e wo_X11_strangest 4 s m args below meth c o (F0 m 0 ls []) := by
  have hi11 := (fun w h => List.mem_cons_of_mem _ (inlX11 w h) : ∀ w ∈ wsX110, w ∈ wo_X11_strangest)
  have kf7 := hts _ (List.mem_cons_of_mem _ wm_72)
  unfold f_X11_strangest at h
  have L37 : ∀ (n37 : Nat) (x1 : Int32) (x2 : Int32) (x3 : Int32) (x4 : Int32) (ls : Array Slot) (hl : lv_has ls 7 [(0, .ref (a 0)), (1, .int x1), (2, .int x2), (3, .int x3), (4, .int x4)]) (h : f_X11_strangest_37 N n37 x1 x2 x3 x4 mSizes mSigns mPat = some o), gRi p l e wo_X11_strangest 4 s m args below meth c o (F0 m 37 ls []) := by
    intro n37
    induction n37 with
    | zero => intro x1 x2 x3 x4 ls hl h; cases (show (none : Option (Int32)) = some o from h)
    | succ n37 ih37 =>
      have J118 : ∀ (x1 : Int32) (x2 : Int32) (x3 : Int32) (x4 : Int32) (ls : Array Slot) (hl : lv_has ls 7 [(0, .ref (a 0)), (1, .int x1), (2, .int x2), (3, .int x3), (4, .int x4)]) (h : f_X11_strangest_118 N (fun y0 y1 y2 y3 y4 y5 y6 => f_X11_strangest_37 N n37 y0 y1 y2 y3 y4 y5 y6) x1 x2 x3 x4 mSizes mSigns mPat = some o), gRi p l e wo_X11_strangest 4 s m args below meth c o (F0 m 118 ls []) := by
        intro x1 x2 x3 x4 ls hl h
        unfold f_X11_strangest_118 at h
        refine lv_iinc (v := (x4 + 1)) (lv' := [(4, .int (x4 + 1)), (0, .ref (a 0)), (1, .int x1), (2, .int x2), (3, .int x3)]) hx hb dX11_strangest_118 hl (k := 4) rfl rfl (by decide) rfl (fun ls hl => ?_)
        refine lv_goto (tgt := 37) hx hb dX11_strangest_121 (by decide) ?_
        exact ih37 x1 x2 x3 (x4 + 1) ls (lv_sub hl [1, 2, 3, 4, 0] rfl) h
      have J117 : ∀ (x1 : Int32) (x2 : Int32) (x4 : Int32) (s0 : Int32) (ls : Array Slot) (hl : lv_has ls 7 [(0, .ref (a 0)), (1, .int x1), (2, .int x2), (4, .int x4)]) (h : f_X11_strangest_117 N (fun y0 y1 y2 y3 y4 y5 y6 => f_X11_strangest_37 N n37 y0 y1 y2 y3 y4 y5 y6) x1 x2 x4 s0 mSizes mSigns mPat = some o), gRi p l e wo_X11_strangest 4 s m args below meth c o (F0 m 117 ls [.int s0]) := by
        intro x1 x2 x4 s0 ls hl h
        unfold f_X11_strangest_117 at h
        refine lv_istore_n (lv' := [(3, .int s0), (0, .ref (a 0)), (1, .int x1), (2, .int x2), (4, .int x4)]) hx hb dX11_strangest_117 rfl hl (by decide) rfl (fun ls hl => ?_)
        exact J118 x1 x2 s0 x4 ls (lv_sub hl [1, 2, 3, 0, 4] rfl) h
      have J105 : ∀ (x1 : Int32) (x3 : Int32) (x4 : Int32) (x5 : Int32) (x6 : Int32) (s0 : Int32) (ls : Array Slot) (hl : lv_has ls 7 [(0, .ref (a 0)), (1, .int x1), (3, .int x3), (4, .int x4), (5, .int x5), (6, .int x6)]) (h : f_X11_strangest_105 N (fun y0 y1 y2 y3 y4 y5 y6 => f_X11_strangest_37 N n37 y0 y1 y2 y3 y4 y5 y6) x1 x3 x4 x5 x6 s0 mSizes mSigns mPat = some o), gRi p l e wo_X11_strangest 4 s m args below meth c o (F0 m 105 ls [.int s0]) := by
        intro x1 x3 x4 x5 x6 s0 ls hl h
        unfold f_X11_strangest_105 at h
        refine lv_istore_n (lv' := [(2, .int s0), (0, .ref (a 0)), (1, .int x1), (3, .int x3), (4, .int x4), (5, .int x5), (6, .int x6)]) hx hb dX11_strangest_105 rfl hl (by decide) rfl (fun ls hl => ?_)
        refine lv_iload hx hb dX11_strangest_106 (lv_at hl 6 rfl) ?_
        refine lv_if_eq (tgt := 116) hx hb dX11_strangest_108 (by decide) (fun c1 => ?_) (fun c1 => ?_)
        · replace h := (if_pos c1).symm.trans h
          refine lv_iload_n hx hb dX11_strangest_116 rfl (lv_at hl 3 rfl) ?_
          exact J117 x1 s0 x4 x3 ls (lv_sub hl [1, 2, 0, 4] rfl) h
        · replace h := (if_neg c1).symm.trans h
          refine lv_iload hx hb dX11_strangest_111 (lv_at hl 5 rfl) ?_
          refine lv_goto (tgt := 117) hx hb dX11_strangest_113 (by decide) ?_
          exact J117 x1 s0 x4 x5 ls (lv_sub hl [1, 2, 0, 4] rfl) h
      have J92 : ∀ (x1 : Int32) (x2 : Int32) (x3 : Int32) (x4 : Int32) (x5 : Int32) (s0 : Int32) (ls : Array Slot) (hl : lv_has ls 7 [(0, .ref (a 0)), (1, .int x1), (2, .int x2), (3, .int x3), (4, .int x4), (5, .int x5)]) (h : f_X11_strangest_92 N (fun y0 y1 y2 y3 y4 y5 y6 => f_X11_strangest_37 N n37 y0 y1 y2 y3 y4 y5 y6) x1 x2 x3 x4 x5 s0 mSizes mSigns mPat = some o), gRi p l e wo_X11_strangest 4 s m args below meth c o (F0 m 92 ls [.int s0]) := by
        intro x1 x2 x3 x4 x5 s0 ls hl h
        unfold f_X11_strangest_92 at h
        refine lv_istore (lv' := [(6, .int s0), (0, .ref (a 0)), (1, .int x1), (2, .int x2), (3, .int x3), (4, .int x4), (5, .int x5)]) hx hb dX11_strangest_92 hl (by decide) rfl (fun ls hl => ?_)
        refine lv_iload hx hb dX11_strangest_94 (lv_at hl 0 rfl) ?_
        refine lv_if_eq (tgt := 104) hx hb dX11_strangest_96 (by decide) (fun c2 => ?_) (fun c2 => ?_)
        · replace h := (if_pos c2).symm.trans h
          refine lv_iload_n hx hb dX11_strangest_104 rfl (lv_at hl 3 rfl) ?_
          exact J105 x1 x3 x4 x5 s0 x2 ls (lv_sub hl [1, 2, 4, 5, 6, 0] rfl) h
        · replace h := (if_neg c2).symm.trans h
          refine lv_iload hx hb dX11_strangest_99 (lv_at hl 5 rfl) ?_
          refine lv_goto (tgt := 105) hx hb dX11_strangest_101 (by decide) ?_
          exact J105 x1 x3 x4 x5 s0 x4 ls (lv_sub hl [1, 2, 4, 5, 6, 0] rfl) h
      have J87 : ∀ (x1 : Int32) (x2 : Int32) (x3 : Int32) (x4 : Int32) (x5 : Int32) (ls : Array Slot) (hl : lv_has ls 7 [(0, .ref (a 0)), (1, .int x1), (2, .int x2), (3, .int x3), (4, .int x4), (5, .int x5)]) (h : f_X11_strangest_87 N (fun y0 y1 y2 y3 y4 y5 y6 => f_X11_strangest_37 N n37 y0 y1 y2 y3 y4 y5 y6) x1 x2 x3 x4 x5 mSizes mSigns mPat = some o), gRi p l e wo_X11_strangest 4 s m args below meth c o (F0 m 87 ls []) := by
        intro x1 x2 x3 x4 x5 ls hl h
        unfold f_X11_strangest_87 at h
        refine lv_iconst (v := 1) hx hb dX11_strangest_87 (by decide) ?_
        refine lv_goto (tgt := 92) hx hb dX11_strangest_88 (by decide) ?_
        exact J92 x1 x2 x3 x4 x5 1 ls (lv_sub hl [0, 1, 2, 3, 4, 5] rfl) h
      have J71 : ∀ (x1 : Int32) (x2 : Int32) (x3 : Int32) (x4 : Int32) (s1 : Int32) (s2 : Int32) (s3 : Int32) (ls : Array Slot) (hl : lv_has ls 7 [(0, .ref (a 0)), (1, .int x1), (2, .int x2), (3, .int x3), (4, .int x4)]) (h : f_X11_strangest_71 N (fun y0 y1 y2 y3 y4 y5 y6 => f_X11_strangest_37 N n37 y0 y1 y2 y3 y4 y5 y6) x1 x2 x3 x4 s1 s2 s3 mSizes mSigns mPat = some o), gRi p l e wo_X11_strangest 4 s m args below meth c o (F0 m 71 ls [.int s3, .int s2, .int s1, .ref (a 0)]) := by
        intro x1 x2 x3 x4 s1 s2 s3 ls hl h
        unfold f_X11_strangest_71 at h
        obtain ⟨o3, eq4, h⟩ := bnd_some h
        refine kRiV (rest := []) (q0 := 0) ⟨hx, hb, hml, hown, hts⟩ (c_X11_dealtMany l D k a mSizes mSigns mOdds mPat mTyped mText mAt mFault mTests mTN mTS mTV mTB mRead mUns mUM mBA mBH mThere mTypes mHeld mItems mMoved mFind s1 s2 s3 eq4) (cwV 3 hts (gAV wm_612 wm_613 wm_614 wm_5 wm_615) rfl rfl rfl qd_X11_dealtMany ⟨Nat.le_of_ble_eq_true rfl, Nat.le_of_ble_eq_true rfl⟩) hK hP (rfl) rfl rfl hl.1 rfl (Nat.le_of_ble_eq_true rfl) dX11_strangest_71 ⟨Nat.zero_le _, Nat.zero_le _⟩ ?_
        refine lv_istore (lv' := [(5, .int o3), (0, .ref (a 0)), (1, .int x1), (2, .int x2), (3, .int x3), (4, .int x4)]) hx hb dX11_strangest_74 hl (by decide) rfl (fun ls hl => ?_)
        refine lv_iload_n hx hb dX11_strangest_76 rfl (lv_at hl 3 rfl) ?_
        refine lv_iconst (v := (-1)) hx hb dX11_strangest_77 (by decide) ?_
        refine lv_icmp_eq (tgt := 87) hx hb dX11_strangest_78 (by decide) (fun c5 => ?_) (fun c5 => ?_)
        · replace h := (if_pos c5).symm.trans h
          exact J87 x1 x2 x3 x4 o3 ls (lv_sub hl [1, 2, 3, 4, 5, 0] rfl) h
        · replace h := (if_neg c5).symm.trans h
          refine lv_iload hx hb dX11_strangest_81 (lv_at hl 0 rfl) ?_
          refine lv_iload_n hx hb dX11_strangest_83 rfl (lv_at hl 4 rfl) ?_
          refine lv_icmp_ge (tgt := 91) hx hb dX11_strangest_84 (by decide) (fun c6 => ?_) (fun c6 => ?_)
          · replace h := (if_pos c6).symm.trans h
            refine lv_iconst (v := 0) hx hb dX11_strangest_91 (by decide) ?_
            exact J92 x1 x2 x3 x4 o3 0 ls (lv_sub hl [1, 2, 3, 4, 5, 0] rfl) h
          · replace h := (if_neg c6).symm.trans h
            exact J87 x1 x2 x3 x4 o3 ls (lv_sub hl [1, 2, 3, 4, 5, 0] rfl) h
      intro x1 x2 x3 x4 ls hl h
      rw [f_X11_strangest_37] at h
      refine lv_iload hx hb dX11_strangest_37 (lv_at hl 4 rfl) ?_
      refine lv_bipush (v := 14) hx hb dX11_strangest_39 (by decide) ?_
      refine lv_icmp_ge (tgt := 124) hx hb dX11_strangest_41 (by decide) (fun c7 => ?_) (fun c7 => ?_)
      · replace h := (if_pos c7).symm.trans h
        refine lv_iload_n hx hb dX11_strangest_124 rfl (lv_at hl 2 rfl) ?_
        exact W.iret (v := x2) hx hb hr (fun t ht hW => ⟨_, rfl, Option.some.inj h, ht⟩) (fun q hq => by cases hq) dX11_strangest_125
      · replace h := (if_neg c7).symm.trans h
        refine lv_iload hx hb dX11_strangest_44 (lv_at hl 4 rfl) ?_
        refine lv_iconst (v := 2) hx hb dX11_strangest_46 (by decide) ?_
        refine lv_idiv hx hb dX11_strangest_47 (by decide) ?_
        refine lv_iconst (v := 5) hx hb dX11_strangest_48 (by decide) ?_
        refine lv_icmp_eq (tgt := 118) hx hb dX11_strangest_49 (by decide) (fun c8 => ?_) (fun c8 => ?_)
        · replace h := (if_pos c8).symm.trans h
          exact J118 x1 x2 x3 x4 ls (lv_sub hl [0, 1, 2, 3, 4] rfl) h
        · replace h := (if_neg c8).symm.trans h
          refine lv_aload_n hx hb dX11_strangest_52 rfl (lv_at hl 0 rfl) ?_
          refine lv_iload_n hx hb dX11_strangest_53 rfl (lv_at hl 1 rfl) ?_
          refine lv_iload hx hb dX11_strangest_54 (lv_at hl 4 rfl) ?_
          refine lv_iconst (v := 2) hx hb dX11_strangest_56 (by decide) ?_
          refine lv_idiv hx hb dX11_strangest_57 (by decide) ?_
          refine lv_iload hx hb dX11_strangest_58 (lv_at hl 4 rfl) ?_
          refine lv_iconst (v := 2) hx hb dX11_strangest_60 (by decide) ?_
          refine lv_irem hx hb dX11_strangest_61 (by decide) ?_
          refine lv_iconst (v := 1) hx hb dX11_strangest_62 (by decide) ?_
          refine lv_icmp_ne (tgt := 70) hx hb dX11_strangest_63 (by decide) (fun c9 => ?_) (fun c9 => ?_)
          · replace h := (if_neg c9).symm.trans h
            refine lv_iconst (v := 0) hx hb dX11_strangest_70 (by decide) ?_
            exact J71 x1 x2 x3 x4 x1 (x4 / 2) 0 ls (lv_sub hl [0, 1, 2, 3, 4] rfl) h
          · replace h := (if_pos c9).symm.trans h
            refine lv_iconst (v := 1) hx hb dX11_strangest_66 (by decide) ?_
            refine lv_goto (tgt := 71) hx hb dX11_strangest_67 (by decide) ?_
            exact J71 x1 x2 x3 x4 x1 (x4 / 2) 1 ls (lv_sub hl [0, 1, 2, 3, 4] rfl) h
  refine lv_iload_n hx hb dX11_strangest_0 rfl (lv_at hl 1 rfl) ?_
  obtain ⟨o10, eq11, h⟩ := bnd_some h
  refine kPi (rest := []) ⟨hx, hb, hml, hown, hts⟩ (c_X11_isRow l x1 eq11) (va_cwS 1 hts (gAS wm_117 wm_118 wm_5 wm_119) rfl rfl rfl qd_X11_isRow ⟨Nat.le_of_ble_eq_true rfl, Nat.le_of_ble_eq_true rfl⟩) rfl hl.1 rfl (Nat.le_of_ble_eq_true rfl) dX11_strangest_1 ⟨Nat.zero_le _, Nat.zero_le _⟩ ?_
  refine lv_if_ne (tgt := 10) hx hb dX11_strangest_4 (by decide) (fun c12 => ?_) (fun c12 => ?_)
  · replace h := (if_neg c12).symm.trans h
    refine lv_aload_n hx hb dX11_strangest_10 rfl (lv_at hl 0 rfl) ?_
    refine lv_iload_n hx hb dX11_strangest_11 rfl (lv_at hl 1 rfl) ?_
    obtain ⟨o13, eq14, h⟩ := bnd_some h
    refine kRiV (rest := []) (q0 := 0) ⟨hx, hb, hml, hown, hts⟩ (c_X11_isWhole l D k a mSizes mSigns mOdds mPat mTyped mText mAt mFault mTests mTN mTS mTV mTB mRead mUns mUM mBA mBH mThere mTypes mHeld mItems mMoved mFind x1 eq14) (cwV 1 hts (gAV wm_241 wm_242 wm_243 wm_5 wm_244) rfl rfl rfl qd_X11_isWhole ⟨Nat.le_of_ble_eq_true rfl, Nat.le_of_ble_eq_true rfl⟩) hK hP (rfl) rfl rfl hl.1 rfl (Nat.le_of_ble_eq_true rfl) dX11_strangest_12 ⟨Nat.zero_le _, Nat.zero_le _⟩ ?_
    refine lv_if_eq (tgt := 27) hx hb dX11_strangest_15 (by decide) (fun c15 => ?_) (fun c15 => ?_)
    · replace h := (if_pos c15).symm.trans h
      refine lv_bipush (v := (-3)) hx hb dX11_strangest_27 (by decide) ?_
      exact W.iret (v := (-3)) hx hb hr (fun t ht hW => ⟨_, rfl, Option.some.inj h, ht⟩) (fun q hq => by cases hq) dX11_strangest_29
    · replace h := (if_neg c15).symm.trans h
      refine lv_aload_n hx hb dX11_strangest_18 rfl (lv_at hl 0 rfl) ?_
      refine va_get (D := D) (ci := 6) (v := .ref (a 1)) (C := RX11) (T := TX11) (N := 24) hx hb hts hi11 hown hK hP (0) (rfl) rfl 0 (by decide) kf7 (fun _ h9 => h9) rfl dX11_strangest_19 ?_
      refine lv_iload_n hx hb dX11_strangest_22 rfl (lv_at hl 1 rfl) ?_
      obtain ⟨g16, h⟩ := gIn_some h
      refine va_iald hx hb hK hP (1) 0 (rfl) rfl g16 dX11_strangest_23 ?_
      refine lv_if_ne (tgt := 30) hx hb dX11_strangest_24 (by decide) (fun c17 => ?_) (fun c17 => ?_)
      · replace h := (if_neg c17).symm.trans h
        refine lv_iconst (v := (-1)) hx hb dX11_strangest_30 (by decide) ?_
        refine lv_istore_n (lv' := [(2, .int (-1)), (0, .ref (a 0)), (1, .int x1)]) hx hb dX11_strangest_31 rfl hl (by decide) rfl (fun ls hl => ?_)
        refine lv_iconst (v := 0) hx hb dX11_strangest_32 (by decide) ?_
        refine lv_istore_n (lv' := [(3, .int 0), (2, .int (-1)), (0, .ref (a 0)), (1, .int x1)]) hx hb dX11_strangest_33 rfl hl (by decide) rfl (fun ls hl => ?_)
        refine lv_iconst (v := 2) hx hb dX11_strangest_34 (by decide) ?_
        refine lv_istore (lv' := [(4, .int 2), (3, .int 0), (2, .int (-1)), (0, .ref (a 0)), (1, .int x1)]) hx hb dX11_strangest_35 hl (by decide) rfl (fun ls hl => ?_)
        exact L37 N x1 (-1) 0 2 ls (lv_sub hl [3, 4, 2, 1, 0] rfl) h
      · replace h := (if_pos c17).symm.trans h
        refine lv_bipush (v := (-3)) hx hb dX11_strangest_27 (by decide) ?_
        exact W.iret (v := (-3)) hx hb hr (fun t ht hW => ⟨_, rfl, Option.some.inj h, ht⟩) (fun q hq => by cases hq) dX11_strangest_29
  · replace h := (if_pos c12).symm.trans h
    refine lv_bipush (v := (-2)) hx hb dX11_strangest_7 (by decide) ?_
    exact W.iret (v := (-2)) hx hb hr (fun t ht hW => ⟨_, rfl, Option.some.inj h, ht⟩) (fun q hq => by cases hq) dX11_strangest_9
set_option maxHeartbeats 4000000 in
set_option maxRecDepth 100000 in
theorem c_X11_strangest {N : Nat} (l : Launch) (D : va_G) (k : Nat → ClassId) (a : Nat → Nat) (mSizes : Nat → Int32) (mSigns : Nat → Int32) (mOdds : Int32) (mPat : Int32) (mTyped : Int32) (mText : Nat → Int32) (mAt : Int32) (mFault : Int32) (mTests : Int32) (mTN : Nat → Int32) (mTS : Nat → Int32) (mTV : Nat → Int32) (mTB : Nat → Int32) (mRead : Int32) (mUns : Nat → Int32) (mUM : Int32) (mBA : Int32) (mBH : Int32) (mThere : Nat → Int32) (mTypes : Nat → Int32) (mHeld : Nat → Int32) (mItems : Nat → Int32) (mMoved : Nat → Int32) (mFind : Int32) (x1 : Int32) {o : Int32} (h : f_X11_strangest N x1 mSizes mSigns mPat = some o) : mRi l yX11_strangest wo_X11_strangest 4 D k [.ref (a 0), .int x1] (wM k a mSizes mSigns mOdds mPat mTyped mText mAt mFault mTests mTN mTS mTV mTB mRead mUns mUM mBA mBH mThere mTypes mHeld mItems mMoved mFind) o := by
  refine Met.ofW (cc := cX11_strangest) (maxL := 7) (ret := some .int) (by decide) rfl ?_
  intro p e s m args below meth c s₁ B hml hv
  obtain ⟨rfl, hP, hK⟩ := hv
  rw [lg_entry_eq]
  exact core_X11_strangest D k a mSizes mSigns mOdds mPat mTyped mText mAt mFault mTests mTN mTS mTV mTB mRead mUns mUM mBA mBH mThere mTypes mHeld mItems mMoved mFind x1 B.exec B.bytes hml B.returns (atoms_spec (ws := wo_X11_strangest) B.pre) (findClass_of_methodNamed B.named) B.notSynchronized (lv_entry [.ref (a 0), .int x1] (n := 7) (Nat.le_of_ble_eq_true rfl)) hK hP h
theorem qd_X11_strangest : yX11_strangest.cls = RX11 ∧ yX11_strangest.cls ≠ "java/lang/invoke/MethodHandle" ∧ yX11_strangest.cls ≠ "java/lang/invoke/VarHandle" ∧ (parseMethodDescriptor yX11_strangest.desc).map (fun d => d.parameters.length) = some 1 := by decide +kernel
abbrev wo_X11_behind : List Cond := .code yX11_behind cX11_behind 6 none :: wsL_law
set_option maxHeartbeats 4000000 in
set_option maxRecDepth 100000 in
theorem core_X11_behind {N : Nat} (D : va_G) (k : Nat → ClassId) (a : Nat → Nat) (mSizes : Nat → Int32) (mSigns : Nat → Int32) (mOdds : Int32) (mPat : Int32) (mTyped : Int32) (mText : Nat → Int32) (mAt : Int32) (mFault : Int32) (mTests : Int32) (mTN : Nat → Int32) (mTS : Nat → Int32) (mTV : Nat → Int32) (mTB : Nat → Int32) (mRead : Int32) (mUns : Nat → Int32) (mUM : Int32) (mBA : Int32) (mBH : Int32) (mThere : Nat → Int32) (mTypes : Nat → Int32) (mHeld : Nat → Int32) (mItems : Nat → Int32) (mMoved : Nat → Int32) (mFind : Int32) (x1 : Int32) (x2 : Int32) (x3 : Int32) {p : Program} {l : Launch} {e : Env} {s : State} {m : MethodId} {args : Array Value} {below : List Frame} {meth : Method} {c : Code} {ls : Array Slot} (hx : p.tables.exec = Jvm.exec) (hb : c.code = cX11_behind) (hml : c.maxLocals = 6) (hr : meth.sig.returnType = none) (hts : ∀ w ∈ wo_X11_behind, w.before args s = true) (hown : s.vm.findClass RX11 = some m.cls) (hlocks : meth.locks = false) (hl : lv_has ls 6 [(0, .ref (a 0)), (1, .int x1), (2, .int x2), (3, .int x3)]) (hK : va_K D vwCl (xTys k) s) (hP : va_P D vwCl (wM k a mSizes mSigns mOdds mPat mTyped mText mAt mFault mTests mTN mTS mTV mTB mRead mUns mUM mBA mBH mThere mTypes mHeld mItems mMoved mFind) s.heap) {A : Nat → Prop} (hD : va_D A (wM k a mSizes mSigns mOdds mPat mTyped mText mAt mFault mTests mTN mTS mTV mTB mRead mUns mUM mBA mBH mThere mTypes mHeld mItems mMoved mFind)) (hA : ∀ q : Nat, s.heap.size ≤ q → A q) {o : (Int32) × (Int32)} (h : f_X11_behind N x1 x2 x3 mBA mBH = some o) : gQv p l e wo_X11_behind 0 s m args below meth c D k A  (wM k a mSizes mSigns mOdds mPat mTyped mText mAt mFault mTests mTN mTS mTV mTB mRead mUns mUM o.1 o.2 mThere mTypes mHeld mItems mMoved mFind) s.heap [] (F0 m 0 ls []) := by
  have hi11 := (fun w h => List.mem_cons_of_mem _ (inlX11 w h) : ∀ w ∈ wsX110, w ∈ wo_X11_behind)
  have kf174 := hts _ (List.mem_cons_of_mem _ wm_646)
  have kf177 := hts _ (List.mem_cons_of_mem _ wm_647)
  unfold f_X11_behind at h
  have hS : va_S A s.heap s.heap [] := va_S.rf
  have L20 : ∀ (n20 : Nat) (x1 : Int32) (x2 : Int32) (x4 : Int32) (x5 : Int32) (mBA : Int32) (mBH : Int32) (ls : Array Slot) (H : Heap) (locs : List Loc) (hl : lv_has ls 6 [(0, .ref (a 0)), (1, .int x1), (2, .int x2), (4, .int x4), (5, .int x5)]) (hP : va_P D vwCl (wM k a mSizes mSigns mOdds mPat mTyped mText mAt mFault mTests mTN mTS mTV mTB mRead mUns mUM mBA mBH mThere mTypes mHeld mItems mMoved mFind) H) (hD : va_D A (wM k a mSizes mSigns mOdds mPat mTyped mText mAt mFault mTests mTN mTS mTV mTB mRead mUns mUM mBA mBH mThere mTypes mHeld mItems mMoved mFind)) (hS : va_S A s.heap H locs) (h : f_X11_behind_20 N n20 x1 x2 x4 x5 mBA mBH = some o), gQv p l e wo_X11_behind 0 s m args below meth c D k A  (wM k a mSizes mSigns mOdds mPat mTyped mText mAt mFault mTests mTN mTS mTV mTB mRead mUns mUM o.1 o.2 mThere mTypes mHeld mItems mMoved mFind) H locs (F0 m 20 ls []) := by
    intro n20
    induction n20 with
    | zero => intro x1 x2 x4 x5 mBA mBH ls H locs hl hP hD hS h; cases (show (none : Option ((Int32) × (Int32))) = some o from h)
    | succ n20 ih20 =>
      have J69 : ∀ (x1 : Int32) (x2 : Int32) (x4 : Int32) (x5 : Int32) (mBA : Int32) (mBH : Int32) (ls : Array Slot) (H : Heap) (locs : List Loc) (hl : lv_has ls 6 [(0, .ref (a 0)), (1, .int x1), (2, .int x2), (4, .int x4), (5, .int x5)]) (hP : va_P D vwCl (wM k a mSizes mSigns mOdds mPat mTyped mText mAt mFault mTests mTN mTS mTV mTB mRead mUns mUM mBA mBH mThere mTypes mHeld mItems mMoved mFind) H) (hD : va_D A (wM k a mSizes mSigns mOdds mPat mTyped mText mAt mFault mTests mTN mTS mTV mTB mRead mUns mUM mBA mBH mThere mTypes mHeld mItems mMoved mFind)) (hS : va_S A s.heap H locs) (h : f_X11_behind_69 N (fun y0 y1 y2 y3 y4 y5 => f_X11_behind_20 N n20 y0 y1 y2 y3 y4 y5) x1 x2 x4 x5 mBA mBH = some o), gQv p l e wo_X11_behind 0 s m args below meth c D k A  (wM k a mSizes mSigns mOdds mPat mTyped mText mAt mFault mTests mTN mTS mTV mTB mRead mUns mUM o.1 o.2 mThere mTypes mHeld mItems mMoved mFind) H locs (F0 m 69 ls []) := by
        intro x1 x2 x4 x5 mBA mBH ls H locs hl hP hD hS h
        unfold f_X11_behind_69 at h
        refine lv_iinc (v := (x5 + 1)) (lv' := [(5, .int (x5 + 1)), (0, .ref (a 0)), (1, .int x1), (2, .int x2), (4, .int x4)]) hx hb dX11_behind_69 hl (k := 4) rfl rfl (by decide) rfl (fun ls hl => ?_)
        refine lv_goto (tgt := 20) hx hb dX11_behind_72 (by decide) ?_
        exact ih20 x1 x2 x4 (x5 + 1) mBA mBH ls H locs (lv_sub hl [1, 2, 3, 4, 0] rfl) hP hD hS h
      intro x1 x2 x4 x5 mBA mBH ls H locs hl hP hD hS h
      rw [f_X11_behind_20] at h
      refine lv_iload hx hb dX11_behind_20 (lv_at hl 4 rfl) ?_
      refine lv_iload_n hx hb dX11_behind_22 rfl (lv_at hl 2 rfl) ?_
      refine lv_icmp_ge (tgt := 75) hx hb dX11_behind_23 (by decide) (fun c1 => ?_) (fun c1 => ?_)
      · replace h := (if_pos c1).symm.trans h
        have he := Option.some.inj h
        exact W.vret hx hb hr (fun t ht hW => ⟨⟨wM k a mSizes mSigns mOdds mPat mTyped mText mAt mFault mTests mTN mTS mTV mTB mRead mUns mUM mBA mBH mThere mTypes mHeld mItems mMoved mFind, rfl, (congrArg (fun z => wM k a mSizes mSigns mOdds mPat mTyped mText mAt mFault mTests mTN mTS mTV mTB mRead mUns mUM z.1 z.2 mThere mTypes mHeld mItems mMoved mFind) he), by rw [ht]; exact hP, va_K.moved hW.alike hK, hD⟩, hS.F ht⟩) hS.2.2 dX11_behind_75
      · replace h := (if_neg c1).symm.trans h
        refine lv_iload_n hx hb dX11_behind_26 rfl (lv_at hl 1 rfl) ?_
        refine lv_iload_n hx hb dX11_behind_27 rfl (lv_at hl 2 rfl) ?_
        refine lv_iload hx hb dX11_behind_28 (lv_at hl 4 rfl) ?_
        refine lv_isub hx hb dX11_behind_30 ?_
        refine lv_ishr hx hb dX11_behind_31 ?_
        refine lv_iload hx hb dX11_behind_32 (lv_at hl 3 rfl) ?_
        refine lv_iand hx hb dX11_behind_34 ?_
        refine lv_iload hx hb dX11_behind_35 (lv_at hl 3 rfl) ?_
        refine lv_icmp_ne (tgt := 69) hx hb dX11_behind_37 (by decide) (fun c2 => ?_) (fun c2 => ?_)
        · replace h := (if_neg c2).symm.trans h
          exact J69 x1 x2 x4 x5 mBA mBH ls H locs (lv_sub hl [0, 1, 2, 3, 4] rfl) hP hD hS h
        · replace h := (if_pos c2).symm.trans h
          refine lv_aload_n hx hb dX11_behind_40 rfl (lv_at hl 0 rfl) ?_
          refine lv_dup hx hb dX11_behind_41 rfl ?_
          refine va_get (D := D) (ci := 6) (v := .int mBA) (C := RX11) (T := TX11) (N := 24) hx hb hts hi11 hown hK hP (0) (rfl) rfl 16 (by decide) kf174 (fun _ h9 => h9) rfl dX11_behind_42 ?_
          refine lv_iconst (v := 1) hx hb dX11_behind_45 (by decide) ?_
          refine lv_iadd hx hb dX11_behind_46 ?_
          refine va_put (D := D) (ci := 6) (v := .int (mBA + 1)) (ty := .int) (C := RX11) (T := TX11) (N := 24) hx hb hts hi11 tyX11 tyX11_ok nmX11 hown hK hP hD hS (0) (rfl) rfl 16 (by decide) kf174 (fun _ h9 => h9) rfl (tyX11_ok 16 (by decide)) rfl rfl (Nat.le_of_ble_eq_true rfl) dX11_behind_47 (fun H locs hP hD hS => ?_)
          have hP : va_P D vwCl (wM k a mSizes mSigns mOdds mPat mTyped mText mAt mFault mTests mTN mTS mTV mTB mRead mUns mUM (mBA + 1) mBH mThere mTypes mHeld mItems mMoved mFind) H := hP
          have hD : va_D A (wM k a mSizes mSigns mOdds mPat mTyped mText mAt mFault mTests mTN mTS mTV mTB mRead mUns mUM (mBA + 1) mBH mThere mTypes mHeld mItems mMoved mFind) := hD
          refine lv_aload_n hx hb dX11_behind_50 rfl (lv_at hl 0 rfl) ?_
          refine lv_dup hx hb dX11_behind_51 rfl ?_
          refine va_get (D := D) (ci := 6) (v := .int mBH) (C := RX11) (T := TX11) (N := 24) hx hb hts hi11 hown hK hP (0) (rfl) rfl 17 (by decide) kf177 (fun _ h9 => h9) rfl dX11_behind_52 ?_
          refine lv_iload_n hx hb dX11_behind_55 rfl (lv_at hl 1 rfl) ?_
          refine lv_iload_n hx hb dX11_behind_56 rfl (lv_at hl 2 rfl) ?_
          refine lv_iconst (v := 1) hx hb dX11_behind_57 (by decide) ?_
          refine lv_isub hx hb dX11_behind_58 ?_
          refine lv_iload hx hb dX11_behind_59 (lv_at hl 4 rfl) ?_
          refine lv_isub hx hb dX11_behind_61 ?_
          refine lv_ishr hx hb dX11_behind_62 ?_
          refine lv_iconst (v := 1) hx hb dX11_behind_63 (by decide) ?_
          refine lv_iand hx hb dX11_behind_64 ?_
          refine lv_iadd hx hb dX11_behind_65 ?_
          refine va_put (D := D) (ci := 6) (v := .int (mBH + ((x1 >>> (((x2 - 1) - x5) &&& 31)) &&& 1))) (ty := .int) (C := RX11) (T := TX11) (N := 24) hx hb hts hi11 tyX11 tyX11_ok nmX11 hown hK hP hD hS (0) (rfl) rfl 17 (by decide) kf177 (fun _ h9 => h9) rfl (tyX11_ok 17 (by decide)) rfl rfl (Nat.le_of_ble_eq_true rfl) dX11_behind_66 (fun H locs hP hD hS => ?_)
          have hP : va_P D vwCl (wM k a mSizes mSigns mOdds mPat mTyped mText mAt mFault mTests mTN mTS mTV mTB mRead mUns mUM (mBA + 1) (mBH + ((x1 >>> (((x2 - 1) - x5) &&& 31)) &&& 1)) mThere mTypes mHeld mItems mMoved mFind) H := hP
          have hD : va_D A (wM k a mSizes mSigns mOdds mPat mTyped mText mAt mFault mTests mTN mTS mTV mTB mRead mUns mUM (mBA + 1) (mBH + ((x1 >>> (((x2 - 1) - x5) &&& 31)) &&& 1)) mThere mTypes mHeld mItems mMoved mFind) := hD
          exact J69 x1 x2 x4 x5 (mBA + 1) (mBH + ((x1 >>> (((x2 - 1) - x5) &&& 31)) &&& 1)) ls H locs (lv_sub hl [0, 1, 2, 3, 4] rfl) hP hD hS h
  obtain ⟨H, hH⟩ : ∃ H : Heap, H = s.heap := ⟨_, rfl⟩
  obtain ⟨locs, hlc⟩ : ∃ locs : List Loc, locs = [] := ⟨_, rfl⟩
  have hS : va_S A s.heap H locs := by rw [hH, hlc]; exact va_S.rf
  have hP : va_P D vwCl (wM k a mSizes mSigns mOdds mPat mTyped mText mAt mFault mTests mTN mTS mTV mTB mRead mUns mUM mBA mBH mThere mTypes mHeld mItems mMoved mFind) H := by rw [hH]; exact hP
  suffices hGo : gQv p l e wo_X11_behind 0 s m args below meth c D k A  (wM k a mSizes mSigns mOdds mPat mTyped mText mAt mFault mTests mTN mTS mTV mTB mRead mUns mUM o.1 o.2 mThere mTypes mHeld mItems mMoved mFind) H locs (F0 m 0 ls []) by rw [hH, hlc] at hGo; exact hGo
  refine lv_aload_n hx hb dX11_behind_0 rfl (lv_at hl 0 rfl) ?_
  refine lv_iconst (v := 0) hx hb dX11_behind_1 (by decide) ?_
  refine va_put (D := D) (ci := 6) (v := .int 0) (ty := .int) (C := RX11) (T := TX11) (N := 24) hx hb hts hi11 tyX11 tyX11_ok nmX11 hown hK hP hD hS (0) (rfl) rfl 16 (by decide) kf174 (fun _ h9 => h9) rfl (tyX11_ok 16 (by decide)) rfl rfl (Nat.le_of_ble_eq_true rfl) dX11_behind_2 (fun H locs hP hD hS => ?_)
  have hP : va_P D vwCl (wM k a mSizes mSigns mOdds mPat mTyped mText mAt mFault mTests mTN mTS mTV mTB mRead mUns mUM 0 mBH mThere mTypes mHeld mItems mMoved mFind) H := hP
  have hD : va_D A (wM k a mSizes mSigns mOdds mPat mTyped mText mAt mFault mTests mTN mTS mTV mTB mRead mUns mUM 0 mBH mThere mTypes mHeld mItems mMoved mFind) := hD
  refine lv_aload_n hx hb dX11_behind_5 rfl (lv_at hl 0 rfl) ?_
  refine lv_iconst (v := 0) hx hb dX11_behind_6 (by decide) ?_
  refine va_put (D := D) (ci := 6) (v := .int 0) (ty := .int) (C := RX11) (T := TX11) (N := 24) hx hb hts hi11 tyX11 tyX11_ok nmX11 hown hK hP hD hS (0) (rfl) rfl 17 (by decide) kf177 (fun _ h9 => h9) rfl (tyX11_ok 17 (by decide)) rfl rfl (Nat.le_of_ble_eq_true rfl) dX11_behind_7 (fun H locs hP hD hS => ?_)
  have hP : va_P D vwCl (wM k a mSizes mSigns mOdds mPat mTyped mText mAt mFault mTests mTN mTS mTV mTB mRead mUns mUM 0 0 mThere mTypes mHeld mItems mMoved mFind) H := hP
  have hD : va_D A (wM k a mSizes mSigns mOdds mPat mTyped mText mAt mFault mTests mTN mTS mTV mTB mRead mUns mUM 0 0 mThere mTypes mHeld mItems mMoved mFind) := hD
  refine lv_iconst (v := 1) hx hb dX11_behind_10 (by decide) ?_
  refine lv_iload_n hx hb dX11_behind_11 rfl (lv_at hl 3 rfl) ?_
  refine lv_ishl hx hb dX11_behind_12 ?_
  refine lv_iconst (v := 1) hx hb dX11_behind_13 (by decide) ?_
  refine lv_isub hx hb dX11_behind_14 ?_
  refine lv_istore (lv' := [(4, .int (((1 : Int32) <<< (x3 &&& 31)) - 1)), (0, .ref (a 0)), (1, .int x1), (2, .int x2), (3, .int x3)]) hx hb dX11_behind_15 hl (by decide) rfl (fun ls hl => ?_)
  refine lv_iload_n hx hb dX11_behind_17 rfl (lv_at hl 4 rfl) ?_
  refine lv_istore (lv' := [(5, .int x3), (4, .int (((1 : Int32) <<< (x3 &&& 31)) - 1)), (0, .ref (a 0)), (1, .int x1), (2, .int x2), (3, .int x3)]) hx hb dX11_behind_18 hl (by decide) rfl (fun ls hl => ?_)
  exact L20 N x1 x2 (((1 : Int32) <<< (x3 &&& 31)) - 1) x3 0 0 ls H locs (lv_sub hl [2, 3, 4, 1, 0] rfl) hP hD hS h
set_option maxHeartbeats 4000000 in
set_option maxRecDepth 100000 in
theorem c_X11_behind {N : Nat} (l : Launch) (D : va_G) (k : Nat → ClassId) (a : Nat → Nat) (mSizes : Nat → Int32) (mSigns : Nat → Int32) (mOdds : Int32) (mPat : Int32) (mTyped : Int32) (mText : Nat → Int32) (mAt : Int32) (mFault : Int32) (mTests : Int32) (mTN : Nat → Int32) (mTS : Nat → Int32) (mTV : Nat → Int32) (mTB : Nat → Int32) (mRead : Int32) (mUns : Nat → Int32) (mUM : Int32) (mBA : Int32) (mBH : Int32) (mThere : Nat → Int32) (mTypes : Nat → Int32) (mHeld : Nat → Int32) (mItems : Nat → Int32) (mMoved : Nat → Int32) (mFind : Int32) (x1 : Int32) (x2 : Int32) (x3 : Int32) {o : (Int32) × (Int32)} (h : f_X11_behind N x1 x2 x3 mBA mBH = some o) : mQv l yX11_behind wo_X11_behind 0 D k [.ref (a 0), .int x1, .int x2, .int x3] (wM k a mSizes mSigns mOdds mPat mTyped mText mAt mFault mTests mTN mTS mTV mTB mRead mUns mUM mBA mBH mThere mTypes mHeld mItems mMoved mFind) (wM k a mSizes mSigns mOdds mPat mTyped mText mAt mFault mTests mTN mTS mTV mTB mRead mUns mUM o.1 o.2 mThere mTypes mHeld mItems mMoved mFind) := by
  intro sz
  refine Met.ofW (cc := cX11_behind) (maxL := 6) (ret := none) (by decide) rfl ?_
  intro p e s m args below meth c s₁ B hml hv
  obtain ⟨rfl, hsz, hP, hK, hD0⟩ := hv
  subst hsz
  rw [lg_entry_eq]
  exact core_X11_behind D k a mSizes mSigns mOdds mPat mTyped mText mAt mFault mTests mTN mTS mTV mTB mRead mUns mUM mBA mBH mThere mTypes mHeld mItems mMoved mFind x1 x2 x3 B.exec B.bytes hml B.returns (atoms_spec (ws := wo_X11_behind) B.pre) (findClass_of_methodNamed B.named) B.notSynchronized (lv_entry [.ref (a 0), .int x1, .int x2, .int x3] (n := 6) (Nat.le_of_ble_eq_true rfl)) hK hP hD0.self (fun q h => Or.inr h) h
theorem qd_X11_behind : yX11_behind.cls = RX11 ∧ yX11_behind.cls ≠ "java/lang/invoke/MethodHandle" ∧ yX11_behind.cls ≠ "java/lang/invoke/VarHandle" ∧ (parseMethodDescriptor yX11_behind.desc).map (fun d => d.parameters.length) = some 3 := by decide +kernel
abbrev wo_X11_hot : List Cond := .code yX11_hot cX11_hot 4 (some .long) :: wsL_law
set_option maxHeartbeats 4000000 in
set_option maxRecDepth 100000 in
theorem core_X11_hot {N : Nat} (D : va_G) (k : Nat → ClassId) (a : Nat → Nat) (mSizes : Nat → Int32) (mSigns : Nat → Int32) (mOdds : Int32) (mPat : Int32) (mTyped : Int32) (mText : Nat → Int32) (mAt : Int32) (mFault : Int32) (mTests : Int32) (mTN : Nat → Int32) (mTS : Nat → Int32) (mTV : Nat → Int32) (mTB : Nat → Int32) (mRead : Int32) (mUns : Nat → Int32) (mUM : Int32) (mBA : Int32) (mBH : Int32) (mThere : Nat → Int32) (mTypes : Nat → Int32) (mHeld : Nat → Int32) (mItems : Nat → Int32) (mMoved : Nat → Int32) (mFind : Int32) (x1 : Int32) (x2 : Int32) (x3 : Int32) {p : Program} {l : Launch} {e : Env} {s : State} {m : MethodId} {args : Array Value} {below : List Frame} {meth : Method} {c : Code} {ls : Array Slot} (hx : p.tables.exec = Jvm.exec) (hb : c.code = cX11_hot) (hml : c.maxLocals = 4) (hr : meth.sig.returnType = some .long) (hts : ∀ w ∈ wo_X11_hot, w.before args s = true) (hown : s.vm.findClass RX11 = some m.cls) (hlocks : meth.locks = false) (hl : lv_has ls 4 [(0, .ref (a 0)), (1, .int x1), (2, .int x2), (3, .int x3)]) (hK : va_K D vwCl (xTys k) s) (hP : va_P D vwCl (wM k a mSizes mSigns mOdds mPat mTyped mText mAt mFault mTests mTN mTS mTV mTB mRead mUns mUM mBA mBH mThere mTypes mHeld mItems mMoved mFind) s.heap) {A : Nat → Prop} (hD : va_D A (wM k a mSizes mSigns mOdds mPat mTyped mText mAt mFault mTests mTN mTS mTV mTB mRead mUns mUM mBA mBH mThere mTypes mHeld mItems mMoved mFind)) (hA : ∀ q : Nat, s.heap.size ≤ q → A q) {o : Int64 × (Int32) × (Int32)} (h : f_X11_hot N x1 x2 x3 mSizes mSigns mBA mBH = some o) : gQl p l e wo_X11_hot 2 s m args below meth c D k A o.1 (wM k a mSizes mSigns mOdds mPat mTyped mText mAt mFault mTests mTN mTS mTV mTB mRead mUns mUM o.2.1 o.2.2 mThere mTypes mHeld mItems mMoved mFind) s.heap [] (F0 m 0 ls []) := by
  have hi11 := (fun w h => List.mem_cons_of_mem _ (inlX11 w h) : ∀ w ∈ wsX110, w ∈ wo_X11_hot)
  have kf7 := hts _ (List.mem_cons_of_mem _ wm_72)
  have kf174 := hts _ (List.mem_cons_of_mem _ wm_646)
  have kf177 := hts _ (List.mem_cons_of_mem _ wm_647)
  unfold f_X11_hot at h
  have hS : va_S A s.heap s.heap [] := va_S.rf
  obtain ⟨H, hH⟩ : ∃ H : Heap, H = s.heap := ⟨_, rfl⟩
  obtain ⟨locs, hlc⟩ : ∃ locs : List Loc, locs = [] := ⟨_, rfl⟩
  have hS : va_S A s.heap H locs := by rw [hH, hlc]; exact va_S.rf
  have hP : va_P D vwCl (wM k a mSizes mSigns mOdds mPat mTyped mText mAt mFault mTests mTN mTS mTV mTB mRead mUns mUM mBA mBH mThere mTypes mHeld mItems mMoved mFind) H := by rw [hH]; exact hP
  suffices hGo : gQl p l e wo_X11_hot 2 s m args below meth c D k A o.1 (wM k a mSizes mSigns mOdds mPat mTyped mText mAt mFault mTests mTN mTS mTV mTB mRead mUns mUM o.2.1 o.2.2 mThere mTypes mHeld mItems mMoved mFind) H locs (F0 m 0 ls []) by rw [hH, hlc] at hGo; exact hGo
  refine lv_iload_n hx hb dX11_hot_0 rfl (lv_at hl 1 rfl) ?_
  obtain ⟨o1, eq2, h⟩ := bnd_some h
  refine kPi (rest := []) ⟨hx, hb, hml, hown, hts⟩ (c_X11_isRow l x1 eq2) (va_cwS 1 hts (gAS wm_117 wm_118 wm_5 wm_119) rfl rfl rfl qd_X11_isRow ⟨Nat.le_of_ble_eq_true rfl, Nat.le_of_ble_eq_true rfl⟩) rfl hl.1 rfl (Nat.le_of_ble_eq_true rfl) dX11_hot_1 ⟨Nat.zero_le _, Nat.zero_le _⟩ ?_
  refine lv_if_eq (tgt := 25) hx hb dX11_hot_4 (by decide) (fun c3 => ?_) (fun c3 => ?_)
  · replace h := (if_pos c3).symm.trans h
    refine lv_bipush (v := (-2)) hx hb dX11_hot_25 (by decide) ?_
    obtain ⟨o4, eq5, h⟩ := bnd_some h
    refine kPl (rest := []) ⟨hx, hb, hml, hown, hts⟩ (c_X11_no l (-2) eq5) (va_cwS 1 hts (gAS wm_523 wm_524 wm_5 wm_525) rfl rfl rfl qd_X11_no ⟨Nat.le_of_ble_eq_true rfl, Nat.le_of_ble_eq_true rfl⟩) rfl hl.1 rfl (Nat.le_of_ble_eq_true rfl) dX11_hot_27 ⟨Nat.zero_le _, Nat.zero_le _⟩ ?_
    have he := Option.some.inj h
    exact W.lret (v := o4) hx hb hr (fun t ht hW => ⟨⟨o4, wM k a mSizes mSigns mOdds mPat mTyped mText mAt mFault mTests mTN mTS mTV mTB mRead mUns mUM mBA mBH mThere mTypes mHeld mItems mMoved mFind, rfl, ⟨(congrArg (fun z => z.1) he), (congrArg (fun z => wM k a mSizes mSigns mOdds mPat mTyped mText mAt mFault mTests mTN mTS mTV mTB mRead mUns mUM z.2.1 z.2.2 mThere mTypes mHeld mItems mMoved mFind) he)⟩, by rw [ht]; exact hP, va_K.moved hW.alike hK, hD⟩, hS.F ht⟩) hS.2.2 dX11_hot_30
  · replace h := (if_neg c3).symm.trans h
    refine lv_iload_n hx hb dX11_hot_7 rfl (lv_at hl 2 rfl) ?_
    refine lv_iconst (v := 1) hx hb dX11_hot_8 (by decide) ?_
    refine lv_iconst (v := 4) hx hb dX11_hot_9 (by decide) ?_
    obtain ⟨o6, eq7, h⟩ := bnd_some h
    refine kPi (rest := []) ⟨hx, hb, hml, hown, hts⟩ (c_X11_in l x2 1 4 eq7) (va_cwS 3 hts (gAS wm_120 wm_121 wm_5 wm_122) rfl rfl rfl qd_X11_in ⟨Nat.le_of_ble_eq_true rfl, Nat.le_of_ble_eq_true rfl⟩) rfl hl.1 rfl (Nat.le_of_ble_eq_true rfl) dX11_hot_10 ⟨Nat.zero_le _, Nat.zero_le _⟩ ?_
    refine lv_if_eq (tgt := 25) hx hb dX11_hot_13 (by decide) (fun c8 => ?_) (fun c8 => ?_)
    · replace h := (if_pos c8).symm.trans h
      refine lv_bipush (v := (-2)) hx hb dX11_hot_25 (by decide) ?_
      obtain ⟨o9, eq10, h⟩ := bnd_some h
      refine kPl (rest := []) ⟨hx, hb, hml, hown, hts⟩ (c_X11_no l (-2) eq10) (va_cwS 1 hts (gAS wm_523 wm_524 wm_5 wm_525) rfl rfl rfl qd_X11_no ⟨Nat.le_of_ble_eq_true rfl, Nat.le_of_ble_eq_true rfl⟩) rfl hl.1 rfl (Nat.le_of_ble_eq_true rfl) dX11_hot_27 ⟨Nat.zero_le _, Nat.zero_le _⟩ ?_
      have he := Option.some.inj h
      exact W.lret (v := o9) hx hb hr (fun t ht hW => ⟨⟨o9, wM k a mSizes mSigns mOdds mPat mTyped mText mAt mFault mTests mTN mTS mTV mTB mRead mUns mUM mBA mBH mThere mTypes mHeld mItems mMoved mFind, rfl, ⟨(congrArg (fun z => z.1) he), (congrArg (fun z => wM k a mSizes mSigns mOdds mPat mTyped mText mAt mFault mTests mTN mTS mTV mTB mRead mUns mUM z.2.1 z.2.2 mThere mTypes mHeld mItems mMoved mFind) he)⟩, by rw [ht]; exact hP, va_K.moved hW.alike hK, hD⟩, hS.F ht⟩) hS.2.2 dX11_hot_30
    · replace h := (if_neg c8).symm.trans h
      refine lv_iload_n hx hb dX11_hot_16 rfl (lv_at hl 3 rfl) ?_
      refine lv_iconst (v := 0) hx hb dX11_hot_17 (by decide) ?_
      refine lv_iconst (v := 1) hx hb dX11_hot_18 (by decide) ?_
      obtain ⟨o11, eq12, h⟩ := bnd_some h
      refine kPi (rest := []) ⟨hx, hb, hml, hown, hts⟩ (c_X11_in l x3 0 1 eq12) (va_cwS 3 hts (gAS wm_120 wm_121 wm_5 wm_122) rfl rfl rfl qd_X11_in ⟨Nat.le_of_ble_eq_true rfl, Nat.le_of_ble_eq_true rfl⟩) rfl hl.1 rfl (Nat.le_of_ble_eq_true rfl) dX11_hot_19 ⟨Nat.zero_le _, Nat.zero_le _⟩ ?_
      refine lv_if_ne (tgt := 31) hx hb dX11_hot_22 (by decide) (fun c13 => ?_) (fun c13 => ?_)
      · replace h := (if_neg c13).symm.trans h
        refine lv_aload_n hx hb dX11_hot_31 rfl (lv_at hl 0 rfl) ?_
        refine lv_iload_n hx hb dX11_hot_32 rfl (lv_at hl 1 rfl) ?_
        obtain ⟨o14, eq15, h⟩ := bnd_some h
        refine kRiV (rest := []) (q0 := 0) ⟨hx, hb, hml, hown, hts⟩ (c_X11_isWhole l D k a mSizes mSigns mOdds mPat mTyped mText mAt mFault mTests mTN mTS mTV mTB mRead mUns mUM mBA mBH mThere mTypes mHeld mItems mMoved mFind x1 eq15) (cwV 1 hts (gAV wm_241 wm_242 wm_243 wm_5 wm_244) rfl rfl rfl qd_X11_isWhole ⟨Nat.le_of_ble_eq_true rfl, Nat.le_of_ble_eq_true rfl⟩) hK hP (rfl) rfl rfl hl.1 rfl (Nat.le_of_ble_eq_true rfl) dX11_hot_33 ⟨Nat.zero_le _, Nat.zero_le _⟩ ?_
        refine lv_if_ne (tgt := 45) hx hb dX11_hot_36 (by decide) (fun c16 => ?_) (fun c16 => ?_)
        · replace h := (if_neg c16).symm.trans h
          refine lv_aload_n hx hb dX11_hot_45 rfl (lv_at hl 0 rfl) ?_
          refine lv_aload_n hx hb dX11_hot_46 rfl (lv_at hl 0 rfl) ?_
          refine lv_iload_n hx hb dX11_hot_47 rfl (lv_at hl 1 rfl) ?_
          obtain ⟨o17, eq18, h⟩ := bnd_some h
          refine kRiV (rest := [.ref (a 0)]) (q0 := 0) ⟨hx, hb, hml, hown, hts⟩ (c_X11_bitsOf l D k a mSizes mSigns mOdds mPat mTyped mText mAt mFault mTests mTN mTS mTV mTB mRead mUns mUM mBA mBH mThere mTypes mHeld mItems mMoved mFind x1 eq18) (cwV 1 hts (gAV wm_245 wm_246 wm_247 wm_5 wm_248) rfl rfl rfl qd_X11_bitsOf ⟨Nat.le_of_ble_eq_true rfl, Nat.le_of_ble_eq_true rfl⟩) hK hP (rfl) rfl rfl hl.1 rfl (Nat.le_of_ble_eq_true rfl) dX11_hot_48 ⟨Nat.zero_le _, Nat.zero_le _⟩ ?_
          refine lv_aload_n hx hb dX11_hot_51 rfl (lv_at hl 0 rfl) ?_
          refine va_get (D := D) (ci := 6) (v := .ref (a 1)) (C := RX11) (T := TX11) (N := 24) hx hb hts hi11 hown hK hP (0) (rfl) rfl 0 (by decide) kf7 (fun _ h9 => h9) rfl dX11_hot_52 ?_
          refine lv_iload_n hx hb dX11_hot_55 rfl (lv_at hl 1 rfl) ?_
          obtain ⟨g19, h⟩ := gIn_some h
          refine va_iald hx hb hK hP (1) 0 (rfl) rfl g19 dX11_hot_56 ?_
          refine lv_iload_n hx hb dX11_hot_57 rfl (lv_at hl 2 rfl) ?_
          obtain ⟨o20, eq21, h⟩ := bnd_some h
          refine kQvV (rest := []) (q0 := 0) ⟨hx, hb, hml, hown, hts⟩ (c_X11_behind l D k a mSizes mSigns mOdds mPat mTyped mText mAt mFault mTests mTN mTS mTV mTB mRead mUns mUM mBA mBH mThere mTypes mHeld mItems mMoved mFind o17 (mSizes x1.toNatClampNeg) x2 eq21) (cwV 3 hts (gAV wm_648 wm_649 wm_650 wm_5 wm_651) rfl rfl rfl qd_X11_behind ⟨Nat.le_of_ble_eq_true rfl, Nat.le_of_ble_eq_true rfl⟩) hK hP hD hS hA (rfl) rfl rfl hl.1 rfl (Nat.le_of_ble_eq_true rfl) dX11_hot_58 ⟨Nat.zero_le _, Nat.zero_le _⟩ (fun H locs hP hD hS => ?_)
          have hP : va_P D vwCl (wM k a mSizes mSigns mOdds mPat mTyped mText mAt mFault mTests mTN mTS mTV mTB mRead mUns mUM o20.1 o20.2 mThere mTypes mHeld mItems mMoved mFind) H := hP
          have hD : va_D A (wM k a mSizes mSigns mOdds mPat mTyped mText mAt mFault mTests mTN mTS mTV mTB mRead mUns mUM o20.1 o20.2 mThere mTypes mHeld mItems mMoved mFind) := hD
          refine lv_aload_n hx hb dX11_hot_61 rfl (lv_at hl 0 rfl) ?_
          refine va_get (D := D) (ci := 6) (v := .int o20.1) (C := RX11) (T := TX11) (N := 24) hx hb hts hi11 hown hK hP (0) (rfl) rfl 16 (by decide) kf174 (fun _ h9 => h9) rfl dX11_hot_62 ?_
          refine lv_if_ne (tgt := 76) hx hb dX11_hot_65 (by decide) (fun c22 => ?_) (fun c22 => ?_)
          · replace h := (if_neg c22).symm.trans h
            refine lv_aload_n hx hb dX11_hot_76 rfl (lv_at hl 0 rfl) ?_
            refine va_get (D := D) (ci := 6) (v := .int o20.2) (C := RX11) (T := TX11) (N := 24) hx hb hts hi11 hown hK hP (0) (rfl) rfl 17 (by decide) kf177 (fun _ h9 => h9) rfl dX11_hot_77 ?_
            refine lv_i2l (v := o20.2.toInt64) hx hb dX11_hot_80 rfl ?_
            refine lv_aload_n hx hb dX11_hot_81 rfl (lv_at hl 0 rfl) ?_
            refine va_get (D := D) (ci := 6) (v := .int o20.1) (C := RX11) (T := TX11) (N := 24) hx hb hts hi11 hown hK hP (0) (rfl) rfl 16 (by decide) kf174 (fun _ h9 => h9) rfl dX11_hot_82 ?_
            refine lv_i2l (v := o20.1.toInt64) hx hb dX11_hot_85 rfl ?_
            refine lv_iload_n hx hb dX11_hot_86 rfl (lv_at hl 3 rfl) ?_
            obtain ⟨o23, eq24, h⟩ := bnd_some h
            refine kPl (rest := []) ⟨hx, hb, hml, hown, hts⟩ (c_X11_lowest l o20.2.toInt64 o20.1.toInt64 x3 eq24) (va_cwS 3 hts (gAS wm_530 wm_531 wm_5 wm_532) rfl rfl rfl qd_X11_lowest ⟨Nat.le_of_ble_eq_true rfl, Nat.le_of_ble_eq_true rfl⟩) rfl hl.1 rfl (Nat.le_of_ble_eq_true rfl) dX11_hot_87 ⟨Nat.zero_le _, Nat.zero_le _⟩ ?_
            have he := Option.some.inj h
            exact W.lret (v := o23) hx hb hr (fun t ht hW => ⟨⟨o23, wM k a mSizes mSigns mOdds mPat mTyped mText mAt mFault mTests mTN mTS mTV mTB mRead mUns mUM o20.1 o20.2 mThere mTypes mHeld mItems mMoved mFind, rfl, ⟨(congrArg (fun z => z.1) he), (congrArg (fun z => wM k a mSizes mSigns mOdds mPat mTyped mText mAt mFault mTests mTN mTS mTV mTB mRead mUns mUM z.2.1 z.2.2 mThere mTypes mHeld mItems mMoved mFind) he)⟩, by rw [ht]; exact hP, va_K.moved hW.alike hK, hD⟩, hS.F ht⟩) hS.2.2 dX11_hot_90
          · replace h := (if_pos c22).symm.trans h
            refine lv_bipush (v := (-3)) hx hb dX11_hot_68 (by decide) ?_
            obtain ⟨o25, eq26, h⟩ := bnd_some h
            refine kPl (rest := []) ⟨hx, hb, hml, hown, hts⟩ (c_X11_no l (-3) eq26) (va_cwS 1 hts (gAS wm_523 wm_524 wm_5 wm_525) rfl rfl rfl qd_X11_no ⟨Nat.le_of_ble_eq_true rfl, Nat.le_of_ble_eq_true rfl⟩) rfl hl.1 rfl (Nat.le_of_ble_eq_true rfl) dX11_hot_70 ⟨Nat.zero_le _, Nat.zero_le _⟩ ?_
            refine lv_goto (tgt := 90) hx hb dX11_hot_73 (by decide) ?_
            have he := Option.some.inj h
            exact W.lret (v := o25) hx hb hr (fun t ht hW => ⟨⟨o25, wM k a mSizes mSigns mOdds mPat mTyped mText mAt mFault mTests mTN mTS mTV mTB mRead mUns mUM o20.1 o20.2 mThere mTypes mHeld mItems mMoved mFind, rfl, ⟨(congrArg (fun z => z.1) he), (congrArg (fun z => wM k a mSizes mSigns mOdds mPat mTyped mText mAt mFault mTests mTN mTS mTV mTB mRead mUns mUM z.2.1 z.2.2 mThere mTypes mHeld mItems mMoved mFind) he)⟩, by rw [ht]; exact hP, va_K.moved hW.alike hK, hD⟩, hS.F ht⟩) hS.2.2 dX11_hot_90
        · replace h := (if_pos c16).symm.trans h
          refine lv_bipush (v := (-3)) hx hb dX11_hot_39 (by decide) ?_
          obtain ⟨o27, eq28, h⟩ := bnd_some h
          refine kPl (rest := []) ⟨hx, hb, hml, hown, hts⟩ (c_X11_no l (-3) eq28) (va_cwS 1 hts (gAS wm_523 wm_524 wm_5 wm_525) rfl rfl rfl qd_X11_no ⟨Nat.le_of_ble_eq_true rfl, Nat.le_of_ble_eq_true rfl⟩) rfl hl.1 rfl (Nat.le_of_ble_eq_true rfl) dX11_hot_41 ⟨Nat.zero_le _, Nat.zero_le _⟩ ?_
          have he := Option.some.inj h
          exact W.lret (v := o27) hx hb hr (fun t ht hW => ⟨⟨o27, wM k a mSizes mSigns mOdds mPat mTyped mText mAt mFault mTests mTN mTS mTV mTB mRead mUns mUM mBA mBH mThere mTypes mHeld mItems mMoved mFind, rfl, ⟨(congrArg (fun z => z.1) he), (congrArg (fun z => wM k a mSizes mSigns mOdds mPat mTyped mText mAt mFault mTests mTN mTS mTV mTB mRead mUns mUM z.2.1 z.2.2 mThere mTypes mHeld mItems mMoved mFind) he)⟩, by rw [ht]; exact hP, va_K.moved hW.alike hK, hD⟩, hS.F ht⟩) hS.2.2 dX11_hot_44
      · replace h := (if_pos c13).symm.trans h
        refine lv_bipush (v := (-2)) hx hb dX11_hot_25 (by decide) ?_
        obtain ⟨o29, eq30, h⟩ := bnd_some h
        refine kPl (rest := []) ⟨hx, hb, hml, hown, hts⟩ (c_X11_no l (-2) eq30) (va_cwS 1 hts (gAS wm_523 wm_524 wm_5 wm_525) rfl rfl rfl qd_X11_no ⟨Nat.le_of_ble_eq_true rfl, Nat.le_of_ble_eq_true rfl⟩) rfl hl.1 rfl (Nat.le_of_ble_eq_true rfl) dX11_hot_27 ⟨Nat.zero_le _, Nat.zero_le _⟩ ?_
        have he := Option.some.inj h
        exact W.lret (v := o29) hx hb hr (fun t ht hW => ⟨⟨o29, wM k a mSizes mSigns mOdds mPat mTyped mText mAt mFault mTests mTN mTS mTV mTB mRead mUns mUM mBA mBH mThere mTypes mHeld mItems mMoved mFind, rfl, ⟨(congrArg (fun z => z.1) he), (congrArg (fun z => wM k a mSizes mSigns mOdds mPat mTyped mText mAt mFault mTests mTN mTS mTV mTB mRead mUns mUM z.2.1 z.2.2 mThere mTypes mHeld mItems mMoved mFind) he)⟩, by rw [ht]; exact hP, va_K.moved hW.alike hK, hD⟩, hS.F ht⟩) hS.2.2 dX11_hot_30
set_option maxHeartbeats 4000000 in
set_option maxRecDepth 100000 in
theorem c_X11_hot {N : Nat} (l : Launch) (D : va_G) (k : Nat → ClassId) (a : Nat → Nat) (mSizes : Nat → Int32) (mSigns : Nat → Int32) (mOdds : Int32) (mPat : Int32) (mTyped : Int32) (mText : Nat → Int32) (mAt : Int32) (mFault : Int32) (mTests : Int32) (mTN : Nat → Int32) (mTS : Nat → Int32) (mTV : Nat → Int32) (mTB : Nat → Int32) (mRead : Int32) (mUns : Nat → Int32) (mUM : Int32) (mBA : Int32) (mBH : Int32) (mThere : Nat → Int32) (mTypes : Nat → Int32) (mHeld : Nat → Int32) (mItems : Nat → Int32) (mMoved : Nat → Int32) (mFind : Int32) (x1 : Int32) (x2 : Int32) (x3 : Int32) {o : Int64 × (Int32) × (Int32)} (h : f_X11_hot N x1 x2 x3 mSizes mSigns mBA mBH = some o) : mQl l yX11_hot wo_X11_hot 2 D k [.ref (a 0), .int x1, .int x2, .int x3] (wM k a mSizes mSigns mOdds mPat mTyped mText mAt mFault mTests mTN mTS mTV mTB mRead mUns mUM mBA mBH mThere mTypes mHeld mItems mMoved mFind) o.1 (wM k a mSizes mSigns mOdds mPat mTyped mText mAt mFault mTests mTN mTS mTV mTB mRead mUns mUM o.2.1 o.2.2 mThere mTypes mHeld mItems mMoved mFind) := by
  intro sz
  refine Met.ofW (cc := cX11_hot) (maxL := 4) (ret := some .long) (by decide) rfl ?_
  intro p e s m args below meth c s₁ B hml hv
  obtain ⟨rfl, hsz, hP, hK, hD0⟩ := hv
  subst hsz
  rw [lg_entry_eq]
  exact core_X11_hot D k a mSizes mSigns mOdds mPat mTyped mText mAt mFault mTests mTN mTS mTV mTB mRead mUns mUM mBA mBH mThere mTypes mHeld mItems mMoved mFind x1 x2 x3 B.exec B.bytes hml B.returns (atoms_spec (ws := wo_X11_hot) B.pre) (findClass_of_methodNamed B.named) B.notSynchronized (lv_entry [.ref (a 0), .int x1, .int x2, .int x3] (n := 4) (Nat.le_of_ble_eq_true rfl)) hK hP hD0.self (fun q h => Or.inr h) h
theorem qd_X11_hot : yX11_hot.cls = RX11 ∧ yX11_hot.cls ≠ "java/lang/invoke/MethodHandle" ∧ yX11_hot.cls ≠ "java/lang/invoke/VarHandle" ∧ (parseMethodDescriptor yX11_hot.desc).map (fun d => d.parameters.length) = some 3 := by decide +kernel
