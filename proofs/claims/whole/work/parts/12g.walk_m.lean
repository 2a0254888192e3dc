abbrev wo_X11_twice : List Cond := .code yX11_twice cX11_twice 8 (some .int) :: wsL_law
set_option maxHeartbeats 4000000 in
set_option maxRecDepth 100000 in
theorem core_X11_twice {N : Nat} (D : va_G) (k : Nat → ClassId) (a : Nat → Nat) (mSizes : Nat → Int32) (mSigns : Nat → Int32) (mOdds : Int32) (mPat : Int32) (mTyped : Int32) (mText : Nat → Int32) (mAt : Int32) (mFault : Int32) (mTests : Int32) (mTN : Nat → Int32) (mTS : Nat → Int32) (mTV : Nat → Int32) (mTB : Nat → Int32) (mRead : Int32) (mUns : Nat → Int32) (mUM : Int32) (mBA : Int32) (mBH : Int32) (mThere : Nat → Int32) (mTypes : Nat → Int32) (mHeld : Nat → Int32) (mItems : Nat → Int32) (mMoved : Nat → Int32) (mFind : Int32) (x1 : Int32) {p : Program} {l : Launch} {e : Env} {s : State} {m : MethodId} {args : Array Value} {below : List Frame} {meth : Method} {c : Code} {ls : Array Slot} (hx : p.tables.exec = Jvm.exec) (hb : c.code = cX11_twice) (hml : c.maxLocals = 8) (hr : meth.sig.returnType = some .int) (hts : ∀ w ∈ wo_X11_twice, w.before args s = true) (hown : s.vm.findClass RX11 = some m.cls) (hlocks : meth.locks = false) (hl : lv_has ls 8 [(0, .ref (a 0)), (1, .int x1)]) (hK : va_K D vwCl (xTys k) s) (hP : va_P D vwCl (wM k a mSizes mSigns mOdds mPat mTyped mText mAt mFault mTests mTN mTS mTV mTB mRead mUns mUM mBA mBH mThere mTypes mHeld mItems mMoved mFind) s.heap) {o : Int32} (h : f_X11_twice N x1 mSizes mSigns = some o) : gRi p l e wo_X11_twice 2 s m args below meth c o (F0 m 0 ls []) := by
  have hi11 := (fun w h => List.mem_cons_of_mem _ (inlX11 w h) : ∀ w ∈ wsX110, w ∈ wo_X11_twice)
  have kf13 := hts _ (List.mem_cons_of_mem _ wm_73)
  have kf7 := hts _ (List.mem_cons_of_mem _ wm_72)
  unfold f_X11_twice at h
  have L52 : ∀ (n52 : Nat) (x1 : Int32) (x2 : Int32) (x3 : Int32) (x4 : Int32) (x5 : Int32) (x6 : Int32) (ls : Array Slot) (hl : lv_has ls 8 [(0, .ref (a 0)), (1, .int x1), (2, .int x2), (3, .int x3), (4, .int x4), (5, .int x5), (6, .int x6)]) (h : f_X11_twice_52 N n52 x1 x2 x3 x4 x5 x6 mSizes mSigns = some o), gRi p l e wo_X11_twice 2 s m args below meth c o (F0 m 52 ls []) := by
    intro n52
    induction n52 with
    | zero => intro x1 x2 x3 x4 x5 x6 ls hl h; cases (show (none : Option (Int32)) = some o from h)
    | succ n52 ih52 =>
      have J167 : ∀ (x1 : Int32) (x2 : Int32) (x3 : Int32) (x4 : Int32) (x6 : Int32) (s0 : Int32) (ls : Array Slot) (hl : lv_has ls 8 [(0, .ref (a 0)), (1, .int x1), (2, .int x2), (3, .int x3), (4, .int x4), (6, .int x6)]) (h : f_X11_twice_167 N (fun y0 y1 y2 y3 y4 y5 y6 y7 => f_X11_twice_52 N n52 y0 y1 y2 y3 y4 y5 y6 y7) x1 x2 x3 x4 x6 s0 mSizes mSigns = some o), gRi p l e wo_X11_twice 2 s m args below meth c o (F0 m 167 ls [.int s0]) := by
        intro x1 x2 x3 x4 x6 s0 ls hl h
        unfold f_X11_twice_167 at h
        refine lv_istore (lv' := [(5, .int s0), (0, .ref (a 0)), (1, .int x1), (2, .int x2), (3, .int x3), (4, .int x4), (6, .int x6)]) hx hb dX11_twice_167 hl (by decide) rfl (fun ls hl => ?_)
        refine lv_iinc (v := (x6 + 1)) (lv' := [(6, .int (x6 + 1)), (5, .int s0), (0, .ref (a 0)), (1, .int x1), (2, .int x2), (3, .int x3), (4, .int x4)]) hx hb dX11_twice_169 hl (k := 6) rfl rfl (by decide) rfl (fun ls hl => ?_)
        refine lv_goto (tgt := 52) hx hb dX11_twice_172 (by decide) ?_
        exact ih52 x1 x2 x3 x4 s0 (x6 + 1) ls (lv_sub hl [2, 3, 4, 5, 6, 1, 0] rfl) h
      have J166 : ∀ (x1 : Int32) (x2 : Int32) (x3 : Int32) (x4 : Int32) (x6 : Int32) (ls : Array Slot) (hl : lv_has ls 8 [(0, .ref (a 0)), (1, .int x1), (2, .int x2), (3, .int x3), (4, .int x4), (6, .int x6)]) (h : f_X11_twice_166 N (fun y0 y1 y2 y3 y4 y5 y6 y7 => f_X11_twice_52 N n52 y0 y1 y2 y3 y4 y5 y6 y7) x1 x2 x3 x4 x6 mSizes mSigns = some o), gRi p l e wo_X11_twice 2 s m args below meth c o (F0 m 166 ls []) := by
        intro x1 x2 x3 x4 x6 ls hl h
        unfold f_X11_twice_166 at h
        refine lv_iconst (v := 0) hx hb dX11_twice_166 (by decide) ?_
        exact J167 x1 x2 x3 x4 x6 0 ls (lv_sub hl [0, 1, 2, 3, 4, 5] rfl) h
      have J132 : ∀ (x1 : Int32) (x2 : Int32) (x3 : Int32) (x5 : Int32) (x6 : Int32) (x7 : Int32) (s0 : Int32) (ls : Array Slot) (hl : lv_has ls 8 [(0, .ref (a 0)), (1, .int x1), (2, .int x2), (3, .int x3), (5, .int x5), (6, .int x6), (7, .int x7)]) (h : f_X11_twice_132 N (fun y0 y1 y2 y3 y4 y5 y6 y7 => f_X11_twice_52 N n52 y0 y1 y2 y3 y4 y5 y6 y7) x1 x2 x3 x5 x6 x7 s0 mSizes mSigns = some o), gRi p l e wo_X11_twice 2 s m args below meth c o (F0 m 132 ls [.int s0]) := by
        intro x1 x2 x3 x5 x6 x7 s0 ls hl h
        unfold f_X11_twice_132 at h
        refine lv_istore (lv' := [(4, .int s0), (0, .ref (a 0)), (1, .int x1), (2, .int x2), (3, .int x3), (5, .int x5), (6, .int x6), (7, .int x7)]) hx hb dX11_twice_132 hl (by decide) rfl (fun ls hl => ?_)
        refine lv_iload hx hb dX11_twice_134 (lv_at hl 5 rfl) ?_
        refine lv_if_eq (tgt := 166) hx hb dX11_twice_136 (by decide) (fun c1 => ?_) (fun c1 => ?_)
        · replace h := (if_pos c1).symm.trans h
          exact J166 x1 x2 x3 s0 x6 ls (lv_sub hl [1, 2, 3, 4, 0, 6] rfl) h
        · replace h := (if_neg c1).symm.trans h
          refine lv_iload hx hb dX11_twice_139 (lv_at hl 7 rfl) ?_
          refine lv_aload_n hx hb dX11_twice_141 rfl (lv_at hl 1 rfl) ?_
          refine va_get (D := D) (ci := 6) (v := .ref (a 2)) (C := RX11) (T := TX11) (N := 24) hx hb hts hi11 hown hK hP (0) (rfl) rfl 1 (by decide) kf13 (fun _ h9 => h9) rfl dX11_twice_142 ?_
          refine lv_bipush (v := 15) hx hb dX11_twice_145 (by decide) ?_
          refine lv_iload_n hx hb dX11_twice_147 rfl (lv_at hl 2 rfl) ?_
          refine lv_imul hx hb dX11_twice_148 ?_
          refine lv_iload_n hx hb dX11_twice_149 rfl (lv_at hl 3 rfl) ?_
          refine lv_iconst (v := 2) hx hb dX11_twice_150 (by decide) ?_
          refine lv_idiv hx hb dX11_twice_151 (by decide) ?_
          refine lv_iadd hx hb dX11_twice_152 ?_
          refine lv_iconst (v := 1) hx hb dX11_twice_153 (by decide) ?_
          refine lv_isub hx hb dX11_twice_154 ?_
          refine lv_iload hx hb dX11_twice_155 (lv_at hl 6 rfl) ?_
          refine lv_isub hx hb dX11_twice_157 ?_
          obtain ⟨g2, h⟩ := gIn_some h
          refine va_iald hx hb hK hP (2) 0 (rfl) rfl g2 dX11_twice_158 ?_
          refine lv_icmp_ne (tgt := 166) hx hb dX11_twice_159 (by decide) (fun c3 => ?_) (fun c3 => ?_)
          · replace h := (if_neg c3).symm.trans h
            exact J166 x1 x2 x3 s0 x6 ls (lv_sub hl [1, 2, 3, 4, 0, 6] rfl) h
          · replace h := (if_pos c3).symm.trans h
            refine lv_iconst (v := 1) hx hb dX11_twice_162 (by decide) ?_
            refine lv_goto (tgt := 167) hx hb dX11_twice_163 (by decide) ?_
            exact J167 x1 x2 x3 s0 x6 1 ls (lv_sub hl [1, 2, 3, 4, 0, 6] rfl) h
      have J131 : ∀ (x1 : Int32) (x2 : Int32) (x3 : Int32) (x5 : Int32) (x6 : Int32) (x7 : Int32) (ls : Array Slot) (hl : lv_has ls 8 [(0, .ref (a 0)), (1, .int x1), (2, .int x2), (3, .int x3), (5, .int x5), (6, .int x6), (7, .int x7)]) (h : f_X11_twice_131 N (fun y0 y1 y2 y3 y4 y5 y6 y7 => f_X11_twice_52 N n52 y0 y1 y2 y3 y4 y5 y6 y7) x1 x2 x3 x5 x6 x7 mSizes mSigns = some o), gRi p l e wo_X11_twice 2 s m args below meth c o (F0 m 131 ls []) := by
        intro x1 x2 x3 x5 x6 x7 ls hl h
        unfold f_X11_twice_131 at h
        refine lv_iconst (v := 0) hx hb dX11_twice_131 (by decide) ?_
        exact J132 x1 x2 x3 x5 x6 x7 0 ls (lv_sub hl [0, 1, 2, 3, 4, 5, 6] rfl) h
      have J104 : ∀ (x1 : Int32) (x2 : Int32) (x4 : Int32) (x5 : Int32) (x6 : Int32) (x7 : Int32) (s0 : Int32) (ls : Array Slot) (hl : lv_has ls 8 [(0, .ref (a 0)), (1, .int x1), (2, .int x2), (4, .int x4), (5, .int x5), (6, .int x6), (7, .int x7)]) (h : f_X11_twice_104 N (fun y0 y1 y2 y3 y4 y5 y6 y7 => f_X11_twice_52 N n52 y0 y1 y2 y3 y4 y5 y6 y7) x1 x2 x4 x5 x6 x7 s0 mSizes mSigns = some o), gRi p l e wo_X11_twice 2 s m args below meth c o (F0 m 104 ls [.int s0]) := by
        intro x1 x2 x4 x5 x6 x7 s0 ls hl h
        unfold f_X11_twice_104 at h
        refine lv_istore_n (lv' := [(3, .int s0), (0, .ref (a 0)), (1, .int x1), (2, .int x2), (4, .int x4), (5, .int x5), (6, .int x6), (7, .int x7)]) hx hb dX11_twice_104 rfl hl (by decide) rfl (fun ls hl => ?_)
        refine lv_iload hx hb dX11_twice_105 (lv_at hl 4 rfl) ?_
        refine lv_if_eq (tgt := 131) hx hb dX11_twice_107 (by decide) (fun c4 => ?_) (fun c4 => ?_)
        · replace h := (if_pos c4).symm.trans h
          exact J131 x1 x2 s0 x5 x6 x7 ls (lv_sub hl [1, 2, 3, 0, 5, 6, 7] rfl) h
        · replace h := (if_neg c4).symm.trans h
          refine lv_iload hx hb dX11_twice_110 (lv_at hl 7 rfl) ?_
          refine lv_aload_n hx hb dX11_twice_112 rfl (lv_at hl 1 rfl) ?_
          refine va_get (D := D) (ci := 6) (v := .ref (a 2)) (C := RX11) (T := TX11) (N := 24) hx hb hts hi11 hown hK hP (0) (rfl) rfl 1 (by decide) kf13 (fun _ h9 => h9) rfl dX11_twice_113 ?_
          refine lv_bipush (v := 15) hx hb dX11_twice_116 (by decide) ?_
          refine lv_iload_n hx hb dX11_twice_118 rfl (lv_at hl 2 rfl) ?_
          refine lv_imul hx hb dX11_twice_119 ?_
          refine lv_iload hx hb dX11_twice_120 (lv_at hl 6 rfl) ?_
          refine lv_iadd hx hb dX11_twice_122 ?_
          obtain ⟨g5, h⟩ := gIn_some h
          refine va_iald hx hb hK hP (2) 0 (rfl) rfl g5 dX11_twice_123 ?_
          refine lv_icmp_eq (tgt := 131) hx hb dX11_twice_124 (by decide) (fun c6 => ?_) (fun c6 => ?_)
          · replace h := (if_pos c6).symm.trans h
            exact J131 x1 x2 s0 x5 x6 x7 ls (lv_sub hl [1, 2, 3, 0, 5, 6, 7] rfl) h
          · replace h := (if_neg c6).symm.trans h
            refine lv_iconst (v := 1) hx hb dX11_twice_127 (by decide) ?_
            refine lv_goto (tgt := 132) hx hb dX11_twice_128 (by decide) ?_
            exact J132 x1 x2 s0 x5 x6 x7 1 ls (lv_sub hl [1, 2, 3, 0, 5, 6, 7] rfl) h
      have J103 : ∀ (x1 : Int32) (x2 : Int32) (x4 : Int32) (x5 : Int32) (x6 : Int32) (x7 : Int32) (ls : Array Slot) (hl : lv_has ls 8 [(0, .ref (a 0)), (1, .int x1), (2, .int x2), (4, .int x4), (5, .int x5), (6, .int x6), (7, .int x7)]) (h : f_X11_twice_103 N (fun y0 y1 y2 y3 y4 y5 y6 y7 => f_X11_twice_52 N n52 y0 y1 y2 y3 y4 y5 y6 y7) x1 x2 x4 x5 x6 x7 mSizes mSigns = some o), gRi p l e wo_X11_twice 2 s m args below meth c o (F0 m 103 ls []) := by
        intro x1 x2 x4 x5 x6 x7 ls hl h
        unfold f_X11_twice_103 at h
        refine lv_iconst (v := 0) hx hb dX11_twice_103 (by decide) ?_
        exact J104 x1 x2 x4 x5 x6 x7 0 ls (lv_sub hl [0, 1, 2, 3, 4, 5, 6] rfl) h
      intro x1 x2 x3 x4 x5 x6 ls hl h
      rw [f_X11_twice_52] at h
      refine lv_iload hx hb dX11_twice_52 (lv_at hl 6 rfl) ?_
      refine lv_iload_n hx hb dX11_twice_54 rfl (lv_at hl 2 rfl) ?_
      refine lv_iconst (v := 2) hx hb dX11_twice_55 (by decide) ?_
      refine lv_idiv hx hb dX11_twice_56 (by decide) ?_
      refine lv_icmp_ge (tgt := 175) hx hb dX11_twice_57 (by decide) (fun c7 => ?_) (fun c7 => ?_)
      · replace h := (if_pos c7).symm.trans h
        refine lv_iload_n hx hb dX11_twice_175 rfl (lv_at hl 3 rfl) ?_
        refine lv_if_eq (tgt := 183) hx hb dX11_twice_176 (by decide) (fun c8 => ?_) (fun c8 => ?_)
        · replace h := (if_pos c8).symm.trans h
          refine lv_iload hx hb dX11_twice_183 (lv_at hl 4 rfl) ?_
          refine lv_if_eq (tgt := 192) hx hb dX11_twice_185 (by decide) (fun c9 => ?_) (fun c9 => ?_)
          · replace h := (if_pos c9).symm.trans h
            refine lv_iload hx hb dX11_twice_192 (lv_at hl 5 rfl) ?_
            refine lv_if_eq (tgt := 201) hx hb dX11_twice_194 (by decide) (fun c10 => ?_) (fun c10 => ?_)
            · replace h := (if_pos c10).symm.trans h
              refine lv_iconst (v := 0) hx hb dX11_twice_201 (by decide) ?_
              exact W.iret (v := 0) hx hb hr (fun t ht hW => ⟨_, rfl, Option.some.inj h, ht⟩) (fun q hq => by cases hq) dX11_twice_202
            · replace h := (if_neg c10).symm.trans h
              refine lv_iconst (v := 3) hx hb dX11_twice_197 (by decide) ?_
              refine lv_goto (tgt := 202) hx hb dX11_twice_198 (by decide) ?_
              exact W.iret (v := 3) hx hb hr (fun t ht hW => ⟨_, rfl, Option.some.inj h, ht⟩) (fun q hq => by cases hq) dX11_twice_202
          · replace h := (if_neg c9).symm.trans h
            refine lv_iconst (v := 2) hx hb dX11_twice_188 (by decide) ?_
            refine lv_goto (tgt := 202) hx hb dX11_twice_189 (by decide) ?_
            exact W.iret (v := 2) hx hb hr (fun t ht hW => ⟨_, rfl, Option.some.inj h, ht⟩) (fun q hq => by cases hq) dX11_twice_202
        · replace h := (if_neg c8).symm.trans h
          refine lv_iconst (v := 1) hx hb dX11_twice_179 (by decide) ?_
          refine lv_goto (tgt := 202) hx hb dX11_twice_180 (by decide) ?_
          exact W.iret (v := 1) hx hb hr (fun t ht hW => ⟨_, rfl, Option.some.inj h, ht⟩) (fun q hq => by cases hq) dX11_twice_202
      · replace h := (if_neg c7).symm.trans h
        refine lv_aload_n hx hb dX11_twice_60 rfl (lv_at hl 0 rfl) ?_
        refine va_get (D := D) (ci := 6) (v := .ref (a 2)) (C := RX11) (T := TX11) (N := 24) hx hb hts hi11 hown hK hP (0) (rfl) rfl 1 (by decide) kf13 (fun _ h9 => h9) rfl dX11_twice_61 ?_
        refine lv_bipush (v := 15) hx hb dX11_twice_64 (by decide) ?_
        refine lv_iload_n hx hb dX11_twice_66 rfl (lv_at hl 1 rfl) ?_
        refine lv_imul hx hb dX11_twice_67 ?_
        refine lv_iload_n hx hb dX11_twice_68 rfl (lv_at hl 2 rfl) ?_
        refine lv_iconst (v := 2) hx hb dX11_twice_69 (by decide) ?_
        refine lv_idiv hx hb dX11_twice_70 (by decide) ?_
        refine lv_iadd hx hb dX11_twice_71 ?_
        refine lv_iload hx hb dX11_twice_72 (lv_at hl 6 rfl) ?_
        refine lv_iadd hx hb dX11_twice_74 ?_
        obtain ⟨g11, h⟩ := gIn_some h
        refine va_iald hx hb hK hP (2) 0 (rfl) rfl g11 dX11_twice_75 ?_
        refine lv_istore (lv' := [(7, .int (mSigns ((((15 : Int32) * x1) + (x2 / 2)) + x6).toNatClampNeg)), (0, .ref (a 0)), (1, .int x1), (2, .int x2), (3, .int x3), (4, .int x4), (5, .int x5), (6, .int x6)]) hx hb dX11_twice_76 hl (by decide) rfl (fun ls hl => ?_)
        refine lv_iload_n hx hb dX11_twice_78 rfl (lv_at hl 4 rfl) ?_
        refine lv_if_eq (tgt := 103) hx hb dX11_twice_79 (by decide) (fun c12 => ?_) (fun c12 => ?_)
        · replace h := (if_pos c12).symm.trans h
          exact J103 x1 x2 x4 x5 x6 (mSigns ((((15 : Int32) * x1) + (x2 / 2)) + x6).toNatClampNeg) ls (lv_sub hl [1, 2, 3, 5, 6, 7, 0] rfl) h
        · replace h := (if_neg c12).symm.trans h
          refine lv_iload hx hb dX11_twice_82 (lv_at hl 0 rfl) ?_
          refine lv_aload_n hx hb dX11_twice_84 rfl (lv_at hl 1 rfl) ?_
          refine va_get (D := D) (ci := 6) (v := .ref (a 2)) (C := RX11) (T := TX11) (N := 24) hx hb hts hi11 hown hK hP (0) (rfl) rfl 1 (by decide) kf13 (fun _ h9 => h9) rfl dX11_twice_85 ?_
          refine lv_bipush (v := 15) hx hb dX11_twice_88 (by decide) ?_
          refine lv_iload_n hx hb dX11_twice_90 rfl (lv_at hl 2 rfl) ?_
          refine lv_imul hx hb dX11_twice_91 ?_
          refine lv_iload hx hb dX11_twice_92 (lv_at hl 7 rfl) ?_
          refine lv_iadd hx hb dX11_twice_94 ?_
          obtain ⟨g13, h⟩ := gIn_some h
          refine va_iald hx hb hK hP (2) 0 (rfl) rfl g13 dX11_twice_95 ?_
          refine lv_icmp_ne (tgt := 103) hx hb dX11_twice_96 (by decide) (fun c14 => ?_) (fun c14 => ?_)
          · replace h := (if_neg c14).symm.trans h
            exact J103 x1 x2 x4 x5 x6 (mSigns ((((15 : Int32) * x1) + (x2 / 2)) + x6).toNatClampNeg) ls (lv_sub hl [1, 2, 3, 5, 6, 7, 0] rfl) h
          · replace h := (if_pos c14).symm.trans h
            refine lv_iconst (v := 1) hx hb dX11_twice_99 (by decide) ?_
            refine lv_goto (tgt := 104) hx hb dX11_twice_100 (by decide) ?_
            exact J104 x1 x2 x4 x5 x6 (mSigns ((((15 : Int32) * x1) + (x2 / 2)) + x6).toNatClampNeg) 1 ls (lv_sub hl [1, 2, 3, 5, 6, 7, 0] rfl) h
  refine lv_iload_n hx hb dX11_twice_0 rfl (lv_at hl 1 rfl) ?_
  obtain ⟨o15, eq16, h⟩ := bnd_some h
  refine kPi (rest := []) ⟨hx, hb, hml, hown, hts⟩ (c_X11_isRow l x1 eq16) (va_cwS 1 hts (gAS wm_117 wm_118 wm_5 wm_119) rfl rfl rfl qd_X11_isRow ⟨Nat.le_of_ble_eq_true rfl, Nat.le_of_ble_eq_true rfl⟩) rfl hl.1 rfl (Nat.le_of_ble_eq_true rfl) dX11_twice_1 ⟨Nat.zero_le _, Nat.zero_le _⟩ ?_
  refine lv_if_ne (tgt := 10) hx hb dX11_twice_4 (by decide) (fun c17 => ?_) (fun c17 => ?_)
  · replace h := (if_neg c17).symm.trans h
    refine lv_aload_n hx hb dX11_twice_10 rfl (lv_at hl 0 rfl) ?_
    refine lv_iload_n hx hb dX11_twice_11 rfl (lv_at hl 1 rfl) ?_
    obtain ⟨o18, eq19, h⟩ := bnd_some h
    refine kRiV (rest := []) (q0 := 0) ⟨hx, hb, hml, hown, hts⟩ (c_X11_isWhole l D k a mSizes mSigns mOdds mPat mTyped mText mAt mFault mTests mTN mTS mTV mTB mRead mUns mUM mBA mBH mThere mTypes mHeld mItems mMoved mFind x1 eq19) (cwV 1 hts (gAV wm_241 wm_242 wm_243 wm_5 wm_244) rfl rfl rfl qd_X11_isWhole ⟨Nat.le_of_ble_eq_true rfl, Nat.le_of_ble_eq_true rfl⟩) hK hP (rfl) rfl rfl hl.1 rfl (Nat.le_of_ble_eq_true rfl) dX11_twice_12 ⟨Nat.zero_le _, Nat.zero_le _⟩ ?_
    refine lv_if_ne (tgt := 21) hx hb dX11_twice_15 (by decide) (fun c20 => ?_) (fun c20 => ?_)
    · replace h := (if_neg c20).symm.trans h
      refine lv_aload_n hx hb dX11_twice_21 rfl (lv_at hl 0 rfl) ?_
      refine va_get (D := D) (ci := 6) (v := .ref (a 1)) (C := RX11) (T := TX11) (N := 24) hx hb hts hi11 hown hK hP (0) (rfl) rfl 0 (by decide) kf7 (fun _ h9 => h9) rfl dX11_twice_22 ?_
      refine lv_iload_n hx hb dX11_twice_25 rfl (lv_at hl 1 rfl) ?_
      obtain ⟨g21, h⟩ := gIn_some h
      refine va_iald hx hb hK hP (1) 0 (rfl) rfl g21 dX11_twice_26 ?_
      refine lv_istore_n (lv' := [(2, .int (mSizes x1.toNatClampNeg)), (0, .ref (a 0)), (1, .int x1)]) hx hb dX11_twice_27 rfl hl (by decide) rfl (fun ls hl => ?_)
      refine lv_iload_n hx hb dX11_twice_28 rfl (lv_at hl 0 rfl) ?_
      refine lv_iconst (v := 2) hx hb dX11_twice_29 (by decide) ?_
      refine lv_irem hx hb dX11_twice_30 (by decide) ?_
      refine lv_iconst (v := 1) hx hb dX11_twice_31 (by decide) ?_
      refine lv_icmp_eq (tgt := 39) hx hb dX11_twice_32 (by decide) (fun c22 => ?_) (fun c22 => ?_)
      · replace h := (if_pos c22).symm.trans h
        refine lv_iconst (v := 0) hx hb dX11_twice_39 (by decide) ?_
        exact W.iret (v := 0) hx hb hr (fun t ht hW => ⟨_, rfl, Option.some.inj h, ht⟩) (fun q hq => by cases hq) dX11_twice_40
      · replace h := (if_neg c22).symm.trans h
        refine lv_iload_n hx hb dX11_twice_35 rfl (lv_at hl 0 rfl) ?_
        refine lv_if_ne (tgt := 41) hx hb dX11_twice_36 (by decide) (fun c23 => ?_) (fun c23 => ?_)
        · replace h := (if_neg c23).symm.trans h
          refine lv_iconst (v := 1) hx hb dX11_twice_41 (by decide) ?_
          refine lv_istore_n (lv' := [(3, .int 1), (2, .int (mSizes x1.toNatClampNeg)), (0, .ref (a 0)), (1, .int x1)]) hx hb dX11_twice_42 rfl hl (by decide) rfl (fun ls hl => ?_)
          refine lv_iconst (v := 1) hx hb dX11_twice_43 (by decide) ?_
          refine lv_istore (lv' := [(4, .int 1), (3, .int 1), (2, .int (mSizes x1.toNatClampNeg)), (0, .ref (a 0)), (1, .int x1)]) hx hb dX11_twice_44 hl (by decide) rfl (fun ls hl => ?_)
          refine lv_iconst (v := 1) hx hb dX11_twice_46 (by decide) ?_
          refine lv_istore (lv' := [(5, .int 1), (4, .int 1), (3, .int 1), (2, .int (mSizes x1.toNatClampNeg)), (0, .ref (a 0)), (1, .int x1)]) hx hb dX11_twice_47 hl (by decide) rfl (fun ls hl => ?_)
          refine lv_iconst (v := 0) hx hb dX11_twice_49 (by decide) ?_
          refine lv_istore (lv' := [(6, .int 0), (5, .int 1), (4, .int 1), (3, .int 1), (2, .int (mSizes x1.toNatClampNeg)), (0, .ref (a 0)), (1, .int x1)]) hx hb dX11_twice_50 hl (by decide) rfl (fun ls hl => ?_)
          exact L52 N x1 (mSizes x1.toNatClampNeg) 1 1 1 0 ls (lv_sub hl [5, 6, 4, 3, 2, 1, 0] rfl) h
        · replace h := (if_pos c23).symm.trans h
          refine lv_iconst (v := 0) hx hb dX11_twice_39 (by decide) ?_
          exact W.iret (v := 0) hx hb hr (fun t ht hW => ⟨_, rfl, Option.some.inj h, ht⟩) (fun q hq => by cases hq) dX11_twice_40
    · replace h := (if_pos c20).symm.trans h
      refine lv_bipush (v := (-3)) hx hb dX11_twice_18 (by decide) ?_
      exact W.iret (v := (-3)) hx hb hr (fun t ht hW => ⟨_, rfl, Option.some.inj h, ht⟩) (fun q hq => by cases hq) dX11_twice_20
  · replace h := (if_pos c17).symm.trans h
    refine lv_bipush (v := (-2)) hx hb dX11_twice_7 (by decide) ?_
    exact W.iret (v := (-2)) hx hb hr (fun t ht hW => ⟨_, rfl, Option.some.inj h, ht⟩) (fun q hq => by cases hq) dX11_twice_9
set_option maxHeartbeats 4000000 in
set_option maxRecDepth 100000 in
theorem c_X11_twice {N : Nat} (l : Launch) (D : va_G) (k : Nat → ClassId) (a : Nat → Nat) (mSizes : Nat → Int32) (mSigns : Nat → Int32) (mOdds : Int32) (mPat : Int32) (mTyped : Int32) (mText : Nat → Int32) (mAt : Int32) (mFault : Int32) (mTests : Int32) (mTN : Nat → Int32) (mTS : Nat → Int32) (mTV : Nat → Int32) (mTB : Nat → Int32) (mRead : Int32) (mUns : Nat → Int32) (mUM : Int32) (mBA : Int32) (mBH : Int32) (mThere : Nat → Int32) (mTypes : Nat → Int32) (mHeld : Nat → Int32) (mItems : Nat → Int32) (mMoved : Nat → Int32) (mFind : Int32) (x1 : Int32) {o : Int32} (h : f_X11_twice N x1 mSizes mSigns = some o) : mRi l yX11_twice wo_X11_twice 2 D k [.ref (a 0), .int x1] (wM k a mSizes mSigns mOdds mPat mTyped mText mAt mFault mTests mTN mTS mTV mTB mRead mUns mUM mBA mBH mThere mTypes mHeld mItems mMoved mFind) o := by
  refine Met.ofW (cc := cX11_twice) (maxL := 8) (ret := some .int) (by decide) rfl ?_
  intro p e s m args below meth c s₁ B hml hv
  obtain ⟨rfl, hP, hK⟩ := hv
  rw [lg_entry_eq]
  exact core_X11_twice D k a mSizes mSigns mOdds mPat mTyped mText mAt mFault mTests mTN mTS mTV mTB mRead mUns mUM mBA mBH mThere mTypes mHeld mItems mMoved mFind x1 B.exec B.bytes hml B.returns (atoms_spec (ws := wo_X11_twice) B.pre) (findClass_of_methodNamed B.named) B.notSynchronized (lv_entry [.ref (a 0), .int x1] (n := 8) (Nat.le_of_ble_eq_true rfl)) hK hP h
theorem qd_X11_twice : yX11_twice.cls = RX11 ∧ yX11_twice.cls ≠ "java/lang/invoke/MethodHandle" ∧ yX11_twice.cls ≠ "java/lang/invoke/VarHandle" ∧ (parseMethodDescriptor yX11_twice.desc).map (fun d => d.parameters.length) = some 1 := by decide +kernel
abbrev wo_X11_next : List Cond := .code yX11_next cX11_next 11 (some .int) :: wsL_law
set_option maxHeartbeats 4000000 in
set_option maxRecDepth 100000 in
theorem core_X11_next {N : Nat} (D : va_G) (k : Nat → ClassId) (a : Nat → Nat) (mSizes : Nat → Int32) (mSigns : Nat → Int32) (mOdds : Int32) (mPat : Int32) (mTyped : Int32) (mText : Nat → Int32) (mAt : Int32) (mFault : Int32) (mTests : Int32) (mTN : Nat → Int32) (mTS : Nat → Int32) (mTV : Nat → Int32) (mTB : Nat → Int32) (mRead : Int32) (mUns : Nat → Int32) (mUM : Int32) (mBA : Int32) (mBH : Int32) (mThere : Nat → Int32) (mTypes : Nat → Int32) (mHeld : Nat → Int32) (mItems : Nat → Int32) (mMoved : Nat → Int32) (mFind : Int32) (x1 : Int32) (x2 : Int32) (x3 : Int32) {p : Program} {l : Launch} {e : Env} {s : State} {m : MethodId} {args : Array Value} {below : List Frame} {meth : Method} {c : Code} {ls : Array Slot} (hx : p.tables.exec = Jvm.exec) (hb : c.code = cX11_next) (hml : c.maxLocals = 11) (hr : meth.sig.returnType = some .int) (hts : ∀ w ∈ wo_X11_next, w.before args s = true) (hown : s.vm.findClass RX11 = some m.cls) (hlocks : meth.locks = false) (hl : lv_has ls 11 [(0, .ref (a 0)), (1, .int x1), (2, .int x2), (3, .int x3)]) (hK : va_K D vwCl (xTys k) s) (hP : va_P D vwCl (wM k a mSizes mSigns mOdds mPat mTyped mText mAt mFault mTests mTN mTS mTV mTB mRead mUns mUM mBA mBH mThere mTypes mHeld mItems mMoved mFind) s.heap) {o : Int32} (h : f_X11_next N x1 x2 x3 mSizes mSigns = some o) : gRi p l e wo_X11_next 2 s m args below meth c o (F0 m 0 ls []) := by
  have hi11 := (fun w h => List.mem_cons_of_mem _ (inlX11 w h) : ∀ w ∈ wsX110, w ∈ wo_X11_next)
  have kf13 := hts _ (List.mem_cons_of_mem _ wm_73)
  have kc201 := hts _ (List.mem_cons_of_mem _ wm_749)
  have kf7 := hts _ (List.mem_cons_of_mem _ wm_72)
  unfold f_X11_next at h
  have L112 : ∀ (n112 : Nat) (x1 : Int32) (x2 : Int32) (x3 : Int32) (x4 : Int32) (x6 : Int32) (x7 : Int32) (x8 : Int32) (ls : Array Slot) (hl : lv_has ls 11 [(0, .ref (a 0)), (1, .int x1), (2, .int x2), (3, .int x3), (4, .int x4), (6, .int x6), (7, .int x7), (8, .int x8)]) (h : f_X11_next_112 N n112 x1 x2 x3 x4 x6 x7 x8 mSizes mSigns = some o), gRi p l e wo_X11_next 2 s m args below meth c o (F0 m 112 ls []) := by
    intro n112
    induction n112 with
    | zero => intro x1 x2 x3 x4 x6 x7 x8 ls hl h; cases (show (none : Option (Int32)) = some o from h)
    | succ n112 ih112 =>
      have J240 : ∀ (x1 : Int32) (x2 : Int32) (x3 : Int32) (x4 : Int32) (x6 : Int32) (x8 : Int32) (s0 : Int32) (s1 : Int32) (ls : Array Slot) (hl : lv_has ls 11 [(0, .ref (a 0)), (1, .int x1), (2, .int x2), (3, .int x3), (4, .int x4), (6, .int x6), (8, .int x8)]) (h : f_X11_next_240 N (fun y0 y1 y2 y3 y4 y5 y6 y7 y8 => f_X11_next_112 N n112 y0 y1 y2 y3 y4 y5 y6 y7 y8) x1 x2 x3 x4 x6 x8 s0 s1 mSizes mSigns = some o), gRi p l e wo_X11_next 2 s m args below meth c o (F0 m 240 ls [.int s1, .int s0]) := by
        intro x1 x2 x3 x4 x6 x8 s0 s1 ls hl h
        unfold f_X11_next_240 at h
        refine lv_iadd hx hb dX11_next_240 ?_
        refine lv_istore (lv' := [(7, .int (s0 + s1)), (0, .ref (a 0)), (1, .int x1), (2, .int x2), (3, .int x3), (4, .int x4), (6, .int x6), (8, .int x8)]) hx hb dX11_next_241 hl (by decide) rfl (fun ls hl => ?_)
        refine lv_iinc (v := (x8 + 1)) (lv' := [(8, .int (x8 + 1)), (7, .int (s0 + s1)), (0, .ref (a 0)), (1, .int x1), (2, .int x2), (3, .int x3), (4, .int x4), (6, .int x6)]) hx hb dX11_next_243 hl (k := 7) rfl rfl (by decide) rfl (fun ls hl => ?_)
        refine lv_goto (tgt := 112) hx hb dX11_next_246 (by decide) ?_
        exact ih112 x1 x2 x3 x4 x6 (s0 + s1) (x8 + 1) ls (lv_sub hl [2, 3, 4, 5, 6, 7, 1, 0] rfl) h
      have J214 : ∀ (x1 : Int32) (x2 : Int32) (x3 : Int32) (x4 : Int32) (x7 : Int32) (x8 : Int32) (x9 : Int32) (s0 : Int32) (s1 : Int32) (ls : Array Slot) (hl : lv_has ls 11 [(0, .ref (a 0)), (1, .int x1), (2, .int x2), (3, .int x3), (4, .int x4), (7, .int x7), (8, .int x8), (9, .int x9)]) (h : f_X11_next_214 N (fun y0 y1 y2 y3 y4 y5 y6 y7 y8 => f_X11_next_112 N n112 y0 y1 y2 y3 y4 y5 y6 y7 y8) x1 x2 x3 x4 x7 x8 x9 s0 s1 mSizes mSigns = some o), gRi p l e wo_X11_next 2 s m args below meth c o (F0 m 214 ls [.int s1, .int s0]) := by
        intro x1 x2 x3 x4 x7 x8 x9 s0 s1 ls hl h
        unfold f_X11_next_214 at h
        refine lv_iadd hx hb dX11_next_214 ?_
        refine lv_istore (lv' := [(6, .int (s0 + s1)), (0, .ref (a 0)), (1, .int x1), (2, .int x2), (3, .int x3), (4, .int x4), (7, .int x7), (8, .int x8), (9, .int x9)]) hx hb dX11_next_215 hl (by decide) rfl (fun ls hl => ?_)
        refine lv_iload hx hb dX11_next_217 (lv_at hl 6 rfl) ?_
        refine lv_iload hx hb dX11_next_219 (lv_at hl 8 rfl) ?_
        refine lv_if_eq (tgt := 239) hx hb dX11_next_221 (by decide) (fun c1 => ?_) (fun c1 => ?_)
        · replace h := (if_pos c1).symm.trans h
          refine lv_iconst (v := 0) hx hb dX11_next_239 (by decide) ?_
          exact J240 x1 x2 x3 x4 (s0 + s1) x8 x7 0 ls (lv_sub hl [1, 2, 3, 4, 5, 0, 7] rfl) h
        · replace h := (if_neg c1).symm.trans h
          refine lv_aload_n hx hb dX11_next_224 rfl (lv_at hl 1 rfl) ?_
          refine va_get (D := D) (ci := 6) (v := .ref (a 2)) (C := RX11) (T := TX11) (N := 24) hx hb hts hi11 hown hK hP (0) (rfl) rfl 1 (by decide) kf13 (fun _ h9 => h9) rfl dX11_next_225 ?_
          refine lv_bipush (v := 15) hx hb dX11_next_228 (by decide) ?_
          refine lv_iload_n hx hb dX11_next_230 rfl (lv_at hl 2 rfl) ?_
          refine lv_imul hx hb dX11_next_231 ?_
          refine lv_iload hx hb dX11_next_232 (lv_at hl 7 rfl) ?_
          refine lv_iadd hx hb dX11_next_234 ?_
          obtain ⟨g2, h⟩ := gIn_some h
          refine va_iald hx hb hK hP (2) 0 (rfl) rfl g2 dX11_next_235 ?_
          refine lv_goto (tgt := 240) hx hb dX11_next_236 (by decide) ?_
          exact J240 x1 x2 x3 x4 (s0 + s1) x8 x7 (mSigns (((15 : Int32) * x1) + x8).toNatClampNeg) ls (lv_sub hl [1, 2, 3, 4, 5, 0, 7] rfl) h
      have J202 : ∀ (x1 : Int32) (x2 : Int32) (x3 : Int32) (x4 : Int32) (x6 : Int32) (x7 : Int32) (x8 : Int32) (x9 : Int32) (ls : Array Slot) (hl : lv_has ls 11 [(0, .ref (a 0)), (1, .int x1), (2, .int x2), (3, .int x3), (4, .int x4), (6, .int x6), (7, .int x7), (8, .int x8), (9, .int x9)]) (h : f_X11_next_202 N (fun y0 y1 y2 y3 y4 y5 y6 y7 y8 => f_X11_next_112 N n112 y0 y1 y2 y3 y4 y5 y6 y7 y8) x1 x2 x3 x4 x6 x7 x8 x9 mSizes mSigns = some o), gRi p l e wo_X11_next 2 s m args below meth c o (F0 m 202 ls []) := by
        intro x1 x2 x3 x4 x6 x7 x8 x9 ls hl h
        unfold f_X11_next_202 at h
        refine lv_iload hx hb dX11_next_202 (lv_at hl 5 rfl) ?_
        refine lv_iload hx hb dX11_next_204 (lv_at hl 8 rfl) ?_
        refine lv_if_eq (tgt := 213) hx hb dX11_next_206 (by decide) (fun c3 => ?_) (fun c3 => ?_)
        · replace h := (if_pos c3).symm.trans h
          refine lv_iconst (v := 0) hx hb dX11_next_213 (by decide) ?_
          exact J214 x1 x2 x3 x4 x7 x8 x9 x6 0 ls (lv_sub hl [0, 1, 2, 3, 4, 6, 7, 8] rfl) h
        · replace h := (if_neg c3).symm.trans h
          refine lv_iconst (v := 1) hx hb dX11_next_209 (by decide) ?_
          refine lv_goto (tgt := 214) hx hb dX11_next_210 (by decide) ?_
          exact J214 x1 x2 x3 x4 x7 x8 x9 x6 1 ls (lv_sub hl [0, 1, 2, 3, 4, 6, 7, 8] rfl) h
      have L145 : ∀ (n145 : Nat) (x1 : Int32) (x2 : Int32) (x3 : Int32) (x4 : Int32) (x6 : Int32) (x7 : Int32) (x8 : Int32) (x9 : Int32) (x10 : Int32) (ls : Array Slot) (hl : lv_has ls 11 [(0, .ref (a 0)), (1, .int x1), (2, .int x2), (3, .int x3), (4, .int x4), (6, .int x6), (7, .int x7), (8, .int x8), (9, .int x9), (10, .int x10)]) (h : f_X11_next_145 N (fun y0 y1 y2 y3 y4 y5 y6 y7 y8 => f_X11_next_112 N n112 y0 y1 y2 y3 y4 y5 y6 y7 y8) n145 x1 x2 x3 x4 x6 x7 x8 x9 x10 mSizes mSigns = some o), gRi p l e wo_X11_next 2 s m args below meth c o (F0 m 145 ls []) := by
        intro n145
        induction n145 with
        | zero => intro x1 x2 x3 x4 x6 x7 x8 x9 x10 ls hl h; cases (show (none : Option (Int32)) = some o from h)
        | succ n145 ih145 =>
          have J194 : ∀ (x1 : Int32) (x2 : Int32) (x3 : Int32) (x4 : Int32) (x6 : Int32) (x7 : Int32) (x8 : Int32) (x10 : Int32) (s0 : Int32) (ls : Array Slot) (hl : lv_has ls 11 [(0, .ref (a 0)), (1, .int x1), (2, .int x2), (3, .int x3), (4, .int x4), (6, .int x6), (7, .int x7), (8, .int x8), (10, .int x10)]) (h : f_X11_next_194 N (fun y0 y1 y2 y3 y4 y5 y6 y7 y8 => f_X11_next_112 N n112 y0 y1 y2 y3 y4 y5 y6 y7 y8) (fun y0 y1 y2 y3 y4 y5 y6 y7 y8 y9 y10 => f_X11_next_145 N (fun y0 y1 y2 y3 y4 y5 y6 y7 y8 => f_X11_next_112 N n112 y0 y1 y2 y3 y4 y5 y6 y7 y8) n145 y0 y1 y2 y3 y4 y5 y6 y7 y8 y9 y10) x1 x2 x3 x4 x6 x7 x8 x10 s0 mSizes mSigns = some o), gRi p l e wo_X11_next 2 s m args below meth c o (F0 m 194 ls [.int s0]) := by
            intro x1 x2 x3 x4 x6 x7 x8 x10 s0 ls hl h
            unfold f_X11_next_194 at h
            refine lv_istore (lv' := [(9, .int s0), (0, .ref (a 0)), (1, .int x1), (2, .int x2), (3, .int x3), (4, .int x4), (6, .int x6), (7, .int x7), (8, .int x8), (10, .int x10)]) hx hb dX11_next_194 hl (by decide) rfl (fun ls hl => ?_)
            refine lv_iinc (v := (x10 + 1)) (lv' := [(10, .int (x10 + 1)), (9, .int s0), (0, .ref (a 0)), (1, .int x1), (2, .int x2), (3, .int x3), (4, .int x4), (6, .int x6), (7, .int x7), (8, .int x8)]) hx hb dX11_next_196 hl (k := 9) rfl rfl (by decide) rfl (fun ls hl => ?_)
            refine lv_goto (tgt := 145) hx hb dX11_next_199 (by decide) ?_
            exact ih145 x1 x2 x3 x4 x6 x7 x8 s0 (x10 + 1) ls (lv_sub hl [2, 3, 4, 5, 6, 7, 8, 9, 1, 0] rfl) h
          intro x1 x2 x3 x4 x6 x7 x8 x9 x10 ls hl h
          rw [f_X11_next_145] at h
          refine lv_iload hx hb dX11_next_145 (lv_at hl 9 rfl) ?_
          refine lv_iload_n hx hb dX11_next_147 rfl (lv_at hl 2 rfl) ?_
          refine lv_icmp_gt (tgt := 202) hx hb dX11_next_148 (by decide) (fun c4 => ?_) (fun c4 => ?_)
          · replace h := (if_pos c4).symm.trans h
            exact J202 x1 x2 x3 x4 x6 x7 x8 x9 ls (lv_sub hl [0, 1, 2, 3, 4, 5, 6, 7, 8] rfl) h
          · replace h := (if_neg c4).symm.trans h
            refine lv_iload hx hb dX11_next_151 (lv_at hl 8 rfl) ?_
            refine lv_if_eq (tgt := 202) hx hb dX11_next_153 (by decide) (fun c5 => ?_) (fun c5 => ?_)
            · replace h := (if_pos c5).symm.trans h
              exact J202 x1 x2 x3 x4 x6 x7 x8 x9 ls (lv_sub hl [0, 1, 2, 3, 4, 5, 6, 7, 8] rfl) h
            · replace h := (if_neg c5).symm.trans h
              refine lv_aload_n hx hb dX11_next_156 rfl (lv_at hl 0 rfl) ?_
              refine va_get (D := D) (ci := 6) (v := .ref (a 2)) (C := RX11) (T := TX11) (N := 24) hx hb hts hi11 hown hK hP (0) (rfl) rfl 1 (by decide) kf13 (fun _ h9 => h9) rfl dX11_next_157 ?_
              refine lv_bipush (v := 15) hx hb dX11_next_160 (by decide) ?_
              refine lv_iload_n hx hb dX11_next_162 rfl (lv_at hl 1 rfl) ?_
              refine lv_imul hx hb dX11_next_163 ?_
              refine lv_iload hx hb dX11_next_164 (lv_at hl 7 rfl) ?_
              refine lv_iadd hx hb dX11_next_166 ?_
              refine lv_iload hx hb dX11_next_167 (lv_at hl 9 rfl) ?_
              refine lv_isub hx hb dX11_next_169 ?_
              obtain ⟨g6, h⟩ := gIn_some h
              refine va_iald hx hb hK hP (2) 0 (rfl) rfl g6 dX11_next_170 ?_
              refine lv_aload_n hx hb dX11_next_171 rfl (lv_at hl 0 rfl) ?_
              refine va_get (D := D) (ci := 6) (v := .ref (a 2)) (C := RX11) (T := TX11) (N := 24) hx hb hts hi11 hown hK hP (0) (rfl) rfl 1 (by decide) kf13 (fun _ h9 => h9) rfl dX11_next_172 ?_
              refine lv_bipush (v := 15) hx hb dX11_next_175 (by decide) ?_
              refine lv_iload_n hx hb dX11_next_177 rfl (lv_at hl 1 rfl) ?_
              refine lv_imul hx hb dX11_next_178 ?_
              refine lv_iload hx hb dX11_next_179 (lv_at hl 4 rfl) ?_
              refine lv_iadd hx hb dX11_next_181 ?_
              refine lv_iload hx hb dX11_next_182 (lv_at hl 9 rfl) ?_
              refine lv_isub hx hb dX11_next_184 ?_
              obtain ⟨g7, h⟩ := gIn_some h
              refine va_iald hx hb hK hP (2) 0 (rfl) rfl g7 dX11_next_185 ?_
              refine lv_icmp_ne (tgt := 193) hx hb dX11_next_186 (by decide) (fun c8 => ?_) (fun c8 => ?_)
              · replace h := (if_neg c8).symm.trans h
                refine lv_iconst (v := 0) hx hb dX11_next_193 (by decide) ?_
                exact J194 x1 x2 x3 x4 x6 x7 x8 x10 0 ls (lv_sub hl [0, 1, 2, 3, 4, 5, 6, 7, 9] rfl) h
              · replace h := (if_pos c8).symm.trans h
                refine lv_iconst (v := 1) hx hb dX11_next_189 (by decide) ?_
                refine lv_goto (tgt := 194) hx hb dX11_next_190 (by decide) ?_
                exact J194 x1 x2 x3 x4 x6 x7 x8 x10 1 ls (lv_sub hl [0, 1, 2, 3, 4, 5, 6, 7, 9] rfl) h
      have J140 : ∀ (x1 : Int32) (x2 : Int32) (x3 : Int32) (x4 : Int32) (x6 : Int32) (x7 : Int32) (x8 : Int32) (s0 : Int32) (ls : Array Slot) (hl : lv_has ls 11 [(0, .ref (a 0)), (1, .int x1), (2, .int x2), (3, .int x3), (4, .int x4), (6, .int x6), (7, .int x7), (8, .int x8)]) (h : f_X11_next_140 N (fun y0 y1 y2 y3 y4 y5 y6 y7 y8 => f_X11_next_112 N n112 y0 y1 y2 y3 y4 y5 y6 y7 y8) x1 x2 x3 x4 x6 x7 x8 s0 mSizes mSigns = some o), gRi p l e wo_X11_next 2 s m args below meth c o (F0 m 140 ls [.int s0]) := by
        intro x1 x2 x3 x4 x6 x7 x8 s0 ls hl h
        unfold f_X11_next_140 at h
        refine lv_istore (lv' := [(9, .int s0), (0, .ref (a 0)), (1, .int x1), (2, .int x2), (3, .int x3), (4, .int x4), (6, .int x6), (7, .int x7), (8, .int x8)]) hx hb dX11_next_140 hl (by decide) rfl (fun ls hl => ?_)
        refine lv_iconst (v := 1) hx hb dX11_next_142 (by decide) ?_
        refine lv_istore (lv' := [(10, .int 1), (9, .int s0), (0, .ref (a 0)), (1, .int x1), (2, .int x2), (3, .int x3), (4, .int x4), (6, .int x6), (7, .int x7), (8, .int x8)]) hx hb dX11_next_143 hl (by decide) rfl (fun ls hl => ?_)
        exact L145 N x1 x2 x3 x4 x6 x7 x8 s0 1 ls (lv_sub hl [2, 3, 4, 5, 6, 7, 8, 9, 1, 0] rfl) h
      intro x1 x2 x3 x4 x6 x7 x8 ls hl h
      rw [f_X11_next_112] at h
      refine lv_iload hx hb dX11_next_112 (lv_at hl 7 rfl) ?_
      refine lv_iload hx hb dX11_next_114 (lv_at hl 4 rfl) ?_
      refine lv_icmp_ge (tgt := 249) hx hb dX11_next_116 (by decide) (fun c9 => ?_) (fun c9 => ?_)
      · replace h := (if_pos c9).symm.trans h
        refine lv_iload_n hx hb dX11_next_249 rfl (lv_at hl 3 rfl) ?_
        refine lv_if_ne (tgt := 258) hx hb dX11_next_250 (by decide) (fun c10 => ?_) (fun c10 => ?_)
        · replace h := (if_neg c10).symm.trans h
          refine lv_iload_n hx hb dX11_next_258 rfl (lv_at hl 3 rfl) ?_
          refine lv_iconst (v := 1) hx hb dX11_next_259 (by decide) ?_
          refine lv_icmp_ne (tgt := 268) hx hb dX11_next_260 (by decide) (fun c11 => ?_) (fun c11 => ?_)
          · replace h := (if_neg c11).symm.trans h
            refine lv_iload hx hb dX11_next_268 (lv_at hl 6 rfl) ?_
            refine lv_i2l (v := x7.toInt64) hx hb dX11_next_270 rfl ?_
            refine lv_lconst (v := 1) hx hb dX11_next_271 rfl ?_
            refine lv_ladd hx hb dX11_next_272 ?_
            refine lv_iload hx hb dX11_next_273 (lv_at hl 5 rfl) ?_
            refine lv_i2l (v := x6.toInt64) hx hb dX11_next_275 rfl ?_
            refine lv_ldc2 (v := 2) hx hb hown kc201 dX11_next_276 ?_
            refine lv_ladd hx hb dX11_next_279 ?_
            refine lv_iload_n hx hb dX11_next_280 rfl (lv_at hl 3 rfl) ?_
            refine lv_iconst (v := 2) hx hb dX11_next_281 (by decide) ?_
            refine lv_isub hx hb dX11_next_282 ?_
            obtain ⟨o12, eq13, h⟩ := bnd_some h
            refine kPl (rest := []) ⟨hx, hb, hml, hown, hts⟩ (c_X11_lowest l (x7.toInt64 + 1) (x6.toInt64 + 2) (x3 - 2) eq13) (va_cwS 3 hts (gAS wm_530 wm_531 wm_5 wm_532) rfl rfl rfl qd_X11_lowest ⟨Nat.le_of_ble_eq_true rfl, Nat.le_of_ble_eq_true rfl⟩) rfl hl.1 rfl (Nat.le_of_ble_eq_true rfl) dX11_next_283 ⟨Nat.zero_le _, Nat.zero_le _⟩ ?_
            refine lv_l2i (v := o12.toInt32) hx hb dX11_next_286 rfl ?_
            exact W.iret (v := o12.toInt32) hx hb hr (fun t ht hW => ⟨_, rfl, Option.some.inj h, ht⟩) (fun q hq => by cases hq) dX11_next_287
          · replace h := (if_pos c11).symm.trans h
            refine lv_iload hx hb dX11_next_263 (lv_at hl 5 rfl) ?_
            refine lv_goto (tgt := 287) hx hb dX11_next_265 (by decide) ?_
            exact W.iret (v := x6) hx hb hr (fun t ht hW => ⟨_, rfl, Option.some.inj h, ht⟩) (fun q hq => by cases hq) dX11_next_287
        · replace h := (if_pos c10).symm.trans h
          refine lv_iload hx hb dX11_next_253 (lv_at hl 6 rfl) ?_
          refine lv_goto (tgt := 287) hx hb dX11_next_255 (by decide) ?_
          exact W.iret (v := x7) hx hb hr (fun t ht hW => ⟨_, rfl, Option.some.inj h, ht⟩) (fun q hq => by cases hq) dX11_next_287
      · replace h := (if_neg c9).symm.trans h
        refine lv_aload_n hx hb dX11_next_119 rfl (lv_at hl 0 rfl) ?_
        refine va_get (D := D) (ci := 6) (v := .ref (a 2)) (C := RX11) (T := TX11) (N := 24) hx hb hts hi11 hown hK hP (0) (rfl) rfl 1 (by decide) kf13 (fun _ h9 => h9) rfl dX11_next_120 ?_
        refine lv_bipush (v := 15) hx hb dX11_next_123 (by decide) ?_
        refine lv_iload_n hx hb dX11_next_125 rfl (lv_at hl 1 rfl) ?_
        refine lv_imul hx hb dX11_next_126 ?_
        refine lv_iload hx hb dX11_next_127 (lv_at hl 7 rfl) ?_
        refine lv_iadd hx hb dX11_next_129 ?_
        obtain ⟨g14, h⟩ := gIn_some h
        refine va_iald hx hb hK hP (2) 0 (rfl) rfl g14 dX11_next_130 ?_
        refine lv_iconst (v := (-1)) hx hb dX11_next_131 (by decide) ?_
        refine lv_icmp_eq (tgt := 139) hx hb dX11_next_132 (by decide) (fun c15 => ?_) (fun c15 => ?_)
        · replace h := (if_pos c15).symm.trans h
          refine lv_iconst (v := 0) hx hb dX11_next_139 (by decide) ?_
          exact J140 x1 x2 x3 x4 x6 x7 x8 0 ls (lv_sub hl [0, 1, 2, 3, 4, 5, 6, 7] rfl) h
        · replace h := (if_neg c15).symm.trans h
          refine lv_iconst (v := 1) hx hb dX11_next_135 (by decide) ?_
          refine lv_goto (tgt := 140) hx hb dX11_next_136 (by decide) ?_
          exact J140 x1 x2 x3 x4 x6 x7 x8 1 ls (lv_sub hl [0, 1, 2, 3, 4, 5, 6, 7] rfl) h
  have J95 : ∀ (x1 : Int32) (x2 : Int32) (x3 : Int32) (x4 : Int32) (x5 : Int32) (ls : Array Slot) (hl : lv_has ls 11 [(0, .ref (a 0)), (1, .int x1), (2, .int x2), (3, .int x3), (4, .int x4), (5, .int x5)]) (h : f_X11_next_95 N x1 x2 x3 x4 x5 mSizes mSigns = some o), gRi p l e wo_X11_next 2 s m args below meth c o (F0 m 95 ls []) := by
    intro x1 x2 x3 x4 x5 ls hl h
    unfold f_X11_next_95 at h
    refine lv_iload hx hb dX11_next_95 (lv_at hl 5 rfl) ?_
    refine lv_if_ne (tgt := 103) hx hb dX11_next_97 (by decide) (fun c16 => ?_) (fun c16 => ?_)
    · replace h := (if_neg c16).symm.trans h
      refine lv_iconst (v := 0) hx hb dX11_next_103 (by decide) ?_
      refine lv_istore (lv' := [(6, .int 0), (0, .ref (a 0)), (1, .int x1), (2, .int x2), (3, .int x3), (4, .int x4), (5, .int x5)]) hx hb dX11_next_104 hl (by decide) rfl (fun ls hl => ?_)
      refine lv_iconst (v := 0) hx hb dX11_next_106 (by decide) ?_
      refine lv_istore (lv' := [(7, .int 0), (6, .int 0), (0, .ref (a 0)), (1, .int x1), (2, .int x2), (3, .int x3), (4, .int x4), (5, .int x5)]) hx hb dX11_next_107 hl (by decide) rfl (fun ls hl => ?_)
      refine lv_iload_n hx hb dX11_next_109 rfl (lv_at hl 4 rfl) ?_
      refine lv_istore (lv' := [(8, .int x2), (7, .int 0), (6, .int 0), (0, .ref (a 0)), (1, .int x1), (2, .int x2), (3, .int x3), (4, .int x4), (5, .int x5)]) hx hb dX11_next_110 hl (by decide) rfl (fun ls hl => ?_)
      exact L112 N x1 x2 x3 x4 0 0 x2 ls (lv_sub hl [3, 4, 5, 6, 7, 2, 1, 0] rfl) h
    · replace h := (if_pos c16).symm.trans h
      refine lv_bipush (v := (-3)) hx hb dX11_next_100 (by decide) ?_
      exact W.iret (v := (-3)) hx hb hr (fun t ht hW => ⟨_, rfl, Option.some.inj h, ht⟩) (fun q hq => by cases hq) dX11_next_102
  have L52 : ∀ (n52 : Nat) (x1 : Int32) (x2 : Int32) (x3 : Int32) (x4 : Int32) (x5 : Int32) (x6 : Int32) (ls : Array Slot) (hl : lv_has ls 11 [(0, .ref (a 0)), (1, .int x1), (2, .int x2), (3, .int x3), (4, .int x4), (5, .int x5), (6, .int x6)]) (h : f_X11_next_52 N n52 x1 x2 x3 x4 x5 x6 mSizes mSigns = some o), gRi p l e wo_X11_next 2 s m args below meth c o (F0 m 52 ls []) := by
    intro n52
    induction n52 with
    | zero => intro x1 x2 x3 x4 x5 x6 ls hl h; cases (show (none : Option (Int32)) = some o from h)
    | succ n52 ih52 =>
      have J87 : ∀ (x1 : Int32) (x2 : Int32) (x3 : Int32) (x4 : Int32) (x6 : Int32) (s0 : Int32) (ls : Array Slot) (hl : lv_has ls 11 [(0, .ref (a 0)), (1, .int x1), (2, .int x2), (3, .int x3), (4, .int x4), (6, .int x6)]) (h : f_X11_next_87 N (fun y0 y1 y2 y3 y4 y5 y6 y7 => f_X11_next_52 N n52 y0 y1 y2 y3 y4 y5 y6 y7) x1 x2 x3 x4 x6 s0 mSizes mSigns = some o), gRi p l e wo_X11_next 2 s m args below meth c o (F0 m 87 ls [.int s0]) := by
        intro x1 x2 x3 x4 x6 s0 ls hl h
        unfold f_X11_next_87 at h
        refine lv_istore (lv' := [(5, .int s0), (0, .ref (a 0)), (1, .int x1), (2, .int x2), (3, .int x3), (4, .int x4), (6, .int x6)]) hx hb dX11_next_87 hl (by decide) rfl (fun ls hl => ?_)
        refine lv_iinc (v := (x6 + 1)) (lv' := [(6, .int (x6 + 1)), (5, .int s0), (0, .ref (a 0)), (1, .int x1), (2, .int x2), (3, .int x3), (4, .int x4)]) hx hb dX11_next_89 hl (k := 6) rfl rfl (by decide) rfl (fun ls hl => ?_)
        refine lv_goto (tgt := 52) hx hb dX11_next_92 (by decide) ?_
        exact ih52 x1 x2 x3 x4 s0 (x6 + 1) ls (lv_sub hl [2, 3, 4, 5, 6, 1, 0] rfl) h
      intro x1 x2 x3 x4 x5 x6 ls hl h
      rw [f_X11_next_52] at h
      refine lv_iload hx hb dX11_next_52 (lv_at hl 6 rfl) ?_
      refine lv_iload_n hx hb dX11_next_54 rfl (lv_at hl 2 rfl) ?_
      refine lv_icmp_gt (tgt := 95) hx hb dX11_next_55 (by decide) (fun c17 => ?_) (fun c17 => ?_)
      · replace h := (if_pos c17).symm.trans h
        exact J95 x1 x2 x3 x4 x5 ls (lv_sub hl [0, 1, 2, 3, 4, 5] rfl) h
      · replace h := (if_neg c17).symm.trans h
        refine lv_iload hx hb dX11_next_58 (lv_at hl 5 rfl) ?_
        refine lv_if_eq (tgt := 95) hx hb dX11_next_60 (by decide) (fun c18 => ?_) (fun c18 => ?_)
        · replace h := (if_pos c18).symm.trans h
          exact J95 x1 x2 x3 x4 x5 ls (lv_sub hl [0, 1, 2, 3, 4, 5] rfl) h
        · replace h := (if_neg c18).symm.trans h
          refine lv_aload_n hx hb dX11_next_63 rfl (lv_at hl 0 rfl) ?_
          refine va_get (D := D) (ci := 6) (v := .ref (a 2)) (C := RX11) (T := TX11) (N := 24) hx hb hts hi11 hown hK hP (0) (rfl) rfl 1 (by decide) kf13 (fun _ h9 => h9) rfl dX11_next_64 ?_
          refine lv_bipush (v := 15) hx hb dX11_next_67 (by decide) ?_
          refine lv_iload_n hx hb dX11_next_69 rfl (lv_at hl 1 rfl) ?_
          refine lv_imul hx hb dX11_next_70 ?_
          refine lv_iload hx hb dX11_next_71 (lv_at hl 4 rfl) ?_
          refine lv_iadd hx hb dX11_next_73 ?_
          refine lv_iload hx hb dX11_next_74 (lv_at hl 6 rfl) ?_
          refine lv_isub hx hb dX11_next_76 ?_
          obtain ⟨g19, h⟩ := gIn_some h
          refine va_iald hx hb hK hP (2) 0 (rfl) rfl g19 dX11_next_77 ?_
          refine lv_iconst (v := (-1)) hx hb dX11_next_78 (by decide) ?_
          refine lv_icmp_eq (tgt := 86) hx hb dX11_next_79 (by decide) (fun c20 => ?_) (fun c20 => ?_)
          · replace h := (if_pos c20).symm.trans h
            refine lv_iconst (v := 0) hx hb dX11_next_86 (by decide) ?_
            exact J87 x1 x2 x3 x4 x6 0 ls (lv_sub hl [0, 1, 2, 3, 4, 6] rfl) h
          · replace h := (if_neg c20).symm.trans h
            refine lv_iconst (v := 1) hx hb dX11_next_82 (by decide) ?_
            refine lv_goto (tgt := 87) hx hb dX11_next_83 (by decide) ?_
            exact J87 x1 x2 x3 x4 x6 1 ls (lv_sub hl [0, 1, 2, 3, 4, 6] rfl) h
  have J47 : ∀ (x1 : Int32) (x2 : Int32) (x3 : Int32) (x4 : Int32) (s0 : Int32) (ls : Array Slot) (hl : lv_has ls 11 [(0, .ref (a 0)), (1, .int x1), (2, .int x2), (3, .int x3), (4, .int x4)]) (h : f_X11_next_47 N x1 x2 x3 x4 s0 mSizes mSigns = some o), gRi p l e wo_X11_next 2 s m args below meth c o (F0 m 47 ls [.int s0]) := by
    intro x1 x2 x3 x4 s0 ls hl h
    unfold f_X11_next_47 at h
    refine lv_istore (lv' := [(5, .int s0), (0, .ref (a 0)), (1, .int x1), (2, .int x2), (3, .int x3), (4, .int x4)]) hx hb dX11_next_47 hl (by decide) rfl (fun ls hl => ?_)
    refine lv_iconst (v := 1) hx hb dX11_next_49 (by decide) ?_
    refine lv_istore (lv' := [(6, .int 1), (5, .int s0), (0, .ref (a 0)), (1, .int x1), (2, .int x2), (3, .int x3), (4, .int x4)]) hx hb dX11_next_50 hl (by decide) rfl (fun ls hl => ?_)
    exact L52 N x1 x2 x3 x4 s0 1 ls (lv_sub hl [2, 3, 4, 5, 6, 1, 0] rfl) h
  refine lv_iload_n hx hb dX11_next_0 rfl (lv_at hl 1 rfl) ?_
  obtain ⟨o21, eq22, h⟩ := bnd_some h
  refine kPi (rest := []) ⟨hx, hb, hml, hown, hts⟩ (c_X11_isRow l x1 eq22) (va_cwS 1 hts (gAS wm_117 wm_118 wm_5 wm_119) rfl rfl rfl qd_X11_isRow ⟨Nat.le_of_ble_eq_true rfl, Nat.le_of_ble_eq_true rfl⟩) rfl hl.1 rfl (Nat.le_of_ble_eq_true rfl) dX11_next_1 ⟨Nat.zero_le _, Nat.zero_le _⟩ ?_
  refine lv_if_eq (tgt := 25) hx hb dX11_next_4 (by decide) (fun c23 => ?_) (fun c23 => ?_)
  · replace h := (if_pos c23).symm.trans h
    refine lv_bipush (v := (-2)) hx hb dX11_next_25 (by decide) ?_
    exact W.iret (v := (-2)) hx hb hr (fun t ht hW => ⟨_, rfl, Option.some.inj h, ht⟩) (fun q hq => by cases hq) dX11_next_27
  · replace h := (if_neg c23).symm.trans h
    refine lv_iload_n hx hb dX11_next_7 rfl (lv_at hl 2 rfl) ?_
    refine lv_iconst (v := 0) hx hb dX11_next_8 (by decide) ?_
    refine lv_iconst (v := 4) hx hb dX11_next_9 (by decide) ?_
    obtain ⟨o24, eq25, h⟩ := bnd_some h
    refine kPi (rest := []) ⟨hx, hb, hml, hown, hts⟩ (c_X11_in l x2 0 4 eq25) (va_cwS 3 hts (gAS wm_120 wm_121 wm_5 wm_122) rfl rfl rfl qd_X11_in ⟨Nat.le_of_ble_eq_true rfl, Nat.le_of_ble_eq_true rfl⟩) rfl hl.1 rfl (Nat.le_of_ble_eq_true rfl) dX11_next_10 ⟨Nat.zero_le _, Nat.zero_le _⟩ ?_
    refine lv_if_eq (tgt := 25) hx hb dX11_next_13 (by decide) (fun c26 => ?_) (fun c26 => ?_)
    · replace h := (if_pos c26).symm.trans h
      refine lv_bipush (v := (-2)) hx hb dX11_next_25 (by decide) ?_
      exact W.iret (v := (-2)) hx hb hr (fun t ht hW => ⟨_, rfl, Option.some.inj h, ht⟩) (fun q hq => by cases hq) dX11_next_27
    · replace h := (if_neg c26).symm.trans h
      refine lv_iload_n hx hb dX11_next_16 rfl (lv_at hl 3 rfl) ?_
      refine lv_iconst (v := 0) hx hb dX11_next_17 (by decide) ?_
      refine lv_iconst (v := 3) hx hb dX11_next_18 (by decide) ?_
      obtain ⟨o27, eq28, h⟩ := bnd_some h
      refine kPi (rest := []) ⟨hx, hb, hml, hown, hts⟩ (c_X11_in l x3 0 3 eq28) (va_cwS 3 hts (gAS wm_120 wm_121 wm_5 wm_122) rfl rfl rfl qd_X11_in ⟨Nat.le_of_ble_eq_true rfl, Nat.le_of_ble_eq_true rfl⟩) rfl hl.1 rfl (Nat.le_of_ble_eq_true rfl) dX11_next_19 ⟨Nat.zero_le _, Nat.zero_le _⟩ ?_
      refine lv_if_ne (tgt := 28) hx hb dX11_next_22 (by decide) (fun c29 => ?_) (fun c29 => ?_)
      · replace h := (if_neg c29).symm.trans h
        refine lv_aload_n hx hb dX11_next_28 rfl (lv_at hl 0 rfl) ?_
        refine va_get (D := D) (ci := 6) (v := .ref (a 1)) (C := RX11) (T := TX11) (N := 24) hx hb hts hi11 hown hK hP (0) (rfl) rfl 0 (by decide) kf7 (fun _ h9 => h9) rfl dX11_next_29 ?_
        refine lv_iload_n hx hb dX11_next_32 rfl (lv_at hl 1 rfl) ?_
        obtain ⟨g30, h⟩ := gIn_some h
        refine va_iald hx hb hK hP (1) 0 (rfl) rfl g30 dX11_next_33 ?_
        refine lv_istore (lv' := [(4, .int (mSizes x1.toNatClampNeg)), (0, .ref (a 0)), (1, .int x1), (2, .int x2), (3, .int x3)]) hx hb dX11_next_34 hl (by decide) rfl (fun ls hl => ?_)
        refine lv_iload_n hx hb dX11_next_36 rfl (lv_at hl 3 rfl) ?_
        refine lv_iload hx hb dX11_next_37 (lv_at hl 0 rfl) ?_
        refine lv_icmp_gt (tgt := 46) hx hb dX11_next_39 (by decide) (fun c31 => ?_) (fun c31 => ?_)
        · replace h := (if_pos c31).symm.trans h
          refine lv_iconst (v := 0) hx hb dX11_next_46 (by decide) ?_
          exact J47 x1 x2 x3 (mSizes x1.toNatClampNeg) 0 ls (lv_sub hl [1, 2, 3, 4, 0] rfl) h
        · replace h := (if_neg c31).symm.trans h
          refine lv_iconst (v := 1) hx hb dX11_next_42 (by decide) ?_
          refine lv_goto (tgt := 47) hx hb dX11_next_43 (by decide) ?_
          exact J47 x1 x2 x3 (mSizes x1.toNatClampNeg) 1 ls (lv_sub hl [1, 2, 3, 4, 0] rfl) h
      · replace h := (if_pos c29).symm.trans h
        refine lv_bipush (v := (-2)) hx hb dX11_next_25 (by decide) ?_
        exact W.iret (v := (-2)) hx hb hr (fun t ht hW => ⟨_, rfl, Option.some.inj h, ht⟩) (fun q hq => by cases hq) dX11_next_27
set_option maxHeartbeats 4000000 in
set_option maxRecDepth 100000 in
theorem c_X11_next {N : Nat} (l : Launch) (D : va_G) (k : Nat → ClassId) (a : Nat → Nat) (mSizes : Nat → Int32) (mSigns : Nat → Int32) (mOdds : Int32) (mPat : Int32) (mTyped : Int32) (mText : Nat → Int32) (mAt : Int32) (mFault : Int32) (mTests : Int32) (mTN : Nat → Int32) (mTS : Nat → Int32) (mTV : Nat → Int32) (mTB : Nat → Int32) (mRead : Int32) (mUns : Nat → Int32) (mUM : Int32) (mBA : Int32) (mBH : Int32) (mThere : Nat → Int32) (mTypes : Nat → Int32) (mHeld : Nat → Int32) (mItems : Nat → Int32) (mMoved : Nat → Int32) (mFind : Int32) (x1 : Int32) (x2 : Int32) (x3 : Int32) {o : Int32} (h : f_X11_next N x1 x2 x3 mSizes mSigns = some o) : mRi l yX11_next wo_X11_next 2 D k [.ref (a 0), .int x1, .int x2, .int x3] (wM k a mSizes mSigns mOdds mPat mTyped mText mAt mFault mTests mTN mTS mTV mTB mRead mUns mUM mBA mBH mThere mTypes mHeld mItems mMoved mFind) o := by
  refine Met.ofW (cc := cX11_next) (maxL := 11) (ret := some .int) (by decide) rfl ?_
  intro p e s m args below meth c s₁ B hml hv
  obtain ⟨rfl, hP, hK⟩ := hv
  rw [lg_entry_eq]
  exact core_X11_next D k a mSizes mSigns mOdds mPat mTyped mText mAt mFault mTests mTN mTS mTV mTB mRead mUns mUM mBA mBH mThere mTypes mHeld mItems mMoved mFind x1 x2 x3 B.exec B.bytes hml B.returns (atoms_spec (ws := wo_X11_next) B.pre) (findClass_of_methodNamed B.named) B.notSynchronized (lv_entry [.ref (a 0), .int x1, .int x2, .int x3] (n := 11) (Nat.le_of_ble_eq_true rfl)) hK hP h
theorem qd_X11_next : yX11_next.cls = RX11 ∧ yX11_next.cls ≠ "java/lang/invoke/MethodHandle" ∧ yX11_next.cls ≠ "java/lang/invoke/VarHandle" ∧ (parseMethodDescriptor yX11_next.desc).map (fun d => d.parameters.length) = some 3 := by decide +kernel
abbrev wo_X11_sheet : List Cond := .code yX11_sheet cX11_sheet 5 (some .int) :: wsL_law
set_option maxHeartbeats 4000000 in
set_option maxRecDepth 100000 in
theorem core_X11_sheet {N : Nat} (D : va_G) (k : Nat → ClassId) (a : Nat → Nat) (mSizes : Nat → Int32) (mSigns : Nat → Int32) (mOdds : Int32) (mPat : Int32) (mTyped : Int32) (mText : Nat → Int32) (mAt : Int32) (mFault : Int32) (mTests : Int32) (mTN : Nat → Int32) (mTS : Nat → Int32) (mTV : Nat → Int32) (mTB : Nat → Int32) (mRead : Int32) (mUns : Nat → Int32) (mUM : Int32) (mBA : Int32) (mBH : Int32) (mThere : Nat → Int32) (mTypes : Nat → Int32) (mHeld : Nat → Int32) (mItems : Nat → Int32) (mMoved : Nat → Int32) (mFind : Int32) (x1 : Int32) (x2 : Int32) (x3 : Int32) {p : Program} {l : Launch} {e : Env} {s : State} {m : MethodId} {args : Array Value} {below : List Frame} {meth : Method} {c : Code} {ls : Array Slot} (hx : p.tables.exec = Jvm.exec) (hb : c.code = cX11_sheet) (hml : c.maxLocals = 5) (hr : meth.sig.returnType = some .int) (hts : ∀ w ∈ wo_X11_sheet, w.before args s = true) (hown : s.vm.findClass RX11 = some m.cls) (hlocks : meth.locks = false) (hl : lv_has ls 5 [(0, .ref (a 0)), (1, .int x1), (2, .int x2), (3, .int x3)]) (hK : va_K D vwCl (xTys k) s) (hP : va_P D vwCl (wM k a mSizes mSigns mOdds mPat mTyped mText mAt mFault mTests mTN mTS mTV mTB mRead mUns mUM mBA mBH mThere mTypes mHeld mItems mMoved mFind) s.heap) {A : Nat → Prop} (hD : va_D A (wM k a mSizes mSigns mOdds mPat mTyped mText mAt mFault mTests mTN mTS mTV mTB mRead mUns mUM mBA mBH mThere mTypes mHeld mItems mMoved mFind)) (hA : ∀ q : Nat, s.heap.size ≤ q → A q) {o : Int32 × (Nat → Int32) × (Nat → Int32) × (Nat → Int32) × (Nat → Int32) × (Int32)} (h : f_X11_sheet N x1 x2 x3 mThere mTypes mHeld mItems mFind = some o) : gQi p l e wo_X11_sheet 2 s m args below meth c D k A o.1 (wM k a mSizes mSigns mOdds mPat mTyped mText mAt mFault mTests mTN mTS mTV mTB mRead mUns mUM mBA mBH o.2.1 o.2.2.1 o.2.2.2.1 o.2.2.2.2.1 mMoved o.2.2.2.2.2) s.heap [] (F0 m 0 ls []) := by
  have hi11 := (fun w h => List.mem_cons_of_mem _ (inlX11 w h) : ∀ w ∈ wsX110, w ∈ wo_X11_sheet)
  have kf51 := hts _ (List.mem_cons_of_mem _ wm_85)
  have kf42 := hts _ (List.mem_cons_of_mem _ wm_82)
  have kf45 := hts _ (List.mem_cons_of_mem _ wm_83)
  have kf48 := hts _ (List.mem_cons_of_mem _ wm_84)
  unfold f_X11_sheet at h
  have hS : va_S A s.heap s.heap [] := va_S.rf
  have L59 : ∀ (n59 : Nat) (x1 : Int32) (x3 : Int32) (x4 : Int32) (mThere : Nat → Int32) (mTypes : Nat → Int32) (mHeld : Nat → Int32) (mItems : Nat → Int32) (mFind : Int32) (ls : Array Slot) (H : Heap) (locs : List Loc) (hl : lv_has ls 5 [(0, .ref (a 0)), (1, .int x1), (3, .int x3), (4, .int x4)]) (hP : va_P D vwCl (wM k a mSizes mSigns mOdds mPat mTyped mText mAt mFault mTests mTN mTS mTV mTB mRead mUns mUM mBA mBH mThere mTypes mHeld mItems mMoved mFind) H) (hD : va_D A (wM k a mSizes mSigns mOdds mPat mTyped mText mAt mFault mTests mTN mTS mTV mTB mRead mUns mUM mBA mBH mThere mTypes mHeld mItems mMoved mFind)) (hS : va_S A s.heap H locs) (h : f_X11_sheet_59 N n59 x1 x3 x4 mThere mTypes mHeld mItems mFind = some o), gQi p l e wo_X11_sheet 2 s m args below meth c D k A o.1 (wM k a mSizes mSigns mOdds mPat mTyped mText mAt mFault mTests mTN mTS mTV mTB mRead mUns mUM mBA mBH o.2.1 o.2.2.1 o.2.2.2.1 o.2.2.2.2.1 mMoved o.2.2.2.2.2) H locs (F0 m 59 ls []) := by
    intro n59
    induction n59 with
    | zero => intro x1 x3 x4 mThere mTypes mHeld mItems mFind ls H locs hl hP hD hS h; cases (show (none : Option (Int32 × (Nat → Int32) × (Nat → Int32) × (Nat → Int32) × (Nat → Int32) × (Int32))) = some o from h)
    | succ n59 ih59 =>
      intro x1 x3 x4 mThere mTypes mHeld mItems mFind ls H locs hl hP hD hS h
      rw [f_X11_sheet_59] at h
      refine lv_iload hx hb dX11_sheet_59 (lv_at hl 3 rfl) ?_
      refine lv_bipush (v := 40) hx hb dX11_sheet_61 (by decide) ?_
      refine lv_icmp_ge (tgt := 85) hx hb dX11_sheet_63 (by decide) (fun c1 => ?_) (fun c1 => ?_)
      · replace h := (if_pos c1).symm.trans h
        refine lv_iload_n hx hb dX11_sheet_85 rfl (lv_at hl 2 rfl) ?_
        have he := Option.some.inj h
        exact W.iret (v := x3) hx hb hr (fun t ht hW => ⟨⟨x3, wM k a mSizes mSigns mOdds mPat mTyped mText mAt mFault mTests mTN mTS mTV mTB mRead mUns mUM mBA mBH mThere mTypes mHeld mItems mMoved mFind, rfl, ⟨(congrArg (fun z => z.1) he), (congrArg (fun z => wM k a mSizes mSigns mOdds mPat mTyped mText mAt mFault mTests mTN mTS mTV mTB mRead mUns mUM mBA mBH z.2.1 z.2.2.1 z.2.2.2.1 z.2.2.2.2.1 mMoved z.2.2.2.2.2) he)⟩, by rw [ht]; exact hP, va_K.moved hW.alike hK, hD⟩, hS.F ht⟩) hS.2.2 dX11_sheet_86
      · replace h := (if_neg c1).symm.trans h
        refine lv_aload_n hx hb dX11_sheet_66 rfl (lv_at hl 0 rfl) ?_
        refine va_get (D := D) (ci := 6) (v := .ref (a 12)) (C := RX11) (T := TX11) (N := 24) hx hb hts hi11 hown hK hP (0) (rfl) rfl 21 (by decide) kf51 (fun _ h9 => h9) rfl dX11_sheet_67 ?_
        refine lv_bipush (v := 40) hx hb dX11_sheet_70 (by decide) ?_
        refine lv_iload_n hx hb dX11_sheet_72 rfl (lv_at hl 1 rfl) ?_
        refine lv_imul hx hb dX11_sheet_73 ?_
        refine lv_iload hx hb dX11_sheet_74 (lv_at hl 3 rfl) ?_
        refine lv_iadd hx hb dX11_sheet_76 ?_
        refine lv_iconst (v := 0) hx hb dX11_sheet_77 (by decide) ?_
        obtain ⟨g2, h⟩ := gIn_some h
        refine va_iast hx hb hK hP hD hS (12) 0 (rfl) rfl g2 dX11_sheet_78 (fun H locs hP hD hS => ?_)
        have hP : va_P D vwCl (wM k a mSizes mSigns mOdds mPat mTyped mText mAt mFault mTests mTN mTS mTV mTB mRead mUns mUM mBA mBH mThere mTypes mHeld (upd mItems (((40 : Int32) * x1) + x4).toNatClampNeg 0) mMoved mFind) H := hP
        have hD : va_D A (wM k a mSizes mSigns mOdds mPat mTyped mText mAt mFault mTests mTN mTS mTV mTB mRead mUns mUM mBA mBH mThere mTypes mHeld (upd mItems (((40 : Int32) * x1) + x4).toNatClampNeg 0) mMoved mFind) := hD
        refine lv_iinc (v := (x4 + 1)) (lv' := [(4, .int (x4 + 1)), (0, .ref (a 0)), (1, .int x1), (3, .int x3)]) hx hb dX11_sheet_79 hl (k := 3) rfl rfl (by decide) rfl (fun ls hl => ?_)
        refine lv_goto (tgt := 59) hx hb dX11_sheet_82 (by decide) ?_
        exact ih59 x1 x3 (x4 + 1) mThere mTypes mHeld (upd mItems (((40 : Int32) * x1) + x4).toNatClampNeg 0) mFind ls H locs (lv_sub hl [1, 2, 3, 0] rfl) hP hD hS h
  obtain ⟨H, hH⟩ : ∃ H : Heap, H = s.heap := ⟨_, rfl⟩
  obtain ⟨locs, hlc⟩ : ∃ locs : List Loc, locs = [] := ⟨_, rfl⟩
  have hS : va_S A s.heap H locs := by rw [hH, hlc]; exact va_S.rf
  have hP : va_P D vwCl (wM k a mSizes mSigns mOdds mPat mTyped mText mAt mFault mTests mTN mTS mTV mTB mRead mUns mUM mBA mBH mThere mTypes mHeld mItems mMoved mFind) H := by rw [hH]; exact hP
  suffices hGo : gQi p l e wo_X11_sheet 2 s m args below meth c D k A o.1 (wM k a mSizes mSigns mOdds mPat mTyped mText mAt mFault mTests mTN mTS mTV mTB mRead mUns mUM mBA mBH o.2.1 o.2.2.1 o.2.2.2.1 o.2.2.2.2.1 mMoved o.2.2.2.2.2) H locs (F0 m 0 ls []) by rw [hH, hlc] at hGo; exact hGo
  refine lv_iload_n hx hb dX11_sheet_0 rfl (lv_at hl 1 rfl) ?_
  obtain ⟨o3, eq4, h⟩ := bnd_some h
  refine kPi (rest := []) ⟨hx, hb, hml, hown, hts⟩ (c_X11_isSheet l x1 eq4) (va_cwS 1 hts (gAS wm_141 wm_142 wm_5 wm_143) rfl rfl rfl qd_X11_isSheet ⟨Nat.le_of_ble_eq_true rfl, Nat.le_of_ble_eq_true rfl⟩) rfl hl.1 rfl (Nat.le_of_ble_eq_true rfl) dX11_sheet_1 ⟨Nat.zero_le _, Nat.zero_le _⟩ ?_
  refine lv_if_eq (tgt := 22) hx hb dX11_sheet_4 (by decide) (fun c5 => ?_) (fun c5 => ?_)
  · replace h := (if_pos c5).symm.trans h
    refine lv_bipush (v := (-2)) hx hb dX11_sheet_22 (by decide) ?_
    have he := Option.some.inj h
    exact W.iret (v := (-2)) hx hb hr (fun t ht hW => ⟨⟨(-2), wM k a mSizes mSigns mOdds mPat mTyped mText mAt mFault mTests mTN mTS mTV mTB mRead mUns mUM mBA mBH mThere mTypes mHeld mItems mMoved mFind, rfl, ⟨(congrArg (fun z => z.1) he), (congrArg (fun z => wM k a mSizes mSigns mOdds mPat mTyped mText mAt mFault mTests mTN mTS mTV mTB mRead mUns mUM mBA mBH z.2.1 z.2.2.1 z.2.2.2.1 z.2.2.2.2.1 mMoved z.2.2.2.2.2) he)⟩, by rw [ht]; exact hP, va_K.moved hW.alike hK, hD⟩, hS.F ht⟩) hS.2.2 dX11_sheet_24
  · replace h := (if_neg c5).symm.trans h
    refine lv_iload_n hx hb dX11_sheet_7 rfl (lv_at hl 2 rfl) ?_
    refine lv_iconst (v := 0) hx hb dX11_sheet_8 (by decide) ?_
    refine lv_iconst (v := 2) hx hb dX11_sheet_9 (by decide) ?_
    obtain ⟨o6, eq7, h⟩ := bnd_some h
    refine kPi (rest := []) ⟨hx, hb, hml, hown, hts⟩ (c_X11_in l x2 0 2 eq7) (va_cwS 3 hts (gAS wm_120 wm_121 wm_5 wm_122) rfl rfl rfl qd_X11_in ⟨Nat.le_of_ble_eq_true rfl, Nat.le_of_ble_eq_true rfl⟩) rfl hl.1 rfl (Nat.le_of_ble_eq_true rfl) dX11_sheet_10 ⟨Nat.zero_le _, Nat.zero_le _⟩ ?_
    refine lv_if_eq (tgt := 22) hx hb dX11_sheet_13 (by decide) (fun c8 => ?_) (fun c8 => ?_)
    · replace h := (if_pos c8).symm.trans h
      refine lv_bipush (v := (-2)) hx hb dX11_sheet_22 (by decide) ?_
      have he := Option.some.inj h
      exact W.iret (v := (-2)) hx hb hr (fun t ht hW => ⟨⟨(-2), wM k a mSizes mSigns mOdds mPat mTyped mText mAt mFault mTests mTN mTS mTV mTB mRead mUns mUM mBA mBH mThere mTypes mHeld mItems mMoved mFind, rfl, ⟨(congrArg (fun z => z.1) he), (congrArg (fun z => wM k a mSizes mSigns mOdds mPat mTyped mText mAt mFault mTests mTN mTS mTV mTB mRead mUns mUM mBA mBH z.2.1 z.2.2.1 z.2.2.2.1 z.2.2.2.2.1 mMoved z.2.2.2.2.2) he)⟩, by rw [ht]; exact hP, va_K.moved hW.alike hK, hD⟩, hS.F ht⟩) hS.2.2 dX11_sheet_24
    · replace h := (if_neg c8).symm.trans h
      refine lv_iload_n hx hb dX11_sheet_16 rfl (lv_at hl 3 rfl) ?_
      refine lv_bipush (v := 40) hx hb dX11_sheet_17 (by decide) ?_
      refine lv_icmp_le (tgt := 25) hx hb dX11_sheet_19 (by decide) (fun c9 => ?_) (fun c9 => ?_)
      · replace h := (if_pos c9).symm.trans h
        refine lv_iload_n hx hb dX11_sheet_25 rfl (lv_at hl 3 rfl) ?_
        refine lv_if_ge (tgt := 35) hx hb dX11_sheet_26 (by decide) (fun c10 => ?_) (fun c10 => ?_)
        · replace h := (if_pos c10).symm.trans h
          refine lv_aload_n hx hb dX11_sheet_35 rfl (lv_at hl 0 rfl) ?_
          refine va_get (D := D) (ci := 6) (v := .ref (a 9)) (C := RX11) (T := TX11) (N := 24) hx hb hts hi11 hown hK hP (0) (rfl) rfl 18 (by decide) kf42 (fun _ h9 => h9) rfl dX11_sheet_36 ?_
          refine lv_iload_n hx hb dX11_sheet_39 rfl (lv_at hl 1 rfl) ?_
          refine lv_iconst (v := 1) hx hb dX11_sheet_40 (by decide) ?_
          obtain ⟨g11, h⟩ := gIn_some h
          refine va_zast hx hb hK hP hD hS (9) 1 (rfl) rfl g11 dX11_sheet_41 (fun H locs hP hD hS => ?_)
          have hP : va_P D vwCl (wM k a mSizes mSigns mOdds mPat mTyped mText mAt mFault mTests mTN mTS mTV mTB mRead mUns mUM mBA mBH (upd mThere x1.toNatClampNeg (vp_nar .boolean 1)) mTypes mHeld mItems mMoved mFind) H := hP
          have hD : va_D A (wM k a mSizes mSigns mOdds mPat mTyped mText mAt mFault mTests mTN mTS mTV mTB mRead mUns mUM mBA mBH (upd mThere x1.toNatClampNeg (vp_nar .boolean 1)) mTypes mHeld mItems mMoved mFind) := hD
          refine lv_aload_n hx hb dX11_sheet_42 rfl (lv_at hl 0 rfl) ?_
          refine va_get (D := D) (ci := 6) (v := .ref (a 10)) (C := RX11) (T := TX11) (N := 24) hx hb hts hi11 hown hK hP (0) (rfl) rfl 19 (by decide) kf45 (fun _ h9 => h9) rfl dX11_sheet_43 ?_
          refine lv_iload_n hx hb dX11_sheet_46 rfl (lv_at hl 1 rfl) ?_
          refine lv_iload_n hx hb dX11_sheet_47 rfl (lv_at hl 2 rfl) ?_
          refine va_iast hx hb hK hP hD hS (10) 0 (rfl) rfl g11 dX11_sheet_48 (fun H locs hP hD hS => ?_)
          have hP : va_P D vwCl (wM k a mSizes mSigns mOdds mPat mTyped mText mAt mFault mTests mTN mTS mTV mTB mRead mUns mUM mBA mBH (upd mThere x1.toNatClampNeg (vp_nar .boolean 1)) (upd mTypes x1.toNatClampNeg x2) mHeld mItems mMoved mFind) H := hP
          have hD : va_D A (wM k a mSizes mSigns mOdds mPat mTyped mText mAt mFault mTests mTN mTS mTV mTB mRead mUns mUM mBA mBH (upd mThere x1.toNatClampNeg (vp_nar .boolean 1)) (upd mTypes x1.toNatClampNeg x2) mHeld mItems mMoved mFind) := hD
          refine lv_aload_n hx hb dX11_sheet_49 rfl (lv_at hl 0 rfl) ?_
          refine va_get (D := D) (ci := 6) (v := .ref (a 11)) (C := RX11) (T := TX11) (N := 24) hx hb hts hi11 hown hK hP (0) (rfl) rfl 20 (by decide) kf48 (fun _ h9 => h9) rfl dX11_sheet_50 ?_
          refine lv_iload_n hx hb dX11_sheet_53 rfl (lv_at hl 1 rfl) ?_
          refine lv_iload_n hx hb dX11_sheet_54 rfl (lv_at hl 3 rfl) ?_
          refine va_iast hx hb hK hP hD hS (11) 0 (rfl) rfl g11 dX11_sheet_55 (fun H locs hP hD hS => ?_)
          have hP : va_P D vwCl (wM k a mSizes mSigns mOdds mPat mTyped mText mAt mFault mTests mTN mTS mTV mTB mRead mUns mUM mBA mBH (upd mThere x1.toNatClampNeg (vp_nar .boolean 1)) (upd mTypes x1.toNatClampNeg x2) (upd mHeld x1.toNatClampNeg x3) mItems mMoved mFind) H := hP
          have hD : va_D A (wM k a mSizes mSigns mOdds mPat mTyped mText mAt mFault mTests mTN mTS mTV mTB mRead mUns mUM mBA mBH (upd mThere x1.toNatClampNeg (vp_nar .boolean 1)) (upd mTypes x1.toNatClampNeg x2) (upd mHeld x1.toNatClampNeg x3) mItems mMoved mFind) := hD
          refine lv_iconst (v := 0) hx hb dX11_sheet_56 (by decide) ?_
          refine lv_istore (lv' := [(4, .int 0), (0, .ref (a 0)), (1, .int x1), (2, .int x2), (3, .int x3)]) hx hb dX11_sheet_57 hl (by decide) rfl (fun ls hl => ?_)
          exact L59 N x1 x3 0 (upd mThere x1.toNatClampNeg (vp_nar .boolean 1)) (upd mTypes x1.toNatClampNeg x2) (upd mHeld x1.toNatClampNeg x3) mItems mFind ls H locs (lv_sub hl [1, 2, 4, 0] rfl) hP hD hS h
        · replace h := (if_neg c10).symm.trans h
          refine lv_aload_n hx hb dX11_sheet_29 rfl (lv_at hl 0 rfl) ?_
          refine lv_iconst (v := 5) hx hb dX11_sheet_30 (by decide) ?_
          obtain ⟨o12, eq13, h⟩ := bnd_some h
          refine kQiV (rest := []) (q0 := 0) ⟨hx, hb, hml, hown, hts⟩ (c_X11_meets l D k a mSizes mSigns mOdds mPat mTyped mText mAt mFault mTests mTN mTS mTV mTB mRead mUns mUM mBA mBH mThere mTypes mHeld mItems mMoved mFind 5 eq13) (cwV 1 hts (gAV wm_144 wm_145 wm_146 wm_5 wm_147) rfl rfl rfl qd_X11_meets ⟨Nat.le_of_ble_eq_true rfl, Nat.le_of_ble_eq_true rfl⟩) hK hP hD hS hA (rfl) rfl rfl hl.1 rfl (Nat.le_of_ble_eq_true rfl) dX11_sheet_31 ⟨Nat.zero_le _, Nat.zero_le _⟩ (fun H locs hP hD hS => ?_)
          have hP : va_P D vwCl (wM k a mSizes mSigns mOdds mPat mTyped mText mAt mFault mTests mTN mTS mTV mTB mRead mUns mUM mBA mBH mThere mTypes mHeld mItems mMoved o12.2) H := hP
          have hD : va_D A (wM k a mSizes mSigns mOdds mPat mTyped mText mAt mFault mTests mTN mTS mTV mTB mRead mUns mUM mBA mBH mThere mTypes mHeld mItems mMoved o12.2) := hD
          have he := Option.some.inj h
          exact W.iret (v := o12.1) hx hb hr (fun t ht hW => ⟨⟨o12.1, wM k a mSizes mSigns mOdds mPat mTyped mText mAt mFault mTests mTN mTS mTV mTB mRead mUns mUM mBA mBH mThere mTypes mHeld mItems mMoved o12.2, rfl, ⟨(congrArg (fun z => z.1) he), (congrArg (fun z => wM k a mSizes mSigns mOdds mPat mTyped mText mAt mFault mTests mTN mTS mTV mTB mRead mUns mUM mBA mBH z.2.1 z.2.2.1 z.2.2.2.1 z.2.2.2.2.1 mMoved z.2.2.2.2.2) he)⟩, by rw [ht]; exact hP, va_K.moved hW.alike hK, hD⟩, hS.F ht⟩) hS.2.2 dX11_sheet_34
      · replace h := (if_neg c9).symm.trans h
        refine lv_bipush (v := (-2)) hx hb dX11_sheet_22 (by decide) ?_
        have he := Option.some.inj h
        exact W.iret (v := (-2)) hx hb hr (fun t ht hW => ⟨⟨(-2), wM k a mSizes mSigns mOdds mPat mTyped mText mAt mFault mTests mTN mTS mTV mTB mRead mUns mUM mBA mBH mThere mTypes mHeld mItems mMoved mFind, rfl, ⟨(congrArg (fun z => z.1) he), (congrArg (fun z => wM k a mSizes mSigns mOdds mPat mTyped mText mAt mFault mTests mTN mTS mTV mTB mRead mUns mUM mBA mBH z.2.1 z.2.2.1 z.2.2.2.1 z.2.2.2.2.1 mMoved z.2.2.2.2.2) he)⟩, by rw [ht]; exact hP, va_K.moved hW.alike hK, hD⟩, hS.F ht⟩) hS.2.2 dX11_sheet_24
set_option maxHeartbeats 4000000 in
set_option maxRecDepth 100000 in
theorem c_X11_sheet {N : Nat} (l : Launch) (D : va_G) (k : Nat → ClassId) (a : Nat → Nat) (mSizes : Nat → Int32) (mSigns : Nat → Int32) (mOdds : Int32) (mPat : Int32) (mTyped : Int32) (mText : Nat → Int32) (mAt : Int32) (mFault : Int32) (mTests : Int32) (mTN : Nat → Int32) (mTS : Nat → Int32) (mTV : Nat → Int32) (mTB : Nat → Int32) (mRead : Int32) (mUns : Nat → Int32) (mUM : Int32) (mBA : Int32) (mBH : Int32) (mThere : Nat → Int32) (mTypes : Nat → Int32) (mHeld : Nat → Int32) (mItems : Nat → Int32) (mMoved : Nat → Int32) (mFind : Int32) (x1 : Int32) (x2 : Int32) (x3 : Int32) {o : Int32 × (Nat → Int32) × (Nat → Int32) × (Nat → Int32) × (Nat → Int32) × (Int32)} (h : f_X11_sheet N x1 x2 x3 mThere mTypes mHeld mItems mFind = some o) : mQi l yX11_sheet wo_X11_sheet 2 D k [.ref (a 0), .int x1, .int x2, .int x3] (wM k a mSizes mSigns mOdds mPat mTyped mText mAt mFault mTests mTN mTS mTV mTB mRead mUns mUM mBA mBH mThere mTypes mHeld mItems mMoved mFind) o.1 (wM k a mSizes mSigns mOdds mPat mTyped mText mAt mFault mTests mTN mTS mTV mTB mRead mUns mUM mBA mBH o.2.1 o.2.2.1 o.2.2.2.1 o.2.2.2.2.1 mMoved o.2.2.2.2.2) := by
  intro sz
  refine Met.ofW (cc := cX11_sheet) (maxL := 5) (ret := some .int) (by decide) rfl ?_
  intro p e s m args below meth c s₁ B hml hv
  obtain ⟨rfl, hsz, hP, hK, hD0⟩ := hv
  subst hsz
  rw [lg_entry_eq]
  exact core_X11_sheet D k a mSizes mSigns mOdds mPat mTyped mText mAt mFault mTests mTN mTS mTV mTB mRead mUns mUM mBA mBH mThere mTypes mHeld mItems mMoved mFind x1 x2 x3 B.exec B.bytes hml B.returns (atoms_spec (ws := wo_X11_sheet) B.pre) (findClass_of_methodNamed B.named) B.notSynchronized (lv_entry [.ref (a 0), .int x1, .int x2, .int x3] (n := 5) (Nat.le_of_ble_eq_true rfl)) hK hP hD0.self (fun q h => Or.inr h) h
theorem qd_X11_sheet : yX11_sheet.cls = RX11 ∧ yX11_sheet.cls ≠ "java/lang/invoke/MethodHandle" ∧ yX11_sheet.cls ≠ "java/lang/invoke/VarHandle" ∧ (parseMethodDescriptor yX11_sheet.desc).map (fun d => d.parameters.length) = some 3 := by decide +kernel
abbrev wo_X11_lose : List Cond := .code yX11_lose cX11_lose 2 (some .int) :: wsL_law
set_option maxHeartbeats 4000000 in
set_option maxRecDepth 100000 in
theorem core_X11_lose (D : va_G) (k : Nat → ClassId) (a : Nat → Nat) (mSizes : Nat → Int32) (mSigns : Nat → Int32) (mOdds : Int32) (mPat : Int32) (mTyped : Int32) (mText : Nat → Int32) (mAt : Int32) (mFault : Int32) (mTests : Int32) (mTN : Nat → Int32) (mTS : Nat → Int32) (mTV : Nat → Int32) (mTB : Nat → Int32) (mRead : Int32) (mUns : Nat → Int32) (mUM : Int32) (mBA : Int32) (mBH : Int32) (mThere : Nat → Int32) (mTypes : Nat → Int32) (mHeld : Nat → Int32) (mItems : Nat → Int32) (mMoved : Nat → Int32) (mFind : Int32) (x1 : Int32) {p : Program} {l : Launch} {e : Env} {s : State} {m : MethodId} {args : Array Value} {below : List Frame} {meth : Method} {c : Code} {ls : Array Slot} (hx : p.tables.exec = Jvm.exec) (hb : c.code = cX11_lose) (hml : c.maxLocals = 2) (hr : meth.sig.returnType = some .int) (hts : ∀ w ∈ wo_X11_lose, w.before args s = true) (hown : s.vm.findClass RX11 = some m.cls) (hlocks : meth.locks = false) (hl : lv_has ls 2 [(0, .ref (a 0)), (1, .int x1)]) (hK : va_K D vwCl (xTys k) s) (hP : va_P D vwCl (wM k a mSizes mSigns mOdds mPat mTyped mText mAt mFault mTests mTN mTS mTV mTB mRead mUns mUM mBA mBH mThere mTypes mHeld mItems mMoved mFind) s.heap) {A : Nat → Prop} (hD : va_D A (wM k a mSizes mSigns mOdds mPat mTyped mText mAt mFault mTests mTN mTS mTV mTB mRead mUns mUM mBA mBH mThere mTypes mHeld mItems mMoved mFind)) (hA : ∀ q : Nat, s.heap.size ≤ q → A q) {o : Int32 × (Nat → Int32) × (Int32)} (h : f_X11_lose x1 mThere mHeld mFind = some o) : gQi p l e wo_X11_lose 2 s m args below meth c D k A o.1 (wM k a mSizes mSigns mOdds mPat mTyped mText mAt mFault mTests mTN mTS mTV mTB mRead mUns mUM mBA mBH o.2.1 mTypes mHeld mItems mMoved o.2.2) s.heap [] (F0 m 0 ls []) := by
  have hi11 := (fun w h => List.mem_cons_of_mem _ (inlX11 w h) : ∀ w ∈ wsX110, w ∈ wo_X11_lose)
  have kf42 := hts _ (List.mem_cons_of_mem _ wm_82)
  have kf48 := hts _ (List.mem_cons_of_mem _ wm_84)
  unfold f_X11_lose at h
  have hS : va_S A s.heap s.heap [] := va_S.rf
  obtain ⟨H, hH⟩ : ∃ H : Heap, H = s.heap := ⟨_, rfl⟩
  obtain ⟨locs, hlc⟩ : ∃ locs : List Loc, locs = [] := ⟨_, rfl⟩
  have hS : va_S A s.heap H locs := by rw [hH, hlc]; exact va_S.rf
  have hP : va_P D vwCl (wM k a mSizes mSigns mOdds mPat mTyped mText mAt mFault mTests mTN mTS mTV mTB mRead mUns mUM mBA mBH mThere mTypes mHeld mItems mMoved mFind) H := by rw [hH]; exact hP
  suffices hGo : gQi p l e wo_X11_lose 2 s m args below meth c D k A o.1 (wM k a mSizes mSigns mOdds mPat mTyped mText mAt mFault mTests mTN mTS mTV mTB mRead mUns mUM mBA mBH o.2.1 mTypes mHeld mItems mMoved o.2.2) H locs (F0 m 0 ls []) by rw [hH, hlc] at hGo; exact hGo
  refine lv_iload_n hx hb dX11_lose_0 rfl (lv_at hl 1 rfl) ?_
  obtain ⟨o1, eq2, h⟩ := bnd_some h
  refine kPi (rest := []) ⟨hx, hb, hml, hown, hts⟩ (c_X11_isSheet l x1 eq2) (va_cwS 1 hts (gAS wm_141 wm_142 wm_5 wm_143) rfl rfl rfl qd_X11_isSheet ⟨Nat.le_of_ble_eq_true rfl, Nat.le_of_ble_eq_true rfl⟩) rfl hl.1 rfl (Nat.le_of_ble_eq_true rfl) dX11_lose_1 ⟨Nat.zero_le _, Nat.zero_le _⟩ ?_
  refine lv_if_ne (tgt := 10) hx hb dX11_lose_4 (by decide) (fun c3 => ?_) (fun c3 => ?_)
  · replace h := (if_neg c3).symm.trans h
    refine lv_aload_n hx hb dX11_lose_10 rfl (lv_at hl 0 rfl) ?_
    refine va_get (D := D) (ci := 6) (v := .ref (a 9)) (C := RX11) (T := TX11) (N := 24) hx hb hts hi11 hown hK hP (0) (rfl) rfl 18 (by decide) kf42 (fun _ h9 => h9) rfl dX11_lose_11 ?_
    refine lv_iload_n hx hb dX11_lose_14 rfl (lv_at hl 1 rfl) ?_
    obtain ⟨g4, h⟩ := gIn_some h
    refine va_zald hx hb hK hP (9) 1 (rfl) rfl g4 dX11_lose_15 ?_
    refine lv_if_ne (tgt := 25) hx hb dX11_lose_16 (by decide) (fun c5 => ?_) (fun c5 => ?_)
    · replace h := (if_neg c5).symm.trans h
      refine lv_aload_n hx hb dX11_lose_25 rfl (lv_at hl 0 rfl) ?_
      refine va_get (D := D) (ci := 6) (v := .ref (a 9)) (C := RX11) (T := TX11) (N := 24) hx hb hts hi11 hown hK hP (0) (rfl) rfl 18 (by decide) kf42 (fun _ h9 => h9) rfl dX11_lose_26 ?_
      refine lv_iload_n hx hb dX11_lose_29 rfl (lv_at hl 1 rfl) ?_
      refine lv_iconst (v := 0) hx hb dX11_lose_30 (by decide) ?_
      refine va_zast hx hb hK hP hD hS (9) 1 (rfl) rfl g4 dX11_lose_31 (fun H locs hP hD hS => ?_)
      have hP : va_P D vwCl (wM k a mSizes mSigns mOdds mPat mTyped mText mAt mFault mTests mTN mTS mTV mTB mRead mUns mUM mBA mBH (upd mThere x1.toNatClampNeg (vp_nar .boolean 0)) mTypes mHeld mItems mMoved mFind) H := hP
      have hD : va_D A (wM k a mSizes mSigns mOdds mPat mTyped mText mAt mFault mTests mTN mTS mTV mTB mRead mUns mUM mBA mBH (upd mThere x1.toNatClampNeg (vp_nar .boolean 0)) mTypes mHeld mItems mMoved mFind) := hD
      refine lv_aload_n hx hb dX11_lose_32 rfl (lv_at hl 0 rfl) ?_
      refine va_get (D := D) (ci := 6) (v := .ref (a 11)) (C := RX11) (T := TX11) (N := 24) hx hb hts hi11 hown hK hP (0) (rfl) rfl 20 (by decide) kf48 (fun _ h9 => h9) rfl dX11_lose_33 ?_
      refine lv_iload_n hx hb dX11_lose_36 rfl (lv_at hl 1 rfl) ?_
      refine va_iald hx hb hK hP (11) 0 (rfl) rfl g4 dX11_lose_37 ?_
      have he := Option.some.inj h
      exact W.iret (v := (mHeld x1.toNatClampNeg)) hx hb hr (fun t ht hW => ⟨⟨(mHeld x1.toNatClampNeg), wM k a mSizes mSigns mOdds mPat mTyped mText mAt mFault mTests mTN mTS mTV mTB mRead mUns mUM mBA mBH (upd mThere x1.toNatClampNeg (vp_nar .boolean 0)) mTypes mHeld mItems mMoved mFind, rfl, ⟨(congrArg (fun z => z.1) he), (congrArg (fun z => wM k a mSizes mSigns mOdds mPat mTyped mText mAt mFault mTests mTN mTS mTV mTB mRead mUns mUM mBA mBH z.2.1 mTypes mHeld mItems mMoved z.2.2) he)⟩, by rw [ht]; exact hP, va_K.moved hW.alike hK, hD⟩, hS.F ht⟩) hS.2.2 dX11_lose_38
    · replace h := (if_pos c5).symm.trans h
      refine lv_aload_n hx hb dX11_lose_19 rfl (lv_at hl 0 rfl) ?_
      refine lv_iconst (v := 1) hx hb dX11_lose_20 (by decide) ?_
      obtain ⟨o6, eq7, h⟩ := bnd_some h
      refine kQiV (rest := []) (q0 := 0) ⟨hx, hb, hml, hown, hts⟩ (c_X11_meets l D k a mSizes mSigns mOdds mPat mTyped mText mAt mFault mTests mTN mTS mTV mTB mRead mUns mUM mBA mBH mThere mTypes mHeld mItems mMoved mFind 1 eq7) (cwV 1 hts (gAV wm_144 wm_145 wm_146 wm_5 wm_147) rfl rfl rfl qd_X11_meets ⟨Nat.le_of_ble_eq_true rfl, Nat.le_of_ble_eq_true rfl⟩) hK hP hD hS hA (rfl) rfl rfl hl.1 rfl (Nat.le_of_ble_eq_true rfl) dX11_lose_21 ⟨Nat.zero_le _, Nat.zero_le _⟩ (fun H locs hP hD hS => ?_)
      have hP : va_P D vwCl (wM k a mSizes mSigns mOdds mPat mTyped mText mAt mFault mTests mTN mTS mTV mTB mRead mUns mUM mBA mBH mThere mTypes mHeld mItems mMoved o6.2) H := hP
      have hD : va_D A (wM k a mSizes mSigns mOdds mPat mTyped mText mAt mFault mTests mTN mTS mTV mTB mRead mUns mUM mBA mBH mThere mTypes mHeld mItems mMoved o6.2) := hD
      have he := Option.some.inj h
      exact W.iret (v := o6.1) hx hb hr (fun t ht hW => ⟨⟨o6.1, wM k a mSizes mSigns mOdds mPat mTyped mText mAt mFault mTests mTN mTS mTV mTB mRead mUns mUM mBA mBH mThere mTypes mHeld mItems mMoved o6.2, rfl, ⟨(congrArg (fun z => z.1) he), (congrArg (fun z => wM k a mSizes mSigns mOdds mPat mTyped mText mAt mFault mTests mTN mTS mTV mTB mRead mUns mUM mBA mBH z.2.1 mTypes mHeld mItems mMoved z.2.2) he)⟩, by rw [ht]; exact hP, va_K.moved hW.alike hK, hD⟩, hS.F ht⟩) hS.2.2 dX11_lose_24
  · replace h := (if_pos c3).symm.trans h
    refine lv_bipush (v := (-2)) hx hb dX11_lose_7 (by decide) ?_
    have he := Option.some.inj h
    exact W.iret (v := (-2)) hx hb hr (fun t ht hW => ⟨⟨(-2), wM k a mSizes mSigns mOdds mPat mTyped mText mAt mFault mTests mTN mTS mTV mTB mRead mUns mUM mBA mBH mThere mTypes mHeld mItems mMoved mFind, rfl, ⟨(congrArg (fun z => z.1) he), (congrArg (fun z => wM k a mSizes mSigns mOdds mPat mTyped mText mAt mFault mTests mTN mTS mTV mTB mRead mUns mUM mBA mBH z.2.1 mTypes mHeld mItems mMoved z.2.2) he)⟩, by rw [ht]; exact hP, va_K.moved hW.alike hK, hD⟩, hS.F ht⟩) hS.2.2 dX11_lose_9
set_option maxHeartbeats 4000000 in
set_option maxRecDepth 100000 in
theorem c_X11_lose (l : Launch) (D : va_G) (k : Nat → ClassId) (a : Nat → Nat) (mSizes : Nat → Int32) (mSigns : Nat → Int32) (mOdds : Int32) (mPat : Int32) (mTyped : Int32) (mText : Nat → Int32) (mAt : Int32) (mFault : Int32) (mTests : Int32) (mTN : Nat → Int32) (mTS : Nat → Int32) (mTV : Nat → Int32) (mTB : Nat → Int32) (mRead : Int32) (mUns : Nat → Int32) (mUM : Int32) (mBA : Int32) (mBH : Int32) (mThere : Nat → Int32) (mTypes : Nat → Int32) (mHeld : Nat → Int32) (mItems : Nat → Int32) (mMoved : Nat → Int32) (mFind : Int32) (x1 : Int32) {o : Int32 × (Nat → Int32) × (Int32)} (h : f_X11_lose x1 mThere mHeld mFind = some o) : mQi l yX11_lose wo_X11_lose 2 D k [.ref (a 0), .int x1] (wM k a mSizes mSigns mOdds mPat mTyped mText mAt mFault mTests mTN mTS mTV mTB mRead mUns mUM mBA mBH mThere mTypes mHeld mItems mMoved mFind) o.1 (wM k a mSizes mSigns mOdds mPat mTyped mText mAt mFault mTests mTN mTS mTV mTB mRead mUns mUM mBA mBH o.2.1 mTypes mHeld mItems mMoved o.2.2) := by
  intro sz
  refine Met.ofW (cc := cX11_lose) (maxL := 2) (ret := some .int) (by decide) rfl ?_
  intro p e s m args below meth c s₁ B hml hv
  obtain ⟨rfl, hsz, hP, hK, hD0⟩ := hv
  subst hsz
  rw [lg_entry_eq]
  exact core_X11_lose D k a mSizes mSigns mOdds mPat mTyped mText mAt mFault mTests mTN mTS mTV mTB mRead mUns mUM mBA mBH mThere mTypes mHeld mItems mMoved mFind x1 B.exec B.bytes hml B.returns (atoms_spec (ws := wo_X11_lose) B.pre) (findClass_of_methodNamed B.named) B.notSynchronized (lv_entry [.ref (a 0), .int x1] (n := 2) (Nat.le_of_ble_eq_true rfl)) hK hP hD0.self (fun q h => Or.inr h) h
theorem qd_X11_lose : yX11_lose.cls = RX11 ∧ yX11_lose.cls ≠ "java/lang/invoke/MethodHandle" ∧ yX11_lose.cls ≠ "java/lang/invoke/VarHandle" ∧ (parseMethodDescriptor yX11_lose.desc).map (fun d => d.parameters.length) = some 1 := by decide +kernel
abbrev wo_X11_lacks : List Cond := .code yX11_lacks cX11_lacks 4 (some .int) :: wsL_law
set_option maxHeartbeats 4000000 in
set_option maxRecDepth 100000 in
theorem core_X11_lacks (D : va_G) (k : Nat → ClassId) (a : Nat → Nat) (mSizes : Nat → Int32) (mSigns : Nat → Int32) (mOdds : Int32) (mPat : Int32) (mTyped : Int32) (mText : Nat → Int32) (mAt : Int32) (mFault : Int32) (mTests : Int32) (mTN : Nat → Int32) (mTS : Nat → Int32) (mTV : Nat → Int32) (mTB : Nat → Int32) (mRead : Int32) (mUns : Nat → Int32) (mUM : Int32) (mBA : Int32) (mBH : Int32) (mThere : Nat → Int32) (mTypes : Nat → Int32) (mHeld : Nat → Int32) (mItems : Nat → Int32) (mMoved : Nat → Int32) (mFind : Int32) (x1 : Int32) (x2 : Int32) (x3 : Int32) {p : Program} {l : Launch} {e : Env} {s : State} {m : MethodId} {args : Array Value} {below : List Frame} {meth : Method} {c : Code} {ls : Array Slot} (hx : p.tables.exec = Jvm.exec) (hb : c.code = cX11_lacks) (hml : c.maxLocals = 4) (hr : meth.sig.returnType = some .int) (hts : ∀ w ∈ wo_X11_lacks, w.before args s = true) (hown : s.vm.findClass RX11 = some m.cls) (hlocks : meth.locks = false) (hl : lv_has ls 4 [(0, .ref (a 0)), (1, .int x1), (2, .int x2), (3, .int x3)]) (hK : va_K D vwCl (xTys k) s) (hP : va_P D vwCl (wM k a mSizes mSigns mOdds mPat mTyped mText mAt mFault mTests mTN mTS mTV mTB mRead mUns mUM mBA mBH mThere mTypes mHeld mItems mMoved mFind) s.heap) {o : Int32} (h : f_X11_lacks x1 x2 x3 mThere mTypes mHeld = some o) : gRi p l e wo_X11_lacks 1 s m args below meth c o (F0 m 0 ls []) := by
  have hi11 := (fun w h => List.mem_cons_of_mem _ (inlX11 w h) : ∀ w ∈ wsX110, w ∈ wo_X11_lacks)
  have kf42 := hts _ (List.mem_cons_of_mem _ wm_82)
  have kf45 := hts _ (List.mem_cons_of_mem _ wm_83)
  have kf48 := hts _ (List.mem_cons_of_mem _ wm_84)
  unfold f_X11_lacks at h
  refine lv_aload_n hx hb dX11_lacks_0 rfl (lv_at hl 0 rfl) ?_
  refine va_get (D := D) (ci := 6) (v := .ref (a 9)) (C := RX11) (T := TX11) (N := 24) hx hb hts hi11 hown hK hP (0) (rfl) rfl 18 (by decide) kf42 (fun _ h9 => h9) rfl dX11_lacks_1 ?_
  refine lv_iload_n hx hb dX11_lacks_4 rfl (lv_at hl 1 rfl) ?_
  obtain ⟨g1, h⟩ := gIn_some h
  refine va_zald hx hb hK hP (9) 1 (rfl) rfl g1 dX11_lacks_5 ?_
  refine lv_if_ne (tgt := 13) hx hb dX11_lacks_6 (by decide) (fun c2 => ?_) (fun c2 => ?_)
  · replace h := (if_neg c2).symm.trans h
    refine lv_aload_n hx hb dX11_lacks_13 rfl (lv_at hl 0 rfl) ?_
    refine va_get (D := D) (ci := 6) (v := .ref (a 10)) (C := RX11) (T := TX11) (N := 24) hx hb hts hi11 hown hK hP (0) (rfl) rfl 19 (by decide) kf45 (fun _ h9 => h9) rfl dX11_lacks_14 ?_
    refine lv_iload_n hx hb dX11_lacks_17 rfl (lv_at hl 1 rfl) ?_
    refine va_iald hx hb hK hP (10) 0 (rfl) rfl g1 dX11_lacks_18 ?_
    refine lv_iload_n hx hb dX11_lacks_19 rfl (lv_at hl 2 rfl) ?_
    refine lv_icmp_eq (tgt := 27) hx hb dX11_lacks_20 (by decide) (fun c3 => ?_) (fun c3 => ?_)
    · replace h := (if_pos c3).symm.trans h
      refine lv_iload_n hx hb dX11_lacks_27 rfl (lv_at hl 3 rfl) ?_
      refine lv_iconst (v := 0) hx hb dX11_lacks_28 (by decide) ?_
      refine lv_aload_n hx hb dX11_lacks_29 rfl (lv_at hl 0 rfl) ?_
      refine va_get (D := D) (ci := 6) (v := .ref (a 11)) (C := RX11) (T := TX11) (N := 24) hx hb hts hi11 hown hK hP (0) (rfl) rfl 20 (by decide) kf48 (fun _ h9 => h9) rfl dX11_lacks_30 ?_
      refine lv_iload_n hx hb dX11_lacks_33 rfl (lv_at hl 1 rfl) ?_
      refine va_iald hx hb hK hP (11) 0 (rfl) rfl g1 dX11_lacks_34 ?_
      refine lv_iconst (v := 1) hx hb dX11_lacks_35 (by decide) ?_
      refine lv_isub hx hb dX11_lacks_36 ?_
      obtain ⟨o4, eq5, h⟩ := bnd_some h
      refine kPi (rest := []) ⟨hx, hb, hml, hown, hts⟩ (c_X11_in l x3 0 ((mHeld x1.toNatClampNeg) - 1) eq5) (va_cwS 3 hts (gAS wm_120 wm_121 wm_5 wm_122) rfl rfl rfl qd_X11_in ⟨Nat.le_of_ble_eq_true rfl, Nat.le_of_ble_eq_true rfl⟩) rfl hl.1 rfl (Nat.le_of_ble_eq_true rfl) dX11_lacks_37 ⟨Nat.zero_le _, Nat.zero_le _⟩ ?_
      refine lv_if_eq (tgt := 47) hx hb dX11_lacks_40 (by decide) (fun c6 => ?_) (fun c6 => ?_)
      · replace h := (if_pos c6).symm.trans h
        refine lv_iconst (v := 2) hx hb dX11_lacks_47 (by decide) ?_
        exact W.iret (v := 2) hx hb hr (fun t ht hW => ⟨_, rfl, Option.some.inj h, ht⟩) (fun q hq => by cases hq) dX11_lacks_48
      · replace h := (if_neg c6).symm.trans h
        refine lv_iconst (v := 0) hx hb dX11_lacks_43 (by decide) ?_
        refine lv_goto (tgt := 48) hx hb dX11_lacks_44 (by decide) ?_
        exact W.iret (v := 0) hx hb hr (fun t ht hW => ⟨_, rfl, Option.some.inj h, ht⟩) (fun q hq => by cases hq) dX11_lacks_48
    · replace h := (if_neg c3).symm.trans h
      refine lv_iconst (v := 3) hx hb dX11_lacks_23 (by decide) ?_
      refine lv_goto (tgt := 48) hx hb dX11_lacks_24 (by decide) ?_
      exact W.iret (v := 3) hx hb hr (fun t ht hW => ⟨_, rfl, Option.some.inj h, ht⟩) (fun q hq => by cases hq) dX11_lacks_48
  · replace h := (if_pos c2).symm.trans h
    refine lv_iconst (v := 1) hx hb dX11_lacks_9 (by decide) ?_
    refine lv_goto (tgt := 48) hx hb dX11_lacks_10 (by decide) ?_
    exact W.iret (v := 1) hx hb hr (fun t ht hW => ⟨_, rfl, Option.some.inj h, ht⟩) (fun q hq => by cases hq) dX11_lacks_48
set_option maxHeartbeats 4000000 in
set_option maxRecDepth 100000 in
theorem c_X11_lacks (l : Launch) (D : va_G) (k : Nat → ClassId) (a : Nat → Nat) (mSizes : Nat → Int32) (mSigns : Nat → Int32) (mOdds : Int32) (mPat : Int32) (mTyped : Int32) (mText : Nat → Int32) (mAt : Int32) (mFault : Int32) (mTests : Int32) (mTN : Nat → Int32) (mTS : Nat → Int32) (mTV : Nat → Int32) (mTB : Nat → Int32) (mRead : Int32) (mUns : Nat → Int32) (mUM : Int32) (mBA : Int32) (mBH : Int32) (mThere : Nat → Int32) (mTypes : Nat → Int32) (mHeld : Nat → Int32) (mItems : Nat → Int32) (mMoved : Nat → Int32) (mFind : Int32) (x1 : Int32) (x2 : Int32) (x3 : Int32) {o : Int32} (h : f_X11_lacks x1 x2 x3 mThere mTypes mHeld = some o) : mRi l yX11_lacks wo_X11_lacks 1 D k [.ref (a 0), .int x1, .int x2, .int x3] (wM k a mSizes mSigns mOdds mPat mTyped mText mAt mFault mTests mTN mTS mTV mTB mRead mUns mUM mBA mBH mThere mTypes mHeld mItems mMoved mFind) o := by
  refine Met.ofW (cc := cX11_lacks) (maxL := 4) (ret := some .int) (by decide) rfl ?_
  intro p e s m args below meth c s₁ B hml hv
  obtain ⟨rfl, hP, hK⟩ := hv
  rw [lg_entry_eq]
  exact core_X11_lacks D k a mSizes mSigns mOdds mPat mTyped mText mAt mFault mTests mTN mTS mTV mTB mRead mUns mUM mBA mBH mThere mTypes mHeld mItems mMoved mFind x1 x2 x3 B.exec B.bytes hml B.returns (atoms_spec (ws := wo_X11_lacks) B.pre) (findClass_of_methodNamed B.named) B.notSynchronized (lv_entry [.ref (a 0), .int x1, .int x2, .int x3] (n := 4) (Nat.le_of_ble_eq_true rfl)) hK hP h
theorem qd_X11_lacks : yX11_lacks.cls = RX11 ∧ yX11_lacks.cls ≠ "java/lang/invoke/MethodHandle" ∧ yX11_lacks.cls ≠ "java/lang/invoke/VarHandle" ∧ (parseMethodDescriptor yX11_lacks.desc).map (fun d => d.parameters.length) = some 3 := by decide +kernel
