/-! each call: both contracts, and the tie behind it (printed by gen/steps.py) -/
section ST
variable {l : Launch} {D : va_G} {k : Nat → ClassId} {ax am : Nat → Nat} {WX WM : va_W} {zb zv N : Nat}
theorem RW_elim {C : va_W → va_W → Prop} (hR : RW k ax am WX WM) (h : ∀ (xLen xHits xUns : Nat → Int32) (xItems : Nat → Nat → Int32) (xLost xKind xSize xLet xRel xLim xOpen xMeas : Nat → Int32) (xSL xST xSD xSK : Int32) (xTal : Nat → Nat → Int32) (xKn xFT : Nat → Int32) (xFA xFE xOdds xPat xFind : Int32) (mSizes mSigns : Nat → Int32) (mOdds mPat mTyped : Int32) (mText : Nat → Int32) (mAt mFault mTests : Int32) (mTN mTS mTV mTB : Nat → Int32) (mRead : Int32) (mUns : Nat → Int32) (mUM mBA mBH : Int32) (mThere mTypes mHeld mItems mMoved : Nat → Int32) (mFind : Int32), RLn xLen xHits xUns xItems xLost xKind xSize xLet xRel xLim xOpen xSL xST xSD xSK xTal xKn xOdds xPat xFind mSizes mSigns mOdds mPat mTyped mText mFault mTests mTN mTS mTV mTB mRead mThere mTypes mHeld mItems mFind → C (wX k ax xLen xHits xUns xItems xLost xKind xSize xLet xRel xLim xOpen xMeas xSL xST xSD xSK xTal xKn xFT xFA xFE xOdds xPat xFind) (wM k am mSizes mSigns mOdds mPat mTyped mText mAt mFault mTests mTN mTS mTV mTB mRead mUns mUM mBA mBH mThere mTypes mHeld mItems mMoved mFind)) : C WX WM := by
  obtain ⟨xLen, xHits, xUns, xItems, xLost, xKind, xSize, xLet, xRel, xLim, xOpen, xMeas, xSL, xST, xSD, xSK, xTal, xKn, xFT, xFA, xFE, xOdds, xPat, xFind, mSizes, mSigns, mOdds, mPat, mTyped, mText, mAt, mFault, mTests, mTN, mTS, mTV, mTB, mRead, mUns, mUM, mBA, mBH, mThere, mTypes, mHeld, mItems, mMoved, mFind, rfl, rfl, h0⟩ := hR
  exact h xLen xHits xUns xItems xLost xKind xSize xLet xRel xLim xOpen xMeas xSL xST xSD xSK xTal xKn xFT xFA xFE xOdds xPat xFind mSizes mSigns mOdds mPat mTyped mText mAt mFault mTests mTN mTS mTV mTB mRead mUns mUM mBA mBH mThere mTypes mHeld mItems mMoved mFind h0
theorem s_sign (hN : 40000 ≤ N) (hR : RW k ax am WX WM) (x1 x2 : Int32) : ∃ (r : Int32) (WX' WM' : va_W), cI l yX10_sign wo_X10_sign 1 zb zv D k [.ref (ax 0), .int x1, .int x2] WX r WX' ∧ cI l yX11_sign wo_X11_sign 3 zb zv D k [.ref (am 0), .int x1, .int x2] WM r WM' ∧ RW k ax am WX' WM' := by
  refine RW_elim (C := fun WX WM => ∃ (r : Int32) (WX' WM' : va_W), cI l yX10_sign wo_X10_sign 1 zb zv D k [.ref (ax 0), .int x1, .int x2] WX r WX' ∧ cI l yX11_sign wo_X11_sign 3 zb zv D k [.ref (am 0), .int x1, .int x2] WM r WM' ∧ RW k ax am WX' WM') hR ?_
  intro xLen xHits xUns xItems xLost xKind xSize xLet xRel xLim xOpen xMeas xSL xST xSD xSK xTal xKn xFT xFA xFE xOdds xPat xFind mSizes mSigns mOdds mPat mTyped mText mAt mFault mTests mTN mTS mTV mTB mRead mUns mUM mBA mBH mThere mTypes mHeld mItems mMoved mFind h0
  obtain ⟨h1, h2, h3, tx, mm, T, p, hT, hp, e1, e2, e3, e4, h4, h5⟩ := h0
  subst h3 e1 e2 e3 e4
  obtain ⟨⟨o1, o2⟩, ⟨q1, q2⟩, a1, a2, a3, a4⟩ := p_sign h1 x1 x2
  have a3 : o1 = q1 := a3
  subst a3
  have mX := c_X10_sign l D k ax xLen xHits xUns xItems xLost xKind xSize xLet xRel xLim xOpen xMeas xSL xST xSD xSK xTal xKn xFT xFA xFE (nI p) (nI T) xFind x1 x2 a1
  have mM := c_X11_sign l D k am mSizes mSigns (nI p) (nI T) mTyped mText mAt mFault mTests mTN mTS mTV mTB mRead mUns mUM mBA mBH mThere mTypes mHeld mItems mMoved xFind x1 x2 a2
  exact ⟨_, _, _, Or.inr (Or.inl mX), Or.inr (Or.inl mM), RW_mk ⟨a4, h2, rfl, tx, mm, T, p, hT, hp, rfl, rfl, rfl, rfl, h4, h5⟩⟩
theorem s_read (hN : 40000 ≤ N) (hR : RW k ax am WX WM) (x1 x2 : Int32) : ∃ (r : Int32) (WX' WM' : va_W), cI l yX10_read wo_X10_read 1 zb zv D k [.ref (ax 0), .int x1, .int x2] WX r WX' ∧ cI l yX11_read wo_X11_read 3 zb zv D k [.ref (am 0), .int x1, .int x2] WM r WM' ∧ RW k ax am WX' WM' := by
  refine RW_elim (C := fun WX WM => ∃ (r : Int32) (WX' WM' : va_W), cI l yX10_read wo_X10_read 1 zb zv D k [.ref (ax 0), .int x1, .int x2] WX r WX' ∧ cI l yX11_read wo_X11_read 3 zb zv D k [.ref (am 0), .int x1, .int x2] WM r WM' ∧ RW k ax am WX' WM') hR ?_
  intro xLen xHits xUns xItems xLost xKind xSize xLet xRel xLim xOpen xMeas xSL xST xSD xSK xTal xKn xFT xFA xFE xOdds xPat xFind mSizes mSigns mOdds mPat mTyped mText mAt mFault mTests mTN mTS mTV mTB mRead mUns mUM mBA mBH mThere mTypes mHeld mItems mMoved mFind h0
  obtain ⟨h1, h2, h3, tx, mm, T, p, hT, hp, e1, e2, e3, e4, h4, h5⟩ := h0
  subst h3 e1 e2 e3 e4
  obtain ⟨⟨o1, o2⟩, ⟨q1, q2⟩, a1, a2, a3, a4, a5⟩ := p_read (N := N) (by omega) h1 h2 x1 x2 xFind
  have a3 : o1 = q1 := a3
  subst a3
  have mX := c_X10_read l D k ax xLen xHits xUns xItems xLost xKind xSize xLet xRel xLim xOpen xMeas xSL xST xSD xSK xTal xKn xFT xFA xFE (nI p) (nI T) xFind x1 x2 a1
  have mM := c_X11_read l D k am mSizes mSigns (nI p) (nI T) mTyped mText mAt mFault mTests mTN mTS mTV mTB mRead mUns mUM mBA mBH mThere mTypes mHeld mItems mMoved xFind x1 x2 a2
  exact ⟨_, _, _, Or.inr (Or.inl mX), Or.inr (Or.inl mM), RW_mk ⟨a4, h2, a5, tx, mm, T, p, hT, hp, rfl, rfl, rfl, rfl, h4, h5⟩⟩
theorem s_clear (hN : 40000 ≤ N) (hR : RW k ax am WX WM) (x1 : Int32) : ∃ (r : Int32) (WX' WM' : va_W), cI l yX10_clear wo_X10_clear 1 zb zv D k [.ref (ax 0), .int x1] WX r WX' ∧ cI l yX11_clear wo_X11_clear 2 zb zv D k [.ref (am 0), .int x1] WM r WM' ∧ RW k ax am WX' WM' := by
  refine RW_elim (C := fun WX WM => ∃ (r : Int32) (WX' WM' : va_W), cI l yX10_clear wo_X10_clear 1 zb zv D k [.ref (ax 0), .int x1] WX r WX' ∧ cI l yX11_clear wo_X11_clear 2 zb zv D k [.ref (am 0), .int x1] WM r WM' ∧ RW k ax am WX' WM') hR ?_
  intro xLen xHits xUns xItems xLost xKind xSize xLet xRel xLim xOpen xMeas xSL xST xSD xSK xTal xKn xFT xFA xFE xOdds xPat xFind mSizes mSigns mOdds mPat mTyped mText mAt mFault mTests mTN mTS mTV mTB mRead mUns mUM mBA mBH mThere mTypes mHeld mItems mMoved mFind h0
  obtain ⟨h1, h2, h3, tx, mm, T, p, hT, hp, e1, e2, e3, e4, h4, h5⟩ := h0
  subst h3 e1 e2 e3 e4
  obtain ⟨⟨o1, o2⟩, ⟨q1, q2⟩, a1, a2, a3, a4⟩ := p_clear h1 x1
  have a3 : o1 = q1 := a3
  subst a3
  have mX := c_X10_clear l D k ax xLen xHits xUns xItems xLost xKind xSize xLet xRel xLim xOpen xMeas xSL xST xSD xSK xTal xKn xFT xFA xFE (nI p) (nI T) xFind x1 a1
  have mM := c_X11_clear l D k am mSizes mSigns (nI p) (nI T) mTyped mText mAt mFault mTests mTN mTS mTV mTB mRead mUns mUM mBA mBH mThere mTypes mHeld mItems mMoved xFind x1 a2
  exact ⟨_, _, _, Or.inr (Or.inl mX), Or.inr (Or.inl mM), RW_mk ⟨a4, h2, rfl, tx, mm, T, p, hT, hp, rfl, rfl, rfl, rfl, h4, h5⟩⟩
theorem s_at (hN : 40000 ≤ N) (hR : RW k ax am WX WM) (x1 x2 : Int32) : ∃ (r : Int32) (WX' WM' : va_W), cI l yX10_at wo_X10_at 1 zb zv D k [.ref (ax 0), .int x1, .int x2] WX r WX' ∧ cI l yX11_at wo_X11_at 2 zb zv D k [.ref (am 0), .int x1, .int x2] WM r WM' ∧ RW k ax am WX' WM' := by
  refine RW_elim (C := fun WX WM => ∃ (r : Int32) (WX' WM' : va_W), cI l yX10_at wo_X10_at 1 zb zv D k [.ref (ax 0), .int x1, .int x2] WX r WX' ∧ cI l yX11_at wo_X11_at 2 zb zv D k [.ref (am 0), .int x1, .int x2] WM r WM' ∧ RW k ax am WX' WM') hR ?_
  intro xLen xHits xUns xItems xLost xKind xSize xLet xRel xLim xOpen xMeas xSL xST xSD xSK xTal xKn xFT xFA xFE xOdds xPat xFind mSizes mSigns mOdds mPat mTyped mText mAt mFault mTests mTN mTS mTV mTB mRead mUns mUM mBA mBH mThere mTypes mHeld mItems mMoved mFind h0
  obtain ⟨h1, h2, h3, tx, mm, T, p, hT, hp, e1, e2, e3, e4, h4, h5⟩ := h0
  subst h3 e1 e2 e3 e4
  obtain ⟨o, a1, a2⟩ := p_at h1 x1 x2
  have mX := c_X10_at l D k ax xLen xHits xUns xItems xLost xKind xSize xLet xRel xLim xOpen xMeas xSL xST xSD xSK xTal xKn xFT xFA xFE (nI p) (nI T) xFind x1 x2 a1
  have mM := c_X11_at l D k am mSizes mSigns (nI p) (nI T) mTyped mText mAt mFault mTests mTN mTS mTV mTB mRead mUns mUM mBA mBH mThere mTypes mHeld mItems mMoved xFind x1 x2 a2
  exact ⟨_, _, _, Or.inl ⟨mX, rfl⟩, Or.inl ⟨mM, rfl⟩, RW_mk ⟨h1, h2, rfl, tx, mm, T, p, hT, hp, rfl, rfl, rfl, rfl, h4, h5⟩⟩
theorem s_set (hN : 40000 ≤ N) (hR : RW k ax am WX WM) (x1 x2 : Int32) : ∃ (r : Int32) (WX' WM' : va_W), cI l yX10_set wo_X10_set 1 zb zv D k [.ref (ax 0), .int x1, .int x2] WX r WX' ∧ cI l yX11_set wo_X11_set 1 zb zv D k [.ref (am 0), .int x1, .int x2] WM r WM' ∧ RW k ax am WX' WM' := by
  refine RW_elim (C := fun WX WM => ∃ (r : Int32) (WX' WM' : va_W), cI l yX10_set wo_X10_set 1 zb zv D k [.ref (ax 0), .int x1, .int x2] WX r WX' ∧ cI l yX11_set wo_X11_set 1 zb zv D k [.ref (am 0), .int x1, .int x2] WM r WM' ∧ RW k ax am WX' WM') hR ?_
  intro xLen xHits xUns xItems xLost xKind xSize xLet xRel xLim xOpen xMeas xSL xST xSD xSK xTal xKn xFT xFA xFE xOdds xPat xFind mSizes mSigns mOdds mPat mTyped mText mAt mFault mTests mTN mTS mTV mTB mRead mUns mUM mBA mBH mThere mTypes mHeld mItems mMoved mFind h0
  obtain ⟨h1, h2, h3, tx, mm, T, p, hT, hp, e1, e2, e3, e4, h4, h5⟩ := h0
  subst h3 e1 e2 e3 e4
  obtain ⟨r, od, pt, kn, a1, a2, ⟨⟨p2, b1, b2, rfl⟩, ⟨T2, b3, b4, rfl⟩⟩, a4⟩ := p_set (N := N) (by omega) (od := nI p) (pt := nI T) ⟨⟨p, hp.1, hp.2, rfl⟩, ⟨T, hT.1, by omega, rfl⟩⟩ xKn x1 x2
  have hS : RSn tx mm T2 xTal kn := by
    rcases a4 with ⟨c1, c2⟩ | c1
    · have c3 : T2 = T := (nI_eq (by omega) (by omega)).mp c2
      rw [c1, c3]
      exact h5
    · exact fun n hn => Or.inl (c1 n hn)
  have mX := c_X10_set l D k ax xLen xHits xUns xItems xLost xKind xSize xLet xRel xLim xOpen xMeas xSL xST xSD xSK xTal xKn xFT xFA xFE (nI p) (nI T) xFind x1 x2 a1
  have mM := c_X11_set l D k am mSizes mSigns (nI p) (nI T) mTyped mText mAt mFault mTests mTN mTS mTV mTB mRead mUns mUM mBA mBH mThere mTypes mHeld mItems mMoved xFind x1 x2 a2
  exact ⟨_, _, _, Or.inr (Or.inl mX), Or.inr (Or.inl mM), RW_mk ⟨h1, h2, rfl, tx, mm, T2, p2, ⟨b3, by omega⟩, ⟨b1, b2⟩, rfl, rfl, rfl, rfl, h4, hS⟩⟩
theorem s_shows (hN : 40000 ≤ N) (hR : RW k ax am WX WM) (x1 x2 : Int32) : ∃ (r : Int32) (WX' WM' : va_W), cI l yX10_shows wo_X10_shows 4 zb zv D k [.ref (ax 0), .int x1, .int x2] WX r WX' ∧ cI l yX11_shows wo_X11_shows 4 zb zv D k [.ref (am 0), .int x1, .int x2] WM r WM' ∧ RW k ax am WX' WM' := by
  refine RW_elim (C := fun WX WM => ∃ (r : Int32) (WX' WM' : va_W), cI l yX10_shows wo_X10_shows 4 zb zv D k [.ref (ax 0), .int x1, .int x2] WX r WX' ∧ cI l yX11_shows wo_X11_shows 4 zb zv D k [.ref (am 0), .int x1, .int x2] WM r WM' ∧ RW k ax am WX' WM') hR ?_
  intro xLen xHits xUns xItems xLost xKind xSize xLet xRel xLim xOpen xMeas xSL xST xSD xSK xTal xKn xFT xFA xFE xOdds xPat xFind mSizes mSigns mOdds mPat mTyped mText mAt mFault mTests mTN mTS mTV mTB mRead mUns mUM mBA mBH mThere mTypes mHeld mItems mMoved mFind h0
  obtain ⟨h1, h2, h3, tx, mm, T, p, hT, hp, e1, e2, e3, e4, h4, h5⟩ := h0
  subst h3 e1 e2 e3 e4
  obtain ⟨o, a1, a2⟩ := p_shows (N := N) (by omega) h1 hT x1 x2
  have mX := c_X10_shows l D k ax xLen xHits xUns xItems xLost xKind xSize xLet xRel xLim xOpen xMeas xSL xST xSD xSK xTal xKn xFT xFA xFE (nI p) (nI T) xFind x1 x2 a1
  have mM := c_X11_shows l D k am mSizes mSigns (nI p) (nI T) mTyped mText mAt mFault mTests mTN mTS mTV mTB mRead mUns mUM mBA mBH mThere mTypes mHeld mItems mMoved xFind x1 x2 a2
  exact ⟨_, _, _, Or.inl ⟨mX, rfl⟩, Or.inl ⟨mM, rfl⟩, RW_mk ⟨h1, h2, rfl, tx, mm, T, p, hT, hp, rfl, rfl, rfl, rfl, h4, h5⟩⟩
theorem s_type (hN : 40000 ≤ N) (hR : RW k ax am WX WM) (x1 : Int32) : ∃ (r : Int32) (WX' WM' : va_W), cI l yX10_type wo_X10_type 7 zb zv D k [.ref (ax 0), .int x1] WX r WX' ∧ cI l yX11_type wo_X11_type 1 zb zv D k [.ref (am 0), .int x1] WM r WM' ∧ RW k ax am WX' WM' := by
  refine RW_elim (C := fun WX WM => ∃ (r : Int32) (WX' WM' : va_W), cI l yX10_type wo_X10_type 7 zb zv D k [.ref (ax 0), .int x1] WX r WX' ∧ cI l yX11_type wo_X11_type 1 zb zv D k [.ref (am 0), .int x1] WM r WM' ∧ RW k ax am WX' WM') hR ?_
  intro xLen xHits xUns xItems xLost xKind xSize xLet xRel xLim xOpen xMeas xSL xST xSD xSK xTal xKn xFT xFA xFE xOdds xPat xFind mSizes mSigns mOdds mPat mTyped mText mAt mFault mTests mTN mTS mTV mTB mRead mUns mUM mBA mBH mThere mTypes mHeld mItems mMoved mFind h0
  obtain ⟨h1, h2, h3, tx, mm, T, p, hT, hp, e1, e2, e3, e4, h4, h5⟩ := h0
  subst h3 e1 e2 e3 e4
  obtain ⟨⟨o1, o2⟩, ⟨q1, q2⟩, tx2, m2, a1, a2, a3, a4, a5⟩ := p_type (N := N) (by omega) h4 xKn x1
  have a3 : o1 = q1 := a3
  subst a3
  have hS : RSn tx2 m2 T xTal o2.2.2.2.2.2.2.2.2 := by
    rcases a5 with ⟨c1, c2, c3⟩ | c1
    · have c1 : o2.2.2.2.2.2.2.2.2 = xKn := c1
      rw [c1, c2, c3]
      exact h5
    · exact fun n hn => Or.inl (c1 n hn)
  have mX := c_X10_type l D k ax xLen xHits xUns xItems xLost xKind xSize xLet xRel xLim xOpen xMeas xSL xST xSD xSK xTal xKn xFT xFA xFE (nI p) (nI T) xFind zb zv x1 a1
  have mM := c_X11_type l D k am mSizes mSigns (nI p) (nI T) mTyped mText mAt mFault mTests mTN mTS mTV mTB mRead mUns mUM mBA mBH mThere mTypes mHeld mItems mMoved xFind x1 a2
  exact ⟨_, _, _, Or.inr (Or.inr mX), Or.inr (Or.inl mM), RW_mk ⟨h1, h2, rfl, tx2, m2, T, p, hT, hp, rfl, rfl, rfl, rfl, a4, hS⟩⟩
theorem s_wipe (hN : 40000 ≤ N) (hR : RW k ax am WX WM) : ∃ (r : Int32) (WX' WM' : va_W), cI l yX10_wipe wo_X10_wipe 1 zb zv D k [.ref (ax 0)] WX r WX' ∧ cI l yX11_wipe wo_X11_wipe 0 zb zv D k [.ref (am 0)] WM r WM' ∧ RW k ax am WX' WM' := by
  refine RW_elim (C := fun WX WM => ∃ (r : Int32) (WX' WM' : va_W), cI l yX10_wipe wo_X10_wipe 1 zb zv D k [.ref (ax 0)] WX r WX' ∧ cI l yX11_wipe wo_X11_wipe 0 zb zv D k [.ref (am 0)] WM r WM' ∧ RW k ax am WX' WM') hR ?_
  intro xLen xHits xUns xItems xLost xKind xSize xLet xRel xLim xOpen xMeas xSL xST xSD xSK xTal xKn xFT xFA xFE xOdds xPat xFind mSizes mSigns mOdds mPat mTyped mText mAt mFault mTests mTN mTS mTV mTB mRead mUns mUM mBA mBH mThere mTypes mHeld mItems mMoved mFind h0
  obtain ⟨h1, h2, h3, tx, mm, T, p, hT, hp, e1, e2, e3, e4, h4, h5⟩ := h0
  subst h3 e1 e2 e3 e4
  obtain ⟨⟨o1, o2⟩, ⟨q1, q2⟩, a1, a2, a3, a4, a5⟩ := p_wipe (N := N) (by omega) h4 xKn
  have a3 : o1 = q1 := a3
  subst a3
  have mX := c_X10_wipe l D k ax xLen xHits xUns xItems xLost xKind xSize xLet xRel xLim xOpen xMeas xSL xST xSD xSK xTal xKn xFT xFA xFE (nI p) (nI T) xFind a1
  have mM := c_X11_wipe l D k am mSizes mSigns (nI p) (nI T) mTyped mText mAt mFault mTests mTN mTS mTV mTB mRead mUns mUM mBA mBH mThere mTypes mHeld mItems mMoved xFind a2
  exact ⟨_, _, _, Or.inr (Or.inl mX), Or.inr (Or.inl mM), RW_mk ⟨h1, h2, rfl, tx, 0, T, p, hT, hp, rfl, rfl, rfl, rfl, a4, fun n hn => Or.inl (a5 n hn)⟩⟩
theorem s_fault (hN : 40000 ≤ N) (hR : RW k ax am WX WM) : ∃ (r : Int32) (WX' WM' : va_W), cI l yX10_fault wo_X10_fault 1 zb zv D k [.ref (ax 0)] WX r WX' ∧ cI l yX11_fault wo_X11_fault 3 zb zv D k [.ref (am 0)] WM r WM' ∧ RW k ax am WX' WM' := by
  refine RW_elim (C := fun WX WM => ∃ (r : Int32) (WX' WM' : va_W), cI l yX10_fault wo_X10_fault 1 zb zv D k [.ref (ax 0)] WX r WX' ∧ cI l yX11_fault wo_X11_fault 3 zb zv D k [.ref (am 0)] WM r WM' ∧ RW k ax am WX' WM') hR ?_
  intro xLen xHits xUns xItems xLost xKind xSize xLet xRel xLim xOpen xMeas xSL xST xSD xSK xTal xKn xFT xFA xFE xOdds xPat xFind mSizes mSigns mOdds mPat mTyped mText mAt mFault mTests mTN mTS mTV mTB mRead mUns mUM mBA mBH mThere mTypes mHeld mItems mMoved mFind h0
  obtain ⟨h1, h2, h3, tx, mm, T, p, hT, hp, e1, e2, e3, e4, h4, h5⟩ := h0
  subst h3 e1 e2 e3 e4
  obtain ⟨o1, ⟨q1, q2⟩, a1, a2, a3, a4⟩ := p_fault (N := N) (by omega) h4 mAt
  have a3 : o1 = q1 := a3
  subst a3
  have mX := c_X10_fault l D k ax xLen xHits xUns xItems xLost xKind xSize xLet xRel xLim xOpen xMeas xSL xST xSD xSK xTal xKn xFT xFA xFE (nI p) (nI T) xFind a1
  have mM := c_X11_fault l D k am mSizes mSigns (nI p) (nI T) mTyped mText mAt mFault mTests mTN mTS mTV mTB mRead mUns mUM mBA mBH mThere mTypes mHeld mItems mMoved xFind a2
  exact ⟨_, _, _, Or.inl ⟨mX, rfl⟩, Or.inr (Or.inl mM), RW_mk ⟨h1, h2, rfl, tx, mm, T, p, hT, hp, rfl, rfl, rfl, rfl, a4, h5⟩⟩
theorem s_holds (hN : 40000 ≤ N) (hR : RW k ax am WX WM) (x1 : Int32) : ∃ (r : Int32) (WX' WM' : va_W), cI l yX10_holds wo_X10_holds 4 zb zv D k [.ref (ax 0), .int x1] WX r WX' ∧ cI l yX11_holds wo_X11_holds 4 zb zv D k [.ref (am 0), .int x1] WM r WM' ∧ RW k ax am WX' WM' := by
  refine RW_elim (C := fun WX WM => ∃ (r : Int32) (WX' WM' : va_W), cI l yX10_holds wo_X10_holds 4 zb zv D k [.ref (ax 0), .int x1] WX r WX' ∧ cI l yX11_holds wo_X11_holds 4 zb zv D k [.ref (am 0), .int x1] WM r WM' ∧ RW k ax am WX' WM') hR ?_
  intro xLen xHits xUns xItems xLost xKind xSize xLet xRel xLim xOpen xMeas xSL xST xSD xSK xTal xKn xFT xFA xFE xOdds xPat xFind mSizes mSigns mOdds mPat mTyped mText mAt mFault mTests mTN mTS mTV mTB mRead mUns mUM mBA mBH mThere mTypes mHeld mItems mMoved mFind h0
  obtain ⟨h1, h2, h3, tx, mm, T, p, hT, hp, e1, e2, e3, e4, h4, h5⟩ := h0
  subst h3 e1 e2 e3 e4
  obtain ⟨⟨o1, o2⟩, ⟨q1, q2⟩, a1, a2, a3, a4⟩ := p_holds (N := N) (by omega) h1 hT h4 mAt xMeas x1
  have a3 : o1 = q1 := a3
  subst a3
  have mX := c_X10_holds l D k ax xLen xHits xUns xItems xLost xKind xSize xLet xRel xLim xOpen xMeas xSL xST xSD xSK xTal xKn xFT xFA xFE (nI p) (nI T) xFind x1 a1
  have mM := c_X11_holds l D k am mSizes mSigns (nI p) (nI T) mTyped mText mAt mFault mTests mTN mTS mTV mTB mRead mUns mUM mBA mBH mThere mTypes mHeld mItems mMoved xFind x1 a2
  exact ⟨_, _, _, Or.inr (Or.inl mX), Or.inr (Or.inl mM), RW_mk ⟨h1, h2, rfl, tx, mm, T, p, hT, hp, rfl, rfl, rfl, rfl, a4, h5⟩⟩
theorem s_shown (hN : 40000 ≤ N) (hR : RW k ax am WX WM) (x1 x2 : Int32) : ∃ (r : Int32) (WX' WM' : va_W), cI l yX10_shown wo_X10_shown 5 zb zv D k [.ref (ax 0), .int x1, .int x2] WX r WX' ∧ cI l yX11_shown wo_X11_shown 5 zb zv D k [.ref (am 0), .int x1, .int x2] WM r WM' ∧ RW k ax am WX' WM' := by
  refine RW_elim (C := fun WX WM => ∃ (r : Int32) (WX' WM' : va_W), cI l yX10_shown wo_X10_shown 5 zb zv D k [.ref (ax 0), .int x1, .int x2] WX r WX' ∧ cI l yX11_shown wo_X11_shown 5 zb zv D k [.ref (am 0), .int x1, .int x2] WM r WM' ∧ RW k ax am WX' WM') hR ?_
  intro xLen xHits xUns xItems xLost xKind xSize xLet xRel xLim xOpen xMeas xSL xST xSD xSK xTal xKn xFT xFA xFE xOdds xPat xFind mSizes mSigns mOdds mPat mTyped mText mAt mFault mTests mTN mTS mTV mTB mRead mUns mUM mBA mBH mThere mTypes mHeld mItems mMoved mFind h0
  obtain ⟨h1, h2, h3, tx, mm, T, p, hT, hp, e1, e2, e3, e4, h4, h5⟩ := h0
  subst h3 e1 e2 e3 e4
  obtain ⟨⟨o1, o2⟩, ⟨q1, q2⟩, a1, a2, a3, a4, a5⟩ := p_shown hN hT h4 h5 mAt xMeas x1 x2
  have a3 : o1 = q1 := a3
  subst a3
  have mX := c_X10_shown l D k ax xLen xHits xUns xItems xLost xKind xSize xLet xRel xLim xOpen xMeas xSL xST xSD xSK xTal xKn xFT xFA xFE (nI p) (nI T) xFind x1 x2 a1
  have mM := c_X11_shown l D k am mSizes mSigns (nI p) (nI T) mTyped mText mAt mFault mTests mTN mTS mTV mTB mRead mUns mUM mBA mBH mThere mTypes mHeld mItems mMoved xFind x1 x2 a2
  exact ⟨_, _, _, Or.inr (Or.inl mX), Or.inr (Or.inl mM), RW_mk ⟨h1, h2, rfl, tx, mm, T, p, hT, hp, rfl, rfl, rfl, rfl, a4, a5⟩⟩
theorem s_nth (hN : 40000 ≤ N) (hR : RW k ax am WX WM) (x1 x2 : Int32) : ∃ (r : Int32) (WX' WM' : va_W), cI l yX10_nth wo_X10_nth 4 zb zv D k [.ref (ax 0), .int x1, .int x2] WX r WX' ∧ cI l yX11_nth wo_X11_nth 4 zb zv D k [.ref (am 0), .int x1, .int x2] WM r WM' ∧ RW k ax am WX' WM' := by
  refine RW_elim (C := fun WX WM => ∃ (r : Int32) (WX' WM' : va_W), cI l yX10_nth wo_X10_nth 4 zb zv D k [.ref (ax 0), .int x1, .int x2] WX r WX' ∧ cI l yX11_nth wo_X11_nth 4 zb zv D k [.ref (am 0), .int x1, .int x2] WM r WM' ∧ RW k ax am WX' WM') hR ?_
  intro xLen xHits xUns xItems xLost xKind xSize xLet xRel xLim xOpen xMeas xSL xST xSD xSK xTal xKn xFT xFA xFE xOdds xPat xFind mSizes mSigns mOdds mPat mTyped mText mAt mFault mTests mTN mTS mTV mTB mRead mUns mUM mBA mBH mThere mTypes mHeld mItems mMoved mFind h0
  obtain ⟨h1, h2, h3, tx, mm, T, p, hT, hp, e1, e2, e3, e4, h4, h5⟩ := h0
  subst h3 e1 e2 e3 e4
  obtain ⟨⟨o1, o2⟩, ⟨q1, q2⟩, a1, a2, a3, a4⟩ := p_nth hN hT h4 mAt xMeas x1 x2
  have a3 : o1 = q1 := a3
  subst a3
  have mX := c_X10_nth l D k ax xLen xHits xUns xItems xLost xKind xSize xLet xRel xLim xOpen xMeas xSL xST xSD xSK xTal xKn xFT xFA xFE (nI p) (nI T) xFind x1 x2 a1
  have mM := c_X11_nth l D k am mSizes mSigns (nI p) (nI T) mTyped mText mAt mFault mTests mTN mTS mTV mTB mRead mUns mUM mBA mBH mThere mTypes mHeld mItems mMoved xFind x1 x2 a2
  exact ⟨_, _, _, Or.inr (Or.inl mX), Or.inr (Or.inl mM), RW_mk ⟨h1, h2, rfl, tx, mm, T, p, hT, hp, rfl, rfl, rfl, rfl, a4, h5⟩⟩
theorem s_share (hN : 40000 ≤ N) (hR : RW k ax am WX WM) (x1 x2 : Int32) : ∃ (r : Int64) (WX' WM' : va_W), cL l yX10_share wo_X10_share 5 D k [.ref (ax 0), .int x1, .int x2] WX r WX' ∧ cL l yX11_share wo_X11_share 4 D k [.ref (am 0), .int x1, .int x2] WM r WM' ∧ RW k ax am WX' WM' := by
  refine RW_elim (C := fun WX WM => ∃ (r : Int64) (WX' WM' : va_W), cL l yX10_share wo_X10_share 5 D k [.ref (ax 0), .int x1, .int x2] WX r WX' ∧ cL l yX11_share wo_X11_share 4 D k [.ref (am 0), .int x1, .int x2] WM r WM' ∧ RW k ax am WX' WM') hR ?_
  intro xLen xHits xUns xItems xLost xKind xSize xLet xRel xLim xOpen xMeas xSL xST xSD xSK xTal xKn xFT xFA xFE xOdds xPat xFind mSizes mSigns mOdds mPat mTyped mText mAt mFault mTests mTN mTS mTV mTB mRead mUns mUM mBA mBH mThere mTypes mHeld mItems mMoved mFind h0
  obtain ⟨h1, h2, h3, tx, mm, T, p, hT, hp, e1, e2, e3, e4, h4, h5⟩ := h0
  subst h3 e1 e2 e3 e4
  obtain ⟨⟨o1, o2⟩, ⟨q1, q2⟩, a1, a2, a3, a4, a5⟩ := p_share hN hT hp h4 h5 mAt xMeas x1 x2
  have a3 : o1 = q1 := a3
  subst a3
  have mX := c_X10_share l D k ax xLen xHits xUns xItems xLost xKind xSize xLet xRel xLim xOpen xMeas xSL xST xSD xSK xTal xKn xFT xFA xFE (nI p) (nI T) xFind x1 x2 a1
  have mM := c_X11_share l D k am mSizes mSigns (nI p) (nI T) mTyped mText mAt mFault mTests mTN mTS mTV mTB mRead mUns mUM mBA mBH mThere mTypes mHeld mItems mMoved xFind x1 x2 a2
  exact ⟨_, _, _, Or.inr mX, Or.inr mM, RW_mk ⟨h1, h2, rfl, tx, mm, T, p, hT, hp, rfl, rfl, rfl, rfl, a4, a5⟩⟩
theorem s_fills (hN : 40000 ≤ N) (hR : RW k ax am WX WM) (x1 x2 : Int32) : ∃ (r : Int32) (WX' WM' : va_W), cI l yX10_fills wo_X10_fills 5 zb zv D k [.ref (ax 0), .int x1, .int x2] WX r WX' ∧ cI l yX11_fills wo_X11_fills 4 zb zv D k [.ref (am 0), .int x1, .int x2] WM r WM' ∧ RW k ax am WX' WM' := by
  refine RW_elim (C := fun WX WM => ∃ (r : Int32) (WX' WM' : va_W), cI l yX10_fills wo_X10_fills 5 zb zv D k [.ref (ax 0), .int x1, .int x2] WX r WX' ∧ cI l yX11_fills wo_X11_fills 4 zb zv D k [.ref (am 0), .int x1, .int x2] WM r WM' ∧ RW k ax am WX' WM') hR ?_
  intro xLen xHits xUns xItems xLost xKind xSize xLet xRel xLim xOpen xMeas xSL xST xSD xSK xTal xKn xFT xFA xFE xOdds xPat xFind mSizes mSigns mOdds mPat mTyped mText mAt mFault mTests mTN mTS mTV mTB mRead mUns mUM mBA mBH mThere mTypes mHeld mItems mMoved mFind h0
  obtain ⟨h1, h2, h3, tx, mm, T, p, hT, hp, e1, e2, e3, e4, h4, h5⟩ := h0
  subst h3 e1 e2 e3 e4
  obtain ⟨⟨o1, o2⟩, ⟨q1, q2⟩, a1, a2, a3, a4⟩ := p_fills hN h1 hT h4 mAt xMeas xFT mUns xFA xFE mUM x1 x2
  have a3 : o1 = q1 := a3
  subst a3
  have mX := c_X10_fills l D k ax xLen xHits xUns xItems xLost xKind xSize xLet xRel xLim xOpen xMeas xSL xST xSD xSK xTal xKn xFT xFA xFE (nI p) (nI T) xFind x1 x2 a1
  have mM := c_X11_fills l D k am mSizes mSigns (nI p) (nI T) mTyped mText mAt mFault mTests mTN mTS mTV mTB mRead mUns mUM mBA mBH mThere mTypes mHeld mItems mMoved xFind x1 x2 a2
  exact ⟨_, _, _, Or.inr (Or.inl mX), Or.inr (Or.inl mM), RW_mk ⟨h1, h2, rfl, tx, mm, T, p, hT, hp, rfl, rfl, rfl, rfl, a4, h5⟩⟩
theorem s_filled (hN : 40000 ≤ N) (hR : RW k ax am WX WM) (x1 x2 : Int32) : ∃ (r : Int64) (WX' WM' : va_W), cL l yX10_filled wo_X10_filled 5 D k [.ref (ax 0), .int x1, .int x2] WX r WX' ∧ cL l yX11_filled wo_X11_filled 4 D k [.ref (am 0), .int x1, .int x2] WM r WM' ∧ RW k ax am WX' WM' := by
  refine RW_elim (C := fun WX WM => ∃ (r : Int64) (WX' WM' : va_W), cL l yX10_filled wo_X10_filled 5 D k [.ref (ax 0), .int x1, .int x2] WX r WX' ∧ cL l yX11_filled wo_X11_filled 4 D k [.ref (am 0), .int x1, .int x2] WM r WM' ∧ RW k ax am WX' WM') hR ?_
  intro xLen xHits xUns xItems xLost xKind xSize xLet xRel xLim xOpen xMeas xSL xST xSD xSK xTal xKn xFT xFA xFE xOdds xPat xFind mSizes mSigns mOdds mPat mTyped mText mAt mFault mTests mTN mTS mTV mTB mRead mUns mUM mBA mBH mThere mTypes mHeld mItems mMoved mFind h0
  obtain ⟨h1, h2, h3, tx, mm, T, p, hT, hp, e1, e2, e3, e4, h4, h5⟩ := h0
  subst h3 e1 e2 e3 e4
  obtain ⟨⟨o1, o2⟩, ⟨q1, q2⟩, a1, a2, a3, a4⟩ := p_filled hN h1 hT hp h4 mAt xMeas xFT mUns xFA xFE mUM x1 x2
  have a3 : o1 = q1 := a3
  subst a3
  have mX := c_X10_filled l D k ax xLen xHits xUns xItems xLost xKind xSize xLet xRel xLim xOpen xMeas xSL xST xSD xSK xTal xKn xFT xFA xFE (nI p) (nI T) xFind x1 x2 a1
  have mM := c_X11_filled l D k am mSizes mSigns (nI p) (nI T) mTyped mText mAt mFault mTests mTN mTS mTV mTB mRead mUns mUM mBA mBH mThere mTypes mHeld mItems mMoved xFind x1 x2 a2
  exact ⟨_, _, _, Or.inr mX, Or.inr mM, RW_mk ⟨h1, h2, rfl, tx, mm, T, p, hT, hp, rfl, rfl, rfl, rfl, a4, h5⟩⟩
theorem s_sure (hN : 40000 ≤ N) (hR : RW k ax am WX WM) (x1 x2 : Int32) : ∃ (r : Int32) (WX' WM' : va_W), cI l yX10_sure wo_X10_sure 5 zb zv D k [.ref (ax 0), .int x1, .int x2] WX r WX' ∧ cI l yX11_sure wo_X11_sure 4 zb zv D k [.ref (am 0), .int x1, .int x2] WM r WM' ∧ RW k ax am WX' WM' := by
  refine RW_elim (C := fun WX WM => ∃ (r : Int32) (WX' WM' : va_W), cI l yX10_sure wo_X10_sure 5 zb zv D k [.ref (ax 0), .int x1, .int x2] WX r WX' ∧ cI l yX11_sure wo_X11_sure 4 zb zv D k [.ref (am 0), .int x1, .int x2] WM r WM' ∧ RW k ax am WX' WM') hR ?_
  intro xLen xHits xUns xItems xLost xKind xSize xLet xRel xLim xOpen xMeas xSL xST xSD xSK xTal xKn xFT xFA xFE xOdds xPat xFind mSizes mSigns mOdds mPat mTyped mText mAt mFault mTests mTN mTS mTV mTB mRead mUns mUM mBA mBH mThere mTypes mHeld mItems mMoved mFind h0
  obtain ⟨h1, h2, h3, tx, mm, T, p, hT, hp, e1, e2, e3, e4, h4, h5⟩ := h0
  subst h3 e1 e2 e3 e4
  obtain ⟨⟨o1, o2⟩, ⟨q1, q2⟩, a1, a2, a3, a4⟩ := p_sure hN h1 hT h4 mAt xMeas xFT mUns xFA xFE mUM x1 x2
  have a3 : o1 = q1 := a3
  subst a3
  have mX := c_X10_sure l D k ax xLen xHits xUns xItems xLost xKind xSize xLet xRel xLim xOpen xMeas xSL xST xSD xSK xTal xKn xFT xFA xFE (nI p) (nI T) xFind x1 x2 a1
  have mM := c_X11_sure l D k am mSizes mSigns (nI p) (nI T) mTyped mText mAt mFault mTests mTN mTS mTV mTB mRead mUns mUM mBA mBH mThere mTypes mHeld mItems mMoved xFind x1 x2 a2
  exact ⟨_, _, _, Or.inr (Or.inl mX), Or.inr (Or.inl mM), RW_mk ⟨h1, h2, rfl, tx, mm, T, p, hT, hp, rfl, rfl, rfl, rfl, a4, h5⟩⟩
theorem s_dealt (hN : 40000 ≤ N) (hR : RW k ax am WX WM) (x1 x2 x3 : Int32) : ∃ (r : Int32) (WX' WM' : va_W), cI l yX10_dealt wo_X10_dealt 5 zb zv D k [.ref (ax 0), .int x1, .int x2, .int x3] WX r WX' ∧ cI l yX11_dealt wo_X11_dealt 4 zb zv D k [.ref (am 0), .int x1, .int x2, .int x3] WM r WM' ∧ RW k ax am WX' WM' := by
  refine RW_elim (C := fun WX WM => ∃ (r : Int32) (WX' WM' : va_W), cI l yX10_dealt wo_X10_dealt 5 zb zv D k [.ref (ax 0), .int x1, .int x2, .int x3] WX r WX' ∧ cI l yX11_dealt wo_X11_dealt 4 zb zv D k [.ref (am 0), .int x1, .int x2, .int x3] WM r WM' ∧ RW k ax am WX' WM') hR ?_
  intro xLen xHits xUns xItems xLost xKind xSize xLet xRel xLim xOpen xMeas xSL xST xSD xSK xTal xKn xFT xFA xFE xOdds xPat xFind mSizes mSigns mOdds mPat mTyped mText mAt mFault mTests mTN mTS mTV mTB mRead mUns mUM mBA mBH mThere mTypes mHeld mItems mMoved mFind h0
  obtain ⟨h1, h2, h3, tx, mm, T, p, hT, hp, e1, e2, e3, e4, h4, h5⟩ := h0
  subst h3 e1 e2 e3 e4
  obtain ⟨o, a1, a2⟩ := p_dealt hN h1 hT x1 x2 x3
  have mX := c_X10_dealt l D k ax xLen xHits xUns xItems xLost xKind xSize xLet xRel xLim xOpen xMeas xSL xST xSD xSK xTal xKn xFT xFA xFE (nI p) (nI T) xFind x1 x2 x3 a1
  have mM := c_X11_dealt l D k am mSizes mSigns (nI p) (nI T) mTyped mText mAt mFault mTests mTN mTS mTV mTB mRead mUns mUM mBA mBH mThere mTypes mHeld mItems mMoved xFind x1 x2 x3 a2
  exact ⟨_, _, _, Or.inl ⟨mX, rfl⟩, Or.inl ⟨mM, rfl⟩, RW_mk ⟨h1, h2, rfl, tx, mm, T, p, hT, hp, rfl, rfl, rfl, rfl, h4, h5⟩⟩
theorem s_strangest (hN : 40000 ≤ N) (hR : RW k ax am WX WM) (x1 : Int32) : ∃ (r : Int32) (WX' WM' : va_W), cI l yX10_strangest wo_X10_strangest 5 zb zv D k [.ref (ax 0), .int x1] WX r WX' ∧ cI l yX11_strangest wo_X11_strangest 4 zb zv D k [.ref (am 0), .int x1] WM r WM' ∧ RW k ax am WX' WM' := by
  refine RW_elim (C := fun WX WM => ∃ (r : Int32) (WX' WM' : va_W), cI l yX10_strangest wo_X10_strangest 5 zb zv D k [.ref (ax 0), .int x1] WX r WX' ∧ cI l yX11_strangest wo_X11_strangest 4 zb zv D k [.ref (am 0), .int x1] WM r WM' ∧ RW k ax am WX' WM') hR ?_
  intro xLen xHits xUns xItems xLost xKind xSize xLet xRel xLim xOpen xMeas xSL xST xSD xSK xTal xKn xFT xFA xFE xOdds xPat xFind mSizes mSigns mOdds mPat mTyped mText mAt mFault mTests mTN mTS mTV mTB mRead mUns mUM mBA mBH mThere mTypes mHeld mItems mMoved mFind h0
  obtain ⟨h1, h2, h3, tx, mm, T, p, hT, hp, e1, e2, e3, e4, h4, h5⟩ := h0
  subst h3 e1 e2 e3 e4
  obtain ⟨o, a1, a2⟩ := p_strangest hN h1 hT x1
  have mX := c_X10_strangest l D k ax xLen xHits xUns xItems xLost xKind xSize xLet xRel xLim xOpen xMeas xSL xST xSD xSK xTal xKn xFT xFA xFE (nI p) (nI T) xFind x1 a1
  have mM := c_X11_strangest l D k am mSizes mSigns (nI p) (nI T) mTyped mText mAt mFault mTests mTN mTS mTV mTB mRead mUns mUM mBA mBH mThere mTypes mHeld mItems mMoved xFind x1 a2
  exact ⟨_, _, _, Or.inl ⟨mX, rfl⟩, Or.inl ⟨mM, rfl⟩, RW_mk ⟨h1, h2, rfl, tx, mm, T, p, hT, hp, rfl, rfl, rfl, rfl, h4, h5⟩⟩
theorem s_hot (hN : 40000 ≤ N) (hR : RW k ax am WX WM) (x1 x2 x3 : Int32) : ∃ (r : Int64) (WX' WM' : va_W), cL l yX10_hot wo_X10_hot 2 D k [.ref (ax 0), .int x1, .int x2, .int x3] WX r WX' ∧ cL l yX11_hot wo_X11_hot 2 D k [.ref (am 0), .int x1, .int x2, .int x3] WM r WM' ∧ RW k ax am WX' WM' := by
  refine RW_elim (C := fun WX WM => ∃ (r : Int64) (WX' WM' : va_W), cL l yX10_hot wo_X10_hot 2 D k [.ref (ax 0), .int x1, .int x2, .int x3] WX r WX' ∧ cL l yX11_hot wo_X11_hot 2 D k [.ref (am 0), .int x1, .int x2, .int x3] WM r WM' ∧ RW k ax am WX' WM') hR ?_
  intro xLen xHits xUns xItems xLost xKind xSize xLet xRel xLim xOpen xMeas xSL xST xSD xSK xTal xKn xFT xFA xFE xOdds xPat xFind mSizes mSigns mOdds mPat mTyped mText mAt mFault mTests mTN mTS mTV mTB mRead mUns mUM mBA mBH mThere mTypes mHeld mItems mMoved mFind h0
  obtain ⟨h1, h2, h3, tx, mm, T, p, hT, hp, e1, e2, e3, e4, h4, h5⟩ := h0
  subst h3 e1 e2 e3 e4
  obtain ⟨o1, ⟨q1, q2⟩, a1, a2, a3⟩ := p_hot hN h1 x1 x2 x3 mBA mBH
  have a3 : o1 = q1 := a3
  subst a3
  have mX := c_X10_hot l D k ax xLen xHits xUns xItems xLost xKind xSize xLet xRel xLim xOpen xMeas xSL xST xSD xSK xTal xKn xFT xFA xFE (nI p) (nI T) xFind x1 x2 x3 a1
  have mM := c_X11_hot l D k am mSizes mSigns (nI p) (nI T) mTyped mText mAt mFault mTests mTN mTS mTV mTB mRead mUns mUM mBA mBH mThere mTypes mHeld mItems mMoved xFind x1 x2 x3 a2
  exact ⟨_, _, _, Or.inl ⟨mX, rfl⟩, Or.inr mM, RW_mk ⟨h1, h2, rfl, tx, mm, T, p, hT, hp, rfl, rfl, rfl, rfl, h4, h5⟩⟩
theorem s_already (hN : 40000 ≤ N) (hR : RW k ax am WX WM) (x1 x2 x3 : Int32) : ∃ (r : Int64) (WX' WM' : va_W), cL l yX10_already wo_X10_already 2 D k [.ref (ax 0), .int x1, .int x2, .int x3] WX r WX' ∧ cL l yX11_already wo_X11_already 2 D k [.ref (am 0), .int x1, .int x2, .int x3] WM r WM' ∧ RW k ax am WX' WM' := by
  refine RW_elim (C := fun WX WM => ∃ (r : Int64) (WX' WM' : va_W), cL l yX10_already wo_X10_already 2 D k [.ref (ax 0), .int x1, .int x2, .int x3] WX r WX' ∧ cL l yX11_already wo_X11_already 2 D k [.ref (am 0), .int x1, .int x2, .int x3] WM r WM' ∧ RW k ax am WX' WM') hR ?_
  intro xLen xHits xUns xItems xLost xKind xSize xLet xRel xLim xOpen xMeas xSL xST xSD xSK xTal xKn xFT xFA xFE xOdds xPat xFind mSizes mSigns mOdds mPat mTyped mText mAt mFault mTests mTN mTS mTV mTB mRead mUns mUM mBA mBH mThere mTypes mHeld mItems mMoved mFind h0
  obtain ⟨h1, h2, h3, tx, mm, T, p, hT, hp, e1, e2, e3, e4, h4, h5⟩ := h0
  subst h3 e1 e2 e3 e4
  obtain ⟨o1, ⟨q1, q2⟩, a1, a2, a3⟩ := p_already hN h1 x1 x2 x3 mBA mBH
  have a3 : o1 = q1 := a3
  subst a3
  have mX := c_X10_already l D k ax xLen xHits xUns xItems xLost xKind xSize xLet xRel xLim xOpen xMeas xSL xST xSD xSK xTal xKn xFT xFA xFE (nI p) (nI T) xFind x1 x2 x3 a1
  have mM := c_X11_already l D k am mSizes mSigns (nI p) (nI T) mTyped mText mAt mFault mTests mTN mTS mTV mTB mRead mUns mUM mBA mBH mThere mTypes mHeld mItems mMoved xFind x1 x2 x3 a2
  exact ⟨_, _, _, Or.inl ⟨mX, rfl⟩, Or.inr mM, RW_mk ⟨h1, h2, rfl, tx, mm, T, p, hT, hp, rfl, rfl, rfl, rfl, h4, h5⟩⟩
theorem s_waits (hN : 40000 ≤ N) (hR : RW k ax am WX WM) (x1 : Int32) : ∃ (r : Int64) (WX' WM' : va_W), cL l yX10_waits wo_X10_waits 3 D k [.ref (ax 0), .int x1] WX r WX' ∧ cL l yX11_waits wo_X11_waits 4 D k [.ref (am 0), .int x1] WM r WM' ∧ RW k ax am WX' WM' := by
  refine RW_elim (C := fun WX WM => ∃ (r : Int64) (WX' WM' : va_W), cL l yX10_waits wo_X10_waits 3 D k [.ref (ax 0), .int x1] WX r WX' ∧ cL l yX11_waits wo_X11_waits 4 D k [.ref (am 0), .int x1] WM r WM' ∧ RW k ax am WX' WM') hR ?_
  intro xLen xHits xUns xItems xLost xKind xSize xLet xRel xLim xOpen xMeas xSL xST xSD xSK xTal xKn xFT xFA xFE xOdds xPat xFind mSizes mSigns mOdds mPat mTyped mText mAt mFault mTests mTN mTS mTV mTB mRead mUns mUM mBA mBH mThere mTypes mHeld mItems mMoved mFind h0
  obtain ⟨h1, h2, h3, tx, mm, T, p, hT, hp, e1, e2, e3, e4, h4, h5⟩ := h0
  subst h3 e1 e2 e3 e4
  obtain ⟨o, a1, a2⟩ := p_waits (N := N) (by omega) hT hp x1
  have mX := c_X10_waits l D k ax xLen xHits xUns xItems xLost xKind xSize xLet xRel xLim xOpen xMeas xSL xST xSD xSK xTal xKn xFT xFA xFE (nI p) (nI T) xFind x1 a1
  have mM := c_X11_waits l D k am mSizes mSigns (nI p) (nI T) mTyped mText mAt mFault mTests mTN mTS mTV mTB mRead mUns mUM mBA mBH mThere mTypes mHeld mItems mMoved xFind x1 a2
  exact ⟨_, _, _, Or.inl ⟨mX, rfl⟩, Or.inl ⟨mM, rfl⟩, RW_mk ⟨h1, h2, rfl, tx, mm, T, p, hT, hp, rfl, rfl, rfl, rfl, h4, h5⟩⟩
theorem s_first (hN : 40000 ≤ N) (hR : RW k ax am WX WM) (x1 x2 x3 : Int32) : ∃ (r : Int64) (WX' WM' : va_W), cL l yX10_first wo_X10_first 3 D k [.ref (ax 0), .int x1, .int x2, .int x3] WX r WX' ∧ cL l yX11_first wo_X11_first 3 D k [.ref (am 0), .int x1, .int x2, .int x3] WM r WM' ∧ RW k ax am WX' WM' := by
  refine RW_elim (C := fun WX WM => ∃ (r : Int64) (WX' WM' : va_W), cL l yX10_first wo_X10_first 3 D k [.ref (ax 0), .int x1, .int x2, .int x3] WX r WX' ∧ cL l yX11_first wo_X11_first 3 D k [.ref (am 0), .int x1, .int x2, .int x3] WM r WM' ∧ RW k ax am WX' WM') hR ?_
  intro xLen xHits xUns xItems xLost xKind xSize xLet xRel xLim xOpen xMeas xSL xST xSD xSK xTal xKn xFT xFA xFE xOdds xPat xFind mSizes mSigns mOdds mPat mTyped mText mAt mFault mTests mTN mTS mTV mTB mRead mUns mUM mBA mBH mThere mTypes mHeld mItems mMoved mFind h0
  obtain ⟨h1, h2, h3, tx, mm, T, p, hT, hp, e1, e2, e3, e4, h4, h5⟩ := h0
  subst h3 e1 e2 e3 e4
  obtain ⟨o, a1, a2⟩ := p_first (N := N) (by omega) hp x1 x2 x3
  have mX := c_X10_first l D k ax xLen xHits xUns xItems xLost xKind xSize xLet xRel xLim xOpen xMeas xSL xST xSD xSK xTal xKn xFT xFA xFE (nI p) (nI T) xFind x1 x2 x3 a1
  have mM := c_X11_first l D k am mSizes mSigns (nI p) (nI T) mTyped mText mAt mFault mTests mTN mTS mTV mTB mRead mUns mUM mBA mBH mThere mTypes mHeld mItems mMoved xFind x1 x2 x3 a2
  exact ⟨_, _, _, Or.inl ⟨mX, rfl⟩, Or.inl ⟨mM, rfl⟩, RW_mk ⟨h1, h2, rfl, tx, mm, T, p, hT, hp, rfl, rfl, rfl, rfl, h4, h5⟩⟩
theorem s_agree (hN : 40000 ≤ N) (hR : RW k ax am WX WM) (x1 x2 x3 : Int32) : ∃ (r : Int32) (WX' WM' : va_W), cI l yX10_agree wo_X10_agree 2 zb zv D k [.ref (ax 0), .int x1, .int x2, .int x3] WX r WX' ∧ cI l yX11_agree wo_X11_agree 2 zb zv D k [.ref (am 0), .int x1, .int x2, .int x3] WM r WM' ∧ RW k ax am WX' WM' := by
  refine RW_elim (C := fun WX WM => ∃ (r : Int32) (WX' WM' : va_W), cI l yX10_agree wo_X10_agree 2 zb zv D k [.ref (ax 0), .int x1, .int x2, .int x3] WX r WX' ∧ cI l yX11_agree wo_X11_agree 2 zb zv D k [.ref (am 0), .int x1, .int x2, .int x3] WM r WM' ∧ RW k ax am WX' WM') hR ?_
  intro xLen xHits xUns xItems xLost xKind xSize xLet xRel xLim xOpen xMeas xSL xST xSD xSK xTal xKn xFT xFA xFE xOdds xPat xFind mSizes mSigns mOdds mPat mTyped mText mAt mFault mTests mTN mTS mTV mTB mRead mUns mUM mBA mBH mThere mTypes mHeld mItems mMoved mFind h0
  obtain ⟨h1, h2, h3, tx, mm, T, p, hT, hp, e1, e2, e3, e4, h4, h5⟩ := h0
  subst h3 e1 e2 e3 e4
  obtain ⟨o, a1, a2⟩ := p_agree hN h1 x1 x2 x3
  have mX := c_X10_agree l D k ax xLen xHits xUns xItems xLost xKind xSize xLet xRel xLim xOpen xMeas xSL xST xSD xSK xTal xKn xFT xFA xFE (nI p) (nI T) xFind x1 x2 x3 a1
  have mM := c_X11_agree l D k am mSizes mSigns (nI p) (nI T) mTyped mText mAt mFault mTests mTN mTS mTV mTB mRead mUns mUM mBA mBH mThere mTypes mHeld mItems mMoved xFind x1 x2 x3 a2
  exact ⟨_, _, _, Or.inl ⟨mX, rfl⟩, Or.inl ⟨mM, rfl⟩, RW_mk ⟨h1, h2, rfl, tx, mm, T, p, hT, hp, rfl, rfl, rfl, rfl, h4, h5⟩⟩
theorem s_twice (hN : 40000 ≤ N) (hR : RW k ax am WX WM) (x1 : Int32) : ∃ (r : Int32) (WX' WM' : va_W), cI l yX10_twice wo_X10_twice 1 zb zv D k [.ref (ax 0), .int x1] WX r WX' ∧ cI l yX11_twice wo_X11_twice 2 zb zv D k [.ref (am 0), .int x1] WM r WM' ∧ RW k ax am WX' WM' := by
  refine RW_elim (C := fun WX WM => ∃ (r : Int32) (WX' WM' : va_W), cI l yX10_twice wo_X10_twice 1 zb zv D k [.ref (ax 0), .int x1] WX r WX' ∧ cI l yX11_twice wo_X11_twice 2 zb zv D k [.ref (am 0), .int x1] WM r WM' ∧ RW k ax am WX' WM') hR ?_
  intro xLen xHits xUns xItems xLost xKind xSize xLet xRel xLim xOpen xMeas xSL xST xSD xSK xTal xKn xFT xFA xFE xOdds xPat xFind mSizes mSigns mOdds mPat mTyped mText mAt mFault mTests mTN mTS mTV mTB mRead mUns mUM mBA mBH mThere mTypes mHeld mItems mMoved mFind h0
  obtain ⟨h1, h2, h3, tx, mm, T, p, hT, hp, e1, e2, e3, e4, h4, h5⟩ := h0
  subst h3 e1 e2 e3 e4
  obtain ⟨o, a1, a2⟩ := p_twice (N := N) (by omega) h1 x1
  have mX := c_X10_twice l D k ax xLen xHits xUns xItems xLost xKind xSize xLet xRel xLim xOpen xMeas xSL xST xSD xSK xTal xKn xFT xFA xFE (nI p) (nI T) xFind x1 a1
  have mM := c_X11_twice l D k am mSizes mSigns (nI p) (nI T) mTyped mText mAt mFault mTests mTN mTS mTV mTB mRead mUns mUM mBA mBH mThere mTypes mHeld mItems mMoved xFind x1 a2
  exact ⟨_, _, _, Or.inl ⟨mX, rfl⟩, Or.inl ⟨mM, rfl⟩, RW_mk ⟨h1, h2, rfl, tx, mm, T, p, hT, hp, rfl, rfl, rfl, rfl, h4, h5⟩⟩
theorem s_next (hN : 40000 ≤ N) (hR : RW k ax am WX WM) (x1 x2 x3 : Int32) : ∃ (r : Int32) (WX' WM' : va_W), cI l yX10_next wo_X10_next 2 zb zv D k [.ref (ax 0), .int x1, .int x2, .int x3] WX r WX' ∧ cI l yX11_next wo_X11_next 2 zb zv D k [.ref (am 0), .int x1, .int x2, .int x3] WM r WM' ∧ RW k ax am WX' WM' := by
  refine RW_elim (C := fun WX WM => ∃ (r : Int32) (WX' WM' : va_W), cI l yX10_next wo_X10_next 2 zb zv D k [.ref (ax 0), .int x1, .int x2, .int x3] WX r WX' ∧ cI l yX11_next wo_X11_next 2 zb zv D k [.ref (am 0), .int x1, .int x2, .int x3] WM r WM' ∧ RW k ax am WX' WM') hR ?_
  intro xLen xHits xUns xItems xLost xKind xSize xLet xRel xLim xOpen xMeas xSL xST xSD xSK xTal xKn xFT xFA xFE xOdds xPat xFind mSizes mSigns mOdds mPat mTyped mText mAt mFault mTests mTN mTS mTV mTB mRead mUns mUM mBA mBH mThere mTypes mHeld mItems mMoved mFind h0
  obtain ⟨h1, h2, h3, tx, mm, T, p, hT, hp, e1, e2, e3, e4, h4, h5⟩ := h0
  subst h3 e1 e2 e3 e4
  obtain ⟨o, a1, a2⟩ := p_next (N := N) (by omega) h1 x1 x2 x3
  have mX := c_X10_next l D k ax xLen xHits xUns xItems xLost xKind xSize xLet xRel xLim xOpen xMeas xSL xST xSD xSK xTal xKn xFT xFA xFE (nI p) (nI T) xFind x1 x2 x3 a1
  have mM := c_X11_next l D k am mSizes mSigns (nI p) (nI T) mTyped mText mAt mFault mTests mTN mTS mTV mTB mRead mUns mUM mBA mBH mThere mTypes mHeld mItems mMoved xFind x1 x2 x3 a2
  exact ⟨_, _, _, Or.inl ⟨mX, rfl⟩, Or.inl ⟨mM, rfl⟩, RW_mk ⟨h1, h2, rfl, tx, mm, T, p, hT, hp, rfl, rfl, rfl, rfl, h4, h5⟩⟩
theorem s_sheet (hN : 40000 ≤ N) (hR : RW k ax am WX WM) (x1 x2 x3 : Int32) : ∃ (r : Int32) (WX' WM' : va_W), cI l yX10_sheet wo_X10_sheet 1 zb zv D k [.ref (ax 0), .int x1, .int x2, .int x3] WX r WX' ∧ cI l yX11_sheet wo_X11_sheet 2 zb zv D k [.ref (am 0), .int x1, .int x2, .int x3] WM r WM' ∧ RW k ax am WX' WM' := by
  refine RW_elim (C := fun WX WM => ∃ (r : Int32) (WX' WM' : va_W), cI l yX10_sheet wo_X10_sheet 1 zb zv D k [.ref (ax 0), .int x1, .int x2, .int x3] WX r WX' ∧ cI l yX11_sheet wo_X11_sheet 2 zb zv D k [.ref (am 0), .int x1, .int x2, .int x3] WM r WM' ∧ RW k ax am WX' WM') hR ?_
  intro xLen xHits xUns xItems xLost xKind xSize xLet xRel xLim xOpen xMeas xSL xST xSD xSK xTal xKn xFT xFA xFE xOdds xPat xFind mSizes mSigns mOdds mPat mTyped mText mAt mFault mTests mTN mTS mTV mTB mRead mUns mUM mBA mBH mThere mTypes mHeld mItems mMoved mFind h0
  obtain ⟨h1, h2, h3, tx, mm, T, p, hT, hp, e1, e2, e3, e4, h4, h5⟩ := h0
  subst h3 e1 e2 e3 e4
  obtain ⟨⟨o1, o2⟩, ⟨q1, q2⟩, a1, a2, a3, a4, a5⟩ := p_sheet (N := N) (by omega) h2 x1 x2 x3 xFind
  have a3 : o1 = q1 := a3
  subst a3
  have mX := c_X10_sheet l D k ax xLen xHits xUns xItems xLost xKind xSize xLet xRel xLim xOpen xMeas xSL xST xSD xSK xTal xKn xFT xFA xFE (nI p) (nI T) xFind x1 x2 x3 a1
  have mM := c_X11_sheet l D k am mSizes mSigns (nI p) (nI T) mTyped mText mAt mFault mTests mTN mTS mTV mTB mRead mUns mUM mBA mBH mThere mTypes mHeld mItems mMoved xFind x1 x2 x3 a2
  exact ⟨_, _, _, Or.inr (Or.inl mX), Or.inr (Or.inl mM), RW_mk ⟨h1, a4, a5, tx, mm, T, p, hT, hp, rfl, rfl, rfl, rfl, h4, h5⟩⟩
theorem s_lose (hN : 40000 ≤ N) (hR : RW k ax am WX WM) (x1 : Int32) : ∃ (r : Int32) (WX' WM' : va_W), cI l yX10_lose wo_X10_lose 1 zb zv D k [.ref (ax 0), .int x1] WX r WX' ∧ cI l yX11_lose wo_X11_lose 2 zb zv D k [.ref (am 0), .int x1] WM r WM' ∧ RW k ax am WX' WM' := by
  refine RW_elim (C := fun WX WM => ∃ (r : Int32) (WX' WM' : va_W), cI l yX10_lose wo_X10_lose 1 zb zv D k [.ref (ax 0), .int x1] WX r WX' ∧ cI l yX11_lose wo_X11_lose 2 zb zv D k [.ref (am 0), .int x1] WM r WM' ∧ RW k ax am WX' WM') hR ?_
  intro xLen xHits xUns xItems xLost xKind xSize xLet xRel xLim xOpen xMeas xSL xST xSD xSK xTal xKn xFT xFA xFE xOdds xPat xFind mSizes mSigns mOdds mPat mTyped mText mAt mFault mTests mTN mTS mTV mTB mRead mUns mUM mBA mBH mThere mTypes mHeld mItems mMoved mFind h0
  obtain ⟨h1, h2, h3, tx, mm, T, p, hT, hp, e1, e2, e3, e4, h4, h5⟩ := h0
  subst h3 e1 e2 e3 e4
  obtain ⟨⟨o1, o2⟩, ⟨q1, q2⟩, a1, a2, a3, a4, a5⟩ := p_lose h2 x1 xFind
  have a3 : o1 = q1 := a3
  subst a3
  have mX := c_X10_lose l D k ax xLen xHits xUns xItems xLost xKind xSize xLet xRel xLim xOpen xMeas xSL xST xSD xSK xTal xKn xFT xFA xFE (nI p) (nI T) xFind x1 a1
  have mM := c_X11_lose l D k am mSizes mSigns (nI p) (nI T) mTyped mText mAt mFault mTests mTN mTS mTV mTB mRead mUns mUM mBA mBH mThere mTypes mHeld mItems mMoved xFind x1 a2
  exact ⟨_, _, _, Or.inr (Or.inl mX), Or.inr (Or.inl mM), RW_mk ⟨h1, a4, a5, tx, mm, T, p, hT, hp, rfl, rfl, rfl, rfl, h4, h5⟩⟩
theorem s_put (hN : 40000 ≤ N) (hR : RW k ax am WX WM) (x1 x2 x3 x4 : Int32) : ∃ (r : Int32) (WX' WM' : va_W), cI l yX10_put wo_X10_put 2 zb zv D k [.ref (ax 0), .int x1, .int x2, .int x3, .int x4] WX r WX' ∧ cI l yX11_put wo_X11_put 2 zb zv D k [.ref (am 0), .int x1, .int x2, .int x3, .int x4] WM r WM' ∧ RW k ax am WX' WM' := by
  refine RW_elim (C := fun WX WM => ∃ (r : Int32) (WX' WM' : va_W), cI l yX10_put wo_X10_put 2 zb zv D k [.ref (ax 0), .int x1, .int x2, .int x3, .int x4] WX r WX' ∧ cI l yX11_put wo_X11_put 2 zb zv D k [.ref (am 0), .int x1, .int x2, .int x3, .int x4] WM r WM' ∧ RW k ax am WX' WM') hR ?_
  intro xLen xHits xUns xItems xLost xKind xSize xLet xRel xLim xOpen xMeas xSL xST xSD xSK xTal xKn xFT xFA xFE xOdds xPat xFind mSizes mSigns mOdds mPat mTyped mText mAt mFault mTests mTN mTS mTV mTB mRead mUns mUM mBA mBH mThere mTypes mHeld mItems mMoved mFind h0
  obtain ⟨h1, h2, h3, tx, mm, T, p, hT, hp, e1, e2, e3, e4, h4, h5⟩ := h0
  subst h3 e1 e2 e3 e4
  obtain ⟨⟨o1, o2⟩, ⟨q1, q2⟩, a1, a2, a3, a4, a5⟩ := p_put h2 x1 x2 x3 x4 xFind
  have a3 : o1 = q1 := a3
  subst a3
  have mX := c_X10_put l D k ax xLen xHits xUns xItems xLost xKind xSize xLet xRel xLim xOpen xMeas xSL xST xSD xSK xTal xKn xFT xFA xFE (nI p) (nI T) xFind x1 x2 x3 x4 a1
  have mM := c_X11_put l D k am mSizes mSigns (nI p) (nI T) mTyped mText mAt mFault mTests mTN mTS mTV mTB mRead mUns mUM mBA mBH mThere mTypes mHeld mItems mMoved xFind x1 x2 x3 x4 a2
  exact ⟨_, _, _, Or.inr (Or.inl mX), Or.inr (Or.inl mM), RW_mk ⟨h1, a4, a5, tx, mm, T, p, hT, hp, rfl, rfl, rfl, rfl, h4, h5⟩⟩
theorem s_get (hN : 40000 ≤ N) (hR : RW k ax am WX WM) (x1 x2 x3 : Int32) : ∃ (r : Int32) (WX' WM' : va_W), cI l yX10_get wo_X10_get 2 zb zv D k [.ref (ax 0), .int x1, .int x2, .int x3] WX r WX' ∧ cI l yX11_get wo_X11_get 2 zb zv D k [.ref (am 0), .int x1, .int x2, .int x3] WM r WM' ∧ RW k ax am WX' WM' := by
  refine RW_elim (C := fun WX WM => ∃ (r : Int32) (WX' WM' : va_W), cI l yX10_get wo_X10_get 2 zb zv D k [.ref (ax 0), .int x1, .int x2, .int x3] WX r WX' ∧ cI l yX11_get wo_X11_get 2 zb zv D k [.ref (am 0), .int x1, .int x2, .int x3] WM r WM' ∧ RW k ax am WX' WM') hR ?_
  intro xLen xHits xUns xItems xLost xKind xSize xLet xRel xLim xOpen xMeas xSL xST xSD xSK xTal xKn xFT xFA xFE xOdds xPat xFind mSizes mSigns mOdds mPat mTyped mText mAt mFault mTests mTN mTS mTV mTB mRead mUns mUM mBA mBH mThere mTypes mHeld mItems mMoved mFind h0
  obtain ⟨h1, h2, h3, tx, mm, T, p, hT, hp, e1, e2, e3, e4, h4, h5⟩ := h0
  subst h3 e1 e2 e3 e4
  obtain ⟨o, a1, a2⟩ := p_get h2 x1 x2 x3 xFind
  have mX := c_X10_get l D k ax xLen xHits xUns xItems xLost xKind xSize xLet xRel xLim xOpen xMeas xSL xST xSD xSK xTal xKn xFT xFA xFE (nI p) (nI T) xFind x1 x2 x3 a1
  have mM := c_X11_get l D k am mSizes mSigns (nI p) (nI T) mTyped mText mAt mFault mTests mTN mTS mTV mTB mRead mUns mUM mBA mBH mThere mTypes mHeld mItems mMoved xFind x1 x2 x3 a2
  exact ⟨_, _, _, Or.inr (Or.inl mX), Or.inr (Or.inl mM), RW_mk ⟨h1, h2, rfl, tx, mm, T, p, hT, hp, rfl, rfl, rfl, rfl, h4, h5⟩⟩
theorem s_copy (hN : 40000 ≤ N) (hR : RW k ax am WX WM) (x1 x2 x3 x4 x5 : Int32) : ∃ (r : Int32) (WX' WM' : va_W), cI l yX10_copy wo_X10_copy 1 zb zv D k [.ref (ax 0), .int x1, .int x2, .int x3, .int x4, .int x5] WX r WX' ∧ cI l yX11_copy wo_X11_copy 2 zb zv D k [.ref (am 0), .int x1, .int x2, .int x3, .int x4, .int x5] WM r WM' ∧ RW k ax am WX' WM' := by
  refine RW_elim (C := fun WX WM => ∃ (r : Int32) (WX' WM' : va_W), cI l yX10_copy wo_X10_copy 1 zb zv D k [.ref (ax 0), .int x1, .int x2, .int x3, .int x4, .int x5] WX r WX' ∧ cI l yX11_copy wo_X11_copy 2 zb zv D k [.ref (am 0), .int x1, .int x2, .int x3, .int x4, .int x5] WM r WM' ∧ RW k ax am WX' WM') hR ?_
  intro xLen xHits xUns xItems xLost xKind xSize xLet xRel xLim xOpen xMeas xSL xST xSD xSK xTal xKn xFT xFA xFE xOdds xPat xFind mSizes mSigns mOdds mPat mTyped mText mAt mFault mTests mTN mTS mTV mTB mRead mUns mUM mBA mBH mThere mTypes mHeld mItems mMoved mFind h0
  obtain ⟨h1, h2, h3, tx, mm, T, p, hT, hp, e1, e2, e3, e4, h4, h5⟩ := h0
  subst h3 e1 e2 e3 e4
  obtain ⟨⟨o1, o2⟩, ⟨q1, q2⟩, a1, a2, a3, a4, a5⟩ := p_copy (N := N) (by omega) h2 mMoved x1 x2 x3 x4 x5 xFind
  have a3 : o1 = q1 := a3
  subst a3
  have mX := c_X10_copy l D k ax xLen xHits xUns xItems xLost xKind xSize xLet xRel xLim xOpen xMeas xSL xST xSD xSK xTal xKn xFT xFA xFE (nI p) (nI T) xFind x1 x2 x3 x4 x5 a1
  have mM := c_X11_copy l D k am mSizes mSigns (nI p) (nI T) mTyped mText mAt mFault mTests mTN mTS mTV mTB mRead mUns mUM mBA mBH mThere mTypes mHeld mItems mMoved xFind x1 x2 x3 x4 x5 a2
  exact ⟨_, _, _, Or.inr (Or.inl mX), Or.inr (Or.inl mM), RW_mk ⟨h1, a4, a5, tx, mm, T, p, hT, hp, rfl, rfl, rfl, rfl, h4, h5⟩⟩
theorem s_write (hN : 40000 ≤ N) (hR : RW k ax am WX WM) (x1 x2 : Int32) : ∃ (r : Int32) (WX' WM' : va_W), cI l yX10_write wo_X10_write 1 zb zv D k [.ref (ax 0), .int x1, .int x2] WX r WX' ∧ cI l yX11_write wo_X11_write 2 zb zv D k [.ref (am 0), .int x1, .int x2] WM r WM' ∧ RW k ax am WX' WM' := by
  refine RW_elim (C := fun WX WM => ∃ (r : Int32) (WX' WM' : va_W), cI l yX10_write wo_X10_write 1 zb zv D k [.ref (ax 0), .int x1, .int x2] WX r WX' ∧ cI l yX11_write wo_X11_write 2 zb zv D k [.ref (am 0), .int x1, .int x2] WM r WM' ∧ RW k ax am WX' WM') hR ?_
  intro xLen xHits xUns xItems xLost xKind xSize xLet xRel xLim xOpen xMeas xSL xST xSD xSK xTal xKn xFT xFA xFE xOdds xPat xFind mSizes mSigns mOdds mPat mTyped mText mAt mFault mTests mTN mTS mTV mTB mRead mUns mUM mBA mBH mThere mTypes mHeld mItems mMoved mFind h0
  obtain ⟨h1, h2, h3, tx, mm, T, p, hT, hp, e1, e2, e3, e4, h4, h5⟩ := h0
  subst h3 e1 e2 e3 e4
  obtain ⟨⟨o1, o2⟩, ⟨q1, q2⟩, a1, a2, a3, a4, a5⟩ := p_write (N := N) (by omega) h1 h2 x1 x2 xFind
  have a3 : o1 = q1 := a3
  subst a3
  have mX := c_X10_write l D k ax xLen xHits xUns xItems xLost xKind xSize xLet xRel xLim xOpen xMeas xSL xST xSD xSK xTal xKn xFT xFA xFE (nI p) (nI T) xFind x1 x2 a1
  have mM := c_X11_write l D k am mSizes mSigns (nI p) (nI T) mTyped mText mAt mFault mTests mTN mTS mTV mTB mRead mUns mUM mBA mBH mThere mTypes mHeld mItems mMoved xFind x1 x2 a2
  exact ⟨_, _, _, Or.inr (Or.inl mX), Or.inr (Or.inl mM), RW_mk ⟨h1, a4, a5, tx, mm, T, p, hT, hp, rfl, rfl, rfl, rfl, h4, h5⟩⟩
theorem s_count (hN : 40000 ≤ N) (hR : RW k ax am WX WM) (x1 : Int32) : ∃ (r : Int32) (WX' WM' : va_W), cI l yX10_count wo_X10_count 2 zb zv D k [.ref (ax 0), .int x1] WX r WX' ∧ cI l yX11_count wo_X11_count 2 zb zv D k [.ref (am 0), .int x1] WM r WM' ∧ RW k ax am WX' WM' := by
  refine RW_elim (C := fun WX WM => ∃ (r : Int32) (WX' WM' : va_W), cI l yX10_count wo_X10_count 2 zb zv D k [.ref (ax 0), .int x1] WX r WX' ∧ cI l yX11_count wo_X11_count 2 zb zv D k [.ref (am 0), .int x1] WM r WM' ∧ RW k ax am WX' WM') hR ?_
  intro xLen xHits xUns xItems xLost xKind xSize xLet xRel xLim xOpen xMeas xSL xST xSD xSK xTal xKn xFT xFA xFE xOdds xPat xFind mSizes mSigns mOdds mPat mTyped mText mAt mFault mTests mTN mTS mTV mTB mRead mUns mUM mBA mBH mThere mTypes mHeld mItems mMoved mFind h0
  obtain ⟨h1, h2, h3, tx, mm, T, p, hT, hp, e1, e2, e3, e4, h4, h5⟩ := h0
  subst h3 e1 e2 e3 e4
  have e5 : xSL = mTyped := h4.2.2.2.2.1.trans h4.2.2.2.1.symm
  subst e5
  obtain ⟨o, a1, a2⟩ := p_count h1 (N := N) (by omega) xSL (nI p) (nI T) xFind x1
  have mX := c_X10_count l D k ax xLen xHits xUns xItems xLost xKind xSize xLet xRel xLim xOpen xMeas xSL xST xSD xSK xTal xKn xFT xFA xFE (nI p) (nI T) xFind x1 a1
  have mM := c_X11_count l D k am mSizes mSigns (nI p) (nI T) xSL mText mAt mFault mTests mTN mTS mTV mTB mRead mUns mUM mBA mBH mThere mTypes mHeld mItems mMoved xFind x1 a2
  exact ⟨_, _, _, Or.inl ⟨mX, rfl⟩, Or.inl ⟨mM, rfl⟩, RW_mk ⟨h1, h2, rfl, tx, mm, T, p, hT, hp, rfl, rfl, rfl, rfl, h4, h5⟩⟩
theorem s_digest (hN : 40000 ≤ N) (hR : RW k ax am WX WM) : ∃ (r : Int64) (WX' WM' : va_W), cL l yX10_digest wo_X10_digest 6 D k [.ref (ax 0)] WX r WX' ∧ cL l yX11_digest wo_X11_digest 5 D k [.ref (am 0)] WM r WM' ∧ RW k ax am WX' WM' := by
  refine RW_elim (C := fun WX WM => ∃ (r : Int64) (WX' WM' : va_W), cL l yX10_digest wo_X10_digest 6 D k [.ref (ax 0)] WX r WX' ∧ cL l yX11_digest wo_X11_digest 5 D k [.ref (am 0)] WM r WM' ∧ RW k ax am WX' WM') hR ?_
  intro xLen xHits xUns xItems xLost xKind xSize xLet xRel xLim xOpen xMeas xSL xST xSD xSK xTal xKn xFT xFA xFE xOdds xPat xFind mSizes mSigns mOdds mPat mTyped mText mAt mFault mTests mTN mTS mTV mTB mRead mUns mUM mBA mBH mThere mTypes mHeld mItems mMoved mFind h0
  obtain ⟨h1, h2, h3, tx, mm, T, p, hT, hp, e1, e2, e3, e4, h4, h5⟩ := h0
  subst h3 e1 e2 e3 e4
  obtain ⟨⟨o1, o2⟩, ⟨q1, q2⟩, a1, a2, a3, a4, a5⟩ := p_digest hN h1 hT hp h4 h5 mAt xMeas xFT mUns xFA xFE mUM xFind
  have a3 : o1 = q1 := a3
  subst a3
  have mX := c_X10_digest l D k ax xLen xHits xUns xItems xLost xKind xSize xLet xRel xLim xOpen xMeas xSL xST xSD xSK xTal xKn xFT xFA xFE (nI p) (nI T) xFind a1
  have mM := c_X11_digest l D k am mSizes mSigns (nI p) (nI T) mTyped mText mAt mFault mTests mTN mTS mTV mTB mRead mUns mUM mBA mBH mThere mTypes mHeld mItems mMoved xFind a2
  exact ⟨_, _, _, Or.inr mX, Or.inr mM, RW_mk ⟨h1, h2, rfl, tx, mm, T, p, hT, hp, rfl, rfl, rfl, rfl, a4, a5⟩⟩
end ST
