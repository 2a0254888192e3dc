/-! both worlds, and what ties them; a call of one of them -/
abbrev cI (l : Launch) (y : MethodName) (wd : List Cond) (lv zb zv : Nat) (D : va_G) (k : Nat → ClassId) (as : List Value) (w : va_W) (r : Int32) (w' : va_W) : Prop := (mRi l y wd lv D k as w r ∧ w' = w) ∨ mQi l y wd lv D k as w r w' ∨ zQi l y wd lv zb zv D k as w r w'
abbrev cL (l : Launch) (y : MethodName) (wd : List Cond) (lv : Nat) (D : va_G) (k : Nat → ClassId) (as : List Value) (w : va_W) (r : Int64) (w' : va_W) : Prop := (mRl l y wd lv D k as w r ∧ w' = w) ∨ mQl l y wd lv D k as w r w'
theorem P_left {D : va_G} {cl : List vw_C} {W1 W2 : va_W} {H : Heap} (hP : va_P D cl (W1 ++ W2) H) : va_P D cl W1 H := fun k q hq => hP k q (by rw [List.getElem?_append_left (List.getElem?_eq_some_iff.mp hq).1]; exact hq)
theorem P_right {D : va_G} {cl : List vw_C} {W1 W2 : va_W} {H : Heap} (hP : va_P D cl (W1 ++ W2) H) : va_P D cl W2 H := fun k q hq => hP (W1.length + k) q (by rw [List.getElem?_append_right (by omega), Nat.add_sub_cancel_left]; exact hq)
theorem D_left {A : Nat → Prop} {W1 W2 : va_W} (hD : va_D A (W1 ++ W2)) : va_D A W1 :=
  ⟨fun i j x y hi hj hxy => hD.1 i j x y (by rw [List.getElem?_append_left (List.getElem?_eq_some_iff.mp hi).1]; exact hi) (by rw [List.getElem?_append_left (List.getElem?_eq_some_iff.mp hj).1]; exact hj) hxy,
   fun k q hq => hD.2 k q (by rw [List.getElem?_append_left (List.getElem?_eq_some_iff.mp hq).1]; exact hq)⟩
theorem D_right {A : Nat → Prop} {W1 W2 : va_W} (hD : va_D A (W1 ++ W2)) : va_D A W2 :=
  ⟨fun i j x y hi hj hxy => by
    have := hD.1 (W1.length + i) (W1.length + j) x y (by rw [List.getElem?_append_right (by omega), Nat.add_sub_cancel_left]; exact hi) (by rw [List.getElem?_append_right (by omega), Nat.add_sub_cancel_left]; exact hj) hxy
    omega,
   fun k q hq => hD.2 (W1.length + k) q (by rw [List.getElem?_append_right (by omega), Nat.add_sub_cancel_left]; exact hq)⟩
theorem LR_apart {A : Nat → Prop} {W1 W2 : va_W} (hD : va_D A (W1 ++ W2)) {i j : Nat} {x y : Nat × va_E} (hi : W1[i]? = some x) (hj : W2[j]? = some y) : x.1 ≠ y.1 := fun hxy => by
  have hl := (List.getElem?_eq_some_iff.mp hi).1
  have := hD.1 i (W1.length + j) x y (by rw [List.getElem?_append_left hl]; exact hi) (by rw [List.getElem?_append_right (by omega), Nat.add_sub_cancel_left]; exact hj) hxy
  omega
theorem P_swap {D : va_G} {cl : List vw_C} {W1 W2 : va_W} {H : Heap} (hP : va_P D cl (W1 ++ W2) H) : va_P D cl (W2 ++ W1) H := va_P.app (P_right hP) (P_left hP)
theorem D_swap {A : Nat → Prop} {W1 W2 : va_W} (hD : va_D A (W1 ++ W2)) : va_D A (W2 ++ W1) := va_D.app (D_right hD) (D_left hD) (fun i j p q hp hq e => LR_apart hD hq hp e.symm)
theorem joinL {A : Nat → Prop} {D : va_G} {cl : List vw_C} {W1 W2 W1' : va_W} {H H1 : Heap} (hP : va_P D cl (W1 ++ W2) H) (hD : va_D A (W1 ++ W2)) (hk : ∀ q : Nat, q < H.size → ¬ va_A W1 H.size q → H1[q]? = H[q]?) (hF : ∀ q, va_A W1 H.size q → A q) (hP1 : va_P D cl W1' H1) (hD1 : va_D (va_A W1 H.size) W1') : va_P D cl (W2 ++ W1') H1 ∧ va_D A (W2 ++ W1') := by
  have apart : ∀ (k : Nat) (q : Nat × va_E), W2[k]? = some q → q.1 < H.size ∧ ¬ va_A W1 H.size q.1 := by
    intro k q hq
    have hl := (P_right hP k q hq).lt
    refine ⟨hl, fun h => ?_⟩
    rcases h with ⟨k2, e, h⟩ | h
    · exact LR_apart hD h hq rfl
    · omega
  refine ⟨va_P.app (fun k q hq => ?_) hP1, va_D.app (D_right hD) (hD1.weaken (fun k q _ h => hF q.1 h)) (fun i j x y hx hy hxy => ?_)⟩
  · obtain ⟨g1, g2⟩ := apart k q hq
    exact (P_right hP k q hq).kept (hk q.1 g1 g2)
  · exact (apart i x hx).2 (by rw [hxy]; exact hD1.2 j y hy)
section XLC
variable {p : Program} {l : Launch} {e : Env} {R : Room} {s : State} {m : MethodId} {args : Array Value} {below : List Frame} {meth : Method} {c : Code} {H : Heap} {locs : List Loc} {Q : State → Prop}
variable {Ts wd : List Cond} {cc bytes : ByteArray} {nL maxL index n lv cells slots : Nat} {own C : String} {y : MethodName} {ret : Option FieldType} {As rest st0 : List Value} {pc : Nat} {ls : Array Slot} {D : va_G} {k : Nat → ClassId} {W1 W2 W1' : va_W} {A : Nat → Prop} {b zb zv : Nat}
theorem lcI {r : Int32} {ci N : Nat} {T : u_T} {fs : List Value} (S : CallFix p m c cc nL s args Ts own) (hM : cI l y wd lv zb zv D k (.ref b :: As) W1 r W1') (cw : CallW R s args own C index y bytes maxL ret wd (xRm lv) 0 0 n) (hZ : zS zb zv A s s.heap) (hK : va_K D vwCl (xTys k) s) (hP : va_P D vwCl (W1 ++ W2) H) (hD : va_D A (W1 ++ W2)) (hS : va_S A s.heap H locs) (hA : ∀ q, s.heap.size ≤ q → A q) (he : W1[0]? = some (b, .inr (ci, fs))) (hc : vwCl[ci]? = some (C, T, N)) (hn : As.length = n) (hsize : ls.size = nL) (hst : st0 = As.reverse ++ .ref b :: rest) (hW : (rest.map fun v => v.category).sum ≤ 8) (hdg : decode cc pc = .ok (.invokevirtual index, 3)) (hf : cells ≤ R.cells ∧ slots ≤ R.slots)
    (kk : ∀ (H1 : Heap) (locs1 : List Loc), va_P D vwCl (W2 ++ W1') H1 → va_D A (W2 ++ W1') → va_S A s.heap H1 locs1 → W p l e R s m args below meth c H1 locs1 cells slots Q (F0 m (pc + 3) ls (.int r :: rest))) : W p l e R s m args below meth c H locs cells slots Q (F0 m pc ls st0) := by
  have hP1 := P_left hP
  have hD1 := D_left hD
  have hF : ∀ q, va_A W1 H.size q → A q := xFree hD1 hS hA
  rcases hM with ⟨hM, rfl⟩ | hM | hM
  · exact kRiV (q0 := 0) S hM cw hK hP1 he hc hn hsize hst hW hdg hf (kk H locs (P_swap hP) (D_swap hD) hS)
  · exact va_calli (va_runV S (hM H.size) cw ⟨xBlind, va_recv hK hP1 hc he, fun U hU hW => ⟨rfl, by rw [hU], by rw [hU]; exact hP1, va_K.moved hW.alike hK, hD1.weaken (fun _ _ _ _ => trivial)⟩⟩ rfl hn hsize hst (lv_room hW) hdg hf) hS (fun q _ h => hF q h) hF (fun r' u t H1 locs1 ht _ hw hB _ hk1 hS1 => by
      obtain ⟨rfl, rfl⟩ := hw
      obtain ⟨hP2, hD2⟩ := joinL hP hD hk1 hF (by rw [← ht]; exact hB.1) hB.2.2
      exact kk H1 locs1 hP2 hD2 hS1)
  · exact va_calli (va_runV S (hM H.size) cw ⟨zBlind, va_recv hK hP1 hc he, fun U hU hW => ⟨rfl, by rw [hU], by rw [hU]; exact hP1, va_K.moved hW.alike hK, hD1.weaken (fun _ _ _ _ => trivial), zS_to hZ hS hU hW hF⟩⟩ rfl hn hsize hst (lv_room hW) hdg hf) hS (fun q _ h => hF q h) hF (fun r' u t H1 locs1 ht _ hw hB _ hk1 hS1 => by
      obtain ⟨rfl, rfl⟩ := hw
      obtain ⟨hP2, hD2⟩ := joinL hP hD hk1 hF (by rw [← ht]; exact hB.1) hB.2.2
      exact kk H1 locs1 hP2 hD2 hS1)
theorem lcL {r : Int64} {ci N : Nat} {T : u_T} {fs : List Value} (S : CallFix p m c cc nL s args Ts own) (hM : cL l y wd lv D k (.ref b :: As) W1 r W1') (cw : CallW R s args own C index y bytes maxL ret wd (xRm lv) 0 0 n) (hK : va_K D vwCl (xTys k) s) (hP : va_P D vwCl (W1 ++ W2) H) (hD : va_D A (W1 ++ W2)) (hS : va_S A s.heap H locs) (hA : ∀ q, s.heap.size ≤ q → A q) (he : W1[0]? = some (b, .inr (ci, fs))) (hc : vwCl[ci]? = some (C, T, N)) (hn : As.length = n) (hsize : ls.size = nL) (hst : st0 = As.reverse ++ .ref b :: rest) (hW : (rest.map fun v => v.category).sum ≤ 8) (hdg : decode cc pc = .ok (.invokevirtual index, 3)) (hf : cells ≤ R.cells ∧ slots ≤ R.slots)
    (kk : ∀ (H1 : Heap) (locs1 : List Loc), va_P D vwCl (W2 ++ W1') H1 → va_D A (W2 ++ W1') → va_S A s.heap H1 locs1 → W p l e R s m args below meth c H1 locs1 cells slots Q (F0 m (pc + 3) ls (.long r :: rest))) : W p l e R s m args below meth c H locs cells slots Q (F0 m pc ls st0) := by
  have hP1 := P_left hP
  have hD1 := D_left hD
  have hF : ∀ q, va_A W1 H.size q → A q := xFree hD1 hS hA
  rcases hM with ⟨hM, rfl⟩ | hM
  · exact kRlV (q0 := 0) S hM cw hK hP1 he hc hn hsize hst hW hdg hf (kk H locs (P_swap hP) (D_swap hD) hS)
  · exact va_calll (va_runV S (hM H.size) cw ⟨xBlind, va_recv hK hP1 hc he, fun U hU hW => ⟨rfl, by rw [hU], by rw [hU]; exact hP1, va_K.moved hW.alike hK, hD1.weaken (fun _ _ _ _ => trivial)⟩⟩ rfl hn hsize hst (lv_room hW) hdg hf) hS (fun q _ h => hF q h) hF (fun r' u t H1 locs1 ht _ hw hB _ hk1 hS1 => by
      obtain ⟨rfl, rfl⟩ := hw
      obtain ⟨hP2, hD2⟩ := joinL hP hD hk1 hF (by rw [← ht]; exact hB.1) hB.2.2
      exact kk H1 locs1 hP2 hD2 hS1)
end XLC
/-- what ties the two worlds' numbers -/
abbrev RLn (xLen xHits xUns : Nat → Int32) (xItems : Nat → Nat → Int32) (xLost xKind xSize xLet xRel xLim xOpen : Nat → Int32) (xSL xST xSD xSK : Int32) (xTal : Nat → Nat → Int32) (xKn : Nat → Int32) (xOdds xPat xFind : Int32) (mSizes mSigns : Nat → Int32) (mOdds mPat mTyped : Int32) (mText : Nat → Int32) (mFault mTests : Int32) (mTN mTS mTV mTB : Nat → Int32) (mRead : Int32) (mThere mTypes mHeld mItems : Nat → Int32) (mFind : Int32) : Prop :=
  RRow xLen xHits xUns mSizes mSigns ∧ RSh xItems xLost xKind xSize mThere mTypes mHeld mItems ∧ xFind = mFind ∧ ∃ (tx : Nat → Nat) (mm T p : Nat), (2 ≤ T ∧ T < 128) ∧ (1 ≤ p ∧ p ≤ 15) ∧ xOdds = nI p ∧ mOdds = nI p ∧ xPat = nI T ∧ mPat = nI T ∧ RTx tx mm xLet xRel xLim xOpen xSL xST xSD xSK mTyped mText mFault mTests mTN mTS mTV mTB mRead ∧ RSn tx mm T xTal xKn
def RW (k : Nat → ClassId) (ax am : Nat → Nat) (WX WM : va_W) : Prop := ∃ (xLen xHits xUns : Nat → Int32) (xItems : Nat → Nat → Int32) (xLost xKind xSize xLet xRel xLim xOpen xMeas : Nat → Int32) (xSL xST xSD xSK : Int32) (xTal : Nat → Nat → Int32) (xKn xFT : Nat → Int32) (xFA xFE xOdds xPat xFind : Int32) (mSizes mSigns : Nat → Int32) (mOdds mPat mTyped : Int32) (mText : Nat → Int32) (mAt mFault mTests : Int32) (mTN mTS mTV mTB : Nat → Int32) (mRead : Int32) (mUns : Nat → Int32) (mUM mBA mBH : Int32) (mThere mTypes mHeld mItems mMoved : Nat → Int32) (mFind : Int32), WX = wX k ax xLen xHits xUns xItems xLost xKind xSize xLet xRel xLim xOpen xMeas xSL xST xSD xSK xTal xKn xFT xFA xFE xOdds xPat xFind ∧ WM = wM k am mSizes mSigns mOdds mPat mTyped mText mAt mFault mTests mTN mTS mTV mTB mRead mUns mUM mBA mBH mThere mTypes mHeld mItems mMoved mFind ∧ RLn xLen xHits xUns xItems xLost xKind xSize xLet xRel xLim xOpen xSL xST xSD xSK xTal xKn xOdds xPat xFind mSizes mSigns mOdds mPat mTyped mText mFault mTests mTN mTS mTV mTB mRead mThere mTypes mHeld mItems mFind
theorem RW_mk {k : Nat → ClassId} {ax am : Nat → Nat} {xLen xHits xUns : Nat → Int32} {xItems : Nat → Nat → Int32} {xLost xKind xSize xLet xRel xLim xOpen xMeas : Nat → Int32} {xSL xST xSD xSK : Int32} {xTal : Nat → Nat → Int32} {xKn xFT : Nat → Int32} {xFA xFE xOdds xPat xFind : Int32} {mSizes mSigns : Nat → Int32} {mOdds mPat mTyped : Int32} {mText : Nat → Int32} {mAt mFault mTests : Int32} {mTN mTS mTV mTB : Nat → Int32} {mRead : Int32} {mUns : Nat → Int32} {mUM mBA mBH : Int32} {mThere mTypes mHeld mItems mMoved : Nat → Int32} {mFind : Int32} (h : RLn xLen xHits xUns xItems xLost xKind xSize xLet xRel xLim xOpen xSL xST xSD xSK xTal xKn xOdds xPat xFind mSizes mSigns mOdds mPat mTyped mText mFault mTests mTN mTS mTV mTB mRead mThere mTypes mHeld mItems mFind) : RW k ax am (wX k ax xLen xHits xUns xItems xLost xKind xSize xLet xRel xLim xOpen xMeas xSL xST xSD xSK xTal xKn xFT xFA xFE xOdds xPat xFind) (wM k am mSizes mSigns mOdds mPat mTyped mText mAt mFault mTests mTN mTS mTV mTB mRead mUns mUM mBA mBH mThere mTypes mHeld mItems mMoved mFind) :=
  ⟨xLen, xHits, xUns, xItems, xLost, xKind, xSize, xLet, xRel, xLim, xOpen, xMeas, xSL, xST, xSD, xSK, xTal, xKn, xFT, xFA, xFE, xOdds, xPat, xFind, mSizes, mSigns, mOdds, mPat, mTyped, mText, mAt, mFault, mTests, mTN, mTS, mTV, mTB, mRead, mUns, mUM, mBA, mBH, mThere, mTypes, mHeld, mItems, mMoved, mFind, rfl, rfl, h⟩
theorem RW_x {k : Nat → ClassId} {ax am : Nat → Nat} {WX WM : va_W} (h : RW k ax am WX WM) : ∃ fs, WX[0]? = some (ax 0, .inr (5, fs)) := by
  obtain ⟨xLen, xHits, xUns, xItems, xLost, xKind, xSize, xLet, xRel, xLim, xOpen, xMeas, xSL, xST, xSD, xSK, xTal, xKn, xFT, xFA, xFE, xOdds, xPat, xFind, mSizes, mSigns, mOdds, mPat, mTyped, mText, mAt, mFault, mTests, mTN, mTS, mTV, mTB, mRead, mUns, mUM, mBA, mBH, mThere, mTypes, mHeld, mItems, mMoved, mFind, rfl, rfl, -⟩ := h
  exact ⟨_, rfl⟩
theorem RW_m {k : Nat → ClassId} {ax am : Nat → Nat} {WX WM : va_W} (h : RW k ax am WX WM) : ∃ fs, WM[0]? = some (am 0, .inr (6, fs)) := by
  obtain ⟨xLen, xHits, xUns, xItems, xLost, xKind, xSize, xLet, xRel, xLim, xOpen, xMeas, xSL, xST, xSD, xSK, xTal, xKn, xFT, xFA, xFE, xOdds, xPat, xFind, mSizes, mSigns, mOdds, mPat, mTyped, mText, mAt, mFault, mTests, mTN, mTS, mTV, mTB, mRead, mUns, mUM, mBA, mBH, mThere, mTypes, mHeld, mItems, mMoved, mFind, rfl, rfl, -⟩ := h
  exact ⟨_, rfl⟩
