/-! pure rows: digest -/
theorem shows_now {N : Nat} (hN : 50 ≤ N) {xLen xHits xUns mSizes mSigns : Nat → Int32} (hR : RRow xLen xHits xUns mSizes mSigns) {T : Nat} (hT : 2 ≤ T ∧ T < 128) {r w : Nat} (hr : r < 4) (hw : w < 7) : ∃ o, f_X10_shows N (nI r) (nI w) xLen xHits xUns (nI T) = some o ∧ f_X11_showsNow N (nI r) (nI w) mSizes mSigns (nI T) = some o := by
  have h4 : ∀ j, j < 4 → f_X11_isRow (nI j) = some 1 := by decide +kernel
  have h7 : ∀ j, j < 7 → f_X11_in (nI j) 0 6 = some 1 := by decide +kernel
  obtain ⟨o, a1, a2⟩ := p_shows hN hR hT (nI r) (nI w)
  unfold f_X11_shows at a2
  rw [h4 r hr, bnd_s, if1_0, h7 w hw, bnd_s, if1_0] at a2
  obtain ⟨q, e1, e2⟩ := bnd_some a2
  exact ⟨o, a1, e1.trans e2⟩
section DG
variable {N T p : Nat} {xLen xHits xUns mSizes mSigns : Nat → Int32} {xLet xRel xLim xOpen me : Nat → Int32} {xSL xST xSD xSK : Int32} {tl : Nat → Nat → Int32} {kn ft : Nat → Int32} {fa fe f : Int32} {mTyped mAt mFault mTests mRead um : Int32} {mText mTN mTS mTV mTB us : Nat → Int32} {xo xp : Int32}
theorem dg_shows {kX kM} (hN : 50 ≤ N) (hR : RRow xLen xHits xUns mSizes mSigns) (hT : 2 ≤ T ∧ T < 128) {r : Nat} (hr : r < 4) : ∀ (z w c d : Nat) (h : Int64), w + z = 7 → z < c → z < d → ∃ h', f_X10_digest_83 N kX c h (nI r) (nI w) xLen xHits xUns xLet xRel xLim xOpen me xSL xST xSD xSK tl kn ft fa fe xo (nI T) f = kX h' (nI (r + 1)) xLen xHits xUns xLet xRel xLim xOpen me xSL xST xSD xSK tl kn ft fa fe xo (nI T) f ∧ f_X11_digest_81 N kM d h (nI r) (nI w) mSizes mSigns xo (nI T) mTyped mText mAt mFault mTests mTN mTS mTV mTB mRead us um f = kM h' (nI (r + 1)) mSizes mSigns xo (nI T) mTyped mText mAt mFault mTests mTN mTS mTV mTB mRead us um f := by
  intro z
  induction z with
  | zero =>
    intro w c d h hw hc hd
    obtain ⟨c, rfl⟩ : ∃ z, c = z + 1 := ⟨c - 1, by omega⟩
    obtain ⟨d, rfl⟩ : ∃ z, d = z + 1 := ⟨d - 1, by omega⟩
    obtain rfl : w = 7 := by omega
    rw [f_X10_digest_83, if_pos (by decide), f_X11_digest_81, if_pos (by decide), nI_1]
    exact ⟨h, rfl, rfl⟩
  | succ z ih =>
    intro w c d h hw hc hd
    obtain ⟨c, rfl⟩ : ∃ z, c = z + 1 := ⟨c - 1, by omega⟩
    obtain ⟨d, rfl⟩ : ∃ z, d = z + 1 := ⟨d - 1, by omega⟩
    obtain ⟨o, a1, a2⟩ := shows_now hN hR hT hr (show w < 7 by omega)
    have hlt : ¬ (7 : Int32) ≤ nI w := nI_ge (b := 7) (by omega) (by omega)
    rw [f_X10_digest_83, if_neg hlt, a1, bnd_s, f_X11_digest_81, if_neg hlt, a2, bnd_s, nI_1]
    exact ih (w + 1) c d _ (by omega) (by omega) (by omega)
theorem dg_signs {kX kM} (hN : 50 ≤ N) (hR : RRow xLen xHits xUns mSizes mSigns) (hT : 2 ≤ T ∧ T < 128) {r n : Nat} (hr : r < 4) (hn : n ≤ 15) (e1 : mSizes r = nI n) (e2 : xLen r = nI n) (e3 : xHits r = nI (hb n (fun i => mSigns (15 * r + i)))) (e4 : xUns r = nI (ub n (fun i => mSigns (15 * r + i)))) (e5 : ∀ i, i < n → (mSigns (15 * r + i) = -1 ∨ mSigns (15 * r + i) = 0 ∨ mSigns (15 * r + i) = 1)) : ∀ (z i c d : Nat) (h : Int64), i + z = n → z < c → z < d → ∃ h', f_X10_digest_41 N kX c h (nI r) (nI i) xLen xHits xUns xLet xRel xLim xOpen me xSL xST xSD xSK tl kn ft fa fe xo (nI T) f = kX h' (nI (r + 1)) xLen xHits xUns xLet xRel xLim xOpen me xSL xST xSD xSK tl kn ft fa fe xo (nI T) f ∧ f_X11_digest_41 N kM d h (nI r) (nI i) mSizes mSigns xo (nI T) mTyped mText mAt mFault mTests mTN mTS mTV mTB mRead us um f = kM h' (nI (r + 1)) mSizes mSigns xo (nI T) mTyped mText mAt mFault mTests mTN mTS mTV mTB mRead us um f := by
  intro z
  induction z with
  | zero =>
    intro i c d h hi hc hd
    obtain ⟨c, rfl⟩ : ∃ z, c = z + 1 := ⟨c - 1, by omega⟩
    obtain ⟨d, rfl⟩ : ∃ z, d = z + 1 := ⟨d - 1, by omega⟩
    obtain rfl : i = n := by omega
    rw [f_X10_digest_41, gIn_nI hr (by decide), cl_nI (by omega), e2, if_pos (nI_le (Nat.le_refl _) (by omega)), f_X11_digest_41, gIn_nI hr (by decide), cl_nI (by omega), e1, if_pos (nI_le (Nat.le_refl _) (by omega))]
    exact dg_shows hN hR hT hr 7 0 N N h (by omega) (by omega) (by omega)
  | succ z ih =>
    intro i c d h hi hc hd
    obtain ⟨c, rfl⟩ : ∃ z, c = z + 1 := ⟨c - 1, by omega⟩
    obtain ⟨d, rfl⟩ : ∃ z, d = z + 1 := ⟨d - 1, by omega⟩
    have hs := signAt_ok (g := fun i => mSigns (15 * r + i)) hn e2 e3 e4 (e5 i (by omega)) (show i < n by omega)
    rw [f_X10_digest_41, gIn_nI hr (by decide), cl_nI (by omega), e2, if_neg (nI_ge (by omega) (by omega)), hs, bnd_s, f_X11_digest_41, gIn_nI hr (by decide), cl_nI (by omega), e1, if_neg (nI_ge (by omega) (by omega)), mul15 hr (by omega), gIn_nI (by omega) (by decide), cl_nI (by omega), nI_1]
    exact ih (i + 1) c d _ (by omega) (by omega) (by omega)
theorem dg_rows (hN : 40000 ≤ N) (hR : RRow xLen xHits xUns mSizes mSigns) (hT : 2 ≤ T ∧ T < 128) (hp : 1 ≤ p ∧ p ≤ 15) {tx : Nat → Nat} {m : Nat} (hX : RTx tx m xLet xRel xLim xOpen xSL xST xSD xSK mTyped mText mFault mTests mTN mTS mTV mTB mRead) (hS : RSn tx m T tl kn) : ∀ (z r c d : Nat) (h : Int64), r + z = 4 → z < c → z < d → ∃ o q, f_X10_digest_33 N c h (nI r) xLen xHits xUns xLet xRel xLim xOpen me xSL xST xSD xSK tl kn ft fa fe (nI p) (nI T) f = some o ∧ f_X11_digest_33 N d h (nI r) mSizes mSigns (nI p) (nI T) mTyped mText mAt mFault mTests mTN mTS mTV mTB mRead us um f = some q ∧ o.1 = q.1 ∧ RTx tx m xLet xRel xLim xOpen xSL xST xSD xSK mTyped mText q.2.2.1 q.2.2.2.1 q.2.2.2.2.1 q.2.2.2.2.2.1 q.2.2.2.2.2.2.1 q.2.2.2.2.2.2.2.1 q.2.2.2.2.2.2.2.2.1 ∧ RSn tx m T o.2.2.1 o.2.2.2.1 := by
  intro z
  induction z with
  | zero =>
    intro r c d h hr hc hd
    obtain ⟨c, rfl⟩ : ∃ z, c = z + 1 := ⟨c - 1, by omega⟩
    obtain ⟨d, rfl⟩ : ∃ z, d = z + 1 := ⟨d - 1, by omega⟩
    obtain rfl : r = 4 := by omega
    obtain ⟨q1, a1, a2, a3, -⟩ := now_M (N := N) (by omega) hX mAt
    obtain ⟨r1, r2, r3, r4, r5, r6, r7⟩ := id hX
    obtain ⟨o2, q2, b1, b2, b3, b4, b5⟩ := p_shown hN hT a3 hS q1.2.1 me 10 (-1)
    unfold f_X11_shown at b2
    rw [show f_X11_in 10 0 15 = some 1 by decide, bnd_s, if1_0, show f_X11_in (-1) (-1) 15 = some 1 by decide, bnd_s, if1_0] at b2
    obtain ⟨q3, c1, c2⟩ := bnd_some b2
    have hq : q3 = q2 := Option.some.inj c2
    subst hq
    obtain ⟨n, hh, u, n1, n2, n3, n4, n5, n6, n7, n8, n9, n10, n11, n12, n13⟩ := row_at hR (show 50 ≤ N by omega) (show 0 < 4 by omega)
    have hp15 : 2 ^ n ≤ 2 ^ 15 := Nat.pow_le_pow_right (by omega) n1
    obtain ⟨us', g1, g2⟩ := gath_ok (N := N) (mSigns := mSigns) (by omega) (show 0 < 4 by omega) n1 n7 us um
    have hx : f_X10_fault xSL xSD xSK = some (fpl tx m) := by
      unfold f_X10_fault
      rw [r5, fault_X r1 r6, bnd_s]
    have hf : ∀ me', f_X10_fills N 0 0 xLen xHits xUns xLet xRel xLim xOpen me' xSL xST xSD xSK ft fa fe (nI T) = some ((1 : Int32) <<< (nI (uc n (fun i => mSigns (15 * 0 + i))) &&& 31), me', ft, fa, fe) := fun me' => by
      unfold f_X10_fills
      rw [show f_X10_isRow 0 = some 1 by decide, bnd_s, if1_0, show f_X10_isPart 0 = some 1 by decide, bnd_s, if1_0, if_pos rfl, show (0 : Int32) = nI 0 from rfl, gIn_nI (by omega) (by decide), cl_nI (by omega), n6, bc_ok (by omega), bnd_s, n12, pop_ub n1]
    rw [f_X10_digest_33, if_pos (by decide), hx, bnd_s, b1, bnd_s, waits_X (by omega) hT hp (by decide), bnd_s, waits_X (by omega) hT hp (by decide), bnd_s, hf, bnd_s, f_X11_digest_33, if_pos (by decide), a1, bnd_s, c1, bnd_s, now_waits (by omega) hT hp, bnd_s, now_waits (by omega) hT hp, bnd_s, show f_X11_gathers N 0 mSizes mSigns us um = _ from g1, bnd_s]
    refine ⟨_, _, rfl, rfl, ?_, b4, b5⟩
    show _ = _
    rw [a2, b3]
  | succ z ih =>
    intro r c d h hr hc hd
    obtain ⟨c, rfl⟩ : ∃ z, c = z + 1 := ⟨c - 1, by omega⟩
    obtain ⟨d, rfl⟩ : ∃ z, d = z + 1 := ⟨d - 1, by omega⟩
    obtain ⟨n, n1, n2, n3, n4, n5, n6⟩ := hR r (by omega)
    have hlt : ¬ (4 : Int32) ≤ nI r := nI_ge (b := 4) (by omega) (by omega)
    rw [f_X10_digest_33, if_neg hlt, f_X11_digest_33, if_neg hlt]
    obtain ⟨h', a1, a2⟩ := dg_signs (kX := fun y0 y1 y2 y3 y4 y5 y6 y7 y8 y9 y10 y11 y12 y13 y14 y15 y16 y17 y18 y19 y20 y21 => f_X10_digest_33 N c y0 y1 y2 y3 y4 y5 y6 y7 y8 y9 y10 y11 y12 y13 y14 y15 y16 y17 y18 y19 y20 y21) (kM := fun y0 y1 y2 y3 y4 y5 y6 y7 y8 y9 y10 y11 y12 y13 y14 y15 y16 y17 y18 => f_X11_digest_33 N d y0 y1 y2 y3 y4 y5 y6 y7 y8 y9 y10 y11 y12 y13 y14 y15 y16 y17 y18) (xLet := xLet) (xRel := xRel) (xLim := xLim) (xOpen := xOpen) (me := me) (xSL := xSL) (xST := xST) (xSD := xSD) (xSK := xSK) (tl := tl) (kn := kn) (ft := ft) (fa := fa) (fe := fe) (f := f) (mTyped := mTyped) (mAt := mAt) (mFault := mFault) (mTests := mTests) (mRead := mRead) (um := um) (mText := mText) (mTN := mTN) (mTS := mTS) (mTV := mTV) (mTB := mTB) (us := us) (xo := nI p) (N := N) (by omega) hR hT (show r < 4 by omega) n1 n2 n3 n4 n5 n6 n 0 N N h (by omega) (by omega) (by omega)
    rw [show (0 : Int32) = nI 0 from rfl, a1, a2]
    exact ih (r + 1) c d h' (by omega) (by omega) (by omega)
theorem dg_counts (hN : 50 ≤ N) (hR : RRow xLen xHits xUns mSizes mSigns) (e : xSL = mTyped) : ∀ (z w c d : Nat) (h : Int64), w + z = 8 → z < c → z < d → ∃ h', f_X10_digest_6 N c h (nI w) xLen xHits xUns xLet xRel xLim xOpen me xSL xST xSD xSK tl kn ft fa fe xo xp f = f_X10_digest_33 N N h' (nI 0) xLen xHits xUns xLet xRel xLim xOpen me xSL xST xSD xSK tl kn ft fa fe xo xp f ∧ f_X11_digest_6 N d h (nI w) mSizes mSigns xo xp mTyped mText mAt mFault mTests mTN mTS mTV mTB mRead us um f = f_X11_digest_33 N N h' (nI 0) mSizes mSigns xo xp mTyped mText mAt mFault mTests mTN mTS mTV mTB mRead us um f := by
  intro z
  induction z with
  | zero =>
    intro w c d h hw hc hd
    obtain ⟨c, rfl⟩ : ∃ z, c = z + 1 := ⟨c - 1, by omega⟩
    obtain ⟨d, rfl⟩ : ∃ z, d = z + 1 := ⟨d - 1, by omega⟩
    obtain rfl : w = 8 := by omega
    rw [f_X10_digest_6, if_pos (by decide), f_X11_digest_6, if_pos (by decide)]
    exact ⟨h, rfl, rfl⟩
  | succ z ih =>
    intro w c d h hw hc hd
    obtain ⟨c, rfl⟩ : ∃ z, c = z + 1 := ⟨c - 1, by omega⟩
    obtain ⟨d, rfl⟩ : ∃ z, d = z + 1 := ⟨d - 1, by omega⟩
    obtain ⟨o, a1, a2⟩ := p_count hR hN xSL xo xp f (nI w)
    rw [f_X10_digest_6, if_neg (show ¬ (7 : Int32) < nI w from nI_nlt (a := 7) (by omega) (by omega)), a1, bnd_s, f_X11_digest_6, if_neg (show ¬ (8 : Int32) ≤ nI w from nI_ge (b := 8) (by omega) (by omega)), ← e, a2, bnd_s, nI_1, e]
    have := ih (w + 1) c d (31 * h + o.toInt64) (by omega) (by omega) (by omega)
    rw [e] at this
    exact this
theorem p_digest (hN : 40000 ≤ N) (hR : RRow xLen xHits xUns mSizes mSigns) (hT : 2 ≤ T ∧ T < 128) (hp : 1 ≤ p ∧ p ≤ 15) {tx : Nat → Nat} {m : Nat} (hX : RTx tx m xLet xRel xLim xOpen xSL xST xSD xSK mTyped mText mFault mTests mTN mTS mTV mTB mRead) (hS : RSn tx m T tl kn) (mAt : Int32) (me ft us : Nat → Int32) (fa fe um f : Int32) :
    ∃ o q, f_X10_digest N xLen xHits xUns xLet xRel xLim xOpen me xSL xST xSD xSK tl kn ft fa fe (nI p) (nI T) f = some o ∧ f_X11_digest N mSizes mSigns (nI p) (nI T) mTyped mText mAt mFault mTests mTN mTS mTV mTB mRead us um f = some q ∧ o.1 = q.1 ∧ RTx tx m xLet xRel xLim xOpen xSL xST xSD xSK mTyped mText q.2.2.1 q.2.2.2.1 q.2.2.2.2.1 q.2.2.2.2.2.1 q.2.2.2.2.2.2.1 q.2.2.2.2.2.2.2.1 q.2.2.2.2.2.2.2.2.1 ∧ RSn tx m T o.2.2.1 o.2.2.2.1 := by
  obtain ⟨h', a1, a2⟩ := dg_counts (N := N) (xHits := xHits) (xLet := xLet) (xRel := xRel) (xLim := xLim) (xOpen := xOpen) (me := me) (xST := xST) (xSD := xSD) (xSK := xSK) (tl := tl) (kn := kn) (ft := ft) (fa := fa) (fe := fe) (f := f) (mAt := mAt) (mFault := mFault) (mTests := mTests) (mRead := mRead) (um := um) (mText := mText) (mTN := mTN) (mTS := mTS) (mTV := mTV) (mTB := mTB) (us := us) (xo := nI p) (xp := nI T) (by omega) hR (hX.2.2.2.2.1.trans hX.2.2.2.1.symm) 8 0 N N 17 (by omega) (by omega) (by omega)
  unfold f_X10_digest f_X11_digest
  rw [show (0 : Int32) = nI 0 from rfl, a1, a2]
  exact dg_rows hN hR hT hp hX hS 4 0 N N h' (by omega) (by omega) (by omega)
end DG
