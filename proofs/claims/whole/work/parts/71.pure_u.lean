/-! pure rows: sure -/
theorem tb_div (x i : Nat) : x.testBit i = decide (x / 2 ^ i % 2 = 1) := by
  rw [Nat.testBit, Nat.shiftRight_eq_div_pow, Nat.one_and_eq_mod_two]
  rcases bit01 (show x / 2 ^ i % 2 < 2 by omega) with e | e <;> rw [e] <;> rfl
theorem suM_loop {N r n T m i : Nat} {tx : Nat → Nat} {mSizes mSigns us : Nat → Int32} {mTyped mAt mFault mTests mRead : Int32} {mText mTN mTS mTV mTB : Nat → Int32} (hN : 40000 ≤ N) (hr : r < 4) (hn : n ≤ 15) (hi : i < n) (e1 : mSizes r = nI n) (hu : ∀ k, k < uc n (fun i => mSigns (15 * r + i)) → us k = nI (uN n (fun i => mSigns (15 * r + i)) k)) (hm : m ≤ 60) (hf : fpl tx m = -1) (h1 : mTests = nI (pm tx m).2.1) (hA : AG (pm tx m).2.1 mTN mTS mTV mTB (pm tx m).2.2.2.1 (pm tx m).2.2.2.2.1 (pm tx m).2.2.2.2.2.1 (pm tx m).2.2.2.2.2.2) (hT : 2 ≤ T ∧ T < 128) {w : Nat → Nat} (hw0 : w = fun y => hb n (fun i => mSigns (15 * r + i)) ||| fM n (fun i => mSigns (15 * r + i)) y) {P : Nat → Bool} (hP : P = fun y => hol tx m T n (w y)) {K : Nat} (hK : K = uc n (fun i => mSigns (15 * r + i))) :
    ∀ (z j c : Nat), j + z = 2 ^ K → z < c → f_X11_sure_48 N c (nI r) (nI i) (nI (fb_ct (fun y => P y && (w y).testBit (n - 1 - i)) j)) (nI (fb_ct (fun y => P y && !(w y).testBit (n - 1 - i)) j)) (nI j) mSizes mSigns (nI T) mTyped mText mAt mFault mTests mTN mTS mTV mTB mRead us (nI K) = some ((if fb_ct P (2 ^ K) = 0 then -3 else if fb_ct (fun y => P y && !(w y).testBit (n - 1 - i)) (2 ^ K) = 0 then 1 else if fb_ct (fun y => P y && (w y).testBit (n - 1 - i)) (2 ^ K) = 0 then 0 else -1), mAt, mFault, mTests, mTN, mTS, mTV, mTB, mRead, us, nI K) := by
  have hl := uc_le n (fun i => mSigns (15 * r + i))
  have hk : 2 ^ K ≤ 2 ^ 15 := Nat.pow_le_pow_right (by omega) (by omega)
  intro z
  induction z with
  | zero =>
    intro j c hj hc
    obtain ⟨c, rfl⟩ : ∃ z, c = z + 1 := ⟨c - 1, by omega⟩
    obtain rfl : j = 2 ^ K := by omega
    have hs : fb_ct P (2 ^ K) = fb_ct (fun y => P y && (w y).testBit (n - 1 - i)) (2 ^ K) + fb_ct (fun y => P y && !(w y).testBit (n - 1 - i)) (2 ^ K) := by
      rw [← fb_ct_or (fun k _ q => by
        obtain ⟨q1, q2⟩ := q
        cases hb : (w k).testBit (n - 1 - i) <;> simp [hb] at q1 q2)]
      apply fb_ct_cong
      intro k _
      cases P k <;> cases (w k).testBit (n - 1 - i) <;> rfl
    have l1 := fb_ct_le (fun y => P y && (w y).testBit (n - 1 - i)) (2 ^ K)
    have l2 := fb_ct_le (fun y => P y && !(w y).testBit (n - 1 - i)) (2 ^ K)
    rw [hs]
    generalize fb_ct (fun y => P y && (w y).testBit (n - 1 - i)) (2 ^ K) = A at *
    generalize fb_ct (fun y => P y && !(w y).testBit (n - 1 - i)) (2 ^ K) = B at *
    rw [f_X11_sure_48, one_shl (by omega), if_pos (nI_le (Nat.le_refl _) (by omega)), nI_add, show (0 : Int32) = nI 0 from rfl]
    simp only [neq_iff (show A + B < 2 ^ 31 by omega) (show 0 < 2 ^ 31 by decide), neq_iff (show A < 2 ^ 31 by omega) (show 0 < 2 ^ 31 by decide), neq_iff (show B < 2 ^ 31 by omega) (show 0 < 2 ^ 31 by decide)]
    by_cases q1 : A + B = 0
    · rw [if_pos q1, if_pos q1]
    · rw [if_neg q1, if_neg q1]
      by_cases q2 : B = 0
      · rw [if_pos q2, if_pos q2]
      · rw [if_neg q2, if_neg q2]
        by_cases q3 : A = 0
        · rw [if_pos q3, if_pos q3]
        · rw [if_neg q3, if_neg q3]
  | succ z ih =>
    intro j c hj hc
    obtain ⟨c, rfl⟩ : ∃ z, c = z + 1 := ⟨c - 1, by omega⟩
    have hw : w j < 2 ^ n := by rw [hw0]; exact Nat.or_lt_two_pow (hb_lt _ _) (fM_lt j)
    have hp : 2 ^ n ≤ 2 ^ 15 := Nat.pow_le_pow_right (by omega) hn
    have hd := does_M (N := N) (by omega) hm hf h1 hA hT hn hw
    have hfl := fill_M (N := N) (by omega) hr hn e1 (show j < 2 ^ 31 by omega) hu
    have hs := ih (j + 1) c (by omega) (by omega)
    rw [show hb n (fun i => mSigns (15 * r + i)) ||| fM n (fun i => mSigns (15 * r + i)) j = w j by rw [hw0], ← hK] at hfl
    rw [fb_ct_succ, fb_ct_succ, show P j = hol tx m T n (w j) by rw [hP], tb_div] at hs
    rw [f_X11_sure_48, one_shl (by omega), if_neg (nI_ge (by omega) (by omega)), hfl, bnd_s, gIn_nI hr (by decide), cl_nI (by omega), e1, hd, bnd_s, nI_sub1 hi, shr_nI (by omega) (by omega), and1_nI]
    unfold f_X11_sure_114
    rw [nI_1]
    cases hh : hol tx m T n (w j) with
    | false =>
      rw [hh] at hs
      rw [if_pos (show bI false = 0 from rfl)]
      exact hs
    | true =>
      rw [hh] at hs
      rw [if_neg (show ¬ bI true = 0 by decide)]
      rcases bit01 (show w j / 2 ^ (n - 1 - i) % 2 < 2 by omega) with e | e
      · rw [e] at hs ⊢
        rw [show (1 : Int32) - nI 0 = 1 by decide, show nI 0 = 0 from rfl, i_add0, nI_1]
        exact hs
      · rw [e] at hs ⊢
        rw [show (1 : Int32) - nI 1 = 0 by decide, show nI 1 = 1 from rfl, i_add0, nI_1]
        exact hs
theorem p_sure {N : Nat} (hN : 40000 ≤ N) {xLen xHits xUns mSizes mSigns : Nat → Int32} (hr : RRow xLen xHits xUns mSizes mSigns) {T : Nat} (hT : 2 ≤ T ∧ T < 128) {tx : Nat → Nat} {m : Nat} {xLet xRel xLim xOpen : Nat → Int32} {xSL xST xSD xSK mTyped : Int32} {mText : Nat → Int32} {mFault mTests : Int32} {mTN mTS mTV mTB : Nat → Int32} {mRead : Int32} (hR : RTx tx m xLet xRel xLim xOpen xSL xST xSD xSK mTyped mText mFault mTests mTN mTS mTV mTB mRead) (mAt : Int32) (me ft us : Nat → Int32) (fa fe um : Int32) (x1 x2 : Int32) :
    ∃ o q, f_X10_sure N x1 x2 xLen xHits xUns xLet xRel xLim xOpen me xSL xST xSD xSK ft fa fe (nI T) = some o ∧ f_X11_sure N x1 x2 mSizes mSigns (nI T) mTyped mText mAt mFault mTests mTN mTS mTV mTB mRead us um = some q ∧ o.1 = q.1 ∧ RTx tx m xLet xRel xLim xOpen xSL xST xSD xSK mTyped mText q.2.2.1 q.2.2.2.1 q.2.2.2.2.1 q.2.2.2.2.2.1 q.2.2.2.2.2.2.1 q.2.2.2.2.2.2.2.1 q.2.2.2.2.2.2.2.2.1 := by
  unfold f_X10_sure f_X11_sure
  rcases row_cases x1 with ⟨r, h1, rfl, h2, h3⟩ | ⟨h2, h3⟩
  · obtain ⟨n, h, u, n1, n2, n3, n4, n5, n6, n7, n8, n9, n10, n11, n12, n13⟩ := row_at hr (show 50 ≤ N by omega) h1
    have hp : 2 ^ n ≤ 2 ^ 15 := Nat.pow_le_pow_right (by omega) n1
    rw [h2, h3, bnd_s, bnd_s, if1_0, if1_0]
    by_cases hx : 0 ≤ x2
    · obtain ⟨i, hi, rfl⟩ := nI_of (x := x2) (fun q => by
        rw [fa_lt] at q
        rw [fa_le] at hx
        omega)
      obtain ⟨us', g1, g2⟩ := gath_ok (N := N) (mSigns := mSigns) (by omega) h1 n1 n7 us um
      have hl := uc_le n (fun i => mSigns (15 * r + i))
      obtain ⟨q, a1, a2, a3, a4⟩ := now_M (N := N) (by omega) hR mAt
      obtain ⟨r1, r2, r3, r4, r5, r6, r7⟩ := id hR
      rw [if_pos hx, if_pos hx, gIn_nI h1 (by decide), cl_nI (by omega), a1, bnd_s, a2, r5, faulty_X r1 r6, bnd_s]
      by_cases hf : fpl tx m = -1
      · obtain ⟨b1, b2⟩ := a4 hf
        rw [if_pos hf, if_pos hf, if0_0, gIn_nI h1 (by decide), n7, n4]
        by_cases hin : i < n
        · obtain ⟨o, a, e, c1, c2, c3, c4, c5⟩ := fl_ok (g := fun i => mSigns (15 * r + i)) (N := N) hN r1 hf r6 hT n1 n2 n4 n5 (n6.trans (congrArg nI n12)) ft me fa fe
          have hk : 2 ^ uc n (fun i => mSigns (15 * r + i)) ≤ 2 ^ 15 := Nat.pow_le_pow_right (by omega) (by omega)
          obtain ⟨t1, t2⟩ := c5 (n - 1 - i) (by omega)
          have hct := fill_ct (g := fun i => mSigns (15 * r + i)) n1 (fun x => hol tx m T n (h ||| x))
          have k0 := enum_ct (n := n) (g := fun i => mSigns (15 * r + i)) (fun x => hol tx m T n (h ||| x) && !(h ||| x).testBit (n - 1 - i))
          have k1 := enum_ct (n := n) (g := fun i => mSigns (15 * r + i)) (fun x => hol tx m T n (h ||| x) && (h ||| x).testBit (n - 1 - i))
          have hlt := fb_ct_le (fun y => hol tx m T n (h ||| fM n (fun i => mSigns (15 * r + i)) y)) (2 ^ uc n (fun i => mSigns (15 * r + i)))
          have hsu := suM_loop (mTyped := mTyped) (mText := mText) (mAt := q.2.1) (mFault := q.2.2.1) (mRead := q.2.2.2.2.2.2.2.2) hN h1 n1 hin n7 g2 r1 hf b1 b2 hT rfl rfl rfl (2 ^ uc n (fun i => mSigns (15 * r + i))) 0 N (by omega) (by omega)
          rw [← n11] at hsu
          rw [if_pos (nI_lt hin (by omega)), if_pos (nI_lt hin (by omega)), c1, bnd_s, sum_ok (by omega) c4, bnd_s, g1, bnd_s, hct, c2, c3, nI_sub1 hin, one_shl (by omega)]
          simp only [fa_bit (show n - 1 - i < 31 by omega)]
          rw [show (0 : Int32) = nI 0 from rfl] at hsu ⊢
          simp only [neq_iff (show fb_ct (fun y => hol tx m T n (h ||| fM n (fun i => mSigns (15 * r + i)) y)) (2 ^ uc n (fun i => mSigns (15 * r + i))) < 2 ^ 31 by omega) (show 0 < 2 ^ 31 by decide)]
          have t1' : a.testBit (n - 1 - i) = decide (fb_ct (fun y => hol tx m T n (h ||| fM n (fun i => mSigns (15 * r + i)) y) && !(h ||| fM n (fun i => mSigns (15 * r + i)) y).testBit (n - 1 - i)) (2 ^ uc n (fun i => mSigns (15 * r + i))) = 0) := by
            rw [k0]; exact t1
          have t2' : e.testBit (n - 1 - i) = decide (0 < fb_ct (fun y => hol tx m T n (h ||| fM n (fun i => mSigns (15 * r + i)) y) && (h ||| fM n (fun i => mSigns (15 * r + i)) y).testBit (n - 1 - i)) (2 ^ uc n (fun i => mSigns (15 * r + i)))) := by
            rw [k1]; exact t2
          rw [t1', t2', ← r5]
          refine ⟨(_, o.1, o.2.1, nI a, nI e), _, ?_, hsu, rfl, a3⟩
          · simp only [decide_eq_false_iff_not, Nat.not_lt, Nat.le_zero]
            repeat' split
            all_goals first | rfl | (exfalso; omega)
        · rw [if_neg (nI_nlt (by omega) hi), if_neg (nI_nlt (by omega) hi), ← r5]
          exact ⟨_, _, rfl, rfl, rfl, a3⟩
      · rw [if_neg hf, if_neg hf, if1_0, ← r5]
        exact ⟨_, _, rfl, rfl, rfl, a3⟩
    · rw [if_neg hx, if_neg hx]
      exact ⟨_, _, rfl, rfl, rfl, hR⟩
  · rw [h2, h3, bnd_s, bnd_s, if0_0, if0_0]
    exact ⟨_, _, rfl, rfl, rfl, hR⟩
