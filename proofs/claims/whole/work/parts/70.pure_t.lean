/-! pure rows: fills, filled, sure -/
theorem fill_ct {n : Nat} {g : Nat → Int32} (hn : n ≤ 15) (W : Nat → Bool) : fb_sm (fun k => fb_ct (fun c => W (dX n g c) && decide (pop (dX n g c) = k)) (2 ^ uc n g)) 16 = fb_ct (fun y => W (fM n g y)) (2 ^ uc n g) := by
  rw [tal_ct (fun c => W (dX n g c)) (fun c => pop (dX n g c)) 16 _ (fun b _ => by have := pop_len hn (dX_lt (n := n) (g := g) b); omega)]
  exact (enum_ct W).symm
theorem fill_sm {n : Nat} {g : Nat → Int32} (hn : n ≤ 15) (W : Nat → Bool) (p : Nat) : fb_sm (fun k => fb_ct (fun c => W (dX n g c) && decide (pop (dX n g c) = k)) (2 ^ uc n g) * (p ^ k * (16 - p) ^ (uc n g - k))) (uc n g + 1) = fb_sm (fun y => if W (fM n g y) then p ^ pop y * (16 - p) ^ (uc n g - pop y) else 0) (2 ^ uc n g) := by
  have hl := uc_le n g
  rw [tal_sum (fun c => W (dX n g c)) (fun c => pop (dX n g c)) (fun k => p ^ k * (16 - p) ^ (uc n g - k)) (uc n g + 1) (2 ^ uc n g) (fun b hb => by
    show pop (dX n g b) < _
    rw [pop_dX hn b hb]
    have := pop_len (n := uc n g) (by omega) hb
    omega)]
  have := enum_eq (n := n) (g := g) (fun x => if W x then p ^ pop x * (16 - p) ^ (uc n g - pop x) else 0)
  rw [← this]
  apply fb_sm_cong
  intro y hy
  show (if W (fM n g y) then p ^ pop (fM n g y) * (16 - p) ^ (uc n g - pop (fM n g y)) else 0) = _
  rw [pop_fM hn y hy]
theorem flM_loop {N r n T m : Nat} {tx : Nat → Nat} {mSizes mSigns us : Nat → Int32} {mTyped mAt mFault mTests mRead : Int32} {mText mTN mTS mTV mTB : Nat → Int32} (hN : 40000 ≤ N) (hr : r < 4) (hn : n ≤ 15) (e1 : mSizes r = nI n) (hu : ∀ k, k < uc n (fun i => mSigns (15 * r + i)) → us k = nI (uN n (fun i => mSigns (15 * r + i)) k)) (hm : m ≤ 60) (hf : fpl tx m = -1) (h1 : mTests = nI (pm tx m).2.1) (hA : AG (pm tx m).2.1 mTN mTS mTV mTB (pm tx m).2.2.2.1 (pm tx m).2.2.2.2.1 (pm tx m).2.2.2.2.2.1 (pm tx m).2.2.2.2.2.2) (hT : 2 ≤ T ∧ T < 128) {P : Nat → Bool} (hP : P = fun y => hol tx m T n (hb n (fun i => mSigns (15 * r + i)) ||| fM n (fun i => mSigns (15 * r + i)) y)) {K : Nat} (hK : K = uc n (fun i => mSigns (15 * r + i))) :
    ∀ (z j c : Nat), j + z = 2 ^ K → z < c → f_X11_fills_51 N c (nI r) (nI (fb_ct P j)) (nI j) mSizes mSigns (nI T) mTyped mText mAt mFault mTests mTN mTS mTV mTB mRead us (nI K) = some (nI (fb_ct P (2 ^ K)), mAt, mFault, mTests, mTN, mTS, mTV, mTB, mRead, us, nI K) := by
  have hl := uc_le n (fun i => mSigns (15 * r + i))
  have hk : 2 ^ K ≤ 2 ^ 15 := Nat.pow_le_pow_right (by omega) (by omega)
  intro z
  induction z with
  | zero =>
    intro j c hj hc
    obtain ⟨c, rfl⟩ : ∃ z, c = z + 1 := ⟨c - 1, by omega⟩
    obtain rfl : j = 2 ^ K := by omega
    rw [f_X11_fills_51, one_shl (by omega), if_pos (nI_le (Nat.le_refl _) (by omega))]
  | succ z ih =>
    intro j c hj hc
    obtain ⟨c, rfl⟩ : ∃ z, c = z + 1 := ⟨c - 1, by omega⟩
    have hw : hb n (fun i => mSigns (15 * r + i)) ||| fM n (fun i => mSigns (15 * r + i)) j < 2 ^ n := Nat.or_lt_two_pow (hb_lt _ _) (fM_lt j)
    have hd := does_M (N := N) (by omega) hm hf h1 hA hT hn hw
    have hs := ih (j + 1) c (by omega) (by omega)
    rw [fb_ct_succ, show P j = hol tx m T n (hb n (fun i => mSigns (15 * r + i)) ||| fM n (fun i => mSigns (15 * r + i)) j) by rw [hP]] at hs
    rw [f_X11_fills_51, one_shl (by omega), if_neg (nI_ge (by omega) (by omega)), show nI K = nI (uc n (fun i => mSigns (15 * r + i))) by rw [hK], fill_M (by omega) hr hn e1 (by omega) hu, bnd_s, gIn_nI hr (by decide), cl_nI (by omega), e1, hd, bnd_s, ← hK]
    unfold f_X11_fills_88
    rw [nI_1]
    cases hh : hol tx m T n (hb n (fun i => mSigns (15 * r + i)) ||| fM n (fun i => mSigns (15 * r + i)) j) with
    | false =>
      rw [hh] at hs
      rw [if_pos (show bI false = 0 from rfl), i_add0]
      exact hs
    | true =>
      rw [hh] at hs
      rw [if_neg (show ¬ bI true = 0 by decide), nI_1]
      exact hs
theorem p_fills {N : Nat} (hN : 40000 ≤ N) {xLen xHits xUns mSizes mSigns : Nat → Int32} (hr : RRow xLen xHits xUns mSizes mSigns) {T : Nat} (hT : 2 ≤ T ∧ T < 128) {tx : Nat → Nat} {m : Nat} {xLet xRel xLim xOpen : Nat → Int32} {xSL xST xSD xSK mTyped : Int32} {mText : Nat → Int32} {mFault mTests : Int32} {mTN mTS mTV mTB : Nat → Int32} {mRead : Int32} (hR : RTx tx m xLet xRel xLim xOpen xSL xST xSD xSK mTyped mText mFault mTests mTN mTS mTV mTB mRead) (mAt : Int32) (me ft us : Nat → Int32) (fa fe um : Int32) (x1 x2 : Int32) :
    ∃ o q, f_X10_fills N x1 x2 xLen xHits xUns xLet xRel xLim xOpen me xSL xST xSD xSK ft fa fe (nI T) = some o ∧ f_X11_fills N x1 x2 mSizes mSigns (nI T) mTyped mText mAt mFault mTests mTN mTS mTV mTB mRead us um = some q ∧ o.1 = q.1 ∧ RTx tx m xLet xRel xLim xOpen xSL xST xSD xSK mTyped mText q.2.2.1 q.2.2.2.1 q.2.2.2.2.1 q.2.2.2.2.2.1 q.2.2.2.2.2.2.1 q.2.2.2.2.2.2.2.1 q.2.2.2.2.2.2.2.2.1 := by
  unfold f_X10_fills f_X11_fills
  rcases row_cases x1 with ⟨r, h1, rfl, h2, h3⟩ | ⟨h2, h3⟩
  · obtain ⟨n, h, u, n1, n2, n3, n4, n5, n6, n7, n8, n9, n10, n11, n12, n13⟩ := row_at hr (show 50 ≤ N by omega) h1
    have hp : 2 ^ n ≤ 2 ^ 15 := Nat.pow_le_pow_right (by omega) n1
    rw [h2, h3, bnd_s, bnd_s, if1_0, if1_0]
    rcases part_cases x2 with ⟨k0, k1, k2⟩ | ⟨k1, k2⟩
    · obtain ⟨us', g1, g2⟩ := gath_ok (N := N) (mSigns := mSigns) (by omega) h1 n1 n7 us um
      rw [k1, k2, bnd_s, bnd_s, if1_0, if1_0, g1, bnd_s, gIn_nI h1 (by decide), cl_nI (by omega)]
      have hl := uc_le n (fun i => mSigns (15 * r + i))
      by_cases hw : x2 = 0
      · rw [if_pos hw, if_pos hw, n6, bc_ok (by omega), bnd_s, n12, pop_ub n1]
        exact ⟨_, _, rfl, rfl, rfl, hR⟩
      · obtain ⟨q, a1, a2, a3, a4⟩ := now_M (N := N) (by omega) hR mAt
        obtain ⟨r1, r2, r3, r4, r5, r6, r7⟩ := id hR
        rw [if_neg hw, if_neg hw, a1, bnd_s, a2, r5, faulty_X r1 r6, bnd_s]
        by_cases hf : fpl tx m = -1
        · obtain ⟨b1, b2⟩ := a4 hf
          obtain ⟨o, a, e, c1, c2, c3, c4, c5⟩ := fl_ok (g := fun i => mSigns (15 * r + i)) (N := N) hN r1 hf r6 hT n1 n2 n4 n5 (n6.trans (congrArg nI n12)) ft me fa fe
          have hk : 2 ^ uc n (fun i => mSigns (15 * r + i)) ≤ 2 ^ 15 := Nat.pow_le_pow_right (by omega) (by omega)
          rw [if_pos hf, if_pos hf, if0_0, gIn_nI h1 (by decide), c1, bnd_s, sum_ok (by omega) c4, bnd_s, ← r5]
          refine ⟨_, _, rfl, flM_loop hN h1 n1 n7 g2 r1 hf b1 b2 hT rfl rfl (2 ^ uc n (fun i => mSigns (15 * r + i))) 0 N (by omega) (by omega), ?_, a3⟩
          rw [← n11]
          exact congrArg nI (fill_ct n1 (fun x => hol tx m T n (h ||| x)))
        · rw [if_neg hf, if_neg hf, if1_0, ← r5]
          exact ⟨_, _, rfl, rfl, rfl, a3⟩
    · rw [k1, k2, bnd_s, bnd_s, if0_0, if0_0]
      exact ⟨_, _, rfl, rfl, rfl, hR⟩
  · rw [h2, h3, bnd_s, bnd_s, if0_0, if0_0]
    exact ⟨_, _, rfl, rfl, rfl, hR⟩
theorem fdM_loop {N r n T m p : Nat} {tx : Nat → Nat} {mSizes mSigns us : Nat → Int32} {x2 mTyped mAt mFault mTests mRead : Int32} {mText mTN mTS mTV mTB : Nat → Int32} (hN : 40000 ≤ N) (hr : r < 4) (hn : n ≤ 15) (e1 : mSizes r = nI n) (hu : ∀ k, k < uc n (fun i => mSigns (15 * r + i)) → us k = nI (uN n (fun i => mSigns (15 * r + i)) k)) (hm : m ≤ 60) (hf : fpl tx m = -1) (h1 : mTests = nI (pm tx m).2.1) (hA : AG (pm tx m).2.1 mTN mTS mTV mTB (pm tx m).2.2.2.1 (pm tx m).2.2.2.2.1 (pm tx m).2.2.2.2.2.1 (pm tx m).2.2.2.2.2.2) (hT : 2 ≤ T ∧ T < 128) (hp : 1 ≤ p ∧ p ≤ 15) {P : Nat → Bool} (hP : P = fun y => hol tx m T n (hb n (fun i => mSigns (15 * r + i)) ||| fM n (fun i => mSigns (15 * r + i)) y)) {K : Nat} (hK : K = uc n (fun i => mSigns (15 * r + i))) {A : Nat} (hA1 : fb_sm (fun y => if P y then p ^ pop y * (16 - p) ^ (K - pop y) else 0) (2 ^ K) = A) (hA2 : A ≤ 16 ^ K) :
    ∀ (z j c : Nat), j + z = 2 ^ K → z < c → f_X11_filled_46 N c (nI r) x2 (lN (fb_sm (fun y => if P y then p ^ pop y * (16 - p) ^ (K - pop y) else 0) j)) (nI j) mSizes mSigns (nI p) (nI T) mTyped mText mAt mFault mTests mTN mTS mTV mTB mRead us (nI K) = some (frc A (16 ^ K) x2, mAt, mFault, mTests, mTN, mTS, mTV, mTB, mRead, us, nI K) := by
  have hl := uc_le n (fun i => mSigns (15 * r + i))
  have hk : 2 ^ K ≤ 2 ^ 15 := Nat.pow_le_pow_right (by omega) (by omega)
  intro z
  induction z with
  | zero =>
    intro j c hj hc
    obtain ⟨c, rfl⟩ : ∃ z, c = z + 1 := ⟨c - 1, by omega⟩
    obtain rfl : j = 2 ^ K := by omega
    obtain ⟨q1, q2⟩ := p16 (n := K) (by omega)
    rw [f_X11_filled_46, one_shl (by omega), if_pos (nI_le (Nat.le_refl _) (by omega)), l16, pow_M (by omega) (by omega), bnd_s, hA1, low_M (by omega) (by omega) q2 (by omega), bnd_s]
  | succ z ih =>
    intro j c hj hc
    obtain ⟨c, rfl⟩ : ∃ z, c = z + 1 := ⟨c - 1, by omega⟩
    have hw : hb n (fun i => mSigns (15 * r + i)) ||| fM n (fun i => mSigns (15 * r + i)) j < 2 ^ n := Nat.or_lt_two_pow (hb_lt _ _) (fM_lt j)
    have hd := does_M (N := N) (by omega) hm hf h1 hA hT hn hw
    have hs := ih (j + 1) c (by omega) (by omega)
    have hpj := pop_len (n := K) (by omega) (show j < 2 ^ K by omega)
    rw [fb_sm_succ, show P j = hol tx m T n (hb n (fun i => mSigns (15 * r + i)) ||| fM n (fun i => mSigns (15 * r + i)) j) by rw [hP]] at hs
    rw [f_X11_filled_46, one_shl (by omega), if_neg (nI_ge (by omega) (by omega)), show nI K = nI (uc n (fun i => mSigns (15 * r + i))) by rw [hK], fill_M (by omega) hr hn e1 (by omega) hu, bnd_s, gIn_nI hr (by decide), cl_nI (by omega), e1, hd, bnd_s, ← hK]
    unfold f_X11_filled_117
    rw [nI_1]
    cases hh : hol tx m T n (hb n (fun i => mSigns (15 * r + i)) ||| fM n (fun i => mSigns (15 * r + i)) j) with
    | false =>
      rw [hh] at hs
      rw [if_pos (show bI false = 0 from rfl), show ∀ y : Int64, y + 0 = y from fun y => by simp]
      exact hs
    | true =>
      rw [hh, if_pos rfl] at hs
      rw [if_neg (show ¬ bI true = 0 by decide), ones_ok (by omega) (by omega), bnd_s, show popN 16 j = pop j from rfl, nI_l (by omega), pow_M (by omega) (by omega), bnd_s, bnd_s, show (16 : Int32) - nI p = nI (16 - p) from pk_sub (a := 16) (by omega), nI_l (by omega), pk_sub hpj, pow_M (by omega) (by omega), bnd_s, lN_mul, lN_add]
      exact hs
theorem p_filled {N : Nat} (hN : 40000 ≤ N) {xLen xHits xUns mSizes mSigns : Nat → Int32} (hr : RRow xLen xHits xUns mSizes mSigns) {T p : Nat} (hT : 2 ≤ T ∧ T < 128) (hp : 1 ≤ p ∧ p ≤ 15) {tx : Nat → Nat} {m : Nat} {xLet xRel xLim xOpen : Nat → Int32} {xSL xST xSD xSK mTyped : Int32} {mText : Nat → Int32} {mFault mTests : Int32} {mTN mTS mTV mTB : Nat → Int32} {mRead : Int32} (hR : RTx tx m xLet xRel xLim xOpen xSL xST xSD xSK mTyped mText mFault mTests mTN mTS mTV mTB mRead) (mAt : Int32) (me ft us : Nat → Int32) (fa fe um : Int32) (x1 x2 : Int32) :
    ∃ o q, f_X10_filled N x1 x2 xLen xHits xUns xLet xRel xLim xOpen me xSL xST xSD xSK ft fa fe (nI p) (nI T) = some o ∧ f_X11_filled N x1 x2 mSizes mSigns (nI p) (nI T) mTyped mText mAt mFault mTests mTN mTS mTV mTB mRead us um = some q ∧ o.1 = q.1 ∧ RTx tx m xLet xRel xLim xOpen xSL xST xSD xSK mTyped mText q.2.2.1 q.2.2.2.1 q.2.2.2.2.1 q.2.2.2.2.2.1 q.2.2.2.2.2.2.1 q.2.2.2.2.2.2.2.1 q.2.2.2.2.2.2.2.2.1 := by
  obtain ⟨v2, e2⟩ := refusal_s (-2)
  obtain ⟨v3, e3⟩ := refusal_s (-3)
  unfold f_X10_filled f_X11_filled
  rw [no_ok, no_ok, e2, e3]
  simp only [bnd_s]
  rcases row_cases x1 with ⟨r, h1, rfl, h2, h3⟩ | ⟨h2, h3⟩
  · obtain ⟨n, h, u, n1, n2, n3, n4, n5, n6, n7, n8, n9, n10, n11, n12, n13⟩ := row_at hr (show 50 ≤ N by omega) h1
    have hpn : 2 ^ n ≤ 2 ^ 15 := Nat.pow_le_pow_right (by omega) n1
    rw [h2, h3, bnd_s, bnd_s, if1_0, if1_0]
    rcases part_cases x2 with ⟨k0, k1, k2⟩ | ⟨k1, k2⟩
    · obtain ⟨us', g1, g2⟩ := gath_ok (N := N) (mSigns := mSigns) (by omega) h1 n1 n7 us um
      have hl := uc_le n (fun i => mSigns (15 * r + i))
      obtain ⟨q, a1, a2, a3, a4⟩ := now_M (N := N) (by omega) hR mAt
      obtain ⟨r1, r2, r3, r4, r5, r6, r7⟩ := id hR
      rw [k1, k2, bnd_s, bnd_s, if1_0, if1_0, a1, bnd_s, a2, r5, faulty_X r1 r6, bnd_s]
      by_cases hf : fpl tx m = -1
      · obtain ⟨b1, b2⟩ := a4 hf
        obtain ⟨o, a, e, c1, c2, c3, c4, c5⟩ := fl_ok (g := fun i => mSigns (15 * r + i)) (N := N) hN r1 hf r6 hT n1 n2 n4 n5 (n6.trans (congrArg nI n12)) ft me fa fe
        have hk : 2 ^ uc n (fun i => mSigns (15 * r + i)) ≤ 2 ^ 15 := Nat.pow_le_pow_right (by omega) (by omega)
        have hA2 := share_le (n := uc n (fun i => mSigns (15 * r + i))) (by omega) hp (fun y => hol tx m T n (h ||| fM n (fun i => mSigns (15 * r + i)) y))
        have ht := fill_sm (g := fun i => mSigns (15 * r + i)) n1 (fun x => hol tx m T n (h ||| x)) p
        have hlt : ∀ k, fb_ct (fun c => hol tx m T n (h ||| dX n (fun i => mSigns (15 * r + i)) c) && decide (pop (dX n (fun i => mSigns (15 * r + i)) c) = k)) (2 ^ uc n (fun i => mSigns (15 * r + i))) < 2 ^ 31 := fun k => by
          have := fb_ct_le (fun c => hol tx m T n (h ||| dX n (fun i => mSigns (15 * r + i)) c) && decide (pop (dX n (fun i => mSigns (15 * r + i)) c) = k)) (2 ^ uc n (fun i => mSigns (15 * r + i)))
          omega
        rw [if_pos hf, if_pos hf, if0_0, gIn_nI h1 (by decide), cl_nI (by omega), c1, bnd_s, n6, bc_ok (by omega), bnd_s, n12, pop_ub n1, g1, bnd_s, part_ok (by omega) (by omega) hp (fun k hk => ⟨c4 k hk, hlt k⟩) ht hA2, bnd_s, ← r5]
        rw [n11] at hA2 ⊢
        exact ⟨_, _, rfl, fdM_loop hN h1 n1 n7 g2 r1 hf b1 b2 hT hp rfl rfl rfl hA2 (2 ^ uc n (fun i => mSigns (15 * r + i))) 0 N (by omega) (by omega), rfl, a3⟩
      · rw [if_neg hf, if_neg hf, if1_0, ← r5]
        exact ⟨_, _, rfl, rfl, rfl, a3⟩
    · rw [k1, k2, bnd_s, bnd_s, if0_0, if0_0]
      exact ⟨_, _, rfl, rfl, rfl, hR⟩
  · rw [h2, h3, bnd_s, bnd_s, if0_0, if0_0]
    exact ⟨_, _, rfl, rfl, rfl, hR⟩
