/-! pure rows: nth, share -/
theorem i_add0 (y : Int32) : y + 0 = y := by simp
theorem nth_loop {N n T m : Nat} {tx : Nat → Nat} {xLet xRel xLim xOpen : Nat → Int32} {xSL xST xSD xSK : Int32} {mTyped mAt mFault mTests mRead : Int32} {mText mTN mTS mTV mTB : Nat → Int32} (hN : 40000 ≤ N) (hm : m ≤ 60) (hf : fpl tx m = -1) (hR : RXt xLet xRel xLim xOpen xST xSD xSK (pm tx m)) (h1 : mTests = nI (pm tx m).2.1) (hA : AG (pm tx m).2.1 mTN mTS mTV mTB (pm tx m).2.2.2.1 (pm tx m).2.2.2.2.1 (pm tx m).2.2.2.2.2.1 (pm tx m).2.2.2.2.2.2) (hT : 2 ≤ T ∧ T < 128) (hn : n ≤ 15) {i : Nat} (hi : i < 2 ^ 31) :
    ∀ (z j c a : Nat) (me : Nat → Int32), j + z = 2 ^ n → z < c → a ≤ i → ∃ o, f_X10_nth_32 N c (nI n) (nI i) (nI a) (nI j) xLet xRel xLim xOpen me xSL xST xSD xSK (nI T) = some o ∧ f_X11_nth_33 N c (nI n) (nI (i - a)) (nI j) (nI T) mTyped mText mAt mFault mTests mTN mTS mTV mTB mRead = some (o.1, mAt, mFault, mTests, mTN, mTS, mTV, mTB, mRead) := by
  have hp : 2 ^ n ≤ 2 ^ 15 := Nat.pow_le_pow_right (by omega) hn
  intro z
  induction z with
  | zero =>
    intro j c a me hj hc ha
    obtain ⟨c, rfl⟩ : ∃ z, c = z + 1 := ⟨c - 1, by omega⟩
    obtain rfl : j = 2 ^ n := by omega
    rw [f_X10_nth_32, f_X11_nth_33, one_shl (by omega), if_pos (nI_le (Nat.le_refl _) (by omega)), if_pos (nI_le (Nat.le_refl _) (by omega))]
    exact ⟨_, rfl, rfl⟩
  | succ z ih =>
    intro j c a me hj hc ha
    obtain ⟨c, rfl⟩ : ∃ z, c = z + 1 := ⟨c - 1, by omega⟩
    have hd := does_M (N := N) (by omega) hm hf h1 hA hT hn (show j < 2 ^ n by omega)
    obtain ⟨o, c1, c2⟩ := hold_X (N := N) (by omega) hm hf hR hT hn (show j < 2 ^ n by omega) me
    rw [f_X10_nth_32, f_X11_nth_33, one_shl (by omega), if_neg (nI_ge (by omega) (by omega)), if_neg (nI_ge (by omega) (by omega)), c1, hd, bnd_s, bnd_s, c2]
    unfold f_X11_nth_57 f_X10_nth_72
    rw [nI_1, nI_1]
    cases hol tx m T n j with
    | false =>
      rw [if_pos (show bI false = 0 from rfl), if_pos (show bI false = 0 from rfl), show ∀ y : Int32, y - 0 = y from fun y => by simp, if_pos (nI_pos' (by omega))]
      exact ih (j + 1) c a o.2 (by omega) (by omega) ha
    | true =>
      rw [if_neg (show ¬ bI true = 0 by decide), if_neg (show ¬ bI true = 0 by decide)]
      by_cases e : a = i
      · subst e
        rw [if_pos rfl, Nat.sub_self, if_neg (show ¬ (0 : Int32) ≤ nI 0 - 1 by decide), one_shl (by omega)]
        refine ⟨_, rfl, ?_⟩
        have := fa_or_sum (a := j) (k := n) 1 (by omega)
        rw [Nat.mul_one] at this
        rw [this, nI_add]
      · rw [if_neg (fun q => e ((nI_eq (by omega) hi).mp q)), show i - a = (i - (a + 1)) + 1 by omega, nI_pred, if_pos (nI_pos' (by omega))]
        exact ih (j + 1) c (a + 1) o.2 (by omega) (by omega) (by omega)
theorem p_nth {N : Nat} (hN : 40000 ≤ N) {T : Nat} (hT : 2 ≤ T ∧ T < 128) {tx : Nat → Nat} {m : Nat} {xLet xRel xLim xOpen : Nat → Int32} {xSL xST xSD xSK mTyped : Int32} {mText : Nat → Int32} {mFault mTests : Int32} {mTN mTS mTV mTB : Nat → Int32} {mRead : Int32} (hR : RTx tx m xLet xRel xLim xOpen xSL xST xSD xSK mTyped mText mFault mTests mTN mTS mTV mTB mRead) (mAt : Int32) (me : Nat → Int32) (x1 x2 : Int32) :
    ∃ o q, f_X10_nth N x1 x2 xLet xRel xLim xOpen me xSL xST xSD xSK (nI T) = some o ∧ f_X11_nth N x1 x2 (nI T) mTyped mText mAt mFault mTests mTN mTS mTV mTB mRead = some q ∧ o.1 = q.1 ∧ RTx tx m xLet xRel xLim xOpen xSL xST xSD xSK mTyped mText q.2.2.1 q.2.2.2.1 q.2.2.2.2.1 q.2.2.2.2.2.1 q.2.2.2.2.2.2.1 q.2.2.2.2.2.2.2.1 q.2.2.2.2.2.2.2.2 := by
  unfold f_X10_nth f_X11_nth
  rcases len16_cases x1 with ⟨n, hn, rfl, h2, h3⟩ | ⟨h2, h3⟩
  · rw [h2, h3, bnd_s, bnd_s, if1_0, if1_0]
    by_cases h : 0 ≤ x2
    · obtain ⟨i, hi, rfl⟩ := nI_of (x := x2) (fun q => by
        rw [fa_lt] at q
        rw [fa_le] at h
        omega)
      obtain ⟨q, a1, a2, a3, a4⟩ := now_M (N := N) (by omega) hR mAt
      obtain ⟨r1, r2, r3, r4, r5, r6, r7⟩ := id hR
      rw [if_pos h, if_pos h, a1, bnd_s, a2, r5, faulty_X r1 r6, bnd_s]
      by_cases hf : fpl tx m = -1
      · obtain ⟨b1, b2⟩ := a4 hf
        rw [if_pos hf, if_pos hf, if0_0]
        have hp : 2 ^ n ≤ 2 ^ 15 := Nat.pow_le_pow_right (by omega) hn
        obtain ⟨o, c1, c2⟩ := nth_loop (xSL := nI m) (mTyped := mTyped) (mAt := q.2.1) (mFault := q.2.2.1) (mRead := q.2.2.2.2.2.2.2.2) (mText := mText) hN r1 hf r6 b1 b2 hT hn hi (2 ^ n) 0 N 0 me (by omega) (by omega) (by omega)
        exact ⟨_, _, c1, c2, rfl, by rw [← r5]; exact a3⟩
      · rw [if_neg hf, if_neg hf, if1_0]
        exact ⟨_, _, rfl, rfl, rfl, by rw [← r5]; exact a3⟩
    · rw [if_neg h, if_neg h]
      exact ⟨_, _, rfl, rfl, rfl, hR⟩
  · rw [h2, h3, bnd_s, bnd_s, if0_0, if0_0]
    exact ⟨_, _, rfl, rfl, rfl, hR⟩
/-- the share of n signs: X's loop over tallies -/
theorem part_loop {N n p : Nat} {gf : Nat → Int32} {f : Nat → Nat} {x3 : Int32} (hN : 200 ≤ N) (hn : n ≤ 15) (hp : 1 ≤ p ∧ p ≤ 15) (hg : ∀ k, k < 16 → gf k = nI (f k) ∧ f k < 2 ^ 31) : ∀ (z j c : Nat), j + z = n + 1 → z < c → f_X9_sharePart_6 N gf c (nI n) (nI p) x3 (lN (fb_sm (fun k => f k * (p ^ k * (16 - p) ^ (n - k))) j)) (nI j) = f_X9_sharePart_60 N gf (nI n) x3 (lN (fb_sm (fun k => f k * (p ^ k * (16 - p) ^ (n - k))) (n + 1))) := by
  intro z
  induction z with
  | zero =>
    intro j c hj hc
    obtain ⟨c, rfl⟩ : ∃ z, c = z + 1 := ⟨c - 1, by omega⟩
    obtain rfl : j = n + 1 := by omega
    rw [f_X9_sharePart_6, if_pos (nI_lt (by omega) (by omega))]
  | succ z ih =>
    intro j c hj hc
    obtain ⟨c, rfl⟩ : ∃ z, c = z + 1 := ⟨c - 1, by omega⟩
    obtain ⟨g1, g2⟩ := hg j (by omega)
    rw [f_X9_sharePart_6, if_neg (nI_nlt (by omega) (by omega)), if_neg (show ¬ (16 : Int32) ≤ nI j from nI_ge (b := 16) (by omega) (by decide)), nI_l (by omega), pow_X (by omega) (by omega), bnd_s, show (16 : Int32) - nI p = nI (16 - p) from pk_sub (a := 16) (by omega), nI_l (by omega), pk_sub (by omega), pow_X (by omega) (by omega), bnd_s, gIn_nI (by omega) (by decide), cl_nI (by omega), g1, nI_l g2, lN_mul, lN_mul, lN_add, nI_1]
    exact ih (j + 1) c (by omega) (by omega)
theorem l16 : (16 : Int64) = lN 16 := by decide
theorem p16 {n : Nat} (hn : n ≤ 15) : 0 < 16 ^ n ∧ 16 ^ n < 2 ^ 63 := by
  refine ⟨Nat.pow_pos (by decide), ?_⟩
  have : 16 ^ n ≤ 16 ^ 15 := Nat.pow_le_pow_right (by decide) hn
  exact Nat.lt_of_le_of_lt this (by decide)
theorem part_ok {N n p : Nat} {gf : Nat → Int32} {f : Nat → Nat} {x3 : Int32} (hN : 200 ≤ N) (hn : n ≤ 15) (hp : 1 ≤ p ∧ p ≤ 15) (hg : ∀ k, k < 16 → gf k = nI (f k) ∧ f k < 2 ^ 31) {A : Nat} (hA : fb_sm (fun k => f k * (p ^ k * (16 - p) ^ (n - k))) (n + 1) = A) (hA2 : A ≤ 16 ^ n) : f_X9_sharePart N (nI n) (nI p) x3 gf = some (frc A (16 ^ n) x3) := by
  obtain ⟨q1, q2⟩ := p16 hn
  unfold f_X9_sharePart
  have := part_loop (x3 := x3) hN hn hp hg (n + 1) 0 N (by omega) (by omega)
  rw [hA] at this
  refine Eq.trans this ?_
  unfold f_X9_sharePart_60
  rw [l16, pow_X (by omega) (by omega), bnd_s, part_X hN (by omega) q2 (by omega), bnd_s]
theorem share_loop {N n p T m : Nat} {tx : Nat → Nat} {x2 mTyped mAt mFault mTests mRead : Int32} {mText mTN mTS mTV mTB : Nat → Int32} (hN : 40000 ≤ N) (hm : m ≤ 60) (hf : fpl tx m = -1) (h1 : mTests = nI (pm tx m).2.1) (hA : AG (pm tx m).2.1 mTN mTS mTV mTB (pm tx m).2.2.2.1 (pm tx m).2.2.2.2.1 (pm tx m).2.2.2.2.2.1 (pm tx m).2.2.2.2.2.2) (hT : 2 ≤ T ∧ T < 128) (hn : n ≤ 15) (hp : 1 ≤ p ∧ p ≤ 15) {A : Nat} (hA1 : fb_sm (fun b => if hol tx m T n b then p ^ pop b * (16 - p) ^ (n - pop b) else 0) (2 ^ n) = A) (hA2 : A ≤ 16 ^ n) :
    ∀ (z j c : Nat), j + z = 2 ^ n → z < c → f_X11_share_44 N c (nI n) x2 (lN (fb_sm (fun b => if hol tx m T n b then p ^ pop b * (16 - p) ^ (n - pop b) else 0) j)) (nI j) (nI p) (nI T) mTyped mText mAt mFault mTests mTN mTS mTV mTB mRead = some (frc A (16 ^ n) x2, mAt, mFault, mTests, mTN, mTS, mTV, mTB, mRead) := by
  have hpn : 2 ^ n ≤ 2 ^ 15 := Nat.pow_le_pow_right (by omega) hn
  intro z
  induction z with
  | zero =>
    intro j c hj hc
    obtain ⟨c, rfl⟩ : ∃ z, c = z + 1 := ⟨c - 1, by omega⟩
    obtain rfl : j = 2 ^ n := by omega
    obtain ⟨q1, q2⟩ := p16 hn
    rw [f_X11_share_44, one_shl (by omega), if_pos (nI_le (Nat.le_refl _) (by omega)), l16, pow_M (by omega) (by omega), bnd_s, hA1, low_M (by omega) (by omega) q2 (by omega), bnd_s]
  | succ z ih =>
    intro j c hj hc
    obtain ⟨c, rfl⟩ : ∃ z, c = z + 1 := ⟨c - 1, by omega⟩
    have hd := does_M (N := N) (by omega) hm hf h1 hA hT hn (show j < 2 ^ n by omega)
    have hpj := pop_len hn (show j < 2 ^ n by omega)
    have hs := ih (j + 1) c (by omega) (by omega)
    rw [fb_sm_succ] at hs
    rw [f_X11_share_44, one_shl (by omega), if_neg (nI_ge (by omega) (by omega)), hd, bnd_s]
    unfold f_X11_share_99
    rw [nI_1]
    cases hh : hol tx m T n j with
    | false =>
      rw [hh] at hs
      rw [if_pos (show bI false = 0 from rfl), show ∀ y : Int64, y + 0 = y from fun y => by simp]
      exact hs
    | true =>
      rw [hh, if_pos rfl] at hs
      rw [if_neg (show ¬ bI true = 0 by decide), ones_ok (by omega) (by omega), bnd_s, show popN 16 j = pop j from rfl, nI_l (by omega), pow_M (by omega) (by omega), bnd_s, bnd_s, show (16 : Int32) - nI p = nI (16 - p) from pk_sub (a := 16) (by omega), nI_l (by omega), pk_sub hpj, pow_M (by omega) (by omega), bnd_s, lN_mul, lN_add]
      exact hs
theorem share_le {n p : Nat} (hn : n ≤ 15) (hp : 1 ≤ p ∧ p ≤ 15) (P : Nat → Bool) : fb_sm (fun b => if P b then p ^ pop b * (16 - p) ^ (n - pop b) else 0) (2 ^ n) ≤ 16 ^ n := by
  have := sm_bin p (16 - p) n hn
  rw [show p + (16 - p) = 16 by omega] at this
  rw [← this]
  apply fb_sm_le
  intro b _
  show (if P b then p ^ pop b * (16 - p) ^ (n - pop b) else 0) ≤ p ^ pop b * (16 - p) ^ (n - pop b)
  split
  · exact Nat.le_refl _
  · exact Nat.zero_le _
theorem tly_lt {tx : Nat → Nat} {m T n k : Nat} (hn : n ≤ 15) : tly tx m T n k < 2 ^ 31 := by
  have hpn : 2 ^ n ≤ 2 ^ 15 := Nat.pow_le_pow_right (by omega) hn
  have := fb_ct_le (fun b => hol tx m T n b && decide (pop b = k)) (2 ^ n)
  unfold tly
  omega
theorem no_ok (x : Int32) : f_X11_no x = f_X10_refusal x := by
  unfold f_X11_no f_X10_refusal
  rfl
theorem refusal_s (x : Int32) : ∃ r, f_X10_refusal x = some r := by
  unfold f_X10_refusal
  exact ⟨_, rfl⟩
theorem p_share {N : Nat} (hN : 40000 ≤ N) {T p : Nat} (hT : 2 ≤ T ∧ T < 128) (hp : 1 ≤ p ∧ p ≤ 15) {tx : Nat → Nat} {m : Nat} {xLet xRel xLim xOpen : Nat → Int32} {xSL xST xSD xSK mTyped : Int32} {mText : Nat → Int32} {mFault mTests : Int32} {mTN mTS mTV mTB : Nat → Int32} {mRead : Int32} (hR : RTx tx m xLet xRel xLim xOpen xSL xST xSD xSK mTyped mText mFault mTests mTN mTS mTV mTB mRead) {tl : Nat → Nat → Int32} {kn : Nat → Int32} (hS : RSn tx m T tl kn) (mAt : Int32) (me : Nat → Int32) (x1 x2 : Int32) :
    ∃ o q, f_X10_share N x1 x2 xLet xRel xLim xOpen me xSL xST xSD xSK tl kn (nI p) (nI T) = some o ∧ f_X11_share N x1 x2 (nI p) (nI T) mTyped mText mAt mFault mTests mTN mTS mTV mTB mRead = some q ∧ o.1 = q.1 ∧ RTx tx m xLet xRel xLim xOpen xSL xST xSD xSK mTyped mText q.2.2.1 q.2.2.2.1 q.2.2.2.2.1 q.2.2.2.2.2.1 q.2.2.2.2.2.2.1 q.2.2.2.2.2.2.2.1 q.2.2.2.2.2.2.2.2 ∧ RSn tx m T o.2.2.1 o.2.2.2 := by
  obtain ⟨v2, e2⟩ := refusal_s (-2)
  obtain ⟨v3, e3⟩ := refusal_s (-3)
  unfold f_X10_share f_X11_share
  rw [no_ok, no_ok, e2, e3]
  simp only [bnd_s]
  rcases len16_cases x1 with ⟨n, hn, rfl, h2, h3⟩ | ⟨h2, h3⟩
  · rw [h2, h3, bnd_s, bnd_s, if1_0, if1_0]
    rcases part_cases x2 with ⟨k0, k1, k2⟩ | ⟨k1, k2⟩
    · obtain ⟨q, a1, a2, a3, a4⟩ := now_M (N := N) (by omega) hR mAt
      obtain ⟨r1, r2, r3, r4, r5, r6, r7⟩ := id hR
      rw [k1, k2, bnd_s, bnd_s, if1_0, if1_0, a1, bnd_s, a2, r5, faulty_X r1 r6, bnd_s]
      by_cases hf : fpl tx m = -1
      · obtain ⟨b1, b2⟩ := a4 hf
        obtain ⟨o, c1, c2, c3⟩ := learn_ok hN r1 hf r6 hT hn hS me
        have hpn : 2 ^ n ≤ 2 ^ 15 := Nat.pow_le_pow_right (by omega) hn
        have ht : fb_sm (fun k => tly tx m T n k * (p ^ k * (16 - p) ^ (n - k))) (n + 1) = fb_sm (fun b => if hol tx m T n b then p ^ pop b * (16 - p) ^ (n - pop b) else 0) (2 ^ n) := tal_sum (fun b => hol tx m T n b) pop (fun k => p ^ k * (16 - p) ^ (n - k)) (n + 1) (2 ^ n) (fun b hb => by have := pop_len hn hb; omega)
        rw [if_pos hf, if_pos hf, if0_0, c1, bnd_s, gIn_nI (by omega) (by decide), cl_nI (by omega), part_ok (by omega) hn hp (fun k hk => ⟨c3 k hk, tly_lt hn⟩) ht (share_le hn hp _), bnd_s, ← r5]
        exact ⟨_, _, rfl, share_loop hN r1 hf b1 b2 hT hn hp rfl (share_le hn hp _) (2 ^ n) 0 N (by omega) (by omega), rfl, a3, c2⟩
      · rw [if_neg hf, if_neg hf, if1_0, ← r5]
        exact ⟨_, _, rfl, rfl, rfl, a3, hS⟩
    · rw [k1, k2, bnd_s, bnd_s, if0_0, if0_0]
      exact ⟨_, _, rfl, rfl, rfl, hR, hS⟩
  · rw [h2, h3, bnd_s, bnd_s, if0_0, if0_0]
    exact ⟨_, _, rfl, rfl, rfl, hR, hS⟩
