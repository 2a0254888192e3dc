/-! pure rows: tallies; shown -/
theorem sm_mul (c : Nat) (f : Nat → Nat) : ∀ n, fb_sm (fun k => f k * c) n = fb_sm f n * c := by
  intro n
  induction n with
  | zero => exact (Nat.zero_mul c).symm
  | succ n ih => rw [fb_sm_succ, fb_sm_succ, ih, Nat.add_mul]
theorem sm_one (g : Nat) (w : Nat → Nat) : ∀ K, fb_sm (fun k => (if g = k then 1 else 0) * w k) K = if g < K then w g else 0 := by
  intro K
  induction K with
  | zero => rw [if_neg (by omega)]; rfl
  | succ K ih =>
    rw [fb_sm_succ, ih]
    by_cases h : g = K
    · subst h
      rw [if_neg (by omega), if_pos rfl, if_pos (by omega)]
      omega
    · by_cases h2 : g < K
      · rw [if_pos h2, if_neg h, if_pos (by omega)]; omega
      · rw [if_neg h2, if_neg h, if_neg (by omega)]; omega
theorem tal_sum (P : Nat → Bool) (g w : Nat → Nat) (K : Nat) : ∀ M, (∀ b, b < M → g b < K) → fb_sm (fun k => fb_ct (fun b => P b && decide (g b = k)) M * w k) K = fb_sm (fun b => if P b then w (g b) else 0) M := by
  intro M
  induction M with
  | zero =>
    intro _
    show fb_sm (fun k => 0 * w k) K = 0
    rw [fb_sm_cong (g := fun _ => 0) (fun k _ => by omega), fb_sm_const]
    omega
  | succ M ih =>
    intro h
    rw [fb_sm_succ, ← ih (fun b hb => h b (by omega))]
    have e1 : fb_sm (fun k => fb_ct (fun b => P b && decide (g b = k)) (M + 1) * w k) K = fb_sm (fun k => fb_ct (fun b => P b && decide (g b = k)) M * w k + (if P M then (if g M = k then 1 else 0) * w k else 0)) K := by
      apply fb_sm_cong
      intro k _
      rw [fb_ct_succ, Nat.add_mul]
      cases P M with
      | false => simp
      | true => simp
    rw [e1, fb_sm_add]
    congr 1
    cases P M with
    | false =>
      simp only [Bool.false_eq_true, if_false]
      rw [fb_sm_const]
      omega
    | true =>
      simp only [if_true]
      rw [sm_one, if_pos (h M (by omega))]
theorem tal_ct (P : Nat → Bool) (g : Nat → Nat) (K M : Nat) (h : ∀ b, b < M → g b < K) : fb_sm (fun k => fb_ct (fun b => P b && decide (g b = k)) M) K = fb_ct P M := by
  have := tal_sum P g (fun _ => 1) K M h
  rw [fb_sm_cong (g := fun k => fb_ct (fun b => P b && decide (g b = k)) M) (fun k _ => Nat.mul_one _)] at this
  rw [this]
  clear this h
  induction M with
  | zero => rfl
  | succ M ih => rw [fb_sm_succ, fb_ct_succ, ih]
theorem pop_len {n b : Nat} (hn : n ≤ 15) (hb : b < 2 ^ n) : pop b ≤ n := by
  rw [pop_of hb (by omega)]
  exact popN_le n b
theorem sm_pair (f : Nat → Nat) : ∀ M, fb_sm f (2 * M) = fb_sm (fun b => f (2 * b) + f (2 * b + 1)) M := by
  intro M
  induction M with
  | zero => rfl
  | succ M ih => rw [fb_sm_succ, ← ih, show 2 * (M + 1) = 2 * M + 1 + 1 by omega, fb_sm_succ, fb_sm_succ]; omega
/-- the whole of all rows of n signs, by their odds -/
theorem sm_bin (p q : Nat) : ∀ n, n ≤ 15 → fb_sm (fun b => p ^ pop b * q ^ (n - pop b)) (2 ^ n) = (p + q) ^ n := by
  intro n
  induction n with
  | zero =>
    intro _
    show 0 + p ^ pop 0 * q ^ (0 - pop 0) = 1
    rw [pop_0]
    rfl
  | succ n ih =>
    intro hn
    have hp : 2 ^ n ≤ 2 ^ 15 := Nat.pow_le_pow_right (by omega) (by omega)
    rw [show 2 ^ (n + 1) = 2 * 2 ^ n by rw [Nat.pow_succ]; omega, sm_pair, Nat.pow_succ, ← ih (by omega), ← sm_mul]
    apply fb_sm_cong
    intro b hb
    have h1 := pop_len (n := n) (by omega) hb
    have h2 := pop_2 (b := b) (v := 0) (by omega) (by omega)
    have h3 := pop_2 (b := b) (v := 1) (by omega) (by omega)
    show p ^ pop (2 * b) * q ^ (n + 1 - pop (2 * b)) + p ^ pop (2 * b + 1) * q ^ (n + 1 - pop (2 * b + 1)) = p ^ pop b * q ^ (n - pop b) * (p + q)
    rw [show 2 * b = 2 * b + 0 by omega, h2, h3, show 0 + pop b = pop b by omega, show n + 1 - pop b = (n - pop b) + 1 by omega, show n + 1 - (1 + pop b) = n - pop b by omega, show 1 + pop b = pop b + 1 by omega, Nat.pow_succ, Nat.pow_succ]
    generalize p ^ pop b = A
    generalize q ^ (n - pop b) = B
    rw [Nat.mul_add, Nat.mul_right_comm A p B, ← Nat.mul_assoc A B q, Nat.add_comm]
theorem len16_cases (x : Int32) : (∃ n, n ≤ 15 ∧ x = nI n ∧ f_X11_in x 0 15 = some 1 ∧ f_X10_isLength x = some 1) ∨ (f_X11_in x 0 15 = some 0 ∧ f_X10_isLength x = some 0) := by
  unfold f_X10_isLength
  rcases Min_rng x 15 (by decide) with ⟨j, hj, rfl, h⟩ | ⟨h0, h⟩ | ⟨h0, h1, h⟩
  · left
    refine ⟨j, by omega, rfl, h, ?_⟩
    rw [if_neg (nI_pos (by omega)), if_neg (show ¬ (15 : Int32) < nI j from nI_nlt (a := 15) (by omega) (by decide))]
  · right
    exact ⟨h, by rw [if_pos h0]⟩
  · right
    refine ⟨h, ?_⟩
    have h2 : (15 : Int32) < x := by
      rw [fa_le] at h1
      rw [fa_lt]
      rw [nI_toInt (by omega)] at h1
      have : (15 : Int32).toInt = 15 := by decide
      omega
    rw [if_neg h0, if_pos h2]
/-- how many rows of n signs hold and have k hits -/
def tly (tx : Nat → Nat) (m T n k : Nat) : Nat := fb_ct (fun b => hol tx m T n b && decide (pop b = k)) (2 ^ n)
def RSn (tx : Nat → Nat) (m T : Nat) (xTal : Nat → Nat → Int32) (xKn : Nat → Int32) : Prop := ∀ n, n < 16 → xKn n = 0 ∨ (xKn n = 1 ∧ ∀ k, k < 16 → xTal n k = nI (tly tx m T n k))
theorem up_2 {f : Nat → Nat → Int32} {k : Nat} {v : Nat → Int32} : va_up f k v k = v := if_pos rfl
theorem un_2 {f : Nat → Nat → Int32} {k i : Nat} {v : Nat → Int32} (h : i ≠ k) : va_up f k v i = f i := if_neg h
theorem learn_z {N n : Nat} {x1 x3 xST : Int32} {xLet xRel xLim xOpen me kn : Nat → Int32} : ∀ (z j c : Nat) (tl : Nat → Nat → Int32), j + z = 16 → z < c → ∃ tl', f_X8_learn_21 N c x1 x3 n (nI j) xLet xRel xLim xOpen me xST tl kn = f_X8_learn_43 N N x1 x3 n 0 xLet xRel xLim xOpen me xST tl' kn ∧ (∀ i, i ≠ n → tl' i = tl i) ∧ ∀ k, k < 16 → tl' n k = if j ≤ k then 0 else tl n k := by
  intro z
  induction z with
  | zero =>
    intro j c tl hj hc
    obtain ⟨c, rfl⟩ : ∃ z, c = z + 1 := ⟨c - 1, by omega⟩
    obtain rfl : j = 16 := by omega
    rw [f_X8_learn_21, if_pos (show (15 : Int32) < nI 16 by decide)]
    exact ⟨tl, rfl, fun _ _ => rfl, fun k hk => by rw [if_neg (by omega)]⟩
  | succ z ih =>
    intro j c tl hj hc
    obtain ⟨c, rfl⟩ : ∃ z, c = z + 1 := ⟨c - 1, by omega⟩
    rw [f_X8_learn_21, if_neg (show ¬ (15 : Int32) < nI j from nI_nlt (a := 15) (by omega) (by decide)), gIn_nI (by omega) (by decide), cl_nI (by omega), nI_1]
    obtain ⟨tl', a1, a2, a3⟩ := ih (j + 1) c (va_up tl n (upd (tl n) j 0)) (by omega) (by omega)
    refine ⟨tl', a1, fun i hi => (a2 i hi).trans (un_2 hi), fun k hk => ?_⟩
    rw [a3 k hk, up_2]
    by_cases h : k = j
    · subst h
      rw [if_neg (by omega), if_pos (by omega)]
      exact pk_us
    · rw [pk_un h]
      by_cases h2 : j ≤ k
      · rw [if_pos (by omega), if_pos h2]
      · rw [if_neg (by omega), if_neg h2]
theorem learn_loop {N n T m : Nat} {tx : Nat → Nat} {xLet xRel xLim xOpen kn : Nat → Int32} {xST xSD xSK : Int32} (hN : 40000 ≤ N) (hm : m ≤ 60) (hf : fpl tx m = -1) (hR : RXt xLet xRel xLim xOpen xST xSD xSK (pm tx m)) (hT : 2 ≤ T ∧ T < 128) (hn : n ≤ 15) :
    ∀ (z j c : Nat) (tl : Nat → Nat → Int32) (me : Nat → Int32), j + z = 2 ^ n → z < c → (∀ k, k < 16 → tl n k = nI (fb_ct (fun b => hol tx m T n b && decide (pop b = k)) j)) → ∃ me' tl', f_X8_learn_43 N c (nI n) (nI T) n (nI j) xLet xRel xLim xOpen me xST tl kn = some (me', tl', upd kn n 1) ∧ (∀ i, i ≠ n → tl' i = tl i) ∧ ∀ k, k < 16 → tl' n k = nI (tly tx m T n k) := by
  have hp : 2 ^ n ≤ 2 ^ 15 := Nat.pow_le_pow_right (by omega) hn
  intro z
  induction z with
  | zero =>
    intro j c tl me hj hc ht
    obtain ⟨c, rfl⟩ : ∃ z, c = z + 1 := ⟨c - 1, by omega⟩
    obtain rfl : j = 2 ^ n := by omega
    rw [f_X8_learn_43, one_shl (by omega), if_pos (nI_le (Nat.le_refl _) (by omega)), gIn_nI (by omega) (by decide), cl_nI (by omega)]
    exact ⟨me, tl, rfl, fun _ _ => rfl, ht⟩
  | succ z ih =>
    intro j c tl me hj hc ht
    obtain ⟨c, rfl⟩ : ∃ z, c = z + 1 := ⟨c - 1, by omega⟩
    obtain ⟨o, c1, c2⟩ := hold_X (N := N) (by omega) hm hf hR hT hn (show j < 2 ^ n by omega) me
    have hpj := pop_len hn (show j < 2 ^ n by omega)
    rw [f_X8_learn_43, one_shl (by omega), if_neg (nI_ge (by omega) (by omega)), c1, bnd_s, c2]
    unfold f_X8_learn_74
    rw [nI_1]
    cases hh : hol tx m T n j with
    | false =>
      rw [if_pos (show bI false = 0 from rfl)]
      exact ih (j + 1) c tl o.2 (by omega) (by omega) (fun k hk => by rw [ht k hk, fb_ct_succ, hh]; simp)
    | true =>
      rw [if_neg (show ¬ bI true = 0 by decide), bc_ok (by omega), bnd_s, gIn_nI (by omega) (by decide), cl_nI (by omega), ht _ (by omega), nI_1]
      obtain ⟨me', tl', a1, a2, a3⟩ := ih (j + 1) c (va_up tl n (upd (tl n) (pop j) (nI (fb_ct (fun b => hol tx m T n b && decide (pop b = pop j)) j + 1)))) o.2 (by omega) (by omega) (fun k hk => by
        rw [up_2, fb_ct_succ, hh]
        by_cases e : k = pop j
        · subst e
          rw [pk_us]
          simp
        · rw [pk_un e, ht k hk, show decide (pop j = k) = false from decide_eq_false (fun q => e q.symm)]
          simp)
      exact ⟨me', tl', a1, fun i hi => (a2 i hi).trans (un_2 hi), a3⟩
theorem learn_ok {N n T m : Nat} {tx : Nat → Nat} {xLet xRel xLim xOpen kn : Nat → Int32} {xST xSD xSK : Int32} (hN : 40000 ≤ N) (hm : m ≤ 60) (hf : fpl tx m = -1) (hR : RXt xLet xRel xLim xOpen xST xSD xSK (pm tx m)) (hT : 2 ≤ T ∧ T < 128) (hn : n ≤ 15) {tl : Nat → Nat → Int32} (hS : RSn tx m T tl kn) (me : Nat → Int32) :
    ∃ o, f_X8_learn N (nI n) (nI T) xLet xRel xLim xOpen me xST tl kn = some o ∧ RSn tx m T o.2.1 o.2.2 ∧ ∀ k, k < 16 → o.2.1 n k = nI (tly tx m T n k) := by
  unfold f_X8_learn
  rw [gIn_nI (by omega) (by decide), cl_nI (by omega)]
  have hp : 2 ^ n ≤ 2 ^ 15 := Nat.pow_le_pow_right (by omega) hn
  rcases hS n (by omega) with h | ⟨h, h2⟩
  · rw [h, if_pos rfl]
    obtain ⟨tl1, a1, a2, a3⟩ := learn_z (N := N) (n := n) (x1 := nI n) (x3 := nI T) (xST := xST) (xLet := xLet) (xRel := xRel) (xLim := xLim) (xOpen := xOpen) (me := me) (kn := kn) 16 0 N tl (by omega) (by omega)
    obtain ⟨me', tl', b1, b2, b3⟩ := learn_loop (kn := kn) hN hm hf hR hT hn (2 ^ n) 0 N tl1 me (by omega) (by omega) (fun k hk => by rw [a3 k hk, if_pos (by omega)]; rfl)
    refine ⟨_, a1.trans b1, ?_, b3⟩
    intro i hi
    by_cases e : i = n
    · subst e
      right
      exact ⟨pk_us, b3⟩
    · show upd kn n 1 i = 0 ∨ (upd kn n 1 i = 1 ∧ ∀ k, k < 16 → tl' i k = _)
      rw [pk_un e, b2 i e, a2 i e]
      exact hS i hi
  · rw [h, if1_0]
    exact ⟨_, rfl, hS, h2⟩
theorem sum_loop {N : Nat} {gf : Nat → Int32} {f : Nat → Nat} (hg : ∀ k, k < 16 → gf k = nI (f k)) : ∀ (z j c : Nat), j + z = 16 → z < c → f_X9_sum_10 N gf c (nI (fb_sm f j)) 16 (nI j) = some (nI (fb_sm f 16)) := by
  intro z
  induction z with
  | zero =>
    intro j c hj hc
    obtain ⟨c, rfl⟩ : ∃ z, c = z + 1 := ⟨c - 1, by omega⟩
    obtain rfl : j = 16 := by omega
    rw [f_X9_sum_10, if_pos (show (16 : Int32) ≤ nI 16 by decide)]
  | succ z ih =>
    intro j c hj hc
    obtain ⟨c, rfl⟩ : ∃ z, c = z + 1 := ⟨c - 1, by omega⟩
    rw [f_X9_sum_10, if_neg (show ¬ (16 : Int32) ≤ nI j from nI_ge (b := 16) (by omega) (by decide)), gIn_nI (by omega) (by decide), cl_nI (by omega), hg j (by omega), nI_add, nI_1]
    exact ih (j + 1) c (by omega) (by omega)
theorem sum_ok {N : Nat} (hN : 50 ≤ N) {gf : Nat → Int32} {f : Nat → Nat} (hg : ∀ k, k < 16 → gf k = nI (f k)) : f_X9_sum N gf = some (nI (fb_sm f 16)) := sum_loop hg 16 0 N (by omega) (by omega)
/-- M's count of rows of n signs that hold (k none, or k hits) -/
def shq (tx : Nat → Nat) (m T n : Nat) (x2 : Int32) (b : Nat) : Bool := (decide (x2 = -1) || decide (nI (pop b) = x2)) && hol tx m T n b
theorem shown_loop {N n T m : Nat} {tx : Nat → Nat} {mTyped mAt mFault mTests mRead : Int32} {mText mTN mTS mTV mTB : Nat → Int32} (hN : 40000 ≤ N) (hm : m ≤ 60) (hf : fpl tx m = -1) (h1 : mTests = nI (pm tx m).2.1) (hA : AG (pm tx m).2.1 mTN mTS mTV mTB (pm tx m).2.2.2.1 (pm tx m).2.2.2.2.1 (pm tx m).2.2.2.2.2.1 (pm tx m).2.2.2.2.2.2) (hT : 2 ≤ T ∧ T < 128) (hn : n ≤ 15) (x2 : Int32) :
    ∀ (z j c : Nat), j + z = 2 ^ n → z < c → f_X11_shownNow_16 N c (nI n) x2 (nI (fb_ct (shq tx m T n x2) j)) (nI j) (nI T) mTyped mText mAt mFault mTests mTN mTS mTV mTB mRead = some (nI (fb_ct (shq tx m T n x2) (2 ^ n)), mAt, mFault, mTests, mTN, mTS, mTV, mTB, mRead) := by
  have hp : 2 ^ n ≤ 2 ^ 15 := Nat.pow_le_pow_right (by omega) hn
  intro z
  induction z with
  | zero =>
    intro j c hj hc
    obtain ⟨c, rfl⟩ : ∃ z, c = z + 1 := ⟨c - 1, by omega⟩
    obtain rfl : j = 2 ^ n := by omega
    rw [f_X11_shownNow_16, one_shl (by omega), if_pos (nI_le (Nat.le_refl _) (by omega))]
  | succ z ih =>
    intro j c hj hc
    obtain ⟨c, rfl⟩ : ∃ z, c = z + 1 := ⟨c - 1, by omega⟩
    have hd := does_M (N := N) (by omega) hm hf h1 hA hT hn (show j < 2 ^ n by omega)
    have hs := ih (j + 1) c (by omega) (by omega)
    rw [fb_ct_succ] at hs
    unfold shq at hs ⊢
    rw [f_X11_shownNow_16, one_shl (by omega), if_neg (nI_ge (by omega) (by omega)), ones_ok (by omega) (by omega)]
    unfold f_X11_shownNow_39 f_X11_shownNow_53 f_X11_shownNow_54
    rw [hd, nI_1]
    simp only [bnd_s]
    rw [show popN 16 j = pop j from rfl]
    by_cases e1 : x2 = -1
    · rw [if_pos e1]
      cases hh : hol tx m T n j with
      | false =>
        rw [if_pos (show bI false = 0 from rfl)]
        rw [hh] at hs
        simp only [Bool.and_false, Bool.false_eq_true, if_false, Nat.add_zero] at hs
        rw [show ∀ y : Int32, y + 0 = y from fun y => by simp]
        exact hs
      | true =>
        rw [if_neg (show ¬ bI true = 0 by decide), nI_1]
        rw [hh] at hs
        simp only [e1, decide_true, Bool.true_or, Bool.and_true, if_true] at hs ⊢
        exact hs
    · rw [if_neg e1]
      by_cases e2 : nI (pop j) = x2
      · rw [if_pos e2]
        cases hh : hol tx m T n j with
        | false =>
          rw [if_pos (show bI false = 0 from rfl)]
          rw [hh] at hs
          simp only [Bool.and_false, Bool.false_eq_true, if_false, Nat.add_zero] at hs
          rw [show ∀ y : Int32, y + 0 = y from fun y => by simp]
          exact hs
        | true =>
          rw [if_neg (show ¬ bI true = 0 by decide), nI_1]
          rw [hh, show decide (nI (pop j) = x2) = true from decide_eq_true e2] at hs
          simp only [Bool.or_true, Bool.and_true, if_true] at hs
          exact hs
      · rw [if_neg e2, show ∀ y : Int32, y + 0 = y from fun y => by simp]
        rw [show decide (nI (pop j) = x2) = false from decide_eq_false e2, show decide (x2 = -1) = false from decide_eq_false e1] at hs
        simp only [Bool.or_false, Bool.false_and, Bool.false_eq_true, if_false, Nat.add_zero] at hs
        rw [show decide (x2 = -1) = false from decide_eq_false e1]
        exact hs
theorem in_k {x : Int32} : (f_X11_in x (-1) 15 = some 1 ∧ ¬ x < -1 ∧ x ≤ 15 ∧ (x = -1 ∨ ∃ k, k < 16 ∧ x = nI k)) ∨ (f_X11_in x (-1) 15 = some 0 ∧ (x < -1 ∨ ¬ x ≤ 15)) := by
  have m1 : (-1 : Int32).toInt = -1 := by decide
  have m2 : (15 : Int32).toInt = 15 := by decide
  by_cases h1 : x < -1
  · exact Or.inr ⟨Min_no (Or.inl h1), Or.inl h1⟩
  by_cases h2 : (15 : Int32) < x
  · refine Or.inr ⟨Min_no (Or.inr h2), Or.inr fun q => ?_⟩
    rw [fa_le] at q
    rw [fa_lt] at h2
    omega
  · left
    have h3 : x ≤ 15 := by
      rw [fa_le]
      rw [fa_lt] at h2
      omega
    refine ⟨Min_yes h1 h2, h1, h3, ?_⟩
    by_cases e : x = -1
    · exact Or.inl e
    · right
      have h4 : ¬ x < 0 := fun q => by
        rw [fa_lt] at q h1
        rw [fa_eq] at e
        have : (0 : Int32).toInt = 0 := by decide
        omega
      obtain ⟨j, hj, rfl⟩ := nI_of2 (n := 15) m2 h4 h3
      exact ⟨j, by omega, rfl⟩
theorem shq_all {tx : Nat → Nat} {m T n : Nat} (hn : n ≤ 15) : fb_ct (shq tx m T n (-1)) (2 ^ n) = fb_sm (fun k => tly tx m T n k) 16 := by
  unfold tly
  rw [tal_ct (fun b => hol tx m T n b) pop 16 (2 ^ n) (fun b hb => by have := pop_len hn hb; omega)]
  exact fb_ct_cong fun b _ => by simp [shq]
theorem shq_one {tx : Nat → Nat} {m T n k : Nat} (hk : k < 16) : fb_ct (shq tx m T n (nI k)) (2 ^ n) = tly tx m T n k := by
  unfold tly
  apply fb_ct_cong
  intro b _
  unfold shq
  have h1 : decide (nI k = -1) = false := decide_eq_false (nI_nm1 (by omega))
  have h2 : decide (nI (pop b) = nI k) = decide (pop b = k) := by
    have := pop_le b
    rw [Bool.eq_iff_iff]
    simp only [decide_eq_true_eq]
    exact nI_eq (by omega) (by omega)
  rw [h1, h2, Bool.false_or, Bool.and_comm]
/-- M's shownNow -/
theorem now_shown {N : Nat} (hN : 40000 ≤ N) {n T : Nat} (hn : n ≤ 15) (hT : 2 ≤ T ∧ T < 128) {tx : Nat → Nat} {m : Nat} {xLet xRel xLim xOpen : Nat → Int32} {xSL xST xSD xSK mTyped : Int32} {mText : Nat → Int32} {mFault mTests : Int32} {mTN mTS mTV mTB : Nat → Int32} {mRead : Int32} (hR : RTx tx m xLet xRel xLim xOpen xSL xST xSD xSK mTyped mText mFault mTests mTN mTS mTV mTB mRead) (mAt x2 : Int32) :
    ∃ q, f_X11_shownNow N (nI n) x2 (nI T) mTyped mText mAt mFault mTests mTN mTS mTV mTB mRead = some q ∧ q.1 = (if fpl tx m = -1 then nI (fb_ct (shq tx m T n x2) (2 ^ n)) else -3) ∧ RTx tx m xLet xRel xLim xOpen xSL xST xSD xSK mTyped mText q.2.2.1 q.2.2.2.1 q.2.2.2.2.1 q.2.2.2.2.2.1 q.2.2.2.2.2.2.1 q.2.2.2.2.2.2.2.1 q.2.2.2.2.2.2.2.2 := by
  obtain ⟨q, a1, a2, a3, a4⟩ := now_M (N := N) (by omega) hR mAt
  unfold f_X11_shownNow
  rw [a1, bnd_s, a2]
  by_cases hf : fpl tx m = -1
  · obtain ⟨b1, b2⟩ := a4 hf
    rw [if_pos hf, if_pos hf]
    have hp : 2 ^ n ≤ 2 ^ 15 := Nat.pow_le_pow_right (by omega) hn
    exact ⟨_, shown_loop hN hR.1 hf b1 b2 hT hn x2 (2 ^ n) 0 N (by omega) (by omega), rfl, a3⟩
  · rw [if_neg hf, if_neg hf]
    exact ⟨_, rfl, rfl, a3⟩
theorem p_shown {N : Nat} (hN : 40000 ≤ N) {T : Nat} (hT : 2 ≤ T ∧ T < 128) {tx : Nat → Nat} {m : Nat} {xLet xRel xLim xOpen : Nat → Int32} {xSL xST xSD xSK mTyped : Int32} {mText : Nat → Int32} {mFault mTests : Int32} {mTN mTS mTV mTB : Nat → Int32} {mRead : Int32} (hR : RTx tx m xLet xRel xLim xOpen xSL xST xSD xSK mTyped mText mFault mTests mTN mTS mTV mTB mRead) {tl : Nat → Nat → Int32} {kn : Nat → Int32} (hS : RSn tx m T tl kn) (mAt : Int32) (me : Nat → Int32) (x1 x2 : Int32) :
    ∃ o q, f_X10_shown N x1 x2 xLet xRel xLim xOpen me xSL xST xSD xSK tl kn (nI T) = some o ∧ f_X11_shown N x1 x2 (nI T) mTyped mText mAt mFault mTests mTN mTS mTV mTB mRead = some q ∧ o.1 = q.1 ∧ RTx tx m xLet xRel xLim xOpen xSL xST xSD xSK mTyped mText q.2.2.1 q.2.2.2.1 q.2.2.2.2.1 q.2.2.2.2.2.1 q.2.2.2.2.2.2.1 q.2.2.2.2.2.2.2.1 q.2.2.2.2.2.2.2.2 ∧ RSn tx m T o.2.2.1 o.2.2.2 := by
  unfold f_X10_shown f_X11_shown
  rcases len16_cases x1 with ⟨n, hn, rfl, h2, h3⟩ | ⟨h2, h3⟩
  · rw [h2, h3, bnd_s, bnd_s, if1_0, if1_0]
    rcases in_k (x := x2) with ⟨k1, k2, k3, k4⟩ | ⟨k1, k2⟩
    · obtain ⟨q, a1, a2, a3⟩ := now_shown hN hn hT hR mAt x2
      obtain ⟨r1, r2, r3, r4, r5, r6, r7⟩ := id hR
      rw [k1, bnd_s, if1_0, a1, bnd_s, if_neg k2, if_pos k3, r5, faulty_X r1 r6, bnd_s]
      by_cases hf : fpl tx m = -1
      · obtain ⟨o, b1, b2, b3⟩ := learn_ok hN r1 hf r6 hT hn hS me
        rw [if_pos hf] at a2 ⊢
        rw [if0_0, b1, bnd_s, gIn_nI (by omega) (by decide), cl_nI (by omega), ← r5]
        rcases k4 with rfl | ⟨k, hk, rfl⟩
        · rw [if_pos rfl, sum_ok (by omega) b3, bnd_s]
          exact ⟨_, _, rfl, rfl, by rw [a2, shq_all hn], a3, b2⟩
        · rw [if_neg (nI_nm1 (by omega)), gIn_nI (by omega) (by decide), cl_nI (by omega), gIn_nI (by omega) (by decide), b3 k hk]
          exact ⟨_, _, rfl, rfl, by rw [a2, shq_one hk], a3, b2⟩
      · rw [if_neg hf] at a2 ⊢
        rw [if1_0, ← r5]
        exact ⟨_, _, rfl, rfl, a2.symm, a3, hS⟩
    · rw [k1, bnd_s, if0_0]
      rcases k2 with k2 | k2
      · rw [if_pos k2]
        exact ⟨_, _, rfl, rfl, rfl, hR, hS⟩
      · by_cases k3 : x2 < -1
        · rw [if_pos k3]
          exact ⟨_, _, rfl, rfl, rfl, hR, hS⟩
        · rw [if_neg k3, if_neg k2]
          exact ⟨_, _, rfl, rfl, rfl, hR, hS⟩
  · rw [h2, h3, bnd_s, bnd_s, if0_0, if0_0]
    exact ⟨_, _, rfl, rfl, rfl, hR, hS⟩
