/-! pure rows: next -/
theorem in_rng (x : Int32) (n : Nat) (hn : n + 1 < 2 ^ 31) : (∃ j, j ≤ n ∧ x = nI j ∧ f_X11_in x 0 (nI n) = some 1 ∧ ¬ x < 0 ∧ ¬ nI n < x) ∨ (f_X11_in x 0 (nI n) = some 0 ∧ (x < 0 ∨ (¬ x < 0 ∧ nI n < x))) := by
  rcases Min_rng x n hn with ⟨j, hj, rfl, h⟩ | ⟨h1, h⟩ | ⟨h1, h2, h⟩
  · exact Or.inl ⟨j, by omega, rfl, h, nI_pos (by omega), nI_nlt (by omega) (by omega)⟩
  · exact Or.inr ⟨h, Or.inl h1⟩
  · exact Or.inr ⟨h, Or.inr ⟨h1, (le_lt1 hn).mp h2⟩⟩
theorem al_s {p : Nat → Bool} : ∀ {z i : Nat}, al p i (z + 1) = (p i && al p (i + 1) z) := rfl
/-- M: the last k signs were seen -/
theorem nxG_loop {N r n k : Nat} {x3 : Int32} {mSizes mSigns : Nat → Int32} (hr : r < 4) (hn : n ≤ 15) (hk : k ≤ n) : ∀ (z j c : Nat) (G : Bool), j + z = k + 1 → 1 ≤ j → z < c → f_X11_next_52 N c (nI r) (nI k) x3 (nI n) (bI G) (nI j) mSizes mSigns = f_X11_next_95 N (nI r) (nI k) x3 (nI n) (bI (G && al (fun j => decide (¬ mSigns (15 * r + (n - j)) = -1)) j z)) mSizes mSigns := by
  intro z
  induction z with
  | zero =>
    intro j c G hj h1 hc
    obtain ⟨c, rfl⟩ : ∃ z, c = z + 1 := ⟨c - 1, by omega⟩
    rw [f_X11_next_52, if_pos (nI_lt (by omega) (by omega)), al, Bool.and_true]
  | succ z ih =>
    intro j c G hj h1 hc
    obtain ⟨c, rfl⟩ : ∃ z, c = z + 1 := ⟨c - 1, by omega⟩
    have e1 : (((15 : Int32) * nI r) + nI n) - nI j = nI (15 * r + (n - j)) := by
      rw [show ((15 : Int32) * nI r) + nI n = nI (15 * r + n) by rw [show (15 : Int32) = nI 15 from rfl, pk_mul, nI_add], pk_sub (by omega)]
      exact congrArg nI (by omega)
    rw [f_X11_next_52, if_neg (nI_nlt (by omega) (by omega)), e1, gIn_nI (by omega) (by decide), cl_nI (by omega)]
    unfold f_X11_next_87
    rw [nI_1]
    cases G with
    | false => rw [bI_0, if0_0, Bool.false_and, bI_0]
    | true =>
      rw [bI_1, if1_0, Bool.true_and, al_s]
      by_cases h : mSigns (15 * r + (n - j)) = -1
      · rw [if_pos h, decide_eq_false (fun q => q h), Bool.false_and]
        exact (ih (j + 1) c false (by omega) (by omega) (by omega)).trans (by rw [Bool.false_and])
      · rw [if_neg h, decide_eq_true h, Bool.true_and]
        exact (ih (j + 1) c true (by omega) (by omega) (by omega)).trans (by rw [Bool.true_and])
/-- M: a place, with k signs ahead as the end has -/
theorem nxL_loop {N r n k i : Nat} {k112 : Int32 → Int32 → Int32 → Int32 → Int32 → Int32 → Int32 → (Nat → Int32) → (Nat → Int32) → Option (Int32)} {x3 x6 x7 : Int32} {mSizes mSigns : Nat → Int32} (hr : r < 4) (hn : n ≤ 15) (hk : k ≤ i) (hi : i < n) : ∀ (z j c : Nat) (L : Bool), j + z = k + 1 → 1 ≤ j → z < c → f_X11_next_145 N k112 c (nI r) (nI k) x3 (nI n) x6 x7 (nI i) (bI L) (nI j) mSizes mSigns = f_X11_next_202 N k112 (nI r) (nI k) x3 (nI n) x6 x7 (nI i) (bI (L && al (fun j => decide (mSigns (15 * r + (i - j)) = mSigns (15 * r + (n - j)))) j z)) mSizes mSigns := by
  intro z
  induction z with
  | zero =>
    intro j c L hj h1 hc
    obtain ⟨c, rfl⟩ : ∃ z, c = z + 1 := ⟨c - 1, by omega⟩
    rw [f_X11_next_145, if_pos (nI_lt (by omega) (by omega)), al, Bool.and_true]
  | succ z ih =>
    intro j c L hj h1 hc
    obtain ⟨c, rfl⟩ : ∃ z, c = z + 1 := ⟨c - 1, by omega⟩
    have e1 : (((15 : Int32) * nI r) + nI n) - nI j = nI (15 * r + (n - j)) := by
      rw [show ((15 : Int32) * nI r) + nI n = nI (15 * r + n) by rw [show (15 : Int32) = nI 15 from rfl, pk_mul, nI_add], pk_sub (by omega)]
      exact congrArg nI (by omega)
    have e2 : (((15 : Int32) * nI r) + nI i) - nI j = nI (15 * r + (i - j)) := by
      rw [mul15 hr (by omega), pk_sub (by omega)]
      exact congrArg nI (by omega)
    rw [f_X11_next_145, if_neg (nI_nlt (by omega) (by omega)), e1, e2, gIn_nI (by omega) (by decide), gIn_nI (by omega) (by decide), cl_nI (by omega), cl_nI (by omega)]
    unfold f_X11_next_194
    rw [nI_1]
    cases L with
    | false => rw [bI_0, if0_0, Bool.false_and, bI_0]
    | true =>
      rw [bI_1, if1_0, Bool.true_and, al_s]
      by_cases h : mSigns (15 * r + (i - j)) = mSigns (15 * r + (n - j))
      · rw [if_pos h, decide_eq_true h, Bool.true_and]
        exact (ih (j + 1) c true (by omega) (by omega) (by omega)).trans (by rw [Bool.true_and])
      · rw [if_neg h, decide_eq_false h, Bool.false_and]
        exact (ih (j + 1) c false (by omega) (by omega) (by omega)).trans (by rw [Bool.false_and])
theorem ub_mod0 {x l : Nat} : x % 2 ^ l = 0 ↔ ∀ i, i < l → x.testBit i = false := by
  have m := mod_bits (x := x) (y := 0) (l := l)
  rw [Nat.zero_mod] at m
  rw [m]
  constructor
  · intro h i hi
    rw [h i hi, Nat.zero_testBit]
  · intro h i hi
    rw [h i hi, Nat.zero_testBit]
/-- X: a place, with k signs ahead as the end has, all seen -/
theorem nxX {r n k i : Nat} {g : Nat → Int32} {xLen xHits xUns : Nat → Int32} (hn : n ≤ 15) (hk : k ≤ i) (hi : i < n) (e1 : xLen r = nI n) (e2 : xHits r = nI (hb n g)) (e3 : xUns r = nI (ub n g)) (hg : ∀ j, j < n → (g j = -1 ∨ g j = 0 ∨ g j = 1)) (hG : al (fun j => decide (¬ g (n - j) = -1)) 1 k = true) : f_X5_isBehindItsEnd r (nI i) (nI k) xLen xHits xUns = some (bI (decide (¬ g i = -1) && al (fun j => decide (g (i - j) = g (n - j))) 1 k)) := by
  have hH := hb_lt n g
  have hU := ub_lt n g
  have hp : 2 ^ n ≤ 2 ^ 15 := Nat.pow_le_pow_right (by omega) hn
  have hd1 : ub n g / 2 ^ (n - 1 - i) % 2 ^ (k + 1) < 2 ^ 31 := Nat.lt_of_le_of_lt (Nat.le_trans (Nat.mod_le _ _) (Nat.div_le_self _ _)) (by omega)
  have hd2 : hb n g / 2 ^ (n - 1 - i + 1) % 2 ^ k < 2 ^ 31 := Nat.lt_of_le_of_lt (Nat.le_trans (Nat.mod_le _ _) (Nat.div_le_self _ _)) (by omega)
  have hd3 : hb n g % 2 ^ k < 2 ^ 31 := Nat.lt_of_le_of_lt (Nat.mod_le _ _) (by omega)
  rw [al_iff] at hG
  have key : (ub n g / 2 ^ (n - 1 - i) % 2 ^ (k + 1) = 0 ∧ hb n g / 2 ^ (n - 1 - i + 1) % 2 ^ k = hb n g % 2 ^ k) ↔ (decide (¬ g i = -1) && al (fun j => decide (g (i - j) = g (n - j))) 1 k) = true := by
    rw [ub_mod0, mod_bits, Bool.and_eq_true, al_iff]
    have tU : ∀ j, j ≤ k → (ub n g / 2 ^ (n - 1 - i)).testBit j = decide (g (i - j) = -1) := fun j hj => by
      rw [Nat.testBit_div_two_pow, show j + (n - 1 - i) = n - 1 - (i - j) by omega]
      exact ub_tb g (by omega)
    have tH : ∀ j, j < k → (hb n g / 2 ^ (n - 1 - i + 1)).testBit j = decide (g (i - (j + 1)) = 1) := fun j hj => by
      rw [Nat.testBit_div_two_pow, show j + (n - 1 - i + 1) = n - 1 - (i - (j + 1)) by omega]
      exact hb_tb g (by omega)
    have tE : ∀ j, j < k → (hb n g).testBit j = decide (g (n - (j + 1)) = 1) := fun j hj => by
      rw [show j = n - 1 - (n - (j + 1)) by omega, show n - (n - 1 - (n - (j + 1)) + 1) = n - (j + 1) by omega]
      exact hb_tb g (by omega)
    constructor
    · rintro ⟨h1, h2⟩
      refine ⟨?_, ?_⟩
      · have := h1 0 (by omega)
        rw [tU 0 (by omega), Nat.sub_zero, decide_eq_false_iff_not] at this
        exact decide_eq_true this
      · intro j j1 j2
        have a := h1 j (by omega)
        rw [tU j (by omega), decide_eq_false_iff_not] at a
        have b := h2 (j - 1) (by omega)
        rw [tH (j - 1) (by omega), tE (j - 1) (by omega), show j - 1 + 1 = j by omega] at b
        have c := of_decide_eq_true (hG j j1 j2)
        have d1 := hg (i - j) (by omega)
        have d2 := hg (n - j) (by omega)
        refine decide_eq_true ((sg_eq ?_ ?_).mp b)
        · rcases d1 with d | d | d
          · exact absurd d a
          · exact Or.inl d
          · exact Or.inr d
        · rcases d2 with d | d | d
          · exact absurd d c
          · exact Or.inl d
          · exact Or.inr d
    · rintro ⟨h1, h2⟩
      refine ⟨?_, ?_⟩
      · intro j hj
        rw [tU j (by omega), decide_eq_false_iff_not]
        by_cases e : j = 0
        · subst e
          rw [Nat.sub_zero]
          exact of_decide_eq_true h1
        · have a := of_decide_eq_true (h2 j (by omega) (by omega))
          rw [a]
          exact of_decide_eq_true (hG j (by omega) (by omega))
      · intro j hj
        have a := of_decide_eq_true (h2 (j + 1) (by omega) (by omega))
        rw [tH j hj, tE j hj, a]
  unfold f_X5_isBehindItsEnd f_X5_isBehindItsEnd_38
  rw [e1, e2, e3, nI_sub1 hi, nI_1, nI_1, shr_nI (by omega) (by omega), shr_nI (by omega) (by omega), mask_of (by omega), mask_of (by omega), mask_nI, mask_nI, mask_nI]
  by_cases h1 : ub n g / 2 ^ (n - 1 - i) % 2 ^ (k + 1) = 0
  · rw [if_pos (show nI _ = 0 by rw [h1]; rfl), if1_0]
    by_cases h2 : hb n g / 2 ^ (n - 1 - i + 1) % 2 ^ k = hb n g % 2 ^ k
    · rw [if_pos (congrArg nI h2), key.mp ⟨h1, h2⟩]
      rfl
    · rw [if_neg (fun e => h2 ((nI_eq hd2 hd3).mp e)), Bool.eq_false_iff.mpr (fun q => h2 (key.mpr q).2)]
      rfl
  · rw [if_neg (nI_ne0 (by omega) hd1), if0_0, Bool.eq_false_iff.mpr (fun q => h1 (key.mpr q).1)]
    rfl
/-- the end of both loops -/
theorem nx_end {N A H w : Nat} (hN : 200 ≤ N) (hA : A ≤ 15) (hH : H ≤ 15) (hw : w ≤ 3) : ∃ o, (if 2 ≤ nI w then bnd (f_X1_part N ((nI H + 1).toInt64) ((nI A + 2).toInt64) (nI w - 2)) (fun o3 => some o3.toInt32) else if nI w = 0 then some (nI H) else some (nI A)) = some o ∧ (if nI w = 0 then some (nI H) else if nI w = 1 then some (nI A) else bnd (f_X11_lowest N ((nI H).toInt64 + 1) ((nI A).toInt64 + 2) (nI w - 2)) (fun o12 => some o12.toInt32)) = some o := by
  have e1 : (nI H + 1).toInt64 = lN (H + 1) := by rw [nI_1, nI_l (by omega)]
  have e2 : (nI A + 2).toInt64 = lN (A + 2) := by rw [show (2 : Int32) = nI 2 from rfl, nI_add, nI_l (by omega)]
  have e3 : (nI H).toInt64 + 1 = lN (H + 1) := by rw [nI_l (by omega), lN_1]
  have e4 : (nI A).toInt64 + 2 = lN (A + 2) := by rw [nI_l (by omega), show (2 : Int64) = lN 2 from by decide, lN_add]
  rw [e1, e2, e3, e4]
  rcases (show w = 0 ∨ w = 1 ∨ 2 ≤ w by omega) with rfl | rfl | h
  · rw [if_neg (by decide), if_pos (show nI 0 = 0 from rfl), if_pos (show nI 0 = 0 from rfl)]
    exact ⟨_, rfl, rfl⟩
  · rw [if_neg (by decide), if_neg (by decide), if_neg (by decide), if_pos (show nI 1 = 1 from rfl)]
    exact ⟨_, rfl, rfl⟩
  · rw [if_pos (show (2 : Int32) ≤ nI w from nI_le (a := 2) h (by omega)), if_neg (nI_ne0 (by omega) (by omega)), if_neg (show ¬ nI w = 1 from fun q => absurd ((nI_eq (b := 1) (by omega) (by omega)).mp q) (by omega)), part_X hN (by omega) (by omega) (by omega), low_M hN (by omega) (by omega) (by omega)]
    exact ⟨_, rfl, rfl⟩
theorem nx_loop {N r n k w : Nat} {xLen xHits xUns mSizes mSigns : Nat → Int32} (hN : 200 ≤ N) (hr : r < 4) (hn : n ≤ 15) (hk : k ≤ 4) (hw : w ≤ 3) (e1 : xLen r = nI n) (e2 : xHits r = nI (hb n (fun i => mSigns (15 * r + i)))) (e3 : xUns r = nI (ub n (fun i => mSigns (15 * r + i)))) (hg : ∀ j, j < n → (mSigns (15 * r + j) = -1 ∨ mSigns (15 * r + j) = 0 ∨ mSigns (15 * r + j) = 1)) (hG : al (fun j => decide (¬ mSigns (15 * r + (n - j)) = -1)) 1 k = true) : ∀ (z i c d A H : Nat), i + z = n → k ≤ i → z < c → z < d → A ≤ i → H ≤ i → ∃ o, f_X10_next_75 N c (nI k) (nI w) r (nI H) (nI A) (nI i) xLen xHits xUns = some o ∧ f_X11_next_112 N d (nI r) (nI k) (nI w) (nI n) (nI A) (nI H) (nI i) mSizes mSigns = some o := by
  intro z
  induction z with
  | zero =>
    intro i c d A H hi hki hc hd hA hH
    obtain ⟨c, rfl⟩ : ∃ z, c = z + 1 := ⟨c - 1, by omega⟩
    obtain ⟨d, rfl⟩ : ∃ z, d = z + 1 := ⟨d - 1, by omega⟩
    obtain rfl : i = n := by omega
    rw [f_X10_next_75, e1, if_pos (nI_le (Nat.le_refl _) (by omega)), f_X11_next_112, if_pos (nI_le (Nat.le_refl _) (by omega))]
    exact nx_end hN (by omega) (by omega) hw
  | succ z ih =>
    intro i c d A H hi hki hc hd hA hH
    obtain ⟨c, rfl⟩ : ∃ z, c = z + 1 := ⟨c - 1, by omega⟩
    obtain ⟨d, rfl⟩ : ∃ z, d = z + 1 := ⟨d - 1, by omega⟩
    have hx := nxX (r := r) (k := k) (i := i) (g := fun i => mSigns (15 * r + i)) (xLen := xLen) (xHits := xHits) (xUns := xUns) hn hki (by omega) e1 e2 e3 hg hG
    have hs := signAt_ok (g := fun i => mSigns (15 * r + i)) hn e1 e2 e3 (hg i (by omega)) (show i < n by omega)
    rw [f_X10_next_75, e1, if_neg (nI_ge (by omega) (by omega)), hx, bnd_s, hs, bnd_s, f_X11_next_112, if_neg (nI_ge (by omega) (by omega)), mul15 hr (by omega), gIn_nI (by omega) (by decide), cl_nI (by omega)]
    unfold f_X11_next_140 f_X10_next_111
    have hl := fun L => nxL_loop (N := N) (r := r) (n := n) (k := k) (i := i) (k112 := fun y0 y1 y2 y3 y4 y5 y6 y7 y8 => f_X11_next_112 N d y0 y1 y2 y3 y4 y5 y6 y7 y8) (x3 := nI w) (x6 := nI A) (x7 := nI H) (mSizes := mSizes) (mSigns := mSigns) hr hn hki (by omega) k 1 N L (by omega) (by omega) (by omega)
    have hm : (if mSigns (15 * r + i) = -1 then f_X11_next_145 N (fun y0 y1 y2 y3 y4 y5 y6 y7 y8 => f_X11_next_112 N d y0 y1 y2 y3 y4 y5 y6 y7 y8) N (nI r) (nI k) (nI w) (nI n) (nI A) (nI H) (nI i) 0 1 mSizes mSigns else f_X11_next_145 N (fun y0 y1 y2 y3 y4 y5 y6 y7 y8 => f_X11_next_112 N d y0 y1 y2 y3 y4 y5 y6 y7 y8) N (nI r) (nI k) (nI w) (nI n) (nI A) (nI H) (nI i) 1 1 mSizes mSigns) = f_X11_next_202 N (fun y0 y1 y2 y3 y4 y5 y6 y7 y8 => f_X11_next_112 N d y0 y1 y2 y3 y4 y5 y6 y7 y8) (nI r) (nI k) (nI w) (nI n) (nI A) (nI H) (nI i) (bI (decide (¬ mSigns (15 * r + i) = -1) && al (fun j => decide (mSigns (15 * r + (i - j)) = mSigns (15 * r + (n - j)))) 1 k)) mSizes mSigns := by
      by_cases h : mSigns (15 * r + i) = -1
      · rw [if_pos h, decide_eq_false (fun q => q h)]
        exact hl false
      · rw [if_neg h, decide_eq_true h]
        exact hl true
    rw [hm]
    unfold f_X11_next_202 f_X11_next_214 f_X11_next_240
    rw [nI_1, mul15 hr (by omega), gIn_nI (by omega) (by decide), gIn_nI (by omega) (by decide), cl_nI (by omega), i_add0, i_add0, nI_1]
    show ∃ o, (if bI (decide (¬ mSigns (15 * r + i) = -1) && al (fun j => decide (mSigns (15 * r + (i - j)) = mSigns (15 * r + (n - j)))) 1 k) = 0 then _ else _) = some o ∧ _
    cases hb : (decide (¬ mSigns (15 * r + i) = -1) && al (fun j => decide (mSigns (15 * r + (i - j)) = mSigns (15 * r + (n - j)))) 1 k) with
    | false =>
      rw [bI_0, if0_0, if0_0, if0_0]
      exact ih (i + 1) c d A H (by omega) (by omega) (by omega) (by omega) (by omega) (by omega)
    | true =>
      rw [bI_1, if1_0, if1_0, if1_0]
      have h1 : ¬ mSigns (15 * r + i) = -1 := of_decide_eq_true (Bool.and_eq_true_iff.mp hb).1
      rcases hg i (by omega) with e | e | e
      · exact absurd e h1
      · rw [e, i_add0]
        exact ih (i + 1) c d (A + 1) H (by omega) (by omega) (by omega) (by omega) (by omega) (by omega)
      · rw [e, nI_1]
        exact ih (i + 1) c d (A + 1) (H + 1) (by omega) (by omega) (by omega) (by omega) (by omega) (by omega)
theorem p_next {N : Nat} (hN : 200 ≤ N) {xLen xHits xUns mSizes mSigns : Nat → Int32} (hR : RRow xLen xHits xUns mSizes mSigns) (x1 x2 x3 : Int32) :
    ∃ o, f_X10_next N x1 x2 x3 xLen xHits xUns = some o ∧ f_X11_next N x1 x2 x3 mSizes mSigns = some o := by
  unfold f_X10_next f_X11_next
  rcases row_cases x1 with ⟨r, h1, rfl, h2, h3⟩ | ⟨h2, h3⟩
  · obtain ⟨n, h, u, n1, n2, n3, n4, n5, n6, n7, n8, n9, n10, n11, n12, n13⟩ := row_at hR (show 50 ≤ N by omega) h1
    have hp : 2 ^ n ≤ 2 ^ 15 := Nat.pow_le_pow_right (by omega) n1
    rw [h2, h3, bnd_s, bnd_s, if1_0, if1_0]
    rcases in_rng x2 4 (by decide) with ⟨k, k1, rfl, k2, k3, k4⟩ | ⟨k2, k3⟩
    · rw [show f_X11_in (nI k) 0 4 = some 1 from k2, bnd_s, if1_0, if_neg k3, if_neg (show ¬ (4 : Int32) < nI k from k4)]
      rcases in_rng x3 3 (by decide) with ⟨w, w1, rfl, w2, w3, w4⟩ | ⟨w2, w3⟩
      · rw [show f_X11_in (nI w) 0 3 = some 1 from w2, bnd_s, if1_0, if_neg w3, if_pos (show nI w ≤ 3 from nI_le (b := 3) w1 (by omega)), gIn_nI h1 (by decide), gIn_nI h1 (by decide), cl_nI (by omega), n4, n7]
        unfold f_X11_next_47
        by_cases hk : n < k
        · rw [if_pos (nI_lt hk (by omega)), if_pos (nI_lt hk (by omega))]
          obtain ⟨c, rfl⟩ : ∃ z, N = z + 1 := ⟨N - 1, by omega⟩
          rw [f_X11_next_52, if0_0]
          unfold f_X11_next_95
          rw [if0_0]
          refine ⟨_, rfl, ?_⟩
          split <;> rfl
        · rw [if_neg (nI_nlt (by omega) (by omega)), if_neg (nI_nlt (by omega) (by omega)), n6, mask_of (by omega), mask_nI]
          have hu31 : u % 2 ^ k < 2 ^ 31 := Nat.lt_of_le_of_lt (Nat.mod_le _ _) (by omega)
          have gg := nxG_loop (N := N) (r := r) (n := n) (k := k) (x3 := nI w) (mSizes := mSizes) (mSigns := mSigns) h1 n1 (by omega) k 1 N true (by omega) (by omega) (by omega)
          rw [Bool.true_and] at gg
          have e0 : u % 2 ^ k = 0 ↔ al (fun j => decide (¬ mSigns (15 * r + (n - j)) = -1)) 1 k = true := by
            rw [ub_mod0, al_iff, n12]
            have tU : ∀ j, j < n → (ub n (fun i => mSigns (15 * r + i))).testBit j = decide (mSigns (15 * r + (n - (j + 1))) = -1) := fun j hj => by
              have := ub_tb (n := n) (i := n - (j + 1)) (fun i => mSigns (15 * r + i)) (by omega)
              rw [show n - 1 - (n - (j + 1)) = j by omega] at this
              exact this
            constructor
            · intro q j j1 j2
              have := q (j - 1) (by omega)
              rw [tU (j - 1) (by omega), show j - 1 + 1 = j by omega, decide_eq_false_iff_not] at this
              exact decide_eq_true this
            · intro q j hj
              rw [tU j (by omega), decide_eq_false_iff_not]
              exact of_decide_eq_true (q (j + 1) (by omega) (by omega))
          rw [show (1 : Int32) = bI true from rfl, show bI true = 1 from rfl] at gg ⊢
          rw [show f_X11_next_52 N N (nI r) (nI k) (nI w) (nI n) 1 1 mSizes mSigns = _ from gg]
          unfold f_X11_next_95
          by_cases q : u % 2 ^ k = 0
          · rw [q, if_pos (show nI 0 = 0 from rfl), e0.mp q, bI_1, if1_0]
            exact nx_loop (xLen := xLen) (xHits := xHits) (xUns := xUns) (mSizes := mSizes) hN h1 n1 k1 w1 n4 (by rw [n5, n11]) (by rw [n6, n12]) n13 (e0.mp q) (n - k) k N N 0 0 (by omega) (by omega) (by omega) (by omega) (by omega) (by omega)
          · rw [if_neg (nI_ne0 (by omega) hu31), Bool.eq_false_iff.mpr (fun z => q (e0.mpr z)), bI_0, if0_0]
            exact ⟨_, rfl, rfl⟩
      · rw [show f_X11_in x3 0 3 = some 0 from w2, bnd_s, if0_0]
        rcases w3 with w3 | ⟨w3, w4⟩
        · rw [if_pos w3]
          exact ⟨_, rfl, rfl⟩
        · rw [if_neg w3, if_neg (show ¬ x3 ≤ 3 from fun q => by rw [fa_le] at q; rw [fa_lt] at w4; have : (3 : Int32).toInt = (nI 3).toInt := rfl; omega)]
          exact ⟨_, rfl, rfl⟩
    · rw [show f_X11_in x2 0 4 = some 0 from k2, bnd_s, if0_0]
      rcases k3 with k3 | ⟨k3, k4⟩
      · rw [if_pos k3]
        exact ⟨_, rfl, rfl⟩
      · rw [if_neg k3, if_pos (show (4 : Int32) < x2 from k4)]
        exact ⟨_, rfl, rfl⟩
  · rw [h2, h3, bnd_s, bnd_s, if0_0, if0_0]
    exact ⟨_, rfl, rfl⟩
