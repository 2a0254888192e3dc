/-! pure rows: copy -/
theorem span_ok {s n i k : Nat} {xSize : Nat → Int32} (hn : n ≤ 40) (e : xSize s = nI n) (hi : i < 2 ^ 31) (hk : k < 2 ^ 31) : f_X7_hasSpan s (nI i) (nI k) xSize = some (if i + k ≤ n then 1 else 0) := by
  have a1 : (nI n).toInt = (n : Int) := nI_toInt (by omega)
  have a2 : (nI i).toInt = (i : Int) := nI_toInt hi
  have a3 : (nI k).toInt = (k : Int) := nI_toInt hk
  have a4 : (nI n - nI i).toInt = (n : Int) - i := by rw [fb_subI (by omega) (by omega), a1, a2]
  unfold f_X7_hasSpan
  rw [if_neg (nI_pos hi), if_neg (nI_pos hk), e]
  by_cases h : i + k ≤ n
  · rw [if_pos h, if_neg (by rw [fa_lt, a4, a3]; omega)]
  · rw [if_neg h, if_pos (by rw [fa_lt, a4, a3]; omega)]
theorem span_no {s : Nat} {x y : Int32} {xSize : Nat → Int32} (h : x < 0 ∨ y < 0) : f_X7_hasSpan s x y xSize = some 0 := by
  unfold f_X7_hasSpan
  by_cases h1 : x < 0
  · rw [if_pos h1]
  · rcases h with h | h
    · exact absurd h h1
    · rw [if_neg h1, if_pos h]
theorem mul40k {s i k : Nat} : (((40 : Int32) * nI s) + nI i) + nI k = nI (40 * s + i + k) := by rw [mul40, nI_add]
theorem cpB_loop {N t j n : Nat} (ht : t < 4) (hj : j + n ≤ 40) {a b c mv : Nat → Int32} {f : Int32} : ∀ (z k fu : Nat) (its : Nat → Int32), k + z = n → z < fu → ∃ its', f_X11_copy_157 N fu (nI t) (nI j) (nI n) (nI k) a b c its mv f = some (1, its', mv, f) ∧ ∀ q, its' q = if 40 * t + j + k ≤ q ∧ q < 40 * t + j + n then mv (q - (40 * t + j)) else its q := by
  intro z
  induction z with
  | zero =>
    intro k fu its hk hf
    obtain ⟨fu, rfl⟩ : ∃ z, fu = z + 1 := ⟨fu - 1, by omega⟩
    obtain rfl : k = n := by omega
    rw [f_X11_copy_157, if_pos (nI_le (Nat.le_refl _) (by omega))]
    exact ⟨its, rfl, fun q => (if_neg (by omega)).symm⟩
  | succ z ih =>
    intro k fu its hk hf
    obtain ⟨fu, rfl⟩ : ∃ z, fu = z + 1 := ⟨fu - 1, by omega⟩
    rw [f_X11_copy_157, if_neg (nI_ge (by omega) (by omega)), gIn_nI (show k < 40 by omega) (by decide), mul40k, gIn_nI (show 40 * t + j + k < 160 by omega) (by decide), cl_nI (by omega), cl_nI (by omega), nI_1]
    obtain ⟨its', b1, b2⟩ := ih (k + 1) fu (upd its (40 * t + j + k) (mv k)) (by omega) (by omega)
    refine ⟨its', b1, fun q => ?_⟩
    rw [b2 q]
    by_cases e : q = 40 * t + j + k
    · subst e
      rw [if_neg (by omega), pk_us, if_pos (by omega), show 40 * t + j + k - (40 * t + j) = k by omega]
    · rw [pk_un e]
      by_cases h : 40 * t + j + (k + 1) ≤ q ∧ q < 40 * t + j + n
      · rw [if_pos h, if_pos (by omega)]
      · rw [if_neg h, if_neg (by omega)]
theorem cpA_loop {N s i t j n : Nat} (hs : s < 4) (hi : i + n ≤ 40) {a b c its : Nat → Int32} {f : Int32} : ∀ (z k fu : Nat) (mv : Nat → Int32), k + z = n → z < fu → ∃ mv', f_X11_copy_120 N fu (nI s) (nI i) (nI t) (nI j) (nI n) (nI k) a b c its mv f = f_X11_copy_157 N N (nI t) (nI j) (nI n) (nI 0) a b c its mv' f ∧ ∀ q, mv' q = if k ≤ q ∧ q < n then its (40 * s + i + q) else mv q := by
  intro z
  induction z with
  | zero =>
    intro k fu mv hk hf
    obtain ⟨fu, rfl⟩ : ∃ z, fu = z + 1 := ⟨fu - 1, by omega⟩
    obtain rfl : k = n := by omega
    rw [f_X11_copy_120, if_pos (nI_le (Nat.le_refl _) (by omega))]
    exact ⟨mv, rfl, fun q => (if_neg (by omega)).symm⟩
  | succ z ih =>
    intro k fu mv hk hf
    obtain ⟨fu, rfl⟩ : ∃ z, fu = z + 1 := ⟨fu - 1, by omega⟩
    rw [f_X11_copy_120, if_neg (nI_ge (by omega) (by omega)), mul40k, gIn_nI (show 40 * s + i + k < 160 by omega) (by decide), gIn_nI (show k < 40 by omega) (by decide), cl_nI (by omega), cl_nI (by omega), nI_1]
    obtain ⟨mv', b1, b2⟩ := ih (k + 1) fu (upd mv k (its (40 * s + i + k))) (by omega) (by omega)
    refine ⟨mv', b1, fun q => ?_⟩
    rw [b2 q]
    by_cases e : q = k
    · subst e
      rw [if_neg (by omega), pk_us, if_pos (by omega)]
    · rw [pk_un e]
      by_cases h : k + 1 ≤ q ∧ q < n
      · rw [if_pos h, if_pos (by omega)]
      · rw [if_neg h, if_neg (by omega)]
theorem lcp_le {i k n : Nat} (hi : i < 2 ^ 31) (hk : k < 2 ^ 31) (hn : n ≤ 40) : (lg_cmp ((nI i).toInt64 + (nI k).toInt64) (nI n).toInt64 ≤ 0) ↔ i + k ≤ n := by
  rw [nI_l hi, nI_l hk, nI_l (by omega), lN_add, lg_cmp_le, pk_lLE (by omega) (by omega)]
theorem lcp_gt {i k n : Nat} (hi : i < 2 ^ 31) (hk : k < 2 ^ 31) (hn : n ≤ 40) : (0 < lg_cmp ((nI i).toInt64 + (nI k).toInt64) (nI n).toInt64) ↔ n < i + k := by
  rw [nI_l hi, nI_l hk, nI_l (by omega), lN_add, lg_cmp_gt, pk_lLT (by omega) (by omega)]
theorem p_copy {N : Nat} (hN : 50 ≤ N) {xItems : Nat → Nat → Int32} {xLost xKind xSize mThere mTypes mHeld mItems : Nat → Int32} (hR : RSh xItems xLost xKind xSize mThere mTypes mHeld mItems) (mMoved : Nat → Int32) (x1 x2 x3 x4 x5 f : Int32) :
    ∃ o q, f_X10_copy x1 x2 x3 x4 x5 xItems xLost xKind xSize f = some o ∧ f_X11_copy N x1 x2 x3 x4 x5 mThere mTypes mHeld mItems mMoved f = some q ∧ o.1 = q.1 ∧ RSh o.2.1 xLost xKind xSize mThere mTypes mHeld q.2.1 ∧ o.2.2 = q.2.2.2 := by
  unfold f_X10_copy f_X11_copy f_X10_copy_97 f_X10_copy_49 f_X11_copy_111 f_X11_copy_35 f_X10_found f_X11_meets
  simp only [bnd_s]
  rcases sheet_cases x1 with ⟨s, hs, rfl, hm, hx⟩ | ⟨hm, hx⟩
  · rw [hx, hm, bnd_s, bnd_s, if1_0, if1_0]
    rcases sheet_cases x3 with ⟨t, ht, rfl, hm2, hx2⟩ | ⟨hm2, hx2⟩
    · rw [hx2, hm2, bnd_s, bnd_s, if1_0, if1_0, gIn_nI hs (by decide), gIn_nI hs (by decide), gIn_nI ht (by decide), gIn_nI ht (by decide), cl_nI (n := s) (by omega), cl_nI (n := t) (by omega)]
      obtain ⟨n, c1, c2, c3, c4, c5, c6⟩ := hR s hs
      obtain ⟨m, d1, d2, d3, d4, d5, d6⟩ := hR t ht
      rcases c5 with ⟨e1, e2⟩ | ⟨e1, e2⟩
      · rw [if_pos e1, e2, if1_0]
        rcases d5 with ⟨g1, g2⟩ | ⟨g1, g2⟩
        · rw [if_pos g1, g2, if1_0, c4, d4]
          by_cases hk : mTypes s = mTypes t
          · rw [if_pos hk, if_pos hk]
            by_cases h2 : x2 < 0
            · rw [span_no (Or.inl h2), bnd_s, if0_0, if_pos h2]
              exact ⟨_, _, rfl, rfl, rfl, hR, rfl⟩
            by_cases h5 : x5 < 0
            · rw [span_no (Or.inr h5), bnd_s, if0_0, if_neg h2, if_pos h5]
              by_cases h4 : x4 < 0
              · rw [if_pos h4]
                exact ⟨_, _, rfl, rfl, rfl, hR, rfl⟩
              · rw [if_neg h4]
                exact ⟨_, _, rfl, rfl, rfl, hR, rfl⟩
            obtain ⟨i, hi, rfl⟩ := nI_of h2
            obtain ⟨k, hk5, rfl⟩ := nI_of h5
            rw [if_neg h2, if_neg h5, span_ok c1 c3 hi hk5, bnd_s, c2, d2]
            by_cases h4 : x4 < 0
            · rw [if_pos h4, span_no (Or.inl h4), bnd_s, if0_0]
              by_cases q1 : i + k ≤ n
              · rw [if_pos q1, if1_0]
                exact ⟨_, _, rfl, rfl, rfl, hR, rfl⟩
              · rw [if_neg q1, if0_0]
                exact ⟨_, _, rfl, rfl, rfl, hR, rfl⟩
            obtain ⟨j, hj, rfl⟩ := nI_of h4
            rw [if_neg h4, span_ok d1 d3 hj hk5, bnd_s]
            by_cases q1 : i + k ≤ n
            · rw [if_pos q1, if1_0, if_neg (fun q => absurd ((lcp_gt hi hk5 c1).mp q) (by omega))]
              by_cases q2 : j + k ≤ m
              · rw [if_pos q2, if1_0, if_pos ((lcp_le hj hk5 d1).mpr q2), gCp_of ⟨h2, h4, h5, by rw [cl_nI hi, cl_nI hk5]; omega, by rw [cl_nI hj, cl_nI hk5]; omega⟩, cl_nI hi, cl_nI hj, cl_nI hk5]
                obtain ⟨mv', a1, a2⟩ := cpA_loop (N := N) (t := t) (j := j) (n := k) (a := mThere) (b := mTypes) (c := mHeld) (its := mItems) (f := f) hs (show i + k ≤ 40 by omega) k 0 N mMoved (by omega) (by omega)
                obtain ⟨its', b1, b2⟩ := cpB_loop (N := N) (n := k) (a := mThere) (b := mTypes) (c := mHeld) (mv := mv') (f := f) ht (show j + k ≤ 40 by omega) k 0 N mItems (by omega) (by omega)
                rw [show (0 : Int32) = nI 0 from rfl, a1, b1]
                refine ⟨_, _, rfl, rfl, rfl, ?_, rfl⟩
                intro q hq
                by_cases e : q = t
                · subst e
                  refine ⟨m, d1, d2, d3, d4, Or.inl ⟨g1, g2⟩, fun w hw => ?_⟩
                  show va_up xItems q _ q w = its' (40 * q + w)
                  rw [va_up, if_pos rfl, b2]
                  by_cases h : j ≤ w ∧ w < j + k
                  · rw [pk_cpy_in h.1 h.2, if_pos (by omega), a2, if_pos (by omega), c6 _ (by omega)]
                    exact congrArg mItems (by omega)
                  · rw [pk_cpy_out (by omega), if_neg (by omega)]
                    exact d6 w hw
                · obtain ⟨m2, f1, f2, f3, f4, f5, f6⟩ := hR q hq
                  refine ⟨m2, f1, f2, f3, f4, f5, fun w hw => ?_⟩
                  show va_up xItems t _ q w = its' (40 * q + w)
                  rw [va_up, if_neg e, b2, if_neg (by omega)]
                  exact f6 w hw
              · rw [if_neg q2, if0_0, if_neg (fun q => q2 ((lcp_le hj hk5 d1).mp q))]
                exact ⟨_, _, rfl, rfl, rfl, hR, rfl⟩
            · rw [if_neg q1, if0_0, if_pos ((lcp_gt hi hk5 c1).mpr (by omega))]
              exact ⟨_, _, rfl, rfl, rfl, hR, rfl⟩
          · rw [if_neg hk, if_neg hk]
            exact ⟨_, _, rfl, rfl, rfl, hR, rfl⟩
        · rw [if_neg (show ¬ xLost t = 0 by rw [g1]; decide), g2, if0_0]
          exact ⟨_, _, rfl, rfl, rfl, hR, rfl⟩
      · rw [if_neg (show ¬ xLost s = 0 by rw [e1]; decide), e2, if0_0]
        exact ⟨_, _, rfl, rfl, rfl, hR, rfl⟩
    · rw [hx2, hm2, bnd_s, bnd_s, if0_0, if0_0]
      exact ⟨_, _, rfl, rfl, rfl, hR, rfl⟩
  · rw [hx, hm, bnd_s, bnd_s, if0_0, if0_0]
    exact ⟨_, _, rfl, rfl, rfl, hR, rfl⟩
