/-! pure rows: write, read, copy, set, wholes, count -/
theorem write_loop {N : Nat} {xLen xHits xUns mSizes mSigns : Nat → Int32} (hR : RRow xLen xHits xUns mSizes mSigns) {xLost xKind xSize mThere mTypes mHeld : Nat → Int32} {r s n k : Nat} (hr : r < 4) (hs : s < 4) (hn : n ≤ 15) (e1 : mSizes r = nI n) (hk : k ≤ 40) (e2 : mHeld s = nI k) {w : Nat} (hw : w = if n < k then n else k) (f : Int32) :
    ∀ (m j c d : Nat) (its : Nat → Nat → Int32) (itm : Nat → Int32), RSh its xLost xKind xSize mThere mTypes mHeld itm → j + m = w → m < c → m < d →
    ∃ o q, f_X10_write_58 N c (nI r) s (nI w) (nI j) xLen xHits xUns its xLost xKind xSize f = some (nI w, o, f) ∧ f_X11_write_34 N d (nI r) (nI s) (nI j) mSizes mSigns mThere mTypes mHeld itm f = some (nI w, q, f) ∧ RSh o xLost xKind xSize mThere mTypes mHeld q := by
  intro m
  induction m with
  | zero =>
    intro j c d its itm hR2 hj hc hd
    obtain ⟨c, rfl⟩ : ∃ z, c = z + 1 := ⟨c - 1, by omega⟩
    obtain ⟨d, rfl⟩ : ∃ z, d = z + 1 := ⟨d - 1, by omega⟩
    obtain rfl : j = w := by omega
    have hj40 : j ≤ 40 := by subst hw; split <;> omega
    rw [f_X10_write_58, if_pos (nI_le (Nat.le_refl j) (by omega)), f_X11_write_34, gIn_nI hr (by decide), gIn_nI hs (by decide), cl_nI (by omega), cl_nI (n := s) (by omega), e1, e2]
    unfold f_X11_write_77
    by_cases h : n ≤ j
    · rw [if_pos (nI_le h (by omega))]
      exact ⟨_, _, rfl, rfl, hR2⟩
    · have hkj : k ≤ j := by
        by_cases q : n < k
        · rw [if_pos q] at hw; omega
        · rw [if_neg q] at hw; omega
      rw [if_neg (nI_ge (by omega) (by omega)), if_pos (nI_le hkj (by omega))]
      exact ⟨_, _, rfl, rfl, hR2⟩
  | succ m ih =>
    intro j c d its itm hR2 hj hc hd
    obtain ⟨c, rfl⟩ : ∃ z, c = z + 1 := ⟨c - 1, by omega⟩
    obtain ⟨d, rfl⟩ : ∃ z, d = z + 1 := ⟨d - 1, by omega⟩
    have hw1 : w ≤ n ∧ w ≤ k := by subst hw; split <;> omega
    obtain ⟨n', b1, b2, b3, b4, b5, b6⟩ := hR r hr
    have : n' = n := (nI_eq (by omega) (by omega)).mp (b2.symm.trans e1)
    subst this
    obtain ⟨o, q, a1, a2, a3⟩ := store_ok hR2 hs (i := j) (by omega) (mSigns (15 * r + j))
    rw [f_X10_write_58, if_neg (nI_ge (by omega) (by omega)), gIn_nI hr (by decide), cl_nI (by omega), signAt_ok b1 b3 b4 b5 (b6 j (by omega)) (by omega), bnd_s, a1, bnd_s]
    rw [f_X11_write_34, gIn_nI hr (by decide), gIn_nI hs (by decide), cl_nI (n := r) (by omega), cl_nI (n := s) (by omega), e1, e2, if_neg (nI_ge (by omega) (by omega)), if_neg (nI_ge (by omega) (by omega)), mul15 hr (by omega), gIn_nI (by omega) (by decide), cl_nI (by omega), a2, bnd_s, show nI j + 1 = nI (j + 1) from nI_1 j]
    exact ih (j + 1) c d o q a3 (by omega) (by omega) (by omega)
theorem p_write {N : Nat} (hN : 50 ≤ N) {xLen xHits xUns mSizes mSigns : Nat → Int32} (hR : RRow xLen xHits xUns mSizes mSigns) {xItems : Nat → Nat → Int32} {xLost xKind xSize mThere mTypes mHeld mItems : Nat → Int32} (hS : RSh xItems xLost xKind xSize mThere mTypes mHeld mItems) (x1 x2 f : Int32) :
    ∃ o q, f_X10_write N x1 x2 xLen xHits xUns xItems xLost xKind xSize f = some o ∧ f_X11_write N x1 x2 mSizes mSigns mThere mTypes mHeld mItems f = some q ∧ o.1 = q.1 ∧ RSh o.2.1 xLost xKind xSize mThere mTypes mHeld q.2.1 ∧ o.2.2 = q.2.2 := by
  unfold f_X10_write f_X11_write
  rcases row_cases x1 with ⟨r, hr, rfl, hm, hx⟩ | ⟨hm, hx⟩
  · rw [hx, hm, bnd_s, bnd_s, if1_0, if1_0]
    rcases sheet_cases x2 with ⟨s, hs, rfl, hm2, hx2⟩ | ⟨hm2, hx2⟩
    · rw [hx2, hm2, bnd_s, bnd_s, if1_0, if1_0, gIn_nI hs (by decide), gIn_nI hs (by decide), cl_nI (n := s) (by omega)]
      obtain ⟨n, c1, c2, c3, c4, c5, c6⟩ := hS s hs
      obtain ⟨m, d1, d2, d3, d4, d5, d6⟩ := hR r hr
      rcases c5 with ⟨e1, e2⟩ | ⟨e1, e2⟩
      · rw [if_pos e1, e2, if1_0, gIn_nI hr (by decide), cl_nI (n := r) (by omega), d3, c3]
        have hw : (if nI m < nI n then nI m else nI n) = nI (if m < n then m else n) := by
          by_cases h : m < n
          · rw [if_pos h, if_pos (nI_lt h (by omega))]
          · rw [if_neg h, if_neg (nI_nlt (by omega) (by omega))]
        rw [hw]
        have hwn : (if m < n then m else n) ≤ 15 := by split <;> omega
        obtain ⟨o, q, a1, a2, a3⟩ := write_loop (N := N) hR (xLost := xLost) (xKind := xKind) (xSize := xSize) (mThere := mThere) (mTypes := mTypes) (mHeld := mHeld) hr hs d1 d2 c1 c2 rfl f (if m < n then m else n) 0 N N xItems mItems hS (by omega) (by omega) (by omega)
        rw [show (0 : Int32) = nI 0 from rfl, a1, a2]
        exact ⟨_, _, rfl, rfl, rfl, a3, rfl⟩
      · rw [if_neg (show ¬ xLost s = 0 by rw [e1]; decide), e2, if0_0]
        exact ⟨_, _, rfl, rfl, rfl, hS, rfl⟩
    · rw [hx2, hm2, bnd_s, bnd_s, if0_0, if0_0]
      exact ⟨_, _, rfl, rfl, rfl, hS, rfl⟩
  · rw [hx, hm, bnd_s, bnd_s, if0_0, if0_0]
    exact ⟨_, _, rfl, rfl, rfl, hS, rfl⟩
theorem read_loop {N : Nat} {xItems : Nat → Nat → Int32} {xLost xKind xSize mThere mTypes mHeld mItems : Nat → Int32} (hS : RSh xItems xLost xKind xSize mThere mTypes mHeld mItems) {r s : Nat} (hr : r < 4) (hs : s < 4) (f : Int32) :
    ∀ (m j c d : Nat) (xLen xHits xUns mSizes mSigns : Nat → Int32), RRow xLen xHits xUns mSizes mSigns → j + m = 40 → m < c → m < d →
    ∃ o q, f_X10_read_48 N c s r (nI j) xLen xHits xUns xItems xLost xSize f = some o ∧ f_X11_read_34 N d (nI s) (nI r) (nI j) mSizes mSigns mThere mHeld mItems f = some q ∧ o.1 = q.1 ∧ RRow o.2.1 o.2.2.1 o.2.2.2.1 q.2.1 q.2.2.1 ∧ o.2.2.2.2 = f ∧ q.2.2.2 = f := by
  obtain ⟨k, c1, c2, c3, c4, c5, c6⟩ := hS s hs
  have stop : ∀ (c d j : Nat) (xLen xHits xUns mSizes mSigns : Nat → Int32), RRow xLen xHits xUns mSizes mSigns → k ≤ j → j ≤ 40 →
      ∃ o q, f_X10_read_48 N (c + 1) s r (nI j) xLen xHits xUns xItems xLost xSize f = some o ∧ f_X11_read_34 N (d + 1) (nI s) (nI r) (nI j) mSizes mSigns mThere mHeld mItems f = some q ∧ o.1 = q.1 ∧ RRow o.2.1 o.2.2.1 o.2.2.2.1 q.2.1 q.2.2.1 ∧ o.2.2.2.2 = f ∧ q.2.2.2 = f := by
    intro c d j xLen xHits xUns mSizes mSigns hR hk hj
    rw [f_X10_read_48, c3, if_pos (nI_le hk (by omega)), f_X11_read_34, gIn_nI hs (by decide), cl_nI (by omega), c2, if_pos (nI_le hk (by omega))]
    exact ⟨_, _, rfl, rfl, rfl, hR, rfl, rfl⟩
  intro m
  induction m with
  | zero =>
    intro j c d xLen xHits xUns mSizes mSigns hR hj hc hd
    obtain ⟨c, rfl⟩ : ∃ z, c = z + 1 := ⟨c - 1, by omega⟩
    obtain ⟨d, rfl⟩ : ∃ z, d = z + 1 := ⟨d - 1, by omega⟩
    exact stop c d j xLen xHits xUns mSizes mSigns hR (by omega) (by omega)
  | succ m ih =>
    intro j c d xLen xHits xUns mSizes mSigns hR hj hc hd
    obtain ⟨c, rfl⟩ : ∃ z, c = z + 1 := ⟨c - 1, by omega⟩
    obtain ⟨d, rfl⟩ : ∃ z, d = z + 1 := ⟨d - 1, by omega⟩
    by_cases hk : k ≤ j
    · exact stop c d j xLen xHits xUns mSizes mSigns hR hk (by omega)
    · obtain ⟨n, b1, b2, b3, b4, b5, b6⟩ := hR r hr
      have hit := c6 j (by omega)
      rw [f_X10_read_48, c3, if_neg (nI_ge (by omega) (by omega)), f_X11_read_34, gIn_nI hs (by decide), cl_nI (n := s) (by omega), c2, if_neg (nI_ge (by omega) (by omega)), mul40, gIn_nI (by omega) (by decide), cl_nI (n := 40 * s + j) (by omega), gIn_nI (by omega) (by decide), cl_nI (n := j) (by omega), hit]
      unfold f_X5_isFull f_X11_read_69 f_X10_read_96
      rw [b3]
      rcases maySee_M (mItems (40 * s + j)) with ⟨a1, a2, a3⟩ | ⟨a1, a2⟩
      · rw [a2, puts_ok hr b1 b2 _ a1]
        by_cases hn : n = 15
        · subst hn
          rw [if_neg (by decide), bnd_s, if1_0, if_pos rfl, bnd_s, if_pos (show ((-4 : Int32), mSizes, mSigns).1 ≤ 0 by show (-4 : Int32) ≤ 0; decide)]
          exact ⟨_, _, rfl, rfl, rfl, hR, rfl, rfl⟩
        · obtain ⟨o, p1, p2, p3⟩ := row_push hR hr (by omega) b2 a3
          have hlt : nI n < 15 := nI_lt (b := 15) (by omega) (by omega)
          rw [if_pos hlt, bnd_s, if0_0, bnd_s, if1_0, p1, bnd_s, if_neg hn, bnd_s, if_neg (show ¬ nI (n + 1) ≤ 0 from nI_nle (by omega) (by omega)), show nI j + 1 = nI (j + 1) from nI_1 j]
          exact ih (j + 1) c d o.1 o.2.1 o.2.2 _ _ p3 (by omega) (by omega) (by omega)
      · rw [a2, puts_bad hr _ a1, bnd_s, bnd_s, if0_0, if_pos (show ((-2 : Int32), mSizes, mSigns).1 ≤ 0 by show (-2 : Int32) ≤ 0; decide)]
        by_cases hn : nI n < 15
        · rw [if_pos hn, bnd_s, if0_0]
          exact ⟨_, _, rfl, rfl, rfl, hR, rfl, rfl⟩
        · rw [if_neg hn, bnd_s, if1_0]
          exact ⟨_, _, rfl, rfl, rfl, hR, rfl, rfl⟩
theorem p_read {N : Nat} (hN : 50 ≤ N) {xLen xHits xUns mSizes mSigns : Nat → Int32} (hR : RRow xLen xHits xUns mSizes mSigns) {xItems : Nat → Nat → Int32} {xLost xKind xSize mThere mTypes mHeld mItems : Nat → Int32} (hS : RSh xItems xLost xKind xSize mThere mTypes mHeld mItems) (x1 x2 f : Int32) :
    ∃ o q, f_X10_read N x1 x2 xLen xHits xUns xItems xLost xSize f = some o ∧ f_X11_read N x1 x2 mSizes mSigns mThere mHeld mItems f = some q ∧ o.1 = q.1 ∧ RRow o.2.1 o.2.2.1 o.2.2.2.1 q.2.1 q.2.2.1 ∧ o.2.2.2.2 = q.2.2.2 := by
  unfold f_X10_read f_X11_read
  rcases sheet_cases x1 with ⟨s, hs, rfl, hm, hx⟩ | ⟨hm, hx⟩
  · rw [hx, hm, bnd_s, bnd_s, if1_0, if1_0]
    rcases row_cases x2 with ⟨r, hr, rfl, hm2, hx2⟩ | ⟨hm2, hx2⟩
    · rw [hx2, hm2, bnd_s, bnd_s, if1_0, if1_0, gIn_nI hs (by decide), gIn_nI hs (by decide), cl_nI (n := s) (by omega)]
      obtain ⟨n, c1, c2, c3, c4, c5, c6⟩ := hS s hs
      rcases c5 with ⟨e1, e2⟩ | ⟨e1, e2⟩
      · rw [if_pos e1, e2, if1_0, gIn_nI hr (by decide), cl_nI (n := r) (by omega)]
        obtain ⟨o, q, a1, a2, a3, a4, a5, a6⟩ := read_loop (N := N) hS hr hs f 40 0 N N xLen xHits xUns mSizes mSigns hR (by omega) (by omega) (by omega)
        rw [show (0 : Int32) = nI 0 from rfl, a1, a2]
        exact ⟨_, _, rfl, rfl, a3, a4, a5.trans a6.symm⟩
      · rw [if_neg (show ¬ xLost s = 0 by rw [e1]; decide), e2, if0_0]
        exact ⟨_, _, rfl, rfl, rfl, hR, rfl⟩
    · rw [hx2, hm2, bnd_s, bnd_s, if0_0, if0_0]
      exact ⟨_, _, rfl, rfl, rfl, hR, rfl⟩
  · rw [hx, hm, bnd_s, bnd_s, if0_0, if0_0]
    exact ⟨_, _, rfl, rfl, rfl, hR, rfl⟩
