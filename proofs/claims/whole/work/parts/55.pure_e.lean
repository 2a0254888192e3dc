/-! pure rows: whole rows, bits of rows, set, forget, count -/
theorem isWhole_loop {N : Nat} {mSizes mSigns : Nat → Int32} {r n : Nat} (hr : r < 4) (hn : n ≤ 15) (e1 : mSizes r = nI n) :
    ∀ (m j c : Nat), j + m = n → m < c → f_X11_isWhole_2 N c (nI r) (nI j) mSizes mSigns = some (if ∀ i, i < n → j ≤ i → ¬ mSigns (15 * r + i) = -1 then 1 else 0) := by
  intro m
  induction m with
  | zero =>
    intro j c hj hc
    obtain ⟨c, rfl⟩ : ∃ z, c = z + 1 := ⟨c - 1, by omega⟩
    rw [f_X11_isWhole_2, gIn_nI hr (by decide), cl_nI (by omega), e1, if_pos (nI_le (by omega) (by omega)), if_pos (fun i hi h2 => by omega)]
  | succ m ih =>
    intro j c hj hc
    obtain ⟨c, rfl⟩ : ∃ z, c = z + 1 := ⟨c - 1, by omega⟩
    rw [f_X11_isWhole_2, gIn_nI hr (by decide), cl_nI (n := r) (by omega), e1, if_neg (nI_ge (by omega) (by omega)), mul15 hr (by omega), gIn_nI (by omega) (by decide), cl_nI (by omega), show nI j + 1 = nI (j + 1) from nI_1 j]
    by_cases h : mSigns (15 * r + j) = -1
    · rw [if_pos h, if_neg (fun q => q j (by omega) (by omega) h)]
    · rw [if_neg h, ih (j + 1) c (by omega) (by omega)]
      by_cases q : ∀ i, i < n → j + 1 ≤ i → ¬ mSigns (15 * r + i) = -1
      · rw [if_pos q, if_pos (fun i hi h2 => by
          by_cases e : i = j
          · rw [e]; exact h
          · exact q i hi (by omega))]
      · rw [if_neg q, if_neg (fun z => q (fun i hi h2 => z i hi (by omega)))]
theorem isWhole_ok {N : Nat} (hN : 50 ≤ N) {mSizes mSigns : Nat → Int32} {r n : Nat} (hr : r < 4) (hn : n ≤ 15) (e1 : mSizes r = nI n) : f_X11_isWhole N (nI r) mSizes mSigns = some (if ub n (fun i => mSigns (15 * r + i)) = 0 then 1 else 0) := by
  unfold f_X11_isWhole
  rw [show (0 : Int32) = nI 0 from rfl, isWhole_loop hr hn e1 n 0 N (by omega) (by omega)]
  by_cases h : ub n (fun i => mSigns (15 * r + i)) = 0
  · rw [if_pos h, if_pos (fun i hi _ => ub_zero.mp h i hi)]
  · rw [if_neg h, if_neg (fun q => h (ub_zero.mpr (fun i hi => q i hi (Nat.zero_le i))))]
    rfl
theorem bitsOf_loop {N : Nat} {mSizes mSigns : Nat → Int32} {r n : Nat} (hr : r < 4) (hn : n ≤ 15) (e1 : mSizes r = nI n) :
    ∀ (m j c : Nat), j + m = n → m < c → f_X11_bitsOf_4 N c (nI r) (nI (hb j (fun i => mSigns (15 * r + i)))) (nI j) mSizes mSigns = some (nI (hb n (fun i => mSigns (15 * r + i)))) := by
  intro m
  induction m with
  | zero =>
    intro j c hj hc
    obtain ⟨c, rfl⟩ : ∃ z, c = z + 1 := ⟨c - 1, by omega⟩
    obtain rfl : j = n := by omega
    rw [f_X11_bitsOf_4, gIn_nI hr (by decide), cl_nI (by omega), e1, if_pos (nI_le (by omega) (by omega))]
  | succ m ih =>
    intro j c hj hc
    obtain ⟨c, rfl⟩ : ∃ z, c = z + 1 := ⟨c - 1, by omega⟩
    rw [f_X11_bitsOf_4, gIn_nI hr (by decide), cl_nI (n := r) (by omega), e1, if_neg (nI_ge (by omega) (by omega)), mul15 hr (by omega), gIn_nI (by omega) (by decide), cl_nI (by omega)]
    unfold f_X11_bitsOf_37
    rw [show nI j + 1 = nI (j + 1) from nI_1 j, show (2 : Int32) = nI 2 from rfl, pk_mul, ← ih (j + 1) c (by omega) (by omega)]
    by_cases h : mSigns (15 * r + j) = 1
    · rw [if_pos h, show (1 : Int32) = nI 1 from rfl, nI_add, hb, if_pos h]
    · rw [if_neg h, show (0 : Int32) = nI 0 from rfl, nI_add, hb, if_neg h]
theorem bitsOf_ok {N : Nat} (hN : 50 ≤ N) {mSizes mSigns : Nat → Int32} {r n : Nat} (hr : r < 4) (hn : n ≤ 15) (e1 : mSizes r = nI n) : f_X11_bitsOf N (nI r) mSizes mSigns = some (nI (hb n (fun i => mSigns (15 * r + i)))) := by
  unfold f_X11_bitsOf
  exact bitsOf_loop hr hn e1 n 0 N (by omega) (by omega)
/-- all lengths are forgotten -/
theorem forget_loop {N : Nat} : ∀ (m j c : Nat) (kn : Nat → Int32), j + m = 16 → m < c → ∃ kn', f_X8_forget_2 N c (nI j) kn = some kn' ∧ ∀ i, i < 16 → kn' i = if j ≤ i then 0 else kn i := by
  intro m
  induction m with
  | zero =>
    intro j c kn hj hc
    obtain ⟨c, rfl⟩ : ∃ z, c = z + 1 := ⟨c - 1, by omega⟩
    obtain rfl : j = 16 := by omega
    rw [f_X8_forget_2, if_pos (by decide)]
    exact ⟨_, rfl, fun i hi => by rw [if_neg (by omega)]⟩
  | succ m ih =>
    intro j c kn hj hc
    obtain ⟨c, rfl⟩ : ∃ z, c = z + 1 := ⟨c - 1, by omega⟩
    rw [f_X8_forget_2, if_neg (show ¬ (15 : Int32) < nI j from nI_nlt (a := 15) (by omega) (by omega)), gIn_nI (by omega) (by decide), cl_nI (by omega), show nI j + 1 = nI (j + 1) from nI_1 j]
    obtain ⟨kn', h1, h2⟩ := ih (j + 1) c (upd kn j (vp_nar .boolean 0)) (by omega) (by omega)
    refine ⟨kn', h1, fun i hi => ?_⟩
    rw [h2 i hi]
    by_cases e : i = j
    · subst e
      rw [if_neg (by omega), if_pos (by omega), pk_us]
      rfl
    · rw [pk_un e]
      by_cases q : j ≤ i
      · rw [if_pos q, if_pos (by omega)]
      · rw [if_neg q, if_neg (by omega)]
theorem forget_ok {N : Nat} (hN : 50 ≤ N) (kn : Nat → Int32) : ∃ kn', f_X8_forget N kn = some kn' ∧ ∀ i, i < 16 → kn' i = 0 := by
  obtain ⟨kn', h1, h2⟩ := forget_loop (N := N) 16 0 N kn (by omega) (by omega)
  exact ⟨kn', h1, fun i hi => by rw [h2 i hi, if_pos (Nat.zero_le i)]⟩
/-- ODDS and THE PATTERN -/
def RPar (o p : Int32) : Prop := (∃ n, 1 ≤ n ∧ n ≤ 15 ∧ o = nI n) ∧ ∃ n, 2 ≤ n ∧ n ≤ 127 ∧ p = nI n
theorem rng_of {x : Int32} {a b : Nat} (ha : a < 2 ^ 31) (hb : b < 2 ^ 31) (h1 : ¬ x < nI a) (h2 : ¬ nI b < x) : ∃ n, a ≤ n ∧ n ≤ b ∧ x = nI n := by
  have a1 : (nI a).toInt = (a : Int) := nI_toInt ha
  have a2 : (nI b).toInt = (b : Int) := nI_toInt hb
  rw [fa_lt, a1] at h1
  rw [fa_lt, a2] at h2
  have h0 : ¬ x < 0 := by
    rw [fa_lt]
    have : (0 : Int32).toInt = 0 := by decide
    omega
  obtain ⟨n, hn, rfl⟩ := nI_of h0
  rw [nI_toInt hn] at h1 h2
  exact ⟨n, by omega, by omega, rfl⟩
theorem le_lt1 {x : Int32} {a : Nat} (ha : a + 1 < 2 ^ 31) : nI (a + 1) ≤ x ↔ nI a < x := by
  rw [fa_le, fa_lt, nI_toInt ha, nI_toInt (by omega)]
  omega
/-- set: what was, and what is; the pattern's change forgets -/
theorem p_set {N : Nat} (hN : 50 ≤ N) {od pt : Int32} (hP : RPar od pt) (kn : Nat → Int32) (x1 x2 : Int32) :
    ∃ r od' pt' kn', f_X10_set N x1 x2 kn od pt = some (r, kn', od', pt') ∧ f_X11_set x1 x2 od pt = some (r, od', pt') ∧ RPar od' pt' ∧ ((kn' = kn ∧ pt' = pt) ∨ ∀ i, i < 16 → kn' i = 0) := by
  unfold f_X10_set f_X10_set_27 f_X11_set
  by_cases h0 : x1 = 0
  · subst h0
    rw [if_pos rfl, show f_X11_in 0 0 1 = some 1 by decide, bnd_s, if1_0, if_pos rfl, if_neg (show ¬ (0 : Int32) = 1 by decide)]
    by_cases a : x2 < 1
    · rw [if_pos a, Min_no (Or.inl a), bnd_s, if0_0]
      exact ⟨_, _, _, _, rfl, rfl, hP, Or.inl ⟨rfl, rfl⟩⟩
    · rw [if_neg a]
      by_cases b : 16 ≤ x2
      · rw [if_pos b, Min_no (Or.inr (show (15 : Int32) < x2 from (le_lt1 (a := 15) (by decide)).mp b)), bnd_s, if0_0]
        exact ⟨_, _, _, _, rfl, rfl, hP, Or.inl ⟨rfl, rfl⟩⟩
      · have b2 : ¬ (15 : Int32) < x2 := fun q => b ((le_lt1 (a := 15) (by decide)).mpr q)
        rw [if_neg b, Min_yes a b2, bnd_s, if1_0]
        unfold f_X11_set_39 f_X11_set_54 f_X11_set_68 f_X11_set_85
        rw [if_pos rfl, if_pos rfl, if_neg (show ¬ (0 : Int32) = 1 by decide)]
        exact ⟨_, _, _, _, rfl, rfl, ⟨rng_of (a := 1) (b := 15) (by decide) (by decide) a b2, hP.2⟩, Or.inl ⟨rfl, rfl⟩⟩
  · rw [if_neg h0]
    by_cases h1 : x1 = 1
    · subst h1
      rw [if_pos rfl, show f_X11_in 1 0 1 = some 1 by decide, bnd_s, if1_0, if_neg h0]
      by_cases a : x2 < 2
      · rw [if_pos a, Min_no (Or.inl a), bnd_s, if0_0]
        exact ⟨_, _, _, _, rfl, rfl, hP, Or.inl ⟨rfl, rfl⟩⟩
      · rw [if_neg a]
        by_cases b : 127 < x2
        · rw [if_pos b, Min_no (Or.inr b), bnd_s, if0_0]
          exact ⟨_, _, _, _, rfl, rfl, hP, Or.inl ⟨rfl, rfl⟩⟩
        · obtain ⟨kn', k1, k2⟩ := forget_ok hN kn
          rw [if_neg b, k1, bnd_s, Min_yes a b, bnd_s, if1_0]
          unfold f_X11_set_39 f_X11_set_54 f_X11_set_68 f_X11_set_85
          rw [if_neg h0, if_neg h0, if_pos rfl]
          exact ⟨_, _, _, _, rfl, rfl, ⟨hP.1, rng_of (a := 2) (b := 127) (by decide) (by decide) a b⟩, Or.inr k2⟩
    · rw [if_neg h1]
      have : f_X11_in x1 0 1 = some 0 := by
        rcases Min_rng x1 1 (by decide) with ⟨j, hj, rfl, -⟩ | ⟨-, h⟩ | ⟨-, -, h⟩
        · exfalso
          rcases (show j = 0 ∨ j = 1 by omega) with rfl | rfl
          · exact h0 rfl
          · exact h1 rfl
        · exact h
        · exact h
      rw [this, bnd_s, if0_0]
      exact ⟨_, _, _, _, rfl, rfl, hP, Or.inl ⟨rfl, rfl⟩⟩
/-- a row's two faces: n signs, bits h, unseen u -/
theorem row_at {xLen xHits xUns mSizes mSigns : Nat → Int32} (hR : RRow xLen xHits xUns mSizes mSigns) {N : Nat} (hN : 50 ≤ N) {r : Nat} (hr : r < 4) :
    ∃ n h u, n ≤ 15 ∧ h < 2 ^ n ∧ u < 2 ^ n ∧ xLen r = nI n ∧ xHits r = nI h ∧ xUns r = nI u ∧ mSizes r = nI n ∧ f_X11_bitsOf N (nI r) mSizes mSigns = some (nI h) ∧ f_X11_isWhole N (nI r) mSizes mSigns = some (if u = 0 then 1 else 0) ∧ f_X5_isWhole r xUns = some (if u = 0 then 1 else 0) ∧ h = hb n (fun i => mSigns (15 * r + i)) ∧ u = ub n (fun i => mSigns (15 * r + i)) ∧ ∀ i, i < n → (mSigns (15 * r + i) = -1 ∨ mSigns (15 * r + i) = 0 ∨ mSigns (15 * r + i) = 1) := by
  obtain ⟨n, b1, b2, b3, b4, b5, b6⟩ := hR r hr
  have hU := ub_lt n (fun i => mSigns (15 * r + i))
  have hp : 2 ^ n ≤ 2 ^ 15 := Nat.pow_le_pow_right (by omega) b1
  refine ⟨n, _, _, b1, hb_lt n _, hU, b3, b4, b5, b2, bitsOf_ok hN hr b1 b2, isWhole_ok hN hr b1 b2, ?_, rfl, rfl, b6⟩
  unfold f_X5_isWhole
  rw [b5]
  by_cases h : ub n (fun i => mSigns (15 * r + i)) = 0
  · rw [if_pos h, h, if_pos (show nI 0 = 0 from rfl)]
  · rw [if_neg h, if_neg (nI_ne0 (by omega) (by omega))]
theorem wholes_loop {xLen xHits xUns mSizes mSigns : Nat → Int32} (hR : RRow xLen xHits xUns mSizes mSigns) {N : Nat} (hN : 50 ≤ N) : ∀ (m j c d : Nat) (b : Int32), j + m = 4 → m < c → m < d → ∃ o, f_X10_wholeRows_4 N c b (nI j) xUns = some o ∧ f_X11_wholeOnes_4 N d b (nI j) mSizes mSigns = some o := by
  intro m
  induction m with
  | zero =>
    intro j c d b hj hc hd
    obtain ⟨c, rfl⟩ : ∃ z, c = z + 1 := ⟨c - 1, by omega⟩
    obtain ⟨d, rfl⟩ : ∃ z, d = z + 1 := ⟨d - 1, by omega⟩
    obtain rfl : j = 4 := by omega
    rw [f_X10_wholeRows_4, if_pos (by decide), f_X11_wholeOnes_4, if_pos (by decide)]
    exact ⟨_, rfl, rfl⟩
  | succ m ih =>
    intro j c d b hj hc hd
    obtain ⟨c, rfl⟩ : ∃ z, c = z + 1 := ⟨c - 1, by omega⟩
    obtain ⟨d, rfl⟩ : ∃ z, d = z + 1 := ⟨d - 1, by omega⟩
    obtain ⟨n, h, u, a1, a2, a3, a4, a5, a6, a7, a8, a9, a10, -⟩ := row_at hR hN (show j < 4 by omega)
    rw [f_X10_wholeRows_4, if_neg (show ¬ (4 : Int32) ≤ nI j from nI_ge (b := 4) (by omega) (by omega)), gIn_nI (by omega) (by decide), cl_nI (by omega), a10, bnd_s, f_X11_wholeOnes_4, if_neg (show ¬ (4 : Int32) ≤ nI j from nI_ge (b := 4) (by omega) (by omega)), a9, bnd_s]
    unfold f_X10_wholeRows_27 f_X11_wholeOnes_25
    rw [show nI j + 1 = nI (j + 1) from nI_1 j]
    by_cases q : u = 0
    · rw [if_pos q, if1_0, if1_0]
      exact ih (j + 1) c d _ (by omega) (by omega) (by omega)
    · rw [if_neg q, if0_0, if0_0, show b ||| 0 = b by simp]
      exact ih (j + 1) c d _ (by omega) (by omega) (by omega)
theorem p_count {xLen xHits xUns mSizes mSigns : Nat → Int32} (hR : RRow xLen xHits xUns mSizes mSigns) {N : Nat} (hN : 50 ≤ N) (sl od pt f x1 : Int32) : ∃ o, f_X10_count N x1 xLen xUns sl od pt f = some o ∧ f_X11_count N x1 mSizes mSigns od pt sl f = some o := by
  unfold f_X10_count f_X11_count
  have hrow : ∀ r, r < 4 → xLen r = mSizes r := fun r hr => by
    obtain ⟨n, b1, b2, b3, -⟩ := hR r hr
    rw [b2, b3]
  rcases row_cases x1 with ⟨r, hr, rfl, hm, hx⟩ | ⟨hm, hx⟩
  · rw [hx, bnd_s, if1_0, gIn_nI hr (by decide), gIn_nI hr (by decide), cl_nI (by omega), hrow r hr]
    rcases (show r = 0 ∨ r = 1 ∨ r = 2 ∨ r = 3 by omega) with rfl | rfl | rfl | rfl
    · rw [if_pos (show nI 0 = 0 from rfl)]; exact ⟨_, rfl, rfl⟩
    · rw [if_neg (show ¬ nI 1 = 0 by decide), if_pos (show nI 1 = 1 from rfl)]; exact ⟨_, rfl, rfl⟩
    · rw [if_neg (show ¬ nI 2 = 0 by decide), if_neg (show ¬ nI 2 = 1 by decide), if_pos (show nI 2 = 2 from rfl)]; exact ⟨_, rfl, rfl⟩
    · rw [if_neg (show ¬ nI 3 = 0 by decide), if_neg (show ¬ nI 3 = 1 by decide), if_neg (show ¬ nI 3 = 2 by decide), if_pos (show nI 3 = 3 from rfl)]; exact ⟨_, rfl, rfl⟩
  · have no : ∀ j, j < 4 → ¬ x1 = nI j := fun j hj e => by
      have : ∀ j, j < 4 → f_X10_isRow (nI j) = some 1 := by decide +kernel
      rw [e, this j hj] at hx
      exact absurd hx (by decide)
    rw [hx, bnd_s, if0_0, if_neg (show ¬ x1 = 0 from no 0 (by omega)), if_neg (show ¬ x1 = 1 from no 1 (by omega)), if_neg (show ¬ x1 = 2 from no 2 (by omega)), if_neg (show ¬ x1 = 3 from no 3 (by omega))]
    by_cases h4 : x1 = 4
    · rw [if_pos h4, if_pos h4]; exact ⟨_, rfl, rfl⟩
    · rw [if_neg h4, if_neg h4]
      by_cases h5 : x1 = 5
      · rw [if_pos h5, if_pos h5]; exact ⟨_, rfl, rfl⟩
      · rw [if_neg h5, if_neg h5]
        by_cases h6 : x1 = 6
        · rw [if_pos h6, if_pos h6]; exact ⟨_, rfl, rfl⟩
        · rw [if_neg h6, if_neg h6]
          by_cases h7 : x1 = 7
          · rw [if_pos h7, if_pos h7]
            obtain ⟨o, w1, w2⟩ := wholes_loop hR hN 4 0 N N 0 (by omega) (by omega) (by omega)
            unfold f_X10_wholeRows f_X11_wholeOnes
            have w1 : f_X10_wholeRows_4 N N 0 0 xUns = some o := w1
            have w2 : f_X11_wholeOnes_4 N N 0 0 mSizes mSigns = some o := w2
            rw [w1, w2]; exact ⟨_, rfl, rfl⟩
          · rw [if_neg h7, if_neg h7]
            by_cases h8 : x1 = 8
            · rw [if_pos h8]; exact ⟨_, rfl, rfl⟩
            · rw [if_neg h8]; exact ⟨_, rfl, rfl⟩
