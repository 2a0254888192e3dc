/-! pure rows: SHEETS: sheet, lose, put, get, write, read, copy -/
theorem Min_rng (x : Int32) (n : Nat) (hn : n + 1 < 2 ^ 31) : (∃ j, j < n + 1 ∧ x = nI j ∧ f_X11_in x 0 (nI n) = some 1) ∨ (x < 0 ∧ f_X11_in x 0 (nI n) = some 0) ∨ (¬ x < 0 ∧ nI (n + 1) ≤ x ∧ f_X11_in x 0 (nI n) = some 0) := by
  rcases pk_ix x (n := n + 1) hn with h | h | ⟨j, hj, rfl⟩
  · exact Or.inr (Or.inl ⟨h, Min_no (Or.inl h)⟩)
  · have a1 : (nI (n + 1)).toInt = ((n + 1 : Nat) : Int) := nI_toInt hn
    have a2 : (nI n).toInt = (n : Int) := nI_toInt (by omega)
    have a3 : (0 : Int32).toInt = 0 := by decide
    rw [fa_le, a1] at h
    refine Or.inr (Or.inr ⟨?_, ?_, Min_no (Or.inr ?_)⟩)
    · rw [fa_lt, a3]; omega
    · rw [fa_le, a1]; omega
    · rw [fa_lt, a2]; omega
  · exact Or.inl ⟨j, hj, rfl, Min_yes (nI_pos (by omega)) (nI_nlt (by omega) (by omega))⟩
theorem type_cases (x : Int32) : (f_X11_in x 0 2 = some 1 ∧ f_X10_isType x = some 1 ∧ ∃ j, j < 3 ∧ x = nI j) ∨ (f_X11_in x 0 2 = some 0 ∧ f_X10_isType x = some 0) := by
  rcases Min_rng x 2 (by decide) with ⟨j, hj, rfl, h⟩ | ⟨h0, h⟩ | ⟨h0, h1, h⟩
  · left
    have : ∀ j, j < 3 → f_X10_isType (nI j) = some 1 := by decide +kernel
    exact ⟨h, this j hj, j, hj, rfl⟩
  · right
    refine ⟨h, ?_⟩
    unfold f_X10_isType
    rw [if_pos h0]
  · right
    refine ⟨h, ?_⟩
    unfold f_X10_isType
    rw [if_neg h0, if_pos (show (3 : Int32) ≤ x from h1)]
def RSh (xItems : Nat → Nat → Int32) (xLost xKind xSize mThere mTypes mHeld mItems : Nat → Int32) : Prop := ∀ s, s < 4 → ∃ n, n ≤ 40 ∧ mHeld s = nI n ∧ xSize s = nI n ∧ xKind s = mTypes s ∧ ((xLost s = 0 ∧ mThere s = 1) ∨ (xLost s = 1 ∧ mThere s = 0)) ∧ ∀ i, i < 40 → xItems s i = mItems (40 * s + i)
theorem mul40 {s i : Nat} : ((40 : Int32) * nI s) + nI i = nI (40 * s + i) := by
  rw [show (40 : Int32) = nI 40 from rfl, pk_mul, nI_add]
theorem renew_loop {N e : Nat} {x1 x2 : Int32} {xLost xKind xSize : Nat → Int32} : ∀ (m j n : Nat) (its : Nat → Nat → Int32), j + m = 40 → m < n → ∃ its', f_X7_renew_2 N n e x1 x2 (nI j) its xLost xKind xSize = some (its', va_up xLost e 0, va_up xKind e x1, va_up xSize e x2) ∧ ∀ s i, its' s i = if s = e ∧ j ≤ i ∧ i < 40 then 0 else its s i := by
  intro m
  induction m with
  | zero =>
    intro j n its hj hn
    obtain ⟨n, rfl⟩ : ∃ k, n = k + 1 := ⟨n - 1, by omega⟩
    obtain rfl : j = 40 := by omega
    rw [f_X7_renew_2, if_pos (by decide)]
    exact ⟨_, rfl, fun s i => by rw [if_neg (by omega)]⟩
  | succ m ih =>
    intro j n its hj hn
    obtain ⟨n, rfl⟩ : ∃ k, n = k + 1 := ⟨n - 1, by omega⟩
    rw [f_X7_renew_2, if_neg (show ¬ (40 : Int32) ≤ nI j from nI_ge (b := 40) (by omega) (by omega)), gIn_nI (by omega) (by decide), cl_nI (by omega), show nI j + 1 = nI (j + 1) from nI_1 j]
    obtain ⟨its', h1, h2⟩ := ih (j + 1) n (va_up its e (upd (its e) j 0)) (by omega) (by omega)
    refine ⟨its', h1, fun s i => ?_⟩
    rw [h2]
    by_cases hs : s = e
    · subst hs
      by_cases hi : i = j
      · subst hi
        rw [if_neg (by omega), if_pos (by omega), va_up, if_pos rfl, pk_us]
      · rw [va_up, if_pos rfl, pk_un hi]
        by_cases h3 : s = s ∧ j ≤ i ∧ i < 40
        · rw [if_pos h3, if_pos (by omega)]
        · rw [if_neg h3, if_neg (by omega)]
    · rw [if_neg (by omega), if_neg (by omega), va_up, if_neg hs]
theorem sheet_loop {N e : Nat} (he : e < 4) {x3 f : Int32} {a b c : Nat → Int32} : ∀ (m j n : Nat) (its : Nat → Int32), j + m = 40 → m < n → ∃ its', f_X11_sheet_59 N n (nI e) x3 (nI j) a b c its f = some (x3, a, b, c, its', f) ∧ ∀ q, its' q = if 40 * e + j ≤ q ∧ q < 40 * e + 40 then 0 else its q := by
  intro m
  induction m with
  | zero =>
    intro j n its hj hn
    obtain ⟨n, rfl⟩ : ∃ k, n = k + 1 := ⟨n - 1, by omega⟩
    obtain rfl : j = 40 := by omega
    rw [f_X11_sheet_59, if_pos (by decide)]
    exact ⟨_, rfl, fun q => by rw [if_neg (by omega)]⟩
  | succ m ih =>
    intro j n its hj hn
    obtain ⟨n, rfl⟩ : ∃ k, n = k + 1 := ⟨n - 1, by omega⟩
    rw [f_X11_sheet_59, if_neg (show ¬ (40 : Int32) ≤ nI j from nI_ge (b := 40) (by omega) (by omega)), mul40, gIn_nI (by omega) (by decide), cl_nI (by omega), show nI j + 1 = nI (j + 1) from nI_1 j]
    obtain ⟨its', h1, h2⟩ := ih (j + 1) n (upd its (40 * e + j) 0) (by omega) (by omega)
    refine ⟨its', h1, fun q => ?_⟩
    rw [h2]
    by_cases hq : q = 40 * e + j
    · subst hq
      rw [if_neg (by omega), if_pos (by omega), pk_us]
    · rw [pk_un hq]
      by_cases h3 : 40 * e + j ≤ q ∧ q < 40 * e + 40
      · rw [if_pos h3, if_pos (by omega)]
      · rw [if_neg h3, if_neg (by omega)]
theorem p_sheet {N : Nat} (hN : 50 ≤ N) {xItems : Nat → Nat → Int32} {xLost xKind xSize mThere mTypes mHeld mItems : Nat → Int32} (hR : RSh xItems xLost xKind xSize mThere mTypes mHeld mItems) (x1 x2 x3 f : Int32) :
    ∃ o q, f_X10_sheet N x1 x2 x3 xItems xLost xKind xSize f = some o ∧ f_X11_sheet N x1 x2 x3 mThere mTypes mHeld mItems f = some q ∧ o.1 = q.1 ∧ RSh o.2.1 o.2.2.1 o.2.2.2.1 o.2.2.2.2.1 q.2.1 q.2.2.1 q.2.2.2.1 q.2.2.2.2.1 ∧ o.2.2.2.2.2 = q.2.2.2.2.2 := by
  unfold f_X10_sheet f_X11_sheet
  rcases sheet_cases x1 with ⟨s, hs, rfl, hm, hx⟩ | ⟨hm, hx⟩
  · rw [hx, hm, bnd_s, bnd_s, if1_0, if1_0]
    rcases type_cases x2 with ⟨t1, t2, t, ht, rfl⟩ | ⟨t1, t2⟩
    · rw [t1, t2, bnd_s, bnd_s, if1_0, if1_0]
      by_cases h40 : x3 ≤ 40
      · rw [if_pos h40, if_pos h40]
        by_cases h0 : 0 ≤ x3
        · rw [if_pos h0, if_pos h0, gIn_nI hs (by decide), gIn_nI hs (by decide), cl_nI (by omega)]
          obtain ⟨n, hn, rfl⟩ := nI_of2 (M := 40) (n := 40) (by decide) (fun h => by rw [fa_lt] at h; rw [fa_le] at h0; omega) h40
          unfold f_X7_renew
          obtain ⟨i1, a1, a2⟩ := renew_loop (N := N) (e := s) (x1 := nI t) (x2 := nI n) (xLost := xLost) (xKind := xKind) (xSize := xSize) 40 0 N xItems (by omega) (by omega)
          obtain ⟨i2, b1, b2⟩ := sheet_loop (N := N) hs (x3 := nI n) (f := f) (a := upd mThere s (vp_nar .boolean 1)) (b := upd mTypes s (nI t)) (c := upd mHeld s (nI n)) 40 0 N mItems (by omega) (by omega)
          rw [show (0 : Int32) = nI 0 from rfl, a1, b1, bnd_s]
          refine ⟨_, _, rfl, rfl, rfl, ?_, rfl⟩
          intro q hq
          by_cases e : q = s
          · subst e
            refine ⟨n, hn, pk_us, if_pos rfl, ?_, Or.inl ⟨if_pos rfl, ?_⟩, fun i hi => ?_⟩
            · exact (if_pos rfl).trans pk_us.symm
            · exact pk_us
            · show i1 q i = i2 (40 * q + i)
              rw [a2, b2, if_pos (by omega), if_pos (by omega)]
          · obtain ⟨m, c1, c2, c3, c4, c5, c6⟩ := hR q hq
            refine ⟨m, c1, (pk_un e).trans c2, (if_neg e).trans c3, ?_, ?_, fun i hi => ?_⟩
            · exact (if_neg e).trans (c4.trans (pk_un e).symm)
            · rcases c5 with ⟨d1, d2⟩ | ⟨d1, d2⟩
              · exact Or.inl ⟨(if_neg e).trans d1, (pk_un e).trans d2⟩
              · exact Or.inr ⟨(if_neg e).trans d1, (pk_un e).trans d2⟩
            · show i1 q i = i2 (40 * q + i)
              rw [a2, b2, if_neg (by omega), if_neg (by omega)]
              exact c6 i hi
        · rw [if_neg h0, if_neg h0]
          exact ⟨_, _, rfl, rfl, rfl, hR, rfl⟩
      · rw [if_neg h40, if_neg h40]
        exact ⟨_, _, rfl, rfl, rfl, hR, rfl⟩
    · rw [t1, t2, bnd_s, bnd_s, if0_0, if0_0]
      exact ⟨_, _, rfl, rfl, rfl, hR, rfl⟩
  · rw [hx, hm, bnd_s, bnd_s, if0_0, if0_0]
    exact ⟨_, _, rfl, rfl, rfl, hR, rfl⟩
theorem p_lose {xItems : Nat → Nat → Int32} {xLost xKind xSize mThere mTypes mHeld mItems : Nat → Int32} (hR : RSh xItems xLost xKind xSize mThere mTypes mHeld mItems) (x1 f : Int32) :
    ∃ o q, f_X10_lose x1 xLost xSize f = some o ∧ f_X11_lose x1 mThere mHeld f = some q ∧ o.1 = q.1 ∧ RSh xItems o.2.1 xKind xSize q.2.1 mTypes mHeld mItems ∧ o.2.2 = q.2.2 := by
  unfold f_X10_lose f_X11_lose
  rcases sheet_cases x1 with ⟨s, hs, rfl, hm, hx⟩ | ⟨hm, hx⟩
  · rw [hx, hm, bnd_s, bnd_s, if1_0, if1_0, gIn_nI hs (by decide), gIn_nI hs (by decide), cl_nI (by omega)]
    obtain ⟨n, c1, c2, c3, c4, c5, c6⟩ := hR s hs
    rcases c5 with ⟨d1, d2⟩ | ⟨d1, d2⟩
    · rw [if_pos d1, d2, if1_0]
      refine ⟨_, _, rfl, rfl, c3.trans c2.symm, ?_, rfl⟩
      intro q hq
      by_cases e : q = s
      · subst e
        exact ⟨n, c1, c2, c3, c4, Or.inr ⟨if_pos rfl, pk_us⟩, c6⟩
      · obtain ⟨m, g1, g2, g3, g4, g5, g6⟩ := hR q hq
        refine ⟨m, g1, g2, g3, g4, ?_, g6⟩
        rcases g5 with ⟨d1, d2⟩ | ⟨d1, d2⟩
        · exact Or.inl ⟨(if_neg e).trans d1, (pk_un e).trans d2⟩
        · exact Or.inr ⟨(if_neg e).trans d1, (pk_un e).trans d2⟩
    · rw [if_neg (show ¬ xLost s = 0 by rw [d1]; decide), d2, if0_0]
      exact ⟨_, _, rfl, rfl, rfl, hR, rfl⟩
  · rw [hx, hm, bnd_s, bnd_s, if0_0, if0_0]
    exact ⟨_, _, rfl, rfl, rfl, hR, rfl⟩
/-- an item of a sheet: refused in the same way, or there -/
theorem item_cases {xItems : Nat → Nat → Int32} {xLost xKind xSize mThere mTypes mHeld mItems : Nat → Int32} (hR : RSh xItems xLost xKind xSize mThere mTypes mHeld mItems) {s : Nat} (hs : s < 4) (x2 x3 f : Int32) (hy : f_X10_isType x2 = some 1) :
    (∃ k, (k = 1 ∨ k = 2 ∨ k = 3) ∧ f_X10_refusesItem (nI s) x2 x3 xLost xKind xSize f = some (-10 - k, k) ∧ f_X11_lacks (nI s) x2 x3 mThere mTypes mHeld = some k) ∨ (∃ i, i < 40 ∧ x3 = nI i ∧ f_X10_refusesItem (nI s) x2 x3 xLost xKind xSize f = some (0, f) ∧ f_X11_lacks (nI s) x2 x3 mThere mTypes mHeld = some 0) := by
  have hx : f_X10_isSheet (nI s) = some 1 := by
    have : ∀ j, j < 4 → f_X10_isSheet (nI j) = some 1 := by decide +kernel
    exact this s hs
  obtain ⟨n, c1, c2, c3, c4, c5, c6⟩ := hR s hs
  unfold f_X10_refusesItem f_X11_lacks f_X10_refusesItem_75 f_X10_found
  rw [hx, bnd_s, if1_0, hy, bnd_s, if1_0, gIn_nI hs (by decide), gIn_nI hs (by decide), cl_nI (by omega), c3, c2, c4]
  rcases c5 with ⟨d1, d2⟩ | ⟨d1, d2⟩
  · rw [if_pos d1, d2, if1_0]
    by_cases ht : mTypes s = x2
    · rw [if_pos ht, if_pos ht]
      rcases pk_ix x3 (n := n) (by omega) with h | h | ⟨i, hi, rfl⟩
      · rw [if_pos h, Min_no (Or.inl h), bnd_s, bnd_s, if0_0]
        exact Or.inl ⟨2, Or.inr (Or.inl rfl), rfl, rfl⟩
      · have a1 : (nI n).toInt = (n : Int) := nI_toInt (by omega)
        have a3 : (0 : Int32).toInt = 0 := by decide
        have h0 : ¬ x3 < 0 := by rw [fa_lt, a3]; rw [fa_le, a1] at h; omega
        have h1 : nI n - 1 < x3 := by
          have : (nI n - 1).toInt = (n : Int) - 1 := pk_sub_toInt (a := n) (b := 1) (by omega) (by omega)
          rw [fa_lt, this]; rw [fa_le, a1] at h; omega
        rw [if_neg h0, if_pos h, Min_no (Or.inr h1), bnd_s, bnd_s, if0_0]
        exact Or.inl ⟨2, Or.inr (Or.inl rfl), rfl, rfl⟩
      · have e1 : nI n - 1 = nI (n - 1) := pk_sub (a := n) (b := 1) (by omega)
        rw [if_neg (nI_pos (by omega)), if_neg (nI_ge hi (by omega)), e1, Min_yes (nI_pos (by omega)) (nI_nlt (by omega) (by omega)), bnd_s, if1_0]
        exact Or.inr ⟨i, by omega, rfl, rfl, rfl⟩
    · rw [if_neg ht, if_neg ht]
      exact Or.inl ⟨3, Or.inr (Or.inr rfl), rfl, rfl⟩
  · rw [if_neg (show ¬ xLost s = 0 by rw [d1]; decide), d2, if0_0]
    exact Or.inl ⟨1, Or.inl rfl, rfl, rfl⟩
/-- storing on both sides -/
theorem store_ok {xItems : Nat → Nat → Int32} {xLost xKind xSize mThere mTypes mHeld mItems : Nat → Int32} (hR : RSh xItems xLost xKind xSize mThere mTypes mHeld mItems) {s i : Nat} (hs : s < 4) (hi : i < 40) (v : Int32) :
    ∃ o q, f_X7_store s (nI i) v xItems xKind = some o ∧ f_X11_keep (nI s) (nI i) v mTypes mItems = some q ∧ RSh o xLost xKind xSize mThere mTypes mHeld q := by
  obtain ⟨n, c1, c2, c3, c4, c5, c6⟩ := hR s hs
  have key : ∀ w : Int32, RSh (va_up xItems s (upd (xItems s) i w)) xLost xKind xSize mThere mTypes mHeld (upd mItems (40 * s + i) w) := by
    intro w q hq
    obtain ⟨m, g1, g2, g3, g4, g5, g6⟩ := hR q hq
    refine ⟨m, g1, g2, g3, g4, g5, fun j hj => ?_⟩
    by_cases e : q = s
    · subst e
      rw [va_up, if_pos rfl]
      by_cases ej : j = i
      · subst ej
        rw [pk_us, pk_us]
      · rw [pk_un ej, pk_un (by omega)]
        exact g6 j hj
    · rw [va_up, if_neg e, pk_un (by omega)]
      exact g6 j hj
  unfold f_X7_store f_X11_keep f_X11_keep_40
  rw [gIn_nI hi (by decide), gIn_nI hi (by decide), gIn_nI hi (by decide), gIn_nI hs (by decide), cl_nI (by omega), cl_nI (n := s) (by omega), mul40, gIn_nI (by omega) (by decide), gIn_nI (by omega) (by decide), gIn_nI (by omega) (by decide), cl_nI (by omega), c4]
  by_cases h0 : mTypes s = 0
  · rw [if_pos h0, if_pos h0]
    exact ⟨_, _, rfl, rfl, key _⟩
  · rw [if_neg h0, if_neg h0]
    by_cases h1 : mTypes s = 1
    · rw [if_pos h1, if_pos h1]
      exact ⟨_, _, rfl, rfl, key _⟩
    · rw [if_neg h1, if_neg h1]
      exact ⟨_, _, rfl, rfl, key _⟩
theorem p_put {xItems : Nat → Nat → Int32} {xLost xKind xSize mThere mTypes mHeld mItems : Nat → Int32} (hR : RSh xItems xLost xKind xSize mThere mTypes mHeld mItems) (x1 x2 x3 x4 f : Int32) :
    ∃ o q, f_X10_put x1 x2 x3 x4 xItems xLost xKind xSize f = some o ∧ f_X11_put x1 x2 x3 x4 mThere mTypes mHeld mItems f = some q ∧ o.1 = q.1 ∧ RSh o.2.1 xLost xKind xSize mThere mTypes mHeld q.2.1 ∧ o.2.2 = q.2.2 := by
  unfold f_X10_put f_X11_put
  rcases sheet_cases x1 with ⟨s, hs, rfl, hm, hx⟩ | ⟨hm, hx⟩
  · rw [hm, bnd_s, if1_0]
    rcases type_cases x2 with ⟨t1, t2, t, ht, rfl⟩ | ⟨t1, t2⟩
    · rw [t1, bnd_s, if1_0]
      rcases item_cases hR hs (nI t) x3 f t2 with ⟨k, hk, a1, a2⟩ | ⟨i, hi, rfl, a1, a2⟩
      · rw [a1, a2, bnd_s, bnd_s]
        unfold f_X11_meets
        have h1 : ¬ (-10 - k) = 0 := by rcases hk with rfl | rfl | rfl <;> decide
        have h2 : ¬ k ≤ 0 := by rcases hk with rfl | rfl | rfl <;> decide
        rw [if_neg h1, if_neg h2]
        exact ⟨_, _, rfl, rfl, rfl, hR, rfl⟩
      · obtain ⟨o, q, b1, b2, b3⟩ := store_ok hR hs hi x4
        rw [a1, a2, bnd_s, bnd_s, if_pos rfl, if_pos (by decide), gIn_nI hs (by decide), cl_nI (by omega), b1, b2]
        exact ⟨_, _, rfl, rfl, rfl, b3, rfl⟩
    · rw [t1, bnd_s, if0_0]
      unfold f_X10_refusesItem
      rw [hx, bnd_s, if1_0, t2, bnd_s, if0_0]
      exact ⟨_, _, rfl, rfl, rfl, hR, rfl⟩
  · rw [hm, bnd_s, if0_0]
    unfold f_X10_refusesItem
    rw [hx, bnd_s, if0_0]
    exact ⟨_, _, rfl, rfl, rfl, hR, rfl⟩
theorem p_get {xItems : Nat → Nat → Int32} {xLost xKind xSize mThere mTypes mHeld mItems : Nat → Int32} (hR : RSh xItems xLost xKind xSize mThere mTypes mHeld mItems) (x1 x2 x3 f : Int32) :
    ∃ o, f_X10_get x1 x2 x3 xItems xLost xKind xSize f = some o ∧ f_X11_get x1 x2 x3 mThere mTypes mHeld mItems f = some o := by
  unfold f_X10_get f_X11_get
  rcases sheet_cases x1 with ⟨s, hs, rfl, hm, hx⟩ | ⟨hm, hx⟩
  · rw [hm, bnd_s, if1_0]
    rcases type_cases x2 with ⟨t1, t2, t, ht, rfl⟩ | ⟨t1, t2⟩
    · rw [t1, bnd_s, if1_0]
      rcases item_cases hR hs (nI t) x3 f t2 with ⟨k, hk, a1, a2⟩ | ⟨i, hi, rfl, a1, a2⟩
      · rw [a1, a2, bnd_s, bnd_s]
        have h1 : ¬ (-10 - k) = 0 := by rcases hk with rfl | rfl | rfl <;> decide
        have h2 : ¬ k ≤ 0 := by rcases hk with rfl | rfl | rfl <;> decide
        rw [if_neg h1, if_neg h2]
        exact ⟨_, rfl, rfl⟩
      · obtain ⟨n, c1, c2, c3, c4, c5, c6⟩ := hR s hs
        rw [a1, a2, bnd_s, bnd_s, if_pos rfl, if_pos (by decide), gIn_nI hs (by decide), gIn_nI hi (by decide), cl_nI (n := s) (by omega), cl_nI (n := i) (by omega), mul40, gIn_nI (by omega) (by decide), cl_nI (by omega), c6 i hi]
        exact ⟨_, rfl, rfl⟩
    · rw [t1, bnd_s, if0_0]
      unfold f_X10_refusesItem
      rw [hx, bnd_s, if1_0, t2, bnd_s, if0_0]
      exact ⟨_, rfl, rfl⟩
  · rw [hm, bnd_s, if0_0]
    unfold f_X10_refusesItem
    rw [hx, bnd_s, if0_0]
    exact ⟨_, rfl, rfl⟩
