/-! pure rows: arguments; ROWS: sign, clear, at -/
theorem bnd_s {α β : Type} {a : α} {k : α → Option β} : bnd (some a) k = k a := rfl
theorem if1_0 {α : Type} {a b : α} : (if (1 : Int32) = 0 then a else b) = b := if_neg (by decide)
theorem if0_0 {α : Type} {a b : α} : (if (0 : Int32) = 0 then a else b) = a := if_pos rfl
theorem gZ1 {α : Type} {k : Option α} : gZ 1 k = k := rfl
theorem gZ0 {α : Type} {k : Option α} : gZ 0 k = k := rfl
theorem cl_nI {n : Nat} (h : n < 2 ^ 31) : (nI n).toNatClampNeg = n := nI_clamp h
theorem gIn_nI {α : Type} {n m : Nat} {k : Option α} (h : n < m) (hm : m < 2 ^ 31) : gIn (nI n) m k = k := gIn_of (vp_in_nI h hm)
theorem Min_no {x lo hi : Int32} (h : x < lo ∨ hi < x) : f_X11_in x lo hi = some 0 := by
  unfold f_X11_in
  by_cases h1 : x < lo
  · rw [if_pos h1]
  · rcases h with h | h
    · exact absurd h h1
    · rw [if_neg h1, if_pos h]
theorem Min_yes {x lo hi : Int32} (h : ¬ x < lo) (h2 : ¬ hi < x) : f_X11_in x lo hi = some 1 := by
  unfold f_X11_in
  rw [if_neg h, if_neg h2]
/-- a number of one of 4 ROWS, or none -/
theorem row_cases (x : Int32) : (∃ r, r < 4 ∧ x = nI r ∧ f_X11_isRow x = some 1 ∧ f_X10_isRow x = some 1) ∨ (f_X11_isRow x = some 0 ∧ f_X10_isRow x = some 0) := by
  rcases pk_ix x (n := 4) (by decide) with h | h | ⟨j, hj, rfl⟩
  · right
    unfold f_X11_isRow f_X10_isRow
    rw [Min_no (Or.inl h), bnd_s, gZ0, if_pos h]
    exact ⟨rfl, rfl⟩
  · right
    have h3 : (3 : Int32) < x := by rw [fa_lt]; rw [fa_le, nI_toInt (by decide)] at h; exact Int.lt_of_lt_of_le (by decide) h
    have h4 : ¬ x < 0 := by rw [fa_lt]; rw [fa_lt] at h3; have : (3 : Int32).toInt = 3 := by decide
                            have h0 : (0 : Int32).toInt = 0 := by decide
                            omega
    unfold f_X11_isRow f_X10_isRow
    rw [Min_no (Or.inr h3), bnd_s, gZ0, if_neg h4, if_pos (show (4 : Int32) ≤ x from h)]
    exact ⟨rfl, rfl⟩
  · left
    have : ∀ j, j < 4 → f_X11_isRow (nI j) = some 1 ∧ f_X10_isRow (nI j) = some 1 := by decide +kernel
    exact ⟨j, hj, rfl, this j hj⟩
theorem sheet_cases (x : Int32) : (∃ r, r < 4 ∧ x = nI r ∧ f_X11_isSheet x = some 1 ∧ f_X10_isSheet x = some 1) ∨ (f_X11_isSheet x = some 0 ∧ f_X10_isSheet x = some 0) := row_cases x
/-- ROWS of both sides -/
def RRow (xLen xHits xUns mSizes mSigns : Nat → Int32) : Prop := ∀ r, r < 4 → ∃ n, n ≤ 15 ∧ mSizes r = nI n ∧ xLen r = nI n ∧ xHits r = nI (hb n (fun i => mSigns (15 * r + i))) ∧ xUns r = nI (ub n (fun i => mSigns (15 * r + i))) ∧ ∀ i, i < n → (mSigns (15 * r + i) = -1 ∨ mSigns (15 * r + i) = 0 ∨ mSigns (15 * r + i) = 1)
theorem maySee_M (v : Int32) : (f_X11_in v (-1) 1 = some 1 ∧ f_X5_maySee v = some 1 ∧ (v = -1 ∨ v = 0 ∨ v = 1)) ∨ (f_X11_in v (-1) 1 = some 0 ∧ f_X5_maySee v = some 0) := by
  by_cases h1 : v = -1
  · subst h1; left; exact ⟨by decide, by decide, Or.inl rfl⟩
  by_cases h2 : v = 0
  · subst h2; left; exact ⟨by decide, by decide, Or.inr (Or.inl rfl)⟩
  by_cases h3 : v = 1
  · subst h3; left; exact ⟨by decide, by decide, Or.inr (Or.inr rfl)⟩
  right
  refine ⟨Min_no ?_, ?_⟩
  · rw [fa_eq] at h1 h2 h3
    rw [fa_lt, fa_lt]
    have a1 : (-1 : Int32).toInt = -1 := by decide
    have a2 : (0 : Int32).toInt = 0 := by decide
    have a3 : (1 : Int32).toInt = 1 := by decide
    omega
  · unfold f_X5_maySee
    rw [if_neg h3, if_neg h2, if_neg h1]
theorem mul15 {r i : Nat} (hr : r < 4) (hi : i < 15) : ((15 : Int32) * nI r) + nI i = nI (15 * r + i) := by
  rw [show (15 : Int32) = nI 15 from rfl, pk_mul, nI_add]
theorem sgs_ne {r q n i : Nat} (hq : q ≠ r) (hn : n < 15) (hi : i < 15) : 15 * q + i ≠ 15 * r + n := by omega
/-- a sign comes behind a row -/
theorem row_push {xLen xHits xUns mSizes mSigns : Nat → Int32} (hR : RRow xLen xHits xUns mSizes mSigns) {r n : Nat} (hr : r < 4) (hn : n < 15) (h1 : mSizes r = nI n) {v : Int32} (hv : v = -1 ∨ v = 0 ∨ v = 1) :
    ∃ o, f_X5_append r v xLen xHits xUns = some o ∧ o.1 = va_up xLen r (nI (n + 1)) ∧ RRow o.1 o.2.1 o.2.2 (upd mSizes r (nI (n + 1))) (upd mSigns (15 * r + n) v) := by
  obtain ⟨n', hn', e1, e2, e3, e4, e5⟩ := hR r hr
  have : n' = n := by
    have := e1.symm.trans h1
    exact (nI_eq (by omega) (by omega)).mp this
  subst this
  have hH := hb_lt n' (fun i => mSigns (15 * r + i))
  have hU := ub_lt n' (fun i => mSigns (15 * r + i))
  have hp : 2 ^ n' ≤ 2 ^ 15 := Nat.pow_le_pow_right (by omega) (by omega)
  have hS : ∀ b, b < 2 ^ 15 → nI b <<< ((1 : Int32) &&& 31) = nI (2 * b) := fun b hb => by
    rw [show (1 : Int32) = nI 1 from rfl, shl_nI (by omega) (by omega), Nat.pow_one, Nat.mul_comm]
  have hO : ∀ b z, z < 2 → nI (2 * b) ||| nI z = nI (2 * b + z) := fun b z hz => by
    have := fa_or_sum (k := 1) b (show z < 2 ^ 1 by omega)
    exact this
  have key : f_X5_append r v xLen xHits xUns = some (va_up xLen r (nI (n' + 1)), va_up xHits r (nI (2 * hb n' (fun i => mSigns (15 * r + i)) + (if v = 1 then 1 else 0))), va_up xUns r (nI (2 * ub n' (fun i => mSigns (15 * r + i)) + (if v = -1 then 1 else 0)))) := by
    unfold f_X5_append f_X5_append_17 f_X5_append_38
    rw [e2, e3, e4, hS _ (by omega), hS _ (by omega), show nI n' + 1 = nI (n' + 1) from nI_1 n']
    rcases hv with rfl | rfl | rfl
    · rw [if_neg (by decide), if_pos rfl, if_neg (by decide), if_pos rfl, show (0 : Int32) = nI 0 from rfl, show (1 : Int32) = nI 1 from rfl, hO _ _ (by omega), hO _ _ (by omega)]
    · rw [if_neg (by decide), if_neg (by decide), if_neg (by decide), if_neg (by decide), show (0 : Int32) = nI 0 from rfl, hO _ _ (by omega), hO _ _ (by omega)]
    · rw [if_pos rfl, if_neg (by decide), if_pos rfl, if_neg (by decide), show (0 : Int32) = nI 0 from rfl, show (1 : Int32) = nI 1 from rfl, hO _ _ (by omega), hO _ _ (by omega)]
  refine ⟨_, key, rfl, ?_⟩
  intro q hq
  by_cases e : q = r
  · subst e
    have g1 : ∀ i, i < n' → upd mSigns (15 * q + n') v (15 * q + i) = mSigns (15 * q + i) := fun i hi => pk_un (by omega)
    refine ⟨n' + 1, by omega, pk_us, ?_, ?_, ?_, ?_⟩
    · exact if_pos rfl
    · show va_up xHits q _ q = _
      rw [hb, hb_cong (g := fun i => upd mSigns (15 * q + n') v (15 * q + i)) (g' := fun i => mSigns (15 * q + i)) g1, pk_us]
      exact if_pos rfl
    · show va_up xUns q _ q = _
      rw [ub, ub_cong (g := fun i => upd mSigns (15 * q + n') v (15 * q + i)) (g' := fun i => mSigns (15 * q + i)) g1, pk_us]
      exact if_pos rfl
    · intro i hi
      by_cases hin : i = n'
      · subst hin
        rw [pk_us]
        exact hv
      · rw [g1 i (by omega)]
        exact e5 i (by omega)
  · obtain ⟨m, hm, f1, f2, f3, f4, f5⟩ := hR q hq
    have g1 : ∀ i, i < m → upd mSigns (15 * r + n') v (15 * q + i) = mSigns (15 * q + i) := fun i hi => pk_un (sgs_ne e (by omega) (by omega))
    refine ⟨m, hm, ?_, ?_, ?_, ?_, ?_⟩
    · rw [pk_un e]; exact f1
    · show va_up xLen r _ q = _
      rw [va_up, if_neg e]; exact f2
    · show va_up xHits r _ q = _
      rw [va_up, if_neg e, hb_cong (g := fun i => upd mSigns (15 * r + n') v (15 * q + i)) (g' := fun i => mSigns (15 * q + i)) g1]; exact f3
    · show va_up xUns r _ q = _
      rw [va_up, if_neg e, ub_cong (g := fun i => upd mSigns (15 * r + n') v (15 * q + i)) (g' := fun i => mSigns (15 * q + i)) g1]; exact f4
    · intro i hi
      rw [g1 i hi]
      exact f5 i hi
/-- M's puts on a row that is there -/
theorem puts_ok {mSizes mSigns : Nat → Int32} {r n : Nat} (hr : r < 4) (hn : n ≤ 15) (h1 : mSizes r = nI n) (v : Int32) (hin : f_X11_in v (-1) 1 = some 1) :
    f_X11_puts (nI r) v mSizes mSigns = if n = 15 then some (-4, mSizes, mSigns) else some (nI (n + 1), upd mSizes r (nI (n + 1)), upd mSigns (15 * r + n) v) := by
  have h4 : ∀ j, j < 4 → f_X11_isRow (nI j) = some 1 := by decide +kernel
  unfold f_X11_puts
  rw [h4 r hr, bnd_s, if1_0, hin, bnd_s, if1_0, gIn_nI hr (by decide), cl_nI (by omega), h1]
  by_cases e : n = 15
  · subst e
    rw [if_pos (show nI 15 = 15 from rfl), if_pos rfl]
  · rw [if_neg e, if_neg (show ¬ nI n = 15 from fun q => e ((nI_eq (by omega) (by omega)).mp q)), mul15 hr (by omega), gIn_nI (by omega) (by decide), cl_nI (by omega), show nI n + 1 = nI (n + 1) from nI_1 n, pk_us]
theorem puts_bad {mSizes mSigns : Nat → Int32} {r : Nat} (hr : r < 4) (v : Int32) (hin : f_X11_in v (-1) 1 = some 0) :
    f_X11_puts (nI r) v mSizes mSigns = some (-2, mSizes, mSigns) := by
  have h4 : ∀ j, j < 4 → f_X11_isRow (nI j) = some 1 := by decide +kernel
  unfold f_X11_puts
  rw [h4 r hr, bnd_s, if1_0, hin, bnd_s, if0_0]
theorem p_sign {xLen xHits xUns mSizes mSigns : Nat → Int32} (hR : RRow xLen xHits xUns mSizes mSigns) (x1 x2 : Int32) :
    ∃ o q, f_X10_sign x1 x2 xLen xHits xUns = some o ∧ f_X11_sign x1 x2 mSizes mSigns = some q ∧ o.1 = q.1 ∧ RRow o.2.1 o.2.2.1 o.2.2.2 q.2.1 q.2.2 := by
  unfold f_X10_sign f_X11_sign
  rcases row_cases x1 with ⟨r, hr, rfl, hm, hx⟩ | ⟨hm, hx⟩
  · obtain ⟨n, hn, e1, e2, e3, e4, e5⟩ := hR r hr
    rw [hx, bnd_s, if1_0]
    rcases maySee_M x2 with ⟨a1, a2, a3⟩ | ⟨a1, a2⟩
    · rw [a2, bnd_s, if1_0, puts_ok hr hn e1 x2 a1, gIn_nI hr (by decide), cl_nI (by omega)]
      unfold f_X5_isFull
      by_cases e : n = 15
      · subst e
        rw [if_pos rfl, e2, if_neg (by decide), bnd_s, if1_0]
        exact ⟨_, _, rfl, rfl, rfl, hR⟩
      · obtain ⟨o, q1, q2, q3⟩ := row_push hR hr (by omega) e1 a3
        have hlt : nI n < 15 := by show nI n < nI 15; exact nI_lt (by omega) (by omega)
        rw [if_neg e, e2, if_pos hlt, bnd_s, if0_0, q1]
        refine ⟨_, _, rfl, rfl, ?_, q3⟩
        show o.1 r = nI (n + 1)
        rw [q2]
        exact if_pos rfl
    · rw [a2, bnd_s, if0_0, puts_bad hr x2 a1]
      exact ⟨_, _, rfl, rfl, rfl, hR⟩
  · rw [hx, bnd_s, if0_0]
    unfold f_X11_puts
    rw [hm, bnd_s, if0_0]
    exact ⟨_, _, rfl, rfl, rfl, hR⟩
theorem p_clear {xLen xHits xUns mSizes mSigns : Nat → Int32} (hR : RRow xLen xHits xUns mSizes mSigns) (x1 : Int32) :
    ∃ o q, f_X10_clear x1 xLen xHits xUns = some o ∧ f_X11_clear x1 mSizes = some q ∧ o.1 = q.1 ∧ RRow o.2.1 o.2.2.1 o.2.2.2 q.2 mSigns := by
  unfold f_X10_clear f_X11_clear
  rcases row_cases x1 with ⟨r, hr, rfl, hm, hx⟩ | ⟨hm, hx⟩
  · obtain ⟨n, hn, e1, e2, e3, e4, e5⟩ := hR r hr
    rw [hx, bnd_s, if1_0, hm, bnd_s, if1_0, gIn_nI hr (by decide), gIn_nI hr (by decide), cl_nI (by omega)]
    unfold f_X5_empty
    refine ⟨_, _, rfl, rfl, by rw [e1]; exact e2, ?_⟩
    intro q hq
    by_cases e : q = r
    · subst e
      exact ⟨0, by omega, pk_us, if_pos rfl, if_pos rfl, if_pos rfl, fun i hi => absurd hi (Nat.not_lt_zero i)⟩
    · obtain ⟨m, hm, f1, f2, f3, f4, f5⟩ := hR q hq
      exact ⟨m, hm, (pk_un e).trans f1, (if_neg e).trans f2, (if_neg e).trans f3, (if_neg e).trans f4, f5⟩
  · rw [hx, bnd_s, if0_0, hm, bnd_s, if0_0]
    exact ⟨_, _, rfl, rfl, rfl, hR⟩
theorem nI_sub1 {n i : Nat} (h : i < n) : nI n - 1 - nI i = nI (n - 1 - i) := by
  rw [show (1 : Int32) = nI 1 from rfl, pk_sub (by omega), pk_sub (by omega)]
theorem signAt_ok {xLen xHits xUns : Nat → Int32} {r n i : Nat} {g : Nat → Int32} (hn : n ≤ 15) (e2 : xLen r = nI n) (e3 : xHits r = nI (hb n g)) (e4 : xUns r = nI (ub n g)) (e5 : g i = -1 ∨ g i = 0 ∨ g i = 1) (hi : i < n) : f_X5_signAt r (nI i) xLen xHits xUns = some (g i) := by
  have hH := hb_lt n g
  have hU := ub_lt n g
  have hp : 2 ^ n ≤ 2 ^ 15 := Nat.pow_le_pow_right (by omega) (by omega)
  unfold f_X5_signAt
  rw [e2, e3, e4, nI_sub1 hi, shr_nI (by omega) (by omega), shr_nI (by omega) (by omega), and1_nI, and1_nI, hb_bit g hi, ub_bit g hi]
  rcases e5 with e | e | e
  · rw [e]; decide
  · rw [e]; decide
  · rw [e]; decide
theorem p_at {xLen xHits xUns mSizes mSigns : Nat → Int32} (hR : RRow xLen xHits xUns mSizes mSigns) (x1 x2 : Int32) :
    ∃ o, f_X10_at x1 x2 xLen xHits xUns = some o ∧ f_X11_at x1 x2 mSizes mSigns = some o := by
  unfold f_X10_at f_X11_at
  rcases row_cases x1 with ⟨r, hr, rfl, hm, hx⟩ | ⟨hm, hx⟩
  · obtain ⟨n, hn, e1, e2, e3, e4, e5⟩ := hR r hr
    rw [hx, bnd_s, if1_0, hm, bnd_s, if1_0, gIn_nI hr (by decide), gIn_nI hr (by decide), cl_nI (by omega), e1, e2]
    by_cases h0 : 0 ≤ x2
    · rw [if_pos h0, if_pos h0]
      by_cases h1 : nI n ≤ x2
      · rw [if_pos h1, if_pos h1]
        exact ⟨_, rfl, rfl⟩
      · rw [if_neg h1, if_neg h1]
        rcases pk_ix x2 (n := n) (by omega) with h | h | ⟨i, hi, rfl⟩
        · exfalso; rw [fa_le] at h0; rw [fa_lt] at h; omega
        · exact absurd h h1
        · rw [signAt_ok hn e2 e3 e4 (e5 i hi) hi, bnd_s, mul15 hr (by omega), gIn_nI (by omega) (by decide), cl_nI (by omega)]
          exact ⟨_, rfl, rfl⟩
    · rw [if_neg h0, if_neg h0]
      exact ⟨_, rfl, rfl⟩
  · rw [hx, bnd_s, if0_0, hm, bnd_s, if0_0]
    exact ⟨_, rfl, rfl⟩
