/-! pure rows: shows; powers and FRACTIONS -/
theorem number_cases (x : Int32) : (∃ w, w ≤ 6 ∧ x = nI w ∧ f_X11_in x 0 6 = some 1 ∧ f_X10_isNumber x = some 1) ∨ (f_X11_in x 0 6 = some 0 ∧ f_X10_isNumber x = some 0) := by
  rcases Min_rng x 6 (by decide) with ⟨j, hj, rfl, h⟩ | ⟨h0, h⟩ | ⟨h0, h1, h⟩
  · left
    have : ∀ j, j < 7 → f_X10_isNumber (nI j) = some 1 := by decide +kernel
    exact ⟨j, by omega, rfl, h, this j hj⟩
  · right
    refine ⟨h, ?_⟩
    unfold f_X10_isNumber
    rw [if_pos h0]
  · right
    refine ⟨h, ?_⟩
    unfold f_X10_isNumber
    rw [if_neg h0, if_pos (show (7 : Int32) ≤ x from h1)]
theorem part_cases (x : Int32) : ((x = 0 ∨ x = 1) ∧ f_X11_in x 0 1 = some 1 ∧ f_X10_isPart x = some 1) ∨ (f_X11_in x 0 1 = some 0 ∧ f_X10_isPart x = some 0) := by
  unfold f_X10_isPart f_X10_isPart_9
  by_cases h0 : x = 0
  · subst h0; left; exact ⟨Or.inl rfl, by decide, by decide⟩
  by_cases h1 : x = 1
  · subst h1; left; exact ⟨Or.inr rfl, by decide, by decide⟩
  right
  rw [if_neg h0, if_neg h1]
  refine ⟨?_, rfl⟩
  rcases Min_rng x 1 (by decide) with ⟨j, hj, rfl, -⟩ | ⟨-, h⟩ | ⟨-, -, h⟩
  · exfalso
    rcases (show j = 0 ∨ j = 1 by omega) with rfl | rfl
    · exact h0 rfl
    · exact h1 rfl
  · exact h
  · exact h
theorem p_shows {N : Nat} (hN : 50 ≤ N) {xLen xHits xUns mSizes mSigns : Nat → Int32} (hR : RRow xLen xHits xUns mSizes mSigns) {T : Nat} (hT : 2 ≤ T ∧ T < 128) (x1 x2 : Int32) :
    ∃ o, f_X10_shows N x1 x2 xLen xHits xUns (nI T) = some o ∧ f_X11_shows N x1 x2 mSizes mSigns (nI T) = some o := by
  unfold f_X10_shows f_X11_shows f_X11_showsNow f_X10_numberOf
  rcases row_cases x1 with ⟨r, hr, rfl, hm, hx⟩ | ⟨hm, hx⟩
  · rw [hx, hm, bnd_s, bnd_s, if1_0, if1_0]
    rcases number_cases x2 with ⟨w, hw, rfl, t1, t2⟩ | ⟨t1, t2⟩
    · obtain ⟨n, h, u, a1, a2, a3, a4, a5, a6, a7, a8, a9, a10, -⟩ := row_at hR hN hr
      rw [t1, t2, bnd_s, bnd_s, if1_0, if1_0, gIn_nI hr (by decide), cl_nI (by omega), a9, a10, bnd_s, bnd_s]
      by_cases q : u = 0
      · rw [if_pos q, if1_0, if1_0, a4, a5, a8, bnd_s, gIn_nI hr (by decide), a7, num_X6 hN hw hT a1 a2, num_M6 hN hw hT a1 a2, bnd_s, bnd_s]
        exact ⟨_, rfl, rfl⟩
      · rw [if_neg q, if0_0, if0_0]
        exact ⟨_, rfl, rfl⟩
    · rw [t1, t2, bnd_s, bnd_s, if0_0, if0_0]
      exact ⟨_, rfl, rfl⟩
  · rw [hx, hm, bnd_s, bnd_s, if0_0, if0_0]
    exact ⟨_, rfl, rfl⟩
theorem powX_loop {N v k : Nat} (hk : k < 2 ^ 31) : ∀ (m j c acc : Nat), j + m = k → m < c → f_X1_power_5 N c (lN v) (nI k) (lN acc) (nI j) = some (lN (acc * v ^ m)) := by
  intro m
  induction m with
  | zero =>
    intro j c acc hj hc
    obtain ⟨c, rfl⟩ : ∃ z, c = z + 1 := ⟨c - 1, by omega⟩
    rw [f_X1_power_5, if_pos (nI_le (by omega) (by omega)), Nat.pow_zero, Nat.mul_one]
  | succ m ih =>
    intro j c acc hj hc
    obtain ⟨c, rfl⟩ : ∃ z, c = z + 1 := ⟨c - 1, by omega⟩
    rw [f_X1_power_5, if_neg (nI_ge (by omega) (by omega)), lN_mul, show nI j + 1 = nI (j + 1) from nI_1 j, ih (j + 1) c (acc * v) (by omega) (by omega), Nat.pow_succ, Nat.mul_assoc, Nat.mul_comm v]
theorem powM_loop {N v k : Nat} (hk : k < 2 ^ 31) : ∀ (m j c acc : Nat), j + m = k → m < c → f_X11_power_5 N c (lN v) (nI k) (lN acc) (nI j) = some (lN (acc * v ^ m)) := by
  intro m
  induction m with
  | zero =>
    intro j c acc hj hc
    obtain ⟨c, rfl⟩ : ∃ z, c = z + 1 := ⟨c - 1, by omega⟩
    rw [f_X11_power_5, if_pos (nI_le (by omega) (by omega)), Nat.pow_zero, Nat.mul_one]
  | succ m ih =>
    intro j c acc hj hc
    obtain ⟨c, rfl⟩ : ∃ z, c = z + 1 := ⟨c - 1, by omega⟩
    rw [f_X11_power_5, if_neg (nI_ge (by omega) (by omega)), lN_mul, show nI j + 1 = nI (j + 1) from nI_1 j, ih (j + 1) c (acc * v) (by omega) (by omega), Nat.pow_succ, Nat.mul_assoc, Nat.mul_comm v]
theorem pow_X {N v k : Nat} (hk : k < N) (hk2 : k < 2 ^ 31) : f_X1_power N (lN v) (nI k) = some (lN (v ^ k)) := by
  have h := powX_loop (N := N) (v := v) hk2 k 0 N 1 (by omega) hk
  rw [Nat.one_mul] at h
  exact h
theorem pow_M {N v k : Nat} (hk : k < N) (hk2 : k < 2 ^ 31) : f_X11_power N (lN v) (nI k) = some (lN (v ^ k)) := by
  have h := powM_loop (N := N) (v := v) hk2 k 0 N 1 (by omega) hk
  rw [Nat.one_mul] at h
  exact h
theorem lgc0 {b : Nat} (hb : b < 2 ^ 63) : lg_cmp (lN b) 0 = 0 ↔ b = 0 := by
  unfold lg_cmp
  by_cases h : b = 0
  · subst h
    exact ⟨fun _ => rfl, fun _ => by decide⟩
  · have : lN b > 0 := by
      show lN 0 < lN b
      exact (pk_lLT (by omega) hb).mpr (by omega)
    rw [if_pos this]
    exact ⟨fun q => absurd q (by decide), fun q => absurd q h⟩
theorem gcd_st {a b : Nat} : Nat.gcd a b = Nat.gcd b (a % b) := by
  rw [Nat.gcd_comm a b, Nat.gcd_rec b a, Nat.gcd_comm]
theorem two_st {b r k : Nat} (hr : r < b) (h0 : 0 < r) (hb : b < 2 ^ (k + 1)) : b % r < 2 ^ k := by
  have h1 : b % r < r := Nat.mod_lt b h0
  have h2 : b % r ≤ b - r := by
    rw [Nat.mod_eq_sub_mod (by omega)]
    exact Nat.mod_le _ _
  rw [Nat.pow_succ] at hb
  omega
theorem lN_ne {b : Nat} (h : b < 2 ^ 63) (h0 : 0 < b) : ¬ lN b = 0 := fun q => by
  have : b = 0 := (pk_lEQ (b := 0) h (by omega)).mp q
  omega
theorem low_loop {N : Nat} {x0 x2 : Int64} {x4 : Int32} : ∀ (k a b c : Nat), b < 2 ^ k → a < 2 ^ 63 → b < 2 ^ 63 → 2 * k < c → f_X11_lowest_6 N c x0 x2 x4 (lN a) (lN b) = if x4 = 0 then gNeL (lN (Nat.gcd a b)) (some (x0 / lN (Nat.gcd a b))) else gNeL (lN (Nat.gcd a b)) (some (x2 / lN (Nat.gcd a b))) := by
  have done : ∀ (a c : Nat), f_X11_lowest_6 N (c + 1) x0 x2 x4 (lN a) (lN 0) = if x4 = 0 then gNeL (lN (Nat.gcd a 0)) (some (x0 / lN (Nat.gcd a 0))) else gNeL (lN (Nat.gcd a 0)) (some (x2 / lN (Nat.gcd a 0))) := by
    intro a c
    rw [f_X11_lowest_6, if_pos ((lgc0 (by omega)).mpr rfl), Nat.gcd_zero_right]
  have one : ∀ (a b c : Nat), 0 < b → a < 2 ^ 63 → b < 2 ^ 63 → f_X11_lowest_6 N (c + 1) x0 x2 x4 (lN a) (lN b) = f_X11_lowest_6 N c x0 x2 x4 (lN b) (lN (a % b)) := by
    intro a b c h0 ha hb
    rw [f_X11_lowest_6, if_neg (fun q => by have := (lgc0 hb).mp q; omega), gNeL_of (lN_ne hb h0), pk_lRem ha h0 hb]
  intro k
  induction k with
  | zero =>
    intro a b c hb ha hb2 hc
    obtain ⟨c, rfl⟩ : ∃ z, c = z + 1 := ⟨c - 1, by omega⟩
    have : b = 0 := by simp at hb; exact hb
    subst this
    exact done a c
  | succ k ih =>
    intro a b c hb ha hb2 hc
    obtain ⟨c, rfl⟩ : ∃ z, c = z + 1 := ⟨c - 1, by omega⟩
    by_cases h0 : b = 0
    · subst h0
      exact done a c
    · have hr := Nat.mod_lt a (show 0 < b by omega)
      obtain ⟨c, rfl⟩ : ∃ z, c = z + 1 := ⟨c - 1, by omega⟩
      rw [one a b (c + 1) (by omega) ha hb2, gcd_st (a := a) (b := b)]
      by_cases hr0 : a % b = 0
      · rw [hr0]
        exact done b c
      · rw [one b (a % b) c (by omega) hb2 (by omega), gcd_st (a := b) (b := a % b)]
        have h3 := two_st hr (by omega) hb
        have h4 := Nat.mod_lt b (show 0 < a % b by omega)
        exact ih (a % b) (b % (a % b)) c h3 (by omega) (by omega) (by omega)
theorem div_loop {N : Nat} : ∀ (k a b c st : Nat), b < 2 ^ k → a < 2 ^ 63 → b < 2 ^ 63 → 2 * k < c → st + 2 * k ≤ 200 → f_X1_commonDivisor_9 N c (lN a) (lN b) (nI st) = some (lN (Nat.gcd a b)) := by
  have done : ∀ (a c st : Nat), f_X1_commonDivisor_9 N (c + 1) (lN a) (lN 0) (nI st) = some (lN (Nat.gcd a 0)) := by
    intro a c st
    rw [f_X1_commonDivisor_9, if_pos ((lgc0 (by omega)).mpr rfl), Nat.gcd_zero_right]
    rfl
  have one : ∀ (a b c st : Nat), 0 < b → a < 2 ^ 63 → b < 2 ^ 63 → st < 200 → f_X1_commonDivisor_9 N (c + 1) (lN a) (lN b) (nI st) = f_X1_commonDivisor_9 N c (lN b) (lN (a % b)) (nI (st + 1)) := by
    intro a b c st h0 ha hb hst
    rw [f_X1_commonDivisor_9, if_neg (fun q => by have := (lgc0 hb).mp q; omega), if_neg (show ¬ (200 : Int32) ≤ nI st from nI_ge (b := 200) hst (by omega)), gNeL_of (lN_ne hb h0), pk_lRem ha h0 hb, show nI st + 1 = nI (st + 1) from nI_1 st]
  intro k
  induction k with
  | zero =>
    intro a b c st hb ha hb2 hc _
    obtain ⟨c, rfl⟩ : ∃ z, c = z + 1 := ⟨c - 1, by omega⟩
    have : b = 0 := by simp at hb; exact hb
    subst this
    exact done a c st
  | succ k ih =>
    intro a b c st hb ha hb2 hc hst
    obtain ⟨c, rfl⟩ : ∃ z, c = z + 1 := ⟨c - 1, by omega⟩
    by_cases h0 : b = 0
    · subst h0
      exact done a c st
    · have hr := Nat.mod_lt a (show 0 < b by omega)
      obtain ⟨c, rfl⟩ : ∃ z, c = z + 1 := ⟨c - 1, by omega⟩
      rw [one a b (c + 1) st (by omega) ha hb2 (by omega), gcd_st (a := a) (b := b)]
      by_cases hr0 : a % b = 0
      · rw [hr0]
        exact done b c (st + 1)
      · rw [one b (a % b) c (st + 1) (by omega) hb2 (by omega) (by omega), gcd_st (a := b) (b := a % b)]
        have h3 := two_st hr (by omega) hb
        have h4 := Nat.mod_lt b (show 0 < a % b by omega)
        exact ih (a % b) (b % (a % b)) c (st + 1 + 1) h3 (by omega) (by omega) (by omega) (by omega)
/-- a FRACTION in lowest terms: above, below -/
def frc (A B : Nat) (w : Int32) : Int64 := if w = 0 then lN (A / Nat.gcd A B) else lN (B / Nat.gcd A B)
theorem gcd_pos {A B : Nat} (h : ¬ (A = 0 ∧ B = 0)) : 0 < Nat.gcd A B := by
  rcases Nat.eq_zero_or_pos A with h1 | h1
  · subst h1
    rw [Nat.gcd_zero_left]
    omega
  · exact Nat.gcd_pos_of_pos_left _ h1
theorem gcd_lt {A B : Nat} (hA : A < 2 ^ 63) (hB : B < 2 ^ 63) (h : ¬ (A = 0 ∧ B = 0)) : Nat.gcd A B < 2 ^ 63 := by
  rcases Nat.eq_zero_or_pos A with h1 | h1
  · subst h1
    rw [Nat.gcd_zero_left]
    exact hB
  · exact Nat.lt_of_le_of_lt (Nat.le_of_dvd h1 (Nat.gcd_dvd_left A B)) hA
theorem low_M {N A B : Nat} (hN : 200 ≤ N) (hA : A < 2 ^ 63) (hB : B < 2 ^ 63) (h : ¬ (A = 0 ∧ B = 0)) (w : Int32) : f_X11_lowest N (lN A) (lN B) w = some (frc A B w) := by
  have hg := gcd_pos h
  have hl := gcd_lt hA hB h
  unfold f_X11_lowest frc
  rw [low_loop 63 A B N hB hA hB (by omega), gNeL_of (lN_ne hl hg), gNeL_of (lN_ne hl hg), pk_lDiv hA hg hl, pk_lDiv hB hg hl]
  by_cases q : w = 0
  · rw [if_pos q, if_pos q]
  · rw [if_neg q, if_neg q]
theorem part_X {N A B : Nat} (hN : 200 ≤ N) (hA : A < 2 ^ 63) (hB : B < 2 ^ 63) (h : ¬ (A = 0 ∧ B = 0)) (w : Int32) : f_X1_part N (lN A) (lN B) w = some (frc A B w) := by
  have hg := gcd_pos h
  have hl := gcd_lt hA hB h
  unfold f_X1_part f_X1_part_26 f_X1_commonDivisor frc
  rw [show (0 : Int32) = nI 0 from rfl, div_loop 63 A B N 0 hB hA hB (by omega) (by omega), bnd_s, if_neg (show ¬ lg_cmp (lN (Nat.gcd A B)) 0 = nI 0 from fun q => by have := (lgc0 hl).mp q; omega), gNeL_of (lN_ne hl hg), gNeL_of (lN_ne hl hg), pk_lDiv hA hg hl, pk_lDiv hB hg hl]
  by_cases q : w = nI 0
  · rw [if_pos q, if_pos q]
  · rw [if_neg q, if_neg q]
theorem frc_mul {A B k : Nat} (hk : 0 < k) (w : Int32) : frc (A * k) (B * k) w = frc A B w := by
  unfold frc
  rw [Nat.gcd_mul_right, Nat.mul_div_mul_right _ _ hk, Nat.mul_div_mul_right _ _ hk]
