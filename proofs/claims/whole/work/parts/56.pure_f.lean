/-! pure rows: bits, two by two; longest runs -/
theorem bit01 {v : Nat} (h : v < 2) : v = 0 ∨ v = 1 := by omega
theorem and_2 {a b v w : Nat} (hv : v < 2) (hw : w < 2) : (2 * a + v) &&& (2 * b + w) = 2 * (a &&& b) + (v &&& w) := by
  have hvw : (v &&& w) < 2 := Nat.lt_of_le_of_lt Nat.and_le_left hv
  apply Nat.eq_of_testBit_eq
  intro i
  cases i with
  | zero =>
    rw [Nat.testBit_and, Nat.testBit_zero, Nat.testBit_zero, Nat.testBit_zero]
    rw [show (2 * a + v) % 2 = v by omega, show (2 * b + w) % 2 = w by omega, show (2 * (a &&& b) + (v &&& w)) % 2 = v &&& w by omega]
    rcases bit01 hv with rfl | rfl <;> rcases bit01 hw with rfl | rfl <;> decide
  | succ i =>
    rw [Nat.testBit_and, Nat.testBit_succ, Nat.testBit_succ, Nat.testBit_succ]
    rw [show (2 * a + v) / 2 = a by omega, show (2 * b + w) / 2 = b by omega, show (2 * (a &&& b) + (v &&& w)) / 2 = a &&& b by omega, Nat.testBit_and]
theorem xor_lt2 {v w : Nat} (hv : v < 2) (hw : w < 2) : (v ^^^ w) < 2 := by
  rcases bit01 hv with rfl | rfl <;> rcases bit01 hw with rfl | rfl <;> decide
theorem xor_2 {a b v w : Nat} (hv : v < 2) (hw : w < 2) : (2 * a + v) ^^^ (2 * b + w) = 2 * (a ^^^ b) + (v ^^^ w) := by
  have hvw := xor_lt2 hv hw
  apply Nat.eq_of_testBit_eq
  intro i
  cases i with
  | zero =>
    rw [Nat.testBit_xor, Nat.testBit_zero, Nat.testBit_zero, Nat.testBit_zero]
    rw [show (2 * a + v) % 2 = v by omega, show (2 * b + w) % 2 = w by omega, show (2 * (a ^^^ b) + (v ^^^ w)) % 2 = v ^^^ w by omega]
    rcases bit01 hv with rfl | rfl <;> rcases bit01 hw with rfl | rfl <;> decide
  | succ i =>
    rw [Nat.testBit_xor, Nat.testBit_succ, Nat.testBit_succ, Nat.testBit_succ]
    rw [show (2 * a + v) / 2 = a by omega, show (2 * b + w) / 2 = b by omega, show (2 * (a ^^^ b) + (v ^^^ w)) / 2 = a ^^^ b by omega, Nat.testBit_xor]
/-- x and its neighbour -/
def gA (x : Nat) : Nat := x &&& x / 2
theorem gA_2 {p v : Nat} (hv : v < 2) : gA (2 * p + v) = 2 * gA p + (v &&& p % 2) := by
  unfold gA
  rw [show (2 * p + v) / 2 = p by omega]
  have h : (2 * p + v) &&& (2 * (p / 2) + p % 2) = 2 * (p &&& p / 2) + (v &&& p % 2) := and_2 hv (by omega)
  rwa [show 2 * (p / 2) + p % 2 = p by omega] at h
theorem gA_le (x : Nat) : gA x ≤ x / 2 := Nat.and_le_right
def lrN : Nat → Nat → Nat
  | 0, _ => 0
  | f + 1, x => if x = 0 then 0 else 1 + lrN f (gA x)
def trN : Nat → Nat → Nat
  | 0, _ => 0
  | f + 1, x => if x % 2 = 1 then 1 + trN f (x / 2) else 0
theorem lrN_0 (f : Nat) : lrN f 0 = 0 := by cases f <;> simp [lrN]
theorem trN_0 (f : Nat) : trN f 0 = 0 := by cases f <;> simp [trN]
theorem half_lt {x f : Nat} (h : x < 2 ^ (f + 1)) : x / 2 < 2 ^ f := by rw [Nat.pow_succ] at h; omega
theorem lrN_st {f : Nat} : ∀ {g x : Nat}, x < 2 ^ f → f ≤ g → lrN g x = lrN f x := by
  induction f with
  | zero =>
    intro g x hx hg
    have : x = 0 := by simp at hx; exact hx
    subst this
    rw [lrN_0, lrN_0]
  | succ f ih =>
    intro g x hx hg
    obtain ⟨g, rfl⟩ : ∃ k, g = k + 1 := ⟨g - 1, by omega⟩
    rw [lrN, lrN]
    by_cases h : x = 0
    · rw [if_pos h, if_pos h]
    · rw [if_neg h, if_neg h, ih (Nat.lt_of_le_of_lt (gA_le x) (half_lt hx)) (by omega)]
theorem trN_st {f : Nat} : ∀ {g x : Nat}, x < 2 ^ f → f ≤ g → trN g x = trN f x := by
  induction f with
  | zero =>
    intro g x hx hg
    have : x = 0 := by simp at hx; exact hx
    subst this
    rw [trN_0, trN_0]
  | succ f ih =>
    intro g x hx hg
    obtain ⟨g, rfl⟩ : ∃ k, g = k + 1 := ⟨g - 1, by omega⟩
    rw [trN, trN, ih (half_lt hx) (by omega)]
theorem lr_even {f : Nat} : ∀ {x : Nat}, x < 2 ^ f → lrN (f + 1) (2 * x) = lrN f x := by
  induction f with
  | zero =>
    intro x hx
    have : x = 0 := by simp at hx; exact hx
    subst this
    rfl
  | succ f ih =>
    intro x hx
    rw [lrN]
    by_cases h : x = 0
    · subst h
      rw [if_pos rfl, lrN_0]
    · have hg : gA (2 * x) = 2 * gA x := by
        have := gA_2 (p := x) (v := 0) (by omega)
        simpa using this
      rw [if_neg (by omega), hg, ih (Nat.lt_of_le_of_lt (gA_le x) (half_lt hx)), lrN, if_neg h]
theorem tr_g {f : Nat} : ∀ {q : Nat}, q < 2 ^ f → trN f (2 * gA q + q % 2) = trN f q := by
  induction f with
  | zero => intro q _; rfl
  | succ f ih =>
    intro q hq
    rw [trN, trN]
    by_cases h : q % 2 = 1
    · rw [if_pos (by omega), if_pos h, show (2 * gA q + q % 2) / 2 = gA q by omega]
      have hg := gA_2 (p := q / 2) (v := 1) (by omega)
      rw [show 2 * (q / 2) + 1 = q by omega] at hg
      have h1 : 1 &&& q / 2 % 2 = q / 2 % 2 := by
        rcases bit01 (show q / 2 % 2 < 2 by omega) with e | e <;> rw [e] <;> decide
      rw [hg, h1, ih (half_lt hq)]
    · rw [if_neg (by omega), if_neg h]
theorem lr_odd {f : Nat} : ∀ {p : Nat}, p < 2 ^ f → lrN (f + 1) (2 * p + 1) = max (lrN f p) (trN f p + 1) := by
  induction f with
  | zero =>
    intro p hp
    have : p = 0 := by simp at hp; exact hp
    subst this
    decide
  | succ f ih =>
    intro p hp
    have hg := gA_2 (p := p) (v := 1) (by omega)
    have h1 : 1 &&& p % 2 = p % 2 := by
      rcases bit01 (show p % 2 < 2 by omega) with e | e <;> rw [e] <;> decide
    rw [h1] at hg
    have hgp : gA p < 2 ^ f := Nat.lt_of_le_of_lt (gA_le p) (half_lt hp)
    rw [lrN, if_neg (by omega), hg]
    by_cases ho : p % 2 = 1
    · have h2 := tr_g (f := f) (q := p / 2) (half_lt hp)
      have hgp2 := gA_2 (p := p / 2) (v := 1) (by omega)
      have h3 : 1 &&& p / 2 % 2 = p / 2 % 2 := by
        rcases bit01 (show p / 2 % 2 < 2 by omega) with e | e <;> rw [e] <;> decide
      rw [show 2 * (p / 2) + 1 = p by omega, h3] at hgp2
      rw [← hgp2] at h2
      rw [ho, ih hgp, h2, lrN, if_neg (by omega), trN, if_pos ho]
      omega
    · rw [show 2 * gA p + p % 2 = 2 * gA p by omega, lr_even hgp, lrN, trN, if_neg ho]
      by_cases h0 : p = 0
      · subst h0
        rw [if_pos rfl]
        have : gA 0 = 0 := by decide
        rw [this, lrN_0]
        decide
      · rw [if_neg h0]
        omega
def lr (x : Nat) : Nat := lrN 15 x
def tr (x : Nat) : Nat := trN 15 x
theorem lr_at {i x : Nat} (h : x < 2 ^ i) (hi : i ≤ 15) : lr x = lrN i x := lrN_st h hi
theorem tr_at {i x : Nat} (h : x < 2 ^ i) (hi : i ≤ 15) : tr x = trN i x := trN_st h hi
theorem lr_2 {i p : Nat} (h : p < 2 ^ i) (hi : i < 15) : lr (2 * p) = lr p := by
  rw [lr_at (i := i + 1) (by rw [Nat.pow_succ]; omega) (by omega), lr_at h (by omega), lr_even h]
theorem lr_21 {i p : Nat} (h : p < 2 ^ i) (hi : i < 15) : lr (2 * p + 1) = max (lr p) (tr p + 1) := by
  rw [lr_at (i := i + 1) (by rw [Nat.pow_succ]; omega) (by omega), lr_at h (by omega), tr_at h (by omega), lr_odd h]
theorem tr_2 {i p : Nat} (h : p < 2 ^ i) (hi : i < 15) : tr (2 * p) = 0 := by
  rw [tr_at (i := i + 1) (by rw [Nat.pow_succ]; omega) (by omega), trN, if_neg (by omega)]
theorem tr_21 {i p : Nat} (h : p < 2 ^ i) (hi : i < 15) : tr (2 * p + 1) = tr p + 1 := by
  rw [tr_at (i := i + 1) (by rw [Nat.pow_succ]; omega) (by omega), trN, if_pos (by omega), show (2 * p + 1) / 2 = p by omega, tr_at h (by omega)]
  omega
theorem tr_even {i p : Nat} (h : p < 2 ^ i) (hi : i ≤ 15) (he : ¬ p % 2 = 1) : tr p = 0 := by
  cases i with
  | zero =>
    have : p = 0 := by simp at h; exact h
    subst this
    exact trN_0 15
  | succ i => rw [tr_at h hi, trN, if_neg he]
theorem lrN_le (f x : Nat) : lrN f x ≤ f := by
  induction f generalizing x with
  | zero => exact Nat.le_refl 0
  | succ f ih => rw [lrN]; have := ih (gA x); split <;> omega
theorem trN_le (f x : Nat) : trN f x ≤ f := by
  induction f generalizing x with
  | zero => exact Nat.le_refl 0
  | succ f ih => rw [trN]; have := ih (x / 2); split <;> omega
/-- runs of a row of i signs -/
def rnN (i p : Nat) : Nat := if i = 0 then 0 else 1 + pop ((p ^^^ p / 2) % 2 ^ (i - 1))
theorem rnN_s {i p v : Nat} (h : p < 2 ^ i) (hi : i < 15) (hv : v < 2) : rnN (i + 1) (2 * p + v) = rnN i p + (if 0 < i ∧ p % 2 = v then 0 else 1) := by
  unfold rnN
  rw [if_neg (by omega), show i + 1 - 1 = i by omega, show (2 * p + v) / 2 = p by omega]
  have hx : (2 * p + v) ^^^ (2 * (p / 2) + p % 2) = 2 * (p ^^^ p / 2) + (v ^^^ p % 2) := xor_2 hv (by omega)
  rw [show 2 * (p / 2) + p % 2 = p by omega] at hx
  rw [hx]
  have hb := xor_lt2 hv (show p % 2 < 2 by omega)
  cases i with
  | zero =>
    rw [if_pos rfl, if_neg (by omega), Nat.pow_zero, Nat.mod_one, pop_0]
  | succ i =>
    rw [if_neg (by omega), show i + 1 - 1 = i by omega]
    have hm : (2 * (p ^^^ p / 2) + (v ^^^ p % 2)) % 2 ^ (i + 1) = 2 * ((p ^^^ p / 2) % 2 ^ i) + (v ^^^ p % 2) := by
      rw [Nat.pow_succ, Nat.mul_comm (2 ^ i) 2, Nat.mod_mul]
      rw [show (2 * (p ^^^ p / 2) + (v ^^^ p % 2)) % 2 = v ^^^ p % 2 by omega, show (2 * (p ^^^ p / 2) + (v ^^^ p % 2)) / 2 = p ^^^ p / 2 by omega]
      omega
    have hlt : (p ^^^ p / 2) % 2 ^ i < 2 ^ 15 := Nat.lt_of_lt_of_le (Nat.mod_lt _ (Nat.two_pow_pos i)) (Nat.pow_le_pow_right (by omega) (by omega))
    rw [hm, pop_2 hlt hb]
    rcases bit01 hv with rfl | rfl <;> rcases bit01 (show p % 2 < 2 by omega) with e | e <;> rw [e] <;> simp <;> omega
theorem pop_gA {i p v : Nat} (h : p < 2 ^ i) (hi : i < 15) (hv : v < 2) : pop (gA (2 * p + v)) = pop (gA p) + (if v = 1 ∧ p % 2 = 1 then 1 else 0) := by
  have hp : 2 ^ i ≤ 2 ^ 14 := Nat.pow_le_pow_right (by omega) (by omega)
  have h1 := gA_le p
  have h2 : (v &&& p % 2) < 2 := Nat.lt_of_le_of_lt Nat.and_le_left hv
  rw [gA_2 hv, pop_2 (by omega) h2]
  rcases bit01 hv with rfl | rfl <;> rcases bit01 (show p % 2 < 2 by omega) with e | e <;> rw [e] <;> simp <;> omega
