/-! pure rows: ways to fill what was not seen -/
def uc : Nat → (Nat → Int32) → Nat
  | 0, _ => 0
  | n + 1, g => uc n g + (if g n = -1 then 1 else 0)
/-- X's c-th fill -/
def dX : Nat → (Nat → Int32) → Nat → Nat
  | 0, _, _ => 0
  | n + 1, g, c => if g n = -1 then 2 * dX n g (c / 2) + c % 2 else 2 * dX n g c
/-- M's fill by a number -/
def fM : Nat → (Nat → Int32) → Nat → Nat
  | 0, _, _ => 0
  | n + 1, g, y => if g n = -1 then 2 * fM n g y + y / 2 ^ uc n g % 2 else 2 * fM n g y
theorem uc_le (n : Nat) (g : Nat → Int32) : uc n g ≤ n := by
  induction n with
  | zero => exact Nat.le_refl 0
  | succ n ih => rw [uc]; split <;> omega
theorem pop_ub {n : Nat} {g : Nat → Int32} (hn : n ≤ 15) : pop (ub n g) = uc n g := by
  induction n with
  | zero => exact pop_0
  | succ n ih =>
    have h1 := ub_lt n g
    have hp : 2 ^ n ≤ 2 ^ 14 := Nat.pow_le_pow_right (by omega) (by omega)
    rw [ub, uc, pop_2 (by omega) (by split <;> omega), ih (by omega)]
    omega
theorem dX_lt {n : Nat} {g : Nat → Int32} : ∀ c, dX n g c < 2 ^ n := by
  induction n with
  | zero => intro c; exact Nat.one_pos
  | succ n ih =>
    intro c
    have h1 := ih c
    have h2 := ih (c / 2)
    rw [dX, Nat.pow_succ]
    split <;> omega
theorem fM_lt {n : Nat} {g : Nat → Int32} : ∀ y, fM n g y < 2 ^ n := by
  induction n with
  | zero => intro c; exact Nat.one_pos
  | succ n ih =>
    intro y
    have h1 := ih y
    rw [fM, Nat.pow_succ]
    split <;> omega
theorem pop_dX {n : Nat} {g : Nat → Int32} (hn : n ≤ 15) : ∀ c, c < 2 ^ uc n g → pop (dX n g c) = pop c := by
  induction n with
  | zero =>
    intro c hc
    obtain rfl : c = 0 := by
      have : c < 2 ^ 0 := hc
      omega
    rfl
  | succ n ih =>
    intro c hc
    have hp : 2 ^ n ≤ 2 ^ 14 := Nat.pow_le_pow_right (by omega) (by omega)
    have hu := uc_le n g
    have hk : 2 ^ uc n g ≤ 2 ^ 14 := Nat.pow_le_pow_right (by omega) (by omega)
    rw [uc] at hc
    rw [dX]
    have h1 := dX_lt (n := n) (g := g) (c / 2)
    have h2 := dX_lt (n := n) (g := g) c
    by_cases h : g n = -1
    · rw [if_pos h] at hc ⊢
      rw [Nat.pow_succ] at hc
      rw [pop_2 (by omega) (by omega), ih (by omega) (c / 2) (by omega), ← pop_2 (by omega) (by omega), show 2 * (c / 2) + c % 2 = c by omega]
    · rw [if_neg h] at hc ⊢
      have := pop_2 (b := dX n g c) (v := 0) (by omega) (by omega)
      rw [Nat.add_zero] at this
      rw [this, ih (by omega) c hc]
      omega
theorem pop_top : ∀ {K y t : Nat}, K < 15 → y < 2 ^ K → t < 2 → pop (2 ^ K * t + y) = t + pop y := by
  intro K
  induction K with
  | zero =>
    intro y t hK hy ht
    obtain rfl : y = 0 := by omega
    have := pop_2 (b := 0) (v := t) (by omega) ht
    rw [show 2 * 0 + t = 2 ^ 0 * t + 0 by omega] at this
    exact this
  | succ K ih =>
    intro y t hK hy ht
    have hp : 2 ^ K ≤ 2 ^ 13 := Nat.pow_le_pow_right (by omega) (by omega)
    have hy2 : y / 2 < 2 ^ K := by rw [Nat.pow_succ] at hy; omega
    have hb : 2 ^ K * t ≤ 2 ^ K := by
      rcases bit01 ht with rfl | rfl <;> omega
    have e : 2 ^ (K + 1) * t + y = 2 * (2 ^ K * t + y / 2) + y % 2 := by
      rw [Nat.pow_succ, Nat.mul_right_comm]
      omega
    have h2 : pop y = y % 2 + pop (y / 2) := by
      have := pop_2 (b := y / 2) (v := y % 2) (by omega) (by omega)
      rw [show 2 * (y / 2) + y % 2 = y by omega] at this
      exact this
    rw [e, pop_2 (by omega) (by omega), ih (by omega) hy2 ht, h2]
    omega
theorem fM_mod {n : Nat} {g : Nat → Int32} : ∀ {y K}, uc n g ≤ K → fM n g (y % 2 ^ K) = fM n g y := by
  induction n with
  | zero => intros; rfl
  | succ n ih =>
    intro y K hK
    rw [uc] at hK
    rw [fM, fM]
    by_cases h : g n = -1
    · rw [if_pos h] at hK
      rw [if_pos h, if_pos h, ih (by omega)]
      congr 1
      have h1 : (y % 2 ^ K).testBit (uc n g) = y.testBit (uc n g) := by
        rw [Nat.testBit_mod_two_pow]
        simp
        omega
      have tb : ∀ x i : Nat, x.testBit i = decide (x / 2 ^ i % 2 = 1) := fun x i => by
        rw [Nat.testBit, Nat.shiftRight_eq_div_pow, Nat.one_and_eq_mod_two]
        rcases bit01 (show x / 2 ^ i % 2 < 2 by omega) with e | e <;> rw [e] <;> rfl
      rw [tb, tb] at h1
      have h2 : y % 2 ^ K / 2 ^ uc n g % 2 = 1 ↔ y / 2 ^ uc n g % 2 = 1 := by
        rw [← decide_eq_true_eq (p := y % 2 ^ K / 2 ^ uc n g % 2 = 1), h1, decide_eq_true_eq]
      have := Nat.mod_lt (y % 2 ^ K / 2 ^ uc n g) (show 0 < 2 by decide)
      have := Nat.mod_lt (y / 2 ^ uc n g) (show 0 < 2 by decide)
      omega
    · rw [if_neg h] at hK
      rw [if_neg h, if_neg h, ih (by omega)]
theorem top_div {K y t : Nat} (hy : y < 2 ^ K) (ht : t < 2) : (2 ^ K * t + y) / 2 ^ K % 2 = t ∧ (2 ^ K * t + y) % 2 ^ K = y := by
  have h0 : 0 < 2 ^ K := Nat.two_pow_pos K
  constructor
  · rw [Nat.mul_add_div h0, Nat.div_eq_of_lt hy]
    omega
  · rw [Nat.mul_add_mod, Nat.mod_eq_of_lt hy]
theorem fM_top {n : Nat} {g : Nat → Int32} (h : g n = -1) {y t : Nat} (hy : y < 2 ^ uc n g) (ht : t < 2) : fM (n + 1) g (2 ^ uc n g * t + y) = 2 * fM n g y + t := by
  obtain ⟨h1, h2⟩ := top_div hy ht
  rw [fM, if_pos h, h1, ← fM_mod (K := uc n g) (Nat.le_refl _), h2]
theorem pop_fM {n : Nat} {g : Nat → Int32} (hn : n ≤ 15) : ∀ y, y < 2 ^ uc n g → pop (fM n g y) = pop y := by
  induction n with
  | zero =>
    intro c hc
    obtain rfl : c = 0 := by
      have : c < 2 ^ 0 := hc
      omega
    rfl
  | succ n ih =>
    intro y hy
    have hp : 2 ^ n ≤ 2 ^ 14 := Nat.pow_le_pow_right (by omega) (by omega)
    have hu := uc_le n g
    rw [uc] at hy
    by_cases h : g n = -1
    · rw [if_pos h, Nat.pow_succ] at hy
      have h0 : 0 < 2 ^ uc n g := Nat.two_pow_pos _
      have ht : y / 2 ^ uc n g < 2 := Nat.div_lt_of_lt_mul hy
      have hr : y % 2 ^ uc n g < 2 ^ uc n g := Nat.mod_lt _ h0
      have e : y = 2 ^ uc n g * (y / 2 ^ uc n g) + y % 2 ^ uc n g := (Nat.div_add_mod _ _).symm
      have h1 := fM_lt (n := n) (g := g) (y % 2 ^ uc n g)
      rw [e, fM_top h hr ht, pop_2 (by omega) ht, ih (by omega) _ hr, pop_top (by omega) hr ht]
    · rw [if_neg h] at hy
      have h1 := fM_lt (n := n) (g := g) y
      rw [fM, if_neg h]
      have := pop_2 (b := fM n g y) (v := 0) (by omega) (by omega)
      rw [Nat.add_zero] at this
      rw [this, ih (by omega) y hy]
      omega
/-- both ways of counting fills up come to the same -/
theorem enum_eq {n : Nat} {g : Nat → Int32} : ∀ F : Nat → Nat, fb_sm (fun y => F (fM n g y)) (2 ^ uc n g) = fb_sm (fun c => F (dX n g c)) (2 ^ uc n g) := by
  induction n with
  | zero => intro F; rfl
  | succ n ih =>
    intro F
    rw [uc]
    by_cases h : g n = -1
    · rw [if_pos h]
      have := ih (fun x => F (2 * x) + F (2 * x + 1))
      have e1 : fb_sm (fun c => F (dX (n + 1) g c)) (2 ^ (uc n g + 1)) = fb_sm (fun c => F (2 * dX n g c) + F (2 * dX n g c + 1)) (2 ^ uc n g) := by
        rw [Nat.pow_succ, Nat.mul_comm, sm_pair]
        apply fb_sm_cong
        intro c _
        show F (dX (n + 1) g (2 * c)) + F (dX (n + 1) g (2 * c + 1)) = _
        rw [dX, dX, if_pos h, if_pos h, show 2 * c / 2 = c by omega, show (2 * c + 1) / 2 = c by omega, show 2 * c % 2 = 0 by omega, show (2 * c + 1) % 2 = 1 by omega]
        rfl
      have e2 : fb_sm (fun y => F (fM (n + 1) g y)) (2 ^ (uc n g + 1)) = fb_sm (fun y => F (2 * fM n g y) + F (2 * fM n g y + 1)) (2 ^ uc n g) := by
        rw [Nat.pow_succ, show 2 ^ uc n g * 2 = 2 ^ uc n g + 2 ^ uc n g by omega, fb_sm_split, fb_sm_add]
        congr 1
        · apply fb_sm_cong
          intro y hy
          have := fM_top (n := n) (g := g) h (t := 0) hy (by omega)
          rw [Nat.mul_zero, Nat.zero_add] at this
          show F (fM (n + 1) g y) = F (2 * fM n g y)
          rw [this]
          rfl
        · apply fb_sm_cong
          intro y hy
          have := fM_top (n := n) (g := g) h (t := 1) hy (by omega)
          rw [Nat.mul_one] at this
          show F (fM (n + 1) g (2 ^ uc n g + y)) = F (2 * fM n g y + 1)
          rw [this]
      rw [e1, e2]
      exact this
    · rw [if_neg h]
      have := ih (fun x => F (2 * x))
      have e1 : ∀ c, dX (n + 1) g c = 2 * dX n g c := fun c => by rw [dX, if_neg h]
      have e2 : ∀ c, fM (n + 1) g c = 2 * fM n g c := fun c => by rw [fM, if_neg h]
      simp only [e1, e2]
      exact this
theorem ct_sm (P : Nat → Bool) : ∀ M, fb_ct P M = fb_sm (fun b => if P b then 1 else 0) M := by
  intro M
  induction M with
  | zero => rfl
  | succ M ih => rw [fb_sm_succ, fb_ct_succ, ih]
theorem enum_ct {n : Nat} {g : Nat → Int32} (P : Nat → Bool) : fb_ct (fun y => P (fM n g y)) (2 ^ uc n g) = fb_ct (fun c => P (dX n g c)) (2 ^ uc n g) := by
  rw [ct_sm, ct_sm]
  exact enum_eq (fun x => if P x then 1 else 0)
/-- X's step to the next fill -/
theorem and_0 (a b w : Nat) (hw : w < 2) : 2 * a &&& (2 * b + w) = 2 * (a &&& b) := by
  have := and_2 (a := a) (b := b) (v := 0) (w := w) (by omega) hw
  rw [Nat.zero_and, Nat.add_zero, Nat.add_zero] at this
  exact this
theorem dX_and {n : Nat} {g : Nat → Int32} : ∀ c, dX n g c &&& ub n g = dX n g c := by
  induction n with
  | zero => intro c; exact Nat.and_zero 0
  | succ n ih =>
    intro c
    rw [dX, ub]
    by_cases h : g n = -1
    · rw [if_pos h, if_pos h, and_2 (by omega) (by omega), ih]
      rcases bit01 (show c % 2 < 2 by omega) with e | e <;> rw [e] <;> rfl
    · rw [if_neg h, if_neg h, and_0 _ _ 0 (by omega), ih]
theorem dX_le {n : Nat} {g : Nat → Int32} (c : Nat) : dX n g c ≤ ub n g := by
  rw [← dX_and c]
  exact Nat.and_le_right
theorem not_step {n : Nat} {g : Nat → Int32} : ∀ k c, n ≤ k → (dX n g c + (2 ^ k - 1 - ub n g)) &&& ub n g = dX n g c := by
  induction n with
  | zero =>
    intro k c _
    show _ &&& 0 = 0
    exact Nat.and_zero _
  | succ n ih =>
    intro k c hk
    obtain ⟨k, rfl⟩ : ∃ z, k = z + 1 := ⟨k - 1, by omega⟩
    have hu := ub_lt n g
    have hp : 2 ^ n ≤ 2 ^ k := Nat.pow_le_pow_right (by omega) (by omega)
    rw [dX, ub, Nat.pow_succ]
    by_cases h : g n = -1
    · rw [if_pos h, if_pos h, show 2 * dX n g (c / 2) + c % 2 + (2 ^ k * 2 - 1 - (2 * ub n g + 1)) = 2 * (dX n g (c / 2) + (2 ^ k - 1 - ub n g)) + c % 2 by omega, and_2 (by omega) (by omega), ih k _ (by omega)]
      rcases bit01 (show c % 2 < 2 by omega) with e | e <;> rw [e] <;> rfl
    · rw [if_neg h, if_neg h, show 2 * dX n g c + (2 ^ k * 2 - 1 - (2 * ub n g + 0)) = 2 * (dX n g c + (2 ^ k - 1 - ub n g)) + 1 by omega, and_2 (by omega) (by omega), ih k _ (by omega)]
      rfl
theorem dX_step {n : Nat} {g : Nat → Int32} : ∀ k c, n ≤ k → c + 1 < 2 ^ uc n g → (dX n g c + 2 ^ k - ub n g) &&& ub n g = dX n g (c + 1) := by
  induction n with
  | zero =>
    intro k c _ h
    have : c + 1 < 2 ^ 0 := h
    omega
  | succ n ih =>
    intro k c hk hc
    obtain ⟨k, rfl⟩ : ∃ z, k = z + 1 := ⟨k - 1, by omega⟩
    have hu := ub_lt n g
    have hp : 2 ^ n ≤ 2 ^ k := Nat.pow_le_pow_right (by omega) (by omega)
    rw [uc] at hc
    rw [dX, dX, ub, Nat.pow_succ]
    by_cases h : g n = -1
    · rw [if_pos h, Nat.pow_succ] at hc
      rw [if_pos h, if_pos h, if_pos h]
      rcases bit01 (show c % 2 < 2 by omega) with e | e
      · rw [show 2 * dX n g (c / 2) + c % 2 + 2 ^ k * 2 - (2 * ub n g + 1) = 2 * (dX n g (c / 2) + (2 ^ k - 1 - ub n g)) + 1 by omega, and_2 (by omega) (by omega), not_step k _ (by omega), show (c + 1) / 2 = c / 2 by omega, show (c + 1) % 2 = 1 by omega]
        rfl
      · rw [show 2 * dX n g (c / 2) + c % 2 + 2 ^ k * 2 - (2 * ub n g + 1) = 2 * (dX n g (c / 2) + 2 ^ k - ub n g) by omega, and_0 _ _ 1 (by omega), ih k _ (by omega) (by omega), show (c + 1) / 2 = c / 2 + 1 by omega, show (c + 1) % 2 = 0 by omega]
        rfl
    · rw [if_neg h] at hc
      rw [if_neg h, if_neg h, if_neg h, show 2 * dX n g c + 2 ^ k * 2 - (2 * ub n g + 0) = 2 * (dX n g c + 2 ^ k - ub n g) by omega, and_0 _ _ 0 (by omega), ih k _ (by omega) hc]
theorem nI_wrap (x : Nat) : nI (x + 2 ^ 32) = nI x := by
  rw [← nI_add, show nI (2 ^ 32) = 0 from by decide, i_add0]
theorem next_fill {n : Nat} {g : Nat → Int32} (hn : n ≤ 15) {c : Nat} (hc : c + 1 < 2 ^ uc n g) : (nI (dX n g c) - nI (ub n g)) &&& nI (ub n g) = nI (dX n g (c + 1)) := by
  have hu := ub_lt n g
  have hp : 2 ^ n ≤ 2 ^ 15 := Nat.pow_le_pow_right (by omega) hn
  rw [← nI_wrap (dX n g c), pk_sub (by omega), fa_and, dX_step 32 c (by omega) hc]
