/-! pure rows: lots, from the lowest up -/
theorem pop_h {y : Nat} (hy : y < 2 ^ 16) : pop y = y % 2 + pop (y / 2) := by
  have := pop_2 (b := y / 2) (v := y % 2) (by omega) (by omega)
  rw [show 2 * (y / 2) + y % 2 = y by omega] at this
  exact this
theorem pop_split : ∀ {K q r : Nat}, r < 2 ^ K → 2 ^ K * q + r < 2 ^ 16 → pop (2 ^ K * q + r) = pop q + pop r := by
  intro K
  induction K with
  | zero =>
    intro q r hr _
    obtain rfl : r = 0 := by omega
    rw [pop_0, Nat.pow_zero, Nat.one_mul]
    rfl
  | succ K ih =>
    intro q r hr h
    have e : 2 ^ (K + 1) * q + r = 2 * (2 ^ K * q + r / 2) + r % 2 := by
      rw [Nat.pow_succ, Nat.mul_right_comm]
      omega
    have hr2 : r / 2 < 2 ^ K := by rw [Nat.pow_succ] at hr; omega
    have h1 : r < 2 ^ 16 := by omega
    rw [e] at h ⊢
    rw [pop_2 (by omega) (by omega), ih hr2 (by omega), pop_h h1]
    omega
theorem pop_ones : ∀ {K : Nat}, K ≤ 15 → pop (2 ^ K - 1) = K := by
  intro K
  induction K with
  | zero => intro _; exact pop_0
  | succ K ih =>
    intro hK
    have h0 := Nat.two_pow_pos K
    have hp : 2 ^ K ≤ 2 ^ 14 := Nat.pow_le_pow_right (by omega) (by omega)
    rw [show 2 ^ (K + 1) - 1 = 2 * (2 ^ K - 1) + 1 by rw [Nat.pow_succ]; omega, pop_2 (by omega) (by omega), ih (by omega)]
    omega
theorem pop_less : ∀ {K s : Nat}, K ≤ 15 → s + 1 < 2 ^ K → pop s < K := by
  intro K
  induction K with
  | zero => intro s _ h; omega
  | succ K ih =>
    intro s hK h
    have hp : 2 ^ K ≤ 2 ^ 14 := Nat.pow_le_pow_right (by omega) (by omega)
    rw [Nat.pow_succ] at h
    rw [pop_h (by omega)]
    by_cases q : s / 2 + 1 < 2 ^ K
    · have := ih (by omega) q
      omega
    · rw [show s / 2 = 2 ^ K - 1 by omega, pop_ones (by omega)]
      omega
theorem pop_pos : ∀ {K s : Nat}, K ≤ 16 → 0 < s → s < 2 ^ K → 0 < pop s := by
  intro K
  induction K with
  | zero => intro s _ h h2; omega
  | succ K ih =>
    intro s hK h h2
    have hp : 2 ^ K ≤ 2 ^ 15 := Nat.pow_le_pow_right (by omega) (by omega)
    rw [Nat.pow_succ] at h2
    rw [pop_h (by omega)]
    by_cases q : s / 2 = 0
    · omega
    · have := ih (s := s / 2) (by omega) (by omega) (by omega)
      omega
theorem and_compl : ∀ {k c : Nat}, c < 2 ^ k → c &&& (2 ^ k - 1 - c) = 0 := by
  intro k
  induction k with
  | zero =>
    intro c h
    obtain rfl : c = 0 := by omega
    exact Nat.zero_and _
  | succ k ih =>
    intro c h
    rw [Nat.pow_succ] at h
    have := and_2 (a := c / 2) (b := 2 ^ k - 1 - c / 2) (v := c % 2) (w := 1 - c % 2) (by omega) (by omega)
    rw [show 2 * (c / 2) + c % 2 = c by omega, show 2 * (2 ^ k - 1 - c / 2) + (1 - c % 2) = 2 ^ (k + 1) - 1 - c by rw [Nat.pow_succ]; omega, ih (by omega)] at this
    rw [this]
    rcases bit01 (show c % 2 < 2 by omega) with e | e <;> rw [e] <;> rfl
theorem low_bit : ∀ {t c k : Nat}, 2 ^ t * (2 * c + 1) < 2 ^ k → 2 ^ t * (2 * c + 1) &&& (2 ^ k - 2 ^ t * (2 * c + 1)) = 2 ^ t := by
  intro t
  induction t with
  | zero =>
    intro c k h
    rw [Nat.pow_zero, Nat.one_mul] at h ⊢
    cases k with
    | zero => omega
    | succ k =>
      rw [Nat.pow_succ] at h ⊢
      rw [show 2 ^ k * 2 - (2 * c + 1) = 2 * (2 ^ k - 1 - c) + 1 by omega, and_2 (by omega) (by omega), and_compl (by omega)]
      rfl
  | succ t ih =>
    intro c k h
    have e : 2 ^ (t + 1) * (2 * c + 1) = 2 * (2 ^ t * (2 * c + 1)) := by rw [Nat.pow_succ, Nat.mul_comm (2 ^ t) 2, Nat.mul_assoc]
    rw [e] at h ⊢
    have hpos : 0 < 2 ^ t * (2 * c + 1) := Nat.mul_pos (Nat.two_pow_pos t) (by omega)
    cases k with
    | zero => rw [Nat.pow_zero] at h; omega
    | succ k =>
      rw [Nat.pow_succ] at h
      have h2 : 2 ^ t * (2 * c + 1) < 2 ^ k := by omega
      rw [show 2 ^ (k + 1) - 2 * (2 ^ t * (2 * c + 1)) = 2 * (2 ^ k - 2 ^ t * (2 * c + 1)) + 0 by rw [Nat.pow_succ]; omega, and_0 _ _ 0 (by omega), ih h2, Nat.pow_succ, Nat.mul_comm]
theorem xor_t : ∀ {t u v : Nat}, (2 ^ t * u) ^^^ (2 ^ t * v) = 2 ^ t * (u ^^^ v) := by
  intro t
  induction t with
  | zero => intro u v; simp
  | succ t ih =>
    intro u v
    have e : ∀ z, 2 ^ (t + 1) * z = 2 * (2 ^ t * z) := fun z => by rw [Nat.pow_succ, Nat.mul_comm (2 ^ t) 2, Nat.mul_assoc]
    have := xor_2 (a := 2 ^ t * u) (b := 2 ^ t * v) (v := 0) (w := 0) (by omega) (by omega)
    rw [e, e, e, ← ih]
    exact this
theorem xor_j {q : Nat} : ∀ j, (2 ^ (j + 1) * q + (2 ^ j - 1)) ^^^ (2 ^ (j + 1) * q + 2 ^ j) = 2 ^ (j + 1) - 1 := by
  intro j
  induction j with
  | zero =>
    have := xor_2 (a := q) (b := q) (v := 0) (w := 1) (by omega) (by omega)
    rw [Nat.xor_self] at this
    exact this
  | succ j ih =>
    have h0 := Nat.two_pow_pos j
    have e : ∀ z, 2 ^ (j + 1 + 1) * z = 2 * (2 ^ (j + 1) * z) := fun z => by rw [Nat.pow_succ 2 (j + 1), Nat.mul_comm (2 ^ (j + 1)) 2, Nat.mul_assoc]
    have := xor_2 (a := 2 ^ (j + 1) * q + (2 ^ j - 1)) (b := 2 ^ (j + 1) * q + 2 ^ j) (v := 1) (w := 0) (by omega) (by omega)
    rw [ih] at this
    rw [e, show 2 * (2 ^ (j + 1) * q) + (2 ^ (j + 1) - 1) = 2 * (2 ^ (j + 1) * q + (2 ^ j - 1)) + 1 by rw [Nat.pow_succ]; omega, show 2 * (2 ^ (j + 1) * q) + 2 ^ (j + 1) = 2 * (2 ^ (j + 1) * q + 2 ^ j) + 0 by rw [Nat.pow_succ 2 j]; omega, this]
    rw [show (1 ^^^ 0 : Nat) = 1 from rfl, Nat.pow_succ 2 (j + 1)]
    have := Nat.two_pow_pos (j + 1)
    omega
theorem rep1 : ∀ K c : Nat, c < K → ∃ q j, c = 2 ^ (j + 1) * q + (2 ^ j - 1) := by
  intro K
  induction K with
  | zero => intro c h; omega
  | succ K ih =>
    intro c h
    rcases bit01 (show c % 2 < 2 by omega) with e | e
    · exact ⟨c / 2, 0, by simp; omega⟩
    · obtain ⟨q, j, hq⟩ := ih (c / 2) (by omega)
      have h0 := Nat.two_pow_pos j
      refine ⟨q, j + 1, ?_⟩
      have e2 : 2 ^ (j + 1 + 1) * q = 2 * (2 ^ (j + 1) * q) := by rw [Nat.pow_succ 2 (j + 1), Nat.mul_comm (2 ^ (j + 1)) 2, Nat.mul_assoc]
      rw [e2, Nat.pow_succ 2 j]
      rw [Nat.pow_succ 2 j] at hq
      omega
theorem rep2 : ∀ K b : Nat, b < K → 0 < b → ∃ q j t, 1 ≤ j ∧ b = 2 ^ t * (2 ^ (j + 1) * q + (2 ^ j - 1)) := by
  intro K
  induction K with
  | zero => intro c h; omega
  | succ K ih =>
    intro b h h0
    rcases bit01 (show b % 2 < 2 by omega) with e | e
    · obtain ⟨q, j, t, hj, hq⟩ := ih (b / 2) (by omega) (by omega)
      refine ⟨q, j, t + 1, hj, ?_⟩
      rw [Nat.pow_succ, Nat.mul_comm (2 ^ t) 2, Nat.mul_assoc, ← hq]
      omega
    · obtain ⟨q, j, hq⟩ := rep1 (b / 2 + 1) (b / 2) (by omega)
      have h0 := Nat.two_pow_pos j
      refine ⟨q, j + 1, 0, by omega, ?_⟩
      have e2 : 2 ^ (j + 1 + 1) * q = 2 * (2 ^ (j + 1) * q) := by rw [Nat.pow_succ 2 (j + 1), Nat.mul_comm (2 ^ (j + 1)) 2, Nat.mul_assoc]
      rw [e2, Nat.pow_succ 2 j, Nat.pow_zero, Nat.one_mul]
      rw [Nat.pow_succ 2 j] at hq
      omega
theorem neg_nI {b : Nat} (h : b < 2 ^ 32) : -nI b = nI (2 ^ 32 - b) := by
  have h1 := nI_wrap 0
  rw [Nat.zero_add] at h1
  rw [← pk_sub (by omega), h1, show nI 0 = 0 from rfl, Int32.zero_sub]
/-- the next larger number with as many bits -/
theorem after_ok {b : Nat} (h0 : 0 < b) (hb : b < 2 ^ 15) : ∃ x, f_X2_after (nI b) = some (nI x) ∧ b < x ∧ x < 2 ^ 16 ∧ pop x = pop b ∧ ∀ y, b < y → y < x → ¬ pop y = pop b := by
  obtain ⟨q, j, t, hj, e⟩ := rep2 (b + 1) b (by omega) h0
  obtain ⟨j, rfl⟩ : ∃ z, j = z + 1 := ⟨j - 1, by omega⟩
  have pj := Nat.two_pow_pos j
  have pt := Nat.two_pow_pos t
  have ej : 2 ^ (j + 1) = 2 * 2 ^ j := by rw [Nat.pow_succ]; omega
  have ej2 : 2 ^ (j + 1 + 1) = 4 * 2 ^ j := by rw [Nat.pow_succ, ej]; omega
  have ejt : 2 ^ (j + 1 + t) = 2 ^ (j + 1) * 2 ^ t := Nat.pow_add _ _ _
  -- sizes
  have hodd : 2 ^ (j + 1 + 1) * q + (2 ^ (j + 1) - 1) = 2 * (2 ^ (j + 1) * q + (2 ^ j - 1)) + 1 := by
    rw [ej2, ej, Nat.mul_assoc, Nat.mul_assoc]
    omega
  have hlb : nI b &&& -nI b = nI (2 ^ t) := by
    rw [neg_nI (by omega), fa_and]
    congr 1
    rw [e, hodd]
    exact low_bit (by rw [← hodd, ← e]; omega)
  have hge : 2 ^ t ≤ b := by
    rw [e, hodd]
    exact Nat.le_mul_of_pos_right _ (by omega)
  have hcar : b + 2 ^ t = 2 ^ (j + 1 + t) * (2 * q + 1) := by
    rw [e, show 2 ^ t * (2 ^ (j + 1 + 1) * q + (2 ^ (j + 1) - 1)) + 2 ^ t = 2 ^ t * (2 ^ (j + 1 + 1) * q + (2 ^ (j + 1) - 1) + 1) from (Nat.mul_succ _ _).symm, show 2 ^ (j + 1 + 1) * q + (2 ^ (j + 1) - 1) + 1 = 2 ^ (j + 1) * (2 * q + 1) by rw [Nat.mul_add, Nat.pow_succ 2 (j + 1), Nat.mul_assoc]; omega, ejt, Nat.mul_comm (2 ^ (j + 1)) (2 ^ t), Nat.mul_assoc]
  have hxor : b ^^^ (b + 2 ^ t) = 2 ^ t * (2 ^ (j + 1 + 1) - 1) := by
    have : b + 2 ^ t = 2 ^ t * (2 ^ (j + 1 + 1) * q + 2 ^ (j + 1)) := by
      rw [e, show 2 ^ t * (2 ^ (j + 1 + 1) * q + (2 ^ (j + 1) - 1)) + 2 ^ t = 2 ^ t * (2 ^ (j + 1 + 1) * q + (2 ^ (j + 1) - 1) + 1) from (Nat.mul_succ _ _).symm]
      congr 1
      omega
    rw [this]
    conv => lhs; lhs; rw [e]
    rw [xor_t, xor_j]
  have hx31 : 2 ^ t * (2 ^ (j + 1 + 1) - 1) < 2 ^ 31 := by
    rw [← hxor]
    have : b ^^^ (b + 2 ^ t) < 2 ^ 16 := Nat.xor_lt_two_pow (by omega) (by omega)
    omega
  have hdiv : 2 ^ t * (2 ^ (j + 1 + 1) - 1) / 2 ^ t = 2 ^ (j + 1 + 1) - 1 := Nat.mul_div_cancel_left _ pt
  have hj16 : 2 ^ (j + 1 + 1) - 1 < 2 ^ 31 := by
    have : 1 * (2 ^ (j + 1 + 1) - 1) ≤ 2 ^ t * (2 ^ (j + 1 + 1) - 1) := Nat.mul_le_mul_right _ pt
    omega
  have hval : f_X2_after (nI b) = some (nI (2 ^ (j + 1 + t) * (2 * q + 1) + (2 ^ j - 1))) := by
    unfold f_X2_after
    rw [hlb, if_neg (nI_ne0 pt (by omega)), gNe_of (nI_ne0 pt (by omega)), nI_add, fb_xorI, hxor, pk_div hx31 pt (by omega), hdiv, show ((2 : Int32) &&& 31) = (nI 2 &&& 31) from rfl, shr_nI hj16 (by omega), show (2 ^ (j + 1 + 1) - 1) / 2 ^ 2 = 2 ^ j - 1 by rw [ej2]; omega, hcar, fa_or_sum]
    rw [ejt, ej]
    have : 2 * 2 ^ j * 1 ≤ 2 * 2 ^ j * 2 ^ t := Nat.mul_le_mul_left _ pt
    omega
  have hM : 2 ^ (j + 1 + t) * (2 * q + 1) = 2 ^ (j + 1 + t + 1) * q + 2 ^ (j + 1 + t) := by
    rw [Nat.mul_add, Nat.mul_one, Nat.pow_succ, Nat.mul_assoc]
  have hMb : b = 2 ^ (j + 1 + t + 1) * q + (2 ^ (j + 1 + t) - 2 ^ t) := by
    rw [hM] at hcar
    have : 2 ^ t ≤ 2 ^ (j + 1 + t) := Nat.pow_le_pow_right (by omega) (by omega)
    omega
  have hjt : 2 * 2 ^ j * 1 ≤ 2 * 2 ^ j * 2 ^ t := Nat.mul_le_mul_left _ pt
  rw [ej] at ejt
  have hle : 2 ^ (j + 1 + t) ≤ b + 2 ^ t := by
    rw [hcar]
    exact Nat.le_mul_of_pos_right _ (by omega)
  have hjle : j + 1 + t < 16 := by
    by_cases q : j + 1 + t < 16
    · exact q
    · have : 2 ^ 16 ≤ 2 ^ (j + 1 + t) := Nat.pow_le_pow_right (by omega) (by omega)
      omega
  have hs1 : 2 ^ (j + 1 + t + 1) = 2 * 2 ^ (j + 1 + t) := by rw [Nat.pow_succ]; omega
  have htj : 2 ^ t ≤ 2 ^ (j + 1 + t) := Nat.pow_le_pow_right (by omega) (by omega)
  have hpr : pop (2 ^ (j + 1 + t) - 2 ^ t) = j + 1 := by
    have := pop_split (K := t) (q := 2 ^ (j + 1) - 1) (r := 0) pt (by
      rw [Nat.mul_sub, Nat.mul_one, Nat.add_zero, ← Nat.pow_add, Nat.add_comm t]
      omega)
    rw [Nat.add_zero, Nat.mul_sub, Nat.mul_one, ← Nat.pow_add, Nat.add_comm t, pop_0, pop_ones (by omega)] at this
    exact this
  have hpb : pop b = pop q + (j + 1) := by
    rw [hMb, pop_split (by omega) (by omega), hpr]
  have hxlt : 2 ^ (j + 1 + t) * (2 * q + 1) + (2 ^ j - 1) < 2 ^ 16 := by
    rw [← hcar]
    have h14 : j + 1 + t < 15 ∨ j + 1 + t = 15 := by omega
    rcases h14 with h14 | h14
    · have h2 : 2 ^ (j + 1 + t) ≤ 2 ^ 14 := Nat.pow_le_pow_right (by omega) (by omega)
      omega
    · have h2 : 2 ^ j ≤ 2 ^ 14 := Nat.pow_le_pow_right (by omega) (by omega)
      have : b + 2 ^ t ≤ 2 ^ 15 := by
        rw [hcar, h14]
        have h3 : 2 ^ 15 * (2 * q + 1) < 2 ^ 16 := by rw [← h14, ← hcar]; omega
        omega
      omega
  refine ⟨_, hval, by omega, hxlt, ?_, ?_⟩
  · rw [pop_split (K := j + 1 + t) (by omega) hxlt, pop_ones (by omega), hpb]
    have := pop_2 (b := q) (v := 1) (by
      rw [hM] at hxlt
      have : 1 * q ≤ 2 ^ (j + 1 + t + 1) * q := Nat.mul_le_mul_right _ (Nat.two_pow_pos _)
      have : 2 * q ≤ 2 ^ (j + 1 + t + 1) * q := by
        rw [hs1, Nat.mul_assoc]
        exact Nat.mul_le_mul_left 2 (Nat.le_mul_of_pos_left q (by omega))
      omega) (by omega)
    rw [this]
    omega
  · intro y hy1 hy2
    rw [hM] at hy2 hxlt
    -- y = 2^(j+1+t+1) q + r
    obtain ⟨r, rfl⟩ : ∃ r, y = 2 ^ (j + 1 + t + 1) * q + r := ⟨y - 2 ^ (j + 1 + t + 1) * q, by omega⟩
    rw [pop_split (K := j + 1 + t + 1) (by omega) (by omega), hpb]
    intro hc
    have hc : pop r = j + 1 := by omega
    by_cases hr : r < 2 ^ (j + 1 + t)
    · obtain ⟨s, rfl⟩ : ∃ s, r = 2 ^ (j + 1 + t) - 2 ^ t + s := ⟨r - (2 ^ (j + 1 + t) - 2 ^ t), by omega⟩
      have hs0 : 0 < s := by omega
      have := pop_split (K := t) (q := 2 ^ (j + 1) - 1) (r := s) (by omega) (by
        rw [Nat.mul_sub, Nat.mul_one, ← Nat.pow_add, Nat.add_comm t]
        omega)
      rw [Nat.mul_sub, Nat.mul_one, ← Nat.pow_add, Nat.add_comm t, pop_ones (by omega), hc] at this
      have := pop_pos (K := 16) (s := s) (by omega) hs0 (by omega)
      omega
    · obtain ⟨s, rfl⟩ : ∃ s, r = 2 ^ (j + 1 + t) + s := ⟨r - 2 ^ (j + 1 + t), by omega⟩
      have := pop_split (K := j + 1 + t) (q := 1) (r := s) (by omega) (by omega)
      rw [Nat.mul_one, hc, show pop 1 = 1 from by decide] at this
      have h3 := pop_less (K := j) (s := s) (by omega) (by omega)
      omega
/-- rows of n signs with k hits, by Pascal -/
def bin : Nat → Nat → Nat
  | 0, 0 => 1
  | 0, _ + 1 => 0
  | _ + 1, 0 => 1
  | n + 1, k + 1 => bin n k + bin n (k + 1)
def isK (k b : Nat) : Bool := decide (pop b = k)
theorem ct_pair (f : Nat → Bool) (M : Nat) : fb_ct f (2 * M) = fb_ct (fun b => f (2 * b)) M + fb_ct (fun b => f (2 * b + 1)) M := by
  rw [ct_sm, sm_pair, fb_sm_add, ct_sm, ct_sm]
theorem bin_ct : ∀ n, n ≤ 15 → ∀ k, fb_ct (isK k) (2 ^ n) = bin n k := by
  intro n
  induction n with
  | zero =>
    intro _ k
    show (0 + if isK k 0 then 1 else 0) = bin 0 k
    cases k with
    | zero => rfl
    | succ k =>
      rw [show isK (k + 1) 0 = false from decide_eq_false (by rw [pop_0]; omega)]
      rfl
  | succ n ih =>
    intro hn k
    have hp : 2 ^ n ≤ 2 ^ 14 := Nat.pow_le_pow_right (by omega) (by omega)
    rw [show 2 ^ (n + 1) = 2 * 2 ^ n by rw [Nat.pow_succ]; omega, ct_pair]
    have e1 : fb_ct (fun b => isK k (2 * b)) (2 ^ n) = fb_ct (isK k) (2 ^ n) := by
      apply fb_ct_cong
      intro b hb
      unfold isK
      have := pop_2 (b := b) (v := 0) (by omega) (by omega)
      rw [Nat.add_zero, Nat.zero_add] at this
      rw [this]
    rw [e1, ih (by omega)]
    cases k with
    | zero =>
      have e2 : fb_ct (fun b => isK 0 (2 * b + 1)) (2 ^ n) = 0 := by
        rw [fb_ct_zero]
        intro b hb
        unfold isK
        rw [pop_2 (by omega) (by omega)]
        exact decide_eq_false (by omega)
      rw [e2]
      cases n with
      | zero => rfl
      | succ n => rfl
    | succ k =>
      have e2 : fb_ct (fun b => isK (k + 1) (2 * b + 1)) (2 ^ n) = fb_ct (isK k) (2 ^ n) := by
        apply fb_ct_cong
        intro b hb
        unfold isK
        rw [pop_2 (by omega) (by omega), Bool.eq_iff_iff]
        simp only [decide_eq_true_eq]
        omega
      rw [e2, ih (by omega)]
      show _ = bin n k + bin n (k + 1)
      omega
/-- the lot that is the c-th -/
def LT (n k c lot : Nat) : Prop := pop lot = k ∧ lot < 2 ^ n ∧ fb_ct (isK k) lot = c
theorem LT_0 {n k : Nat} (hn : n ≤ 15) (hk : k ≤ n) : LT n k 0 (2 ^ k - 1) := by
  have h0 := Nat.two_pow_pos k
  have hp : 2 ^ k ≤ 2 ^ n := Nat.pow_le_pow_right (by omega) hk
  refine ⟨pop_ones (by omega), by omega, ?_⟩
  rw [fb_ct_zero]
  intro b hb
  have := pop_less (K := k) (s := b) (by omega) (by omega)
  exact decide_eq_false (by omega)
theorem sm_gap {f : Nat → Nat} {a : Nat} : ∀ m, (∀ y, a ≤ y → y < a + m → f y = 0) → fb_sm f (a + m) = fb_sm f a := by
  intro m
  induction m with
  | zero => intro _; rfl
  | succ m ih =>
    intro h
    rw [show a + (m + 1) = (a + m) + 1 by omega, fb_sm_succ, ih (fun y h1 h2 => h y h1 (by omega)), h (a + m) (by omega) (by omega)]
    rfl
theorem LT_s {n k c lot : Nat} (hn : n ≤ 15) (h : LT n k c lot) : ∃ lot', f_X2_after (nI lot) = some (nI lot') ∧ ((c + 1 < bin n k ∧ LT n k (c + 1) lot' ∧ ∀ F : Nat → Nat, fb_sm (fun b => if isK k b then F b else 0) lot' = fb_sm (fun b => if isK k b then F b else 0) lot + F lot) ∨ (c + 1 = bin n k ∧ ∀ F : Nat → Nat, fb_sm (fun b => if isK k b then F b else 0) (2 ^ n) = fb_sm (fun b => if isK k b then F b else 0) lot + F lot)) := by
  obtain ⟨h1, h2, h3⟩ := h
  have hp : 2 ^ n ≤ 2 ^ 15 := Nat.pow_le_pow_right (by omega) hn
  have hin : isK k lot = true := decide_eq_true h1
  have key : ∀ {F : Nat → Nat} {z : Nat}, lot < z → (∀ y, lot < y → y < z → ¬ pop y = k) → fb_sm (fun b => if isK k b then F b else 0) z = fb_sm (fun b => if isK k b then F b else 0) lot + F lot := by
    intro F z hz hy
    have := sm_gap (f := fun b => if isK k b then F b else 0) (a := lot + 1) (z - (lot + 1)) (fun y y1 y2 => by
      show (if isK k y then F y else 0) = 0
      rw [show isK k y = false from decide_eq_false (hy y (by omega) (by omega))]
      rfl)
    rw [show lot + 1 + (z - (lot + 1)) = z by omega, fb_sm_succ, hin] at this
    exact this
  have ctF : ∀ z, fb_ct (isK k) z = fb_sm (fun b => if isK k b then (fun _ => 1) b else 0) z := fun z => ct_sm _ z
  rcases Nat.eq_zero_or_pos lot with h0 | h0
  · subst h0
    have hk0 : k = 0 := by rw [← h1, pop_0]
    subst hk0
    have hc : c = 0 := by rw [← h3]; rfl
    subst hc
    refine ⟨0, by decide, Or.inr ?_⟩
    have hy : ∀ y, 0 < y → y < 2 ^ n → ¬ pop y = 0 := fun y y1 y2 => by
      have := pop_pos (K := n) (s := y) (by omega) y1 y2
      omega
    refine ⟨?_, fun F => key h2 hy⟩
    rw [← bin_ct n hn, ctF, key h2 hy, ← ctF, h3]
  · obtain ⟨x, x1, x2, x3, x4, x5⟩ := after_ok h0 (by omega)
    rw [h1] at x4 x5
    refine ⟨x, x1, ?_⟩
    by_cases hx : x < 2 ^ n
    · left
      have hct : fb_ct (isK k) x = c + 1 := by rw [ctF, key x2 x5, ← ctF, h3]
      refine ⟨?_, ⟨x4, hx, hct⟩, fun F => key x2 x5⟩
      have m := fb_ct_mono (isK k) (m := x + 1) (n := 2 ^ n) (by omega)
      rw [fb_ct_succ, show isK k x = true from decide_eq_true x4, bin_ct n hn, hct] at m
      simp at m
      omega
    · right
      have hy : ∀ y, lot < y → y < 2 ^ n → ¬ pop y = k := fun y y1 y2 => x5 y y1 (by omega)
      refine ⟨?_, fun F => key h2 hy⟩
      rw [← bin_ct n hn, ctF, key h2 hy, ← ctF, h3]
/-- how many lots: the class's and the reference's product -/
def wys (d : Nat) : Nat → Nat
  | 0 => 1
  | i + 1 => wys d i * (d + (i + 1)) / (i + 1)
theorem wys_all : ∀ d, d < 16 → ∀ i, i < 16 → d + i ≤ 15 → wys d i ≤ 6435 ∧ wys d i = bin (d + i) i := by decide +kernel
theorem many_loop {N r n k : Nat} {xLen xHits : Nat → Int32} (hn : n ≤ 15) (hk : k ≤ n) (e1 : xLen r = nI n) : ∀ (z i c : Nat), i + z = k → z < c → f_X2_howMany_12 N c r (nI k) (nI (wys (n - k) i)) (nI (i + 1)) xLen xHits = some (nI (wys (n - k) k)) := by
  intro z
  induction z with
  | zero =>
    intro i c hi hc
    obtain ⟨c, rfl⟩ : ∃ z, c = z + 1 := ⟨c - 1, by omega⟩
    obtain rfl : i = k := by omega
    rw [f_X2_howMany_12, if_pos (nI_lt (by omega) (by omega))]
  | succ z ih =>
    intro i c hi hc
    obtain ⟨c, rfl⟩ : ∃ z, c = z + 1 := ⟨c - 1, by omega⟩
    have hw := (wys_all (n - k) (by omega) i (by omega) (by omega)).1
    have hm : wys (n - k) i * (n - k + (i + 1)) ≤ 6435 * 15 := Nat.mul_le_mul hw (by omega)
    rw [f_X2_howMany_12, if_neg (nI_nlt (by omega) (by omega)), gNe_of (nI_ne0 (by omega) (by omega)), e1, pk_sub hk, nI_add, pk_mul, pk_div (by omega) (by omega) (by omega), nI_1]
    exact ih (i + 1) c (by omega) (by omega)
theorem many_X {N r n h : Nat} (hN : 50 ≤ N) {xLen xHits : Nat → Int32} (hn : n ≤ 15) (hh : h < 2 ^ n) (e1 : xLen r = nI n) (e2 : xHits r = nI h) : f_X2_howMany N r xLen xHits = some (nI (bin n (pop h))) := by
  have hp : 2 ^ n ≤ 2 ^ 15 := Nat.pow_le_pow_right (by omega) hn
  have hk := pop_len hn hh
  unfold f_X2_howMany
  rw [e2, bc_ok (by omega), bnd_s]
  have := many_loop (N := N) (xHits := xHits) hn hk e1 (pop h) 0 N (by omega) (by omega)
  rw [(wys_all (n - pop h) (by omega) (pop h) (by omega) (by omega)).2, show n - pop h + pop h = n by omega] at this
  exact this
theorem low_X {r n h : Nat} {xHits : Nat → Int32} (hn : n ≤ 15) (hh : h < 2 ^ n) (e2 : xHits r = nI h) : f_X2_lowest r xHits = some (nI (2 ^ pop h - 1)) := by
  have hp : 2 ^ n ≤ 2 ^ 15 := Nat.pow_le_pow_right (by omega) hn
  have hk := pop_len hn hh
  unfold f_X2_lowest
  rw [e2, bc_ok (by omega), bnd_s, mask_of (by omega)]
theorem choose_loop {N n k : Nat} (hn : n ≤ 15) (hk : k ≤ n) : ∀ (z i c : Nat), i + z = k → z < c → f_X11_choose_5 N c (nI n) (nI k) (lN (wys (n - k) i)) (nI (i + 1)) = some (lN (wys (n - k) k)) := by
  intro z
  induction z with
  | zero =>
    intro i c hi hc
    obtain ⟨c, rfl⟩ : ∃ z, c = z + 1 := ⟨c - 1, by omega⟩
    obtain rfl : i = k := by omega
    rw [f_X11_choose_5, if_pos (nI_lt (by omega) (by omega))]
  | succ z ih =>
    intro i c hi hc
    obtain ⟨c, rfl⟩ : ∃ z, c = z + 1 := ⟨c - 1, by omega⟩
    have hw := (wys_all (n - k) (by omega) i (by omega) (by omega)).1
    have hm : wys (n - k) i * (n - k + (i + 1)) ≤ 6435 * 15 := Nat.mul_le_mul hw (by omega)
    rw [f_X11_choose_5, if_neg (nI_nlt (by omega) (by omega)), nI_l (by omega), gNeL_of (lN_ne (by omega) (by omega)), pk_sub hk, nI_add, nI_l (by omega), lN_mul, pk_lDiv (by omega) (by omega) (by omega), nI_1]
    exact ih (i + 1) c (by omega) (by omega)
theorem choose_M {N n k : Nat} (hN : 50 ≤ N) (hn : n ≤ 15) (hk : k ≤ n) : f_X11_choose N (nI n) (nI k) = some (lN (bin n k)) := by
  unfold f_X11_choose
  have := choose_loop (N := N) hn hk k 0 N (by omega) (by omega)
  rw [(wys_all (n - k) (by omega) k (by omega) (by omega)).2, show n - k + k = n by omega] at this
  exact this
theorem bin_rng {n k : Nat} (hn : n ≤ 15) (hk : k ≤ n) : 1 ≤ bin n k ∧ bin n k ≤ 6435 := by
  have h1 := wys_all (n - k) (by omega) k (by omega) (by omega)
  rw [show n - k + k = n by omega] at h1
  refine ⟨?_, by rw [← h1.2]; exact h1.1⟩
  obtain ⟨a, b, c⟩ := LT_0 hn hk
  rw [← bin_ct n hn]
  have : 0 < fb_ct (isK k) (2 ^ n) := fb_ct_pos.mpr ⟨2 ^ k - 1, b, decide_eq_true a⟩
  omega
