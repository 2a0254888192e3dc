/-! pure rows: the numbers of a row, X's side; patterns -/
theorem shr1_nI {b : Nat} (hb : b < 2 ^ 31) : nI b >>> ((1 : Int32) &&& 31) = nI (b / 2) := shr_nI (s := 1) hb (by omega)
theorem one_shl {k : Nat} (hk : k < 31) : (1 : Int32) <<< (nI k &&& 31) = nI (2 ^ k) := by
  have : 2 ^ k < 2 ^ 31 := Nat.pow_lt_pow_right (by omega) hk
  have h := shl_nI (b := 1) (s := k) (by omega) (by omega)
  rw [Nat.one_mul] at h
  exact h
theorem mask_of {k : Nat} (hk : k < 31) : ((1 : Int32) <<< (nI k &&& 31)) - 1 = nI (2 ^ k - 1) := by
  rw [one_shl hk]
  exact pk_sub (a := 2 ^ k) (b := 1) (Nat.two_pow_pos k)
theorem runs_X {n b : Nat} (hn : n ≤ 15) (hb : b < 2 ^ n) : f_X3_runs (nI n) (nI b) = some (nI (rnN n b)) := by
  have hp : 2 ^ n ≤ 2 ^ 15 := Nat.pow_le_pow_right (by omega) hn
  unfold f_X3_runs rnN
  by_cases h : n = 0
  · subst h
    rw [if_pos (show nI 0 = 0 from rfl), if_pos rfl]
    rfl
  · have hm : 2 ^ (n - 1) ≤ 2 ^ 15 := Nat.pow_le_pow_right (by omega) (by omega)
    have hlt := Nat.mod_lt (b ^^^ b / 2) (Nat.two_pow_pos (n - 1))
    rw [if_neg (show ¬ nI n = 0 from nI_ne0 (by omega) (by omega)), if_neg h, shr1_nI (by omega), fb_xorI, show nI n - 1 = nI (n - 1) from pk_sub (a := n) (b := 1) (by omega), mask_of (by omega), mask_nI, bc_ok (by omega), bnd_s, show (1 : Int32) = nI 1 from rfl, nI_add]
theorem lrX_loop {N : Nat} : ∀ (f k c x : Nat), k + f = 15 → x < 2 ^ f → f < c → f_X3_longestRun_4 N c (nI x) (nI k) = some (nI (k + lrN f x)) := by
  intro f
  induction f with
  | zero =>
    intro k c x hk hx hc
    obtain ⟨c, rfl⟩ : ∃ z, c = z + 1 := ⟨c - 1, by omega⟩
    have : x = 0 := by simp at hx; exact hx
    subst this
    rw [f_X3_longestRun_4, if_pos (show nI 0 = 0 from rfl)]
    rfl
  | succ f ih =>
    intro k c x hk hx hc
    obtain ⟨c, rfl⟩ : ∃ z, c = z + 1 := ⟨c - 1, by omega⟩
    have hp : 2 ^ (f + 1) ≤ 2 ^ 15 := Nat.pow_le_pow_right (by omega) (by omega)
    rw [f_X3_longestRun_4, lrN]
    by_cases h : x = 0
    · subst h
      rw [if_pos (show nI 0 = 0 from rfl), if_pos rfl]
      rfl
    · rw [if_neg (show ¬ nI x = 0 from nI_ne0 (by omega) (by omega)), if_neg (show ¬ (15 : Int32) ≤ nI k from nI_ge (b := 15) (by omega) (by omega)), if_neg h, shr1_nI (by omega), fa_and, show nI k + 1 = nI (k + 1) from nI_1 k]
      have h2 := ih (k + 1) c (gA x) (by omega) (Nat.lt_of_le_of_lt (gA_le x) (half_lt hx)) (by omega)
      rw [show k + 1 + lrN f (gA x) = k + (1 + lrN f (gA x)) by omega] at h2
      exact h2
theorem lr_X {N x : Nat} (hN : 50 ≤ N) (hx : x < 2 ^ 15) : f_X3_longestRun N (nI x) = some (nI (lr x)) := by
  have h := lrX_loop (N := N) 15 0 N x (by omega) hx (by omega)
  rw [Nat.zero_add] at h
  exact h
theorem xor_ones : ∀ (n b : Nat), b < 2 ^ n → b ^^^ (2 ^ n - 1) = 2 ^ n - 1 - b := by
  intro n
  induction n with
  | zero =>
    intro b hb
    have : b = 0 := by simp at hb; exact hb
    subst this
    rfl
  | succ n ih =>
    intro b hb
    have h1 := ih (b / 2) (half_lt hb)
    have h2 := xor_2 (a := b / 2) (b := 2 ^ n - 1) (v := b % 2) (w := 1) (by omega) (by omega)
    have hp := Nat.two_pow_pos n
    rw [show 2 * (b / 2) + b % 2 = b by omega, show 2 * (2 ^ n - 1) + 1 = 2 ^ (n + 1) - 1 by rw [Nat.pow_succ]; omega, h1] at h2
    rw [h2]
    rw [Nat.pow_succ] at hb ⊢
    rcases bit01 (show b % 2 < 2 by omega) with e | e <;> rw [e]
    · rw [show (0 ^^^ 1 : Nat) = 1 from rfl]; omega
    · rw [show (1 ^^^ 1 : Nat) = 0 from rfl]; omega
theorem m1_nI : (-1 : Int32) = nI (2 ^ 32 - 1) := by decide
theorem not_nI {n b : Nat} (hn : n ≤ 15) (hb : b < 2 ^ n) : (nI b ^^^ (-1)) &&& (((1 : Int32) <<< (nI n &&& 31)) - 1) = nI (cpl n b) := by
  have h : ∀ n, n < 16 → (2 ^ 32 - 1) % 2 ^ n = 2 ^ n - 1 := by decide +kernel
  rw [mask_of (by omega), m1_nI, fb_xorI, mask_nI, Nat.xor_mod_two_pow, h n (by omega), Nat.mod_eq_of_lt hb, xor_ones n b hb]
  rfl
theorem ffN_keep (s : Nat → Nat) {j : Nat} (h : ¬ ffN s j = 15) : ∀ k, ffN s (j + k) = ffN s j := by
  intro k
  induction k with
  | zero => rfl
  | succ k ih => rw [show j + (k + 1) = (j + k) + 1 by omega, ffN, ih, if_neg (fun q => h q.2)]
theorem first_X_loop {N n b : Nat} (hn : n ≤ 15) (hb : b < 2 ^ n) : ∀ (m j c : Nat), j + m = n → m < c → ffN (sb n b) j = 15 → f_X3_firstHit_2 N c (nI n) (nI b) (nI j) = some (nI (ffN (sb n b) n)) := by
  have hp : 2 ^ n ≤ 2 ^ 15 := Nat.pow_le_pow_right (by omega) hn
  intro m
  induction m with
  | zero =>
    intro j c hj hc h
    obtain ⟨c, rfl⟩ : ∃ z, c = z + 1 := ⟨c - 1, by omega⟩
    obtain rfl : j = n := by omega
    rw [f_X3_firstHit_2, if_pos (nI_le (Nat.le_refl j) (by omega)), h]
    rfl
  | succ m ih =>
    intro j c hj hc h
    obtain ⟨c, rfl⟩ : ∃ z, c = z + 1 := ⟨c - 1, by omega⟩
    have hbit : (nI b >>> ((nI n - 1 - nI j) &&& 31)) &&& 1 = nI (sb n b j) := by
      rw [nI_sub1 (by omega), shr_nI (by omega) (by omega), and1_nI]; rfl
    have hv : sb n b j < 2 := Nat.mod_lt _ (by omega)
    rw [f_X3_firstHit_2, if_neg (nI_ge (by omega) (by omega)), hbit, show nI j + 1 = nI (j + 1) from nI_1 j]
    by_cases h1 : sb n b j = 1
    · have h2 : ffN (sb n b) (j + 1) = j := by rw [ffN, if_pos ⟨h1, h⟩]
      have h3 := ffN_keep (sb n b) (j := j + 1) (by omega) (n - (j + 1))
      rw [show j + 1 + (n - (j + 1)) = n by omega, h2] at h3
      rw [if_pos (show nI (sb n b j) = 1 by rw [h1]; rfl), h3]
    · have h2 : ffN (sb n b) (j + 1) = 15 := by rw [ffN, if_neg (fun q => h1 q.1), h]
      rw [if_neg (show ¬ nI (sb n b j) = 1 from fun q => h1 ((nI_eq (b := 1) (by omega) (by omega)).mp q))]
      exact ih (j + 1) c (by omega) (by omega) h2
/-- how long a pattern is -/
def lenN : Nat → Nat → Nat
  | 0, _ => 0
  | f + 1, t => if t ≤ 1 then 0 else 1 + lenN f (t / 2)
def len (t : Nat) : Nat := lenN 6 t
theorem len_M_loop {N T : Nat} (hT : T < 2 ^ 31) : ∀ (f k c : Nat), T / 2 ^ k < 2 ^ (f + 1) → k + f < 32 → f < c → f_X11_lengthOf_2 N c (nI T) (nI k) = some (nI (k + lenN f (T / 2 ^ k))) := by
  intro f
  induction f with
  | zero =>
    intro k c h hk hc
    obtain ⟨c, rfl⟩ : ∃ z, c = z + 1 := ⟨c - 1, by omega⟩
    have hq : T / 2 ^ k ≤ T := Nat.div_le_self _ _
    rw [f_X11_lengthOf_2, shr_nI hT (by omega), if_pos (show nI (T / 2 ^ k) ≤ 1 from nI_le (b := 1) (by simp at h; omega) (by omega))]
    rfl
  | succ f ih =>
    intro k c h hk hc
    obtain ⟨c, rfl⟩ : ∃ z, c = z + 1 := ⟨c - 1, by omega⟩
    have hq : T / 2 ^ k ≤ T := Nat.div_le_self _ _
    have e : T / 2 ^ k / 2 = T / 2 ^ (k + 1) := by rw [Nat.div_div_eq_div_mul, Nat.pow_succ]
    rw [f_X11_lengthOf_2, shr_nI hT (by omega), lenN]
    by_cases h1 : T / 2 ^ k ≤ 1
    · rw [if_pos (show nI (T / 2 ^ k) ≤ 1 from nI_le (b := 1) h1 (by omega)), if_pos h1]
      rfl
    · rw [if_neg (show ¬ nI (T / 2 ^ k) ≤ 1 from nI_ge (a := 1) (by omega) (by omega)), if_neg h1, show nI k + 1 = nI (k + 1) from nI_1 k, ih (k + 1) c (by rw [← e]; exact half_lt h) (by omega) (by omega), e, show k + 1 + lenN f (T / 2 ^ (k + 1)) = k + (1 + lenN f (T / 2 ^ (k + 1))) by omega]
theorem len_M {N T : Nat} (hN : 50 ≤ N) (hT : T < 128) : f_X11_lengthOf N (nI T) = some (nI (len T)) := by
  have h := len_M_loop (N := N) (T := T) (by omega) 6 0 N (by simp; omega) (by omega) (by omega)
  rw [Nat.zero_add, Nat.pow_zero, Nat.div_one] at h
  exact h
theorem len_X_loop {N T : Nat} (hT : T < 2 ^ 31) : ∀ (f k c : Nat), k + f = 6 → T / 2 ^ k < 2 ^ (f + 1) → f < c → f_X4_lengthOf_2 N c (nI T) (nI k) = some (nI (k + lenN f (T / 2 ^ k))) := by
  intro f
  induction f with
  | zero =>
    intro k c hk h hc
    obtain ⟨c, rfl⟩ : ∃ z, c = z + 1 := ⟨c - 1, by omega⟩
    obtain rfl : k = 6 := by omega
    rw [f_X4_lengthOf_2, if_pos (show (6 : Int32) ≤ nI 6 by decide)]
    rfl
  | succ f ih =>
    intro k c hk h hc
    obtain ⟨c, rfl⟩ : ∃ z, c = z + 1 := ⟨c - 1, by omega⟩
    have e : T / 2 ^ k / 2 = T / 2 ^ (k + 1) := by rw [Nat.div_div_eq_div_mul, Nat.pow_succ]
    have hq : T / 2 ^ (k + 1) ≤ T := Nat.div_le_self _ _
    rw [f_X4_lengthOf_2, if_neg (show ¬ (6 : Int32) ≤ nI k from nI_ge (b := 6) (by omega) (by omega)), show nI k + 1 = nI (k + 1) from nI_1 k, shr_nI hT (by omega), lenN]
    by_cases h1 : T / 2 ^ k ≤ 1
    · rw [if_pos (show nI (T / 2 ^ (k + 1)) = 0 by rw [← e, show T / 2 ^ k / 2 = 0 from Nat.div_eq_of_lt (Nat.lt_succ_of_le h1)]; rfl), if_pos h1]
      rfl
    · rw [if_neg (show ¬ nI (T / 2 ^ (k + 1)) = 0 from nI_ne0 (by omega) (by omega)), if_neg h1, ih (k + 1) c (by omega) (by rw [← e]; exact half_lt h) (by omega), e, show k + 1 + lenN f (T / 2 ^ (k + 1)) = k + (1 + lenN f (T / 2 ^ (k + 1))) by omega]
theorem len_X {N T : Nat} (hN : 50 ≤ N) (hT : T < 128) : f_X4_lengthOf N (nI T) = some (nI (len T)) := by
  have h := len_X_loop (N := N) (T := T) (by omega) 6 0 N (by omega) (by simp; omega) (by omega)
  rw [Nat.zero_add, Nat.pow_zero, Nat.div_one] at h
  exact h
theorem len_all : ∀ T, T < 128 → 2 ≤ T → 1 ≤ len T ∧ len T ≤ 6 ∧ 2 ^ len T ≤ T ∧ T < 2 ^ (len T + 1) := by decide +kernel
/-- how many places below m have a property -/
def cnt : (Nat → Bool) → Nat → Nat
  | _, 0 => 0
  | f, m + 1 => (if f 0 then 1 else 0) + cnt (fun s => f (s + 1)) m
def bn : (Nat → Bool) → Nat → Nat
  | _, 0 => 0
  | f, m + 1 => 2 * bn (fun s => f (s + 1)) m + (if f 0 then 1 else 0)
theorem cnt_last (m : Nat) : ∀ f : Nat → Bool, cnt f (m + 1) = cnt f m + (if f m then 1 else 0) := by
  induction m with
  | zero => intro f; simp [cnt]
  | succ m ih =>
    intro f
    rw [cnt, ih, cnt]
    omega
theorem bn_lt (m : Nat) : ∀ f : Nat → Bool, bn f m < 2 ^ m := by
  induction m with
  | zero => intro f; exact Nat.zero_lt_one
  | succ m ih => intro f; rw [bn, Nat.pow_succ]; have := ih (fun s => f (s + 1)); split <;> omega
theorem pop_bn {m : Nat} (hm : m ≤ 15) : ∀ f : Nat → Bool, pop (bn f m) = cnt f m := by
  induction m with
  | zero => intro f; exact pop_0
  | succ m ih =>
    intro f
    have hb := bn_lt m (fun s => f (s + 1))
    have hp : 2 ^ m ≤ 2 ^ 15 := Nat.pow_le_pow_right (by omega) (by omega)
    rw [bn, cnt, pop_2 (by omega) (by split <;> omega), ih (by omega)]
theorem bn_bit (m : Nat) : ∀ (f : Nat → Bool) (s : Nat), (bn f m).testBit s = (decide (s < m) && f s) := by
  induction m with
  | zero => intro f s; simp [bn]
  | succ m ih =>
    intro f s
    rw [bn]
    cases s with
    | zero =>
      rw [Nat.testBit_zero]
      cases h : f 0
      · rw [if_neg (by simp)]; simp
      · rw [if_pos rfl]; simp
    | succ s =>
      rw [Nat.testBit_succ, show (2 * bn (fun s => f (s + 1)) m + (if f 0 = true then 1 else 0)) / 2 = bn (fun s => f (s + 1)) m by split <;> omega, ih]
      simp
theorem bn_cong {m : Nat} : ∀ {f g : Nat → Bool}, (∀ s, s < m → f s = g s) → bn f m = bn g m := by
  induction m with
  | zero => intro f g _; rfl
  | succ m ih =>
    intro f g h
    rw [bn, bn, ih (f := fun s => f (s + 1)) (g := fun s => g (s + 1)) (fun s hs => h (s + 1) (by omega)), h 0 (by omega)]
theorem cnt_cong {m : Nat} : ∀ {f g : Nat → Bool}, (∀ s, s < m → f s = g s) → cnt f m = cnt g m := by
  induction m with
  | zero => intro f g _; rfl
  | succ m ih =>
    intro f g h
    rw [cnt, cnt, ih (f := fun s => f (s + 1)) (g := fun s => g (s + 1)) (fun s hs => h (s + 1) (by omega)), h 0 (by omega)]
theorem bn_ones (m : Nat) : bn (fun _ => true) m = 2 ^ m - 1 := by
  induction m with
  | zero => rfl
  | succ m ih => rw [bn, ih, if_pos rfl, Nat.pow_succ]; have := Nat.two_pow_pos m; omega
