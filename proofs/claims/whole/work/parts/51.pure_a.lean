/-! pure rows: counts of bits, rows of signs -/
def popN : Nat → Nat → Nat
  | 0, _ => 0
  | f + 1, b => b % 2 + popN f (b / 2)
theorem popN_zero (f : Nat) : popN f 0 = 0 := by
  induction f with
  | zero => rfl
  | succ f ih => simp [popN, ih]
theorem popN_le (f b : Nat) : popN f b ≤ f := by
  induction f generalizing b with
  | zero => exact Nat.le_refl 0
  | succ f ih => have := ih (b / 2); simp only [popN]; omega
theorem popN_add {f b : Nat} (k : Nat) (h : b < 2 ^ f) : popN (f + k) b = popN f b := by
  induction f generalizing b with
  | zero =>
    have : b = 0 := by simp at h; exact h
    subst this
    rw [popN_zero, popN_zero]
  | succ f ih =>
    rw [show f + 1 + k = (f + k) + 1 by omega]
    simp only [popN]
    rw [ih (by rw [Nat.pow_succ] at h; omega)]
theorem popN_big {f g b : Nat} (h : b < 2 ^ f) (hg : f ≤ g) : popN g b = popN f b := by
  obtain ⟨k, rfl⟩ := Nat.exists_eq_add_of_le hg
  exact popN_add k h
/-- the ones of a number below 2 ^ 16 -/
def pop (b : Nat) : Nat := popN 16 b
theorem pop_of {f b : Nat} (h : b < 2 ^ f) (hf : f ≤ 16) : pop b = popN f b := popN_big h hf
theorem pop_2 {b v : Nat} (hb : b < 2 ^ 15) (hv : v < 2) : pop (2 * b + v) = v + pop b := by
  unfold pop
  rw [popN, show (2 * b + v) % 2 = v by omega, show (2 * b + v) / 2 = b by omega, popN_big (f := 15) (g := 16) hb (by omega)]
theorem pop_0 : pop 0 = 0 := popN_zero 16
theorem shr_nI {b s : Nat} (hb : b < 2 ^ 31) (hs : s < 32) : nI b >>> (nI s &&& 31) = nI (b / 2 ^ s) := by
  refine pk_shrN hb (nI s &&& 31) s ?_
  have : ∀ n, n < 32 → ((nI n &&& 31).toBitVec.smod 32).toNat = n := by decide +kernel
  exact this s hs
theorem shl_nI {b s : Nat} (hs : s < 32) (h : b * 2 ^ s < 2 ^ 32) : nI b <<< (nI s &&& 31) = nI (b * 2 ^ s) := by
  refine pk_shlN (nI s &&& 31) s ?_ h
  have : ∀ n, n < 32 → ((nI n &&& 31).toBitVec.smod 32).toNat = n := by decide +kernel
  exact this s hs
theorem and1_nI {b : Nat} : nI b &&& 1 = nI (b % 2) := by
  have := fa_mask b 1
  exact this
theorem mask_nI (b k : Nat) : nI b &&& nI (2 ^ k - 1) = nI (b % 2 ^ k) := fa_mask b k
/-- M: ones -/
theorem ones_loop {N b : Nat} (hb : b < 2 ^ 31) : ∀ (m j acc n : Nat), j + m = 16 → m < n → f_X11_ones_4 N n (nI b) (nI acc) (nI j) = some (nI (acc + popN m (b / 2 ^ j))) := by
  intro m
  induction m with
  | zero =>
    intro j acc n hj hn
    obtain ⟨n, rfl⟩ : ∃ k, n = k + 1 := ⟨n - 1, by omega⟩
    obtain rfl : j = 16 := by omega
    rw [f_X11_ones_4, if_pos (by decide)]
    rfl
  | succ m ih =>
    intro j acc n hj hn
    obtain ⟨n, rfl⟩ : ∃ k, n = k + 1 := ⟨n - 1, by omega⟩
    have hlt : ¬ (16 : Int32) ≤ nI j := by
      show ¬ nI 16 ≤ nI j
      exact nI_ge (by omega) (by omega)
    rw [f_X11_ones_4, if_neg hlt, shr_nI hb (by omega), and1_nI, nI_add, show nI j + 1 = nI (j + 1) from nI_1 j, ih (j + 1) _ n (by omega) (by omega)]
    rw [popN, Nat.div_div_eq_div_mul, ← Nat.pow_succ]
    exact congrArg (fun z => some (nI z)) (Nat.add_assoc _ _ _)
theorem ones_ok {N b : Nat} (hb : b < 2 ^ 31) (hN : 17 ≤ N) : f_X11_ones N (nI b) = some (nI (popN 16 b)) := by
  have h := ones_loop (N := N) hb 16 0 0 N (by omega) (by omega)
  rw [Nat.zero_add, Nat.pow_zero, Nat.div_one] at h
  exact h
/-- X: bitCount -/
def bg1 (b : Nat) : Nat := b - (b / 2 &&& 1431655765)
def bg2 (b : Nat) : Nat := (b &&& 858993459) + (b / 4 &&& 858993459)
def bg3 (b : Nat) : Nat := (b + b / 16) &&& 252645135
def bg4 (b : Nat) : Nat := b + b / 256
def bg5 (b : Nat) : Nat := b + b / 65536
def bcN (b : Nat) : Nat := bg5 (bg4 (bg3 (bg2 (bg1 b)))) &&& 63
def bs1 (x : Int32) : Int32 := x - ((x.toUInt32 >>> ((1 : Int32).toUInt32 &&& Int32.toUInt32 31)).toInt32 &&& 1431655765)
def bs2 (x : Int32) : Int32 := (x &&& 858993459) + ((x.toUInt32 >>> ((2 : Int32).toUInt32 &&& Int32.toUInt32 31)).toInt32 &&& 858993459)
def bs3 (x : Int32) : Int32 := (x + (x.toUInt32 >>> ((4 : Int32).toUInt32 &&& Int32.toUInt32 31)).toInt32) &&& 252645135
def bs4 (x : Int32) : Int32 := x + (x.toUInt32 >>> ((8 : Int32).toUInt32 &&& Int32.toUInt32 31)).toInt32
def bs5 (x : Int32) : Int32 := x + (x.toUInt32 >>> ((16 : Int32).toUInt32 &&& Int32.toUInt32 31)).toInt32
theorem bush {b : Nat} (h : b < 2 ^ 32) (s : Int32) (k : Nat) (hs : ((s.toUInt32 &&& Int32.toUInt32 31).toBitVec % 32).toNat = k) : ((nI b).toUInt32 >>> (s.toUInt32 &&& Int32.toUInt32 31)).toInt32 = nI (b / 2 ^ k) := pk_ushrN h s k hs
theorem bs1_ok {b : Nat} (h : b < 2 ^ 32) : bs1 (nI b) = nI (bg1 b) := by
  unfold bs1
  rw [bush h 1 1 (by decide), show (1431655765 : Int32) = nI 1431655765 from rfl, fa_and, pk_sub (Nat.le_trans Nat.and_le_left (Nat.div_le_self _ _))]
  rfl
theorem bs2_ok {b : Nat} (h : b < 2 ^ 32) : bs2 (nI b) = nI (bg2 b) := by
  unfold bs2
  rw [bush h 2 2 (by decide), show (858993459 : Int32) = nI 858993459 from rfl, fa_and, fa_and, nI_add]
  rfl
theorem bs3_ok {b : Nat} (h : b < 2 ^ 32) : bs3 (nI b) = nI (bg3 b) := by
  unfold bs3
  rw [bush h 4 4 (by decide), show (252645135 : Int32) = nI 252645135 from rfl, nI_add, fa_and]
  rfl
theorem bs4_ok {b : Nat} (h : b < 2 ^ 32) : bs4 (nI b) = nI (bg4 b) := by
  unfold bs4
  rw [bush h 8 8 (by decide), nI_add]
  rfl
theorem bs5_ok {b : Nat} (h : b < 2 ^ 32) : bs5 (nI b) = nI (bg5 b) := by
  unfold bs5
  rw [bush h 16 16 (by decide), nI_add]
  rfl
theorem bg1_le (b : Nat) : bg1 b ≤ b := Nat.sub_le _ _
theorem bg2_le (b : Nat) : bg2 b ≤ 1717986918 := by
  have h1 : b &&& 858993459 ≤ 858993459 := Nat.and_le_right
  have h2 : b / 4 &&& 858993459 ≤ 858993459 := Nat.and_le_right
  unfold bg2
  omega
theorem bg3_le (b : Nat) : bg3 b ≤ 252645135 := Nat.and_le_right
theorem bc_nat {b : Nat} (h : b < 2 ^ 15) : f_J6_bitCount_0f7a4 (nI b) = some (nI (bcN b)) := by
  show some (bs5 (bs4 (bs3 (bs2 (bs1 (nI b))))) &&& 63) = _
  have h1 := bg1_le b
  have h2 := bg2_le (bg1 b)
  have h3 := bg3_le (bg2 (bg1 b))
  have h4 : bg4 (bg3 (bg2 (bg1 b))) < 2 ^ 32 := by unfold bg4; omega
  rw [bs1_ok (by omega), bs2_ok (by omega), bs3_ok (by omega), bs4_ok (by omega), bs5_ok h4, show (63 : Int32) = nI 63 from rfl, fa_and]
  rfl
def bcChk (b : Nat) : Bool := Nat.beq (bcN b) (popN 15 b)
set_option maxRecDepth 100000 in
theorem bc_0 : ∀ h, h < 64 → ∀ l, l < 128 → bcChk (128 * h + l) = true := by decide +kernel
set_option maxRecDepth 100000 in
theorem bc_1 : ∀ h, h < 64 → ∀ l, l < 128 → bcChk (128 * (64 + h) + l) = true := by decide +kernel
set_option maxRecDepth 100000 in
theorem bc_2 : ∀ h, h < 64 → ∀ l, l < 128 → bcChk (128 * (128 + h) + l) = true := by decide +kernel
set_option maxRecDepth 100000 in
theorem bc_3 : ∀ h, h < 64 → ∀ l, l < 128 → bcChk (128 * (192 + h) + l) = true := by decide +kernel
theorem bc_all {b : Nat} (hb : b < 2 ^ 15) : bcChk b = true := by
  rcases (show b / 128 < 64 ∨ (64 ≤ b / 128 ∧ b / 128 < 128) ∨ (128 ≤ b / 128 ∧ b / 128 < 192) ∨ (192 ≤ b / 128 ∧ b / 128 < 256) by omega) with h | h | h | h
  · have := bc_0 (b / 128) h (b % 128) (by omega)
    rwa [show 128 * (b / 128) + b % 128 = b by omega] at this
  · have := bc_1 (b / 128 - 64) (by omega) (b % 128) (by omega)
    rwa [show 128 * (64 + (b / 128 - 64)) + b % 128 = b by omega] at this
  · have := bc_2 (b / 128 - 128) (by omega) (b % 128) (by omega)
    rwa [show 128 * (128 + (b / 128 - 128)) + b % 128 = b by omega] at this
  · have := bc_3 (b / 128 - 192) (by omega) (b % 128) (by omega)
    rwa [show 128 * (192 + (b / 128 - 192)) + b % 128 = b by omega] at this
theorem bc_ok {b : Nat} (hb : b < 2 ^ 15) : f_J6_bitCount_0f7a4 (nI b) = some (nI (pop b)) := by
  rw [bc_nat hb, pop_of (f := 15) hb (by omega), Nat.eq_of_beq_eq_true (bc_all hb)]
/-- the bits of a row of signs: hits, and signs that were not seen -/
def hb : Nat → (Nat → Int32) → Nat
  | 0, _ => 0
  | n + 1, g => 2 * hb n g + (if g n = 1 then 1 else 0)
def ub : Nat → (Nat → Int32) → Nat
  | 0, _ => 0
  | n + 1, g => 2 * ub n g + (if g n = -1 then 1 else 0)
theorem hb_lt (n : Nat) (g : Nat → Int32) : hb n g < 2 ^ n := by
  induction n with
  | zero => exact Nat.zero_lt_one
  | succ n ih => rw [hb, Nat.pow_succ]; split <;> omega
theorem ub_lt (n : Nat) (g : Nat → Int32) : ub n g < 2 ^ n := by
  induction n with
  | zero => exact Nat.zero_lt_one
  | succ n ih => rw [ub, Nat.pow_succ]; split <;> omega
theorem hb_cong {n : Nat} {g g' : Nat → Int32} (h : ∀ i, i < n → g i = g' i) : hb n g = hb n g' := by
  induction n with
  | zero => rfl
  | succ n ih => rw [hb, hb, ih (fun i hi => h i (by omega)), h n (by omega)]
theorem ub_cong {n : Nat} {g g' : Nat → Int32} (h : ∀ i, i < n → g i = g' i) : ub n g = ub n g' := by
  induction n with
  | zero => rfl
  | succ n ih => rw [ub, ub, ih (fun i hi => h i (by omega)), h n (by omega)]
theorem hb_bit {n i : Nat} (g : Nat → Int32) (h : i < n) : hb n g / 2 ^ (n - 1 - i) % 2 = if g i = 1 then 1 else 0 := by
  induction n with
  | zero => omega
  | succ n ih =>
    by_cases hi : i = n
    · subst hi
      rw [show i + 1 - 1 - i = 0 by omega, Nat.pow_zero, Nat.div_one, hb]
      split <;> omega
    · have h2 : i < n := by omega
      rw [show n + 1 - 1 - i = (n - 1 - i) + 1 by omega, Nat.pow_succ, Nat.mul_comm, ← Nat.div_div_eq_div_mul, hb, show (2 * hb n g + (if g n = 1 then 1 else 0)) / 2 = hb n g by split <;> omega]
      exact ih h2
theorem ub_bit {n i : Nat} (g : Nat → Int32) (h : i < n) : ub n g / 2 ^ (n - 1 - i) % 2 = if g i = -1 then 1 else 0 := by
  induction n with
  | zero => omega
  | succ n ih =>
    by_cases hi : i = n
    · subst hi
      rw [show i + 1 - 1 - i = 0 by omega, Nat.pow_zero, Nat.div_one, ub]
      split <;> omega
    · have h2 : i < n := by omega
      rw [show n + 1 - 1 - i = (n - 1 - i) + 1 by omega, Nat.pow_succ, Nat.mul_comm, ← Nat.div_div_eq_div_mul, ub, show (2 * ub n g + (if g n = -1 then 1 else 0)) / 2 = ub n g by split <;> omega]
      exact ih h2
theorem ub_zero {n : Nat} {g : Nat → Int32} : ub n g = 0 ↔ ∀ i, i < n → ¬ g i = -1 := by
  induction n with
  | zero => exact ⟨fun _ i hi => absurd hi (Nat.not_lt_zero i), fun _ => rfl⟩
  | succ n ih =>
    rw [ub]
    constructor
    · intro h i hi
      by_cases e : i = n
      · subst e
        intro q
        rw [if_pos q] at h
        omega
      · exact ih.mp (by omega) i (by omega)
    · intro h
      rw [if_neg (h n (by omega)), ih.mpr (fun i hi => h i (by omega))]
