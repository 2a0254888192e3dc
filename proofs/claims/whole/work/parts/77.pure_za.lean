/-! pure rows: twice -/
def al (p : Nat → Bool) : Nat → Nat → Bool
  | _, 0 => true
  | i, z + 1 => p i && al p (i + 1) z
theorem al_iff {p : Nat → Bool} : ∀ {z i : Nat}, al p i z = true ↔ ∀ k, i ≤ k → k < i + z → p k = true := by
  intro z
  induction z with
  | zero =>
    intro i
    exact ⟨fun _ k h1 h2 => by omega, fun _ => rfl⟩
  | succ z ih =>
    intro i
    rw [al, Bool.and_eq_true, ih]
    constructor
    · rintro ⟨h1, h2⟩ k h3 h4
      by_cases e : k = i
      · rw [e]; exact h1
      · exact h2 k (by omega) (by omega)
    · intro h
      exact ⟨h i (by omega) (by omega), fun k h1 h2 => h k (by omega) (by omega)⟩
theorem bI_0 : bI false = 0 := rfl
theorem bI_1 : bI true = 1 := rfl
theorem tw132 {N : Nat} {k52 : Int32 → Int32 → Int32 → Int32 → Int32 → Int32 → (Nat → Int32) → (Nat → Int32) → Option (Int32)} {x1 x2 x3 x6 x7 s0 : Int32} {mSizes mSigns : Nat → Int32} {q : Nat} (D : Bool) (hq : q < 60) (e : ((((15 : Int32) * x1) + (x2 / 2)) - 1) - x6 = nI q) : f_X11_twice_132 N k52 x1 x2 x3 (bI D) x6 x7 s0 mSizes mSigns = k52 x1 x2 x3 s0 (bI (D && decide (x7 = mSigns q))) (x6 + 1) mSizes mSigns := by
  unfold f_X11_twice_132 f_X11_twice_166 f_X11_twice_167
  rw [e, gIn_nI hq (by decide), cl_nI (by omega)]
  cases D with
  | false => rw [bI_0, if0_0]; rfl
  | true =>
    rw [bI_1, if1_0]
    by_cases h : x7 = mSigns q
    · rw [if_pos h, decide_eq_true h]; rfl
    · rw [if_neg h, decide_eq_false h]; rfl
theorem tw104 {N : Nat} {k52 : Int32 → Int32 → Int32 → Int32 → Int32 → Int32 → (Nat → Int32) → (Nat → Int32) → Option (Int32)} {x1 x2 x5 x6 x7 s0 : Int32} {mSizes mSigns : Nat → Int32} {q : Nat} (B : Bool) (hq : q < 60) (e : ((15 : Int32) * x1) + x6 = nI q) : f_X11_twice_104 N k52 x1 x2 (bI B) x5 x6 x7 s0 mSizes mSigns = f_X11_twice_132 N k52 x1 x2 s0 x5 x6 x7 (bI (B && decide (¬ x7 = mSigns q))) mSizes mSigns := by
  unfold f_X11_twice_104 f_X11_twice_131
  rw [e, gIn_nI hq (by decide), cl_nI (by omega)]
  cases B with
  | false => rw [bI_0, if0_0]; rfl
  | true =>
    rw [bI_1, if1_0]
    by_cases h : x7 = mSigns q
    · rw [if_pos h, decide_eq_false (fun z => z h)]; rfl
    · rw [if_neg h, decide_eq_true h]; rfl
def tw (a b d : Bool) : Int32 := if a then 1 else if b then 2 else if d then 3 else 0
theorem twM_loop {N r n l : Nat} {mSizes mSigns : Nat → Int32} (hr : r < 4) (hn : n ≤ 15) (hl : n = 2 * l) : ∀ (z i c : Nat) (A B D : Bool), i + z = l → z < c → f_X11_twice_52 N c (nI r) (nI n) (bI A) (bI B) (bI D) (nI i) mSizes mSigns = some (tw (A && al (fun k => decide (mSigns (15 * r + l + k) = mSigns (15 * r + k))) i z) (B && al (fun k => decide (¬ mSigns (15 * r + l + k) = mSigns (15 * r + k))) i z) (D && al (fun k => decide (mSigns (15 * r + l + k) = mSigns (15 * r + (l - 1 - k)))) i z)) := by
  have hd : nI n / 2 = nI l := by
    have := pk_div (a := n) (d := 2) (by omega) (by omega) (by omega)
    rw [show n / 2 = l by omega] at this
    exact this
  intro z
  induction z with
  | zero =>
    intro i c A B D hi hc
    obtain ⟨c, rfl⟩ : ∃ z, c = z + 1 := ⟨c - 1, by omega⟩
    obtain rfl : i = l := by omega
    rw [f_X11_twice_52, hd, if_pos (nI_le (Nat.le_refl _) (by omega))]
    cases A <;> cases B <;> cases D <;> rfl
  | succ z ih =>
    intro i c A B D hi hc
    obtain ⟨c, rfl⟩ : ∃ z, c = z + 1 := ⟨c - 1, by omega⟩
    have e1 : (((15 : Int32) * nI r) + nI l) + nI i = nI (15 * r + l + i) := by rw [mul15 hr (by omega), nI_add]
    have e2 : ((15 : Int32) * nI r) + nI i = nI (15 * r + i) := mul15 hr (by omega)
    have e3 : ((((15 : Int32) * nI r) + (nI n / 2)) - 1) - nI i = nI (15 * r + (l - 1 - i)) := by
      rw [hd, mul15 hr (by omega), nI_sub1 (by omega)]
      exact congrArg nI (by omega)
    rw [f_X11_twice_52, hd, if_neg (nI_ge (by omega) (by omega)), e1, gIn_nI (by omega) (by decide), cl_nI (by omega), e2, gIn_nI (by omega) (by decide), cl_nI (by omega)]
    have step : ∀ s0 : Bool, f_X11_twice_104 N (fun y0 y1 y2 y3 y4 y5 y6 y7 => f_X11_twice_52 N c y0 y1 y2 y3 y4 y5 y6 y7) (nI r) (nI n) (bI B) (bI D) (nI i) (mSigns (15 * r + l + i)) (bI s0) mSizes mSigns = f_X11_twice_52 N c (nI r) (nI n) (bI s0) (bI (B && decide (¬ mSigns (15 * r + l + i) = mSigns (15 * r + i)))) (bI (D && decide (mSigns (15 * r + l + i) = mSigns (15 * r + (l - 1 - i))))) (nI (i + 1)) mSizes mSigns := fun s0 => by
      rw [tw104 (q := 15 * r + i) B (by omega) e2, tw132 (q := 15 * r + (l - 1 - i)) D (by omega) e3, nI_1]
    have all : f_X11_twice_52 N c (nI r) (nI n) (bI (A && decide (mSigns (15 * r + l + i) = mSigns (15 * r + i)))) (bI (B && decide (¬ mSigns (15 * r + l + i) = mSigns (15 * r + i)))) (bI (D && decide (mSigns (15 * r + l + i) = mSigns (15 * r + (l - 1 - i))))) (nI (i + 1)) mSizes mSigns = some (tw (A && al (fun k => decide (mSigns (15 * r + l + k) = mSigns (15 * r + k))) i (z + 1)) (B && al (fun k => decide (¬ mSigns (15 * r + l + k) = mSigns (15 * r + k))) i (z + 1)) (D && al (fun k => decide (mSigns (15 * r + l + k) = mSigns (15 * r + (l - 1 - k)))) i (z + 1))) := by
      rw [ih (i + 1) c _ _ _ (by omega) (by omega), al, al, al, Bool.and_assoc, Bool.and_assoc, Bool.and_assoc]
    rw [← all]
    unfold f_X11_twice_103
    cases A with
    | false => rw [bI_0, if0_0]; exact step false
    | true =>
      rw [bI_1, if1_0]
      by_cases h : mSigns (15 * r + l + i) = mSigns (15 * r + i)
      · rw [if_pos h]
        have := step true
        rw [bI_1] at this
        rw [this, decide_eq_true h]
        rfl
      · rw [if_neg h]
        have := step false
        rw [bI_0] at this
        rw [this, decide_eq_false h]
        rfl
theorem shl1_or {T v : Nat} (hT : T < 2 ^ 15) (hv : v < 2) : (nI T <<< ((1 : Int32) &&& 31)) ||| nI v = nI (2 * T + v) := by
  have h1 : nI T <<< ((1 : Int32) &&& 31) = nI (2 * T) := by
    rw [show (1 : Int32) = nI 1 from rfl, shl_nI (by omega) (by omega), Nat.pow_one, Nat.mul_comm]
  rw [h1]
  exact fa_or_sum (k := 1) T (show v < 2 ^ 1 by omega)
/-- signs read from the last to the first -/
def rvG (a i : Nat) : Int32 := if a / 2 ^ i % 2 = 1 then 1 else 0
theorem back_loop {N a l : Nat} (ha : a < 2 ^ 15) (hl : l ≤ 15) : ∀ (z j c : Nat), j + z = l → z < c → f_X10_backwards_4 N c (nI a) (nI l) (nI (hb j (rvG a))) (nI j) = some (nI (hb l (rvG a))) := by
  intro z
  induction z with
  | zero =>
    intro j c hj hc
    obtain ⟨c, rfl⟩ : ∃ z, c = z + 1 := ⟨c - 1, by omega⟩
    obtain rfl : j = l := by omega
    rw [f_X10_backwards_4, if_pos (nI_le (Nat.le_refl _) (by omega))]
  | succ z ih =>
    intro j c hj hc
    obtain ⟨c, rfl⟩ : ∃ z, c = z + 1 := ⟨c - 1, by omega⟩
    have hH := hb_lt j (rvG a)
    have hp : 2 ^ j ≤ 2 ^ 15 := Nat.pow_le_pow_right (by omega) (by omega)
    rw [f_X10_backwards_4, if_neg (nI_ge (by omega) (by omega)), shr_nI (by omega) (by omega), and1_nI, shl1_or (by omega) (by omega), nI_1]
    have e : 2 * hb j (rvG a) + a / 2 ^ j % 2 = hb (j + 1) (rvG a) := by
      rw [hb, rvG]
      by_cases h : a / 2 ^ j % 2 = 1
      · rw [if_pos h, if_pos rfl, h]
      · rw [if_neg h, if_neg (by decide)]
        omega
    rw [e]
    exact ih (j + 1) c (by omega) (by omega)
theorem hb_tb {n i : Nat} (g : Nat → Int32) (h : i < n) : (hb n g).testBit (n - 1 - i) = decide (g i = 1) := by
  rw [tb_div, hb_bit g h]
  by_cases e : g i = 1
  · rw [if_pos e, decide_eq_true e]; rfl
  · rw [if_neg e, decide_eq_false e]; rfl
theorem ub_tb {n i : Nat} (g : Nat → Int32) (h : i < n) : (ub n g).testBit (n - 1 - i) = decide (g i = -1) := by
  rw [tb_div, ub_bit g h]
  by_cases e : g i = -1
  · rw [if_pos e, decide_eq_true e]; rfl
  · rw [if_neg e, decide_eq_false e]; rfl
/-- two numbers of l bits, sign by sign -/
theorem eq_signs {x y l : Nat} (hx : x < 2 ^ l) (hy : y < 2 ^ l) : x = y ↔ ∀ k, k < l → x.testBit (l - 1 - k) = y.testBit (l - 1 - k) := by
  have m := mod_bits (x := x) (y := y) (l := l)
  rw [Nat.mod_eq_of_lt hx, Nat.mod_eq_of_lt hy] at m
  rw [m]
  constructor
  · intro h k hk
    exact h _ (by omega)
  · intro h i hi
    have := h (l - 1 - i) (by omega)
    rw [show l - 1 - (l - 1 - i) = i by omega] at this
    exact this
theorem sg_eq {a b : Int32} (ha : a = 0 ∨ a = 1) (hb : b = 0 ∨ b = 1) : (decide (a = 1) = decide (b = 1)) ↔ a = b := by
  rcases ha with rfl | rfl <;> rcases hb with rfl | rfl <;> decide
theorem sg_ne {a b : Int32} (ha : a = 0 ∨ a = 1) (hb : b = 0 ∨ b = 1) : (decide (a = 1) = (decide (b = 1) ^^ true)) ↔ ¬ a = b := by
  rcases ha with rfl | rfl <;> rcases hb with rfl | rfl <;> decide
theorem p_twice {N : Nat} (hN : 50 ≤ N) {xLen xHits xUns mSizes mSigns : Nat → Int32} (hR : RRow xLen xHits xUns mSizes mSigns) (x1 : Int32) :
    ∃ o, f_X10_twice N x1 xLen xHits xUns = some o ∧ f_X11_twice N x1 mSizes mSigns = some o := by
  unfold f_X10_twice f_X11_twice
  rcases row_cases x1 with ⟨r, h1, rfl, h2, h3⟩ | ⟨h2, h3⟩
  · obtain ⟨n, h, u, n1, n2, n3, n4, n5, n6, n7, n8, n9, n10, n11, n12, n13⟩ := row_at hR hN h1
    have hp : 2 ^ n ≤ 2 ^ 15 := Nat.pow_le_pow_right (by omega) n1
    have hd : nI n / 2 = nI (n / 2) := pk_div (a := n) (d := 2) (by omega) (by omega) (by omega)
    have hm : nI n - nI (n / 2) * 2 = nI (n % 2) := by
      rw [← hd]
      exact pk_rem (a := n) (d := 2) (by omega) (by omega) (by omega)
    rw [h2, h3, bnd_s, bnd_s, if1_0, if1_0, gIn_nI h1 (by decide), gIn_nI h1 (by decide), cl_nI (by omega), n9, n10, bnd_s, bnd_s]
    by_cases hu : u = 0
    · rw [if_pos hu, if1_0, if1_0, n4, n5, n7, hd, hm]
      by_cases h0 : n = 0
      · subst h0
        rw [if_pos (show nI 0 = 0 from rfl), if_neg (show ¬ nI (0 % 2) = 1 by decide), if_pos (show nI 0 = 0 from rfl)]
        exact ⟨_, rfl, rfl⟩
      rw [if_neg (nI_ne0 (n := n) (by omega) (by omega))]
      by_cases ho : n % 2 = 1
      · rw [ho, if_neg (show ¬ nI 1 = 0 by decide), if_pos (show nI 1 = 1 from rfl)]
        exact ⟨_, rfl, rfl⟩
      rw [show n % 2 = 0 by omega, if_pos (show nI 0 = 0 from rfl), if_neg (show ¬ nI 0 = 1 by decide), if_neg (nI_ne0 (n := n) (by omega) (by omega))]
      obtain ⟨l, hl⟩ : ∃ l, n = 2 * l := ⟨n / 2, by omega⟩
      have hl2 : n / 2 = l := by omega
      have hg : ∀ i, i < n → mSigns (15 * r + i) = 0 ∨ mSigns (15 * r + i) = 1 := fun i hi => by
        have a := n13 i hi
        have b := ub_zero.mp (n12.symm.trans hu) i hi
        rcases a with a | a | a
        · exact absurd a b
        · exact Or.inl a
        · exact Or.inr a
      have hA : h / 2 ^ l < 2 ^ l := by
        rw [Nat.div_lt_iff_lt_mul (Nat.two_pow_pos l), ← Nat.pow_add, show l + l = n by omega]
        exact n2
      have hB : h % 2 ^ l < 2 ^ l := Nat.mod_lt _ (Nat.two_pow_pos l)
      have hq : 2 ^ l ≤ 2 ^ 15 := Nat.pow_le_pow_right (by omega) (by omega)
      have hk := hb_lt l (rvG (h / 2 ^ l))
      have tA : ∀ k, k < l → (h / 2 ^ l).testBit (l - 1 - k) = decide (mSigns (15 * r + k) = 1) := fun k hk => by
        rw [Nat.testBit_div_two_pow, show l - 1 - k + l = n - 1 - k by omega, n11]
        exact hb_tb (fun i => mSigns (15 * r + i)) (by omega)
      have tB : ∀ k, k < l → (h % 2 ^ l).testBit (l - 1 - k) = decide (mSigns (15 * r + l + k) = 1) := fun k hk => by
        rw [Nat.testBit_mod_two_pow, decide_eq_true (show l - 1 - k < l by omega), Bool.true_and, show l - 1 - k = n - 1 - (l + k) by omega, n11]
        have := hb_tb (n := n) (i := l + k) (fun i => mSigns (15 * r + i)) (by omega)
        rw [this, Nat.add_assoc]
      have tC : ∀ k, k < l → (hb l (rvG (h / 2 ^ l))).testBit (l - 1 - k) = decide (mSigns (15 * r + (l - 1 - k)) = 1) := fun k hk => by
        rw [hb_tb (rvG (h / 2 ^ l)) hk, ← tA (l - 1 - k) (by omega), show l - 1 - (l - 1 - k) = k by omega, tb_div, rvG]
        by_cases e : h / 2 ^ l / 2 ^ k % 2 = 1
        · rw [if_pos e, decide_eq_true e]; rfl
        · rw [if_neg e, decide_eq_false e]; rfl
      have c1 : h % 2 ^ l = h / 2 ^ l ↔ al (fun k => decide (mSigns (15 * r + l + k) = mSigns (15 * r + k))) 0 l = true := by
        rw [eq_signs hB hA, al_iff]
        constructor
        · intro q k _ hk
          have := q k (by omega)
          rw [tA k (by omega), tB k (by omega), sg_eq (by rw [Nat.add_assoc]; exact hg _ (by omega)) (hg _ (by omega))] at this
          exact decide_eq_true this
        · intro q k hk
          rw [tA k hk, tB k hk, sg_eq (by rw [Nat.add_assoc]; exact hg _ (by omega)) (hg _ (by omega))]
          exact of_decide_eq_true (q k (by omega) (by omega))
      have c2 : h % 2 ^ l = h / 2 ^ l ^^^ (2 ^ l - 1) ↔ al (fun k => decide (¬ mSigns (15 * r + l + k) = mSigns (15 * r + k))) 0 l = true := by
        have hM : 2 ^ l - 1 < 2 ^ l := by have := Nat.two_pow_pos l; omega
        rw [eq_signs hB (xor_ltp hA hM), al_iff]
        constructor
        · intro q k _ hk
          have := q k (by omega)
          rw [Nat.testBit_xor, Nat.testBit_two_pow_sub_one, decide_eq_true (show l - 1 - k < l by omega), tA k (by omega), tB k (by omega), sg_ne (by rw [Nat.add_assoc]; exact hg _ (by omega)) (hg _ (by omega))] at this
          exact decide_eq_true this
        · intro q k hk
          rw [Nat.testBit_xor, Nat.testBit_two_pow_sub_one, decide_eq_true (show l - 1 - k < l by omega), tA k hk, tB k hk, sg_ne (by rw [Nat.add_assoc]; exact hg _ (by omega)) (hg _ (by omega))]
          exact of_decide_eq_true (q k (by omega) (by omega))
      have c3 : h % 2 ^ l = hb l (rvG (h / 2 ^ l)) ↔ al (fun k => decide (mSigns (15 * r + l + k) = mSigns (15 * r + (l - 1 - k)))) 0 l = true := by
        rw [eq_signs hB hk, al_iff]
        constructor
        · intro q k _ hk
          have := q k (by omega)
          rw [tC k (by omega), tB k (by omega), sg_eq (by rw [Nat.add_assoc]; exact hg _ (by omega)) (hg _ (by omega))] at this
          exact decide_eq_true this
        · intro q k hk
          rw [tC k hk, tB k hk, sg_eq (by rw [Nat.add_assoc]; exact hg _ (by omega)) (hg _ (by omega))]
          exact of_decide_eq_true (q k (by omega) (by omega))
      have bk : f_X10_backwards N (nI (h / 2 ^ l)) (nI l) = some (nI (hb l (rvG (h / 2 ^ l)))) := back_loop (N := N) (by omega) (by omega) l 0 N (by omega) (by omega)
      have hx := xor_ltp hA (show 2 ^ l - 1 < 2 ^ l by have := Nat.two_pow_pos l; omega)
      rw [hl2, mask_of (by omega), mask_nI, shr_nI (by omega) (by omega), fb_xorI, bk, bnd_s]
      have mm := twM_loop (N := N) (mSizes := mSizes) (mSigns := mSigns) h1 n1 hl l 0 N true true true (by omega) (by omega)
      rw [bI_1, Bool.true_and, Bool.true_and, Bool.true_and] at mm
      refine ⟨_, ?_, mm⟩
      unfold tw
      by_cases q1 : h % 2 ^ l = h / 2 ^ l
      · rw [if_pos (congrArg nI q1), if_pos (c1.mp q1)]
      · rw [if_neg (fun e => q1 ((nI_eq (by omega) (by omega)).mp e)), if_neg (fun q => q1 (c1.mpr q))]
        by_cases q2 : h % 2 ^ l = h / 2 ^ l ^^^ (2 ^ l - 1)
        · rw [if_pos (congrArg nI q2), if_pos (c2.mp q2)]
        · rw [if_neg (fun e => q2 ((nI_eq (by omega) (by omega)).mp e)), if_neg (fun q => q2 (c2.mpr q))]
          by_cases q3 : h % 2 ^ l = hb l (rvG (h / 2 ^ l))
          · rw [if_pos (congrArg nI q3), if_pos (c3.mp q3)]
          · rw [if_neg (fun e => q3 ((nI_eq (by omega) (by omega)).mp e)), if_neg (fun q => q3 (c3.mpr q))]
    · rw [if_neg hu, if0_0, if0_0]
      exact ⟨_, rfl, rfl⟩
  · rw [h2, h3, bnd_s, bnd_s, if0_0, if0_0]
    exact ⟨_, rfl, rfl⟩
