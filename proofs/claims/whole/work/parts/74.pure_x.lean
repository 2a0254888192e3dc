/-! pure rows: hot, already -/
theorem ones_iff {x l : Nat} : x % 2 ^ l = 2 ^ l - 1 ↔ ∀ i, i < l → x.testBit i = true := by
  have h0 := Nat.two_pow_pos l
  have e : (2 ^ l - 1) % 2 ^ l = 2 ^ l - 1 := Nat.mod_eq_of_lt (by omega)
  have m := mod_bits (x := x) (y := 2 ^ l - 1) (l := l)
  rw [e] at m
  rw [m]
  constructor
  · intro h i hi
    rw [h i hi, Nat.testBit_two_pow_sub_one]
    exact decide_eq_true hi
  · intro h i hi
    rw [h i hi, Nat.testBit_two_pow_sub_one]
    exact (decide_eq_true hi).symm
/-- place s is behind k hits -/
def bf (b k s : Nat) : Bool := decide (b / 2 ^ (s + 1) % 2 ^ k = 2 ^ k - 1)
theorem bf_iff {b k s : Nat} : bf b k s = true ↔ ∀ i, i < k → b.testBit (i + s + 1) = true := by
  unfold bf
  rw [decide_eq_true_eq, ones_iff]
  constructor
  · intro h i hi
    have := h i hi
    rw [Nat.testBit_div_two_pow] at this
    exact this
  · intro h i hi
    rw [Nat.testBit_div_two_pow]
    exact h i hi
theorem bf_s {b k s : Nat} : bf b (k + 1) s = (bf b k s && b.testBit (k + s + 1)) := by
  rw [Bool.eq_iff_iff, Bool.and_eq_true, bf_iff, bf_iff]
  constructor
  · intro h
    exact ⟨fun i hi => h i (by omega), h k (by omega)⟩
  · rintro ⟨h, h2⟩ i hi
    by_cases e : i = k
    · rw [e]; exact h2
    · exact h i (by omega)
theorem bf_out {n b k s : Nat} (hb : b < 2 ^ n) (hk : 1 ≤ k) (hs : n - k ≤ s) : bf b k s = false := by
  cases h : bf b k s with
  | false => rfl
  | true =>
    rw [bf_iff] at h
    have := h (k - 1) (by omega)
    rw [Nat.testBit_lt_two_pow (Nat.lt_of_lt_of_le hb (Nat.pow_le_pow_right (by omega) (by omega)))] at this
    exact absurd this (by decide)
theorem beh_loop {N n b k : Nat} (hn : n ≤ 15) (hb : b < 2 ^ n) (hk : k ≤ 4) : ∀ (z a c B : Nat), a + z = k → z < c → 1 ≤ a → (∀ s, B.testBit s = bf b a s) → ∃ B', f_X2_behindHits_6 N c (nI b) (nI k) (nI B) (nI (a + 1)) = some (nI B') ∧ ∀ s, B'.testBit s = bf b k s := by
  have hp : 2 ^ n ≤ 2 ^ 15 := Nat.pow_le_pow_right (by omega) hn
  intro z
  induction z with
  | zero =>
    intro a c B ha hc _ h
    obtain ⟨c, rfl⟩ : ∃ z, c = z + 1 := ⟨c - 1, by omega⟩
    obtain rfl : a = k := by omega
    rw [f_X2_behindHits_6, if_pos (nI_lt (by omega) (by omega))]
    exact ⟨B, rfl, h⟩
  | succ z ih =>
    intro a c B ha hc h1 h
    obtain ⟨c, rfl⟩ : ∃ z, c = z + 1 := ⟨c - 1, by omega⟩
    rw [f_X2_behindHits_6, if_neg (nI_nlt (by omega) (by omega)), shr_nI (by omega) (by omega), fa_and, nI_1]
    exact ih (a + 1) c _ (by omega) (by omega) (by omega) (fun s => by
      rw [Nat.testBit_and, Nat.testBit_div_two_pow, h s, bf_s, show s + (a + 1) = a + s + 1 by omega])
theorem behind_X {N n b k : Nat} (hN : 50 ≤ N) (hn : n ≤ 15) (hb : b < 2 ^ n) (hk : 1 ≤ k ∧ k ≤ 4) : f_X2_behindHits N (nI b) (nI k) = some (nI (bn (bf b k) (n - k))) := by
  have hp : 2 ^ n ≤ 2 ^ 15 := Nat.pow_le_pow_right (by omega) hn
  unfold f_X2_behindHits
  rw [shr1_nI (by omega)]
  obtain ⟨B', a1, a2⟩ := beh_loop (N := N) hn hb hk.2 (k - 1) 1 N (b / 2) (by omega) (by omega) (by omega) (fun s => by
    unfold bf
    rw [tb_div, Nat.div_div_eq_div_mul, show 2 * 2 ^ s = 2 ^ (s + 1) by rw [Nat.pow_succ]; omega])
  have : B' = bn (bf b k) (n - k) := by
    apply Nat.eq_of_testBit_eq
    intro s
    rw [a2 s, bn_bit]
    by_cases hs : s < n - k
    · simp [hs]
    · rw [bf_out hb hk.1 (by omega)]
      simp
  rw [← this]
  exact a1
theorem bn_and {n b k : Nat} : bn (bf b k) (n - k) &&& b = bn (fun s => bf b k s && b.testBit s) (n - k) := by
  apply Nat.eq_of_testBit_eq
  intro s
  rw [Nat.testBit_and, bn_bit, bn_bit, Bool.and_assoc]
theorem behM_loop {N n b k : Nat} (hn : n ≤ 15) (hb : b < 2 ^ n) (hk : 1 ≤ k ∧ k ≤ 4) : ∀ (z i c A H : Nat), i + z = n → k ≤ i → z < c → f_X11_behind_20 N c (nI b) (nI n) (nI (2 ^ k - 1)) (nI i) (nI A) (nI H) = some (nI (A + cnt (bf b k) z), nI (H + cnt (fun s => bf b k s && b.testBit s) z)) := by
  have hp : 2 ^ n ≤ 2 ^ 15 := Nat.pow_le_pow_right (by omega) hn
  have hp4 : 2 ^ k ≤ 2 ^ 4 := Nat.pow_le_pow_right (by omega) hk.2
  intro z
  induction z with
  | zero =>
    intro i c A H hi _ hc
    obtain ⟨c, rfl⟩ : ∃ z, c = z + 1 := ⟨c - 1, by omega⟩
    obtain rfl : i = n := by omega
    rw [f_X11_behind_20, if_pos (nI_le (Nat.le_refl _) (by omega))]
    rfl
  | succ z ih =>
    intro i c A H hi hki hc
    obtain ⟨c, rfl⟩ : ∃ z, c = z + 1 := ⟨c - 1, by omega⟩
    have hd : b / 2 ^ (z + 1) % 2 ^ k < 2 ^ k := Nat.mod_lt _ (Nat.two_pow_pos k)
    rw [f_X11_behind_20, if_neg (nI_ge (by omega) (by omega)), pk_sub (by omega), show n - i = z + 1 by omega, shr_nI (by omega) (by omega), mask_nI, nI_sub1 (by omega), show n - 1 - i = z by omega, shr_nI (by omega) (by omega), and1_nI]
    unfold f_X11_behind_69
    rw [nI_1, nI_1, nI_add, cnt_last, cnt_last]
    by_cases h : b / 2 ^ (z + 1) % 2 ^ k = 2 ^ k - 1
    · rw [if_pos (by rw [h])]
      refine (ih (i + 1) c _ _ (by omega) (by omega) (by omega)).trans ?_
      rw [show bf b k z = true from decide_eq_true h, tb_div]
      rcases bit01 (show b / 2 ^ z % 2 < 2 by omega) with e | e
      · rw [e]
        simp
        rw [show A + 1 + cnt (bf b k) z = A + (cnt (bf b k) z + 1) by omega]
      · rw [e]
        simp
        rw [show A + 1 + cnt (bf b k) z = A + (cnt (bf b k) z + 1) by omega, show H + 1 + cnt (fun s => bf b k s && b.testBit s) z = H + (cnt (fun s => bf b k s && b.testBit s) z + 1) by omega]
        exact ⟨rfl, rfl⟩
    · rw [if_neg (fun e => h ((nI_eq (by omega) (by omega)).mp e))]
      refine (ih (i + 1) c _ _ (by omega) (by omega) (by omega)).trans ?_
      rw [show bf b k z = false from decide_eq_false h]
      simp
theorem behind_M {N n b k : Nat} (hN : 50 ≤ N) (hn : n ≤ 15) (hb : b < 2 ^ n) (hk : 1 ≤ k ∧ k ≤ 4) (x y : Int32) : f_X11_behind N (nI b) (nI n) (nI k) x y = some (nI (cnt (bf b k) (n - k)), nI (cnt (fun s => bf b k s && b.testBit s) (n - k))) := by
  unfold f_X11_behind
  rw [mask_of (by omega)]
  by_cases h : k ≤ n
  · have := behM_loop (N := N) hn hb hk (n - k) k N 0 0 (by omega) (by omega) (by omega)
    rw [Nat.zero_add, Nat.zero_add] at this
    exact this
  · obtain ⟨c, rfl⟩ : ∃ z, N = z + 1 := ⟨N - 1, by omega⟩
    rw [f_X11_behind_20, if_pos (nI_le (by omega) (by omega)), show n - k = 0 by omega]
    rfl
theorem isBehind_cases (x : Int32) : (∃ k, (1 ≤ k ∧ k ≤ 4) ∧ x = nI k ∧ f_X11_in x 1 4 = some 1 ∧ f_X10_isBehind x = some 1) ∨ (f_X11_in x 1 4 = some 0 ∧ f_X10_isBehind x = some 0) := by
  unfold f_X10_isBehind
  by_cases h1 : x < 1
  · right
    exact ⟨Min_no (Or.inl h1), by rw [if_pos h1]⟩
  · by_cases h2 : (4 : Int32) < x
    · right
      exact ⟨Min_no (Or.inr h2), by rw [if_neg h1, if_pos h2]⟩
    · left
      obtain ⟨k, k1, k2, k3⟩ := rng_of (x := x) (a := 1) (b := 4) (by decide) (by decide) h1 h2
      exact ⟨k, ⟨k1, k2⟩, k3, Min_yes h1 h2, by rw [if_neg h1, if_neg h2]⟩
theorem cnt_sub {m : Nat} : ∀ {f g : Nat → Bool}, cnt (fun s => f s && g s) m ≤ cnt f m := by
  induction m with
  | zero => intro f g; exact Nat.le_refl 0
  | succ m ih =>
    intro f g
    have := ih (f := f) (g := g)
    rw [cnt_last, cnt_last]
    cases f m <;> cases g m <;> simp <;> omega
theorem pop_bf {n b k : Nat} (hn : n ≤ 15) : pop (bn (bf b k) (n - k)) = cnt (bf b k) (n - k) ∧ pop (bn (bf b k) (n - k) &&& b) = cnt (fun s => bf b k s && b.testBit s) (n - k) ∧ bn (bf b k) (n - k) < 2 ^ 15 ∧ bn (bf b k) (n - k) &&& b < 2 ^ 15 ∧ (bn (bf b k) (n - k) = 0 ↔ cnt (bf b k) (n - k) = 0) ∧ cnt (bf b k) (n - k) ≤ 15 ∧ cnt (fun s => bf b k s && b.testBit s) (n - k) ≤ cnt (bf b k) (n - k) := by
  have h1 := bn_lt (n - k) (bf b k)
  have hp : 2 ^ (n - k) ≤ 2 ^ 15 := Nat.pow_le_pow_right (by omega) (by omega)
  have h2 := pop_bn (m := n - k) (by omega) (bf b k)
  have h3 : bn (bf b k) (n - k) &&& b ≤ bn (bf b k) (n - k) := Nat.and_le_left
  refine ⟨h2, by rw [bn_and]; exact pop_bn (by omega) _, by omega, by omega, ?_, ?_, cnt_sub⟩
  · rw [← h2]
    constructor
    · intro e
      rw [e, pop_0]
    · intro e
      rcases Nat.eq_zero_or_pos (bn (bf b k) (n - k)) with q | q
      · exact q
      · have := pop_pos (K := 15) (s := bn (bf b k) (n - k)) (by omega) q (by omega)
        omega
  · have := cnt_le (n - k) (bf b k)
    omega
theorem p_hot {N : Nat} (hN : 40000 ≤ N) {xLen xHits xUns mSizes mSigns : Nat → Int32} (hR : RRow xLen xHits xUns mSizes mSigns) (x1 x2 x3 ba bh : Int32) :
    ∃ o q, f_X10_hot N x1 x2 x3 xHits xUns = some o ∧ f_X11_hot N x1 x2 x3 mSizes mSigns ba bh = some q ∧ o = q.1 := by
  obtain ⟨v2, e2⟩ := refusal_s (-2)
  obtain ⟨v3, e3⟩ := refusal_s (-3)
  unfold f_X10_hot f_X11_hot
  rw [no_ok, no_ok, e2, e3]
  simp only [bnd_s]
  rcases row_cases x1 with ⟨r, h1, rfl, h2, h3⟩ | ⟨h2, h3⟩
  · obtain ⟨n, h, u, n1, n2, n3, n4, n5, n6, n7, n8, n9, n10, n11, n12, n13⟩ := row_at hR (show 50 ≤ N by omega) h1
    have hp : 2 ^ n ≤ 2 ^ 15 := Nat.pow_le_pow_right (by omega) n1
    rw [h2, h3, bnd_s, bnd_s, if1_0, if1_0]
    rcases isBehind_cases x2 with ⟨k, k1, rfl, k2, k3⟩ | ⟨k2, k3⟩
    · rw [k2, k3, bnd_s, bnd_s, if1_0, if1_0]
      rcases part_cases x3 with ⟨-, w1, w2⟩ | ⟨w1, w2⟩
      · rw [w1, w2, bnd_s, bnd_s, if1_0, if1_0, gIn_nI h1 (by decide), cl_nI (by omega), n9, n10, bnd_s, bnd_s]
        by_cases hu : u = 0
        · obtain ⟨c1, c2, c3, c4, c5, c6, c7⟩ := pop_bf (n := n) (b := h) (k := k) n1
          rw [if_pos hu, if1_0, if1_0, n5, behind_X (by omega) n1 n2 k1, bnd_s, n8, bnd_s, gIn_nI h1 (by decide), n7, behind_M (by omega) n1 n2 k1, bnd_s]
          by_cases hz : cnt (bf h k) (n - k) = 0
          · rw [c5.mpr hz, if_pos (show nI 0 = 0 from rfl), hz, if_pos (show nI 0 = 0 from rfl)]
            exact ⟨_, _, rfl, rfl, rfl⟩
          · have hz2 : ¬ bn (bf h k) (n - k) = 0 := fun q => hz (c5.mp q)
            rw [if_neg (nI_ne0 (by omega) (by omega)), if_neg (nI_ne0 (by omega) (by omega)), fa_and, bc_ok c4, bnd_s, bc_ok c3, bnd_s, c1, c2, nI_l (by omega), nI_l (by omega), part_X (by omega) (by omega) (by omega) (by omega), bnd_s, low_M (by omega) (by omega) (by omega) (by omega), bnd_s]
            exact ⟨_, _, rfl, rfl, rfl⟩
        · rw [if_neg hu, if0_0, if0_0]
          exact ⟨_, _, rfl, rfl, rfl⟩
      · rw [w1, w2, bnd_s, bnd_s, if0_0, if0_0]
        exact ⟨_, _, rfl, rfl, rfl⟩
    · rw [k2, k3, bnd_s, bnd_s, if0_0, if0_0]
      exact ⟨_, _, rfl, rfl, rfl⟩
  · rw [h2, h3, bnd_s, bnd_s, if0_0, if0_0]
    exact ⟨_, _, rfl, rfl, rfl⟩
/-- the heat of a lot, and whether it has one -/
def ht1 (n k b : Nat) : Nat := if cnt (bf b k) (n - k) = 0 then 0 else cnt (fun s => bf b k s && b.testBit s) (n - k) * (360360 / cnt (bf b k) (n - k))
def ht2 (n k b : Nat) : Nat := if cnt (bf b k) (n - k) = 0 then 0 else 1
def hS (n k h z : Nat) : Nat := fb_sm (fun b => if isK h b then ht1 n k b else 0) z
def hV (n k h z : Nat) : Nat := fb_sm (fun b => if isK h b then ht2 n k b else 0) z
theorem ht1_le (n k b : Nat) : ht1 n k b ≤ 360360 := by
  unfold ht1
  split
  · omega
  · have h1 : cnt (fun s => bf b k s && b.testBit s) (n - k) ≤ cnt (bf b k) (n - k) := cnt_sub
    exact Nat.le_trans (Nat.mul_le_mul_right _ h1) (Nat.mul_div_le _ _)
theorem hS_le {n k h : Nat} (z : Nat) : hS n k h z ≤ z * 360360 := fb_sm_bound (fun b _ => by
  show (if isK h b then ht1 n k b else 0) ≤ 360360
  have := ht1_le n k b
  split <;> omega)
theorem hV_le {n k h : Nat} (z : Nat) : hV n k h z ≤ z := by
  have := fb_sm_bound (f := fun b => if isK h b then ht2 n k b else 0) (c := 1) (n := z) (fun b _ => by
    show (if isK h b then ht2 n k b else 0) ≤ 1
    unfold ht2
    repeat' split
    all_goals omega)
  unfold hV
  omega
theorem heat_X {n b k : Nat} (hn : n ≤ 15) (hz : ¬ cnt (bf b k) (n - k) = 0) : f_X2_heat (nI b) (nI (bn (bf b k) (n - k))) = some (lN (ht1 n k b)) := by
  obtain ⟨c1, c2, c3, c4, c5, c6, c7⟩ := pop_bf (n := n) (b := b) (k := k) hn
  unfold f_X2_heat ht1
  rw [bc_ok c3, bnd_s, c1, if_neg (nI_ne0 (by omega) (by omega)), fa_and, bc_ok c4, bnd_s, c2, nI_l (by omega), nI_l (by omega), gNeL_of (lN_ne (by omega) (by omega)), if_neg hz, show (360360 : Int64) = lN 360360 from by decide, pk_lDiv (by omega) (by omega) (by omega), lN_mul]
theorem l_add0 (y : Int64) : y + 0 = y := by simp
/-- the end of both loops -/
def alr (S V : Nat) (v3 : Int64) (x3 : Int32) : Int64 := if V = 0 then v3 else frc S (360360 * V) x3
theorem endX {N S V : Nat} {v3 : Int64} {x3 : Int32} (hN : 200 ≤ N) (hS : S < 2 ^ 62) (hV : V ≤ 2 ^ 15) : (if nI V = 0 then bnd (some v3) (fun o7 => some o7) else bnd (f_X1_part N (lN S) ((nI V).toInt64 * 360360) x3) (fun o5 => some o5)) = some (alr S V v3 x3) := by
  unfold alr
  by_cases h : V = 0
  · subst h
    rw [if_pos (show nI 0 = 0 from rfl), if_pos rfl, bnd_s]
  · rw [if_neg (nI_ne0 (by omega) (by omega)), if_neg h, nI_l (by omega), show (360360 : Int64) = lN 360360 from by decide, lN_mul, part_X hN (by omega) (by omega) (by omega), bnd_s, Nat.mul_comm]
theorem alX_loop {N n k h : Nat} {v3 : Int64} {x3 : Int32} {xLen xHits xUns : Nat → Int32} (hN : 200 ≤ N) (hn : n ≤ 15) (hh : h ≤ n) (hk : 1 ≤ k ∧ k ≤ 4) (e3 : f_X10_refusal (-3) = some v3) : ∀ (z c fu lot : Nat), c + z + 1 = bin n h → z + 1 < fu → LT n h c lot → f_X10_already_72 N fu (nI k) x3 (nI (bin n h)) (nI lot) (nI (hV n k h lot)) (lN (hS n k h lot)) (nI c) xLen xHits xUns = some (alr (hS n k h (2 ^ n)) (hV n k h (2 ^ n)) v3 x3) := by
  have hp : 2 ^ n ≤ 2 ^ 15 := Nat.pow_le_pow_right (by omega) hn
  have s1 := hS_le (n := n) (k := k) (h := h) (2 ^ n)
  have s2 := hV_le (n := n) (k := k) (h := h) (2 ^ n)
  have s3 : 2 ^ n * 360360 ≤ 2 ^ 15 * 360360 := Nat.mul_le_mul_right _ hp
  intro z
  induction z with
  | zero =>
    intro c fu lot hc hf hL
    obtain ⟨fu, rfl⟩ : ∃ z, fu = z + 2 := ⟨fu - 2, by omega⟩
    obtain ⟨b1, b2⟩ := bin_rng hn hh
    obtain ⟨lot', a1, a2⟩ := LT_s hn hL
    obtain ⟨c1, c2, c3, c4, c5, c6, c7⟩ := pop_bf (n := n) (b := lot) (k := k) hn
    rcases a2 with ⟨q, -⟩ | ⟨-, a2⟩
    · omega
    have hs1 : hS n k h (2 ^ n) = hS n k h lot + ht1 n k lot := a2 _
    have hs2 : hV n k h (2 ^ n) = hV n k h lot + ht2 n k lot := a2 _
    have hex : f_X10_already_72 N (fu + 1) (nI k) x3 (nI (bin n h)) (nI lot') (nI (hV n k h (2 ^ n))) (lN (hS n k h (2 ^ n))) (nI (c + 1)) xLen xHits xUns = some (alr (hS n k h (2 ^ n)) (hV n k h (2 ^ n)) v3 x3) := by
      rw [f_X10_already_72, if_pos (nI_le (by omega) (by omega)), e3]
      exact endX hN (by omega) (by omega)
    rw [f_X10_already_72, if_neg (nI_ge (by omega) (by omega)), behind_X (by omega) hn hL.2.1 hk, bnd_s]
    unfold f_X10_already_107
    rw [a1, bnd_s, nI_1, nI_1]
    by_cases hz : cnt (bf lot k) (n - k) = 0
    · rw [if_pos (show nI (bn (bf lot k) (n - k)) = 0 by rw [c5.mpr hz]; rfl)]
      rw [show ht1 n k lot = 0 by unfold ht1; rw [if_pos hz]] at hs1
      rw [show ht2 n k lot = 0 by unfold ht2; rw [if_pos hz]] at hs2
      rw [Nat.add_zero] at hs1 hs2
      rw [← hs1, ← hs2]
      exact hex
    · have hz2 : ¬ bn (bf lot k) (n - k) = 0 := fun q => hz (c5.mp q)
      rw [if_neg (nI_ne0 (by omega) (by omega)), heat_X hn hz, bnd_s, lN_add, ← hs1]
      rw [show ht2 n k lot = 1 by unfold ht2; rw [if_neg hz]] at hs2
      rw [← hs2]
      exact hex
  | succ z ih =>
    intro c fu lot hc hf hL
    obtain ⟨fu, rfl⟩ : ∃ z, fu = z + 1 := ⟨fu - 1, by omega⟩
    obtain ⟨b1, b2⟩ := bin_rng hn hh
    obtain ⟨lot', a1, a2⟩ := LT_s hn hL
    obtain ⟨c1, c2, c3, c4, c5, c6, c7⟩ := pop_bf (n := n) (b := lot) (k := k) hn
    rcases a2 with ⟨-, a3, a2⟩ | ⟨q, -⟩
    rotate_left
    · omega
    have hs1 : hS n k h lot' = hS n k h lot + ht1 n k lot := a2 _
    have hs2 : hV n k h lot' = hV n k h lot + ht2 n k lot := a2 _
    have hex := ih (c + 1) fu lot' (by omega) (by omega) a3
    rw [f_X10_already_72, if_neg (nI_ge (by omega) (by omega)), behind_X (by omega) hn hL.2.1 hk, bnd_s]
    unfold f_X10_already_107
    rw [a1, bnd_s, nI_1, nI_1]
    by_cases hz : cnt (bf lot k) (n - k) = 0
    · rw [if_pos (show nI (bn (bf lot k) (n - k)) = 0 by rw [c5.mpr hz]; rfl)]
      rw [show ht1 n k lot = 0 by unfold ht1; rw [if_pos hz]] at hs1
      rw [show ht2 n k lot = 0 by unfold ht2; rw [if_pos hz]] at hs2
      rw [Nat.add_zero] at hs1 hs2
      rw [← hs1, ← hs2]
      exact hex
    · have hz2 : ¬ bn (bf lot k) (n - k) = 0 := fun q => hz (c5.mp q)
      rw [if_neg (nI_ne0 (by omega) (by omega)), heat_X hn hz, bnd_s, lN_add, ← hs1]
      rw [show ht2 n k lot = 1 by unfold ht2; rw [if_neg hz]] at hs2
      rw [← hs2]
      exact hex
theorem alM_loop {N r n k h : Nat} {v3 : Int64} {x3 : Int32} {mSizes mSigns : Nat → Int32} (hN : 40000 ≤ N) (hr : r < 4) (hn : n ≤ 15) (hh : h ≤ n) (hk : 1 ≤ k ∧ k ≤ 4) (e1 : mSizes r = nI n) (e3 : f_X11_no (-3) = some v3) : ∀ (z j c : Nat) (ba bh : Int32), j + z = 2 ^ n → z < c → ∃ q, f_X11_already_64 N c (nI r) (nI k) x3 (nI h) (lN (hS n k h j)) (lN (hV n k h j)) (nI j) mSizes mSigns ba bh = some q ∧ q.1 = alr (hS n k h (2 ^ n)) (hV n k h (2 ^ n)) v3 x3 := by
  have hp : 2 ^ n ≤ 2 ^ 15 := Nat.pow_le_pow_right (by omega) hn
  have s1 := hS_le (n := n) (k := k) (h := h) (2 ^ n)
  have s2 := hV_le (n := n) (k := k) (h := h) (2 ^ n)
  have s3 : 2 ^ n * 360360 ≤ 2 ^ 15 * 360360 := Nat.mul_le_mul_right _ hp
  intro z
  induction z with
  | zero =>
    intro j c ba bh hj hc
    obtain ⟨c, rfl⟩ : ∃ z, c = z + 1 := ⟨c - 1, by omega⟩
    obtain rfl : j = 2 ^ n := by omega
    rw [f_X11_already_64, gIn_nI hr (by decide), cl_nI (by omega), e1, one_shl (by omega), if_pos (nI_le (Nat.le_refl _) (by omega)), e3]
    unfold alr
    by_cases hz : hV n k h (2 ^ n) = 0
    · rw [if_pos ((lgc0 (by omega)).mpr hz), if_pos hz, bnd_s]
      exact ⟨_, rfl, rfl⟩
    · rw [if_neg (fun q => hz ((lgc0 (by omega)).mp q)), if_neg hz, show (360360 : Int64) = lN 360360 from by decide, lN_mul, low_M (by omega) (by omega) (by omega) (by omega), bnd_s]
      exact ⟨_, rfl, rfl⟩
  | succ z ih =>
    intro j c ba bh hj hc
    obtain ⟨c, rfl⟩ : ∃ z, c = z + 1 := ⟨c - 1, by omega⟩
    obtain ⟨c1, c2, c3, c4, c5, c6, c7⟩ := pop_bf (n := n) (b := j) (k := k) hn
    have hs1 : hS n k h (j + 1) = hS n k h j + (if isK h j then ht1 n k j else 0) := fb_sm_succ _ j
    have hs2 : hV n k h (j + 1) = hV n k h j + (if isK h j then ht2 n k j else 0) := fb_sm_succ _ j
    have hi := ih (j + 1) c
    rw [hs1, hs2] at hi
    have hpj := pop_le j
    rw [f_X11_already_64, gIn_nI hr (by decide), cl_nI (by omega), e1, one_shl (by omega), if_neg (nI_ge (by omega) (by omega)), ones_ok (by omega) (by omega), bnd_s, show popN 16 j = pop j from rfl]
    unfold f_X11_already_128 f_X11_already_145 f_X11_already_148
    rw [nI_1]
    by_cases q0 : pop j = h
    · rw [if_pos (show nI (pop j) = nI h by rw [q0]), behind_M (by omega) hn (by omega) hk, bnd_s]
      rw [show isK h j = true from decide_eq_true q0] at hi
      simp only [if_true] at hi
      unfold ht1 ht2 at hi
      by_cases hz : cnt (bf j k) (n - k) = 0
      · rw [if_pos hz, if_pos hz] at hi
        rw [hz, if_pos (show nI 0 = 0 from rfl), if_pos (show nI 0 = 0 from rfl), l_add0, l_add0]
        exact hi _ _ (by omega) (by omega)
      · rw [if_neg hz, if_neg hz] at hi
        rw [if_neg (nI_ne0 (by omega) (by omega)), if_neg (nI_ne0 (by omega) (by omega)), nI_l (by omega), nI_l (by omega), gNeL_of (lN_ne (by omega) (by omega)), show (360360 : Int64) = lN 360360 from by decide, pk_lDiv (by omega) (by omega) (by omega), lN_mul, lN_add, lN_1]
        exact hi _ _ (by omega) (by omega)
    · rw [if_neg (fun e => q0 ((nI_eq (by omega) (by omega)).mp e))]
      rw [show isK h j = false from decide_eq_false q0] at hi
      exact hi _ _ (by omega) (by omega)
theorem sm_low {n k : Nat} (hn : n ≤ 15) (hk : k ≤ n) (F : Nat → Nat) : fb_sm (fun b => if isK k b then F b else 0) (2 ^ k - 1) = 0 := by
  obtain ⟨-, -, a⟩ := LT_0 hn hk
  rw [fb_ct_zero] at a
  have := sm_gap (f := fun b => if isK k b then F b else 0) (a := 0) (2 ^ k - 1) (fun y _ y2 => by
    show (if isK k y then _ else 0) = 0
    rw [a y (by omega)]
    rfl)
  rw [Nat.zero_add] at this
  exact this
theorem p_already {N : Nat} (hN : 40000 ≤ N) {xLen xHits xUns mSizes mSigns : Nat → Int32} (hR : RRow xLen xHits xUns mSizes mSigns) (x1 x2 x3 ba bh : Int32) :
    ∃ o q, f_X10_already N x1 x2 x3 xLen xHits xUns = some o ∧ f_X11_already N x1 x2 x3 mSizes mSigns ba bh = some q ∧ o = q.1 := by
  obtain ⟨v2, e2⟩ := refusal_s (-2)
  obtain ⟨v3, e3⟩ := refusal_s (-3)
  unfold f_X10_already f_X11_already
  rw [no_ok, no_ok, e2, e3]
  simp only [bnd_s]
  rcases row_cases x1 with ⟨r, h1, rfl, h2, h3⟩ | ⟨h2, h3⟩
  · obtain ⟨n, h, u, n1, n2, n3, n4, n5, n6, n7, n8, n9, n10, n11, n12, n13⟩ := row_at hR (show 50 ≤ N by omega) h1
    have hp : 2 ^ n ≤ 2 ^ 15 := Nat.pow_le_pow_right (by omega) n1
    rw [h2, h3, bnd_s, bnd_s, if1_0, if1_0]
    rcases isBehind_cases x2 with ⟨k, k1, rfl, k2, k3⟩ | ⟨k2, k3⟩
    · rw [k2, k3, bnd_s, bnd_s, if1_0, if1_0]
      rcases part_cases x3 with ⟨-, w1, w2⟩ | ⟨w1, w2⟩
      · rw [w1, w2, bnd_s, bnd_s, if1_0, if1_0, gIn_nI h1 (by decide), cl_nI (by omega), n9, n10, bnd_s, bnd_s]
        by_cases hu : u = 0
        · have hk := pop_len n1 n2
          obtain ⟨b1, b2⟩ := bin_rng n1 hk
          rw [if_pos hu, if1_0, if1_0, many_X (by omega) n1 n2 n4 n5, bnd_s, low_X n1 n2 n5, bnd_s, n8, bnd_s, ones_ok (by omega) (by omega), bnd_s, show popN 16 h = pop h from rfl]
          have a := alX_loop (N := N) (x3 := x3) (xLen := xLen) (xHits := xHits) (xUns := xUns) (by omega) n1 hk k1 e3 (bin n (pop h) - 1) 0 N _ (by omega) (by omega) (LT_0 n1 hk)
          rw [show hV n k (pop h) (2 ^ pop h - 1) = 0 from sm_low n1 hk _, show hS n k (pop h) (2 ^ pop h - 1) = 0 from sm_low n1 hk _] at a
          obtain ⟨q, b, b2⟩ := alM_loop (x3 := x3) (mSigns := mSigns) hN h1 n1 hk k1 n7 ((no_ok (-3)).trans e3) (2 ^ n) 0 N ba bh (by omega) (by omega)
          exact ⟨_, q, a, b, b2.symm⟩
        · rw [if_neg hu, if0_0, if0_0]
          exact ⟨_, _, rfl, rfl, rfl⟩
      · rw [w1, w2, bnd_s, bnd_s, if0_0, if0_0]
        exact ⟨_, _, rfl, rfl, rfl⟩
    · rw [k2, k3, bnd_s, bnd_s, if0_0, if0_0]
      exact ⟨_, _, rfl, rfl, rfl⟩
  · rw [h2, h3, bnd_s, bnd_s, if0_0, if0_0]
    exact ⟨_, _, rfl, rfl, rfl⟩
