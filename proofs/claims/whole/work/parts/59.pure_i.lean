/-! pure rows: how often a pattern stands in a row; all the numbers -/
theorem mod_bits {x y l : Nat} : (x % 2 ^ l = y % 2 ^ l) ↔ ∀ i, i < l → x.testBit i = y.testBit i := by
  constructor
  · intro h i hi
    have h1 := Nat.testBit_mod_two_pow x l i
    have h2 := Nat.testBit_mod_two_pow y l i
    rw [h] at h1
    rw [h1] at h2
    simpa [hi] using h2
  · intro h
    apply Nat.eq_of_testBit_eq
    intro i
    rw [Nat.testBit_mod_two_pow, Nat.testBit_mod_two_pow]
    by_cases hi : i < l
    · rw [h i hi]
    · simp [hi]
def tim (T n b : Nat) : Nat := if len T ≤ n then cnt (fun s => decide (b / 2 ^ s % 2 ^ len T = T % 2 ^ len T)) (n - len T + 1) else 0
theorem stand_loop {N T n b l : Nat} {pt : Int32} (hn : n ≤ 15) (hb : b < 2 ^ n) (hl : l = len T) (hln : l ≤ n) (h6 : l ≤ 6) : ∀ (m i c acc : Nat), i + m = n - l + 1 → m < c → f_X11_standing_24 N c (nI b) (nI n) (nI l) (nI (T % 2 ^ l)) (nI acc) (nI i) pt = some (nI (acc + cnt (fun s => decide (b / 2 ^ s % 2 ^ l = T % 2 ^ l)) m)) := by
  have hp : 2 ^ n ≤ 2 ^ 15 := Nat.pow_le_pow_right (by omega) hn
  have hp6 : 2 ^ l ≤ 2 ^ 6 := Nat.pow_le_pow_right (by omega) h6
  intro m
  induction m with
  | zero =>
    intro i c acc hi hc
    obtain ⟨c, rfl⟩ : ∃ z, c = z + 1 := ⟨c - 1, by omega⟩
    rw [f_X11_standing_24, nI_add, if_pos (nI_lt (by omega) (by omega))]
    rfl
  | succ m ih =>
    intro i c acc hi hc
    obtain ⟨c, rfl⟩ : ∃ z, c = z + 1 := ⟨c - 1, by omega⟩
    have hT := Nat.mod_lt T (Nat.two_pow_pos l)
    have hB := Nat.mod_lt (b / 2 ^ m) (Nat.two_pow_pos l)
    rw [f_X11_standing_24, nI_add, if_neg (nI_nlt (by omega) (by omega)), pk_sub hln, pk_sub (by omega), show n - l - i = m by omega, shr_nI (by omega) (by omega), mask_of (by omega), mask_nI, cnt_last]
    unfold f_X11_standing_58
    rw [show nI i + 1 = nI (i + 1) from nI_1 i]
    by_cases h : b / 2 ^ m % 2 ^ l = T % 2 ^ l
    · rw [if_pos (show nI (b / 2 ^ m % 2 ^ l) = nI (T % 2 ^ l) by rw [h]), show nI acc + 1 = nI (acc + 1) from nI_1 acc]
      refine (ih (i + 1) c (acc + 1) (by omega) (by omega)).trans ?_
      rw [if_pos (by simpa using h), show acc + 1 + cnt (fun s => decide (b / 2 ^ s % 2 ^ l = T % 2 ^ l)) m = acc + (cnt (fun s => decide (b / 2 ^ s % 2 ^ l = T % 2 ^ l)) m + 1) by omega]
    · rw [if_neg (show ¬ nI (b / 2 ^ m % 2 ^ l) = nI (T % 2 ^ l) from fun q => h ((nI_eq (by omega) (by omega)).mp q)), show nI acc + 0 = nI acc from nI_add acc 0]
      refine (ih (i + 1) c acc (by omega) (by omega)).trans ?_
      rw [if_neg (by simpa using h), Nat.add_zero]
theorem stand_M {N T n b : Nat} (hN : 50 ≤ N) (hT : 2 ≤ T ∧ T < 128) (hn : n ≤ 15) (hb : b < 2 ^ n) : f_X11_standing N (nI b) (nI n) (nI T) = some (nI (tim T n b)) := by
  obtain ⟨l1, l2, l3, l4⟩ := len_all T hT.2 hT.1
  unfold f_X11_standing tim
  have hm : T % 2 ^ len T = T - 2 ^ len T := by
    rw [Nat.pow_succ] at l4
    rw [Nat.mod_eq_sub_mod l3]
    exact Nat.mod_eq_of_lt (by omega)
  rw [len_M hN hT.2, bnd_s, one_shl (by omega), pk_sub l3, ← hm]
  by_cases h : len T ≤ n
  · rw [if_pos h]
    have := stand_loop (N := N) (pt := nI T) hn hb rfl h l2 (n - len T + 1) 0 N 0 (by omega) (by omega)
    rw [Nat.zero_add] at this
    exact this
  · obtain ⟨N, rfl⟩ : ∃ z, N = z + 1 := ⟨N - 1, by omega⟩
    rw [if_neg h, f_X11_standing_24, show (0 : Int32) = nI 0 from rfl, nI_add, if_pos (nI_lt (by omega) (by omega))]
theorem ones_bit {s : Nat} (h : s < 32) : (2 ^ 32 - 1).testBit s = true := by rw [Nat.testBit_two_pow_sub_one]; simpa using h
theorem times_loop {N T n b l : Nat} (hn : n ≤ 15) (hb : b < 2 ^ n) (hln : l ≤ n) (h6 : l ≤ 6) (h1 : 1 ≤ l) (hT : T < 128) : ∀ (m i c : Nat), i + m = l → m < c → f_X4_timesIn_26 N c (nI T) (nI b) (nI l) (nI (bn (fun s => decide (b / 2 ^ s % 2 ^ i = T % 2 ^ i)) (n - l + 1))) (nI i) = some (nI (cnt (fun s => decide (b / 2 ^ s % 2 ^ l = T % 2 ^ l)) (n - l + 1))) := by
  have hp : 2 ^ n ≤ 2 ^ 15 := Nat.pow_le_pow_right (by omega) hn
  have hp2 : 2 ^ (n - l + 1) ≤ 2 ^ 15 := Nat.pow_le_pow_right (by omega) (by omega)
  intro m
  induction m with
  | zero =>
    intro i c hi hc
    obtain ⟨c, rfl⟩ : ∃ z, c = z + 1 := ⟨c - 1, by omega⟩
    obtain rfl : i = l := by omega
    have hbn := bn_lt (n - i + 1) (fun s => decide (b / 2 ^ s % 2 ^ i = T % 2 ^ i))
    rw [f_X4_timesIn_26, if_pos (nI_le (Nat.le_refl i) (by omega)), bc_ok (by omega), bnd_s, pop_bn (by omega)]
  | succ m ih =>
    intro i c hi hc
    obtain ⟨c, rfl⟩ : ∃ z, c = z + 1 := ⟨c - 1, by omega⟩
    have hTi : T / 2 ^ i ≤ T := Nat.div_le_self _ _
    have hbi : b / 2 ^ i ≤ b := Nat.div_le_self _ _
    have tb : ∀ x i : Nat, x.testBit i = decide (x / 2 ^ i % 2 = 1) := fun x i => by
      rw [Nat.testBit, Nat.shiftRight_eq_div_pow, Nat.one_and_eq_mod_two]
      rcases bit01 (show x / 2 ^ i % 2 < 2 by omega) with e | e <;> rw [e] <;> rfl
    have step : ∀ s, s < n - l + 1 → decide (b / 2 ^ s % 2 ^ (i + 1) = T % 2 ^ (i + 1)) = (decide (b / 2 ^ s % 2 ^ i = T % 2 ^ i) && (b.testBit (s + i) == T.testBit i)) := by
      intro s hs
      rw [Bool.eq_iff_iff]
      simp only [decide_eq_true_eq, Bool.and_eq_true, beq_iff_eq]
      rw [mod_bits, mod_bits]
      constructor
      · intro h
        refine ⟨fun j hj => h j (by omega), ?_⟩
        have := h i (by omega)
        rw [Nat.testBit_div_two_pow] at this
        rw [show s + i = i + s by omega]
        exact this
      · rintro ⟨h, h2⟩ j hj
        by_cases e : j = i
        · subst e
          rw [Nat.testBit_div_two_pow, show j + s = s + j by omega]
          exact h2
        · exact h j (by omega)
    rw [f_X4_timesIn_26, if_neg (nI_ge (by omega) (by omega)), shr_nI (by omega) (by omega), shr_nI (by omega) (by omega), and1_nI]
    unfold f_X4_timesIn_59
    rw [show nI i + 1 = nI (i + 1) from nI_1 i]
    by_cases h : T / 2 ^ i % 2 = 1
    · rw [if_pos (show nI (T / 2 ^ i % 2) = 1 by rw [h]; rfl), fa_and, ← ih (i + 1) c (by omega) (by omega)]
      have : bn (fun s => decide (b / 2 ^ s % 2 ^ i = T % 2 ^ i)) (n - l + 1) &&& b / 2 ^ i = bn (fun s => decide (b / 2 ^ s % 2 ^ (i + 1) = T % 2 ^ (i + 1))) (n - l + 1) := by
        apply Nat.eq_of_testBit_eq
        intro s
        rw [Nat.testBit_and, bn_bit, bn_bit, Nat.testBit_div_two_pow]
        by_cases hs : s < n - l + 1
        · rw [step s hs, tb T i, h, show s + i = i + s by omega]
          simp [hs]
        · simp [hs]
      rw [this]
    · rw [if_neg (show ¬ nI (T / 2 ^ i % 2) = 1 from fun q => h ((nI_eq (b := 1) (by omega) (by omega)).mp q)), m1_nI, fb_xorI, fa_and, ← ih (i + 1) c (by omega) (by omega)]
      have : bn (fun s => decide (b / 2 ^ s % 2 ^ i = T % 2 ^ i)) (n - l + 1) &&& (b / 2 ^ i ^^^ (2 ^ 32 - 1)) = bn (fun s => decide (b / 2 ^ s % 2 ^ (i + 1) = T % 2 ^ (i + 1))) (n - l + 1) := by
        apply Nat.eq_of_testBit_eq
        intro s
        rw [Nat.testBit_and, Nat.testBit_xor, bn_bit, bn_bit, Nat.testBit_div_two_pow]
        by_cases hs : s < n - l + 1
        · rw [step s hs, tb T i, ones_bit (by omega), show s + i = i + s by omega]
          simp [hs, h]
        · simp [hs]
      rw [this]
theorem times_X {N T n b : Nat} (hN : 50 ≤ N) (hT : 2 ≤ T ∧ T < 128) (hn : n ≤ 15) (hb : b < 2 ^ n) : f_X4_timesIn N (nI T) (nI n) (nI b) = some (nI (tim T n b)) := by
  obtain ⟨l1, l2, l3, l4⟩ := len_all T hT.2 hT.1
  unfold f_X4_timesIn tim
  rw [len_X hN hT.2, bnd_s]
  by_cases h : len T ≤ n
  · rw [if_pos (nI_le h (by omega)), if_pos h, pk_sub h, nI_1, mask_of (by omega)]
    have := times_loop (N := N) hn hb h l2 l1 hT.2 (len T) 0 N (by omega) (by omega)
    rw [bn_cong (g := fun _ => true) (fun s _ => by simp [Nat.mod_one]), bn_ones] at this
    exact this
  · rw [if_neg (nI_ge (by omega) (by omega)), if_neg h]
    rfl
/-- a number of a row (0 o to 6 p) -/
def num (w n b T : Nat) : Nat := if w = 0 then pop b else if w = 6 then tim T n b else num5 w n b
theorem num_M6 {N w n b T : Nat} (hN : 50 ≤ N) (hw : w ≤ 6) (hT : 2 ≤ T ∧ T < 128) (hn : n ≤ 15) (hb : b < 2 ^ n) : f_X11_numberOf N (nI b) (nI n) (nI w) (nI T) = some (nI (num w n b T)) := by
  have hp : 2 ^ n ≤ 2 ^ 15 := Nat.pow_le_pow_right (by omega) hn
  unfold num
  by_cases h0 : w = 0
  · subst h0
    unfold f_X11_numberOf
    rw [if_pos rfl, if_pos (show nI 0 = 0 from rfl), ones_ok (by omega) (by omega), bnd_s]
    rfl
  · rw [if_neg h0]
    by_cases h6 : w = 6
    · subst h6
      unfold f_X11_numberOf
      rw [if_pos rfl, if_neg (show ¬ nI 6 = 0 by decide), if_pos (show nI 6 = 6 from rfl), stand_M hN hT hn hb, bnd_s]
    · rw [if_neg h6]
      exact num_M hN hn hb (by omega)
theorem num_X6 {N w n b T : Nat} (hN : 50 ≤ N) (hw : w ≤ 6) (hT : 2 ≤ T ∧ T < 128) (hn : n ≤ 15) (hb : b < 2 ^ n) : f_X3_measure N (nI w) (nI n) (nI b) (nI T) = some (nI (num w n b T)) := by
  have hp : 2 ^ n ≤ 2 ^ 15 := Nat.pow_le_pow_right (by omega) hn
  have hg := gA_le b
  have hcl := cpl_lt n b
  have hand : b &&& b / 2 < 2 ^ 15 := by
    have : b &&& b / 2 ≤ b / 2 := Nat.and_le_right
    omega
  unfold f_X3_measure
  rcases (show w = 0 ∨ w = 1 ∨ w = 2 ∨ w = 3 ∨ w = 4 ∨ w = 5 ∨ w = 6 by omega) with rfl | rfl | rfl | rfl | rfl | rfl | rfl
  · refine Eq.trans ?_ (show some (nI (pop b)) = some (nI (num 0 n b T)) from rfl)
    rw [if_pos (show nI 0 = 0 from rfl), bc_ok (by omega), bnd_s]
  · refine Eq.trans ?_ (show some (nI (rnN n b)) = some (nI (num 1 n b T)) from rfl)
    rw [if_neg (show ¬ nI 1 = 0 by decide), if_pos (show nI 1 = 1 from rfl), runs_X hn hb, bnd_s]
  · have l1 := lr_le b
    have l2 := lr_le (cpl n b)
    refine Eq.trans ?_ (show some (nI (max (lr b) (lr (cpl n b)))) = some (nI (num 2 n b T)) from rfl)
    rw [if_neg (show ¬ nI 2 = 0 by decide), if_neg (show ¬ nI 2 = 1 by decide), if_pos (show nI 2 = 2 from rfl), lr_X hN (by omega), bnd_s, not_nI hn hb, lr_X hN (by omega), bnd_s]
    by_cases hc : lr b < lr (cpl n b)
    · rw [if_pos (nI_lt hc (by omega)), Nat.max_eq_right (by omega)]
    · rw [if_neg (nI_nlt (by omega) (by omega)), Nat.max_eq_left (by omega)]
  · refine Eq.trans ?_ (show some (nI (lr b)) = some (nI (num 3 n b T)) from rfl)
    rw [if_neg (show ¬ nI 3 = 0 by decide), if_neg (show ¬ nI 3 = 1 by decide), if_neg (show ¬ nI 3 = 2 by decide), if_pos (show nI 3 = 3 from rfl), lr_X hN (by omega), bnd_s]
  · refine Eq.trans ?_ (show some (nI (pop (gA b))) = some (nI (num 4 n b T)) from rfl)
    rw [if_neg (show ¬ nI 4 = 0 by decide), if_neg (show ¬ nI 4 = 1 by decide), if_neg (show ¬ nI 4 = 2 by decide), if_neg (show ¬ nI 4 = 3 by decide), if_pos (show nI 4 = 4 from rfl), shr1_nI (by omega), fa_and, bc_ok hand, bnd_s]
    rfl
  · refine Eq.trans ?_ (show some (nI (ffN (sb n b) n)) = some (nI (num 5 n b T)) from rfl)
    have h := first_X_loop (N := N) hn hb n 0 N (by omega) (by omega) rfl
    rw [if_neg (show ¬ nI 5 = 0 by decide), if_neg (show ¬ nI 5 = 1 by decide), if_neg (show ¬ nI 5 = 2 by decide), if_neg (show ¬ nI 5 = 3 by decide), if_neg (show ¬ nI 5 = 4 by decide), if_pos (show nI 5 = 5 from rfl), show f_X3_firstHit N (nI n) (nI b) = some (nI (ffN (sb n b) n)) from h, bnd_s]
  · refine Eq.trans ?_ (show some (nI (tim T n b)) = some (nI (num 6 n b T)) from rfl)
    rw [if_neg (show ¬ nI 6 = 0 by decide), if_neg (show ¬ nI 6 = 1 by decide), if_neg (show ¬ nI 6 = 2 by decide), if_neg (show ¬ nI 6 = 3 by decide), if_neg (show ¬ nI 6 = 4 by decide), if_neg (show ¬ nI 6 = 5 by decide), times_X hN hT hn hb, bnd_s]
