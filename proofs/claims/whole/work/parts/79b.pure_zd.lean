/-! pure rows: first -/
def stL (a b la lb : Nat) : Nat → Nat → Bool
  | 0, _ => false
  | z + 1, i => if lb < i + la then false else if b / 2 ^ (lb - la - i) % 2 ^ la = a % 2 ^ la then true else stL a b la lb z (i + 1)
def stB (a b : Nat) : Bool := stL a b (len a) (len b) 7 0
theorem stM_loop {N a b la lb : Nat} (ha : a < 128) (hb : b < 128) (h1 : 1 ≤ la) (h2 : la ≤ 6) (h3 : lb ≤ 6) : ∀ (z i c : Nat), i + z = 7 → z < c → f_X11_stands_13 N c (nI a) (nI b) (nI la) (nI lb) (nI i) = some (bI (stL a b la lb z i)) := by
  intro z
  induction z with
  | zero =>
    intro i c hi hc
    obtain ⟨c, rfl⟩ : ∃ z, c = z + 1 := ⟨c - 1, by omega⟩
    rw [f_X11_stands_13, nI_add, if_pos (nI_lt (by omega) (by omega))]
    rfl
  | succ z ih =>
    intro i c hi hc
    obtain ⟨c, rfl⟩ : ∃ z, c = z + 1 := ⟨c - 1, by omega⟩
    rw [f_X11_stands_13, nI_add, stL]
    by_cases h : lb < i + la
    · rw [if_pos (nI_lt h (by omega)), if_pos h]
      rfl
    · have hm1 : b / 2 ^ (lb - la - i) % 2 ^ la < 2 ^ 31 := Nat.lt_of_le_of_lt (Nat.le_trans (Nat.mod_le _ _) (Nat.div_le_self _ _)) (by omega)
      have hm2 : a % 2 ^ la < 2 ^ 31 := Nat.lt_of_le_of_lt (Nat.mod_le _ _) (by omega)
      rw [if_neg (nI_nlt (by omega) (by omega)), if_neg h, pk_sub (by omega), pk_sub (by omega), shr_nI (by omega) (by omega), mask_of (by omega), mask_nI, mask_nI, nI_1]
      by_cases q : b / 2 ^ (lb - la - i) % 2 ^ la = a % 2 ^ la
      · rw [if_pos (congrArg nI q), if_pos q]
        rfl
      · rw [if_neg (fun e => q ((nI_eq hm1 hm2).mp e)), if_neg q]
        exact ih (i + 1) c (by omega) (by omega)
theorem st_M {N a b : Nat} (hN : 50 ≤ N) (ha : 2 ≤ a ∧ a < 128) (hb : 2 ≤ b ∧ b < 128) : f_X11_stands N (nI a) (nI b) = some (bI (stB a b)) := by
  have la := len_all a ha.2 ha.1
  have lb := len_all b hb.2 hb.1
  unfold f_X11_stands
  rw [len_M hN ha.2, bnd_s, len_M hN hb.2, bnd_s]
  exact stM_loop ha.2 hb.2 la.1 la.2.1 lb.2.1 7 0 N (by omega) (by omega)
set_option maxRecDepth 100000 in
theorem stB_tim : ∀ a, a < 32 → 2 ≤ a → ∀ b, b < 32 → 2 ≤ b → stB a b = Nat.blt 0 (tim a (len b) (b % 2 ^ len b)) := by decide +kernel
theorem st_X {N a b : Nat} (hN : 50 ≤ N) (ha : 2 ≤ a ∧ a < 32) (hb : 2 ≤ b ∧ b < 32) : f_X4_standsIn N (nI a) (nI b) = some (bI (stB a b)) := by
  have lb := len_all b (by omega) hb.1
  have hm : b % 2 ^ len b < 2 ^ len b := Nat.mod_lt _ (Nat.two_pow_pos _)
  have ht : tim a (len b) (b % 2 ^ len b) ≤ 15 := by
    unfold tim
    split
    · exact Nat.le_trans (cnt_le _ _) (by omega)
    · omega
  unfold f_X4_standsIn
  rw [len_X hN (by omega), bnd_s, mask_of (by omega), mask_nI, times_X hN (by omega) (by omega) hm, bnd_s, stB_tim a ha.2 ha.1 b hb.2 hb.1]
  by_cases h : 0 < tim a (len b) (b % 2 ^ len b)
  · rw [if_neg (nI_nle h (by omega)), show Nat.blt 0 (tim a (len b) (b % 2 ^ len b)) = true from Nat.ble_eq_true_of_le h]
    rfl
  · rw [show tim a (len b) (b % 2 ^ len b) = 0 by omega]
    rfl
def fsC (a b p : Nat) : Bool := stB a b || (stB b a || Nat.blt (sS (tX b a p) 1 6) (sS (tX b b p) 1 6))
def fsP (a b : Nat) : Bool := fsC a b 1 && (fsC a b 2 && (fsC a b 3 && (fsC a b 4 && (fsC a b 5 && (fsC a b 6 && (fsC a b 7 && (fsC a b 8 && (fsC a b 9 && (fsC a b 10 && (fsC a b 11 && (fsC a b 12 && (fsC a b 13 && (fsC a b 14 && fsC a b 15)))))))))))))
set_option maxRecDepth 100000 in
theorem fsP_0 : ∀ a, a < 8 → 2 ≤ a → ∀ b, b < 32 → 2 ≤ b → fsP a b = true := by decide +kernel
set_option maxRecDepth 100000 in
theorem fsP_1 : ∀ a, a < 8 → ∀ b, b < 32 → 2 ≤ b → fsP (8 + a) b = true := by decide +kernel
set_option maxRecDepth 100000 in
theorem fsP_2 : ∀ a, a < 8 → ∀ b, b < 32 → 2 ≤ b → fsP (16 + a) b = true := by decide +kernel
set_option maxRecDepth 100000 in
theorem fsP_3 : ∀ a, a < 8 → ∀ b, b < 32 → 2 ≤ b → fsP (24 + a) b = true := by decide +kernel
theorem fsP_all {a b : Nat} (ha : 2 ≤ a ∧ a < 32) (hb : 2 ≤ b ∧ b < 32) : fsP a b = true := by
  rcases (show a < 8 ∨ (8 ≤ a ∧ a < 16) ∨ (16 ≤ a ∧ a < 24) ∨ (24 ≤ a ∧ a < 32) by omega) with h | h | h | h
  · exact fsP_0 a h ha.1 b hb.2 hb.1
  · have := fsP_1 (a - 8) (by omega) b hb.2 hb.1
    rwa [show 8 + (a - 8) = a by omega] at this
  · have := fsP_2 (a - 16) (by omega) b hb.2 hb.1
    rwa [show 16 + (a - 16) = a by omega] at this
  · have := fsP_3 (a - 24) (by omega) b hb.2 hb.1
    rwa [show 24 + (a - 24) = a by omega] at this
theorem fs_lt {a b p : Nat} (ha : 2 ≤ a ∧ a < 32) (hb : 2 ≤ b ∧ b < 32) (hp : 1 ≤ p ∧ p ≤ 15) (h1 : stB a b = false) (h2 : stB b a = false) : sS (tX b a p) 1 6 < sS (tX b b p) 1 6 := by
  have h := fsP_all ha hb
  unfold fsP at h
  simp only [Bool.and_eq_true] at h
  obtain ⟨c1, c2, c3, c4, c5, c6, c7, c8, c9, c10, c11, c12, c13, c14, c15⟩ := h
  have key : fsC a b p = true := by
    rcases (show p = 1 ∨ p = 2 ∨ p = 3 ∨ p = 4 ∨ p = 5 ∨ p = 6 ∨ p = 7 ∨ p = 8 ∨ p = 9 ∨ p = 10 ∨ p = 11 ∨ p = 12 ∨ p = 13 ∨ p = 14 ∨ p = 15 by omega) with rfl | rfl | rfl | rfl | rfl | rfl | rfl | rfl | rfl | rfl | rfl | rfl | rfl | rfl | rfl
    · exact c1
    · exact c2
    · exact c3
    · exact c4
    · exact c5
    · exact c6
    · exact c7
    · exact c8
    · exact c9
    · exact c10
    · exact c11
    · exact c12
    · exact c13
    · exact c14
    · exact c15
  unfold fsC at key
  rw [h1, h2, Bool.false_or, Bool.false_or] at key
  exact Nat.le_of_ble_eq_true key
theorem told_cases (x : Int32) : (∃ a, (2 ≤ a ∧ a < 32) ∧ x = nI a ∧ f_X11_in x 2 31 = some 1 ∧ f_X10_isFirstTold x = some 1) ∨ (f_X11_in x 2 31 = some 0 ∧ f_X10_isFirstTold x = some 0) := by
  unfold f_X10_isFirstTold
  by_cases h1 : x < 2
  · right
    exact ⟨Min_no (Or.inl h1), by rw [if_pos h1]⟩
  · by_cases h2 : (31 : Int32) < x
    · right
      exact ⟨Min_no (Or.inr h2), by rw [if_neg h1, if_pos h2]⟩
    · left
      obtain ⟨k, k1, k2, k3⟩ := rng_of (x := x) (a := 2) (b := 31) (by decide) (by decide) h1 h2
      exact ⟨k, ⟨k1, by omega⟩, k3, Min_yes h1 h2, by rw [if_neg h1, if_neg h2]⟩
theorem len_5 : ∀ a, a < 32 → len a ≤ 4 := by decide +kernel
theorem fs_eq {u oa ob xbb xba xaa xab mbb mba maa mab : Nat} (hu : 0 < u) (ho : 0 < oa * ob) (r1 : xbb * ob = mbb * u) (r2 : xba * oa = mba * u) (r3 : xaa * oa = maa * u) (r4 : xab * ob = mab * u) (h1 : xba < xbb) (h2 : xab < xaa) (w : Int32) :
    mba * ob ≤ mbb * oa ∧ mab * oa ≤ maa * ob ∧ 0 < mbb * oa - mba * ob ∧ frc (xbb - xba) (xbb - xba + (xaa - xab)) w = frc (mbb * oa - mba * ob) (mbb * oa - mba * ob + (maa * ob - mab * oa)) w := by
  have e1 : mbb * oa * u = xbb * (oa * ob) := by
    rw [Nat.mul_right_comm, ← r1, Nat.mul_assoc, Nat.mul_comm ob]
  have e2 : mba * ob * u = xba * (oa * ob) := by
    rw [Nat.mul_right_comm, ← r2, Nat.mul_assoc]
  have e3 : maa * ob * u = xaa * (oa * ob) := by
    rw [Nat.mul_right_comm, ← r3, Nat.mul_assoc]
  have e4 : mab * oa * u = xab * (oa * ob) := by
    rw [Nat.mul_right_comm, ← r4, Nat.mul_assoc, Nat.mul_comm ob]
  have f1 : mba * ob < mbb * oa := by
    have : mba * ob * u < mbb * oa * u := by rw [e1, e2]; exact Nat.mul_lt_mul_of_pos_right h1 ho
    exact Nat.lt_of_mul_lt_mul_right this
  have f2 : mab * oa < maa * ob := by
    have : mab * oa * u < maa * ob * u := by rw [e3, e4]; exact Nat.mul_lt_mul_of_pos_right h2 ho
    exact Nat.lt_of_mul_lt_mul_right this
  have g1 : (mbb * oa - mba * ob) * u = (xbb - xba) * (oa * ob) := by rw [Nat.sub_mul, Nat.sub_mul, e1, e2]
  have g2 : (maa * ob - mab * oa) * u = (xaa - xab) * (oa * ob) := by rw [Nat.sub_mul, Nat.sub_mul, e3, e4]
  refine ⟨by omega, by omega, by omega, ?_⟩
  rw [← frc_mul (A := xbb - xba) ho, ← g1, Nat.add_mul, ← g1, ← g2, ← Nat.add_mul, frc_mul hu]
theorem p_first {N p : Nat} (hN : 200 ≤ N) (hp : 1 ≤ p ∧ p ≤ 15) (x1 x2 x3 : Int32) : ∃ o, f_X10_first N x1 x2 x3 (nI p) = some o ∧ f_X11_first N x1 x2 x3 (nI p) = some o := by
  obtain ⟨v2, e2⟩ := refusal_s (-2)
  obtain ⟨v3, e3⟩ := refusal_s (-3)
  unfold f_X10_first f_X11_first
  rw [no_ok, no_ok, e2, e3]
  simp only [bnd_s]
  rcases told_cases x1 with ⟨a, a1, rfl, a2, a3⟩ | ⟨a2, a3⟩
  · rw [a2, a3, bnd_s, bnd_s, if1_0, if1_0]
    rcases told_cases x2 with ⟨b, b1, rfl, b2, b3⟩ | ⟨b2, b3⟩
    · rw [b2, b3, bnd_s, bnd_s, if1_0, if1_0]
      rcases part_cases x3 with ⟨-, w1, w2⟩ | ⟨w1, w2⟩
      · have ha : 2 ≤ a ∧ a < 128 := by omega
        have hb : 2 ≤ b ∧ b < 128 := by omega
        rw [w1, w2, bnd_s, bnd_s, if1_0, if1_0, st_X (by omega) a1 b1, st_M (by omega) ha hb, bnd_s, bnd_s, st_X (by omega) b1 a1, st_M (by omega) hb ha]
        cases s1 : stB a b with
        | true => rw [bI_1, if1_0, if1_0]; exact ⟨_, rfl, rfl⟩
        | false =>
          rw [bI_0, if0_0, if0_0, bnd_s, bnd_s]
          cases s2 : stB b a with
          | true => rw [bI_1, if1_0, if1_0]; exact ⟨_, rfl, rfl⟩
          | false =>
            obtain ⟨u1, u2⟩ := uP_rng hp
            obtain ⟨o1, o2⟩ := oN_le (y := a) (j := len a) ha hp (Nat.le_refl _)
            obtain ⟨o3, o4⟩ := oN_le (y := b) (j := len b) hb hp (Nat.le_refl _)
            have la := len_5 a a1.2
            have lb := len_5 b b1.2
            have q1 : oN a p (len a) ≤ 16 ^ 4 := Nat.le_trans o1 (Nat.pow_le_pow_right (by omega) la)
            have q2 : oN b p (len b) ≤ 16 ^ 4 := Nat.le_trans o3 (Nat.pow_le_pow_right (by omega) lb)
            obtain ⟨g1, g2, g3, g4⟩ := fs_eq u1 (Nat.mul_pos o2 o4) (s_rel (x := b) hb hp 6 1 (by omega)) (s_rel (x := b) ha hp 6 1 (by omega)) (s_rel (x := a) ha hp 6 1 (by omega)) (s_rel (x := a) hb hp 6 1 (by omega)) (fs_lt a1 b1 hp s1 s2) (fs_lt b1 a1 hp s2 s1) x3
            have l1 := fs_lt a1 b1 hp s1 s2
            have l2 := fs_lt b1 a1 hp s2 s1
            have m1 := LX_le (x := b) hb hp
            have m2 := LX_le (x := a) ha hp
            have m3 : sS (tM b b p) 1 6 * oN a p (len a) ≤ 6 * 16 ^ 8 * 16 ^ 4 := Nat.mul_le_mul (LM_le (L := 4) hb hp lb) q1
            have m4 : sS (tM a a p) 1 6 * oN b p (len b) ≤ 6 * 16 ^ 8 * 16 ^ 4 := Nat.mul_le_mul (LM_le (L := 4) ha hp la) q2
            have m5 : 6 * 16 ^ 8 * 16 ^ 4 < 2 ^ 52 := by decide
            rw [bI_0, if0_0, if0_0, lead_X (by omega) hb hb hp, bnd_s, lead_X (by omega) hb ha hp, bnd_s, lead_X (by omega) ha ha hp, bnd_s, lead_X (by omega) ha hb hp, bnd_s, lN_sub (by omega), lN_sub (by omega), lN_add, part_X hN (by omega) (by omega) (by omega), bnd_s, len_M (by omega) ha.2, bnd_s, odds_M (by omega) ha hp (Nat.le_refl _), bnd_s, len_M (by omega) hb.2, bnd_s, odds_M (by omega) hb hp (Nat.le_refl _), bnd_s, lead_M (by omega) hb hb hp, bnd_s, lead_M (by omega) hb ha hp, bnd_s, lead_M (by omega) ha ha hp, bnd_s, lead_M (by omega) ha hb hp, bnd_s, lN_mul, lN_mul, lN_mul, lN_mul, lN_sub g1, lN_sub g2, lN_add, low_M hN (by omega) (by omega) (by omega), bnd_s, g4]
            exact ⟨_, rfl, rfl⟩
      · rw [w1, w2, bnd_s, bnd_s, if0_0, if0_0]
        exact ⟨_, rfl, rfl⟩
    · rw [b2, b3, bnd_s, bnd_s, if0_0, if0_0]
      exact ⟨_, rfl, rfl⟩
  · rw [a2, a3, bnd_s, bnd_s, if0_0, if0_0]
    exact ⟨_, rfl, rfl⟩
