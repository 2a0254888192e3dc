/-! pure rows: agree -/
def agF (one un b : Nat) : Nat := if pop (one ^^^ b) ≤ un then 1 else 0
def ag (one un k z : Nat) : Nat := fb_sm (fun b => if isK k b then agF one un b else 0) z
theorem ag_le {one un k : Nat} (z : Nat) : ag one un k z ≤ z := by
  have := fb_sm_bound (f := fun b => if isK k b then agF one un b else 0) (c := 1) (n := z) (fun b _ => by
    show (if isK k b then agF one un b else 0) ≤ 1
    unfold agF
    repeat' split
    all_goals omega)
  unfold ag
  omega
theorem xor_ltp {n a b : Nat} (ha : a < 2 ^ n) (hb : b < 2 ^ n) : a ^^^ b < 2 ^ n := Nat.xor_lt_two_pow ha hb
theorem agX_loop {N r n k one un : Nat} {xLen xHits xUns : Nat → Int32} (hn : n ≤ 15) (hk : k ≤ n) (ho : one < 2 ^ n) (hu : un < 100) (e1 : xHits r = nI one) : ∀ (z c fu lot : Nat), c + z + 1 = bin n k → z + 1 < fu → LT n k c lot → f_X10_agree_126 N fu r (nI un) (nI (bin n k)) (nI lot) (nI (ag one un k lot)) (nI c) xLen xHits xUns = some (nI (1000000 * ag one un k (2 ^ n) / bin n k)) := by
  have hp : 2 ^ n ≤ 2 ^ 15 := Nat.pow_le_pow_right (by omega) hn
  intro z
  induction z with
  | zero =>
    intro c fu lot hc hf hL
    obtain ⟨fu, rfl⟩ : ∃ z, fu = z + 2 := ⟨fu - 2, by omega⟩
    obtain ⟨b1, b2⟩ := bin_rng hn hk
    obtain ⟨lot', a1, a2⟩ := LT_s hn hL
    have hx := xor_ltp ho hL.2.1
    have hv := pop_le (one ^^^ lot)
    have hg := ag_le (one := one) (un := un) (k := k) (2 ^ n)
    rw [f_X10_agree_126, if_neg (nI_ge (by omega) (by omega)), e1, fb_xorI, bc_ok (by omega), bnd_s]
    unfold f_X10_agree_152
    rw [a1, bnd_s, nI_1, nI_1]
    rcases a2 with ⟨q, -⟩ | ⟨-, a2⟩
    · omega
    have hs : ag one un k (2 ^ n) = ag one un k lot + agF one un lot := a2 _
    have hex : f_X10_agree_126 N (fu + 1) r (nI un) (nI (bin n k)) (nI lot') (nI (ag one un k (2 ^ n))) (nI (c + 1)) xLen xHits xUns = some (nI (1000000 * ag one un k (2 ^ n) / bin n k)) := by
      rw [f_X10_agree_126, if_pos (nI_le (by omega) (by omega)), mill_X (by omega) (by omega) (by omega), bnd_s]
    unfold agF at hs
    by_cases q2 : pop (one ^^^ lot) ≤ un
    · rw [if_pos q2] at hs
      rw [if_neg (nI_nlt q2 (by omega)), ← hs]
      exact hex
    · rw [if_neg q2, Nat.add_zero] at hs
      rw [if_pos (nI_lt (by omega) (by omega)), ← hs]
      exact hex
  | succ z ih =>
    intro c fu lot hc hf hL
    obtain ⟨fu, rfl⟩ : ∃ z, fu = z + 1 := ⟨fu - 1, by omega⟩
    obtain ⟨b1, b2⟩ := bin_rng hn hk
    obtain ⟨lot', a1, a2⟩ := LT_s hn hL
    have hx := xor_ltp ho hL.2.1
    have hv := pop_le (one ^^^ lot)
    rw [f_X10_agree_126, if_neg (nI_ge (by omega) (by omega)), e1, fb_xorI, bc_ok (by omega), bnd_s]
    unfold f_X10_agree_152
    rw [a1, bnd_s, nI_1, nI_1]
    rcases a2 with ⟨-, a3, a2⟩ | ⟨q, -⟩
    rotate_left
    · omega
    have hs : ag one un k lot' = ag one un k lot + agF one un lot := a2 _
    have hi := ih (c + 1) fu lot' (by omega) (by omega) a3
    rw [hs] at hi
    unfold agF at hi
    by_cases q2 : pop (one ^^^ lot) ≤ un
    · rw [if_pos q2] at hi
      rw [if_neg (nI_nlt q2 (by omega))]
      exact hi
    · rw [if_neg q2] at hi
      rw [if_pos (nI_lt (by omega) (by omega))]
      exact hi
theorem agM_loop {N r n one two un : Nat} {mSizes mSigns : Nat → Int32} (hN : 40000 ≤ N) (hr : r < 4) (hn : n ≤ 15) (ho : one < 2 ^ n) (ht : two < 2 ^ n) (hu : un ≤ n) (e1 : mSizes r = nI n) (e2 : f_X11_bitsOf N (nI r) mSizes mSigns = some (nI two)) : ∀ (z j c : Nat), j + z = 2 ^ n → z < c → f_X11_agree_109 N c (nI r) (nI n) (nI one) (nI two) (nI (n - un)) (nI (ag one un (pop two) j)) (nI j) mSizes mSigns = some (nI (1000000 * ag one un (pop two) (2 ^ n) / bin n (pop two))) := by
  have hp : 2 ^ n ≤ 2 ^ 15 := Nat.pow_le_pow_right (by omega) hn
  intro z
  induction z with
  | zero =>
    intro j c hj hc
    obtain ⟨c, rfl⟩ : ∃ z, c = z + 1 := ⟨c - 1, by omega⟩
    obtain rfl : j = 2 ^ n := by omega
    obtain ⟨b1, b2⟩ := bin_rng hn (pop_len hn ht)
    have hg := ag_le (one := one) (un := un) (k := pop two) (2 ^ n)
    rw [f_X11_agree_109, one_shl (by omega), if_pos (nI_le (Nat.le_refl _) (by omega)), dealtAll_M hN hr hn ht e1 e2, bnd_s, mill_M (by omega) (by omega) (by omega)]
  | succ z ih =>
    intro j c hj hc
    obtain ⟨c, rfl⟩ : ∃ z, c = z + 1 := ⟨c - 1, by omega⟩
    have hs := ih (j + 1) c (by omega) (by omega)
    have hx := xor_ltp ho (show j < 2 ^ n by omega)
    have hv := pop_len hn hx
    have hpj := pop_le j
    have hpt := pop_le two
    rw [show ag one un (pop two) (j + 1) = ag one un (pop two) j + (if isK (pop two) j then agF one un j else 0) from fb_sm_succ _ j] at hs
    rw [f_X11_agree_109, one_shl (by omega), if_neg (nI_ge (by omega) (by omega)), ones_ok (by omega) (by omega), bnd_s, ones_ok (by omega) (by omega), bnd_s, show popN 16 j = pop j from rfl, show popN 16 two = pop two from rfl, fb_xorI, ones_ok (by omega) (by omega), bnd_s, show popN 16 (one ^^^ j) = pop (one ^^^ j) from rfl, pk_sub hv]
    unfold f_X11_agree_153 f_X11_agree_154
    rw [nI_1, nI_1, i_add0]
    by_cases q0 : pop j = pop two
    · rw [if_pos (show nI (pop j) = nI (pop two) by rw [q0])]
      rw [if_pos (show isK (pop two) j = true from decide_eq_true q0)] at hs
      unfold agF at hs
      by_cases q2 : pop (one ^^^ j) ≤ un
      · rw [if_pos q2] at hs
        rw [if_neg (nI_nlt (by omega) (by omega))]
        exact hs
      · rw [if_neg q2] at hs
        rw [if_pos (nI_lt (by omega) (by omega))]
        exact hs
    · rw [if_neg (fun e => q0 ((nI_eq (by omega) (by omega)).mp e))]
      rw [show isK (pop two) j = false from decide_eq_false q0] at hs
      exact hs
theorem p_agree {N : Nat} (hN : 40000 ≤ N) {xLen xHits xUns mSizes mSigns : Nat → Int32} (hR : RRow xLen xHits xUns mSizes mSigns) (x1 x2 x3 : Int32) :
    ∃ o, f_X10_agree N x1 x2 x3 xLen xHits xUns = some o ∧ f_X11_agree N x1 x2 x3 mSizes mSigns = some o := by
  unfold f_X10_agree f_X11_agree
  rcases row_cases x1 with ⟨r, h1, rfl, h2, h3⟩ | ⟨h2, h3⟩
  · obtain ⟨n, h, u, n1, n2, n3, n4, n5, n6, n7, n8, n9, n10, -⟩ := row_at hR (show 50 ≤ N by omega) h1
    have hp : 2 ^ n ≤ 2 ^ 15 := Nat.pow_le_pow_right (by omega) n1
    rw [h2, h3, bnd_s, bnd_s, if1_0, if1_0]
    rcases row_cases x2 with ⟨t, g1, rfl, g2, g3⟩ | ⟨g2, g3⟩
    · obtain ⟨n', h', u', m1, m2, m3, m4, m5, m6, m7, m8, m9, m10, -⟩ := row_at hR (show 50 ≤ N by omega) g1
      rw [g2, g3, bnd_s, bnd_s, if1_0, if1_0]
      by_cases e : nI r = nI t
      · rw [if_pos e, if_pos e]
        exact ⟨_, rfl, rfl⟩
      rw [if_neg e, if_neg e]
      rcases part_cases x3 with ⟨-, w1, w2⟩ | ⟨w1, w2⟩
      · rw [w1, w2, bnd_s, bnd_s, if1_0, if1_0, gIn_nI h1 (by decide), gIn_nI h1 (by decide), gIn_nI g1 (by decide), gIn_nI g1 (by decide), cl_nI (n := r) (by omega), cl_nI (n := t) (by omega), n9, n10, m9, m10]
        simp only [bnd_s]
        by_cases hu : u = 0
        · rw [if_pos hu, if1_0, if1_0]
          by_cases hu' : u' = 0
          · rw [if_pos hu', if1_0, if1_0, n4, n7, m4, m7]
            by_cases hn : nI n = nI n'
            · have hnn : n = n' := (nI_eq (by omega) (by omega)).mp hn
              subst hnn
              have hx := xor_ltp n2 m2
              have hpx := pop_len n1 hx
              have hk := pop_len n1 m2
              rw [if_pos rfl, if_pos rfl, n5, m5, n8, bnd_s, m8, bnd_s, fb_xorI, bc_ok (by omega), bnd_s, ones_ok (by omega) (by omega), bnd_s, show popN 16 (h ^^^ h') = pop (h ^^^ h') from rfl, pk_sub hpx]
              by_cases h0 : x3 = 0
              · rw [if_pos h0, if_pos h0]
                exact ⟨_, rfl, rfl⟩
              · rw [if_neg h0, if_neg h0, many_X (by omega) n1 m2 m4 m5, bnd_s, low_X n1 m2 m5, bnd_s]
                have a := agX_loop (N := N) (un := pop (h ^^^ h')) (xLen := xLen) (xUns := xUns) n1 hk n2 (by omega) n5 (bin n (pop h') - 1) 0 N _ (by have := bin_rng n1 hk; omega) (by have := bin_rng n1 hk; omega) (LT_0 n1 hk)
                rw [show ag h (pop (h ^^^ h')) (pop h') (2 ^ pop h' - 1) = 0 from sm_low n1 hk _] at a
                exact ⟨_, a, agM_loop (un := pop (h ^^^ h')) hN g1 n1 n2 m2 hpx m7 m8 (2 ^ n) 0 N (by omega) (by omega)⟩
            · rw [if_neg hn, if_neg hn]
              exact ⟨_, rfl, rfl⟩
          · rw [if_neg hu', if0_0, if0_0]
            exact ⟨_, rfl, rfl⟩
        · rw [if_neg hu, if0_0, if0_0]
          exact ⟨_, rfl, rfl⟩
      · rw [w1, w2, bnd_s, bnd_s, if0_0, if0_0]
        exact ⟨_, rfl, rfl⟩
    · rw [g2, g3, bnd_s, bnd_s, if0_0, if0_0]
      exact ⟨_, rfl, rfl⟩
  · rw [h2, h3, bnd_s, bnd_s, if0_0, if0_0]
    exact ⟨_, rfl, rfl⟩
