/-! pure rows: dealt, strangest -/
def far (x3 : Int32) (own v : Nat) : Bool := if x3 = 0 then decide (v ≤ own) else decide (own ≤ v)
/-- how many dealt rows are as far -/
def dlF (w n T own : Nat) (x3 : Int32) (b : Nat) : Nat := if far x3 own (num w n b T) then 1 else 0
def dl (w n k T own : Nat) (x3 : Int32) (z : Nat) : Nat := fb_sm (fun b => if isK k b then dlF w n T own x3 b else 0) z
theorem dl_le {w n k T own : Nat} {x3 : Int32} (z : Nat) : dl w n k T own x3 z ≤ z := by
  have := fb_sm_bound (f := fun b => if isK k b then dlF w n T own x3 b else 0) (c := 1) (n := z) (fun b _ => by
    show (if isK k b then dlF w n T own x3 b else 0) ≤ 1
    unfold dlF
    repeat' split
    all_goals omega)
  unfold dl
  omega
theorem asFar_loop {N r n k w T own : Nat} {x3 : Int32} {xLen xHits : Nat → Int32} (hN : 50 ≤ N) (hn : n ≤ 15) (hk : k ≤ n) (hw : w ≤ 6) (hT : 2 ≤ T ∧ T < 128) (ho : own < 100) (e1 : xLen r = nI n) : ∀ (z c fu lot : Nat), c + z + 1 = bin n k → z + 1 < fu → LT n k c lot → f_X10_dealtAsFar_26 N fu r (nI w) x3 (nI own) (nI (bin n k)) (nI lot) (nI (dl w n k T own x3 lot)) (nI c) xLen xHits (nI T) = some (nI (dl w n k T own x3 (2 ^ n))) := by
  intro z
  induction z with
  | zero =>
    intro c fu lot hc hf hL
    obtain ⟨fu, rfl⟩ : ∃ z, fu = z + 2 := ⟨fu - 2, by omega⟩
    obtain ⟨b1, b2⟩ := bin_rng hn hk
    obtain ⟨lot', a1, a2⟩ := LT_s hn hL
    have hv : num w n lot T < 100 := num_lt hn
    rw [f_X10_dealtAsFar_26, if_neg (nI_ge (by omega) (by omega)), e1, num_X6 hN hw hT hn hL.2.1, bnd_s]
    unfold f_X10_dealtAsFar_70 f_X10_dealtAsFar_73
    rw [a1, bnd_s, nI_1, nI_1]
    rcases a2 with ⟨q, -⟩ | ⟨-, a2⟩
    · omega
    have hs : dl w n k T own x3 (2 ^ n) = dl w n k T own x3 lot + dlF w n T own x3 lot := a2 _
    have hex : ∀ acc, f_X10_dealtAsFar_26 N (fu + 1) r (nI w) x3 (nI own) (nI (bin n k)) (nI lot') acc (nI (c + 1)) xLen xHits (nI T) = some acc := fun acc => by
      rw [f_X10_dealtAsFar_26, if_pos (nI_le (by omega) (by omega))]
    rw [hs]
    unfold dlF far
    by_cases q : x3 = 0
    · rw [if_pos q, if_pos q]
      by_cases q2 : num w n lot T ≤ own
      · rw [if_neg (nI_nlt q2 (by omega)), if_pos (decide_eq_true q2)]
        exact hex _
      · rw [if_pos (nI_lt (by omega) (by omega)), if_neg (by simp; omega)]
        exact hex _
    · rw [if_neg q, if_neg q]
      by_cases q2 : own ≤ num w n lot T
      · rw [if_neg (nI_nlt q2 (by omega)), if_pos (decide_eq_true q2)]
        exact hex _
      · rw [if_pos (nI_lt (by omega) (by omega)), if_neg (by simp; omega)]
        exact hex _
  | succ z ih =>
    intro c fu lot hc hf hL
    obtain ⟨fu, rfl⟩ : ∃ z, fu = z + 1 := ⟨fu - 1, by omega⟩
    obtain ⟨b1, b2⟩ := bin_rng hn hk
    obtain ⟨lot', a1, a2⟩ := LT_s hn hL
    have hv : num w n lot T < 100 := num_lt hn
    rw [f_X10_dealtAsFar_26, if_neg (nI_ge (by omega) (by omega)), e1, num_X6 hN hw hT hn hL.2.1, bnd_s]
    unfold f_X10_dealtAsFar_70 f_X10_dealtAsFar_73
    rw [a1, bnd_s, nI_1, nI_1]
    rcases a2 with ⟨-, a3, a2⟩ | ⟨q, -⟩
    rotate_left
    · omega
    have hs : dl w n k T own x3 lot' = dl w n k T own x3 lot + dlF w n T own x3 lot := a2 _
    have hi := ih (c + 1) fu lot' (by omega) (by omega) a3
    rw [hs] at hi
    unfold dlF far at hi
    by_cases q : x3 = 0
    · rw [if_pos q] at hi ⊢
      by_cases q2 : num w n lot T ≤ own
      · rw [if_pos (decide_eq_true q2)] at hi
        rw [if_neg (nI_nlt q2 (by omega))]
        exact hi
      · rw [if_neg (by simp; omega)] at hi
        rw [if_pos (nI_lt (by omega) (by omega))]
        exact hi
    · rw [if_neg q] at hi ⊢
      by_cases q2 : own ≤ num w n lot T
      · rw [if_pos (decide_eq_true q2)] at hi
        rw [if_neg (nI_nlt q2 (by omega))]
        exact hi
      · rw [if_neg (by simp; omega)] at hi
        rw [if_pos (nI_lt (by omega) (by omega))]
        exact hi
theorem asFar_X {N r n h w T : Nat} {x3 : Int32} {xLen xHits : Nat → Int32} (hN : 40000 ≤ N) (hn : n ≤ 15) (hh : h < 2 ^ n) (hw : w ≤ 6) (hT : 2 ≤ T ∧ T < 128) (e1 : xLen r = nI n) (e2 : xHits r = nI h) : f_X10_dealtAsFar N r (nI w) x3 xLen xHits (nI T) = some (nI (dl w n (pop h) T (num w n h T) x3 (2 ^ n))) := by
  have hk := pop_len hn hh
  obtain ⟨b1, b2⟩ := bin_rng hn hk
  unfold f_X10_dealtAsFar f_X10_numberOf
  rw [e1, e2, num_X6 (by omega) hw hT hn hh, bnd_s, bnd_s, many_X (by omega) hn hh e1 e2, bnd_s, low_X hn hh e2, bnd_s]
  have h0 : dl w n (pop h) T (num w n h T) x3 (2 ^ pop h - 1) = 0 := by
    obtain ⟨-, -, a⟩ := LT_0 hn hk
    rw [fb_ct_zero] at a
    unfold dl
    have := sm_gap (f := fun b => if isK (pop h) b then dlF w n T (num w n h T) x3 b else 0) (a := 0) (2 ^ pop h - 1) (fun y _ y2 => by
      show (if isK (pop h) y then _ else 0) = 0
      rw [a y (by omega)]
      rfl)
    rw [Nat.zero_add] at this
    exact this
  have := asFar_loop (N := N) (x3 := x3) (xHits := xHits) (by omega) hn hk hw hT (num_lt (w := w) (b := h) (T := T) hn) e1 (bin n (pop h) - 1) 0 N _ (by omega) (by omega) (LT_0 hn hk)
  rw [h0] at this
  exact this
theorem many_loop_M {N n k w T own : Nat} {x3 : Int32} {a b : Nat → Int32} (hN : 40000 ≤ N) (hn : n ≤ 15) (hk : k ≤ 16) (hw : w ≤ 6) (hT : 2 ≤ T ∧ T < 128) (ho : own < 100) : ∀ (z j c : Nat), j + z = 2 ^ n → z < c → f_X11_dealtMany_39 N c (nI w) x3 (nI n) (nI k) (nI own) (nI (dl w n k T own x3 j)) (nI j) a b (nI T) = some (nI (dl w n k T own x3 (2 ^ n))) := by
  have hp : 2 ^ n ≤ 2 ^ 15 := Nat.pow_le_pow_right (by omega) hn
  intro z
  induction z with
  | zero =>
    intro j c hj hc
    obtain ⟨c, rfl⟩ : ∃ z, c = z + 1 := ⟨c - 1, by omega⟩
    obtain rfl : j = 2 ^ n := by omega
    rw [f_X11_dealtMany_39, one_shl (by omega), if_pos (nI_le (Nat.le_refl _) (by omega))]
  | succ z ih =>
    intro j c hj hc
    obtain ⟨c, rfl⟩ : ∃ z, c = z + 1 := ⟨c - 1, by omega⟩
    have hs := ih (j + 1) c (by omega) (by omega)
    have hv : num w n j T < 100 := num_lt hn
    have hpj := pop_le j
    rw [show dl w n k T own x3 (j + 1) = dl w n k T own x3 j + (if isK k j then dlF w n T own x3 j else 0) from fb_sm_succ _ j] at hs
    rw [f_X11_dealtMany_39, one_shl (by omega), if_neg (nI_ge (by omega) (by omega)), ones_ok (by omega) (by omega), bnd_s, show popN 16 j = pop j from rfl]
    unfold f_X11_dealtMany_82 f_X11_dealtMany_93 f_X11_dealtMany_97 f_X11_dealtMany_98 f_X11_dealtMany_101
    rw [nI_1, nI_1, i_add0]
    by_cases q0 : pop j = k
    · rw [if_pos (show nI (pop j) = nI k by rw [q0]), num_M6 (by omega) hw hT hn (by omega), bnd_s]
      rw [if_pos (show isK k j = true from decide_eq_true q0)] at hs
      unfold dlF far at hs
      by_cases q : x3 = 0
      · rw [if_pos q] at hs ⊢
        rw [if_pos q]
        by_cases q2 : num w n j T ≤ own
        · rw [if_pos (decide_eq_true q2)] at hs
          rw [if_neg (nI_nlt q2 (by omega))]
          exact hs
        · rw [if_neg (by simp; omega)] at hs
          rw [if_pos (nI_lt (by omega) (by omega))]
          exact hs
      · rw [if_neg q] at hs ⊢
        by_cases q2 : own ≤ num w n j T
        · rw [if_pos (decide_eq_true q2)] at hs
          rw [if_pos (nI_le q2 (by omega))]
          exact hs
        · rw [if_neg (by simp; omega)] at hs
          rw [if_neg (nI_ge (by omega) (by omega)), if_neg q]
          exact hs
    · rw [if_neg (fun e => q0 ((nI_eq (by omega) (by omega)).mp e))]
      rw [show isK k j = false from decide_eq_false q0] at hs
      exact hs
theorem dealtMany_M {N r n h w T : Nat} {x3 : Int32} {mSizes mSigns : Nat → Int32} (hN : 40000 ≤ N) (hr : r < 4) (hn : n ≤ 15) (hh : h < 2 ^ n) (hw : w ≤ 6) (hT : 2 ≤ T ∧ T < 128) (e1 : mSizes r = nI n) (e2 : f_X11_bitsOf N (nI r) mSizes mSigns = some (nI h)) : f_X11_dealtMany N (nI r) (nI w) x3 mSizes mSigns (nI T) = some (nI (dl w n (pop h) T (num w n h T) x3 (2 ^ n))) := by
  have hk := pop_len hn hh
  have hp : 2 ^ n ≤ 2 ^ 15 := Nat.pow_le_pow_right (by omega) hn
  unfold f_X11_dealtMany
  rw [gIn_nI hr (by decide), e2, bnd_s, ones_ok (by omega) (by omega), bnd_s, cl_nI (by omega), e1, num_M6 (by omega) hw hT hn hh, bnd_s, show popN 16 h = pop h from rfl]
  exact many_loop_M hN hn (by omega) hw hT (num_lt hn) (2 ^ n) 0 N (by omega) (by omega)
theorem dealtAll_M {N r n h : Nat} {mSizes mSigns : Nat → Int32} (hN : 40000 ≤ N) (hr : r < 4) (hn : n ≤ 15) (hh : h < 2 ^ n) (e1 : mSizes r = nI n) (e2 : f_X11_bitsOf N (nI r) mSizes mSigns = some (nI h)) : f_X11_dealtAll N (nI r) mSizes mSigns = some (lN (bin n (pop h))) := by
  have hk := pop_len hn hh
  have hp : 2 ^ n ≤ 2 ^ 15 := Nat.pow_le_pow_right (by omega) hn
  unfold f_X11_dealtAll
  rw [gIn_nI hr (by decide), e2, bnd_s, ones_ok (by omega) (by omega), bnd_s, cl_nI (by omega), e1, show popN 16 h = pop h from rfl, choose_M (by omega) hn hk, bnd_s]
theorem mill_X {a b : Nat} (ha : a < 2 ^ 31) (h0 : 0 < b) (hb : b < 2 ^ 31) : f_X10_millionths (nI a) (nI b) = some (nI (1000000 * a / b)) := by
  unfold f_X10_millionths
  rw [if_pos (show (0 : Int32) < nI b from nI_lt (a := 0) h0 hb), nI_l ha, nI_l hb, gNeL_of (lN_ne (by omega) h0), show (1000000 : Int64) = lN 1000000 from by decide, lN_mul, pk_lDiv (by omega) h0 (by omega), lN_i, Nat.mul_comm]
theorem mill_M {a b : Nat} (ha : a < 2 ^ 31) (h0 : 0 < b) (hb : b < 2 ^ 31) : gNeL (lN b) (some ((((1000000 : Int64) * (nI a).toInt64) / lN b).toInt32)) = some (nI (1000000 * a / b)) := by
  rw [nI_l ha, gNeL_of (lN_ne (by omega) h0), show (1000000 : Int64) = lN 1000000 from by decide, lN_mul, pk_lDiv (by omega) h0 (by omega), lN_i]
theorem p_dealt {N : Nat} (hN : 40000 ≤ N) {xLen xHits xUns mSizes mSigns : Nat → Int32} (hR : RRow xLen xHits xUns mSizes mSigns) {T : Nat} (hT : 2 ≤ T ∧ T < 128) (x1 x2 x3 : Int32) :
    ∃ o, f_X10_dealt N x1 x2 x3 xLen xHits xUns (nI T) = some o ∧ f_X11_dealt N x1 x2 x3 mSizes mSigns (nI T) = some o := by
  unfold f_X10_dealt f_X11_dealt
  rcases row_cases x1 with ⟨r, h1, rfl, h2, h3⟩ | ⟨h2, h3⟩
  · obtain ⟨n, h, u, n1, n2, n3, n4, n5, n6, n7, n8, n9, n10, n11, n12, n13⟩ := row_at hR (show 50 ≤ N by omega) h1
    have hp : 2 ^ n ≤ 2 ^ 15 := Nat.pow_le_pow_right (by omega) n1
    rw [h2, h3, bnd_s, bnd_s, if1_0, if1_0]
    rcases number_cases x2 with ⟨w, w1, rfl, w2, w3⟩ | ⟨w2, w3⟩
    · rw [w2, w3, bnd_s, bnd_s, if1_0, if1_0, gIn_nI h1 (by decide), cl_nI (by omega), n9, n10, bnd_s, bnd_s]
      by_cases hu : u = 0
      · have hk := pop_len n1 n2
        obtain ⟨b1, b2⟩ := bin_rng n1 hk
        have hd := dl_le (w := w) (n := n) (k := pop h) (T := T) (own := num w n h T) (x3 := x3) (2 ^ n)
        rw [if_pos hu, if1_0, if1_0, asFar_X hN n1 n2 w1 hT n4 n5, bnd_s, many_X (by omega) n1 n2 n4 n5, bnd_s, mill_X (by omega) (by omega) (by omega), bnd_s, dealtMany_M hN h1 n1 n2 w1 hT n7 n8, bnd_s, dealtAll_M hN h1 n1 n2 n7 n8, bnd_s, mill_M (by omega) (by omega) (by omega)]
        exact ⟨_, rfl, rfl⟩
      · rw [if_neg hu, if0_0, if0_0]
        exact ⟨_, rfl, rfl⟩
    · rw [w2, w3, bnd_s, bnd_s, if0_0, if0_0]
      exact ⟨_, rfl, rfl⟩
  · rw [h2, h3, bnd_s, bnd_s, if0_0, if0_0]
    exact ⟨_, rfl, rfl⟩
theorem str_loop {N r n h T : Nat} (hN : 40000 ≤ N) {xLen xHits xUns mSizes mSigns : Nat → Int32} (hr : r < 4) (hn : n ≤ 15) (hh : h < 2 ^ n) (hT : 2 ≤ T ∧ T < 128) (e1 : xLen r = nI n) (e2 : xHits r = nI h) (e3 : mSizes r = nI n) (e4 : f_X11_bitsOf N (nI r) mSizes mSigns = some (nI h)) : ∀ (z j c d : Nat) (best least : Int32), j + z = 14 → 2 ≤ j → z < c → z < d → ∃ o, f_X10_strangest_42 N c r best least (nI j) xLen xHits xUns (nI T) = some o ∧ f_X11_strangest_37 N d (nI r) best least (nI j) mSizes mSigns (nI T) = some o := by
  intro z
  induction z with
  | zero =>
    intro j c d best least hj _ hc hd
    obtain ⟨c, rfl⟩ : ∃ z, c = z + 1 := ⟨c - 1, by omega⟩
    obtain ⟨d, rfl⟩ : ∃ z, d = z + 1 := ⟨d - 1, by omega⟩
    obtain rfl : j = 14 := by omega
    rw [f_X10_strangest_42, f_X11_strangest_37, if_pos (show (14 : Int32) ≤ nI 14 by decide), if_pos (show (14 : Int32) ≤ nI 14 by decide)]
    exact ⟨_, rfl, rfl⟩
  | succ z ih =>
    intro j c d best least hj hj2 hc hd
    obtain ⟨c, rfl⟩ : ∃ z, c = z + 1 := ⟨c - 1, by omega⟩
    obtain ⟨d, rfl⟩ : ∃ z, d = z + 1 := ⟨d - 1, by omega⟩
    have hdiv : nI j / 2 = nI (j / 2) := pk_div (d := 2) (by omega) (by omega) (by omega)
    have hrem : nI j - nI (j / 2) * 2 = nI (j % 2) := by
      have := pk_rem (a := j) (d := 2) (by omega) (by omega) (by omega)
      rw [show nI 2 = 2 from rfl, hdiv] at this
      exact this
    rw [f_X10_strangest_42, f_X11_strangest_37, if_neg (show ¬ (14 : Int32) ≤ nI j from nI_ge (b := 14) (by omega) (by decide)), if_neg (show ¬ (14 : Int32) ≤ nI j from nI_ge (b := 14) (by omega) (by decide)), hdiv, hrem, if_neg (show ¬ nI (j / 2) = 0 from nI_ne0 (by omega) (by omega))]
    unfold f_X10_strangest_86 f_X10_strangest_103 f_X10_strangest_110 f_X11_strangest_71 f_X11_strangest_87 f_X11_strangest_92 f_X11_strangest_105 f_X11_strangest_117 f_X11_strangest_118
    rw [nI_1]
    by_cases q5 : j / 2 = 5
    · rw [if_pos (show nI (j / 2) = 5 by rw [q5]; rfl), if_pos (show nI (j / 2) = 5 by rw [q5]; rfl)]
      exact ih (j + 1) c d best least (by omega) (by omega) (by omega) (by omega)
    · rw [if_neg (show ¬ nI (j / 2) = 5 from fun e => q5 ((nI_eq (b := 5) (by omega) (by omega)).mp e)), if_neg (show ¬ nI (j / 2) = 5 from fun e => q5 ((nI_eq (b := 5) (by omega) (by omega)).mp e))]
      rw [asFar_X hN hn hh (by omega) hT e1 e2, asFar_X hN hn hh (by omega) hT e1 e2, dealtMany_M hN hr hn hh (by omega) hT e3 e4, dealtMany_M hN hr hn hh (by omega) hT e3 e4]
      simp only [bnd_s, if1_0, if0_0]
      have go : ∀ v : Int32, ∃ o, (if best = -1 then f_X10_strangest_42 N c r (nI j) v (nI (j + 1)) xLen xHits xUns (nI T) else if least ≤ v then f_X10_strangest_42 N c r best least (nI (j + 1)) xLen xHits xUns (nI T) else f_X10_strangest_42 N c r (nI j) v (nI (j + 1)) xLen xHits xUns (nI T)) = some o ∧ (if best = -1 then f_X11_strangest_37 N d (nI r) (nI j) v (nI (j + 1)) mSizes mSigns (nI T) else if least ≤ v then f_X11_strangest_37 N d (nI r) best least (nI (j + 1)) mSizes mSigns (nI T) else f_X11_strangest_37 N d (nI r) (nI j) v (nI (j + 1)) mSizes mSigns (nI T)) = some o := by
        intro v
        by_cases q1 : best = -1
        · rw [if_pos q1, if_pos q1]
          exact ih (j + 1) c d (nI j) v (by omega) (by omega) (by omega) (by omega)
        · rw [if_neg q1, if_neg q1]
          by_cases q2 : least ≤ v
          · rw [if_pos q2, if_pos q2]
            exact ih (j + 1) c d best least (by omega) (by omega) (by omega) (by omega)
          · rw [if_neg q2, if_neg q2]
            exact ih (j + 1) c d (nI j) v (by omega) (by omega) (by omega) (by omega)
      by_cases q6 : nI (j % 2) = 1
      · rw [if_pos q6, if_pos q6]
        exact go _
      · rw [if_neg q6, if_neg q6]
        exact go _
theorem p_strangest {N : Nat} (hN : 40000 ≤ N) {xLen xHits xUns mSizes mSigns : Nat → Int32} (hR : RRow xLen xHits xUns mSizes mSigns) {T : Nat} (hT : 2 ≤ T ∧ T < 128) (x1 : Int32) :
    ∃ o, f_X10_strangest N x1 xLen xHits xUns (nI T) = some o ∧ f_X11_strangest N x1 mSizes mSigns (nI T) = some o := by
  unfold f_X10_strangest f_X11_strangest
  rcases row_cases x1 with ⟨r, h1, rfl, h2, h3⟩ | ⟨h2, h3⟩
  · obtain ⟨n, h, u, n1, n2, n3, n4, n5, n6, n7, n8, n9, n10, n11, n12, n13⟩ := row_at hR (show 50 ≤ N by omega) h1
    rw [h2, h3, bnd_s, bnd_s, if1_0, if1_0, gIn_nI h1 (by decide), cl_nI (by omega), n9, n10, bnd_s, bnd_s]
    by_cases hu : u = 0
    · rw [if_pos hu, if1_0, if1_0, gIn_nI h1 (by decide), n4, n7]
      by_cases q : n = 0
      · subst q
        rw [if_pos (show nI 0 = 0 from rfl), if_pos (show nI 0 = 0 from rfl)]
        exact ⟨_, rfl, rfl⟩
      · rw [if_neg (nI_ne0 (by omega) (by omega)), if_neg (nI_ne0 (by omega) (by omega))]
        obtain ⟨c, rfl⟩ : ∃ z, N = z + 2 := ⟨N - 2, by omega⟩
        rw [f_X10_strangest_42, if_neg (show ¬ (14 : Int32) ≤ 0 by decide), if_pos (show (0 : Int32) / 2 = 0 by decide)]
        unfold f_X10_strangest_110
        dsimp only
        rw [f_X10_strangest_42, if_neg (show ¬ (14 : Int32) ≤ 0 + 1 by decide), if_pos (show ((0 : Int32) + 1) / 2 = 0 by decide)]
        unfold f_X10_strangest_110
        exact str_loop hN h1 n1 n2 hT n4 n5 n7 n8 12 2 c (c + 2) (-1) 0 (by omega) (by omega) (by omega) (by omega)
    · rw [if_neg hu, if0_0, if0_0]
      exact ⟨_, rfl, rfl⟩
  · rw [h2, h3, bnd_s, bnd_s, if0_0, if0_0]
    exact ⟨_, rfl, rfl⟩
