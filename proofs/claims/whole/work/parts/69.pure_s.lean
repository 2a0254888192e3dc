/-! pure rows: fills, filled, sure -/
theorem or_2 {a b v w : Nat} (hv : v < 2) (hw : w < 2) : (2 * a + v) ||| (2 * b + w) = 2 * (a ||| b) + (v ||| w) := by
  have hvw : (v ||| w) < 2 := by rcases bit01 hv with rfl | rfl <;> rcases bit01 hw with rfl | rfl <;> decide
  apply Nat.eq_of_testBit_eq
  intro i
  cases i with
  | zero =>
    rw [Nat.testBit_or, Nat.testBit_zero, Nat.testBit_zero, Nat.testBit_zero]
    rw [show (2 * a + v) % 2 = v by omega, show (2 * b + w) % 2 = w by omega, show (2 * (a ||| b) + (v ||| w)) % 2 = v ||| w by omega]
    rcases bit01 hv with rfl | rfl <;> rcases bit01 hw with rfl | rfl <;> decide
  | succ i =>
    rw [Nat.testBit_or, Nat.testBit_succ, Nat.testBit_succ, Nat.testBit_succ]
    rw [show (2 * a + v) / 2 = a by omega, show (2 * b + w) / 2 = b by omega, show (2 * (a ||| b) + (v ||| w)) / 2 = a ||| b by omega, Nat.testBit_or]
def uN : Nat → (Nat → Int32) → Nat → Nat
  | 0, _, _ => 0
  | n + 1, g, k => if g n = -1 ∧ k = uc n g then 1 else 2 * uN n g k
def orF (f : Nat → Nat) (y : Nat) : Nat → Nat
  | 0 => 0
  | k + 1 => orF f y k ||| (if y / 2 ^ k % 2 = 1 then f k else 0)
theorem orF_cong {f f2 : Nat → Nat} {y : Nat} : ∀ {k : Nat}, (∀ i, i < k → f i = f2 i) → orF f y k = orF f2 y k := by
  intro k
  induction k with
  | zero => intro _; rfl
  | succ k ih => intro h; rw [orF, orF, ih (fun i hi => h i (by omega)), h k (by omega)]
theorem orF_2 (f : Nat → Nat) (y : Nat) : ∀ k, orF (fun i => 2 * f i) y k = 2 * orF f y k := by
  intro k
  induction k with
  | zero => rfl
  | succ k ih =>
    rw [orF, orF, ih]
    have h : ∀ b, 2 * orF f y k ||| 2 * b = 2 * (orF f y k ||| b) := fun b => or_2 (v := 0) (w := 0) (by omega) (by omega)
    split
    · exact h _
    · exact h 0
theorem orF_fM {n : Nat} {g : Nat → Int32} (y : Nat) : orF (uN n g) y (uc n g) = fM n g y := by
  induction n with
  | zero => rfl
  | succ n ih =>
    have e1 : orF (uN (n + 1) g) y (uc n g) = 2 * fM n g y := by
      rw [← ih, ← orF_2]
      apply orF_cong
      intro i hi
      rw [uN, if_neg (by omega)]
    rw [fM, uc]
    by_cases h : g n = -1
    · rw [if_pos h, if_pos h, orF, e1, show uN (n + 1) g (uc n g) = 1 by rw [uN, if_pos (show g n = -1 ∧ uc n g = uc n g from ⟨h, rfl⟩)]]
      rcases bit01 (show y / 2 ^ uc n g % 2 < 2 by omega) with e | e
      · rw [e, if_neg (by omega)]
        exact Nat.or_zero _
      · rw [e, if_pos rfl]
        have := or_2 (a := fM n g y) (b := 0) (v := 0) (w := 1) (by omega) (by omega)
        rw [Nat.or_zero] at this
        exact this
    · rw [if_neg h, if_neg h]
      exact e1
theorem uN_lt {n : Nat} {g : Nat → Int32} : ∀ k, uN n g k < 2 ^ n := by
  induction n with
  | zero => intro k; exact Nat.one_pos
  | succ n ih =>
    intro k
    have := ih k
    have hp := Nat.two_pow_pos n
    rw [uN, Nat.pow_succ]
    split <;> omega
theorem gath_loop {N r n : Nat} {mSizes mSigns : Nat → Int32} (hr : r < 4) (hn : n ≤ 15) (e1 : mSizes r = nI n) : ∀ (z j c : Nat) (us : Nat → Int32), j + z = n → z < c → (∀ k, k < uc j (fun i => mSigns (15 * r + i)) → us k = nI (2 ^ (n - j) * uN j (fun i => mSigns (15 * r + i)) k)) → ∃ us', f_X11_gathers_7 N c (nI r) (nI j) mSizes mSigns us (nI (uc j (fun i => mSigns (15 * r + i)))) = some (us', nI (uc n (fun i => mSigns (15 * r + i)))) ∧ ∀ k, k < uc n (fun i => mSigns (15 * r + i)) → us' k = nI (uN n (fun i => mSigns (15 * r + i)) k) := by
  intro z
  induction z with
  | zero =>
    intro j c us hj hc hu
    obtain ⟨c, rfl⟩ : ∃ z, c = z + 1 := ⟨c - 1, by omega⟩
    obtain rfl : j = n := by omega
    rw [f_X11_gathers_7, gIn_nI hr (by decide), cl_nI (by omega), e1, if_pos (nI_le (Nat.le_refl _) (by omega))]
    refine ⟨us, rfl, fun k hk => ?_⟩
    rw [hu k hk, Nat.sub_self, Nat.pow_zero, Nat.one_mul]
  | succ z ih =>
    intro j c us hj hc hu
    obtain ⟨c, rfl⟩ : ∃ z, c = z + 1 := ⟨c - 1, by omega⟩
    have hl := uc_le j (fun i => mSigns (15 * r + i))
    rw [f_X11_gathers_7, gIn_nI hr (by decide), cl_nI (by omega), e1, if_neg (nI_ge (by omega) (by omega)), mul15 hr (by omega), gIn_nI (by omega) (by decide), cl_nI (by omega)]
    unfold f_X11_gathers_63
    rw [nI_1, nI_1]
    by_cases h : mSigns (15 * r + j) = -1
    · rw [if_pos h, gIn_nI (by omega) (by decide), cl_nI (by omega), nI_sub1 (by omega), one_shl (by omega)]
      have := ih (j + 1) c (upd us (uc j (fun i => mSigns (15 * r + i))) (nI (2 ^ (n - 1 - j)))) (by omega) (by omega) (fun k hk => by
        rw [uc, if_pos h] at hk
        rw [uN]
        by_cases e : k = uc j (fun i => mSigns (15 * r + i))
        · rw [if_pos ⟨h, e⟩, e, pk_us, Nat.mul_one, show n - (j + 1) = n - 1 - j by omega]
        · rw [if_neg (fun q => e q.2), pk_un e, hu k (by omega), show n - j = n - (j + 1) + 1 by omega, Nat.pow_succ, Nat.mul_assoc])
      rw [show uc (j + 1) (fun i => mSigns (15 * r + i)) = uc j (fun i => mSigns (15 * r + i)) + 1 by rw [uc, if_pos h]] at this
      exact this
    · rw [if_neg h]
      have := ih (j + 1) c us (by omega) (by omega) (fun k hk => by
        rw [uc, if_neg h] at hk
        rw [uN, if_neg (fun q => h q.1), hu k (by omega), show n - j = n - (j + 1) + 1 by omega, Nat.pow_succ, Nat.mul_assoc])
      rw [show uc (j + 1) (fun i => mSigns (15 * r + i)) = uc j (fun i => mSigns (15 * r + i)) by rw [uc, if_neg h]; rfl] at this
      exact this
theorem gath_ok {N r n : Nat} (hN : 50 ≤ N) {mSizes mSigns : Nat → Int32} (hr : r < 4) (hn : n ≤ 15) (e1 : mSizes r = nI n) (us : Nat → Int32) (um : Int32) : ∃ us', f_X11_gathers N (nI r) mSizes mSigns us um = some (us', nI (uc n (fun i => mSigns (15 * r + i)))) ∧ ∀ k, k < uc n (fun i => mSigns (15 * r + i)) → us' k = nI (uN n (fun i => mSigns (15 * r + i)) k) :=
  gath_loop hr hn e1 n 0 N us (by omega) (by omega) (fun k hk => absurd hk (Nat.not_lt_zero k))
theorem fill_loop {N y K h : Nat} {a b us : Nat → Int32} {f : Nat → Nat} (hy : y < 2 ^ 31) (hK : K ≤ 15) (hu : ∀ k, k < K → us k = nI (f k)) : ∀ (z j c : Nat), j + z = K → z < c → f_X11_fill_9 N c (nI y) (nI (h ||| orF f y j)) (nI j) a b us (nI K) = some (nI (h ||| orF f y K)) := by
  intro z
  induction z with
  | zero =>
    intro j c hj hc
    obtain ⟨c, rfl⟩ : ∃ z, c = z + 1 := ⟨c - 1, by omega⟩
    obtain rfl : j = K := by omega
    rw [f_X11_fill_9, if_pos (nI_le (Nat.le_refl _) (by omega))]
  | succ z ih =>
    intro j c hj hc
    obtain ⟨c, rfl⟩ : ∃ z, c = z + 1 := ⟨c - 1, by omega⟩
    have hs := ih (j + 1) c (by omega) (by omega)
    rw [orF, ← Nat.or_assoc] at hs
    rw [f_X11_fill_9, if_neg (nI_ge (by omega) (by omega)), shr_nI hy (by omega), and1_nI]
    unfold f_X11_fill_40
    rw [nI_1]
    rcases bit01 (show y / 2 ^ j % 2 < 2 by omega) with e | e
    · rw [e, if_neg (by decide), show (0 : Int32) = nI 0 from rfl, fa_or]
      rw [e, if_neg (by omega)] at hs
      exact hs
    · rw [e, if_pos (show nI 1 = 1 from rfl), gIn_nI (by omega) (by decide), cl_nI (by omega), hu j (by omega), fa_or]
      rw [e, if_pos rfl] at hs
      exact hs
theorem fill_M {N r n y : Nat} (hN : 50 ≤ N) {mSizes mSigns us : Nat → Int32} (hr : r < 4) (hn : n ≤ 15) (e1 : mSizes r = nI n) (hy : y < 2 ^ 31) (hu : ∀ k, k < uc n (fun i => mSigns (15 * r + i)) → us k = nI (uN n (fun i => mSigns (15 * r + i)) k)) : f_X11_fill N (nI r) (nI y) mSizes mSigns us (nI (uc n (fun i => mSigns (15 * r + i)))) = some (nI (hb n (fun i => mSigns (15 * r + i)) ||| fM n (fun i => mSigns (15 * r + i)) y)) := by
  unfold f_X11_fill
  rw [bitsOf_ok hN hr hn e1, bnd_s]
  have hl := uc_le n (fun i => mSigns (15 * r + i))
  have := fill_loop (N := N) (h := hb n (fun i => mSigns (15 * r + i))) (a := mSizes) (b := mSigns) (f := uN n (fun i => mSigns (15 * r + i))) hy (show uc n (fun i => mSigns (15 * r + i)) ≤ 15 by omega) hu (uc n (fun i => mSigns (15 * r + i))) 0 N (by omega) (by omega)
  rw [orF_fM, orF, Nat.or_zero] at this
  exact this
/-- X's fills -/
def TB (s : Nat) (P : Nat → Bool) (w : Nat → Nat) (j : Nat) (a e : Nat) : Prop := a.testBit s = decide (fb_ct (fun c => P c && !(w c).testBit s) j = 0) ∧ e.testBit s = decide (0 < fb_ct (fun c => P c && (w c).testBit s) j)
theorem TB_0 {s j a e : Nat} {P : Nat → Bool} {w : Nat → Nat} (h : TB s P w j a e) (hq : P j = false) : TB s P w (j + 1) a e := by
  obtain ⟨t1, t2⟩ := h
  constructor
  · rw [t1, fb_ct_succ, hq]; simp
  · rw [t2, fb_ct_succ, hq]; simp
theorem TB_1 {s j a e : Nat} {P : Nat → Bool} {w : Nat → Nat} (h : TB s P w j a e) (hq : P j = true) : TB s P w (j + 1) (a &&& w j) (e ||| w j) := by
  obtain ⟨t1, t2⟩ := h
  constructor
  · rw [Nat.testBit_and, t1, fb_ct_succ, hq]
    cases (w j).testBit s <;> simp
  · rw [Nat.testBit_or, t2, fb_ct_succ, hq]
    cases (w j).testBit s <;> simp
theorem fl_loop {N n T m r h : Nat} {g : Nat → Int32} {tx : Nat → Nat} {xLen xHits xUns xLet xRel xLim xOpen : Nat → Int32} {xST xSD xSK : Int32} (hN : 40000 ≤ N) (hm : m ≤ 60) (hf : fpl tx m = -1) (hR : RXt xLet xRel xLim xOpen xST xSD xSK (pm tx m)) (hT : 2 ≤ T ∧ T < 128) (hn : n ≤ 15) (hh : h < 2 ^ n) (x1 : xLen r = nI n) (x2 : xHits r = nI h) (x3 : xUns r = nI (ub n g)) :
    ∀ (z j c a e : Nat) (fill : Int32) (ft me : Nat → Int32), j + z = 2 ^ uc n g → z < c → (j < 2 ^ uc n g → fill = nI (dX n g j)) → (∀ k, k < 16 → ft k = nI (fb_ct (fun c => hol tx m T n (h ||| dX n g c) && decide (pop (dX n g c) = k)) j)) → (∀ s, s < 15 → TB s (fun c => hol tx m T n (h ||| dX n g c)) (fun c => h ||| dX n g c) j a e) → ∃ me' ft' a' e', f_X0_learn_51 N c r (nI T) (nI (2 ^ uc n g)) fill (nI j) xLen xHits xUns xLet xRel xLim xOpen me xST ft (nI a) (nI e) = some (me', ft', nI a', nI e') ∧ (∀ k, k < 16 → ft' k = nI (fb_ct (fun c => hol tx m T n (h ||| dX n g c) && decide (pop (dX n g c) = k)) (2 ^ uc n g))) ∧ (∀ s, s < 15 → TB s (fun c => hol tx m T n (h ||| dX n g c)) (fun c => h ||| dX n g c) (2 ^ uc n g) a' e') := by
  have hp : 2 ^ n ≤ 2 ^ 15 := Nat.pow_le_pow_right (by omega) hn
  have hl := uc_le n g
  have hk : 2 ^ uc n g ≤ 2 ^ 15 := Nat.pow_le_pow_right (by omega) (by omega)
  intro z
  induction z with
  | zero =>
    intro j c a e fill ft me hj hc h1 h2 h3
    obtain ⟨c, rfl⟩ : ∃ z, c = z + 1 := ⟨c - 1, by omega⟩
    obtain rfl : j = 2 ^ uc n g := by omega
    rw [f_X0_learn_51, if_pos (nI_le (Nat.le_refl _) (by omega))]
    exact ⟨me, ft, a, e, rfl, h2, h3⟩
  | succ z ih =>
    intro j c a e fill ft me hj hc h1 h2 h3
    obtain ⟨c, rfl⟩ : ∃ z, c = z + 1 := ⟨c - 1, by omega⟩
    rw [h1 (by omega)]
    have hd := dX_lt (n := n) (g := g) j
    have hw : h ||| dX n g j < 2 ^ n := Nat.or_lt_two_pow hh hd
    obtain ⟨o, c1, c2⟩ := hold_X (N := N) (by omega) hm hf hR hT hn hw me
    have hpj : pop (dX n g j) ≤ n := pop_len hn hd
    have hnx : j + 1 < 2 ^ uc n g → (nI (dX n g j) - xUns r) &&& xUns r = nI (dX n g (j + 1)) := fun q => by rw [x3, next_fill hn q]
    rw [f_X0_learn_51, if_neg (nI_ge (by omega) (by omega)), x1, x2, fa_or, c1, bnd_s, c2]
    unfold f_X0_learn_117
    rw [nI_1]
    cases hq : hol tx m T n (h ||| dX n g j) with
    | false =>
      rw [if_pos (show bI false = 0 from rfl)]
      refine ih (j + 1) c a e _ ft o.2 (by omega) (by omega) hnx (fun k hk => ?_) (fun s hs => ?_)
      · rw [h2 k hk, fb_ct_succ, hq]; simp
      · exact TB_0 (h3 s hs) hq
    | true =>
      rw [if_neg (show ¬ bI true = 0 by decide), bc_ok (by omega), bnd_s, gIn_nI (by omega) (by decide), cl_nI (by omega), h2 _ (by omega), nI_1, fa_and, fa_or]
      refine ih (j + 1) c (a &&& (h ||| dX n g j)) (e ||| (h ||| dX n g j)) _ _ o.2 (by omega) (by omega) hnx (fun k hk => ?_) (fun s hs => ?_)
      · rw [fb_ct_succ, hq]
        by_cases q : k = pop (dX n g j)
        · subst q
          rw [pk_us]
          simp
        · rw [pk_un q, h2 k hk, show decide (pop (dX n g j) = k) = false from decide_eq_false (fun z => q z.symm)]
          simp
      · exact TB_1 (h3 s hs) hq
theorem dX_0 {n : Nat} {g : Nat → Int32} : dX n g 0 = 0 := by
  induction n with
  | zero => rfl
  | succ n ih =>
    rw [dX, show 0 / 2 = 0 from rfl, ih]
    split <;> rfl
theorem fl_z {N r : Nat} {x3 xST : Int32} {xLen xHits xUns xLet xRel xLim xOpen me : Nat → Int32} : ∀ (z j c : Nat) (ft : Nat → Int32) (fa fe : Int32), j + z = 16 → z < c → ∃ ft', f_X0_learn_3 N c r x3 (nI j) xLen xHits xUns xLet xRel xLim xOpen me xST ft fa fe = bnd (f_J6_bitCount_0f7a4 (xUns r)) (fun o9 => f_X0_learn_51 N N r x3 ((1 : Int32) <<< (o9 &&& 31)) 0 0 xLen xHits xUns xLet xRel xLim xOpen me xST ft' (-1) 0) ∧ ∀ k, k < 16 → ft' k = if j ≤ k then 0 else ft k := by
  intro z
  induction z with
  | zero =>
    intro j c ft fa fe hj hc
    obtain ⟨c, rfl⟩ : ∃ z, c = z + 1 := ⟨c - 1, by omega⟩
    obtain rfl : j = 16 := by omega
    rw [f_X0_learn_3, if_pos (show (15 : Int32) < nI 16 by decide)]
    exact ⟨ft, rfl, fun k hk => by rw [if_neg (by omega)]⟩
  | succ z ih =>
    intro j c ft fa fe hj hc
    obtain ⟨c, rfl⟩ : ∃ z, c = z + 1 := ⟨c - 1, by omega⟩
    rw [f_X0_learn_3, if_neg (show ¬ (15 : Int32) < nI j from nI_nlt (a := 15) (by omega) (by decide)), gIn_nI (by omega) (by decide), cl_nI (by omega), nI_1]
    obtain ⟨ft', a1, a2⟩ := ih (j + 1) c (upd ft j 0) fa fe (by omega) (by omega)
    refine ⟨ft', a1, fun k hk => ?_⟩
    rw [a2 k hk]
    by_cases h : k = j
    · subst h
      rw [if_neg (by omega), if_pos (by omega)]
      exact pk_us
    · rw [pk_un h]
      by_cases h2 : j ≤ k
      · rw [if_pos (by omega), if_pos h2]
      · rw [if_neg (by omega), if_neg h2]
theorem fl_ok {N n T m r h : Nat} {g : Nat → Int32} {tx : Nat → Nat} {xLen xHits xUns xLet xRel xLim xOpen : Nat → Int32} {xST xSD xSK : Int32} (hN : 40000 ≤ N) (hm : m ≤ 60) (hf : fpl tx m = -1) (hR : RXt xLet xRel xLim xOpen xST xSD xSK (pm tx m)) (hT : 2 ≤ T ∧ T < 128) (hn : n ≤ 15) (hh : h < 2 ^ n) (x1 : xLen r = nI n) (x2 : xHits r = nI h) (x3 : xUns r = nI (ub n g)) (ft me : Nat → Int32) (fa fe : Int32) :
    ∃ o a e, f_X0_learn N r (nI T) xLen xHits xUns xLet xRel xLim xOpen me xST ft fa fe = some o ∧ o.2.2.1 = nI a ∧ o.2.2.2 = nI e ∧ (∀ k, k < 16 → o.2.1 k = nI (fb_ct (fun c => hol tx m T n (h ||| dX n g c) && decide (pop (dX n g c) = k)) (2 ^ uc n g))) ∧ (∀ s, s < 15 → TB s (fun c => hol tx m T n (h ||| dX n g c)) (fun c => h ||| dX n g c) (2 ^ uc n g) a e) := by
  have hp : 2 ^ n ≤ 2 ^ 15 := Nat.pow_le_pow_right (by omega) hn
  have hu := ub_lt n g
  have hl := uc_le n g
  have hk : 2 ^ uc n g ≤ 2 ^ 15 := Nat.pow_le_pow_right (by omega) (by omega)
  unfold f_X0_learn
  obtain ⟨ft1, a1, a2⟩ := fl_z (N := N) (r := r) (x3 := nI T) (xST := xST) (xLen := xLen) (xHits := xHits) (xUns := xUns) (xLet := xLet) (xRel := xRel) (xLim := xLim) (xOpen := xOpen) (me := me) 16 0 N ft fa fe (by omega) (by omega)
  obtain ⟨me', ft', a', e', b1, b2, b3⟩ := fl_loop (r := r) (g := g) (xLen := xLen) (xHits := xHits) (xUns := xUns) hN hm hf hR hT hn hh x1 x2 x3 (2 ^ uc n g) 0 N (2 ^ 32 - 1) 0 0 ft1 me (by omega) (by omega) (fun q => by
    rw [dX_0]; rfl) (fun k hk => by rw [a2 k hk, if_pos (by omega)]; rfl) (fun s hs => ⟨by rw [ones_bit (by omega)]; rfl, by rw [Nat.zero_testBit]; rfl⟩)
  have e1 : f_X0_learn_3 N N r (nI T) (nI 0) xLen xHits xUns xLet xRel xLim xOpen me xST ft fa fe = some (me', ft', nI a', nI e') := by
    rw [a1, x3, bc_ok (by omega), bnd_s, pop_ub hn, one_shl (by omega), m1_nI]
    exact b1
  exact ⟨_, a', e', e1, rfl, rfl, b2, b3⟩
