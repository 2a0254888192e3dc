/-! pure rows: waits -/
/-- the hits of the first j signs of a pattern, and one -/
def hh (y j : Nat) : Nat := pop (y / 2 ^ (len y - j))
def oN (y p j : Nat) : Nat := p ^ (hh y j - 1) * (16 - p) ^ (j - (hh y j - 1))
def ovl (x y j : Nat) : Bool := decide (j ≤ len x) && (decide (j ≤ len y) && decide (x % 2 ^ j = y / 2 ^ (len y - j) % 2 ^ j))
def tX (x y p j : Nat) : Nat := if ovl x y j then 16 ^ j * (p ^ (6 - (hh y j - 1)) * (16 - p) ^ (6 - (j - (hh y j - 1)))) else 0
def tM (x y p j : Nat) : Nat := if ovl x y j then 16 ^ j * (oN y p (len y) / oN y p j) else 0
def sS (t : Nat → Nat) : Nat → Nat → Nat
  | _, 0 => 0
  | j, z + 1 => t j + sS t (j + 1) z
theorem sS_zero {t : Nat → Nat} : ∀ {z j : Nat}, (∀ k, j ≤ k → t k = 0) → sS t j z = 0 := by
  intro z
  induction z with
  | zero => intro j _; rfl
  | succ z ih =>
    intro j h
    rw [sS, h j (Nat.le_refl _), ih (fun k hk => h k (by omega))]
theorem sS_le {t : Nat → Nat} {B : Nat} (h : ∀ k, t k ≤ B) : ∀ {z j : Nat}, sS t j z ≤ z * B := by
  intro z
  induction z with
  | zero => intro j; exact Nat.zero_le _
  | succ z ih =>
    intro j
    have a := h j
    have b := ih (j := j + 1)
    rw [sS, Nat.succ_mul]
    omega
def hhC (y j : Nat) : Bool := Nat.ble 1 (hh y j) && (Nat.ble (hh y j) (j + 1) && (Nat.ble (hh y j) (hh y (len y)) && (Nat.ble (j - (hh y j - 1)) (len y - (hh y (len y) - 1)) && ((Nat.ble (len y) j || Nat.beq (hh y (j + 1)) (hh y j + y / 2 ^ (len y - 1 - j) % 2)) && (Nat.ble (y / 2 ^ (len y - j)) 127 && Nat.beq (y / 2 ^ (len y - j)) (2 ^ j + y / 2 ^ (len y - j) % 2 ^ j))))))
set_option maxRecDepth 100000 in
theorem hhC_all : ∀ y, y < 128 → 2 ≤ y → ∀ j, j < 7 → j ≤ len y → hhC y j = true := by decide +kernel
theorem hh_all (y : Nat) (hy : y < 128) (hy2 : 2 ≤ y) (j : Nat) (hj : j < 7) (hl : j ≤ len y) : 1 ≤ hh y j ∧ hh y j ≤ j + 1 ∧ hh y j ≤ hh y (len y) ∧ j - (hh y j - 1) ≤ len y - (hh y (len y) - 1) ∧ (j < len y → hh y (j + 1) = hh y j + y / 2 ^ (len y - 1 - j) % 2) ∧ y / 2 ^ (len y - j) < 128 ∧ y / 2 ^ (len y - j) = 2 ^ j + y / 2 ^ (len y - j) % 2 ^ j := by
  have h := hhC_all y hy hy2 j hj hl
  unfold hhC at h
  rw [Bool.and_eq_true, Bool.and_eq_true, Bool.and_eq_true, Bool.and_eq_true, Bool.and_eq_true, Bool.and_eq_true, Bool.or_eq_true] at h
  obtain ⟨h1, h2, h3, h4, h5, h6, h7⟩ := h
  have h6' := Nat.le_of_ble_eq_true h6
  refine ⟨Nat.le_of_ble_eq_true h1, Nat.le_of_ble_eq_true h2, Nat.le_of_ble_eq_true h3, Nat.le_of_ble_eq_true h4, fun q => ?_, Nat.lt_succ_of_le h6', Nat.eq_of_beq_eq_true h7⟩
  rcases h5 with h5 | h5
  · have := Nat.le_of_ble_eq_true h5
    omega
  · exact Nat.eq_of_beq_eq_true h5
theorem mul4 (a b c d : Nat) : a * b * (c * d) = a * d * (c * b) := by ac_rfl
theorem pw16 {p a : Nat} (hp : p ≤ 15) : p ^ a ≤ 16 ^ a := Nat.pow_le_pow_left (by omega) a
theorem pw16q {p a : Nat} (hp : p ≤ 15) : (16 - p) ^ a ≤ 16 ^ a := Nat.pow_le_pow_left (by omega) a
theorem oN_le {y p j : Nat} (hy : 2 ≤ y ∧ y < 128) (hp : 1 ≤ p ∧ p ≤ 15) (hj : j ≤ len y) : oN y p j ≤ 16 ^ j ∧ 0 < oN y p j := by
  have hl := len_all y hy.2 hy.1
  obtain ⟨a1, a2, -⟩ := hh_all y hy.2 hy.1 j (by omega) hj
  refine ⟨?_, Nat.mul_pos (Nat.pow_pos (by omega)) (Nat.pow_pos (by omega))⟩
  have := Nat.mul_le_mul (pw16 (a := hh y j - 1) hp.2) (pw16q (a := j - (hh y j - 1)) hp.2)
  rw [← Nat.pow_add, show hh y j - 1 + (j - (hh y j - 1)) = j by omega] at this
  exact this
theorem p16s (j : Nat) (h : j ≤ 6) : 16 ^ j ≤ 2 ^ 24 := by
  have : 16 ^ j ≤ 16 ^ 6 := Nat.pow_le_pow_right (by omega) h
  exact Nat.le_trans this (by decide)
theorem l_q {p : Nat} (hp : p ≤ 15) : ((16 : Int32) - nI p).toInt64 = lN (16 - p) := by
  rw [show (16 : Int32) = nI 16 from rfl, pk_sub (by omega), nI_l (by omega)]
theorem odds_loop {N y p J : Nat} (hy : 2 ≤ y ∧ y < 128) (hp : 1 ≤ p ∧ p ≤ 15) (hJ : J ≤ len y) : ∀ (z j c : Nat), j + z = J → z < c → f_X11_oddsOf_11 N c (nI y) (nI J) (nI (len y)) (lN (oN y p j)) (nI j) (nI p) = some (lN (oN y p J)) := by
  have hl := len_all y hy.2 hy.1
  intro z
  induction z with
  | zero =>
    intro j c hj hc
    obtain ⟨c, rfl⟩ : ∃ z, c = z + 1 := ⟨c - 1, by omega⟩
    obtain rfl : j = J := by omega
    rw [f_X11_oddsOf_11, if_pos (nI_le (Nat.le_refl _) (by omega))]
  | succ z ih =>
    intro j c hj hc
    obtain ⟨c, rfl⟩ : ∃ z, c = z + 1 := ⟨c - 1, by omega⟩
    obtain ⟨a1, a2, a3, a4, a5, -⟩ := hh_all y hy.2 hy.1 j (by omega) (by omega)
    have a6 := a5 (by omega)
    have hi := ih (j + 1) c (by omega) (by omega)
    rw [f_X11_oddsOf_11, if_neg (nI_ge (by omega) (by omega)), nI_sub1 (by omega), shr_nI (by omega) (by omega), and1_nI, nI_l (by omega), l_q hp.2]
    unfold f_X11_oddsOf_49
    rw [lN_mul, lN_mul, nI_1]
    rcases bit01 (show y / 2 ^ (len y - 1 - j) % 2 < 2 by omega) with e | e
    · rw [e] at a6 ⊢
      rw [if_neg (by decide)]
      have : oN y p (j + 1) = oN y p j * (16 - p) := by
        unfold oN
        rw [a6, Nat.add_zero, show j + 1 - (hh y j - 1) = j - (hh y j - 1) + 1 by omega, Nat.pow_succ, Nat.mul_assoc]
      rw [← this]
      exact hi
    · rw [e] at a6 ⊢
      rw [if_pos (by decide)]
      have : oN y p (j + 1) = oN y p j * p := by
        unfold oN
        rw [a6, show hh y j + 1 - 1 = hh y j - 1 + 1 by omega, show j + 1 - (hh y j - 1 + 1) = j - (hh y j - 1) by omega, Nat.pow_succ, Nat.mul_assoc, Nat.mul_assoc, Nat.mul_comm p]
      rw [← this]
      exact hi
theorem odds_M {N y p J : Nat} (hN : 50 ≤ N) (hy : 2 ≤ y ∧ y < 128) (hp : 1 ≤ p ∧ p ≤ 15) (hJ : J ≤ len y) : f_X11_oddsOf N (nI y) (nI J) (nI p) = some (lN (oN y p J)) := by
  have hl := len_all y hy.2 hy.1
  obtain ⟨a1, a2, -⟩ := hh_all y hy.2 hy.1 0 (by omega) (by omega)
  have h0 : oN y p 0 = 1 := by
    unfold oN
    rw [show hh y 0 - 1 = 0 by omega]
    rfl
  unfold f_X11_oddsOf
  rw [len_M hN hy.2, bnd_s]
  have := odds_loop (N := N) hy hp hJ J 0 N (by omega) (by omega)
  rw [h0] at this
  exact this
theorem ovl_M {N x y j : Nat} (hN : 50 ≤ N) (hx : 2 ≤ x ∧ x < 128) (hy : 2 ≤ y ∧ y < 128) (hj : j ≤ 6) : f_X11_overlaps N (nI x) (nI y) (nI j) = some (bI (ovl x y j)) := by
  have lx := len_all x hx.2 hx.1
  have ly := len_all y hy.2 hy.1
  unfold f_X11_overlaps ovl
  rw [len_M hN hx.2, bnd_s, len_M hN hy.2, bnd_s, bnd_s]
  by_cases h1 : j ≤ len x
  · rw [if_neg (nI_nlt (by omega) (by omega)), decide_eq_true h1, Bool.true_and]
    by_cases h2 : j ≤ len y
    · have hm1 : x % 2 ^ j < 2 ^ 31 := Nat.lt_of_le_of_lt (Nat.mod_le _ _) (by omega)
      have hm2 : y / 2 ^ (len y - j) % 2 ^ j < 2 ^ 31 := Nat.lt_of_le_of_lt (Nat.le_trans (Nat.mod_le _ _) (Nat.div_le_self _ _)) (by omega)
      rw [if_neg (nI_nlt (by omega) (by omega)), decide_eq_true h2, Bool.true_and, mask_of (by omega), mask_nI, pk_sub h2, shr_nI (by omega) (by omega), mask_nI]
      by_cases h3 : x % 2 ^ j = y / 2 ^ (len y - j) % 2 ^ j
      · rw [if_pos (congrArg nI h3), decide_eq_true h3, bI_1]
      · rw [if_neg (fun e => h3 ((nI_eq hm1 hm2).mp e)), decide_eq_false h3, bI_0]
    · rw [if_pos (nI_lt (by omega) (by omega)), decide_eq_false h2, Bool.false_and, bI_0]
  · rw [if_pos (nI_lt (by omega) (by omega)), decide_eq_false h1, Bool.false_and, bI_0]
theorem ovl_no {x y j : Nat} (h : len x < j ∨ len y < j) : ovl x y j = false := by
  unfold ovl
  by_cases h1 : j ≤ len x
  · rw [decide_eq_false (show ¬ j ≤ len y by omega), Bool.false_and, Bool.and_false]
  · rw [decide_eq_false h1, Bool.false_and]
theorem ovl_yes {x y j : Nat} (h : ovl x y j = true) : j ≤ len x ∧ j ≤ len y ∧ x % 2 ^ j = y / 2 ^ (len y - j) % 2 ^ j := by
  unfold ovl at h
  rw [Bool.and_eq_true, Bool.and_eq_true] at h
  exact ⟨of_decide_eq_true h.1, of_decide_eq_true h.2.1, of_decide_eq_true h.2.2⟩
theorem leadM_loop {N x y p : Nat} (hN : 50 ≤ N) (hx : 2 ≤ x ∧ x < 128) (hy : 2 ≤ y ∧ y < 128) (hp : 1 ≤ p ∧ p ≤ 15) : ∀ (z j c acc : Nat), j + z = 7 → 1 ≤ j → z < c → f_X11_lead_11 N c (nI x) (nI y) (nI (len y)) (lN acc) (nI j) (nI p) = some (lN (acc + sS (tM x y p) j z)) := by
  have lx := len_all x hx.2 hx.1
  have ly := len_all y hy.2 hy.1
  have out : ∀ (z j c acc : Nat), 1 ≤ c → j ≤ 7 → len y < j → f_X11_lead_11 N c (nI x) (nI y) (nI (len y)) (lN acc) (nI j) (nI p) = some (lN (acc + sS (tM x y p) j z)) := fun z j c acc hc h7 h => by
    obtain ⟨c, rfl⟩ : ∃ z, c = z + 1 := ⟨c - 1, by omega⟩
    rw [f_X11_lead_11, if_pos (nI_lt h (by omega)), sS_zero (fun k hk => by unfold tM; rw [ovl_no (Or.inr (by omega))]; rfl), Nat.add_zero]
  intro z
  induction z with
  | zero =>
    intro j c acc hj h1 hc
    exact out 0 j c acc (by omega) (by omega) (by omega)
  | succ z ih =>
    intro j c acc hj h1 hc
    by_cases h : len y < j
    · exact out _ j c acc (by omega) (by omega) h
    obtain ⟨c, rfl⟩ : ∃ z, c = z + 1 := ⟨c - 1, by omega⟩
    obtain ⟨o1, o2⟩ := oN_le (j := j) hy hp (by omega)
    obtain ⟨o3, o4⟩ := oN_le (j := len y) hy hp (by omega)
    have q1 := p16s j (by omega)
    have q2 := p16s (len y) (by omega)
    have hi := fun a => ih (j + 1) c a (by omega) (by omega) (by omega)
    rw [f_X11_lead_11, if_neg (nI_nlt (by omega) (by omega)), ovl_M hN hx hy (by omega), bnd_s, l16, pow_M (by omega) (by omega), bnd_s, odds_M hN hy hp (by omega), bnd_s, odds_M hN hy hp (by omega), bnd_s, gNeL_of (lN_ne (by omega) o2), pk_lDiv (by omega) o2 (by omega), lN_mul]
    unfold f_X11_lead_56
    rw [lN_add, nI_1, l_add0]
    dsimp only
    rw [hi, hi, sS]
    unfold tM
    cases ovl x y j with
    | false => rw [bI_0, if0_0]; exact congrArg (fun z => some (lN z)) (by show acc + _ = acc + (0 + _); omega)
    | true => rw [bI_1, if1_0]; exact congrArg (fun z => some (lN z)) (by rw [if_pos rfl, Nat.add_assoc])
theorem lead_M {N x y p : Nat} (hN : 50 ≤ N) (hx : 2 ≤ x ∧ x < 128) (hy : 2 ≤ y ∧ y < 128) (hp : 1 ≤ p ∧ p ≤ 15) : f_X11_lead N (nI x) (nI y) (nI p) = some (lN (sS (tM x y p) 1 6)) := by
  unfold f_X11_lead
  rw [len_M hN hy.2, bnd_s]
  have := leadM_loop (N := N) hN hx hy hp 6 1 N 0 (by omega) (by omega) (by omega)
  rw [Nat.zero_add] at this
  exact this
theorem chance_X {N p a b : Nat} (hN : 50 ≤ N) (hp : p ≤ 15) (ha : a ≤ 6) (hb : b ≤ 6) : f_X4_chanceParts N (nI p) (nI a) (nI b) = some (lN (p ^ a * (16 - p) ^ b)) := by
  unfold f_X4_chanceParts
  rw [nI_l (by omega), l_q hp, pow_X (by omega) (by omega), bnd_s, pow_X (by omega) (by omega), bnd_s, lN_mul]
theorem leadX_loop {N x y p : Nat} (hN : 50 ≤ N) (hx : 2 ≤ x ∧ x < 128) (hy : 2 ≤ y ∧ y < 128) (hp : 1 ≤ p ∧ p ≤ 15) : ∀ (z j c acc : Nat), j + z = 7 → 1 ≤ j → z < c → f_X4_lead_17 N c (nI x) (nI y) (nI p) (nI (len x)) (nI (len y)) (lN acc) (nI j) = some (lN (acc + sS (tX x y p) j z)) := by
  have lx := len_all x hx.2 hx.1
  have ly := len_all y hy.2 hy.1
  have out : ∀ (z j c acc : Nat), 1 ≤ c → j ≤ 7 → (len x < j ∨ len y < j) → f_X4_lead_17 N c (nI x) (nI y) (nI p) (nI (len x)) (nI (len y)) (lN acc) (nI j) = some (lN (acc + sS (tX x y p) j z)) := fun z j c acc hc h7 h => by
    obtain ⟨c, rfl⟩ : ∃ z, c = z + 1 := ⟨c - 1, by omega⟩
    rw [f_X4_lead_17, sS_zero (fun k hk => by unfold tX; rw [ovl_no (by omega)]; rfl), Nat.add_zero]
    unfold f_X4_lead_115
    by_cases h1 : len x < j
    · rw [if_pos (nI_lt h1 (by omega))]
    · rw [if_neg (nI_nlt (by omega) (by omega)), if_pos (nI_lt (by omega) (by omega))]
  intro z
  induction z with
  | zero =>
    intro j c acc hj h1 hc
    exact out 0 j c acc (by omega) (by omega) (by omega)
  | succ z ih =>
    intro j c acc hj h1 hc
    by_cases h : len x < j ∨ len y < j
    · exact out _ j c acc (by omega) (by omega) h
    obtain ⟨c, rfl⟩ : ∃ z, c = z + 1 := ⟨c - 1, by omega⟩
    obtain ⟨a1, a2, a3, a4, a5, a6, a7⟩ := hh_all y hy.2 hy.1 j (by omega) (by omega)
    have hi := fun a => ih (j + 1) c a (by omega) (by omega) (by omega)
    have hm : x % 2 ^ j < 2 ^ j := Nat.mod_lt _ (Nat.two_pow_pos j)
    have hp7 : 2 ^ j ≤ 2 ^ 6 := Nat.pow_le_pow_right (by omega) (by omega)
    have e1 : ((1 : Int32) <<< (nI j &&& 31)) ||| (nI x &&& (((1 : Int32) <<< (nI j &&& 31)) - 1)) = nI (2 ^ j + x % 2 ^ j) := by
      rw [mask_of (by omega), mask_nI, one_shl (by omega)]
      have := fa_or_sum (k := j) 1 hm
      rw [Nat.mul_one] at this
      exact this
    have e2 : nI y >>> ((nI (len y) - nI j) &&& 31) = nI (y / 2 ^ (len y - j)) := by rw [pk_sub (by omega), shr_nI (by omega) (by omega)]
    have e3 : (6 : Int32) - (nI (hh y j) - 1) = nI (6 - (hh y j - 1)) := by
      rw [show (1 : Int32) = nI 1 from rfl, pk_sub a1, show (6 : Int32) = nI 6 from rfl, pk_sub (by omega)]
    have e4 : (6 : Int32) - (nI j - (nI (hh y j) - 1)) = nI (6 - (j - (hh y j - 1))) := by
      rw [show (1 : Int32) = nI 1 from rfl, pk_sub a1, pk_sub (by omega), show (6 : Int32) = nI 6 from rfl, pk_sub (by omega)]
    rw [f_X4_lead_17, if_neg (nI_nlt (by omega) (by omega)), if_neg (nI_nlt (by omega) (by omega)), e1, e2, bc_ok (by omega), bnd_s, show pop (y / 2 ^ (len y - j)) = hh y j from rfl, e3, e4, chance_X hN hp.2 (by omega) (by omega), bnd_s, l16, pow_X (by omega) (by omega), bnd_s, lN_mul, lN_add]
    unfold f_X4_lead_109
    rw [nI_1]
    dsimp only
    rw [hi, hi, sS]
    unfold tX
    by_cases q : 2 ^ j + x % 2 ^ j = y / 2 ^ (len y - j)
    · have : ovl x y j = true := by
        unfold ovl
        rw [decide_eq_true (show j ≤ len x by omega), decide_eq_true (show j ≤ len y by omega), decide_eq_true (show x % 2 ^ j = y / 2 ^ (len y - j) % 2 ^ j by omega)]
        rfl
      rw [if_pos (congrArg nI q), this]
      exact congrArg (fun z => some (lN z)) (by rw [if_pos rfl, Nat.add_assoc])
    · have : ovl x y j = false := by
        cases hov : ovl x y j with
        | false => rfl
        | true =>
          have := (ovl_yes hov).2.2
          omega
      rw [if_neg (fun e => q ((nI_eq (by omega) (by omega)).mp e)), this]
      exact congrArg (fun z => some (lN z)) (by show acc + _ = acc + (0 + _); omega)
theorem lead_X {N x y p : Nat} (hN : 50 ≤ N) (hx : 2 ≤ x ∧ x < 128) (hy : 2 ≤ y ∧ y < 128) (hp : 1 ≤ p ∧ p ≤ 15) : f_X4_lead N (nI x) (nI y) (nI p) = some (lN (sS (tX x y p) 1 6)) := by
  unfold f_X4_lead
  rw [len_X hN hx.2, bnd_s, len_X hN hy.2, bnd_s]
  have := leadX_loop (N := N) hN hx hy hp 6 1 N 0 (by omega) (by omega) (by omega)
  rw [Nat.zero_add] at this
  exact this
def uP (p : Nat) : Nat := p ^ 6 * (16 - p) ^ 6
theorem uP_rng {p : Nat} (hp : 1 ≤ p ∧ p ≤ 15) : 0 < uP p ∧ uP p ≤ 2 ^ 48 := by
  refine ⟨Nat.mul_pos (Nat.pow_pos (by omega)) (Nat.pow_pos (by omega)), ?_⟩
  exact Nat.le_trans (Nat.mul_le_mul (pw16 (a := 6) hp.2) (pw16q (a := 6) hp.2)) (by decide)
theorem t_rel {x y p j : Nat} (hy : 2 ≤ y ∧ y < 128) (hp : 1 ≤ p ∧ p ≤ 15) (hj : j ≤ 6) : tX x y p j * oN y p (len y) = tM x y p j * uP p := by
  unfold tX tM
  cases hov : ovl x y j with
  | false => rw [if_neg (by decide), if_neg (by decide), Nat.zero_mul, Nat.zero_mul]
  | true =>
    obtain ⟨-, h2, -⟩ := ovl_yes hov
    have ly := len_all y hy.2 hy.1
    obtain ⟨a1, a2, a3, a4, -⟩ := hh_all y hy.2 hy.1 j (by omega) h2
    obtain ⟨b1, b2, -⟩ := hh_all y hy.2 hy.1 (len y) (by omega) (by omega)
    obtain ⟨o1, o2⟩ := oN_le (j := j) hy hp h2
    have eB : oN y p (len y) = oN y p j * (p ^ (hh y (len y) - hh y j) * (16 - p) ^ (len y - (hh y (len y) - 1) - (j - (hh y j - 1)))) := by
      have s1 : p ^ (hh y (len y) - 1) = p ^ (hh y j - 1) * p ^ (hh y (len y) - hh y j) := by rw [← Nat.pow_add]; exact congrArg _ (by omega)
      have s2 : (16 - p) ^ (len y - (hh y (len y) - 1)) = (16 - p) ^ (j - (hh y j - 1)) * (16 - p) ^ (len y - (hh y (len y) - 1) - (j - (hh y j - 1))) := by rw [← Nat.pow_add]; exact congrArg _ (by omega)
      unfold oN
      rw [s1, s2]
      exact Nat.mul_mul_mul_comm _ _ _ _
    have eA : uP p = oN y p j * (p ^ (6 - (hh y j - 1)) * (16 - p) ^ (6 - (j - (hh y j - 1)))) := by
      have s1 : p ^ 6 = p ^ (hh y j - 1) * p ^ (6 - (hh y j - 1)) := by rw [← Nat.pow_add]; exact congrArg _ (by omega)
      have s2 : (16 - p) ^ 6 = (16 - p) ^ (j - (hh y j - 1)) * (16 - p) ^ (6 - (j - (hh y j - 1))) := by rw [← Nat.pow_add]; exact congrArg _ (by omega)
      unfold oN uP
      rw [s1, s2]
      exact Nat.mul_mul_mul_comm _ _ _ _
    rw [if_pos rfl, if_pos rfl, eA, eB, Nat.mul_div_cancel_left _ o2]
    exact mul4 _ _ _ _
theorem s_rel {x y p : Nat} (hy : 2 ≤ y ∧ y < 128) (hp : 1 ≤ p ∧ p ≤ 15) : ∀ z j, j + z ≤ 7 → sS (tX x y p) j z * oN y p (len y) = sS (tM x y p) j z * uP p := by
  intro z
  induction z with
  | zero => intro j _; rw [sS, sS, Nat.zero_mul, Nat.zero_mul]
  | succ z ih =>
    intro j hj
    rw [sS, sS, Nat.add_mul, Nat.add_mul, ih (j + 1) (by omega), t_rel hy hp (by omega)]
theorem tX_le {x y p j : Nat} (hy : 2 ≤ y ∧ y < 128) (hp : 1 ≤ p ∧ p ≤ 15) : tX x y p j ≤ 2 ^ 48 := by
  unfold tX
  cases hov : ovl x y j with
  | false => rw [if_neg (by decide)]; exact Nat.zero_le _
  | true =>
    rw [if_pos rfl]
    obtain ⟨-, h2, -⟩ := ovl_yes hov
    have ly := len_all y hy.2 hy.1
    obtain ⟨a1, a2, a3, a4, -⟩ := hh_all y hy.2 hy.1 j (by omega) h2
    have := Nat.mul_le_mul (Nat.le_refl (16 ^ j)) (Nat.mul_le_mul (pw16 (a := 6 - (hh y j - 1)) hp.2) (pw16q (a := 6 - (j - (hh y j - 1))) hp.2))
    rw [← Nat.pow_add, ← Nat.pow_add, show j + (6 - (hh y j - 1) + (6 - (j - (hh y j - 1)))) = 12 by omega] at this
    exact Nat.le_trans this (by decide)
theorem tM_le {x y p j L : Nat} (hy : 2 ≤ y ∧ y < 128) (hp : 1 ≤ p ∧ p ≤ 15) (hL : len y ≤ L) : tM x y p j ≤ 16 ^ (L + L) := by
  unfold tM
  cases hov : ovl x y j with
  | false => rw [if_neg (by decide)]; exact Nat.zero_le _
  | true =>
    rw [if_pos rfl]
    obtain ⟨-, h2, -⟩ := ovl_yes hov
    obtain ⟨o1, o2⟩ := oN_le (j := len y) hy hp (Nat.le_refl _)
    rw [Nat.pow_add]
    exact Nat.mul_le_mul (Nat.pow_le_pow_right (by omega) (by omega)) (Nat.le_trans (Nat.div_le_self _ _) (Nat.le_trans o1 (Nat.pow_le_pow_right (by omega) hL)))
theorem LX_le {x y p : Nat} (hy : 2 ≤ y ∧ y < 128) (hp : 1 ≤ p ∧ p ≤ 15) : sS (tX x y p) 1 6 ≤ 6 * 2 ^ 48 := sS_le (fun k => tX_le hy hp)
theorem LM_le {x y p L : Nat} (hy : 2 ≤ y ∧ y < 128) (hp : 1 ≤ p ∧ p ≤ 15) (hL : len y ≤ L) : sS (tM x y p) 1 6 ≤ 6 * 16 ^ (L + L) := sS_le (fun k => tM_le hy hp hL)
/-- how long a pattern is waited for -/
def wai (p T : Nat) (w : Int32) : Int64 := frc (sS (tM T T p) 1 6) (oN T p (len T)) w
theorem wai_X {p T : Nat} (hT : 2 ≤ T ∧ T < 128) (hp : 1 ≤ p ∧ p ≤ 15) (w : Int32) : frc (sS (tX T T p) 1 6) (uP p) w = wai p T w := by
  obtain ⟨o1, o2⟩ := oN_le (y := T) (j := len T) hT hp (Nat.le_refl _)
  obtain ⟨u1, u2⟩ := uP_rng hp
  unfold wai
  rw [← frc_mul (A := sS (tX T T p) 1 6) (B := uP p) o2, s_rel hT hp 6 1 (by omega), Nat.mul_comm (uP p), frc_mul u1]
theorem now_waits {N p T : Nat} (hN : 200 ≤ N) (hT : 2 ≤ T ∧ T < 128) (hp : 1 ≤ p ∧ p ≤ 15) (w : Int32) : f_X11_waitsNow N w (nI p) (nI T) = some (wai p T w) := by
  have ly := len_all T hT.2 hT.1
  obtain ⟨o1, o2⟩ := oN_le (y := T) (j := len T) hT hp (Nat.le_refl _)
  have q1 := p16s (len T) (by omega)
  have q2 : sS (tM T T p) 1 6 ≤ 6 * 16 ^ 12 := LM_le (L := 6) hT hp (by omega)
  unfold f_X11_waitsNow
  rw [lead_M (by omega) hT hT hp, bnd_s, len_M (by omega) hT.2, bnd_s, odds_M (by omega) hT hp (Nat.le_refl _), bnd_s, low_M hN (Nat.lt_of_le_of_lt q2 (by decide)) (by omega) (by omega), bnd_s]
  rfl
theorem waits_X {N p T : Nat} (hN : 200 ≤ N) (hT : 2 ≤ T ∧ T < 128) (hp : 1 ≤ p ∧ p ≤ 15) {w : Int32} (hw : f_X10_isPart w = some 1) : f_X10_waits N w (nI p) (nI T) = some (wai p T w) := by
  have q2 := LX_le (x := T) hT hp
  obtain ⟨u1, u2⟩ := uP_rng hp
  unfold f_X10_waits f_X4_leadUnit
  rw [hw, bnd_s, if1_0, lead_X (by omega) hT hT hp, bnd_s, show (6 : Int32) = nI 6 from rfl, chance_X (by omega) hp.2 (by omega) (by omega), bnd_s, bnd_s, show p ^ 6 * (16 - p) ^ 6 = uP p from rfl, part_X hN (by omega) (by omega) (by omega), bnd_s, wai_X hT hp]
theorem p_waits {N p T : Nat} (hN : 200 ≤ N) (hT : 2 ≤ T ∧ T < 128) (hp : 1 ≤ p ∧ p ≤ 15) (x1 : Int32) : ∃ o, f_X10_waits N x1 (nI p) (nI T) = some o ∧ f_X11_waits N x1 (nI p) (nI T) = some o := by
  rcases part_cases x1 with ⟨-, w1, w2⟩ | ⟨w1, w2⟩
  · refine ⟨_, waits_X hN hT hp w2, ?_⟩
    unfold f_X11_waits
    rw [w1, bnd_s, if1_0, now_waits hN hT hp, bnd_s]
  · obtain ⟨v2, e2⟩ := refusal_s (-2)
    unfold f_X11_waits f_X10_waits
    rw [w1, w2, bnd_s, bnd_s, if0_0, if0_0, no_ok, e2]
    exact ⟨_, rfl, rfl⟩
