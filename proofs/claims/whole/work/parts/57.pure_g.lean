/-! pure rows: the numbers of a row, M's loop -/
theorem z01 : ((0 : Int32) = 1) = False := eq_false (by decide)
theorem z10 : ((1 : Int32) = 0) = False := eq_false (by decide)
theorem nI1 : nI 1 = 1 := rfl
theorem nI0 : nI 0 = 0 := rfl
theorem nI15 : nI 15 = 15 := rfl
theorem nle_iff {a b : Nat} (ha : a < 2 ^ 31) (hb : b < 2 ^ 31) : (nI a ≤ nI b) = (a ≤ b) := propext (nI_leI ha hb)
theorem neq_iff {a b : Nat} (ha : a < 2 ^ 31) (hb : b < 2 ^ 31) : (nI a = nI b) = (a = b) := propext (nI_eq ha hb)
theorem step85 {N : Nat} {k : Int32 → Int32 → Int32 → Int32 → Int32 → Int32 → Int32 → Int32 → Int32 → Int32 → Int32 → Option Int32} {x1 x2 x3 pt : Int32} {R L H B F u i v : Nat} (like : Bool) (hL : L < 100) (hH : H < 100) (hF : F < 100) (hu : u < 100) (hv : v < 2) :
    f_X11_numberOf_85 N k x1 x2 x3 (nI R) (nI L) (nI H) (nI B) (nI F) (nI u) (nI i) (nI v) (if like then 1 else 0) pt = k x1 x2 x3 (nI (if like then R else R + 1)) (nI (max L (if like then u + 1 else 1))) (nI (if v = 1 then max H (if like then u + 1 else 1) else H)) (nI (if like = true ∧ v = 1 then B + 1 else B)) (nI (if v = 1 ∧ F = 15 then i else F)) (nI (if like then u + 1 else 1)) (nI (i + 1)) pt := by
  have key : ∀ (w : Nat) (R2 : Nat), w < 101 → ∀ (lk : Int32), lk = (if like then 1 else 0) → f_X11_numberOf_115 N k x1 x2 x3 (nI R2) (nI L) (nI H) (nI B) (nI F) (nI i) (nI v) lk (nI w) pt = k x1 x2 x3 (nI R2) (nI (max L w)) (nI (if v = 1 then max H w else H)) (nI (if like = true ∧ v = 1 then B + 1 else B)) (nI (if v = 1 ∧ F = 15 then i else F)) (nI w) (nI (i + 1)) pt := by
    intro w R2 hw lk hlk
    have k153 : ∀ (L2 H2 : Nat), f_X11_numberOf_153 N k x1 x2 x3 (nI R2) (nI L2) (nI B) (nI F) (nI w) (nI i) (nI v) lk (nI H2) pt = k x1 x2 x3 (nI R2) (nI L2) (nI H2) (nI (if like = true ∧ v = 1 then B + 1 else B)) (nI (if v = 1 ∧ F = 15 then i else F)) (nI w) (nI (i + 1)) pt := by
      intro L2 H2
      have k173 : ∀ (b1 : Nat) (s1 : Int32), nI B + s1 = nI b1 → f_X11_numberOf_173 N k x1 x2 x3 (nI R2) (nI L2) (nI H2) (nI F) (nI w) (nI i) (nI v) (nI B) s1 pt = k x1 x2 x3 (nI R2) (nI L2) (nI H2) (nI b1) (nI (if v = 1 ∧ F = 15 then i else F)) (nI w) (nI (i + 1)) pt := by
        intro b1 s1 hb1
        unfold f_X11_numberOf_173 f_X11_numberOf_194 f_X11_numberOf_196
        rw [hb1, show nI i + 1 = nI (i + 1) from nI_1 i]
        rcases bit01 hv with rfl | rfl
        · rw [if_neg (show ¬ nI 0 = 1 by decide), if_neg (show ¬ ((0 : Nat) = 1 ∧ F = 15) by omega)]
        · rw [if_pos (show nI 1 = 1 from rfl)]
          by_cases h15 : F = 15
          · rw [if_pos (show nI F = 15 by rw [h15]; rfl), if_pos ⟨rfl, h15⟩]
          · rw [if_neg (show ¬ nI F = 15 from fun q => h15 ((nI_eq (b := 15) (by omega) (by omega)).mp q)), if_neg (fun q => h15 q.2)]
      unfold f_X11_numberOf_153 f_X11_numberOf_172
      subst hlk
      cases like with
      | false =>
        rw [if_pos (show (if false = true then (1 : Int32) else 0) = 0 from rfl), k173 B 0 (nI_add B 0), if_neg (show ¬ (false = true ∧ v = 1) by simp)]
      | true =>
        rw [if_neg (show ¬ (if true = true then (1 : Int32) else 0) = 0 by decide)]
        rcases bit01 hv with rfl | rfl
        · rw [if_neg (show ¬ nI 0 = 1 by decide), k173 B 0 (nI_add B 0), if_neg (show ¬ (true = true ∧ (0 : Nat) = 1) by omega)]
        · rw [if_pos (show nI 1 = 1 from rfl), k173 (B + 1) 1 (nI_1 B), if_pos (show true = true ∧ (1 : Nat) = 1 from ⟨rfl, rfl⟩)]
    have k131 : ∀ (L2 : Nat), f_X11_numberOf_131 N k x1 x2 x3 (nI R2) (nI H) (nI B) (nI F) (nI w) (nI i) (nI v) lk (nI L2) pt = k x1 x2 x3 (nI R2) (nI L2) (nI (if v = 1 then max H w else H)) (nI (if like = true ∧ v = 1 then B + 1 else B)) (nI (if v = 1 ∧ F = 15 then i else F)) (nI w) (nI (i + 1)) pt := by
      intro L2
      unfold f_X11_numberOf_131 f_X11_numberOf_151
      by_cases hv1 : v = 1
      · rw [if_pos (show nI v = 1 by rw [hv1]; rfl), if_pos hv1]
        by_cases hc : w ≤ H
        · rw [if_pos (nI_le hc (by omega)), k153, Nat.max_eq_left hc]
        · rw [if_neg (nI_ge (by omega) (by omega)), k153, Nat.max_eq_right (a := H) (b := w) (by omega)]
      · rw [if_neg (show ¬ nI v = 1 from fun q => hv1 ((nI_eq (b := 1) (by omega) (by omega)).mp q)), if_neg hv1, k153]
    unfold f_X11_numberOf_115
    by_cases hc : w ≤ L
    · rw [if_pos (nI_le hc (by omega)), k131, Nat.max_eq_left (a := L) (b := w) hc]
    · rw [if_neg (nI_ge (by omega) (by omega)), k131, Nat.max_eq_right (a := L) (b := w) (by omega)]
  unfold f_X11_numberOf_85 f_X11_numberOf_99
  cases like with
  | false =>
    rw [if_pos (show (if false = true then (1 : Int32) else 0) = 0 from rfl), if_pos (show (if false = true then (1 : Int32) else 0) = 0 from rfl), nI_1]
    exact key 1 (R + 1) (by omega) 0 rfl
  | true =>
    rw [if_neg (show ¬ (if true = true then (1 : Int32) else 0) = 0 by decide), if_neg (show ¬ (if true = true then (1 : Int32) else 0) = 0 by decide), nI_1, show nI R + 0 = nI R from nI_add R 0]
    exact key (u + 1) R (by omega) 1 rfl
/-- sign j of a row of n signs, as bits -/
def sb (n b j : Nat) : Nat := b / 2 ^ (n - 1 - j) % 2
def ffN (s : Nat → Nat) : Nat → Nat
  | 0 => 15
  | i + 1 => if s i = 1 ∧ ffN s i = 15 then i else ffN s i
theorem ffN_le (s : Nat → Nat) (i : Nat) (h : i ≤ 15) : ffN s i ≤ 15 := by
  induction i with
  | zero => exact Nat.le_refl 15
  | succ i ih => rw [ffN]; have := ih (by omega); split <;> omega
theorem pre_s {n b i : Nat} (hi : i < n) : b / 2 ^ (n - (i + 1)) = 2 * (b / 2 ^ (n - i)) + sb n b i := by
  unfold sb
  have : b / 2 ^ (n - i) = b / 2 ^ (n - (i + 1)) / 2 := by
    rw [Nat.div_div_eq_div_mul, ← Nat.pow_succ, show (n - (i + 1)).succ = n - i by omega]
  rw [this, show n - 1 - i = n - (i + 1) by omega]
  omega
theorem pre_lt {n b i : Nat} (hb : b < 2 ^ n) (hi : i ≤ n) : b / 2 ^ (n - i) < 2 ^ i := by
  apply Nat.div_lt_of_lt_mul
  rw [← Nat.pow_add, show n - i + i = n by omega]
  exact hb
def cpl (i p : Nat) : Nat := 2 ^ i - 1 - p
theorem cpl_lt (i p : Nat) : cpl i p < 2 ^ i := by unfold cpl; have := Nat.two_pow_pos i; omega
theorem cpl_s {i p v : Nat} (h : p < 2 ^ i) (hv : v < 2) : cpl (i + 1) (2 * p + v) = 2 * cpl i p + (1 - v) := by
  unfold cpl
  rw [Nat.pow_succ]
  omega
/-- the numbers 1 to 5 of a row -/
def num5 (w n b : Nat) : Nat := if w = 1 then rnN n b else if w = 2 then max (lr b) (lr (cpl n b)) else if w = 3 then lr b else if w = 4 then pop (gA b) else ffN (sb n b) n
theorem lr_le (x : Nat) : lr x ≤ 15 := lrN_le 15 x
theorem tr_le (x : Nat) : tr x ≤ 15 := trN_le 15 x
theorem num_loop {N n b w : Nat} {pt : Int32} (hn : n ≤ 15) (hb : b < 2 ^ n) (hw : 1 ≤ w ∧ w ≤ 5) : ∀ (m i c u : Nat), i + m = n → m < c → u ≤ 15 →
    (0 < i → u = if b / 2 ^ (n - i) % 2 = 1 then tr (b / 2 ^ (n - i)) else tr (cpl i (b / 2 ^ (n - i)))) →
    f_X11_numberOf_44 N c (nI b) (nI n) (nI w) (nI (rnN i (b / 2 ^ (n - i)))) (nI (max (lr (b / 2 ^ (n - i))) (lr (cpl i (b / 2 ^ (n - i)))))) (nI (lr (b / 2 ^ (n - i)))) (nI (pop (gA (b / 2 ^ (n - i))))) (nI (ffN (sb n b) i)) (nI u) (nI i) pt = some (nI (num5 w n b)) := by
  intro m
  induction m with
  | zero =>
    intro i c u hi hc _ _
    obtain ⟨c, rfl⟩ : ∃ z, c = z + 1 := ⟨c - 1, by omega⟩
    obtain rfl : i = n := by omega
    rw [f_X11_numberOf_44, if_pos (nI_le (Nat.le_refl i) (by omega)), Nat.sub_self, Nat.pow_zero, Nat.div_one]
    unfold num5
    rcases (show w = 1 ∨ w = 2 ∨ w = 3 ∨ w = 4 ∨ w = 5 by omega) with rfl | rfl | rfl | rfl | rfl
    · rw [if_pos (show nI 1 = 1 from rfl), if_pos rfl]
    · rw [if_neg (show ¬ nI 2 = 1 by decide), if_pos (show nI 2 = 2 from rfl), if_neg (by omega), if_pos rfl]
    · rw [if_neg (show ¬ nI 3 = 1 by decide), if_neg (show ¬ nI 3 = 2 by decide), if_pos (show nI 3 = 3 from rfl), if_neg (by omega), if_neg (by omega), if_pos rfl]
    · rw [if_neg (show ¬ nI 4 = 1 by decide), if_neg (show ¬ nI 4 = 2 by decide), if_neg (show ¬ nI 4 = 3 by decide), if_pos (show nI 4 = 4 from rfl), if_neg (by omega), if_neg (by omega), if_neg (by omega), if_pos rfl]
    · rw [if_neg (show ¬ nI 5 = 1 by decide), if_neg (show ¬ nI 5 = 2 by decide), if_neg (show ¬ nI 5 = 3 by decide), if_neg (show ¬ nI 5 = 4 by decide), if_neg (by omega), if_neg (by omega), if_neg (by omega), if_neg (by omega)]
  | succ m ih =>
    intro i c u hi hc hu hrun
    obtain ⟨c, rfl⟩ : ∃ z, c = z + 1 := ⟨c - 1, by omega⟩
    have hin : i < n := by omega
    have hp2 : 2 ^ n ≤ 2 ^ 15 := Nat.pow_le_pow_right (by omega) hn
    have hpl := pre_lt hb (show i ≤ n by omega)
    have hps := pre_s (b := b) hin
    have hv : sb n b i < 2 := Nat.mod_lt _ (by omega)
    have hbit : (nI b >>> ((nI n - 1 - nI i) &&& 31)) &&& 1 = nI (sb n b i) := by
      rw [nI_sub1 hin, shr_nI (by omega) (by omega), and1_nI]; rfl
    have hnext := ih (i + 1) c
    rw [hps] at hnext
    generalize hpe : b / 2 ^ (n - i) = p at *
    generalize hve : sb n b i = v at *
    have hcl := cpl_lt i p
    have hcs := cpl_s (i := i) hpl hv
    have main : ∀ like : Bool, (like = true ↔ (0 < i ∧ p % 2 = v)) → f_X11_numberOf_85 N (fun y0 y1 y2 y3 y4 y5 y6 y7 y8 y9 y10 => f_X11_numberOf_44 N c y0 y1 y2 y3 y4 y5 y6 y7 y8 y9 y10) (nI b) (nI n) (nI w) (nI (rnN i p)) (nI (max (lr p) (lr (cpl i p)))) (nI (lr p)) (nI (pop (gA p))) (nI (ffN (sb n b) i)) (nI u) (nI i) (nI v) (if like then 1 else 0) pt = some (nI (num5 w n b)) := by
      intro like hlk
      have hl1 := lr_le p
      have hl2 := lr_le (cpl i p)
      have hf := ffN_le (sb n b) i (by omega)
      rw [step85 like (by omega) (by omega) (by omega) (by omega) hv]
      have hrun' : (if like then u + 1 else 1) = if v = 1 then tr p + 1 else tr (cpl i p) + 1 := by
        have hodd : cpl i p % 2 = 1 ↔ (0 < i ∧ ¬ p % 2 = 1) := by
          unfold cpl
          cases i with
          | zero => simp at hpl ⊢ <;> omega
          | succ i => rw [Nat.pow_succ] at hpl ⊢; omega
        by_cases hlike : like = true
        · have hh := hlk.mp hlike
          rw [if_pos hlike, hrun hh.1]
          rcases bit01 hv with rfl | rfl
          · rw [if_neg (by omega), if_neg (by omega)]
          · rw [if_pos hh.2, if_pos rfl]
        · have hh : ¬ (0 < i ∧ p % 2 = v) := fun q => hlike (hlk.mpr q)
          rw [if_neg hlike]
          rcases bit01 hv with rfl | rfl
          · rw [if_neg (by omega), tr_even hcl (by omega) (fun q => hh (by have := hodd.mp q; omega))]
          · rw [if_pos rfl]
            by_cases h0 : 0 < i
            · rw [tr_even hpl (by omega) (fun q => hh ⟨h0, q⟩)]
            · obtain rfl : i = 0 := by omega
              rw [tr_even hpl (by omega) (by simp at hpl; omega)]
      have ht1 : tr p ≤ i := by rw [tr_at hpl (by omega)]; exact trN_le i p
      have ht2 : tr (cpl i p) ≤ i := by rw [tr_at hcl (by omega)]; exact trN_le i _
      have e1 : (if like then rnN i p else rnN i p + 1) = rnN (i + 1) (2 * p + v) := by
        rw [rnN_s hpl (by omega) hv]
        by_cases hlike : like = true
        · rw [if_pos hlike, if_pos (hlk.mp hlike), Nat.add_zero]
        · rw [if_neg hlike, if_neg (fun q => hlike (hlk.mpr q))]
      have e2 : lr (2 * p + v) = if v = 1 then max (lr p) (if like then u + 1 else 1) else lr p := by
        rw [hrun']
        rcases bit01 hv with rfl | rfl
        · rw [if_neg (by omega), Nat.add_zero, lr_2 hpl (by omega)]
        · rw [if_pos rfl, if_pos rfl, lr_21 hpl (by omega)]
      have e3 : lr (2 * cpl i p + (1 - v)) = if v = 1 then lr (cpl i p) else max (lr (cpl i p)) (if like then u + 1 else 1) := by
        rw [hrun']
        rcases bit01 hv with rfl | rfl
        · rw [if_neg (by omega), if_neg (by omega), show 1 - 0 = 1 by omega, lr_21 hcl (by omega)]
        · rw [if_pos rfl, show 1 - 1 = 0 by omega, Nat.add_zero, lr_2 hcl (by omega)]
      have e4 : pop (gA (2 * p + v)) = if like = true ∧ v = 1 then pop (gA p) + 1 else pop (gA p) := by
        rw [pop_gA hpl (by omega) hv]
        by_cases hc : v = 1 ∧ p % 2 = 1
        · have h0 : 0 < i := by
            cases i with
            | zero => simp at hpl; omega
            | succ i => omega
          rw [if_pos hc, if_pos ⟨hlk.mpr ⟨h0, by omega⟩, hc.1⟩]
        · rw [if_neg hc, if_neg (fun q => hc ⟨q.2, by have := (hlk.mp q.1).2; omega⟩), Nat.add_zero]
      have e5 : ffN (sb n b) (i + 1) = if v = 1 ∧ ffN (sb n b) i = 15 then i else ffN (sb n b) i := by
        rw [ffN, hve]
      have e6 : max (max (lr p) (lr (cpl i p))) (if like then u + 1 else 1) = max (lr (2 * p + v)) (lr (cpl (i + 1) (2 * p + v))) := by
        rw [hcs, e2, e3]
        by_cases hv1 : v = 1
        · rw [if_pos hv1, if_pos hv1]; omega
        · rw [if_neg hv1, if_neg hv1]; omega
      have hn2 := hnext (if like then u + 1 else 1) (by omega) (by omega) (by rw [hrun']; split <;> omega) (fun _ => by
        rw [hrun']
        rcases bit01 hv with rfl | rfl
        · rw [if_neg (by omega), if_neg (by omega), hcs, show 1 - 0 = 1 by omega, tr_21 hcl (by omega)]
        · rw [if_pos rfl, if_pos (by omega), tr_21 hpl (by omega)])
      rw [← e1, ← e6, e2, e4, e5] at hn2
      exact hn2
    rw [f_X11_numberOf_44, if_neg (nI_ge hin (by omega)), hbit]
    by_cases h0 : i = 0
    · subst h0
      rw [if_pos (show nI 0 ≤ 0 by decide)]
      unfold f_X11_numberOf_84
      exact main false (by simp)
    · rw [if_neg (show ¬ nI i ≤ 0 from nI_nle (by omega) (by omega))]
      have hb2 : (nI b >>> ((nI n - nI i) &&& 31)) &&& 1 = nI (p % 2) := by
        rw [pk_sub (by omega), shr_nI (by omega) (by omega), and1_nI, hpe]
      rw [hb2]
      by_cases hl : p % 2 = v
      · rw [if_pos (by rw [hl])]
        exact main true ⟨fun _ => ⟨by omega, hl⟩, fun _ => rfl⟩
      · rw [if_neg (fun q => hl ((nI_eq (by omega) (by omega)).mp q))]
        unfold f_X11_numberOf_84
        exact main false ⟨fun q => absurd q (by decide), fun q => absurd q.2 hl⟩
theorem num_M {N n b w : Nat} {pt : Int32} (hN : 50 ≤ N) (hn : n ≤ 15) (hb : b < 2 ^ n) (hw : 1 ≤ w ∧ w ≤ 5) : f_X11_numberOf N (nI b) (nI n) (nI w) pt = some (nI (num5 w n b)) := by
  unfold f_X11_numberOf
  rw [if_neg (show ¬ nI w = 0 from nI_ne0 (by omega) (by omega)), if_neg (show ¬ nI w = 6 from fun q => by have := (nI_eq (b := 6) (by omega) (by omega)).mp q; omega)]
  have h := num_loop (N := N) (pt := pt) hn hb hw n 0 N 0 (by omega) (by omega) (by omega) (fun h => by omega)
  have hz : b / 2 ^ (n - 0) = 0 := Nat.div_eq_of_lt hb
  rw [hz] at h
  exact h
