/-! pure rows: SENTENCES: a machine that reads byte by byte, and X's side of it -/
def lt7 (b : Nat) : Nat := if b = 111 then 0 else if b = 114 then 1 else if b = 108 then 2 else if b = 104 then 3 else if b = 98 then 4 else if b = 102 then 5 else if b = 112 then 6 else 7
theorem numberBy_ok : ∀ b, b < 256 → f_X11_numberBy (nI b) = some (if lt7 b = 7 then -1 else nI (lt7 b)) := by decide +kernel
theorem lt7_le (b : Nat) : lt7 b ≤ 7 := by
  unfold lt7
  repeat' split
  all_goals omega
theorem ixc_step {N c j : Nat} {x4 : Int32} (hj : j < 7) : f_J1_indexOfChar_4cfef_7 N (c + 1) 7 x4 (nI j) = if zBytes j = x4 then some (nI j) else f_J1_indexOfChar_4cfef_7 N c 7 x4 (nI (j + 1)) := by
  rw [f_J1_indexOfChar_4cfef_7, if_neg (show ¬ (7 : Int32) ≤ nI j from nI_ge (b := 7) hj (by omega)), gIn_nI hj (by decide), cl_nI (by omega), show nI j + 1 = nI (j + 1) from nI_1 j]
theorem ixc_end {N c : Nat} {x4 : Int32} : f_J1_indexOfChar_4cfef_7 N (c + 1) 7 x4 (nI 7) = some (-1) := by
  rw [f_J1_indexOfChar_4cfef_7, if_pos (show (7 : Int32) ≤ nI 7 by decide)]
def ixc (x4 : Int32) : Option Int32 := if zBytes 0 = x4 then some (nI 0) else if zBytes 1 = x4 then some (nI 1) else if zBytes 2 = x4 then some (nI 2) else if zBytes 3 = x4 then some (nI 3) else if zBytes 4 = x4 then some (nI 4) else if zBytes 5 = x4 then some (nI 5) else if zBytes 6 = x4 then some (nI 6) else some (-1)
theorem ixc_ok {N : Nat} (hN : 50 ≤ N) (x4 : Int32) : f_J1_indexOfChar_4cfef_7 N N 7 x4 0 = ixc x4 := by
  obtain ⟨c, rfl⟩ : ∃ z, N = z + 1 + 1 + 1 + 1 + 1 + 1 + 1 + 1 := ⟨N - 8, by omega⟩
  rw [show (0 : Int32) = nI 0 from rfl, ixc_step (by omega), ixc_step (by omega), ixc_step (by omega), ixc_step (by omega), ixc_step (by omega), ixc_step (by omega), ixc_step (by omega), ixc_end]
  rfl
theorem ixc_all : ∀ b, b < 256 → (((nI b).toUInt32 % 65536).toInt32 = nI b) ∧ f_J1_canEncode_9a6ad (nI b) = some 1 ∧ ixc (nI b).toInt8.toInt32 = some (if lt7 b = 7 then -1 else nI (lt7 b)) := by decide +kernel
theorem ix_ok {N b : Nat} (hN : 50 ≤ N) (hb : b < 256) : f_J0_indexOf_0f7a4 N (((nI b).toUInt32 % 65536).toInt32) = some (if lt7 b = 7 then -1 else nI (lt7 b)) := by
  obtain ⟨h1, h2, h3⟩ := ixc_all b hb
  unfold f_J0_indexOf_0f7a4 f_J0_indexOf_7cf53 f_J0_length_8abf5 f_J1_indexOf_4cfef f_J1_indexOfChar_4cfef
  rw [h1, h2, bnd_s, bnd_s, if1_0]
  rw [show (if (if (0 : Int32) < 0 then (0 : Int32) else 0) < (if (7 : Int32) < (7 : Int32) >>> ((0 : Int32) &&& 31) then (7 : Int32) else (7 : Int32) >>> ((0 : Int32) &&& 31)) then bnd (f_J1_indexOfChar_4cfef_7 N N (if (7 : Int32) < (7 : Int32) >>> ((0 : Int32) &&& 31) then 7 else (7 : Int32) >>> ((0 : Int32) &&& 31)) (nI b).toInt8.toInt32 (if (0 : Int32) < 0 then 0 else 0)) (fun o5 => some o5) else some (-1)) = bnd (f_J1_indexOfChar_4cfef_7 N N 7 (nI b).toInt8.toInt32 0) (fun o5 => some o5) from rfl]
  rw [ixc_ok hN, h3]
  rfl
/-- what was read: which byte is due (0 letter, 1 relation, 2 figure, 3 figure or joint, 4 joint), how many TESTS, where it could not go on; letters, relations, limits, beginnings -/
abbrev PSt : Type := Nat × Nat × Option Nat × (Nat → Nat) × (Nat → Nat) × (Nat → Nat) × (Nat → Nat)
def pgo (s : PSt) (b : Nat) : Option PSt :=
  if s.1 = 0 then (if lt7 b < 7 then some (1, s.2.1, none, va_up s.2.2.2.1 s.2.1 (lt7 b), s.2.2.2.2.1, s.2.2.2.2.2.1, s.2.2.2.2.2.2) else none)
  else if s.1 = 1 then (if 60 ≤ b ∧ b ≤ 62 then some (2, s.2.1, none, s.2.2.2.1, va_up s.2.2.2.2.1 s.2.1 b, s.2.2.2.2.2.1, s.2.2.2.2.2.2) else none)
  else if s.1 = 2 then (if 48 ≤ b ∧ b ≤ 57 then some (3, s.2.1 + 1, none, s.2.2.2.1, s.2.2.2.2.1, va_up s.2.2.2.2.2.1 s.2.1 (b - 48), s.2.2.2.2.2.2) else none)
  else if s.1 = 3 ∧ 48 ≤ b ∧ b ≤ 57 then some (4, s.2.1, none, s.2.2.2.1, s.2.2.2.2.1, va_up s.2.2.2.2.2.1 (s.2.1 - 1) (10 * s.2.2.2.2.2.1 (s.2.1 - 1) + (b - 48)), s.2.2.2.2.2.2)
  else if b = 43 ∨ b = 124 then some (0, s.2.1, none, s.2.2.2.1, s.2.2.2.2.1, s.2.2.2.2.2.1, va_up s.2.2.2.2.2.2 s.2.1 (if b = 124 then 1 else 0)) else none
def pstep (j : Nat) (s : PSt) (b : Nat) : PSt := match s.2.2.1 with
  | some _ => s
  | none => match pgo s b with
    | some t => t
    | none => (s.1, s.2.1, some j, s.2.2.2)
def pm (tx : Nat → Nat) : Nat → PSt
  | 0 => (0, 0, none, fun _ => 0, fun _ => 0, fun _ => 0, fun _ => 0)
  | j + 1 => pstep j (pm tx j) (tx j)
/-- what holds of it behind j bytes -/
def PIc (j d k : Nat) (sk : Option Nat) (L R V O : Nat → Nat) : Prop := d ≤ 4 ∧ 4 * k ≤ j + 1 ∧ (d = 0 → 4 * k ≤ j) ∧ (d = 1 → 4 * k + 1 ≤ j) ∧ (d = 2 → 4 * k + 2 ≤ j) ∧ (d = 4 → 4 * k ≤ j) ∧ (3 ≤ d → 1 ≤ k) ∧ (∀ q, sk = some q → q < j) ∧ (∀ i, i < k → L i ≤ 6 ∧ (60 ≤ R i ∧ R i ≤ 62) ∧ V i < 100) ∧ (1 ≤ d → d ≤ 2 → L k ≤ 6) ∧ (d = 2 → 60 ≤ R k ∧ R k ≤ 62) ∧ (d = 3 → V (k - 1) < 10) ∧ O 0 = 0 ∧ ∀ i, O i ≤ 1
def PI (j : Nat) (s : PSt) : Prop := PIc j s.1 s.2.1 s.2.2.1 s.2.2.2.1 s.2.2.2.2.1 s.2.2.2.2.2.1 s.2.2.2.2.2.2
theorem PI_0 (tx : Nat → Nat) : PI 0 (pm tx 0) := by
  show PIc 0 0 0 none (fun _ => 0) (fun _ => 0) (fun _ => 0) (fun _ => 0)
  refine ⟨by decide, by decide, fun _ => by decide, fun h => absurd h (by decide), fun h => absurd h (by decide), fun h => absurd h (by decide), fun h => absurd h (by decide), fun q h => (by cases h), fun i h => absurd h (Nat.not_lt_zero i), fun h => absurd h (by decide), fun h => absurd h (by decide), fun h => absurd h (by decide), rfl, fun i => Nat.zero_le 1⟩
theorem up_s {f : Nat → Nat} {k v : Nat} : va_up f k v k = v := if_pos rfl
theorem up_n {f : Nat → Nat} {k v i : Nat} (h : i ≠ k) : va_up f k v i = f i := if_neg h
theorem PI_s {j b : Nat} {s : PSt} (h : PI j s) : PI (j + 1) (pstep j s b) := by
  obtain ⟨d, k, sk, L, R, V, O⟩ := s
  obtain ⟨h1, h2, h3, h4, h5, h6, h7, h8, h9, h10, h11, h12, h13, h14⟩ := h
  dsimp only at h1 h2 h3 h4 h5 h6 h7 h8 h9 h10 h11 h12 h13 h14
  cases sk with
  | some q =>
    show PIc (j + 1) d k (some q) L R V O
    refine ⟨h1, by omega, fun e => by have := h3 e; omega, fun e => by have := h4 e; omega, fun e => by have := h5 e; omega, fun e => by have := h6 e; omega, h7, fun q e => by have := h8 q e; omega, h9, h10, h11, h12, h13, h14⟩
  | none =>
    have stuck : PI (j + 1) (d, k, some j, L, R, V, O) := (show PIc (j + 1) d k (some j) L R V O from ⟨h1, by omega, fun e => by have := h3 e; omega, fun e => by have := h4 e; omega, fun e => by have := h5 e; omega, fun e => by have := h6 e; omega, h7, fun q e => (by cases e; omega), h9, h10, h11, h12, h13, h14⟩)
    unfold pstep pgo
    dsimp only
    by_cases d0 : d = 0
    · rw [if_pos d0]
      by_cases hb : lt7 b < 7
      · rw [if_pos hb]
        show PIc (j + 1) 1 k none (va_up L k (lt7 b)) R V O
        refine ⟨by decide, by have := h3 d0; omega, fun e => absurd e (by decide), fun _ => by have := h3 d0; omega, fun e => absurd e (by decide), fun e => absurd e (by decide), fun e => absurd e (by decide), fun q e => (by cases e), fun i hi => ?_, fun _ _ => ?_, fun e => absurd e (by decide), fun e => absurd e (by decide), h13, h14⟩
        · have : i ≠ k := by omega
          rw [up_n this]
          exact h9 i hi
        · skip
          rw [up_s]
          omega
      · rw [if_neg hb]
        exact stuck
    · rw [if_neg d0]
      by_cases d1 : d = 1
      · rw [if_pos d1]
        by_cases hb : 60 ≤ b ∧ b ≤ 62
        · rw [if_pos hb]
          show PIc (j + 1) 2 k none L (va_up R k b) V O
          refine ⟨by decide, by have := h4 d1; omega, fun e => absurd e (by decide), fun e => absurd e (by decide), fun _ => by have := h4 d1; omega, fun e => absurd e (by decide), fun e => absurd e (by decide), fun q e => (by cases e), fun i hi => ?_, fun _ _ => h10 (by omega) (by omega), fun _ => ?_, fun e => absurd e (by decide), h13, h14⟩
          · have : i ≠ k := by omega
            rw [up_n this]
            exact h9 i hi
          · skip
            rw [up_s]
            exact hb
        · rw [if_neg hb]
          exact stuck
      · rw [if_neg d1]
        by_cases d2 : d = 2
        · rw [if_pos d2]
          by_cases hb : 48 ≤ b ∧ b ≤ 57
          · rw [if_pos hb]
            show PIc (j + 1) 3 (k + 1) none L R (va_up V k (b - 48)) O
            refine ⟨by decide, by have := h5 d2; omega, fun e => absurd e (by decide), fun e => absurd e (by decide), fun e => absurd e (by decide), fun e => absurd e (by decide), fun _ => by omega, fun q e => (by cases e), fun i hi => ?_, fun e e2 => absurd e2 (by decide), fun e => absurd e (by decide), fun _ => ?_, h13, h14⟩
            · skip
              by_cases e : i = k
              · subst e
                rw [up_s]
                exact ⟨h10 (by omega) (by omega), h11 d2, by omega⟩
              · rw [up_n e]
                exact h9 i (by omega)
            · skip
              rw [show k + 1 - 1 = k by omega, up_s]
              omega
          · rw [if_neg hb]
            exact stuck
        · rw [if_neg d2]
          by_cases d3 : d = 3 ∧ 48 ≤ b ∧ b ≤ 57
          · rw [if_pos d3]
            have k1 := h7 (by omega)
            have v1 := h12 d3.1
            show PIc (j + 1) 4 k none L R (va_up V (k - 1) (10 * V (k - 1) + (b - 48))) O
            refine ⟨by decide, by omega, fun e => absurd e (by decide), fun e => absurd e (by decide), fun e => absurd e (by decide), fun _ => by omega, fun _ => k1, fun q e => (by cases e), fun i hi => ?_, fun e e2 => absurd e2 (by decide), fun e => absurd e (by decide), fun e => absurd e (by decide), h13, h14⟩
            skip
            obtain ⟨g1, g2, g3⟩ := h9 i hi
            by_cases e : i = k - 1
            · subst e
              rw [up_s]
              exact ⟨g1, g2, by omega⟩
            · rw [up_n e]
              exact ⟨g1, g2, g3⟩
          · rw [if_neg d3]
            by_cases hj : b = 43 ∨ b = 124
            · rw [if_pos hj]
              have k1 := h7 (by omega)
              show PIc (j + 1) 0 k none L R V (va_up O k (if b = 124 then 1 else 0))
              refine ⟨by decide, by omega, fun _ => by have := h6; omega, fun e => absurd e (by decide), fun e => absurd e (by decide), fun e => absurd e (by decide), fun e => absurd e (by decide), fun q e => (by cases e), h9, fun e => absurd e (by decide), fun e => absurd e (by decide), fun e => absurd e (by decide), ?_, fun i => ?_⟩
              · skip
                rw [up_n (by omega)]
                exact h13
              · skip
                by_cases e : i = k
                · subst e
                  rw [up_s]
                  split <;> omega
                · rw [up_n e]
                  exact h14 i
            · rw [if_neg hj]
              exact stuck
theorem PI_pm (tx : Nat → Nat) : ∀ j, PI j (pm tx j) := by
  intro j
  induction j with
  | zero => exact PI_0 tx
  | succ j ih => exact PI_s ih
