/-! pure rows: SENTENCES, M's side: the text is read from its beginning -/
theorem nI_nm1 {n : Nat} (h : n < 2 ^ 31) : ¬ nI n = -1 := by
  intro e
  rw [fa_eq, nI_toInt h] at e
  have : (-1 : Int32).toInt = -1 := by decide
  omega
theorem pm_keep {tx : Nat → Nat} {j q : Nat} (h : (pm tx j).2.2.1 = some q) : ∀ k, (pm tx (j + k)).2.2.1 = some q := by
  intro k
  induction k with
  | zero => exact h
  | succ k ih =>
    show (pstep (j + k) (pm tx (j + k)) (tx (j + k))).2.2.1 = some q
    unfold pstep
    rw [ih]
    exact ih
/-- the FAULT of m bytes -/
def fpl (tx : Nat → Nat) (m : Nat) : Int32 := match (pm tx m).2.2.1 with
  | some q => nI q
  | none => if (pm tx m).1 = 3 ∨ (pm tx m).1 = 4 then -1 else nI m
theorem fpl_stuck {tx : Nat → Nat} {j m q : Nat} (hj : j ≤ m) (h : (pm tx j).2.2.1 = some q) : fpl tx m = nI q := by
  have := pm_keep h (m - j)
  rw [show j + (m - j) = m by omega] at this
  unfold fpl
  rw [this]
def AG (k : Nat) (tN tS tV tB : Nat → Int32) (L R V O : Nat → Nat) : Prop := ∀ i, i < k → tN i = nI (L i) ∧ tS i = nI (R i) ∧ tV i = nI (V i) ∧ tB i = if i = 0 then 1 else nI (O i)
theorem byte_in {m j : Nat} {tx : Nat → Nat} {mText : Nat → Int32} (hm : m ≤ 60) (ht : ∀ i, i < m → mText i = nI (tx i)) (hj : j < m) : f_X11_byteNow (nI m) mText (nI j) = some (nI (tx j)) := by
  unfold f_X11_byteNow
  rw [if_neg (nI_ge hj (by omega)), gIn_nI (by omega) (by decide), cl_nI (by omega), ht j hj]
theorem byte_end {m : Nat} {mText : Nat → Int32} (hm : m ≤ 60) : f_X11_byteNow (nI m) mText (nI m) = some (-1) := by
  unfold f_X11_byteNow
  rw [if_pos (nI_le (Nat.le_refl m) (by omega))]
/-- what a test of M's comes to: a fault, which is the text's; or one TEST more -/
def TO (tx : Nat → Nat) (m j k : Nat) (o : Int32 × Int32 × Int32 × (Nat → Int32) × (Nat → Int32) × (Nat → Int32) × (Nat → Int32)) : Prop :=
  (∃ q, o.2.1 = nI q ∧ q ≤ 60 ∧ fpl tx m = nI q) ∨ ∃ j' d L R V O, j < j' ∧ j' ≤ m ∧ o.1 = nI j' ∧ o.2.1 = -1 ∧ o.2.2.1 = nI (k + 1) ∧ pm tx j' = (d, k + 1, none, L, R, V, O) ∧ (d = 4 ∨ (d = 3 ∧ (j' < m → ¬ (48 ≤ tx j' ∧ tx j' ≤ 57)))) ∧ AG (k + 1) o.2.2.2.1 o.2.2.2.2.1 o.2.2.2.2.2.1 o.2.2.2.2.2.2 L R V O
theorem pm_s {tx : Nat → Nat} {j d k : Nat} {L R V O : Nat → Nat} (h : pm tx j = (d, k, none, L, R, V, O)) {t : PSt} (h2 : pgo (d, k, none, L, R, V, O) (tx j) = some t) : pm tx (j + 1) = t := by
  show pstep j (pm tx j) (tx j) = t
  rw [h]
  unfold pstep
  rw [h2]
theorem pm_x {tx : Nat → Nat} {j d k : Nat} {L R V O : Nat → Nat} (h : pm tx j = (d, k, none, L, R, V, O)) (h2 : pgo (d, k, none, L, R, V, O) (tx j) = none) : (pm tx (j + 1)).2.2.1 = some j := by
  show (pstep j (pm tx j) (tx j)).2.2.1 = some j
  rw [h]
  unfold pstep
  rw [h2]
theorem fpl_end {tx : Nat → Nat} {m d k : Nat} {L R V O : Nat → Nat} (h : pm tx m = (d, k, none, L, R, V, O)) : fpl tx m = if d = 3 ∨ d = 4 then -1 else nI m := by
  unfold fpl
  rw [h]
theorem test_ok {N m j k : Nat} {tx : Nat → Nat} {mText : Nat → Int32} (hN : 50 ≤ N) (hm : m ≤ 60) (ht : ∀ i, i < m → mText i = nI (tx i)) (hb : ∀ i, i < m → tx i < 256) (hj : j ≤ m) {L R V O : Nat → Nat} (hp : pm tx j = (0, k, none, L, R, V, O)) {tN tS tV tB : Nat → Int32} (hA : AG k tN tS tV tB L R V O) {bg : Int32} (hbg : bg = if k = 0 then 1 else nI (O k)) :
    ∃ o, f_X11_test N bg (nI m) mText (nI j) (-1) (nI k) tN tS tV tB = some o ∧ TO tx m j k o := by
  have hI := PI_pm tx j
  rw [hp] at hI
  obtain ⟨-, -, i3, -, -, -, -, -, -, -, -, -, -, i14⟩ := hI
  have hk : 4 * k ≤ j := i3 rfl
  have hO := i14 k
  dsimp only at hO
  have hbg01 : vp_nar .boolean bg = bg := by
    rw [hbg]
    by_cases q : k = 0
    · rw [if_pos q]; rfl
    · rw [if_neg q]
      rcases (show O k = 0 ∨ O k = 1 by omega) with e | e <;> rw [e] <;> rfl
  unfold f_X11_test
  rw [show nI j + 1 = nI (j + 1) from nI_1 j, show nI (j + 1) + 1 = nI (j + 1 + 1) from nI_1 (j + 1)]
  by_cases c1 : j = m
  · subst c1
    rw [byte_end hm, bnd_s, show f_X11_numberBy (-1) = some (-1) by decide, bnd_s, if_pos rfl]
    exact ⟨_, rfl, Or.inl ⟨j, rfl, hm, by rw [fpl_end hp, if_neg (by omega)]⟩⟩
  have hjm : j < m := by omega
  have hl := lt7_le (tx j)
  rw [byte_in hm ht hjm, bnd_s, numberBy_ok _ (hb j hjm), bnd_s]
  by_cases c2 : lt7 (tx j) = 7
  · rw [if_pos c2, if_pos rfl]
    exact ⟨_, rfl, Or.inl ⟨j, rfl, by omega, fpl_stuck (j := j + 1) (by omega) (pm_x hp (by unfold pgo; dsimp only; rw [if_pos rfl, if_neg (by omega)]))⟩⟩
  rw [if_neg c2, if_neg (nI_nm1 (by omega))]
  have p1 : pm tx (j + 1) = (1, k, none, va_up L k (lt7 (tx j)), R, V, O) := pm_s hp (by unfold pgo; dsimp only; rw [if_pos rfl, if_pos (by omega)])
  by_cases c3 : j + 1 = m
  · rw [c3, byte_end hm, bnd_s, show f_X11_in (-1) 60 62 = some 0 by decide, bnd_s, if_pos rfl]
    refine ⟨_, rfl, Or.inl ⟨m, rfl, hm, ?_⟩⟩
    rw [c3] at p1
    rw [fpl_end p1, if_neg (by omega)]
  have hj1 : j + 1 < m := by omega
  rw [byte_in hm ht hj1, bnd_s]
  have hb1 := hb (j + 1) hj1
  by_cases c4 : 60 ≤ tx (j + 1) ∧ tx (j + 1) ≤ 62
  rotate_left
  · have : f_X11_in (nI (tx (j + 1))) 60 62 = some 0 := Min_no (by
      by_cases q : tx (j + 1) < 60
      · exact Or.inl (nI_lt (b := 60) q (by omega))
      · exact Or.inr (nI_lt (a := 62) (by omega) (by omega)))
    rw [this, bnd_s, if_pos rfl]
    exact ⟨_, rfl, Or.inl ⟨j + 1, rfl, by omega, fpl_stuck (j := j + 1 + 1) (by omega) (pm_x p1 (by unfold pgo; dsimp only; rw [if_neg (by decide), if_pos rfl, if_neg c4]))⟩⟩
  have p2 : pm tx (j + 1 + 1) = (2, k, none, va_up L k (lt7 (tx j)), va_up R k (tx (j + 1)), V, O) := pm_s p1 (by unfold pgo; dsimp only; rw [if_neg (by decide), if_pos rfl, if_pos c4])
  rw [show f_X11_in (nI (tx (j + 1))) 60 62 = some 1 from Min_yes (nI_nlt (b := 60) (by omega) (by omega)) (nI_nlt (a := 62) (by omega) (by omega)), bnd_s, if1_0]
  generalize hfr : j + 1 + 1 = fr at *
  obtain ⟨N', rfl⟩ : ∃ z, N = z + 1 + 1 + 1 := ⟨N - 3, by omega⟩
  generalize hNN : N' + 1 + 1 + 1 = N at *
  have recd : ∀ (at' v : Nat), fr < at' → at' ≤ 62 → f_X11_test_133 N bg (nI (lt7 (tx j))) (nI (tx (j + 1))) (nI fr) (nI v) (nI m) mText (nI at') (-1) (nI k) tN tS tV tB = some (nI at', -1, nI (k + 1), upd tN k (nI (lt7 (tx j))), upd tS k (nI (tx (j + 1))), upd tV k (nI v), upd tB k bg) := by
    intro at' v h1 h2
    unfold f_X11_test_133
    rw [if_neg (fun q => by have := (nI_eq (by omega) (by omega)).mp q; omega), gIn_nI (by omega) (by decide), cl_nI (by omega), show nI k + 1 = nI (k + 1) from nI_1 k, hbg01]
  have recz : ∀ v : Int32, f_X11_test_133 N bg (nI (lt7 (tx j))) (nI (tx (j + 1))) (nI fr) v (nI m) mText (nI fr) (-1) (nI k) tN tS tV tB = some (nI fr, nI fr, nI k, tN, tS, tV, tB) := by
    intro v
    unfold f_X11_test_133
    rw [if_pos rfl]
  have hAG : ∀ v : Nat, AG (k + 1) (upd tN k (nI (lt7 (tx j)))) (upd tS k (nI (tx (j + 1)))) (upd tV k (nI v)) (upd tB k bg) (va_up L k (lt7 (tx j))) (va_up R k (tx (j + 1))) (va_up V k v) O := by
    intro v i hi
    by_cases e : i = k
    · subst e
      rw [pk_us, pk_us, pk_us, pk_us, up_s, up_s, up_s]
      exact ⟨rfl, rfl, rfl, hbg⟩
    · rw [pk_un e, pk_un e, pk_un e, pk_un e, up_n e, up_n e, up_n e]
      exact hA i (by omega)
  have n2 : nI fr + 2 = nI (fr + 2) := nI_add fr 2
  rw [← hNN, f_X11_test_76, hNN, n2, if_neg (nI_ge (by omega) (by omega))]
  by_cases c5 : fr = m
  · subst c5
    rw [byte_end hm, bnd_s, if_pos (by decide), recz]
    refine ⟨_, rfl, Or.inl ⟨fr, rfl, by omega, ?_⟩⟩
    rw [fpl_end p2, if_neg (by omega)]
  have hfm : fr < m := by omega
  have hb2 := hb fr hfm
  rw [byte_in hm ht hfm, bnd_s, bnd_s, bnd_s]
  by_cases c6 : 48 ≤ tx fr ∧ tx fr ≤ 57
  rotate_left
  · have fin : ∃ o, some (nI fr, nI fr, nI k, tN, tS, tV, tB) = some o ∧ TO tx m j k o := ⟨_, rfl, Or.inl ⟨fr, rfl, by omega, fpl_stuck (j := fr + 1) (by omega) (pm_x p2 (by unfold pgo; dsimp only; rw [if_neg (by decide), if_neg (by decide), if_pos rfl, if_neg c6]))⟩⟩
    by_cases q : tx fr < 48
    · rw [if_pos (show nI (tx fr) < 48 from nI_lt (b := 48) q (by omega)), recz]
      exact fin
    · rw [if_neg (show ¬ nI (tx fr) < 48 from nI_nlt (b := 48) (by omega) (by omega)), if_pos (show (57 : Int32) < nI (tx fr) from nI_lt (a := 57) (by omega) (by omega)), recz]
      exact fin
  have p3 : pm tx (fr + 1) = (3, k + 1, none, va_up L k (lt7 (tx j)), va_up R k (tx (j + 1)), va_up V k (tx fr - 48), O) := pm_s p2 (by unfold pgo; dsimp only; rw [if_neg (by decide), if_neg (by decide), if_pos rfl, if_pos c6])
  have v1 : (10 : Int32) * 0 + nI (tx fr) - 48 = nI (tx fr - 48) := by
    rw [show (10 : Int32) * 0 = nI 0 from rfl, nI_add, Nat.zero_add]
    exact pk_sub (a := tx fr) (b := 48) c6.1
  rw [if_neg (show ¬ nI (tx fr) < 48 from nI_nlt (b := 48) (by omega) (by omega)), if_neg (show ¬ (57 : Int32) < nI (tx fr) from nI_nlt (a := 57) (by omega) (by omega)), v1, show nI fr + 1 = nI (fr + 1) from nI_1 fr, f_X11_test_76, n2, if_neg (nI_ge (by omega) (by omega))]
  have fin3 : (fr + 1 < m → ¬ (48 ≤ tx (fr + 1) ∧ tx (fr + 1) ≤ 57)) → ∃ o, some (nI (fr + 1), (-1 : Int32), nI (k + 1), upd tN k (nI (lt7 (tx j))), upd tS k (nI (tx (j + 1))), upd tV k (nI (tx fr - 48)), upd tB k bg) = some o ∧ TO tx m j k o := fun hh => ⟨_, rfl, Or.inr ⟨fr + 1, 3, _, _, _, _, by omega, by omega, rfl, rfl, rfl, p3, Or.inr ⟨rfl, hh⟩, hAG _⟩⟩
  by_cases c7 : fr + 1 = m
  · subst c7
    rw [byte_end hm, bnd_s, if_pos (by decide), recd (fr + 1) _ (by omega) (by omega)]
    exact fin3 (fun h => by omega)
  have hf1 : fr + 1 < m := by omega
  have hb3 := hb (fr + 1) hf1
  rw [byte_in hm ht hf1, bnd_s, bnd_s, bnd_s]
  by_cases c8 : 48 ≤ tx (fr + 1) ∧ tx (fr + 1) ≤ 57
  rotate_left
  · by_cases q : tx (fr + 1) < 48
    · rw [if_pos (show nI (tx (fr + 1)) < 48 from nI_lt (b := 48) q (by omega)), recd (fr + 1) _ (by omega) (by omega)]
      exact fin3 (fun _ => c8)
    · rw [if_neg (show ¬ nI (tx (fr + 1)) < 48 from nI_nlt (b := 48) (by omega) (by omega)), if_pos (show (57 : Int32) < nI (tx (fr + 1)) from nI_lt (a := 57) (by omega) (by omega)), recd (fr + 1) _ (by omega) (by omega)]
      exact fin3 (fun _ => c8)
  have p4 : pm tx (fr + 1 + 1) = (4, k + 1, none, va_up L k (lt7 (tx j)), va_up R k (tx (j + 1)), va_up (va_up V k (tx fr - 48)) k (10 * (tx fr - 48) + (tx (fr + 1) - 48)), O) := pm_s p3 (by
    unfold pgo
    dsimp only
    rw [if_neg (by decide), if_neg (by decide), if_neg (by decide), if_pos ⟨rfl, c8.1, c8.2⟩, show k + 1 - 1 = k by omega, up_s])
  have v2 : (10 : Int32) * nI (tx fr - 48) + nI (tx (fr + 1)) - 48 = nI (10 * (tx fr - 48) + (tx (fr + 1) - 48)) := by
    rw [show (10 : Int32) = nI 10 from rfl, pk_mul, nI_add, show 10 * (tx fr - 48) + (tx (fr + 1) - 48) = 10 * (tx fr - 48) + tx (fr + 1) - 48 by omega]
    exact pk_sub (a := 10 * (tx fr - 48) + tx (fr + 1)) (b := 48) (by omega)
  rw [if_neg (show ¬ nI (tx (fr + 1)) < 48 from nI_nlt (b := 48) (by omega) (by omega)), if_neg (show ¬ (57 : Int32) < nI (tx (fr + 1)) from nI_nlt (a := 57) (by omega) (by omega)), v2, show nI (fr + 1) + 1 = nI (fr + 2) from nI_1 (fr + 1), f_X11_test_76, n2, if_pos (nI_le (Nat.le_refl _) (by omega)), recd (fr + 2) _ (by omega) (by omega)]
  rw [bx_uu] at p4
  exact ⟨_, rfl, Or.inr ⟨fr + 2, 4, _, _, _, _, by omega, by omega, rfl, rfl, rfl, p4, Or.inl rfl, hAG _⟩⟩
/-- M's faultNow, anew -/
theorem fault_loop {N m : Nat} {tx : Nat → Nat} {mText : Nat → Int32} (hN : 70 ≤ N) (hm : m ≤ 60) (ht : ∀ i, i < m → mText i = nI (tx i)) (hb : ∀ i, i < m → tx i < 256) : ∀ (z j k c : Nat) (o : Int32 × Int32 × Int32 × (Nat → Int32) × (Nat → Int32) × (Nat → Int32) × (Nat → Int32)), m ≤ j + z → z + 1 < c → TO tx m j k o →
    ∃ q, f_X11_faultNow_37 N c (nI m) mText o.1 o.2.1 o.2.2.1 o.2.2.2.1 o.2.2.2.2.1 o.2.2.2.2.2.1 o.2.2.2.2.2.2 1 = some q ∧ q.1 = fpl tx m ∧ q.2.2.1 = fpl tx m ∧ q.2.2.2.2.2.2.2.2 = 1 ∧ (fpl tx m = -1 → q.2.2.2.1 = nI (pm tx m).2.1 ∧ AG (pm tx m).2.1 q.2.2.2.2.1 q.2.2.2.2.2.1 q.2.2.2.2.2.2.1 q.2.2.2.2.2.2.2.1 (pm tx m).2.2.2.1 (pm tx m).2.2.2.2.1 (pm tx m).2.2.2.2.2.1 (pm tx m).2.2.2.2.2.2) := by
  intro z
  induction z with
  | zero =>
    intro j k c o hz hc hT
    obtain ⟨c, rfl⟩ : ∃ y, c = y + 1 := ⟨c - 1, by omega⟩
    rcases hT with ⟨q, e1, e2, e3⟩ | ⟨j', d, L, R, V, O, a1, a2, -⟩
    · rw [f_X11_faultNow_37, e1, if_neg (nI_nm1 (by omega))]
      unfold f_X11_faultNow_112
      exact ⟨_, rfl, e3.symm, e3.symm, rfl, fun h => absurd (e3.symm.trans h) (nI_nm1 (by omega))⟩
    · omega
  | succ z ih =>
    intro j k c o hz hc hT
    obtain ⟨c, rfl⟩ : ∃ y, c = y + 1 := ⟨c - 1, by omega⟩
    obtain ⟨o1, o2, o3, o4, o5, o6, o7⟩ := o
    rcases hT with ⟨q, e1, e2, e3⟩ | ⟨j', d, L, R, V, O, a1, a2, a3, a4, a5, a6, a7, a8⟩
    · rw [f_X11_faultNow_37, e1, if_neg (nI_nm1 (by omega))]
      unfold f_X11_faultNow_112
      exact ⟨_, rfl, e3.symm, e3.symm, rfl, fun h => absurd (e3.symm.trans h) (nI_nm1 (by omega))⟩
    · dsimp only at a3 a4 a5 a8 ⊢
      subst a3
      subst a4
      subst a5
      rw [f_X11_faultNow_37, if_pos rfl]
      by_cases c1 : j' = m
      · subst c1
        have hf : fpl tx j' = -1 := by rw [fpl_end a6, if_pos (by omega)]
        rw [if_pos (nI_le (Nat.le_refl j') (by omega))]
        unfold f_X11_faultNow_112
        refine ⟨_, rfl, hf.symm, hf.symm, rfl, fun _ => ?_⟩
        rw [a6]
        exact ⟨rfl, a8⟩
      · have hjm : j' < m := by omega
        have hb1 := hb j' hjm
        rw [if_neg (nI_ge hjm (by omega)), byte_in hm ht hjm, bnd_s]
        have a7n : ¬ (d = 3 ∧ 48 ≤ tx j' ∧ tx j' ≤ 57) := by
          intro q
          rcases a7 with a7 | a7
          · omega
          · exact a7.2 hjm q.2
        have nd : pgo (d, k + 1, none, L, R, V, O) (tx j') = if tx j' = 43 ∨ tx j' = 124 then some (0, k + 1, none, L, R, V, va_up O (k + 1) (if tx j' = 124 then 1 else 0)) else none := by
          unfold pgo
          dsimp only
          rw [if_neg (by omega), if_neg (by omega), if_neg (by omega), if_neg a7n]
        by_cases c2 : tx j' = 43 ∨ tx j' = 124
        · rw [if_pos c2] at nd
          have p1 := pm_s a6 nd
          have hA2 : AG (k + 1) o4 o5 o6 o7 L R V (va_up O (k + 1) (if tx j' = 124 then 1 else 0)) := fun i hi => by
            rw [up_n (by omega)]
            exact a8 i hi
          have key : ∀ bg : Int32, bg = nI (if tx j' = 124 then 1 else 0) → ∃ q, f_X11_faultNow_106 N (fun y0 y1 y2 y3 y4 y5 y6 y7 y8 y9 => f_X11_faultNow_37 N c y0 y1 y2 y3 y4 y5 y6 y7 y8 y9) bg (nI m) mText (nI j' + 1) (-1) (nI (k + 1)) o4 o5 o6 o7 1 = some q ∧ q.1 = fpl tx m ∧ q.2.2.1 = fpl tx m ∧ q.2.2.2.2.2.2.2.2 = 1 ∧ (fpl tx m = -1 → q.2.2.2.1 = nI (pm tx m).2.1 ∧ AG (pm tx m).2.1 q.2.2.2.2.1 q.2.2.2.2.2.1 q.2.2.2.2.2.2.1 q.2.2.2.2.2.2.2.1 (pm tx m).2.2.2.1 (pm tx m).2.2.2.2.1 (pm tx m).2.2.2.2.2.1 (pm tx m).2.2.2.2.2.2) := by
            intro bg hbg
            obtain ⟨t, t1, t2⟩ := test_ok (N := N) (j := j' + 1) (by omega) hm ht hb (by omega) p1 hA2 (bg := bg) (by rw [if_neg (by omega), up_s]; exact hbg)
            unfold f_X11_faultNow_106 f_X11_faultNow_109
            rw [nI_1, t1, bnd_s]
            exact ih (j' + 1) (k + 1) c t (by omega) (by omega) t2
          unfold f_X11_faultNow_84
          rcases c2 with c2 | c2
          · rw [c2, if_neg (show ¬ nI 43 = 124 by decide), if_pos (show nI 43 = 43 from rfl), if_neg (show ¬ nI 43 = 124 by decide)]
            exact key 0 (by rw [c2]; rfl)
          · rw [c2, if_pos (show nI 124 = 124 from rfl), if_pos (show nI 124 = 124 from rfl)]
            exact key 1 (by rw [c2]; rfl)
        · rw [if_neg c2] at nd
          have hs := fpl_stuck (j := j' + 1) (m := m) (by omega) (pm_x a6 nd)
          rw [if_neg (show ¬ nI (tx j') = 124 from fun q => c2 (Or.inr ((nI_eq (b := 124) (by omega) (by omega)).mp q))), if_neg (show ¬ nI (tx j') = 43 from fun q => c2 (Or.inl ((nI_eq (b := 43) (by omega) (by omega)).mp q)))]
          unfold f_X11_faultNow_109
          obtain ⟨c, rfl⟩ : ∃ y, c = y + 1 := ⟨c - 1, by omega⟩
          dsimp only
          rw [f_X11_faultNow_37, if_neg (nI_nm1 (by omega))]
          unfold f_X11_faultNow_112
          exact ⟨_, rfl, hs.symm, hs.symm, rfl, fun h => absurd (hs.symm.trans h) (nI_nm1 (by omega))⟩
theorem fault_M {N m : Nat} {tx : Nat → Nat} {mText : Nat → Int32} (hN : 70 ≤ N) (hm : m ≤ 60) (ht : ∀ i, i < m → mText i = nI (tx i)) (hb : ∀ i, i < m → tx i < 256) (mAt mFault mTests : Int32) (tN tS tV tB : Nat → Int32) :
    ∃ q, f_X11_faultNow N (nI m) mText mAt mFault mTests tN tS tV tB 0 = some q ∧ q.1 = fpl tx m ∧ q.2.2.1 = fpl tx m ∧ q.2.2.2.2.2.2.2.2 = 1 ∧ (fpl tx m = -1 → q.2.2.2.1 = nI (pm tx m).2.1 ∧ AG (pm tx m).2.1 q.2.2.2.2.1 q.2.2.2.2.2.1 q.2.2.2.2.2.2.1 q.2.2.2.2.2.2.2.1 (pm tx m).2.2.2.1 (pm tx m).2.2.2.2.1 (pm tx m).2.2.2.2.2.1 (pm tx m).2.2.2.2.2.2) := by
  unfold f_X11_faultNow
  obtain ⟨t, t1, t2⟩ := test_ok (N := N) (j := 0) (k := 0) (by omega) hm ht hb (by omega) (show pm tx 0 = (0, 0, none, fun _ => 0, fun _ => 0, fun _ => 0, fun _ => 0) from rfl) (tN := tN) (tS := tS) (tV := tV) (tB := tB) (fun i hi => absurd hi (Nat.not_lt_zero i)) (bg := 1) (by rw [if_pos rfl])
  have t1 : f_X11_test N 1 (nI m) mText 0 (-1) 0 tN tS tV tB = some t := t1
  rw [if_pos rfl, t1, bnd_s]
  exact fault_loop hN hm ht hb 61 0 0 N t (by omega) (by omega) t2
