/-! pure rows: SENTENCES, X's side: a byte comes -/
def RXc (xLet xRel xLim xOpen : Nat → Int32) (xST xSD xSK : Int32) (d k : Nat) (sk : Option Nat) (L R V O : Nat → Nat) : Prop := xSD = nI d ∧ xST = nI k ∧ (xSK = match sk with | none => -1 | some q => nI q) ∧ (∀ i, i < k → xLet i = nI (L i) ∧ xRel i = nI (R i) ∧ xLim i = nI (V i)) ∧ (1 ≤ d → d ≤ 2 → xLet k = nI (L k)) ∧ (d = 2 → xRel k = nI (R k)) ∧ (∀ i, i < k → xOpen i = nI (O i)) ∧ (d ≤ 2 → xOpen k = nI (O k)) ∧ xOpen 0 = 0
def RXt (xLet xRel xLim xOpen : Nat → Int32) (xST xSD xSK : Int32) (s : PSt) : Prop := RXc xLet xRel xLim xOpen xST xSD xSK s.1 s.2.1 s.2.2.1 s.2.2.2.1 s.2.2.2.2.1 s.2.2.2.2.2.1 s.2.2.2.2.2.2
theorem joint_no {b : Nat} (hb : b < 256) (h : ¬ (b = 43 ∨ b = 124)) (xOpen : Nat → Int32) (a c : Int32) : f_X6_takesJoint (nI b) xOpen a c = some (0, xOpen, c) := by
  unfold f_X6_takesJoint
  rw [if_neg (show ¬ nI b = 43 from fun q => h (Or.inl ((nI_eq (b := 43) (by omega) (by omega)).mp q))), if_neg (show ¬ nI b = 124 from fun q => h (Or.inr ((nI_eq (b := 124) (by omega) (by omega)).mp q)))]
theorem joint_yes {b k : Nat} (hk : k < 16) (h : b = 43 ∨ b = 124) (xOpen : Nat → Int32) (c : Int32) : f_X6_takesJoint (nI b) xOpen (nI k) c = some (1, upd xOpen k (nI (if b = 124 then 1 else 0)), 0) := by
  have hlt : nI k < 16 := nI_lt (b := 16) hk (by omega)
  unfold f_X6_takesJoint f_X6_takesJoint_12 f_X6_takesJoint_42
  rw [if_pos hlt, gIn_nI hk (by decide), gIn_nI hk (by decide), cl_nI (by omega)]
  rcases h with rfl | rfl
  · rw [if_pos (show nI 43 = 43 from rfl), if_neg (show ¬ nI 43 = 124 by decide)]
    rfl
  · rw [if_neg (show ¬ nI 124 = 43 by decide), if_pos (show nI 124 = 124 from rfl), if_pos (show nI 124 = 124 from rfl)]
    rfl
theorem app_X {N j b : Nat} (hN : 50 ≤ N) (hj : j < 60) (hb : b < 256) {s : PSt} (hI : PI j s) {xLet xRel xLim xOpen : Nat → Int32} {xST xSD xSK : Int32} (hR : RXt xLet xRel xLim xOpen xST xSD xSK s) :
    ∃ o, f_X6_append N (nI b) xLet xRel xLim xOpen (nI j) xST xSD xSK = some o ∧ o.2.2.2.2.1 = nI (j + 1) ∧ RXt o.1 o.2.1 o.2.2.1 o.2.2.2.1 o.2.2.2.2.2.1 o.2.2.2.2.2.2.1 o.2.2.2.2.2.2.2 (pstep j s b) := by
  obtain ⟨d, k, sk, L, R, V, O⟩ := s
  obtain ⟨h1, h2, h3, h4, h5, h6, h7, h8, h9, h10, h11, h12, h13, h14⟩ := hI
  obtain ⟨r1, r2, r3, r4, r5, r6, r7, r8, r9⟩ := hR
  dsimp only at h1 h2 h3 h4 h5 h6 h7 h8 h9 h10 h11 h12 h13 h14 r1 r2 r3 r4 r5 r6 r7 r8 r9
  subst r1
  subst r2
  unfold f_X6_append f_X6_append_24
  rw [show nI j + 1 = nI (j + 1) from nI_1 j]
  cases sk with
  | some q =>
    have hq := h8 q rfl
    have r3 : xSK = nI q := r3
    subst r3
    rw [if_neg (show ¬ nI q = -1 from fun e => by rw [fa_eq, nI_toInt (by omega)] at e; have : (-1 : Int32).toInt = -1 := by decide
                                                  omega)]
    exact ⟨_, rfl, rfl, ⟨rfl, rfl, rfl, r4, r5, r6, r7, r8, r9⟩⟩
  | none =>
    have r3 : xSK = -1 := r3
    subst r3
    rw [if_pos rfl]
    have fail : f_X6_goesOn N (nI b) xLet xRel xLim xOpen (nI k) (nI d) = some (0, xLet, xRel, xLim, xOpen, nI k, nI d) → pgo (d, k, none, L, R, V, O) b = none → ∃ o, (bnd (f_X6_goesOn N (nI b) xLet xRel xLim xOpen (nI k) (nI d)) fun o2 => if o2.1 = 0 then some (o2.2.1, o2.2.2.1, o2.2.2.2.1, o2.2.2.2.2.1, nI (j + 1), o2.2.2.2.2.2.1, o2.2.2.2.2.2.2, nI j) else some (o2.2.1, o2.2.2.1, o2.2.2.2.1, o2.2.2.2.2.1, nI (j + 1), o2.2.2.2.2.2.1, o2.2.2.2.2.2.2, -1)) = some o ∧ o.2.2.2.2.1 = nI (j + 1) ∧ RXt o.1 o.2.1 o.2.2.1 o.2.2.2.1 o.2.2.2.2.2.1 o.2.2.2.2.2.2.1 o.2.2.2.2.2.2.2 (pstep j (d, k, none, L, R, V, O) b) := by
      intro e1 e2
      rw [e1, bnd_s, if_pos rfl]
      refine ⟨_, rfl, rfl, ?_⟩
      unfold pstep
      rw [e2]
      exact ⟨rfl, rfl, rfl, r4, r5, r6, r7, r8, r9⟩
    have good : ∀ (d' k' : Nat) (a1 a2 a3 a4 : Nat → Int32) (L' R' V' O' : Nat → Nat), f_X6_goesOn N (nI b) xLet xRel xLim xOpen (nI k) (nI d) = some (1, a1, a2, a3, a4, nI k', nI d') → pgo (d, k, none, L, R, V, O) b = some (d', k', none, L', R', V', O') → RXc a1 a2 a3 a4 (nI k') (nI d') (-1) d' k' none L' R' V' O' → ∃ o, (bnd (f_X6_goesOn N (nI b) xLet xRel xLim xOpen (nI k) (nI d)) fun o2 => if o2.1 = 0 then some (o2.2.1, o2.2.2.1, o2.2.2.2.1, o2.2.2.2.2.1, nI (j + 1), o2.2.2.2.2.2.1, o2.2.2.2.2.2.2, nI j) else some (o2.2.1, o2.2.2.1, o2.2.2.2.1, o2.2.2.2.2.1, nI (j + 1), o2.2.2.2.2.2.1, o2.2.2.2.2.2.2, -1)) = some o ∧ o.2.2.2.2.1 = nI (j + 1) ∧ RXt o.1 o.2.1 o.2.2.1 o.2.2.2.1 o.2.2.2.2.2.1 o.2.2.2.2.2.2.1 o.2.2.2.2.2.2.2 (pstep j (d, k, none, L, R, V, O) b) := by
      intro d' k' a1 a2 a3 a4 L' R' V' O' e1 e2 e3
      rw [e1, bnd_s, if_neg (show ¬ ((1 : Int32), a1, a2, a3, a4, nI k', nI d').1 = 0 by show ¬ (1 : Int32) = 0; decide)]
      refine ⟨_, rfl, rfl, ?_⟩
      unfold pstep
      rw [e2]
      exact e3
    have klt : nI k < 16 := nI_lt (b := 16) (by omega) (by omega)
    rcases (show d = 0 ∨ d = 1 ∨ d = 2 ∨ d = 3 ∨ d = 4 by omega) with rfl | rfl | rfl | rfl | rfl
    · have hl := lt7_le b
      by_cases hc : lt7 b = 7
      · refine fail ?_ ?_
        · unfold f_X6_goesOn f_X6_takesLetter
          rw [if_pos (show nI 0 = 0 from rfl), ix_ok hN hb, if_pos hc, bnd_s, if_pos (by decide), bnd_s]
          rfl
        · unfold pgo
          dsimp only
          rw [if_pos rfl, if_neg (by omega)]
      · refine good 1 k (upd xLet k (nI (lt7 b))) xRel xLim xOpen (va_up L k (lt7 b)) R V O ?_ ?_ ?_
        · unfold f_X6_goesOn f_X6_takesLetter
          rw [if_pos (show nI 0 = 0 from rfl), ix_ok hN hb, if_neg hc, bnd_s, if_neg (nI_pos (by omega)), if_pos klt, gIn_nI (by omega) (by decide), cl_nI (by omega), bnd_s]
          rfl
        · unfold pgo
          dsimp only
          rw [if_pos rfl, if_pos (by omega)]
        · refine ⟨rfl, rfl, rfl, fun i hi => ?_, fun _ _ => ?_, fun e => absurd e (by decide), r7, fun _ => r8 (by omega), r9⟩
          · rw [pk_un (by omega), up_n (by omega)]
            exact r4 i hi
          · rw [pk_us, up_s]
    · by_cases hc : 60 ≤ b ∧ b ≤ 62
      · refine good 2 k xLet (upd xRel k (nI b)) xLim xOpen L (va_up R k b) V O ?_ ?_ ?_
        · have : f_X6_takesRelation (nI b) xRel (nI k) (nI 1) = some (1, upd xRel k (nI b), 2) := by
            unfold f_X6_takesRelation f_X6_takesRelation_18
            rw [if_pos klt, gIn_nI (by omega) (by decide), cl_nI (by omega)]
            rcases (show b = 60 ∨ b = 61 ∨ b = 62 by omega) with rfl | rfl | rfl
            · rw [if_pos (show nI 60 = 60 from rfl)]
            · rw [if_neg (show ¬ nI 61 = 60 by decide), if_pos (show nI 61 = 61 from rfl)]
            · rw [if_neg (show ¬ nI 62 = 60 by decide), if_neg (show ¬ nI 62 = 61 by decide), if_pos (show nI 62 = 62 from rfl)]
          unfold f_X6_goesOn
          rw [if_neg (show ¬ nI 1 = 0 by decide), if_pos (show nI 1 = 1 from rfl), this, bnd_s]
          rfl
        · unfold pgo
          dsimp only
          rw [if_neg (by decide), if_pos rfl, if_pos hc]
        · refine ⟨rfl, rfl, rfl, fun i hi => ?_, fun _ _ => r5 (by omega) (by omega), fun _ => ?_, r7, fun _ => r8 (by omega), r9⟩
          · rw [pk_un (by omega), up_n (by omega)]
            exact r4 i hi
          · rw [pk_us, up_s]
      · refine fail ?_ ?_
        · have : f_X6_takesRelation (nI b) xRel (nI k) (nI 1) = some (0, xRel, nI 1) := by
            unfold f_X6_takesRelation
            rw [if_neg (show ¬ nI b = 60 from fun q => hc (by have := (nI_eq (b := 60) (by omega) (by omega)).mp q; omega)), if_neg (show ¬ nI b = 61 from fun q => hc (by have := (nI_eq (b := 61) (by omega) (by omega)).mp q; omega)), if_neg (show ¬ nI b = 62 from fun q => hc (by have := (nI_eq (b := 62) (by omega) (by omega)).mp q; omega))]
          unfold f_X6_goesOn
          rw [if_neg (show ¬ nI 1 = 0 by decide), if_pos (show nI 1 = 1 from rfl), this, bnd_s]
          rfl
        · unfold pgo
          dsimp only
          rw [if_neg (by decide), if_pos rfl, if_neg hc]
    · by_cases hc : 48 ≤ b ∧ b ≤ 57
      · refine good 3 (k + 1) xLet xRel (upd xLim k (nI (b - 48))) xOpen L R (va_up V k (b - 48)) O ?_ ?_ ?_
        · unfold f_X6_goesOn f_X6_takesFigure
          rw [if_neg (show ¬ nI 2 = 0 by decide), if_neg (show ¬ nI 2 = 1 by decide), if_pos (show nI 2 = 2 from rfl), if_neg (show ¬ nI b < 48 from nI_nlt (b := 48) (by omega) (by omega)), if_neg (show ¬ (57 : Int32) < nI b from nI_nlt (a := 57) (by omega) (by omega)), if_pos klt, gIn_nI (by omega) (by decide), cl_nI (by omega), show nI b - 48 = nI (b - 48) from pk_sub (a := b) (b := 48) (by omega), show nI k + 1 = nI (k + 1) from nI_1 k, bnd_s]
          rfl
        · unfold pgo
          dsimp only
          rw [if_neg (by decide), if_neg (by decide), if_pos rfl, if_pos hc]
        · refine ⟨rfl, rfl, rfl, fun i hi => ?_, fun _ e => absurd e (by decide), fun e => absurd e (by decide), fun i hi => ?_, fun e => absurd e (by decide), r9⟩
          · by_cases e : i = k
            · subst e
              rw [pk_us, up_s]
              exact ⟨r5 (by omega) (by omega), r6 rfl, rfl⟩
            · rw [pk_un e, up_n e]
              exact r4 i (by omega)
          · by_cases e : i = k
            · subst e
              exact r8 (by omega)
            · exact r7 i (by omega)
      · refine fail ?_ ?_
        · have : f_X6_takesFigure (nI b) xLim (nI k) (nI 2) = some (0, xLim, nI k, nI 2) := by
            unfold f_X6_takesFigure
            by_cases q : b < 48
            · rw [if_pos (show nI b < 48 from nI_lt (b := 48) q (by omega))]
            · rw [if_neg (show ¬ nI b < 48 from nI_nlt (b := 48) (by omega) (by omega)), if_pos (show (57 : Int32) < nI b from nI_lt (a := 57) (by omega) (by omega))]
          unfold f_X6_goesOn
          rw [if_neg (show ¬ nI 2 = 0 by decide), if_neg (show ¬ nI 2 = 1 by decide), if_pos (show nI 2 = 2 from rfl), this, bnd_s]
          rfl
        · unfold pgo
          dsimp only
          rw [if_neg (by decide), if_neg (by decide), if_pos rfl, if_neg hc]
    · have k1 := h7 (by omega)
      by_cases hc : 48 ≤ b ∧ b ≤ 57
      · refine good 4 k xLet xRel (upd xLim (k - 1) (nI (10 * V (k - 1) + (b - 48)))) xOpen L R (va_up V (k - 1) (10 * V (k - 1) + (b - 48))) O ?_ ?_ ?_
        · have hv := h12 rfl
          unfold f_X6_goesOn f_X6_takesSecondFigure f_X6_goesOn_70
          rw [if_neg (show ¬ nI 3 = 0 by decide), if_neg (show ¬ nI 3 = 1 by decide), if_neg (show ¬ nI 3 = 2 by decide), if_pos (show nI 3 = 3 from rfl), if_neg (show ¬ nI b < 48 from nI_nlt (b := 48) (by omega) (by omega)), if_neg (show ¬ (57 : Int32) < nI b from nI_nlt (a := 57) (by omega) (by omega)), if_pos (show (1 : Int32) ≤ nI k from nI_le (a := 1) k1 (by omega)), show nI k - 1 = nI (k - 1) from pk_sub (a := k) (b := 1) k1, gIn_nI (by omega) (by decide), cl_nI (by omega), (r4 (k - 1) (by omega)).2.2, show (10 : Int32) = nI 10 from rfl, pk_mul, nI_add, show nI (10 * V (k - 1) + b) - 48 = nI (10 * V (k - 1) + b - 48) from pk_sub (a := 10 * V (k - 1) + b) (b := 48) (by omega), bnd_s, if_neg (show ¬ ((1 : Int32), upd xLim (k - 1) (nI (10 * V (k - 1) + b - 48)), (4 : Int32)).1 = 0 by show ¬ (1 : Int32) = 0; decide), show 10 * V (k - 1) + b - 48 = 10 * V (k - 1) + (b - 48) by omega]
          rfl
        · unfold pgo
          dsimp only
          rw [if_neg (by decide), if_neg (by decide), if_neg (by decide), if_pos ⟨rfl, hc.1, hc.2⟩]
        · refine ⟨rfl, rfl, rfl, fun i hi => ?_, fun _ e => absurd e (by decide), fun e => absurd e (by decide), r7, fun e => absurd e (by decide), r9⟩
          by_cases e : i = k - 1
          · subst e
            rw [pk_us, up_s]
            exact ⟨(r4 _ hi).1, (r4 _ hi).2.1, rfl⟩
          · rw [pk_un e, up_n e]
            exact r4 i hi
      · have hsf : f_X6_takesSecondFigure (nI b) xLim (nI k) (nI 3) = some (0, xLim, nI 3) := by
          unfold f_X6_takesSecondFigure
          by_cases q : b < 48
          · rw [if_pos (show nI b < 48 from nI_lt (b := 48) q (by omega))]
          · rw [if_neg (show ¬ nI b < 48 from nI_nlt (b := 48) (by omega) (by omega)), if_pos (show (57 : Int32) < nI b from nI_lt (a := 57) (by omega) (by omega))]
        by_cases hj2 : b = 43 ∨ b = 124
        · refine good 0 k xLet xRel xLim (upd xOpen k (nI (if b = 124 then 1 else 0))) L R V (va_up O k (if b = 124 then 1 else 0)) ?_ ?_ ?_
          · unfold f_X6_goesOn f_X6_goesOn_70
            rw [if_neg (show ¬ nI 3 = 0 by decide), if_neg (show ¬ nI 3 = 1 by decide), if_neg (show ¬ nI 3 = 2 by decide), if_pos (show nI 3 = 3 from rfl), hsf, bnd_s, if_pos rfl, joint_yes (by omega) hj2, bnd_s, if_neg (show ¬ ((1 : Int32), upd xOpen k (nI (if b = 124 then 1 else 0)), (0 : Int32)).1 = 0 by show ¬ (1 : Int32) = 0; decide)]
            rfl
          · unfold pgo
            dsimp only
            rw [if_neg (by decide), if_neg (by decide), if_neg (by decide), if_neg (fun q => hc q.2), if_pos hj2]
          · refine ⟨rfl, rfl, rfl, r4, fun e => absurd e (by decide), fun e => absurd e (by decide), fun i hi => ?_, fun _ => ?_, ?_⟩
            · rw [pk_un (by omega), up_n (by omega)]
              exact r7 i hi
            · rw [pk_us, up_s]
            · rw [pk_un (by omega)]
              exact r9
        · refine fail ?_ ?_
          · unfold f_X6_goesOn f_X6_goesOn_70
            rw [if_neg (show ¬ nI 3 = 0 by decide), if_neg (show ¬ nI 3 = 1 by decide), if_neg (show ¬ nI 3 = 2 by decide), if_pos (show nI 3 = 3 from rfl), hsf, bnd_s, if_pos rfl, joint_no hb hj2, bnd_s, if_pos rfl]
          · unfold pgo
            dsimp only
            rw [if_neg (by decide), if_neg (by decide), if_neg (by decide), if_neg (fun q => hc q.2), if_neg hj2]
    · have k1 := h7 (by omega)
      by_cases hj2 : b = 43 ∨ b = 124
      · refine good 0 k xLet xRel xLim (upd xOpen k (nI (if b = 124 then 1 else 0))) L R V (va_up O k (if b = 124 then 1 else 0)) ?_ ?_ ?_
        · unfold f_X6_goesOn
          rw [if_neg (show ¬ nI 4 = 0 by decide), if_neg (show ¬ nI 4 = 1 by decide), if_neg (show ¬ nI 4 = 2 by decide), if_neg (show ¬ nI 4 = 3 by decide), joint_yes (by omega) hj2, bnd_s]
          rfl
        · unfold pgo
          dsimp only
          rw [if_neg (by decide), if_neg (by decide), if_neg (by decide), if_neg (fun q => absurd q.1 (by decide)), if_pos hj2]
        · refine ⟨rfl, rfl, rfl, r4, fun e => absurd e (by decide), fun e => absurd e (by decide), fun i hi => ?_, fun _ => ?_, ?_⟩
          · rw [pk_un (by omega), up_n (by omega)]
            exact r7 i hi
          · rw [pk_us, up_s]
          · rw [pk_un (by omega)]
            exact r9
      · refine fail ?_ ?_
        · unfold f_X6_goesOn
          rw [if_neg (show ¬ nI 4 = 0 by decide), if_neg (show ¬ nI 4 = 1 by decide), if_neg (show ¬ nI 4 = 2 by decide), if_neg (show ¬ nI 4 = 3 by decide), joint_no hb hj2, bnd_s]
          rfl
        · unfold pgo
          dsimp only
          rw [if_neg (by decide), if_neg (by decide), if_neg (by decide), if_neg (fun q => absurd q.1 (by decide)), if_neg hj2]
