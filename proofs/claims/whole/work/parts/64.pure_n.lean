/-! pure rows: type, wipe, fault -/
def RTx (tx : Nat → Nat) (m : Nat) (xLet xRel xLim xOpen : Nat → Int32) (xSL xST xSD xSK mTyped : Int32) (mText : Nat → Int32) (mFault mTests : Int32) (mTN mTS mTV mTB : Nat → Int32) (mRead : Int32) : Prop :=
  m ≤ 60 ∧ (∀ i, i < m → mText i = nI (tx i)) ∧ (∀ i, i < m → tx i < 256) ∧ mTyped = nI m ∧ xSL = nI m ∧ RXt xLet xRel xLim xOpen xST xSD xSK (pm tx m) ∧ (mRead = 0 ∨ (mRead = 1 ∧ mFault = fpl tx m ∧ (fpl tx m = -1 → mTests = nI (pm tx m).2.1 ∧ AG (pm tx m).2.1 mTN mTS mTV mTB (pm tx m).2.2.2.1 (pm tx m).2.2.2.2.1 (pm tx m).2.2.2.2.2.1 (pm tx m).2.2.2.2.2.2)))
theorem pm_cong {tx ty : Nat → Nat} : ∀ m, (∀ i, i < m → tx i = ty i) → pm tx m = pm ty m := by
  intro m
  induction m with
  | zero => intro _; rfl
  | succ m ih =>
    intro h
    show pstep m (pm tx m) (tx m) = pstep m (pm ty m) (ty m)
    rw [ih (fun i hi => h i (by omega)), h m (by omega)]
theorem p_type {N : Nat} (hN : 50 ≤ N) {tx : Nat → Nat} {m : Nat} {xLet xRel xLim xOpen : Nat → Int32} {xSL xST xSD xSK mTyped : Int32} {mText : Nat → Int32} {mFault mTests : Int32} {mTN mTS mTV mTB : Nat → Int32} {mRead : Int32} (hR : RTx tx m xLet xRel xLim xOpen xSL xST xSD xSK mTyped mText mFault mTests mTN mTS mTV mTB mRead) (kn : Nat → Int32) (x1 : Int32) :
    ∃ o q tx' m', f_X10_type N x1 xLet xRel xLim xOpen xSL xST xSD xSK kn = some o ∧ f_X11_type x1 mTyped mText mRead = some q ∧ o.1 = q.1 ∧ RTx tx' m' o.2.1 o.2.2.1 o.2.2.2.1 o.2.2.2.2.1 o.2.2.2.2.2.1 o.2.2.2.2.2.2.1 o.2.2.2.2.2.2.2.1 o.2.2.2.2.2.2.2.2.1 q.2.1 q.2.2.1 mFault mTests mTN mTS mTV mTB q.2.2.2 ∧ ((o.2.2.2.2.2.2.2.2.2 = kn ∧ tx' = tx ∧ m' = m) ∨ ∀ i, i < 16 → o.2.2.2.2.2.2.2.2.2 i = 0) := by
  obtain ⟨r1, r2, r3, r4, r5, r6, r7⟩ := id hR
  unfold f_X10_type f_X11_type
  rcases Min_rng x1 255 (by decide) with ⟨b, hb, rfl, h⟩ | ⟨h0, h⟩ | ⟨h0, h1, h⟩
  · rw [show f_X11_in (nI b) 0 255 = some 1 from h, bnd_s, if1_0, if_neg (nI_pos (by omega)), if_pos (show nI b ≤ 255 from nI_le (b := 255) (by omega) (by omega)), r5, r4]
    by_cases c : m = 60
    · rw [if_neg (show ¬ nI m < 60 by rw [c]; decide), if_pos (show nI m = 60 by rw [c]; rfl)]
      refine ⟨_, _, tx, m, rfl, rfl, rfl, ?_, Or.inl ⟨rfl, rfl, rfl⟩⟩
      exact ⟨r1, r2, r3, rfl, rfl, r6, r7⟩
    · obtain ⟨o, a1, a2, a3⟩ := app_X (b := b) hN (show m < 60 by omega) (by omega) (PI_pm tx m) r6
      obtain ⟨kn', k1, k2⟩ := forget_ok hN kn
      rw [if_pos (show nI m < 60 from nI_lt (b := 60) (by omega) (by omega)), a1, bnd_s, k1, bnd_s, if_neg (show ¬ nI m = 60 from fun q => c ((nI_eq (b := 60) (by omega) (by omega)).mp q)), gIn_nI (by omega) (by decide), cl_nI (by omega), show nI m + 1 = nI (m + 1) from nI_1 m]
      have hx : ∀ i, i < m → va_up tx m b i = tx i := fun i hi => up_n (by omega)
      have hpm : pm (va_up tx m b) (m + 1) = pstep m (pm tx m) b := by
        show pstep m (pm (va_up tx m b) m) (va_up tx m b m) = _
        rw [pm_cong m hx, up_s]
      refine ⟨_, _, va_up tx m b, m + 1, rfl, rfl, a2, ⟨by omega, fun i hi => ?_, fun i hi => ?_, rfl, a2, by rw [hpm]; exact a3, Or.inl rfl⟩, Or.inr k2⟩
      · by_cases e : i = m
        · subst e
          rw [up_s]
          exact pk_us
        · rw [up_n e]
          exact (pk_un e).trans (r2 i (by omega))
      · by_cases e : i = m
        · subst e
          rw [up_s]
          omega
        · rw [up_n e]
          exact r3 i (by omega)
  · rw [show f_X11_in x1 0 255 = some 0 from h, bnd_s, if0_0, if_pos h0]
    exact ⟨_, _, tx, m, rfl, rfl, rfl, hR, Or.inl ⟨rfl, rfl, rfl⟩⟩
  · have h2 : ¬ x1 ≤ 255 := fun q => by
      rw [fa_le] at q h1
      rw [nI_toInt (by omega)] at h1
      have : (255 : Int32).toInt = 255 := by decide
      omega
    rw [show f_X11_in x1 0 255 = some 0 from h, bnd_s, if0_0, if_neg h0, if_neg h2]
    exact ⟨_, _, tx, m, rfl, rfl, rfl, hR, Or.inl ⟨rfl, rfl, rfl⟩⟩
theorem p_wipe {N : Nat} (hN : 50 ≤ N) {tx : Nat → Nat} {m : Nat} {xLet xRel xLim xOpen : Nat → Int32} {xSL xST xSD xSK mTyped : Int32} {mText : Nat → Int32} {mFault mTests : Int32} {mTN mTS mTV mTB : Nat → Int32} {mRead : Int32} (hR : RTx tx m xLet xRel xLim xOpen xSL xST xSD xSK mTyped mText mFault mTests mTN mTS mTV mTB mRead) (kn : Nat → Int32) :
    ∃ o q, f_X10_wipe N xSL xST xSD xSK kn = some o ∧ f_X11_wipe mTyped mRead = some q ∧ o.1 = q.1 ∧ RTx tx 0 xLet xRel xLim xOpen o.2.1 o.2.2.1 o.2.2.2.1 o.2.2.2.2.1 q.2.1 mText mFault mTests mTN mTS mTV mTB q.2.2 ∧ ∀ i, i < 16 → o.2.2.2.2.2 i = 0 := by
  obtain ⟨r1, r2, r3, r4, r5, r6, r7⟩ := id hR
  obtain ⟨kn', k1, k2⟩ := forget_ok hN kn
  unfold f_X10_wipe f_X11_wipe f_X6_empty
  rw [bnd_s, k1, bnd_s]
  refine ⟨_, _, rfl, rfl, r5.trans r4.symm, ⟨by omega, fun i hi => absurd hi (Nat.not_lt_zero i), fun i hi => absurd hi (Nat.not_lt_zero i), rfl, rfl, ?_, Or.inl rfl⟩, k2⟩
  obtain ⟨-, -, -, -, -, -, -, -, s9⟩ := r6
  exact ⟨rfl, rfl, rfl, fun i hi => absurd hi (Nat.not_lt_zero i), fun e _ => absurd (show 1 ≤ 0 from e) (by decide), fun e => absurd (show 0 = 2 from e) (by decide), fun i hi => absurd hi (Nat.not_lt_zero i), fun _ => s9, s9⟩
theorem fault_X {tx : Nat → Nat} {m : Nat} (hm : m ≤ 60) {xLet xRel xLim xOpen : Nat → Int32} {xST xSD xSK : Int32} (h : RXt xLet xRel xLim xOpen xST xSD xSK (pm tx m)) : f_X6_faultPlace (nI m) xSD xSK = some (fpl tx m) := by
  have hI := PI_pm tx m
  obtain ⟨r1, r2, r3, -⟩ := h
  obtain ⟨i1, -, -, -, -, -, -, i8, -⟩ := hI
  unfold f_X6_faultPlace f_X6_faultPlace_29 fpl
  generalize (pm tx m).2.2.1 = sk at r3 i8 ⊢
  generalize (pm tx m).1 = d at r1 i1 ⊢
  cases sk with
  | some q =>
    have := i8 q rfl
    have r3 : xSK = nI q := r3
    rw [r3, if_neg (nI_nm1 (by omega))]
  | none =>
    have r3 : xSK = -1 := r3
    rw [r3, if_pos rfl, r1]
    rcases (show d = 0 ∨ d = 1 ∨ d = 2 ∨ d = 3 ∨ d = 4 by omega) with rfl | rfl | rfl | rfl | rfl <;> rfl
theorem faulty_X {tx : Nat → Nat} {m : Nat} (hm : m ≤ 60) {xLet xRel xLim xOpen : Nat → Int32} {xST xSD xSK : Int32} (h : RXt xLet xRel xLim xOpen xST xSD xSK (pm tx m)) : f_X6_isFaulty (nI m) xSD xSK = some (if fpl tx m = -1 then 0 else 1) := by
  unfold f_X6_isFaulty
  rw [fault_X hm h, bnd_s]
  by_cases q : fpl tx m = -1
  · rw [if_pos q, if_pos q]
  · rw [if_neg q, if_neg q]
/-- M looks for the fault: what it has then -/
theorem now_M {N : Nat} (hN : 70 ≤ N) {tx : Nat → Nat} {m : Nat} {xLet xRel xLim xOpen : Nat → Int32} {xSL xST xSD xSK mTyped : Int32} {mText : Nat → Int32} {mFault mTests : Int32} {mTN mTS mTV mTB : Nat → Int32} {mRead : Int32} (hR : RTx tx m xLet xRel xLim xOpen xSL xST xSD xSK mTyped mText mFault mTests mTN mTS mTV mTB mRead) (mAt : Int32) :
    ∃ q, f_X11_faultNow N mTyped mText mAt mFault mTests mTN mTS mTV mTB mRead = some q ∧ q.1 = fpl tx m ∧ RTx tx m xLet xRel xLim xOpen xSL xST xSD xSK mTyped mText q.2.2.1 q.2.2.2.1 q.2.2.2.2.1 q.2.2.2.2.2.1 q.2.2.2.2.2.2.1 q.2.2.2.2.2.2.2.1 q.2.2.2.2.2.2.2.2 ∧ (fpl tx m = -1 → q.2.2.2.1 = nI (pm tx m).2.1 ∧ AG (pm tx m).2.1 q.2.2.2.2.1 q.2.2.2.2.2.1 q.2.2.2.2.2.2.1 q.2.2.2.2.2.2.2.1 (pm tx m).2.2.2.1 (pm tx m).2.2.2.2.1 (pm tx m).2.2.2.2.2.1 (pm tx m).2.2.2.2.2.2) := by
  obtain ⟨r1, r2, r3, r4, r5, r6, r7⟩ := id hR
  rcases r7 with r7 | ⟨a1, a2, a3⟩
  · obtain ⟨q, b1, b2, b3, b4, b5⟩ := fault_M (N := N) hN r1 r2 r3 mAt mFault mTests mTN mTS mTV mTB
    rw [r4, r7, b1]
    exact ⟨q, rfl, b2, ⟨r1, r2, r3, rfl, r5, r6, Or.inr ⟨b4, b3, b5⟩⟩, b5⟩
  · unfold f_X11_faultNow
    rw [a1, if1_0]
    exact ⟨_, rfl, a2, ⟨r1, r2, r3, r4, r5, r6, Or.inr ⟨rfl, a2, a3⟩⟩, a3⟩
theorem p_fault {N : Nat} (hN : 70 ≤ N) {tx : Nat → Nat} {m : Nat} {xLet xRel xLim xOpen : Nat → Int32} {xSL xST xSD xSK mTyped : Int32} {mText : Nat → Int32} {mFault mTests : Int32} {mTN mTS mTV mTB : Nat → Int32} {mRead : Int32} (hR : RTx tx m xLet xRel xLim xOpen xSL xST xSD xSK mTyped mText mFault mTests mTN mTS mTV mTB mRead) (mAt : Int32) :
    ∃ o q, f_X10_fault xSL xSD xSK = some o ∧ f_X11_fault N mTyped mText mAt mFault mTests mTN mTS mTV mTB mRead = some q ∧ o = q.1 ∧ RTx tx m xLet xRel xLim xOpen xSL xST xSD xSK mTyped mText q.2.2.1 q.2.2.2.1 q.2.2.2.2.1 q.2.2.2.2.2.1 q.2.2.2.2.2.2.1 q.2.2.2.2.2.2.2.1 q.2.2.2.2.2.2.2.2 := by
  obtain ⟨q, a1, a2, a3, -⟩ := now_M hN hR mAt
  obtain ⟨r1, r2, r3, r4, r5, r6, r7⟩ := id hR
  unfold f_X10_fault f_X11_fault
  rw [a1, bnd_s, r5, fault_X r1 r6, bnd_s]
  exact ⟨_, _, rfl, rfl, a2.symm, by rw [← r5]; exact a3⟩
