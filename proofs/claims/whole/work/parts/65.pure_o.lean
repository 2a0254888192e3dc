/-! pure rows: whether a row holds the sentences, both sides; holds -/
theorem pop_le (b : Nat) : pop b ≤ 16 := popN_le 16 b
theorem cnt_le (m : Nat) : ∀ f : Nat → Bool, cnt f m ≤ m := by
  induction m with
  | zero => intro f; exact Nat.le_refl 0
  | succ m ih =>
    intro f
    rw [cnt]
    have := ih (fun s => f (s + 1))
    split <;> omega
theorem num_lt {w n b T : Nat} (hn : n ≤ 15) : num w n b T < 100 := by
  have hr : rnN n b ≤ 17 := by
    unfold rnN
    have := pop_le ((b ^^^ b / 2) % 2 ^ (n - 1))
    split <;> omega
  have h1 := lr_le b
  have h2 := lr_le (cpl n b)
  have h3 := pop_le b
  have h4 := pop_le (gA b)
  have h5 := ffN_le (sb n b) n hn
  have h6 : tim T n b ≤ 16 := by
    unfold tim
    have := cnt_le (n - len T + 1) (fun s => decide (b / 2 ^ s % 2 ^ len T = T % 2 ^ len T))
    split <;> omega
  unfold num num5
  repeat' split
  all_goals omega
/-- a test: sign R, value V, the number v -/
def tdone (R V v : Nat) : Bool := if R = 60 then decide (v < V) else if R = 62 then decide (V < v) else decide (v = V)
def hld (L R V O : Nat → Nat) (g : Nat → Nat) : Nat → Nat → Bool → Bool
  | 0, _, a => a
  | m + 1, i, a => if O i = 0 then hld L R V O g m (i + 1) (a && tdone (R i) (V i) (g (L i))) else if a then true else hld L R V O g m (i + 1) (tdone (R i) (V i) (g (L i)))
def bI (b : Bool) : Int32 := if b then 1 else 0
theorem bI_gZ {α : Type} {b : Bool} {k : Option α} : gZ (bI b) k = k := by
  cases b
  · exact gZ0
  · exact gZ1
theorem done_X {i w : Nat} {xLet xRel xLim xMeas : Nat → Int32} {R V v : Nat} (hi : i < 16) (hw : w ≤ 6) (e1 : xLet i = nI w) (e2 : xRel i = nI R) (e3 : xLim i = nI V) (e4 : xMeas w = nI v) (hR : R < 100) (hV : V < 100) (hv : v < 100) : f_X6_isDone (nI i) xLet xRel xLim xMeas = some (bI (tdone R V v)) := by
  unfold f_X6_isDone tdone
  rw [gIn_nI hi (by decide), cl_nI (by omega), e1, e2, e3, gIn_nI (by omega) (by decide), cl_nI (by omega), e4, show (60 : Int32) = nI 60 from rfl, show (62 : Int32) = nI 62 from rfl]
  simp only [neq_iff (show R < 2 ^ 31 by omega) (show 60 < 2 ^ 31 by decide), neq_iff (show R < 2 ^ 31 by omega) (show 62 < 2 ^ 31 by decide), nle_iff (show V < 2 ^ 31 by omega) (show v < 2 ^ 31 by omega), nle_iff (show v < 2 ^ 31 by omega) (show V < 2 ^ 31 by omega), neq_iff (show v < 2 ^ 31 by omega) (show V < 2 ^ 31 by omega)]
  unfold bI
  by_cases h1 : R = 60
  · by_cases h2 : V ≤ v
    · simp [h1, h2, show ¬ v < V by omega]
    · simp [h1, h2, show v < V by omega]
  · by_cases h3 : R = 62
    · by_cases h2 : v ≤ V
      · simp [h3, h2, show ¬ V < v by omega]
      · simp [h3, h2, show V < v by omega]
    · by_cases h2 : v = V
      · simp [h1, h3, h2]
      · simp [h1, h3, h2]
/-- the numbers that X has measured already -/
def KM (K : Nat) (me : Nat → Int32) (g : Nat → Nat) : Prop := K < 128 ∧ ∀ w, w ≤ 6 → K.testBit w = true → me w = nI (g w)
theorem bit_nI {K w : Nat} (hK : K < 128) (hw : w ≤ 6) : ((nI K >>> (nI w &&& 31)) &&& 1 = 0) = (K.testBit w = false) := by
  have h1 : K / 2 ^ w ≤ K := Nat.div_le_self _ _
  rw [shr_nI (by omega) (by omega), and1_nI, show (0 : Int32) = nI 0 from rfl, neq_iff (by omega) (by omega), Nat.testBit, Nat.shiftRight_eq_div_pow, Nat.one_and_eq_mod_two]
  rcases bit01 (show K / 2 ^ w % 2 < 2 by omega) with e | e <;> rw [e] <;> simp
theorem hold_s {N n b T i k K w R V : Nat} {kk : Int32 → Int32 → Int32 → Int32 → Int32 → Int32 → (Nat → Int32) → (Nat → Int32) → (Nat → Int32) → (Nat → Int32) → (Nat → Int32) → Int32 → Option (Int32 × (Nat → Int32))} {xLet xRel xLim xOpen me : Nat → Int32} (hN : 50 ≤ N) (hn : n ≤ 15) (hb : b < 2 ^ n) (hT : 2 ≤ T ∧ T < 128) (hi : i < 16) (hw : w ≤ 6) (e1 : xLet i = nI w) (e2 : xRel i = nI R) (e3 : xLim i = nI V) (hR : R < 100) (hV : V < 100) (hK : KM K me (fun w => num w n b T)) (a : Bool) :
    ∃ K' me', KM K' me' (fun w => num w n b T) ∧ f_X6_hold_38 N kk (nI n) (nI b) (nI T) (bI a) (nI K) (nI i) xLet xRel xLim xOpen me (nI k) = kk (nI n) (nI b) (nI T) (bI (a && tdone R V (num w n b T))) (nI K') (nI (i + 1)) xLet xRel xLim xOpen me' (nI k) := by
  unfold f_X6_hold_38
  cases a with
  | false =>
    refine ⟨K, me, hK, ?_⟩
    rw [if_pos (show bI false = 0 from rfl)]
    unfold f_X6_hold_94
    rw [nI_1]
    rfl
  | true =>
    rw [if_neg (show ¬ bI true = 0 by decide), gIn_nI hi (by decide), cl_nI (by omega), e1]
    simp only [bit_nI hK.1 hw]
    unfold f_X6_hold_86 f_X6_hold_94
    have hv : num w n b T < 100 := num_lt hn
    by_cases h : K.testBit w = false
    · rw [if_pos h, num_X6 hN hw hT hn hb, bnd_s, gIn_nI (by omega) (by decide), cl_nI (by omega), one_shl (by omega), fa_or]
      rw [done_X (v := num w n b T) hi hw e1 e2 e3 (pk_us) hR hV hv, bnd_s, nI_1]
      refine ⟨K ||| 2 ^ w, upd me w (nI (num w n b T)), ⟨?_, ?_⟩, rfl⟩
      · have : 2 ^ w < 2 ^ 7 := Nat.pow_lt_pow_right (by omega) (by omega)
        exact Nat.or_lt_two_pow (n := 7) hK.1 this
      · intro z hz hzb
        by_cases e : z = w
        · subst e
          exact pk_us
        · rw [pk_un e]
          rw [fb_bit_set] at hzb
          have hzb : K.testBit z = true := by
            simpa [e] using hzb
          exact hK.2 z hz hzb
    · have h' : K.testBit w = true := by
        cases q : K.testBit w with
        | false => exact absurd q h
        | true => rfl
      rw [if_neg h, done_X (v := num w n b T) hi hw e1 e2 e3 (hK.2 w hw h') hR hV hv, bnd_s, nI_1]
      exact ⟨K, me, hK, rfl⟩
theorem hold_loop {N n b T k : Nat} {L R V O : Nat → Nat} {xLet xRel xLim xOpen : Nat → Int32} (hN : 50 ≤ N) (hn : n ≤ 15) (hb : b < 2 ^ n) (hT : 2 ≤ T ∧ T < 128) (hk : k ≤ 15) (hx : ∀ i, i < k → xLet i = nI (L i) ∧ xRel i = nI (R i) ∧ xLim i = nI (V i)) (ho : ∀ i, i < k → xOpen i = nI (O i)) (hl : ∀ i, i < k → L i ≤ 6 ∧ (60 ≤ R i ∧ R i ≤ 62) ∧ V i < 100) (hO : ∀ i, O i ≤ 1) :
    ∀ (m i c K : Nat) (a : Bool) (me : Nat → Int32), i + m = k → m < c → KM K me (fun w => num w n b T) → ∃ o, f_X6_hold_9 N c (nI n) (nI b) (nI T) (bI a) (nI K) (nI i) xLet xRel xLim xOpen me (nI k) = some o ∧ o.1 = bI (hld L R V O (fun w => num w n b T) m i a) := by
  intro m
  induction m with
  | zero =>
    intro i c K a me hi hc hK
    obtain ⟨c, rfl⟩ : ∃ z, c = z + 1 := ⟨c - 1, by omega⟩
    obtain rfl : i = k := by omega
    rw [f_X6_hold_9, if_pos (nI_le (Nat.le_refl i) (by omega)), bI_gZ]
    exact ⟨_, rfl, rfl⟩
  | succ m ih =>
    intro i c K a me hi hc hK
    obtain ⟨c, rfl⟩ : ∃ z, c = z + 1 := ⟨c - 1, by omega⟩
    obtain ⟨e1, e2, e3⟩ := hx i (by omega)
    obtain ⟨l1, l2, l3⟩ := hl i (by omega)
    have o1 := hO i
    rw [f_X6_hold_9, if_neg (nI_ge (by omega) (by omega)), gIn_nI (by omega) (by decide), cl_nI (by omega), ho i (by omega), hld]
    have hz : nI (O i) = 0 ↔ O i = 0 := nI_eq (b := 0) (by omega) (by omega)
    by_cases h : O i = 0
    · rw [if_pos (hz.mpr h), if_pos h]
      obtain ⟨K', me', b1, b2⟩ := hold_s (k := k) (kk := fun y0 y1 y2 y3 y4 y5 y6 y7 y8 y9 y10 y11 => f_X6_hold_9 N c y0 y1 y2 y3 y4 y5 y6 y7 y8 y9 y10 y11) (xOpen := xOpen) hN hn hb hT (show i < 16 by omega) l1 e1 e2 e3 (by omega) l3 hK a
      rw [b2]
      exact ih (i + 1) c K' _ me' (by omega) (by omega) b1
    · rw [if_neg (fun q => h (hz.mp q)), if_neg h]
      cases a with
      | true =>
        rw [if_neg (show ¬ bI true = 0 by decide), if_pos rfl]
        exact ⟨_, rfl, rfl⟩
      | false =>
        rw [if_pos (show bI false = 0 from rfl), if_neg (by decide)]
        obtain ⟨K', me', b1, b2⟩ := hold_s (k := k) (kk := fun y0 y1 y2 y3 y4 y5 y6 y7 y8 y9 y10 y11 => f_X6_hold_9 N c y0 y1 y2 y3 y4 y5 y6 y7 y8 y9 y10 y11) (xOpen := xOpen) hN hn hb hT (show i < 16 by omega) l1 e1 e2 e3 (by omega) l3 hK true
        rw [show (1 : Int32) = bI true from rfl, b2]
        exact ih (i + 1) c K' _ me' (by omega) (by omega) b1
/-- M's step -/
theorem does_s {N n b T i k w R V : Nat} {kk : Int32 → Int32 → Int32 → Int32 → Int32 → Int32 → (Nat → Int32) → (Nat → Int32) → (Nat → Int32) → (Nat → Int32) → Option Int32} {mTN mTS mTV mTB : Nat → Int32} (hN : 50 ≤ N) (hn : n ≤ 15) (hb : b < 2 ^ n) (hT : 2 ≤ T ∧ T < 128) (hi : i < 20) (hw : w ≤ 6) (e1 : mTN i = nI w) (e2 : mTS i = nI R) (e3 : mTV i = nI V) (hR : 60 ≤ R ∧ R ≤ 62) (hV : V < 100) (a : Bool) :
    f_X11_does_32 N kk (nI b) (nI n) (bI a) (nI i) (nI T) (nI k) mTN mTS mTV mTB = kk (nI b) (nI n) (bI (a && tdone R V (num w n b T))) (nI (i + 1)) (nI T) (nI k) mTN mTS mTV mTB := by
  unfold f_X11_does_32 f_X11_does_132 f_X11_does_133
  cases a with
  | false => rw [if_pos (show bI false = 0 from rfl), nI_1]; rfl
  | true =>
    have hv : num w n b T < 100 := num_lt hn
    generalize hq : num w n b T = v at hv ⊢
    rw [if_neg (show ¬ bI true = 0 by decide), gIn_nI hi (by decide), cl_nI (by omega), e1, num_M6 hN hw hT hn hb, bnd_s, e2, e3, show (60 : Int32) = nI 60 from rfl, show (61 : Int32) = nI 61 from rfl, nI_1, hq]
    simp only [neq_iff (show R < 2 ^ 31 by omega) (show 60 < 2 ^ 31 by decide), neq_iff (show R < 2 ^ 31 by omega) (show 61 < 2 ^ 31 by decide), nle_iff (show V < 2 ^ 31 by omega) (show v < 2 ^ 31 by omega), nle_iff (show v < 2 ^ 31 by omega) (show V < 2 ^ 31 by omega), neq_iff (show v < 2 ^ 31 by omega) (show V < 2 ^ 31 by omega)]
    unfold bI tdone
    rcases (show R = 60 ∨ R = 61 ∨ R = 62 by omega) with h | h | h
    · by_cases h2 : V ≤ v
      · simp [h, h2, show ¬ v < V by omega]
      · simp [h, h2, show v < V by omega]
    · by_cases h2 : v = V
      · simp [h, h2]
      · simp [h, h2]
    · by_cases h2 : v ≤ V
      · simp [h, h2, show ¬ V < v by omega]
      · simp [h, h2, show V < v by omega]
theorem does_loop {N n b T k : Nat} {L R V O : Nat → Nat} {mTN mTS mTV mTB : Nat → Int32} (hN : 50 ≤ N) (hn : n ≤ 15) (hb : b < 2 ^ n) (hT : 2 ≤ T ∧ T < 128) (hk : k ≤ 15) (hA : AG k mTN mTS mTV mTB L R V O) (hl : ∀ i, i < k → L i ≤ 6 ∧ (60 ≤ R i ∧ R i ≤ 62) ∧ V i < 100) (hO : ∀ i, O i ≤ 1) :
    ∀ (m i c : Nat) (a : Bool), 0 < i → i + m = k → m < c → f_X11_does_5 N c (nI b) (nI n) (bI a) (nI i) (nI T) (nI k) mTN mTS mTV mTB = some (bI (hld L R V O (fun w => num w n b T) m i a)) := by
  intro m
  induction m with
  | zero =>
    intro i c a h0 hi hc
    obtain ⟨c, rfl⟩ : ∃ z, c = z + 1 := ⟨c - 1, by omega⟩
    obtain rfl : i = k := by omega
    rw [f_X11_does_5, if_pos (nI_le (Nat.le_refl i) (by omega)), bI_gZ]
    rfl
  | succ m ih =>
    intro i c a h0 hi hc
    obtain ⟨c, rfl⟩ : ∃ z, c = z + 1 := ⟨c - 1, by omega⟩
    obtain ⟨e1, e2, e3, e4⟩ := hA i (by omega)
    obtain ⟨l1, l2, l3⟩ := hl i (by omega)
    have o1 := hO i
    rw [if_neg (by omega)] at e4
    rw [f_X11_does_5, if_neg (nI_ge (by omega) (by omega)), gIn_nI (by omega) (by decide), cl_nI (by omega), e4, hld]
    have hz : nI (O i) = 0 ↔ O i = 0 := nI_eq (b := 0) (by omega) (by omega)
    by_cases h : O i = 0
    · rw [if_pos (hz.mpr h), if_pos h, does_s hN hn hb hT (show i < 20 by omega) l1 e1 e2 e3 l2 l3 a]
      exact ih (i + 1) c _ (by omega) (by omega) (by omega)
    · rw [if_neg (fun q => h (hz.mp q)), if_neg h]
      cases a with
      | true => rw [if_neg (show ¬ bI true = 0 by decide), if_pos rfl]; rfl
      | false =>
        rw [if_pos (show bI false = 0 from rfl), if_neg (by decide), show (1 : Int32) = bI true from rfl, does_s hN hn hb hT (show i < 20 by omega) l1 e1 e2 e3 l2 l3 true]
        exact ih (i + 1) c _ (by omega) (by omega) (by omega)
/-- a row of n signs with hits b holds sentences m bytes long -/
def hol (tx : Nat → Nat) (m T n b : Nat) : Bool := hld (pm tx m).2.2.2.1 (pm tx m).2.2.2.2.1 (pm tx m).2.2.2.2.2.1 (pm tx m).2.2.2.2.2.2 (fun w => num w n b T) (pm tx m).2.1 0 true
theorem fpl_good {tx : Nat → Nat} {m : Nat} (hm : m ≤ 60) (h : fpl tx m = -1) : 1 ≤ (pm tx m).2.1 ∧ (pm tx m).2.1 ≤ 15 := by
  obtain ⟨i1, i2, -, -, -, -, i7, -, -⟩ := PI_pm tx m
  revert h
  unfold fpl
  generalize hs : (pm tx m).2.2.1 = sk
  cases sk with
  | some q =>
    intro h
    obtain ⟨-, -, -, -, -, -, -, i8, -⟩ := PI_pm tx m
    have := i8 q hs
    exact absurd h (nI_nm1 (by omega))
  | none =>
    intro h
    by_cases q : (pm tx m).1 = 3 ∨ (pm tx m).1 = 4
    · exact ⟨i7 (by omega), by omega⟩
    · have h : nI m = -1 := by
        rw [← h]
        show _ = if (pm tx m).1 = 3 ∨ (pm tx m).1 = 4 then -1 else nI m
        rw [if_neg q]
      exact absurd h (nI_nm1 (by omega))
theorem hold_X {N n b T m : Nat} {tx : Nat → Nat} {xLet xRel xLim xOpen : Nat → Int32} {xST xSD xSK : Int32} (hN : 50 ≤ N) (hm : m ≤ 60) (hf : fpl tx m = -1) (hR : RXt xLet xRel xLim xOpen xST xSD xSK (pm tx m)) (hT : 2 ≤ T ∧ T < 128) (hn : n ≤ 15) (hb : b < 2 ^ n) (me : Nat → Int32) :
    ∃ o, f_X6_hold N (nI n) (nI b) (nI T) xLet xRel xLim xOpen me xST = some o ∧ o.1 = bI (hol tx m T n b) := by
  obtain ⟨g1, g2⟩ := fpl_good hm hf
  obtain ⟨-, r2, -, r4, -, -, r7, -, -⟩ := hR
  obtain ⟨-, -, -, -, -, -, -, -, i9, -, -, -, -, i14⟩ := PI_pm tx m
  unfold f_X6_hold hol
  rw [r2]
  exact hold_loop hN hn hb hT g2 r4 r7 i9 i14 (pm tx m).2.1 0 N 0 true me (by omega) (by omega) ⟨by omega, fun w _ h => by simp at h⟩
theorem does_M {N n b T m : Nat} {tx : Nat → Nat} {mTests : Int32} {mTN mTS mTV mTB : Nat → Int32} (hN : 50 ≤ N) (hm : m ≤ 60) (hf : fpl tx m = -1) (h1 : mTests = nI (pm tx m).2.1) (hA : AG (pm tx m).2.1 mTN mTS mTV mTB (pm tx m).2.2.2.1 (pm tx m).2.2.2.2.1 (pm tx m).2.2.2.2.2.1 (pm tx m).2.2.2.2.2.2) (hT : 2 ≤ T ∧ T < 128) (hn : n ≤ 15) (hb : b < 2 ^ n) :
    f_X11_does N (nI b) (nI n) (nI T) mTests mTN mTS mTV mTB = some (bI (hol tx m T n b)) := by
  obtain ⟨g1, g2⟩ := fpl_good hm hf
  obtain ⟨-, -, -, -, -, -, -, -, i9, -, -, -, i13, i14⟩ := PI_pm tx m
  unfold f_X11_does hol
  rw [h1]
  obtain ⟨c, rfl⟩ : ∃ z, N = z + 1 := ⟨N - 1, by omega⟩
  obtain ⟨k, hk⟩ : ∃ z, (pm tx m).2.1 = z + 1 := ⟨(pm tx m).2.1 - 1, by omega⟩
  have hl := does_loop hN hn hb hT g2 hA i9 i14
  have hk15 : k < 15 := by omega
  rw [hk] at *
  obtain ⟨e1, e2, e3, e4⟩ := hA 0 (by omega)
  obtain ⟨l1, l2, l3⟩ := i9 0 (by omega)
  rw [if_pos rfl] at e4
  rw [f_X11_does_5, if_neg (show ¬ nI (k + 1) ≤ 0 from nI_nle (by omega) (by omega)), show gIn (0 : Int32) 20 = fun (q : Option Int32) => q from funext fun q => gIn_nI (n := 0) (by decide) (by decide), show (0 : Int32).toNatClampNeg = 0 from rfl, e4, if_neg (by decide), if_pos rfl, hld, if_pos i13]
  have := does_s (k := k + 1) (kk := fun y0 y1 y2 y3 y4 y5 y6 y7 y8 y9 => f_X11_does_5 (c + 1) c y0 y1 y2 y3 y4 y5 y6 y7 y8 y9) (mTB := mTB) hN hn hb hT (show 0 < 20 by decide) l1 e1 e2 e3 l2 l3 true
  refine Eq.trans this ?_
  exact hl k 1 c _ (by omega) (by omega) (by omega)
theorem p_holds {N : Nat} (hN : 70 ≤ N) {xLen xHits xUns mSizes mSigns : Nat → Int32} (hr : RRow xLen xHits xUns mSizes mSigns) {T : Nat} (hT : 2 ≤ T ∧ T < 128) {tx : Nat → Nat} {m : Nat} {xLet xRel xLim xOpen : Nat → Int32} {xSL xST xSD xSK mTyped : Int32} {mText : Nat → Int32} {mFault mTests : Int32} {mTN mTS mTV mTB : Nat → Int32} {mRead : Int32} (hR : RTx tx m xLet xRel xLim xOpen xSL xST xSD xSK mTyped mText mFault mTests mTN mTS mTV mTB mRead) (mAt : Int32) (me : Nat → Int32) (x1 : Int32) :
    ∃ o q, f_X10_holds N x1 xLen xHits xUns xLet xRel xLim xOpen me xSL xST xSD xSK (nI T) = some o ∧ f_X11_holds N x1 mSizes mSigns (nI T) mTyped mText mAt mFault mTests mTN mTS mTV mTB mRead = some q ∧ o.1 = q.1 ∧ RTx tx m xLet xRel xLim xOpen xSL xST xSD xSK mTyped mText q.2.2.1 q.2.2.2.1 q.2.2.2.2.1 q.2.2.2.2.2.1 q.2.2.2.2.2.2.1 q.2.2.2.2.2.2.2.1 q.2.2.2.2.2.2.2.2 := by
  unfold f_X10_holds f_X11_holds
  rcases row_cases x1 with ⟨r, h1, rfl, h2, h3⟩ | ⟨h2, h3⟩
  · obtain ⟨n, h, u, n1, n2, n3, n4, n5, n6, n7, n8, n9, n10, n11, n12, n13⟩ := row_at hr (show 50 ≤ N by omega) h1
    rw [h2, h3, bnd_s, bnd_s, if1_0, if1_0, gIn_nI h1 (by decide), n9, cl_nI (by omega), n10, bnd_s, bnd_s]
    by_cases hu : u = 0
    · rw [if_pos hu, if1_0, if1_0]
      obtain ⟨q, a1, a2, a3, a4⟩ := now_M hN hR mAt
      obtain ⟨r1, r2, r3, r4, r5, r6, r7⟩ := id hR
      rw [a1, bnd_s, a2, r5, faulty_X r1 r6, bnd_s]
      by_cases hf : fpl tx m = -1
      · obtain ⟨b1, b2⟩ := a4 hf
        obtain ⟨o, c1, c2⟩ := hold_X (N := N) (by omega) r1 hf r6 hT n1 n2 me
        rw [if_pos hf, if_pos hf, if0_0, n8, bnd_s, gIn_nI h1 (by decide), n7, does_M (by omega) r1 hf b1 b2 hT n1 n2, bnd_s, n4, n5, c1, bnd_s, c2, ← r5]
        cases hol tx m T n h
        · exact ⟨_, _, rfl, rfl, rfl, a3⟩
        · exact ⟨_, _, rfl, rfl, rfl, a3⟩
      · rw [if_neg hf, if_neg hf, if1_0, ← r5]
        exact ⟨_, _, rfl, rfl, rfl, a3⟩
    · rw [if_neg hu, if0_0, if0_0]
      exact ⟨_, _, rfl, rfl, rfl, hR⟩
  · rw [h2, h3, bnd_s, bnd_s, if0_0, if0_0]
    exact ⟨_, _, rfl, rfl, rfl, hR⟩
