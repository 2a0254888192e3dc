/-! the start: what the tables say, the String constant, both worlds new -/
theorem tie0 {k : Nat → ClassId} {ax am : Nat → Nat} : RW k ax am (wX k ax (fun _ => 0) (fun _ => 0) (fun _ => 0) (fun _ _ => 0) (fun _ => 1) (fun _ => 0) (fun _ => 0) (fun _ => 0) (fun _ => 0) (fun _ => 0) (fun _ => 0) (fun _ => 0) 0 0 0 (-1) (fun _ _ => 0) (fun _ => 0) (fun _ => 0) 0 0 8 3 0) (wM k am (fun _ => 0) (fun _ => 0) 8 3 0 (fun _ => 0) 0 0 0 (fun _ => 0) (fun _ => 0) (fun _ => 0) (fun _ => 0) 0 (fun _ => 0) 0 0 0 (fun _ => 0) (fun _ => 0) (fun _ => 0) (fun _ => 0) (fun _ => 0) 0) :=
  RW_mk ⟨fun r hr => ⟨0, by omega, rfl, rfl, rfl, rfl, fun i hi => absurd hi (Nat.not_lt_zero i)⟩, fun q hq => ⟨0, by omega, rfl, rfl, rfl, Or.inr ⟨rfl, rfl⟩, fun i hi => rfl⟩, rfl, fun _ => 0, 0, 3, 8, by omega, by omega, rfl, rfl, rfl, rfl, ⟨by omega, fun i hi => absurd hi (Nat.not_lt_zero i), fun i hi => absurd hi (Nat.not_lt_zero i), rfl, rfl, ⟨rfl, rfl, rfl, fun i hi => absurd hi (Nat.not_lt_zero i), fun e _ => absurd (show 1 ≤ 0 from e) (by decide), fun e => absurd (show 0 = 2 from e) (by decide), fun i hi => absurd hi (Nat.not_lt_zero i), fun _ => rfl, rfl⟩, Or.inl rfl⟩, fun n hn => Or.inl rfl⟩
theorem arrOf {s : State} {cA comp : ClassId} {kA : Class} {ty : FieldType} (h1 : s.vm.classes[cA]? = some kA) (h2 : kA.kind = .array comp ty) : ArrOfT s cA ty := fun n z => ⟨fun q h => (by cases h), kA, h1, comp, h2⟩
set_option maxHeartbeats 4000000 in
set_option maxRecDepth 100000 in
theorem lw_str {s : State} {b : Nat} (hts : ∀ w ∈ lw_tbl, w.before #[Value.ref b] s = true) (hgv : (Jvm.Cond.and given_1 narrow_1).before #[Value.ref b] s = true) : ∃ zb zv : Nat, zS zb zv (fun q : Nat => s.heap.size ≤ q) s s.heap := by
  have hs := flat_of_before _ hgv
  have hA : ∀ a : Nat, a < s.heap.size → ¬ (fun q : Nat => s.heap.size ≤ q) a := fun a h => Nat.not_le.mpr h
  obtain ⟨adK, adV, h1, h2⟩ := vk_Sof (args := #[Value.ref b]) (s := s) (N := 1) (tm := fun _ => Term.string "RowsOfTwo$Sentences" 64) (len := [7]) (byt := zByt) (A := fun q : Nat => s.heap.size ≤ q)
    (fun i hi => by
      have e : i = 0 := by omega
      subst e
      decide)
    (fun i hi => hs (.exactly (.string "RowsOfTwo$Sentences" 64) "java/lang/String") (by decide +kernel))
    (fun i hi => hs (.eq (.field (.string "RowsOfTwo$Sentences" 64) "java/lang/String" "coder" "B") (.int 0)) (by decide +kernel))
    (fun i hi => hs (.arrayOf (.field (.string "RowsOfTwo$Sentences" 64) "java/lang/String" "value" "[B") .byte) (by decide +kernel))
    (fun i hi => by
      have e : i = 0 := by omega
      subst e
      exact hs (.eq (.length (.field (.string "RowsOfTwo$Sentences" 64) "java/lang/String" "value" "[B")) (.int 7)) (by decide +kernel))
    (fun i hi j hj => by
      obtain rfl : i = 0 := by omega
      have hj : j < 7 := hj
      rcases (show j = 0 ∨ j = 1 ∨ j = 2 ∨ j = 3 ∨ j = 4 ∨ j = 5 ∨ j = 6 by omega) with rfl | rfl | rfl | rfl | rfl | rfl | rfl
      · exact hs (.eq (.elem (.field (.string "RowsOfTwo$Sentences" 64) "java/lang/String" "value" "[B") (.int 0)) (.int 111)) (by decide +kernel)
      · exact hs (.eq (.elem (.field (.string "RowsOfTwo$Sentences" 64) "java/lang/String" "value" "[B") (.int 1)) (.int 114)) (by decide +kernel)
      · exact hs (.eq (.elem (.field (.string "RowsOfTwo$Sentences" 64) "java/lang/String" "value" "[B") (.int 2)) (.int 108)) (by decide +kernel)
      · exact hs (.eq (.elem (.field (.string "RowsOfTwo$Sentences" 64) "java/lang/String" "value" "[B") (.int 3)) (.int 104)) (by decide +kernel)
      · exact hs (.eq (.elem (.field (.string "RowsOfTwo$Sentences" 64) "java/lang/String" "value" "[B") (.int 4)) (.int 98)) (by decide +kernel)
      · exact hs (.eq (.elem (.field (.string "RowsOfTwo$Sentences" 64) "java/lang/String" "value" "[B") (.int 5)) (.int 102)) (by decide +kernel)
      · exact hs (.eq (.elem (.field (.string "RowsOfTwo$Sentences" 64) "java/lang/String" "value" "[B") (.int 6)) (.int 112)) (by decide +kernel))
    (fun i j hi hj h => absurd (show i = j by omega) h) hA
  refine ⟨adK 0, adV 0, ⟨fun i hi => ?_, fun i j hi hj _ => by omega⟩, ?_, vk_R.of (hts (.stringRef RX6 64 "orlhbfp") (by decide +kernel)) (h2 0 (by decide))⟩
  · obtain rfl : i = 0 := by omega
    exact h1.1 0 hi
  · exact va_Zof (hts (.laysStatic "java/lang/String" "COMPACT_STRINGS" "Z") (by decide +kernel)) (hts (.initialized "java/lang/String") (by decide +kernel)) (va_eqt (hs (.eq (.static "java/lang/String" "COMPACT_STRINGS" "Z") (.int 1)) (by decide +kernel))) hA
set_option maxHeartbeats 4000000 in
set_option maxRecDepth 100000 in
theorem lw_kn {s : State} {b : Nat} (hts : ∀ w ∈ lw_tbl, w.before #[Value.ref b] s = true) : xOv s ∧ ∃ (D : va_G) (k : Nat → ClassId), va_K D vwCl (xTys k) s := by
  have o1 := hts (.arrayOver (.object "RowsOfTwo$Row")) (by decide +kernel)
  have o2 := hts (.arrayOver (.object "RowsOfTwo$Sheet")) (by decide +kernel)
  have o3 := hts (.arrayOver (.array .int)) (by decide +kernel)
  refine ⟨⟨va_AO.of o1, va_AO.of o2, va_AOA.of o3, va_Nw.of rfl (hts (.methodLinkNest RX10 15 yX5_init "RowsOfTwo") (by decide +kernel))⟩, ?_⟩
  obtain ⟨c0, i0, k0⟩ := u_known (C := RX0) (T := TX0) (N := 3) (n := 3) hts inX0 (hts _ (wsL_law_in _ wm_29))
  obtain ⟨c1, i1, k1⟩ := u_known (C := RX5) (T := TX5) (N := 3) (n := 3) hts inX5 (hts _ (wsL_law_in _ wm_14))
  obtain ⟨c2, i2, k2⟩ := u_known (C := RX6) (T := TX6) (N := 9) (n := 9) hts inX6 (hts _ (wsL_law_in _ wm_21))
  obtain ⟨c3, i3, k3⟩ := u_known (C := RX7) (T := TX7) (N := 4) (n := 4) hts inX7 (hts _ (wsL_law_in _ wm_18))
  obtain ⟨c4, i4, k4⟩ := u_known (C := RX8) (T := TX8) (N := 2) (n := 2) hts inX8 (hts _ (wsL_law_in _ wm_25))
  obtain ⟨c5, i5, k5⟩ := u_known (C := RX10) (T := TX10) (N := 8) (n := 8) hts inX10 (hts _ (wsL_law_in _ wm_1))
  obtain ⟨c6, i6, k6⟩ := u_known (C := RX11) (T := TX11) (N := 24) (n := 24) hts inX11 (hts _ (wsL_law_in _ wm_4))
  obtain ⟨a0, b0, m0, f0, g0, q0⟩ := Cond.arrayClass_spec (hts _ (wsL_law_in _ wm_42))
  obtain ⟨a1, b1, m1, f1, g1, q1⟩ := Cond.arrayClass_spec (hts _ (wsL_law_in _ wm_52))
  obtain ⟨m2, a2, b2, f2, -, g2, q2, n2⟩ := Cond.arrayOver_spec o1
  obtain ⟨m3, a3, b3, f3, -, g3, q3, n3⟩ := Cond.arrayOver_spec o2
  obtain ⟨m4, a4, b4, f4, -, g4, q4, n4⟩ := arrayOverA_spec o3
  refine ⟨(fun j => match j with | 0 => c0 | 1 => c1 | 2 => c2 | 3 => c3 | 4 => c4 | 5 => c5 | _ => c6, fun j => match j with | 0 => i0 | 1 => i1 | 2 => i2 | 3 => i3 | 4 => i4 | 5 => i5 | _ => i6), fun j => match j with | 0 => a0 | 1 => a1 | 2 => a2 | 3 => a3 | _ => a4, ?_, ?_⟩
  · intro j q hq
    match j, hq with
    | 0, hq => cases hq; exact k0
    | 1, hq => cases hq; exact k1
    | 2, hq => cases hq; exact k2
    | 3, hq => cases hq; exact k3
    | 4, hq => cases hq; exact k4
    | 5, hq => cases hq; exact k5
    | 6, hq => cases hq; exact k6
    | j + 7, hq => simp [vwCl] at hq
  · intro j q hq
    match j, hq with
    | 0, hq => cases hq; exact ⟨arrOf g0 q0, f0⟩
    | 1, hq => cases hq; exact ⟨arrOf g1 q1, f1⟩
    | 2, hq => cases hq; exact ⟨arrOf g2 q2, b2, m2, g2, q2, f2, n2⟩
    | 3, hq => cases hq; exact ⟨arrOf g3 q3, b3, m3, g3, q3, f3, n3⟩
    | 4, hq => cases hq; exact ⟨arrOf g4 q4, n4⟩
    | j + 5, hq => simp at hq
set_option maxHeartbeats 4000000 in
set_option maxRecDepth 100000 in
theorem whole_start {p : Program} {e : Env} {s : State} {m : MethodId} {below : List Frame} {meth : Method} {c : Code} (l : Launch) {b L : Nat} {xs : Nat → Int32} (hL : L ≤ 3072) (C0 : lw_At p s m meth c b L xs) : W p l e room_1 s m #[Value.ref b] below meth c s.heap [] 0 0 (lw_Z below #[Value.ref b] s) (entryFrame m ([Value.ref b] : List Value).toArray 4) := by
  obtain ⟨hx, hb, hr, hml, hown, hts, hX, hbl, hlocks, hgv⟩ := id C0
  have hb : c.code = cL_law := hb
  have hown : s.vm.findClass RL = some m.cls := hown
  have hA : ∀ q : Nat, s.heap.size ≤ q → (fun q : Nat => s.heap.size ≤ q) q := fun _ h => h
  obtain ⟨zb, zv, hZ⟩ := lw_str hts hgv
  obtain ⟨hO, D, k, hK⟩ := lw_kn hts
  have hS : va_S (fun q : Nat => s.heap.size ≤ q) s.heap s.heap [] := va_S.rf
  have hP : va_P D vwCl [] s.heap := fun k q h => by simp at h
  have hD : va_D (fun q : Nat => s.heap.size ≤ q) [] := ⟨fun i j p q h => by simp at h, fun k q h => by simp at h⟩
  have hl := lv_entry ([.ref b]) (n := 4) (Nat.le_of_ble_eq_true rfl)
  rw [lg_entry_eq]
  generalize (lg_sl ([.ref b]) ++ List.replicate (4 - (lg_sl ([.ref b])).length) Slot.unset).toArray = ls at hl ⊢
  have hl : lv_has ls 4 [(0, .ref b)] := hl
  refine va_new (ci := 5) (fs := [.null, .null, .null, .null, .null, .int 0, .int 0, .int 0]) (C := RX10) (T := TX10) (N := 8) hx hb hts inX10 tyX10 tyX10_ok hown (hts _ (wsL_law_in _ wm_0)) (hts _ (wsL_law_in _ wm_1)) (hts _ (wsL_law_in _ wm_2)) hK hP hD hS hA rfl (fun j hj => by rcases (show j = 0 ∨ j = 1 ∨ j = 2 ∨ j = 3 ∨ j = 4 ∨ j = 5 ∨ j = 6 ∨ j = 7 by omega) with rfl | rfl | rfl | rfl | rfl | rfl | rfl | rfl <;> rfl) (Nat.le_of_ble_eq_true rfl) (Nat.le_of_ble_eq_true rfl) dL_law_0 (fun q1 H hP hD hS => ?_)
  have hP : va_P D vwCl [(q1, .inr (5, [.null, .null, .null, .null, .null, .int 0, .int 0, .int 0]))] H := hP
  have hD : va_D (fun q : Nat => s.heap.size ≤ q) [(q1, .inr (5, [.null, .null, .null, .null, .null, .int 0, .int 0, .int 0]))] := hD
  refine lv_dup hx hb dL_law_3 rfl ?_
  refine kG (As := []) (rest := [.ref q1]) (wc := [(q1, .inr (5, [.null, .null, .null, .null, .null, .int 0, .int 0, .int 0]))]) (wr := []) ⟨hx, hb, hml, hown, hts⟩ (c_X10_init l D k q1) (cwI 0 hts (fun w h => gLin (mem_wo wm_8 h)) rfl rfl rfl (hts _ (wsL_law_in _ wm_2)) (hts _ (wsL_law_in _ wm_6)) (hts _ (wsL_law_in _ wm_7)) rfl (by decide +kernel) ⟨(Nat.le_of_ble_eq_true rfl), (Nat.le_of_ble_eq_true rfl)⟩) hK hO hP hD hS hA [0] [] rfl rfl (by decide) (by decide) (by decide) rfl hl.1 rfl (Nat.le_of_ble_eq_true rfl) dL_law_4 ⟨(Nat.le_of_ble_eq_true rfl), (Nat.le_of_ble_eq_true rfl)⟩ (fun w' H locs hw hP hD hS => ?_)
  obtain ⟨ax, e1, rfl⟩ := hw
  rw [← e1]
  have hP : va_P D vwCl (wX k ax (fun _ => 0) (fun _ => 0) (fun _ => 0) (fun _ _ => 0) (fun _ => 1) (fun _ => 0) (fun _ => 0) (fun _ => 0) (fun _ => 0) (fun _ => 0) (fun _ => 0) (fun _ => 0) 0 0 0 (-1) (fun _ _ => 0) (fun _ => 0) (fun _ => 0) 0 0 8 3 0) H := hP
  have hD : va_D (fun q : Nat => s.heap.size ≤ q) (wX k ax (fun _ => 0) (fun _ => 0) (fun _ => 0) (fun _ _ => 0) (fun _ => 1) (fun _ => 0) (fun _ => 0) (fun _ => 0) (fun _ => 0) (fun _ => 0) (fun _ => 0) (fun _ => 0) 0 0 0 (-1) (fun _ _ => 0) (fun _ => 0) (fun _ => 0) 0 0 8 3 0) := hD
  refine lv_astore_n (lv' := [(1, .ref (ax 0)), (0, .ref b)]) hx hb dL_law_7 rfl hl (by decide) rfl (fun ls hl => ?_)
  refine va_new (ci := 6) (fs := [.null, .null, .int 0, .int 0, .int 0, .null, .int 0, .int 0, .int 0, .null, .null, .null, .null, .int 0, .null, .int 0, .int 0, .int 0, .null, .null, .null, .null, .null, .int 0]) (C := RX11) (T := TX11) (N := 24) hx hb hts inX11 tyX11 tyX11_ok hown (hts _ (wsL_law_in _ wm_3)) (hts _ (wsL_law_in _ wm_4)) (hts _ (wsL_law_in _ wm_5)) hK hP hD hS hA rfl (fun j hj => by rcases (show j = 0 ∨ j = 1 ∨ j = 2 ∨ j = 3 ∨ j = 4 ∨ j = 5 ∨ j = 6 ∨ j = 7 ∨ j = 8 ∨ j = 9 ∨ j = 10 ∨ j = 11 ∨ j = 12 ∨ j = 13 ∨ j = 14 ∨ j = 15 ∨ j = 16 ∨ j = 17 ∨ j = 18 ∨ j = 19 ∨ j = 20 ∨ j = 21 ∨ j = 22 ∨ j = 23 by omega) with rfl | rfl | rfl | rfl | rfl | rfl | rfl | rfl | rfl | rfl | rfl | rfl | rfl | rfl | rfl | rfl | rfl | rfl | rfl | rfl | rfl | rfl | rfl | rfl <;> rfl) (Nat.le_of_ble_eq_true rfl) (Nat.le_of_ble_eq_true rfl) dL_law_8 (fun q2 H hP hD hS => ?_)
  refine lv_dup hx hb dL_law_11 rfl ?_
  refine kG (As := []) (rest := [.ref q2]) (wc := [(q2, .inr (6, [.null, .null, .int 0, .int 0, .int 0, .null, .int 0, .int 0, .int 0, .null, .null, .null, .null, .int 0, .null, .int 0, .int 0, .int 0, .null, .null, .null, .null, .null, .int 0]))]) (wr := wX k ax (fun _ => 0) (fun _ => 0) (fun _ => 0) (fun _ _ => 0) (fun _ => 1) (fun _ => 0) (fun _ => 0) (fun _ => 0) (fun _ => 0) (fun _ => 0) (fun _ => 0) (fun _ => 0) 0 0 0 (-1) (fun _ _ => 0) (fun _ => 0) (fun _ => 0) 0 0 8 3 0) ⟨hx, hb, hml, hown, hts⟩ (c_X11_init l D k q2) (cwI 0 hts (fun w h => gLin (mem_wo wm_70 h)) rfl rfl rfl (hts _ (wsL_law_in _ wm_5)) (hts _ (wsL_law_in _ wm_68)) (hts _ (wsL_law_in _ wm_69)) rfl (by decide +kernel) ⟨(Nat.le_of_ble_eq_true rfl), (Nat.le_of_ble_eq_true rfl)⟩) hK hO hP hD hS hA [42] [0, 1, 2, 3, 4, 5, 6, 7, 8, 9, 10, 11, 12, 13, 14, 15, 16, 17, 18, 19, 20, 21, 22, 23, 24, 25, 26, 27, 28, 29, 30, 31, 32, 33, 34, 35, 36, 37, 38, 39, 40, 41] rfl rfl (by decide) (by decide) (by decide) rfl hl.1 rfl (Nat.le_of_ble_eq_true rfl) dL_law_12 ⟨(Nat.le_of_ble_eq_true rfl), (Nat.le_of_ble_eq_true rfl)⟩ (fun w' H locs hw hP hD hS => ?_)
  obtain ⟨am, e2, rfl⟩ := hw
  rw [← e2]
  refine lv_astore_n (lv' := [(2, .ref (am 0)), (1, .ref (ax 0)), (0, .ref b)]) hx hb dL_law_15 rfl hl (by decide) rfl (fun ls hl => ?_)
  refine lv_iconst (v := 0) hx hb dL_law_16 (by decide) ?_
  refine lv_istore_n (lv' := [(3, .int 0), (2, .ref (am 0)), (1, .ref (ax 0)), (0, .ref b)]) hx hb dL_law_17 rfl hl (by decide) rfl (fun ls hl => ?_)
  refine W.widen (k := 600000) (n := 7302250) (Nat.le_of_ble_eq_true rfl) (Nat.le_of_ble_eq_true rfl) ?_
  exact law_loop hL C0 hZ hK (L + 1) 0 _ _ H locs ls (Nat.zero_le _) (by omega) tie0 hP hD hS (lv_sub hl [3, 2, 1, 0] rfl)
