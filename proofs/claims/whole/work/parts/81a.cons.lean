/-! constructors (printed by gen/cons.py) -/
abbrev wo_X5_init : List Cond := .code yX5_init cX5_init 1 none :: wsL_law
set_option maxHeartbeats 4000000 in
set_option maxRecDepth 100000 in
theorem c_X5_init (l : Launch) (D : va_G) (k : Nat → ClassId) (h0 : Nat) : mG l yX5_init wo_X5_init 1 D k [.ref h0] [] 0 0 (fun w' => w' = []) := by
  intro sz
  refine Met.ofW (cc := cX5_init) (maxL := 1) (ret := none) (by decide) rfl ?_
  intro p e s m args below meth c s₁ B hml hv
  obtain ⟨rfl, ⟨hsz, hP, hK, hD0⟩, hO⟩ := hv
  have hx := B.exec
  have hb := B.bytes
  have hr := B.returns
  have hts := atoms_spec (ws := wo_X5_init) B.pre
  have hown : s.vm.findClass RX5 = some m.cls := findClass_of_methodNamed B.named
  have hin : meth.name = "<init>" := (name_of_methodNamed B.named B.method).1
  subst hsz
  have hD := hD0.self (sz := s.heap.size)
  generalize hAe : va_A [] s.heap.size = A at hD ⊢
  have hA : ∀ q : Nat, s.heap.size ≤ q → A q := fun q h => by rw [← hAe]; exact Or.inr h
  have hS : va_S A s.heap s.heap [] := va_S.rf
  have hl := lv_entry ([.ref h0]) (n := 1) (Nat.le_of_ble_eq_true rfl)
  rw [lg_entry_eq]
  generalize (lg_sl ([.ref h0]) ++ List.replicate (1 - (lg_sl ([.ref h0])).length) Slot.unset).toArray = ls at hl ⊢
  have hl : lv_has ls 1 [(0, .ref h0)] := hl
  refine lv_aload_n hx hb dX5_init_0 rfl (lv_at hl 0 rfl) ?_
  refine W.objInit hx hb hown (hts _ (List.mem_cons_of_mem _ wm_37)) (hts _ (List.mem_cons_of_mem _ wm_10)) (hts _ (List.mem_cons_of_mem _ wm_11)) rfl (by rw [hml]; exact hl.1) rfl dX5_init_1 (Nat.le_of_ble_eq_true rfl) (Nat.le_of_ble_eq_true rfl) ?_
  refine W.eq (g2 := F0 m 4 ls []) rfl ?_
  refine W.widen (k := 0) (n := 0) (Nat.le_of_ble_eq_true rfl) (Nat.le_of_ble_eq_true rfl) ?_
  exact W.vret hx hb hr (fun t ht hW => ⟨⟨_, rfl, rfl, by rw [ht]; exact hP, va_K.moved hW.alike hK, hD⟩, hS.F ht⟩) hS.2.2 dX5_init_4
abbrev wo_X0_init : List Cond := .code yX0_init cX0_init 1 none :: wsL_law
set_option maxHeartbeats 4000000 in
set_option maxRecDepth 100000 in
theorem c_X0_init (l : Launch) (D : va_G) (k : Nat → ClassId) (h0 : Nat) : mG l yX0_init wo_X0_init 1 D k [.ref h0] [(h0, .inr (0, [.null, .int 0, .int 0]))] 1 16 (fun w' => ∃ q1 : Nat, w' = [(h0, .inr (0, [.ref q1, .int 0, .int 0])), (q1, .inl (k 0, 16, .inl (fun _ => 0)))]) := by
  intro sz
  refine Met.ofW (cc := cX0_init) (maxL := 1) (ret := none) (by decide) rfl ?_
  intro p e s m args below meth c s₁ B hml hv
  obtain ⟨rfl, ⟨hsz, hP, hK, hD0⟩, hO⟩ := hv
  have hx := B.exec
  have hb := B.bytes
  have hr := B.returns
  have hts := atoms_spec (ws := wo_X0_init) B.pre
  have hown : s.vm.findClass RX0 = some m.cls := findClass_of_methodNamed B.named
  have hin : meth.name = "<init>" := (name_of_methodNamed B.named B.method).1
  have hiX0 := (fun w h => List.mem_cons_of_mem _ (inlX0 w h) : ∀ w ∈ wsX00, w ∈ wo_X0_init)
  subst hsz
  have hD := hD0.self (sz := s.heap.size)
  generalize hAe : va_A [(h0, .inr (0, [.null, .int 0, .int 0]))] s.heap.size = A at hD ⊢
  have hA : ∀ q : Nat, s.heap.size ≤ q → A q := fun q h => by rw [← hAe]; exact Or.inr h
  have hS : va_S A s.heap s.heap [] := va_S.rf
  have hl := lv_entry ([.ref h0]) (n := 1) (Nat.le_of_ble_eq_true rfl)
  rw [lg_entry_eq]
  generalize (lg_sl ([.ref h0]) ++ List.replicate (1 - (lg_sl ([.ref h0])).length) Slot.unset).toArray = ls at hl ⊢
  have hl : lv_has ls 1 [(0, .ref h0)] := hl
  refine lv_aload_n hx hb dX0_init_0 rfl (lv_at hl 0 rfl) ?_
  refine W.objInit hx hb hown (hts _ (List.mem_cons_of_mem _ wm_66)) (hts _ (List.mem_cons_of_mem _ wm_10)) (hts _ (List.mem_cons_of_mem _ wm_11)) rfl (by rw [hml]; exact hl.1) rfl dX0_init_1 (Nat.le_of_ble_eq_true rfl) (Nat.le_of_ble_eq_true rfl) ?_
  refine W.eq (g2 := F0 m 4 ls []) rfl ?_
  refine lv_aload_n hx hb dX0_init_4 rfl (lv_at hl 0 rfl) ?_
  refine lv_bipush (v := 16) hx hb dX0_init_5 (by decide) ?_
  refine kNI (N' := 16) hx hb (hts _ (List.mem_cons_of_mem _ wm_42)) hK hP hD hS hA (by decide) (by decide) (by decide) (Nat.le_of_ble_eq_true rfl) (Nat.le_of_ble_eq_true rfl) dX0_init_7 (fun q1 H hP hD hS => ?_)
  have hP : va_P D vwCl [(h0, .inr (0, [.null, .int 0, .int 0])), (q1, .inl (k 0, 16, .inl (fun _ => 0)))] H := hP
  have hD : va_D A [(h0, .inr (0, [.null, .int 0, .int 0])), (q1, .inl (k 0, 16, .inl (fun _ => 0)))] := hD
  refine va_putF (D := D) (ci := 0) (v := .ref q1) (ty := .array .int) (C := RX0) (T := TX0) (N := 3) hx hb hts hiX0 tyX0 tyX0_ok nmX0 hown hK hP hD hS 0 rfl rfl 0 (by decide) (hts _ (List.mem_cons_of_mem _ wm_67)) (fun _ h9 => h9) rfl hin rfl (by decide +kernel) rfl rfl (Nat.le_of_ble_eq_true rfl) dX0_init_9 (fun H locs hP hD hS => ?_)
  have hP : va_P D vwCl [(h0, .inr (0, [.ref q1, .int 0, .int 0])), (q1, .inl (k 0, 16, .inl (fun _ => 0)))] H := hP
  have hD : va_D A [(h0, .inr (0, [.ref q1, .int 0, .int 0])), (q1, .inl (k 0, 16, .inl (fun _ => 0)))] := hD
  refine W.widen (k := 1) (n := 16) (Nat.le_of_ble_eq_true rfl) (Nat.le_of_ble_eq_true rfl) ?_
  exact W.vret hx hb hr (fun t ht hW => ⟨⟨_, rfl, ⟨q1, rfl⟩, by rw [ht]; exact hP, va_K.moved hW.alike hK, hD⟩, hS.F ht⟩) hS.2.2 dX0_init_12
abbrev wo_X7_init : List Cond := .code yX7_init cX7_init 1 none :: wsL_law
set_option maxHeartbeats 4000000 in
set_option maxRecDepth 100000 in
theorem c_X7_init (l : Launch) (D : va_G) (k : Nat → ClassId) (h0 : Nat) : mG l yX7_init wo_X7_init 1 D k [.ref h0] [(h0, .inr (3, [.null, .int 0, .int 0, .int 0]))] 1 40 (fun w' => ∃ q1 : Nat, w' = [(h0, .inr (3, [.ref q1, .int 1, .int 0, .int 0])), (q1, .inl (k 0, 40, .inl (fun _ => 0)))]) := by
  intro sz
  refine Met.ofW (cc := cX7_init) (maxL := 1) (ret := none) (by decide) rfl ?_
  intro p e s m args below meth c s₁ B hml hv
  obtain ⟨rfl, ⟨hsz, hP, hK, hD0⟩, hO⟩ := hv
  have hx := B.exec
  have hb := B.bytes
  have hr := B.returns
  have hts := atoms_spec (ws := wo_X7_init) B.pre
  have hown : s.vm.findClass RX7 = some m.cls := findClass_of_methodNamed B.named
  have hin : meth.name = "<init>" := (name_of_methodNamed B.named B.method).1
  have hiX7 := (fun w h => List.mem_cons_of_mem _ (inlX7 w h) : ∀ w ∈ wsX70, w ∈ wo_X7_init)
  subst hsz
  have hD := hD0.self (sz := s.heap.size)
  generalize hAe : va_A [(h0, .inr (3, [.null, .int 0, .int 0, .int 0]))] s.heap.size = A at hD ⊢
  have hA : ∀ q : Nat, s.heap.size ≤ q → A q := fun q h => by rw [← hAe]; exact Or.inr h
  have hS : va_S A s.heap s.heap [] := va_S.rf
  have hl := lv_entry ([.ref h0]) (n := 1) (Nat.le_of_ble_eq_true rfl)
  rw [lg_entry_eq]
  generalize (lg_sl ([.ref h0]) ++ List.replicate (1 - (lg_sl ([.ref h0])).length) Slot.unset).toArray = ls at hl ⊢
  have hl : lv_has ls 1 [(0, .ref h0)] := hl
  refine lv_aload_n hx hb dX7_init_0 rfl (lv_at hl 0 rfl) ?_
  refine W.objInit hx hb hown (hts _ (List.mem_cons_of_mem _ wm_41)) (hts _ (List.mem_cons_of_mem _ wm_10)) (hts _ (List.mem_cons_of_mem _ wm_11)) rfl (by rw [hml]; exact hl.1) rfl dX7_init_1 (Nat.le_of_ble_eq_true rfl) (Nat.le_of_ble_eq_true rfl) ?_
  refine W.eq (g2 := F0 m 4 ls []) rfl ?_
  refine lv_aload_n hx hb dX7_init_4 rfl (lv_at hl 0 rfl) ?_
  refine lv_bipush (v := 40) hx hb dX7_init_5 (by decide) ?_
  refine kNI (N' := 40) hx hb (hts _ (List.mem_cons_of_mem _ wm_42)) hK hP hD hS hA (by decide) (by decide) (by decide) (Nat.le_of_ble_eq_true rfl) (Nat.le_of_ble_eq_true rfl) dX7_init_7 (fun q1 H hP hD hS => ?_)
  have hP : va_P D vwCl [(h0, .inr (3, [.null, .int 0, .int 0, .int 0])), (q1, .inl (k 0, 40, .inl (fun _ => 0)))] H := hP
  have hD : va_D A [(h0, .inr (3, [.null, .int 0, .int 0, .int 0])), (q1, .inl (k 0, 40, .inl (fun _ => 0)))] := hD
  refine va_putF (D := D) (ci := 3) (v := .ref q1) (ty := .array .int) (C := RX7) (T := TX7) (N := 4) hx hb hts hiX7 tyX7 tyX7_ok nmX7 hown hK hP hD hS 0 rfl rfl 0 (by decide) (hts _ (List.mem_cons_of_mem _ wm_43)) (fun _ h9 => h9) rfl hin rfl (by decide +kernel) rfl rfl (Nat.le_of_ble_eq_true rfl) dX7_init_9 (fun H locs hP hD hS => ?_)
  have hP : va_P D vwCl [(h0, .inr (3, [.ref q1, .int 0, .int 0, .int 0])), (q1, .inl (k 0, 40, .inl (fun _ => 0)))] H := hP
  have hD : va_D A [(h0, .inr (3, [.ref q1, .int 0, .int 0, .int 0])), (q1, .inl (k 0, 40, .inl (fun _ => 0)))] := hD
  refine lv_aload_n hx hb dX7_init_12 rfl (lv_at hl 0 rfl) ?_
  refine lv_iconst (v := 1) hx hb dX7_init_13 (by decide) ?_
  refine va_put (D := D) (ci := 3) (v := .int 1) (ty := .boolean) (C := RX7) (T := TX7) (N := 4) hx hb hts hiX7 tyX7 tyX7_ok nmX7 hown hK hP hD hS 0 rfl rfl 1 (by decide) (hts _ (List.mem_cons_of_mem _ wm_44)) (fun _ h9 => h9) rfl (by decide +kernel) rfl rfl (Nat.le_of_ble_eq_true rfl) dX7_init_14 (fun H locs hP hD hS => ?_)
  have hP : va_P D vwCl [(h0, .inr (3, [.ref q1, .int 1, .int 0, .int 0])), (q1, .inl (k 0, 40, .inl (fun _ => 0)))] H := hP
  have hD : va_D A [(h0, .inr (3, [.ref q1, .int 1, .int 0, .int 0])), (q1, .inl (k 0, 40, .inl (fun _ => 0)))] := hD
  refine W.widen (k := 1) (n := 40) (Nat.le_of_ble_eq_true rfl) (Nat.le_of_ble_eq_true rfl) ?_
  exact W.vret hx hb hr (fun t ht hW => ⟨⟨_, rfl, ⟨q1, rfl⟩, by rw [ht]; exact hP, va_K.moved hW.alike hK, hD⟩, hS.F ht⟩) hS.2.2 dX7_init_17
abbrev wo_X6_init : List Cond := .code yX6_init cX6_init 1 none :: wsL_law
set_option maxHeartbeats 4000000 in
set_option maxRecDepth 100000 in
theorem c_X6_init (l : Launch) (D : va_G) (k : Nat → ClassId) (h0 : Nat) : mG l yX6_init wo_X6_init 1 D k [.ref h0] [(h0, .inr (2, [.null, .null, .null, .null, .null, .int 0, .int 0, .int 0, .int 0]))] 5 71 (fun w' => ∃ q1 q2 q3 q4 q5 : Nat, w' = [(h0, .inr (2, [.ref q1, .ref q2, .ref q3, .ref q4, .ref q5, .int 0, .int 0, .int 0, .int (-1)])), (q1, .inl (k 0, 16, .inl (fun _ => 0))), (q2, .inl (k 0, 16, .inl (fun _ => 0))), (q3, .inl (k 0, 16, .inl (fun _ => 0))), (q4, .inl (k 1, 16, .inl (fun _ => 0))), (q5, .inl (k 0, 7, .inl (fun _ => 0)))]) := by
  intro sz
  refine Met.ofW (cc := cX6_init) (maxL := 1) (ret := none) (by decide) rfl ?_
  intro p e s m args below meth c s₁ B hml hv
  obtain ⟨rfl, ⟨hsz, hP, hK, hD0⟩, hO⟩ := hv
  have hx := B.exec
  have hb := B.bytes
  have hr := B.returns
  have hts := atoms_spec (ws := wo_X6_init) B.pre
  have hown : s.vm.findClass RX6 = some m.cls := findClass_of_methodNamed B.named
  have hin : meth.name = "<init>" := (name_of_methodNamed B.named B.method).1
  have hiX6 := (fun w h => List.mem_cons_of_mem _ (inlX6 w h) : ∀ w ∈ wsX60, w ∈ wo_X6_init)
  subst hsz
  have hD := hD0.self (sz := s.heap.size)
  generalize hAe : va_A [(h0, .inr (2, [.null, .null, .null, .null, .null, .int 0, .int 0, .int 0, .int 0]))] s.heap.size = A at hD ⊢
  have hA : ∀ q : Nat, s.heap.size ≤ q → A q := fun q h => by rw [← hAe]; exact Or.inr h
  have hS : va_S A s.heap s.heap [] := va_S.rf
  have hl := lv_entry ([.ref h0]) (n := 1) (Nat.le_of_ble_eq_true rfl)
  rw [lg_entry_eq]
  generalize (lg_sl ([.ref h0]) ++ List.replicate (1 - (lg_sl ([.ref h0])).length) Slot.unset).toArray = ls at hl ⊢
  have hl : lv_has ls 1 [(0, .ref h0)] := hl
  refine lv_aload_n hx hb dX6_init_0 rfl (lv_at hl 0 rfl) ?_
  refine W.objInit hx hb hown (hts _ (List.mem_cons_of_mem _ wm_48)) (hts _ (List.mem_cons_of_mem _ wm_10)) (hts _ (List.mem_cons_of_mem _ wm_11)) rfl (by rw [hml]; exact hl.1) rfl dX6_init_1 (Nat.le_of_ble_eq_true rfl) (Nat.le_of_ble_eq_true rfl) ?_
  refine W.eq (g2 := F0 m 4 ls []) rfl ?_
  refine lv_aload_n hx hb dX6_init_4 rfl (lv_at hl 0 rfl) ?_
  refine lv_bipush (v := 16) hx hb dX6_init_5 (by decide) ?_
  refine kNI (N' := 16) hx hb (hts _ (List.mem_cons_of_mem _ wm_42)) hK hP hD hS hA (by decide) (by decide) (by decide) (Nat.le_of_ble_eq_true rfl) (Nat.le_of_ble_eq_true rfl) dX6_init_7 (fun q1 H hP hD hS => ?_)
  have hP : va_P D vwCl [(h0, .inr (2, [.null, .null, .null, .null, .null, .int 0, .int 0, .int 0, .int 0])), (q1, .inl (k 0, 16, .inl (fun _ => 0)))] H := hP
  have hD : va_D A [(h0, .inr (2, [.null, .null, .null, .null, .null, .int 0, .int 0, .int 0, .int 0])), (q1, .inl (k 0, 16, .inl (fun _ => 0)))] := hD
  refine va_putF (D := D) (ci := 2) (v := .ref q1) (ty := .array .int) (C := RX6) (T := TX6) (N := 9) hx hb hts hiX6 tyX6 tyX6_ok nmX6 hown hK hP hD hS 0 rfl rfl 0 (by decide) (hts _ (List.mem_cons_of_mem _ wm_49)) (fun _ h9 => h9) rfl hin rfl (by decide +kernel) rfl rfl (Nat.le_of_ble_eq_true rfl) dX6_init_9 (fun H locs hP hD hS => ?_)
  have hP : va_P D vwCl [(h0, .inr (2, [.ref q1, .null, .null, .null, .null, .int 0, .int 0, .int 0, .int 0])), (q1, .inl (k 0, 16, .inl (fun _ => 0)))] H := hP
  have hD : va_D A [(h0, .inr (2, [.ref q1, .null, .null, .null, .null, .int 0, .int 0, .int 0, .int 0])), (q1, .inl (k 0, 16, .inl (fun _ => 0)))] := hD
  refine lv_aload_n hx hb dX6_init_12 rfl (lv_at hl 0 rfl) ?_
  refine lv_bipush (v := 16) hx hb dX6_init_13 (by decide) ?_
  refine kNI (N' := 16) hx hb (hts _ (List.mem_cons_of_mem _ wm_42)) hK hP hD hS hA (by decide) (by decide) (by decide) (Nat.le_of_ble_eq_true rfl) (Nat.le_of_ble_eq_true rfl) dX6_init_15 (fun q2 H hP hD hS => ?_)
  have hP : va_P D vwCl [(h0, .inr (2, [.ref q1, .null, .null, .null, .null, .int 0, .int 0, .int 0, .int 0])), (q1, .inl (k 0, 16, .inl (fun _ => 0))), (q2, .inl (k 0, 16, .inl (fun _ => 0)))] H := hP
  have hD : va_D A [(h0, .inr (2, [.ref q1, .null, .null, .null, .null, .int 0, .int 0, .int 0, .int 0])), (q1, .inl (k 0, 16, .inl (fun _ => 0))), (q2, .inl (k 0, 16, .inl (fun _ => 0)))] := hD
  refine va_putF (D := D) (ci := 2) (v := .ref q2) (ty := .array .int) (C := RX6) (T := TX6) (N := 9) hx hb hts hiX6 tyX6 tyX6_ok nmX6 hown hK hP hD hS 0 rfl rfl 1 (by decide) (hts _ (List.mem_cons_of_mem _ wm_50)) (fun _ h9 => h9) rfl hin rfl (by decide +kernel) rfl rfl (Nat.le_of_ble_eq_true rfl) dX6_init_17 (fun H locs hP hD hS => ?_)
  have hP : va_P D vwCl [(h0, .inr (2, [.ref q1, .ref q2, .null, .null, .null, .int 0, .int 0, .int 0, .int 0])), (q1, .inl (k 0, 16, .inl (fun _ => 0))), (q2, .inl (k 0, 16, .inl (fun _ => 0)))] H := hP
  have hD : va_D A [(h0, .inr (2, [.ref q1, .ref q2, .null, .null, .null, .int 0, .int 0, .int 0, .int 0])), (q1, .inl (k 0, 16, .inl (fun _ => 0))), (q2, .inl (k 0, 16, .inl (fun _ => 0)))] := hD
  refine lv_aload_n hx hb dX6_init_20 rfl (lv_at hl 0 rfl) ?_
  refine lv_bipush (v := 16) hx hb dX6_init_21 (by decide) ?_
  refine kNI (N' := 16) hx hb (hts _ (List.mem_cons_of_mem _ wm_42)) hK hP hD hS hA (by decide) (by decide) (by decide) (Nat.le_of_ble_eq_true rfl) (Nat.le_of_ble_eq_true rfl) dX6_init_23 (fun q3 H hP hD hS => ?_)
  have hP : va_P D vwCl [(h0, .inr (2, [.ref q1, .ref q2, .null, .null, .null, .int 0, .int 0, .int 0, .int 0])), (q1, .inl (k 0, 16, .inl (fun _ => 0))), (q2, .inl (k 0, 16, .inl (fun _ => 0))), (q3, .inl (k 0, 16, .inl (fun _ => 0)))] H := hP
  have hD : va_D A [(h0, .inr (2, [.ref q1, .ref q2, .null, .null, .null, .int 0, .int 0, .int 0, .int 0])), (q1, .inl (k 0, 16, .inl (fun _ => 0))), (q2, .inl (k 0, 16, .inl (fun _ => 0))), (q3, .inl (k 0, 16, .inl (fun _ => 0)))] := hD
  refine va_putF (D := D) (ci := 2) (v := .ref q3) (ty := .array .int) (C := RX6) (T := TX6) (N := 9) hx hb hts hiX6 tyX6 tyX6_ok nmX6 hown hK hP hD hS 0 rfl rfl 2 (by decide) (hts _ (List.mem_cons_of_mem _ wm_51)) (fun _ h9 => h9) rfl hin rfl (by decide +kernel) rfl rfl (Nat.le_of_ble_eq_true rfl) dX6_init_25 (fun H locs hP hD hS => ?_)
  have hP : va_P D vwCl [(h0, .inr (2, [.ref q1, .ref q2, .ref q3, .null, .null, .int 0, .int 0, .int 0, .int 0])), (q1, .inl (k 0, 16, .inl (fun _ => 0))), (q2, .inl (k 0, 16, .inl (fun _ => 0))), (q3, .inl (k 0, 16, .inl (fun _ => 0)))] H := hP
  have hD : va_D A [(h0, .inr (2, [.ref q1, .ref q2, .ref q3, .null, .null, .int 0, .int 0, .int 0, .int 0])), (q1, .inl (k 0, 16, .inl (fun _ => 0))), (q2, .inl (k 0, 16, .inl (fun _ => 0))), (q3, .inl (k 0, 16, .inl (fun _ => 0)))] := hD
  refine lv_aload_n hx hb dX6_init_28 rfl (lv_at hl 0 rfl) ?_
  refine lv_bipush (v := 16) hx hb dX6_init_29 (by decide) ?_
  refine kNZ (N' := 16) hx hb (hts _ (List.mem_cons_of_mem _ wm_52)) hK hP hD hS hA (by decide) (by decide) (by decide) (Nat.le_of_ble_eq_true rfl) (Nat.le_of_ble_eq_true rfl) dX6_init_31 (fun q4 H hP hD hS => ?_)
  have hP : va_P D vwCl [(h0, .inr (2, [.ref q1, .ref q2, .ref q3, .null, .null, .int 0, .int 0, .int 0, .int 0])), (q1, .inl (k 0, 16, .inl (fun _ => 0))), (q2, .inl (k 0, 16, .inl (fun _ => 0))), (q3, .inl (k 0, 16, .inl (fun _ => 0))), (q4, .inl (k 1, 16, .inl (fun _ => 0)))] H := hP
  have hD : va_D A [(h0, .inr (2, [.ref q1, .ref q2, .ref q3, .null, .null, .int 0, .int 0, .int 0, .int 0])), (q1, .inl (k 0, 16, .inl (fun _ => 0))), (q2, .inl (k 0, 16, .inl (fun _ => 0))), (q3, .inl (k 0, 16, .inl (fun _ => 0))), (q4, .inl (k 1, 16, .inl (fun _ => 0)))] := hD
  refine va_putF (D := D) (ci := 2) (v := .ref q4) (ty := .array .boolean) (C := RX6) (T := TX6) (N := 9) hx hb hts hiX6 tyX6 tyX6_ok nmX6 hown hK hP hD hS 0 rfl rfl 3 (by decide) (hts _ (List.mem_cons_of_mem _ wm_53)) (fun _ h9 => h9) rfl hin rfl (by decide +kernel) rfl rfl (Nat.le_of_ble_eq_true rfl) dX6_init_33 (fun H locs hP hD hS => ?_)
  have hP : va_P D vwCl [(h0, .inr (2, [.ref q1, .ref q2, .ref q3, .ref q4, .null, .int 0, .int 0, .int 0, .int 0])), (q1, .inl (k 0, 16, .inl (fun _ => 0))), (q2, .inl (k 0, 16, .inl (fun _ => 0))), (q3, .inl (k 0, 16, .inl (fun _ => 0))), (q4, .inl (k 1, 16, .inl (fun _ => 0)))] H := hP
  have hD : va_D A [(h0, .inr (2, [.ref q1, .ref q2, .ref q3, .ref q4, .null, .int 0, .int 0, .int 0, .int 0])), (q1, .inl (k 0, 16, .inl (fun _ => 0))), (q2, .inl (k 0, 16, .inl (fun _ => 0))), (q3, .inl (k 0, 16, .inl (fun _ => 0))), (q4, .inl (k 1, 16, .inl (fun _ => 0)))] := hD
  refine lv_aload_n hx hb dX6_init_36 rfl (lv_at hl 0 rfl) ?_
  refine lv_bipush (v := 7) hx hb dX6_init_37 (by decide) ?_
  refine kNI (N' := 7) hx hb (hts _ (List.mem_cons_of_mem _ wm_42)) hK hP hD hS hA (by decide) (by decide) (by decide) (Nat.le_of_ble_eq_true rfl) (Nat.le_of_ble_eq_true rfl) dX6_init_39 (fun q5 H hP hD hS => ?_)
  have hP : va_P D vwCl [(h0, .inr (2, [.ref q1, .ref q2, .ref q3, .ref q4, .null, .int 0, .int 0, .int 0, .int 0])), (q1, .inl (k 0, 16, .inl (fun _ => 0))), (q2, .inl (k 0, 16, .inl (fun _ => 0))), (q3, .inl (k 0, 16, .inl (fun _ => 0))), (q4, .inl (k 1, 16, .inl (fun _ => 0))), (q5, .inl (k 0, 7, .inl (fun _ => 0)))] H := hP
  have hD : va_D A [(h0, .inr (2, [.ref q1, .ref q2, .ref q3, .ref q4, .null, .int 0, .int 0, .int 0, .int 0])), (q1, .inl (k 0, 16, .inl (fun _ => 0))), (q2, .inl (k 0, 16, .inl (fun _ => 0))), (q3, .inl (k 0, 16, .inl (fun _ => 0))), (q4, .inl (k 1, 16, .inl (fun _ => 0))), (q5, .inl (k 0, 7, .inl (fun _ => 0)))] := hD
  refine va_putF (D := D) (ci := 2) (v := .ref q5) (ty := .array .int) (C := RX6) (T := TX6) (N := 9) hx hb hts hiX6 tyX6 tyX6_ok nmX6 hown hK hP hD hS 0 rfl rfl 4 (by decide) (hts _ (List.mem_cons_of_mem _ wm_54)) (fun _ h9 => h9) rfl hin rfl (by decide +kernel) rfl rfl (Nat.le_of_ble_eq_true rfl) dX6_init_41 (fun H locs hP hD hS => ?_)
  have hP : va_P D vwCl [(h0, .inr (2, [.ref q1, .ref q2, .ref q3, .ref q4, .ref q5, .int 0, .int 0, .int 0, .int 0])), (q1, .inl (k 0, 16, .inl (fun _ => 0))), (q2, .inl (k 0, 16, .inl (fun _ => 0))), (q3, .inl (k 0, 16, .inl (fun _ => 0))), (q4, .inl (k 1, 16, .inl (fun _ => 0))), (q5, .inl (k 0, 7, .inl (fun _ => 0)))] H := hP
  have hD : va_D A [(h0, .inr (2, [.ref q1, .ref q2, .ref q3, .ref q4, .ref q5, .int 0, .int 0, .int 0, .int 0])), (q1, .inl (k 0, 16, .inl (fun _ => 0))), (q2, .inl (k 0, 16, .inl (fun _ => 0))), (q3, .inl (k 0, 16, .inl (fun _ => 0))), (q4, .inl (k 1, 16, .inl (fun _ => 0))), (q5, .inl (k 0, 7, .inl (fun _ => 0)))] := hD
  refine lv_aload_n hx hb dX6_init_44 rfl (lv_at hl 0 rfl) ?_
  refine lv_iconst (v := (-1)) hx hb dX6_init_45 (by decide) ?_
  refine va_put (D := D) (ci := 2) (v := .int (-1)) (ty := .int) (C := RX6) (T := TX6) (N := 9) hx hb hts hiX6 tyX6 tyX6_ok nmX6 hown hK hP hD hS 0 rfl rfl 8 (by decide) (hts _ (List.mem_cons_of_mem _ wm_55)) (fun _ h9 => h9) rfl (by decide +kernel) rfl rfl (Nat.le_of_ble_eq_true rfl) dX6_init_46 (fun H locs hP hD hS => ?_)
  have hP : va_P D vwCl [(h0, .inr (2, [.ref q1, .ref q2, .ref q3, .ref q4, .ref q5, .int 0, .int 0, .int 0, .int (-1)])), (q1, .inl (k 0, 16, .inl (fun _ => 0))), (q2, .inl (k 0, 16, .inl (fun _ => 0))), (q3, .inl (k 0, 16, .inl (fun _ => 0))), (q4, .inl (k 1, 16, .inl (fun _ => 0))), (q5, .inl (k 0, 7, .inl (fun _ => 0)))] H := hP
  have hD : va_D A [(h0, .inr (2, [.ref q1, .ref q2, .ref q3, .ref q4, .ref q5, .int 0, .int 0, .int 0, .int (-1)])), (q1, .inl (k 0, 16, .inl (fun _ => 0))), (q2, .inl (k 0, 16, .inl (fun _ => 0))), (q3, .inl (k 0, 16, .inl (fun _ => 0))), (q4, .inl (k 1, 16, .inl (fun _ => 0))), (q5, .inl (k 0, 7, .inl (fun _ => 0)))] := hD
  refine W.widen (k := 5) (n := 71) (Nat.le_of_ble_eq_true rfl) (Nat.le_of_ble_eq_true rfl) ?_
  exact W.vret hx hb hr (fun t ht hW => ⟨⟨_, rfl, ⟨q1, q2, q3, q4, q5, rfl⟩, by rw [ht]; exact hP, va_K.moved hW.alike hK, hD⟩, hS.F ht⟩) hS.2.2 dX6_init_49
abbrev wo_X8_init : List Cond := .code yX8_init cX8_init 1 none :: wsL_law
set_option maxHeartbeats 4000000 in
set_option maxRecDepth 100000 in
theorem c_X8_init (l : Launch) (D : va_G) (k : Nat → ClassId) (h0 : Nat) : mG l yX8_init wo_X8_init 1 D k [.ref h0] [(h0, .inr (4, [.null, .null]))] 18 288 (fun w' => ∃ (qT : Nat) (r : Nat → Nat) (q1 : Nat), w' = [(h0, .inr (4, [.ref qT, .ref q1])), (qT, .inl (k 4, 16, .inr (.inr (.inr (.inr (fun i => if i < 16 then some (r i) else none)))))), (r 0, .inl (k 0, 16, .inl (fun _ => 0))), (r 1, .inl (k 0, 16, .inl (fun _ => 0))), (r 2, .inl (k 0, 16, .inl (fun _ => 0))), (r 3, .inl (k 0, 16, .inl (fun _ => 0))), (r 4, .inl (k 0, 16, .inl (fun _ => 0))), (r 5, .inl (k 0, 16, .inl (fun _ => 0))), (r 6, .inl (k 0, 16, .inl (fun _ => 0))), (r 7, .inl (k 0, 16, .inl (fun _ => 0))), (r 8, .inl (k 0, 16, .inl (fun _ => 0))), (r 9, .inl (k 0, 16, .inl (fun _ => 0))), (r 10, .inl (k 0, 16, .inl (fun _ => 0))), (r 11, .inl (k 0, 16, .inl (fun _ => 0))), (r 12, .inl (k 0, 16, .inl (fun _ => 0))), (r 13, .inl (k 0, 16, .inl (fun _ => 0))), (r 14, .inl (k 0, 16, .inl (fun _ => 0))), (r 15, .inl (k 0, 16, .inl (fun _ => 0))), (q1, .inl (k 1, 16, .inl (fun _ => 0)))]) := by
  intro sz
  refine Met.ofW (cc := cX8_init) (maxL := 1) (ret := none) (by decide) rfl ?_
  intro p e s m args below meth c s₁ B hml hv
  obtain ⟨rfl, ⟨hsz, hP, hK, hD0⟩, hO⟩ := hv
  have hx := B.exec
  have hb := B.bytes
  have hr := B.returns
  have hts := atoms_spec (ws := wo_X8_init) B.pre
  have hown : s.vm.findClass RX8 = some m.cls := findClass_of_methodNamed B.named
  have hin : meth.name = "<init>" := (name_of_methodNamed B.named B.method).1
  have hiX8 := (fun w h => List.mem_cons_of_mem _ (inlX8 w h) : ∀ w ∈ wsX80, w ∈ wo_X8_init)
  subst hsz
  have hD := hD0.self (sz := s.heap.size)
  generalize hAe : va_A [(h0, .inr (4, [.null, .null]))] s.heap.size = A at hD ⊢
  have hA : ∀ q : Nat, s.heap.size ≤ q → A q := fun q h => by rw [← hAe]; exact Or.inr h
  have hS : va_S A s.heap s.heap [] := va_S.rf
  have hl := lv_entry ([.ref h0]) (n := 1) (Nat.le_of_ble_eq_true rfl)
  rw [lg_entry_eq]
  generalize (lg_sl ([.ref h0]) ++ List.replicate (1 - (lg_sl ([.ref h0])).length) Slot.unset).toArray = ls at hl ⊢
  have hl : lv_has ls 1 [(0, .ref h0)] := hl
  refine lv_aload_n hx hb dX8_init_0 rfl (lv_at hl 0 rfl) ?_
  refine W.objInit hx hb hown (hts _ (List.mem_cons_of_mem _ wm_59)) (hts _ (List.mem_cons_of_mem _ wm_10)) (hts _ (List.mem_cons_of_mem _ wm_11)) rfl (by rw [hml]; exact hl.1) rfl dX8_init_1 (Nat.le_of_ble_eq_true rfl) (Nat.le_of_ble_eq_true rfl) ?_
  refine W.eq (g2 := F0 m 4 ls []) rfl ?_
  refine lv_aload_n hx hb dX8_init_4 rfl (lv_at hl 0 rfl) ?_
  refine lv_bipush (v := 16) hx hb dX8_init_5 (by decide) ?_
  refine lv_bipush (v := 16) hx hb dX8_init_7 (by decide) ?_
  refine kMA (N' := 16) (K' := 16) hx hb hown (hts _ (List.mem_cons_of_mem _ wm_60)) hO.2.2.1 (hts _ (List.mem_cons_of_mem _ wm_42)) hK hP hD hS hA (by decide) (by decide) (by decide) (by decide) (by decide) (by decide) (by decide) (Nat.le_of_ble_eq_true rfl) (Nat.le_of_ble_eq_true rfl) dX8_init_9 (fun qT r H hP hD hS => ?_)
  have hP : va_P D vwCl [(h0, .inr (4, [.null, .null])), (qT, .inl (k 4, 16, .inr (.inr (.inr (.inr (fun i => if i < 16 then some (r i) else none)))))), (r 0, .inl (k 0, 16, .inl (fun _ => 0))), (r 1, .inl (k 0, 16, .inl (fun _ => 0))), (r 2, .inl (k 0, 16, .inl (fun _ => 0))), (r 3, .inl (k 0, 16, .inl (fun _ => 0))), (r 4, .inl (k 0, 16, .inl (fun _ => 0))), (r 5, .inl (k 0, 16, .inl (fun _ => 0))), (r 6, .inl (k 0, 16, .inl (fun _ => 0))), (r 7, .inl (k 0, 16, .inl (fun _ => 0))), (r 8, .inl (k 0, 16, .inl (fun _ => 0))), (r 9, .inl (k 0, 16, .inl (fun _ => 0))), (r 10, .inl (k 0, 16, .inl (fun _ => 0))), (r 11, .inl (k 0, 16, .inl (fun _ => 0))), (r 12, .inl (k 0, 16, .inl (fun _ => 0))), (r 13, .inl (k 0, 16, .inl (fun _ => 0))), (r 14, .inl (k 0, 16, .inl (fun _ => 0))), (r 15, .inl (k 0, 16, .inl (fun _ => 0)))] H := hP
  have hD : va_D A [(h0, .inr (4, [.null, .null])), (qT, .inl (k 4, 16, .inr (.inr (.inr (.inr (fun i => if i < 16 then some (r i) else none)))))), (r 0, .inl (k 0, 16, .inl (fun _ => 0))), (r 1, .inl (k 0, 16, .inl (fun _ => 0))), (r 2, .inl (k 0, 16, .inl (fun _ => 0))), (r 3, .inl (k 0, 16, .inl (fun _ => 0))), (r 4, .inl (k 0, 16, .inl (fun _ => 0))), (r 5, .inl (k 0, 16, .inl (fun _ => 0))), (r 6, .inl (k 0, 16, .inl (fun _ => 0))), (r 7, .inl (k 0, 16, .inl (fun _ => 0))), (r 8, .inl (k 0, 16, .inl (fun _ => 0))), (r 9, .inl (k 0, 16, .inl (fun _ => 0))), (r 10, .inl (k 0, 16, .inl (fun _ => 0))), (r 11, .inl (k 0, 16, .inl (fun _ => 0))), (r 12, .inl (k 0, 16, .inl (fun _ => 0))), (r 13, .inl (k 0, 16, .inl (fun _ => 0))), (r 14, .inl (k 0, 16, .inl (fun _ => 0))), (r 15, .inl (k 0, 16, .inl (fun _ => 0)))] := hD
  refine va_putF (D := D) (ci := 4) (v := .ref qT) (ty := .array (.array .int)) (C := RX8) (T := TX8) (N := 2) hx hb hts hiX8 tyX8 tyX8_ok nmX8 hown hK hP hD hS 0 rfl rfl 0 (by decide) (hts _ (List.mem_cons_of_mem _ wm_61)) (fun _ h9 => h9) rfl hin rfl (by decide +kernel) rfl rfl (Nat.le_of_ble_eq_true rfl) dX8_init_13 (fun H locs hP hD hS => ?_)
  have hP : va_P D vwCl [(h0, .inr (4, [.ref qT, .null])), (qT, .inl (k 4, 16, .inr (.inr (.inr (.inr (fun i => if i < 16 then some (r i) else none)))))), (r 0, .inl (k 0, 16, .inl (fun _ => 0))), (r 1, .inl (k 0, 16, .inl (fun _ => 0))), (r 2, .inl (k 0, 16, .inl (fun _ => 0))), (r 3, .inl (k 0, 16, .inl (fun _ => 0))), (r 4, .inl (k 0, 16, .inl (fun _ => 0))), (r 5, .inl (k 0, 16, .inl (fun _ => 0))), (r 6, .inl (k 0, 16, .inl (fun _ => 0))), (r 7, .inl (k 0, 16, .inl (fun _ => 0))), (r 8, .inl (k 0, 16, .inl (fun _ => 0))), (r 9, .inl (k 0, 16, .inl (fun _ => 0))), (r 10, .inl (k 0, 16, .inl (fun _ => 0))), (r 11, .inl (k 0, 16, .inl (fun _ => 0))), (r 12, .inl (k 0, 16, .inl (fun _ => 0))), (r 13, .inl (k 0, 16, .inl (fun _ => 0))), (r 14, .inl (k 0, 16, .inl (fun _ => 0))), (r 15, .inl (k 0, 16, .inl (fun _ => 0)))] H := hP
  have hD : va_D A [(h0, .inr (4, [.ref qT, .null])), (qT, .inl (k 4, 16, .inr (.inr (.inr (.inr (fun i => if i < 16 then some (r i) else none)))))), (r 0, .inl (k 0, 16, .inl (fun _ => 0))), (r 1, .inl (k 0, 16, .inl (fun _ => 0))), (r 2, .inl (k 0, 16, .inl (fun _ => 0))), (r 3, .inl (k 0, 16, .inl (fun _ => 0))), (r 4, .inl (k 0, 16, .inl (fun _ => 0))), (r 5, .inl (k 0, 16, .inl (fun _ => 0))), (r 6, .inl (k 0, 16, .inl (fun _ => 0))), (r 7, .inl (k 0, 16, .inl (fun _ => 0))), (r 8, .inl (k 0, 16, .inl (fun _ => 0))), (r 9, .inl (k 0, 16, .inl (fun _ => 0))), (r 10, .inl (k 0, 16, .inl (fun _ => 0))), (r 11, .inl (k 0, 16, .inl (fun _ => 0))), (r 12, .inl (k 0, 16, .inl (fun _ => 0))), (r 13, .inl (k 0, 16, .inl (fun _ => 0))), (r 14, .inl (k 0, 16, .inl (fun _ => 0))), (r 15, .inl (k 0, 16, .inl (fun _ => 0)))] := hD
  refine lv_aload_n hx hb dX8_init_16 rfl (lv_at hl 0 rfl) ?_
  refine lv_bipush (v := 16) hx hb dX8_init_17 (by decide) ?_
  refine kNZ (N' := 16) hx hb (hts _ (List.mem_cons_of_mem _ wm_52)) hK hP hD hS hA (by decide) (by decide) (by decide) (Nat.le_of_ble_eq_true rfl) (Nat.le_of_ble_eq_true rfl) dX8_init_19 (fun q1 H hP hD hS => ?_)
  have hP : va_P D vwCl [(h0, .inr (4, [.ref qT, .null])), (qT, .inl (k 4, 16, .inr (.inr (.inr (.inr (fun i => if i < 16 then some (r i) else none)))))), (r 0, .inl (k 0, 16, .inl (fun _ => 0))), (r 1, .inl (k 0, 16, .inl (fun _ => 0))), (r 2, .inl (k 0, 16, .inl (fun _ => 0))), (r 3, .inl (k 0, 16, .inl (fun _ => 0))), (r 4, .inl (k 0, 16, .inl (fun _ => 0))), (r 5, .inl (k 0, 16, .inl (fun _ => 0))), (r 6, .inl (k 0, 16, .inl (fun _ => 0))), (r 7, .inl (k 0, 16, .inl (fun _ => 0))), (r 8, .inl (k 0, 16, .inl (fun _ => 0))), (r 9, .inl (k 0, 16, .inl (fun _ => 0))), (r 10, .inl (k 0, 16, .inl (fun _ => 0))), (r 11, .inl (k 0, 16, .inl (fun _ => 0))), (r 12, .inl (k 0, 16, .inl (fun _ => 0))), (r 13, .inl (k 0, 16, .inl (fun _ => 0))), (r 14, .inl (k 0, 16, .inl (fun _ => 0))), (r 15, .inl (k 0, 16, .inl (fun _ => 0))), (q1, .inl (k 1, 16, .inl (fun _ => 0)))] H := hP
  have hD : va_D A [(h0, .inr (4, [.ref qT, .null])), (qT, .inl (k 4, 16, .inr (.inr (.inr (.inr (fun i => if i < 16 then some (r i) else none)))))), (r 0, .inl (k 0, 16, .inl (fun _ => 0))), (r 1, .inl (k 0, 16, .inl (fun _ => 0))), (r 2, .inl (k 0, 16, .inl (fun _ => 0))), (r 3, .inl (k 0, 16, .inl (fun _ => 0))), (r 4, .inl (k 0, 16, .inl (fun _ => 0))), (r 5, .inl (k 0, 16, .inl (fun _ => 0))), (r 6, .inl (k 0, 16, .inl (fun _ => 0))), (r 7, .inl (k 0, 16, .inl (fun _ => 0))), (r 8, .inl (k 0, 16, .inl (fun _ => 0))), (r 9, .inl (k 0, 16, .inl (fun _ => 0))), (r 10, .inl (k 0, 16, .inl (fun _ => 0))), (r 11, .inl (k 0, 16, .inl (fun _ => 0))), (r 12, .inl (k 0, 16, .inl (fun _ => 0))), (r 13, .inl (k 0, 16, .inl (fun _ => 0))), (r 14, .inl (k 0, 16, .inl (fun _ => 0))), (r 15, .inl (k 0, 16, .inl (fun _ => 0))), (q1, .inl (k 1, 16, .inl (fun _ => 0)))] := hD
  refine va_putF (D := D) (ci := 4) (v := .ref q1) (ty := .array .boolean) (C := RX8) (T := TX8) (N := 2) hx hb hts hiX8 tyX8 tyX8_ok nmX8 hown hK hP hD hS 0 rfl rfl 1 (by decide) (hts _ (List.mem_cons_of_mem _ wm_62)) (fun _ h9 => h9) rfl hin rfl (by decide +kernel) rfl rfl (Nat.le_of_ble_eq_true rfl) dX8_init_21 (fun H locs hP hD hS => ?_)
  have hP : va_P D vwCl [(h0, .inr (4, [.ref qT, .ref q1])), (qT, .inl (k 4, 16, .inr (.inr (.inr (.inr (fun i => if i < 16 then some (r i) else none)))))), (r 0, .inl (k 0, 16, .inl (fun _ => 0))), (r 1, .inl (k 0, 16, .inl (fun _ => 0))), (r 2, .inl (k 0, 16, .inl (fun _ => 0))), (r 3, .inl (k 0, 16, .inl (fun _ => 0))), (r 4, .inl (k 0, 16, .inl (fun _ => 0))), (r 5, .inl (k 0, 16, .inl (fun _ => 0))), (r 6, .inl (k 0, 16, .inl (fun _ => 0))), (r 7, .inl (k 0, 16, .inl (fun _ => 0))), (r 8, .inl (k 0, 16, .inl (fun _ => 0))), (r 9, .inl (k 0, 16, .inl (fun _ => 0))), (r 10, .inl (k 0, 16, .inl (fun _ => 0))), (r 11, .inl (k 0, 16, .inl (fun _ => 0))), (r 12, .inl (k 0, 16, .inl (fun _ => 0))), (r 13, .inl (k 0, 16, .inl (fun _ => 0))), (r 14, .inl (k 0, 16, .inl (fun _ => 0))), (r 15, .inl (k 0, 16, .inl (fun _ => 0))), (q1, .inl (k 1, 16, .inl (fun _ => 0)))] H := hP
  have hD : va_D A [(h0, .inr (4, [.ref qT, .ref q1])), (qT, .inl (k 4, 16, .inr (.inr (.inr (.inr (fun i => if i < 16 then some (r i) else none)))))), (r 0, .inl (k 0, 16, .inl (fun _ => 0))), (r 1, .inl (k 0, 16, .inl (fun _ => 0))), (r 2, .inl (k 0, 16, .inl (fun _ => 0))), (r 3, .inl (k 0, 16, .inl (fun _ => 0))), (r 4, .inl (k 0, 16, .inl (fun _ => 0))), (r 5, .inl (k 0, 16, .inl (fun _ => 0))), (r 6, .inl (k 0, 16, .inl (fun _ => 0))), (r 7, .inl (k 0, 16, .inl (fun _ => 0))), (r 8, .inl (k 0, 16, .inl (fun _ => 0))), (r 9, .inl (k 0, 16, .inl (fun _ => 0))), (r 10, .inl (k 0, 16, .inl (fun _ => 0))), (r 11, .inl (k 0, 16, .inl (fun _ => 0))), (r 12, .inl (k 0, 16, .inl (fun _ => 0))), (r 13, .inl (k 0, 16, .inl (fun _ => 0))), (r 14, .inl (k 0, 16, .inl (fun _ => 0))), (r 15, .inl (k 0, 16, .inl (fun _ => 0))), (q1, .inl (k 1, 16, .inl (fun _ => 0)))] := hD
  refine W.widen (k := 18) (n := 288) (Nat.le_of_ble_eq_true rfl) (Nat.le_of_ble_eq_true rfl) ?_
  exact W.vret hx hb hr (fun t ht hW => ⟨⟨_, rfl, ⟨qT, r, q1, rfl⟩, by rw [ht]; exact hP, va_K.moved hW.alike hK, hD⟩, hS.F ht⟩) hS.2.2 dX8_init_24
