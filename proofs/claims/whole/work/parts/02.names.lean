/-! ===== BEGIN words of one list among another's, by their places ===== -/
theorem goodIn_r {big : List Cond} (ws : List Cond) (ps : List Nat) (hp : ws = ps.filterMap (fun i => big[i]?)) (h : ws.all goodWord = true) : GoodIn big ws := by
  intro w hw
  have h1 := List.all_eq_true.mp h w hw
  rw [hp] at hw
  obtain ⟨i, -, hi⟩ := List.mem_filterMap.mp hw
  have hm : w ∈ big := by first | exact List.mem_of_getElem? hi | exact List.getElem?_mem hi
  exact ⟨hm, good_of_word h1⟩
theorem goodIn_app {big a b : List Cond} (ha : GoodIn big a) (hb : GoodIn big b) : GoodIn big (a ++ b) := fun w h => (List.mem_append.mp h).elim (ha w) (hb w)
theorem goodIn_ca {big a b : List Cond} {c : Cond} (ha : GoodIn big (c :: a)) (hb : GoodIn big b) : GoodIn big (c :: (a ++ b)) := fun w h => (List.mem_cons.mp h).elim (fun e => ha w (List.mem_cons.mpr (Or.inl e))) (fun h => (List.mem_append.mp h).elim (fun h => ha w (List.mem_cons.mpr (Or.inr h))) (hb w))
theorem goodIn_sub {big ws : List Cond} (hm : ∀ w ∈ ws, w ∈ big) (h : ws.all goodWord = true) : GoodIn big ws := fun w hw => ⟨hm w hw, good_of_word (List.all_eq_true.mp h w hw)⟩
/-! ===== END ===== -/

/-! ===== BEGIN new T[n][m]: the outer array a place, the inner ones among the pooled ===== -/
/-- f, but v at every address of l -/
def vr_up {α : Type} (f : Nat → α) (l : List Nat) (v : α) : Nat → α := fun a => if a ∈ l then v else f a
theorem vr_up_in {α : Type} {f : Nat → α} {l : List Nat} {v : α} {a : Nat} (h : a ∈ l) : vr_up f l v a = v := if_pos h
theorem vr_up_ne {α : Type} {f : Nat → α} {l : List Nat} {v : α} {a : Nat} (h : a ∉ l) : vr_up f l v a = f a := if_neg h
theorem vr_rows {L l : List Nat} {f : Nat → va_E} {e : va_E} (h : ∀ a, a ∈ l → a ∉ L) : va_pl L f ++ l.map (fun a => (a, e)) = va_pl (L ++ l) (vr_up f l e) := by
  unfold va_pl
  rw [List.map_append]
  congr 1
  · apply List.map_congr_left
    intro a ha
    rw [vr_up_ne (fun q => h a q ha)]
  · apply List.map_congr_left
    intro a ha
    rw [vr_up_in ha]
theorem vr_lay {X rows : va_W} {x : Nat × va_E} {pl : va_W} {D : va_G} {cl : List vw_C} {H : Heap} (hP : va_P D cl (((X ++ pl) ++ [x]) ++ rows) H) : va_P D cl ((X ++ [x]) ++ (pl ++ rows)) H := by
  rw [List.append_assoc (X ++ pl)] at hP
  have h := va_P.swap hP
  rw [← List.append_assoc X] at h
  have h2 := va_P.swap h
  rw [List.append_assoc (X ++ [x])] at h2
  exact h2
theorem vr_layD {X rows : va_W} {x : Nat × va_E} {pl : va_W} {A : Nat → Prop} (hD : va_D A (((X ++ pl) ++ [x]) ++ rows)) : va_D A ((X ++ [x]) ++ (pl ++ rows)) := by
  rw [List.append_assoc (X ++ pl)] at hD
  have h := va_D.swap hD
  rw [← List.append_assoc X] at h
  have h2 := va_D.swap h
  rw [List.append_assoc (X ++ [x])] at h2
  exact h2
theorem vr_outer (c : ClassId) (N h0 : Nat) : ∀ i : Nat, Jvm.Free.Multi.outerC c N h0 i = arrV c N (fun j => va_rf (if j < i then some (h0 + 1 + j) else none))
  | 0 => by
    show ({ cls := c, slots := Array.replicate N .null, vm := .none } : Cell) = _
    rw [arrV_new]
    refine congrArg (arrV c N) (funext fun j => ?_)
    simp [va_rf]
  | i + 1 => by
    show (Jvm.Free.Multi.outerC c N h0 i).setSlot i (.ref (h0 + 1 + i)) = _
    rw [vr_outer c N h0 i, arrV_store]
    refine congrArg (arrV c N) (funext fun j => ?_)
    by_cases e : j = i
    · subst e
      simp [updV, va_rf]
    · by_cases h : j < i
      · simp [updV, e, h, Nat.lt_succ_of_lt h]
      · simp [updV, e, h, show ¬ j < i + 1 by omega]
section VGM
variable {p : Program} {l : Launch} {e : Env} {R : Room} {s : State} {m : MethodId} {args : Array Value} {below : List Frame} {meth : Method} {c : Code} {H : Heap} {locs : List Loc} {cells slots : Nat} {Q : State → Prop}
variable {cc : ByteArray} {pc : Nat} {ls : Array Slot} {rest : List Value} {D : va_G} {cl : List vw_C} {A : Nat → Prop} {a : Nat} {tys : List (ClassId × FieldType)} {ws : va_W} {H0 : Heap}
theorem va_mna {X : va_W} {L : List Nat} {f : Nat → va_E} {cc : ByteArray} (hexec : p.tables.exec = Jvm.exec) (hb : c.code = cc) {own : String} {index : Nat} {ty : FieldType} {cy : ClassId} (hown : s.vm.findClass own = some m.cls) (hclink : (Cond.classLink own index ("[" ++ (FieldType.array ty).toString)).before args s = true) (hover : va_AOA ty s) (harr : (Cond.arrayClass ty).before args s = true) (hcy : s.vm.findClass (FieldType.array ty).toString = some cy)
    (hK : va_K D cl tys s) (hP : va_P D cl (X ++ va_pl L f) H) (hD : va_D A (X ++ va_pl L f)) (hS : va_S A H0 H locs) (hA : ∀ q, H0.size ≤ q → A q) {n k : Int32} {N' K' : Nat} {z : vp_A} (hn : ¬ n < 0) (hk : ¬ k < 0) (hN : n.toNatClampNeg = N') (hM : k.toNatClampNeg = K')
    (hb1 : N' * 4 ≤ 536870912) (hb2 : K' * componentBytes ty ≤ 536870912) (hb3 : K' ≤ 536870912) (hdf : fits ty (defaultValue ty) = true) (hdd : (defaultValue ty).isDefault = true) (hcells : cells + (1 + N') ≤ R.cells) (hslots : slots + (N' + N' * K') ≤ R.slots) (hz : ∀ c : ClassId, Jvm.Free.Multi.innerC c K' (defaultValue ty) = vp_cell c z) (hdg : decode cc pc = .ok (.multianewarray index 2, 4))
    (kk : ∀ (q : Nat) (r : Nat → Nat) (cA : ClassId) (H1 : Heap), (∀ i j : Nat, i < N' → j < N' → r i = r j → i = j) → (∀ i : Nat, i < N' → r i ∉ L) → va_K D cl (tys ++ [(cA, .array ty)]) s →
      va_P D cl ((X ++ [(q, .inl (cA, N', .inr (.inr (.inr (.inr (fun i => if i < N' then some (r i) else none))))))]) ++ va_pl (L ++ (List.range N').map r) (vr_up f ((List.range N').map r) (.inl (cy, z)))) H1 → va_D A ((X ++ [(q, .inl (cA, N', .inr (.inr (.inr (.inr (fun i => if i < N' then some (r i) else none))))))]) ++ va_pl (L ++ (List.range N').map r) (vr_up f ((List.range N').map r) (.inl (cy, z)))) → va_S A H0 H1 locs →
      W p l e R s m args below meth c H1 locs (cells + 1 + N') (slots + N' + N' * K') Q (F0 m (pc + 4) ls (.ref q :: rest))) : W p l e R s m args below meth c H locs cells slots Q (F0 m pc ls (.int k :: .int n :: rest)) := by
  subst hN
  subst hM
  intro T hT Xs
  obtain ⟨vm₁, cA, comp, -, fA, fC, hO, -, X', step⟩ := Xs.multianewarray2F hexec hown hclink (va_AOA.use hover) harr (g := F0 m pc ls (.int k :: .int n :: rest)) rfl (by rw [hb]; exact hdg) rfl hn hk hb1 hb2 hb3 hdf hdd hcells hslots
  have ec : some cy = some comp := hcy.symm.trans fC
  cases ec
  generalize hF : Jvm.Free.Multi.fill (T.setVm vm₁) cA cy n.toNatClampNeg k.toNatClampNeg (defaultValue ty) n.toNatClampNeg = F at X' step
  have hTh : (T.setVm vm₁).heap = H := hT
  obtain ⟨f1, f2, -, -⟩ := Jvm.Free.Multi.fill_facts (T.setVm vm₁) cA cy n.toNatClampNeg k.toNatClampNeg (defaultValue ty) n.toNatClampNeg
  rw [hF, hTh] at f1 f2
  have hold : ∀ x : Nat, x < H.size → F.heap[x]? = H[x]? := fun x hx => by
    have := Jvm.Free.Multi.fill_old (T.setVm vm₁) cA cy n.toNatClampNeg k.toNatClampNeg (defaultValue ty) (a := x) (by rw [hTh]; exact hx) n.toNatClampNeg
    rw [hF, hTh] at this
    exact this
  have hrow : ∀ j : Nat, j < n.toNatClampNeg → F.heap[H.size + 1 + j]? = some (vp_cell cy z) := fun j hj => by
    have := Jvm.Free.Multi.fill_inner (T.setVm vm₁) cA cy n.toNatClampNeg k.toNatClampNeg (defaultValue ty) n.toNatClampNeg j hj
    rw [hF, hTh, hz] at this
    exact this
  have hout : Jvm.Free.Multi.outerC cA n.toNatClampNeg H.size n.toNatClampNeg = vp_cell cA (n.toNatClampNeg, .inr (.inr (.inr (.inr (fun i => if i < n.toNatClampNeg then some (H.size + 1 + i) else none))))) := by
    rw [vp_cell_q]
    exact vr_outer cA n.toNatClampNeg H.size n.toNatClampNeg
  rw [hout] at f2
  have hlt : ∀ a, a ∈ L → a < H.size := fun a ha => by
    obtain ⟨k9, hk9⟩ := va_pl_get (X := X) (f := f) ha
    exact (hP k9 _ hk9).lt
  have hnl : ∀ i : Nat, i < n.toNatClampNeg → H.size + 1 + i ∉ L := fun i _ h => by
    have := hlt _ h
    omega
  have hnm : ∀ a, a ∈ (List.range n.toNatClampNeg).map (fun i => H.size + 1 + i) → a ∉ L := fun a ha h => by
    obtain ⟨i, -, rfl⟩ := List.mem_map.mp ha
    have := hlt _ h
    omega
  have hP0 : va_P D cl (X ++ va_pl L f) F.heap := hP.kept (fun k9 x hx => hold x.1 ((hP k9 x hx).lt))
  have hP1 : va_P D cl ((X ++ va_pl L f) ++ [(H.size, .inl (cA, n.toNatClampNeg, .inr (.inr (.inr (.inr (fun i => if i < n.toNatClampNeg then some (H.size + 1 + i) else none))))))]) F.heap := hP0.app (fun k9 x hx => by
    have h0 : k9 < 1 := (List.getElem?_eq_some_iff.mp hx).1
    rw [show k9 = 0 by omega] at hx
    cases hx
    exact f2)
  have hP2 : va_P D cl (((X ++ va_pl L f) ++ [(H.size, .inl (cA, n.toNatClampNeg, .inr (.inr (.inr (.inr (fun i => if i < n.toNatClampNeg then some (H.size + 1 + i) else none))))))]) ++ ((List.range n.toNatClampNeg).map (fun i => H.size + 1 + i)).map (fun a => (a, .inl (cy, z)))) F.heap := hP1.app (fun k9 x hx => by
    obtain ⟨a, ha, rfl⟩ := List.mem_map.mp (List.mem_of_getElem? hx)
    obtain ⟨i, hi, rfl⟩ := List.mem_map.mp ha
    exact hrow i (List.mem_range.mp hi))
  have hD2 : va_D A (((X ++ va_pl L f) ++ [(H.size, .inl (cA, n.toNatClampNeg, .inr (.inr (.inr (.inr (fun i => if i < n.toNatClampNeg then some (H.size + 1 + i) else none))))))]) ++ ((List.range n.toNatClampNeg).map (fun i => H.size + 1 + i)).map (fun a => (a, .inl (cy, z)))) := by
    have hD1 := hD.push (e := .inl (cA, n.toNatClampNeg, .inr (.inr (.inr (.inr (fun i => if i < n.toNatClampNeg then some (H.size + 1 + i) else none)))))) hP rfl (hA _ hS.1)
    generalize hW1 : (X ++ va_pl L f) ++ [(H.size, .inl (cA, n.toNatClampNeg, .inr (.inr (.inr (.inr (fun i => if i < n.toNatClampNeg then some (H.size + 1 + i) else none))))))] = W1 at hD1 hP1 ⊢
    have hle : ∀ (k9 : Nat) (x : Nat × va_E), W1[k9]? = some x → x.1 ≤ H.size := fun k9 x hx => by
      rw [← hW1] at hx
      by_cases hl : k9 < (X ++ va_pl L f).length
      · rw [List.getElem?_append_left hl] at hx
        exact Nat.le_of_lt ((hP k9 x hx).lt)
      · rw [List.getElem?_append_right (by omega)] at hx
        have h0 : k9 - (X ++ va_pl L f).length < 1 := (List.getElem?_eq_some_iff.mp hx).1
        rw [show k9 - (X ++ va_pl L f).length = 0 by omega] at hx
        cases hx
        exact Nat.le_refl _
    have hr : ∀ (k9 : Nat) (x : Nat × va_E), (((List.range n.toNatClampNeg).map (fun i => H.size + 1 + i)).map (fun a => ((a, .inl (cy, z)) : Nat × va_E)))[k9]? = some x → x.1 = H.size + 1 + k9 := fun k9 x hx => by
      rw [List.getElem?_map, List.getElem?_map] at hx
      by_cases h9 : k9 < n.toNatClampNeg
      · rw [List.getElem?_range h9] at hx
        cases hx
        rfl
      · have hn0 : (List.range n.toNatClampNeg)[k9]? = none := List.getElem?_eq_none (by rw [List.length_range]; omega)
        rw [hn0] at hx
        cases hx
    refine ⟨fun i j x y hi hj hxy => ?_, fun k9 x hx => ?_⟩
    · by_cases h1 : i < W1.length <;> by_cases h2 : j < W1.length
      · rw [List.getElem?_append_left h1] at hi
        rw [List.getElem?_append_left h2] at hj
        exact hD1.1 i j x y hi hj hxy
      · rw [List.getElem?_append_left h1] at hi
        rw [List.getElem?_append_right (by omega)] at hj
        have := hle _ _ hi
        have := hr _ _ hj
        omega
      · rw [List.getElem?_append_right (by omega)] at hi
        rw [List.getElem?_append_left h2] at hj
        have := hle _ _ hj
        have := hr _ _ hi
        omega
      · rw [List.getElem?_append_right (by omega)] at hi hj
        have := hr _ _ hi
        have := hr _ _ hj
        omega
    · by_cases h1 : k9 < W1.length
      · rw [List.getElem?_append_left h1] at hx
        exact hD1.2 k9 x hx
      · rw [List.getElem?_append_right (by omega)] at hx
        have := hr _ _ hx
        exact hA _ (by have := hS.1; omega)
  have hAr : ArrOfT s cA (.array ty) := fun N9 z9 => by
    obtain ⟨-, k9, hk9, cm9, hkk9⟩ := (hO 0 0 0).1
    exact ⟨(fun q hq => by cases hq), k9, hk9, cm9, hkk9⟩
  have hK2 : va_K D cl (tys ++ [(cA, .array ty)]) s := ⟨hK.1, fun k9 x hx => by
    by_cases hl : k9 < tys.length
    · rw [List.getElem?_append_left hl] at hx
      exact hK.2 k9 x hx
    · rw [List.getElem?_append_right (by omega)] at hx
      have h0 : k9 - tys.length < 1 := (List.getElem?_eq_some_iff.mp hx).1
      rw [show k9 - tys.length = 0 by omega] at hx
      cases hx
      exact ⟨hAr, fA⟩⟩
  obtain ⟨t, a1, b1⟩ := kk H.size (fun i => H.size + 1 + i) cA F.heap (fun i j _ _ h => by have h9 : H.size + 1 + i = H.size + 1 + j := h; omega) hnl hK2 (by rw [← vr_rows hnm]; exact vr_lay hP2) (by rw [← vr_rows hnm]; exact vr_layD hD2) ⟨by rw [f1]; have := hS.1; omega, fun x h1 h2 => (hold x (Nat.lt_of_lt_of_le h1 hS.1)).trans (hS.2.1 x h1 h2), hS.2.2⟩ F rfl X'
  refine ⟨t, step t ?_, b1⟩
  have e : T.heap.size = H.size := by rw [hT]
  rw [e]
  exact a1
end VGM
/-! ===== END ===== -/

/-! ===== BEGIN printed: names, fields, word lists, decode rows ===== -/
def RX0 : String := "RowsOfTwo$Fills"
def TX0 : u_T := fun k => match k with
  | 0 => ("RowsOfTwo$Fills", "tally", "[I", true)
  | 1 => ("RowsOfTwo$Fills", "alwaysHit", "I", false)
  | _ => ("RowsOfTwo$Fills", "everHit", "I", false)
def tyX0 : Nat → FieldType := fun k => match k with
  | 0 => .array .int
  | 1 => .int
  | _ => .int
abbrev wsX00 : List Cond := u_ws RX0 TX0 3
theorem nmX0 : ∀ a, a < 3 → ∀ b, b < 3 → a ≠ b → (TX0 a).2.1 ≠ (TX0 b).2.1 := by decide +kernel
theorem tyX0_ok : ∀ k, k < 3 → parseFieldDescriptor (TX0 k).2.2.1 = some (tyX0 k) := by decide +kernel
abbrev cX0_init : ByteArray := prog_2_method_1_code
def yX0_init : MethodName := ⟨RX0, "<init>", "()V"⟩
abbrev cX0_learn : ByteArray := prog_2_method_2_code
def yX0_learn : MethodName := ⟨RX0, "learn", "(LRowsOfTwo$Row;LRowsOfTwo$Sentences;I)V"⟩
def RX1 : String := "RowsOfTwo$Fractions"
def TX1 : u_T := fun k => match k with
  | _ => ("", "", "", false)
def tyX1 : Nat → FieldType := fun k => match k with
  | _ => .int
abbrev wsX10 : List Cond := u_ws RX1 TX1 0
theorem nmX1 : ∀ a, a < 0 → ∀ b, b < 0 → a ≠ b → (TX1 a).2.1 ≠ (TX1 b).2.1 := by decide +kernel
theorem tyX1_ok : ∀ k, k < 0 → parseFieldDescriptor (TX1 k).2.2.1 = some (tyX1 k) := by decide +kernel
abbrev cX1_part : ByteArray := prog_3_method_2_code
def yX1_part : MethodName := ⟨RX1, "part", "(JJI)J"⟩
abbrev cX1_power : ByteArray := prog_3_method_3_code
def yX1_power : MethodName := ⟨RX1, "power", "(JI)J"⟩
abbrev cX1_commonDivisor : ByteArray := prog_3_method_4_code
def yX1_commonDivisor : MethodName := ⟨RX1, "commonDivisor", "(JJ)J"⟩
def RX2 : String := "RowsOfTwo$Lots"
def TX2 : u_T := fun k => match k with
  | _ => ("", "", "", false)
def tyX2 : Nat → FieldType := fun k => match k with
  | _ => .int
abbrev wsX20 : List Cond := u_ws RX2 TX2 0
theorem nmX2 : ∀ a, a < 0 → ∀ b, b < 0 → a ≠ b → (TX2 a).2.1 ≠ (TX2 b).2.1 := by decide +kernel
theorem tyX2_ok : ∀ k, k < 0 → parseFieldDescriptor (TX2 k).2.2.1 = some (tyX2 k) := by decide +kernel
abbrev cX2_howMany : ByteArray := prog_4_method_2_code
def yX2_howMany : MethodName := ⟨RX2, "howMany", "(LRowsOfTwo$Row;)I"⟩
abbrev cX2_lowest : ByteArray := prog_4_method_3_code
def yX2_lowest : MethodName := ⟨RX2, "lowest", "(LRowsOfTwo$Row;)I"⟩
abbrev cX2_after : ByteArray := prog_4_method_4_code
def yX2_after : MethodName := ⟨RX2, "after", "(I)I"⟩
abbrev cX2_behindHits : ByteArray := prog_4_method_5_code
def yX2_behindHits : MethodName := ⟨RX2, "behindHits", "(II)I"⟩
abbrev cX2_heat : ByteArray := prog_4_method_6_code
def yX2_heat : MethodName := ⟨RX2, "heat", "(II)J"⟩
def RX3 : String := "RowsOfTwo$Numbers"
def TX3 : u_T := fun k => match k with
  | _ => ("", "", "", false)
def tyX3 : Nat → FieldType := fun k => match k with
  | _ => .int
abbrev wsX30 : List Cond := u_ws RX3 TX3 0
theorem nmX3 : ∀ a, a < 0 → ∀ b, b < 0 → a ≠ b → (TX3 a).2.1 ≠ (TX3 b).2.1 := by decide +kernel
theorem tyX3_ok : ∀ k, k < 0 → parseFieldDescriptor (TX3 k).2.2.1 = some (tyX3 k) := by decide +kernel
abbrev cX3_measure : ByteArray := prog_5_method_2_code
def yX3_measure : MethodName := ⟨RX3, "measure", "(IIII)I"⟩
abbrev cX3_runs : ByteArray := prog_5_method_3_code
def yX3_runs : MethodName := ⟨RX3, "runs", "(II)I"⟩
abbrev cX3_longestRun : ByteArray := prog_5_method_4_code
def yX3_longestRun : MethodName := ⟨RX3, "longestRun", "(I)I"⟩
abbrev cX3_firstHit : ByteArray := prog_5_method_5_code
def yX3_firstHit : MethodName := ⟨RX3, "firstHit", "(II)I"⟩
def RX4 : String := "RowsOfTwo$Patterns"
def TX4 : u_T := fun k => match k with
  | _ => ("", "", "", false)
def tyX4 : Nat → FieldType := fun k => match k with
  | _ => .int
abbrev wsX40 : List Cond := u_ws RX4 TX4 0
theorem nmX4 : ∀ a, a < 0 → ∀ b, b < 0 → a ≠ b → (TX4 a).2.1 ≠ (TX4 b).2.1 := by decide +kernel
theorem tyX4_ok : ∀ k, k < 0 → parseFieldDescriptor (TX4 k).2.2.1 = some (tyX4 k) := by decide +kernel
abbrev cX4_lengthOf : ByteArray := prog_6_method_2_code
def yX4_lengthOf : MethodName := ⟨RX4, "lengthOf", "(I)I"⟩
abbrev cX4_timesIn : ByteArray := prog_6_method_3_code
def yX4_timesIn : MethodName := ⟨RX4, "timesIn", "(III)I"⟩
abbrev cX4_standsIn : ByteArray := prog_6_method_4_code
def yX4_standsIn : MethodName := ⟨RX4, "standsIn", "(II)Z"⟩
abbrev cX4_lead : ByteArray := prog_6_method_5_code
def yX4_lead : MethodName := ⟨RX4, "lead", "(III)J"⟩
abbrev cX4_leadUnit : ByteArray := prog_6_method_6_code
def yX4_leadUnit : MethodName := ⟨RX4, "leadUnit", "(I)J"⟩
abbrev cX4_chanceParts : ByteArray := prog_6_method_7_code
def yX4_chanceParts : MethodName := ⟨RX4, "chanceParts", "(III)J"⟩
def RX5 : String := "RowsOfTwo$Row"
def TX5 : u_T := fun k => match k with
  | 0 => ("RowsOfTwo$Row", "length", "I", false)
  | 1 => ("RowsOfTwo$Row", "hits", "I", false)
  | _ => ("RowsOfTwo$Row", "unseen", "I", false)
def tyX5 : Nat → FieldType := fun k => match k with
  | 0 => .int
  | 1 => .int
  | _ => .int
abbrev wsX50 : List Cond := u_ws RX5 TX5 3
theorem nmX5 : ∀ a, a < 3 → ∀ b, b < 3 → a ≠ b → (TX5 a).2.1 ≠ (TX5 b).2.1 := by decide +kernel
theorem tyX5_ok : ∀ k, k < 3 → parseFieldDescriptor (TX5 k).2.2.1 = some (tyX5 k) := by decide +kernel
abbrev cX5_init : ByteArray := prog_7_method_1_code
def yX5_init : MethodName := ⟨RX5, "<init>", "()V"⟩
abbrev cX5_maySee : ByteArray := prog_7_method_2_code
def yX5_maySee : MethodName := ⟨RX5, "maySee", "(I)Z"⟩
abbrev cX5_isFull : ByteArray := prog_7_method_3_code
def yX5_isFull : MethodName := ⟨RX5, "isFull", "()Z"⟩
abbrev cX5_isWhole : ByteArray := prog_7_method_4_code
def yX5_isWhole : MethodName := ⟨RX5, "isWhole", "()Z"⟩
abbrev cX5_empty : ByteArray := prog_7_method_5_code
def yX5_empty : MethodName := ⟨RX5, "empty", "()V"⟩
abbrev cX5_append : ByteArray := prog_7_method_6_code
def yX5_append : MethodName := ⟨RX5, "append", "(I)V"⟩
abbrev cX5_signAt : ByteArray := prog_7_method_7_code
def yX5_signAt : MethodName := ⟨RX5, "signAt", "(I)I"⟩
abbrev cX5_isBehindItsEnd : ByteArray := prog_7_method_8_code
def yX5_isBehindItsEnd : MethodName := ⟨RX5, "isBehindItsEnd", "(II)Z"⟩
def RX6 : String := "RowsOfTwo$Sentences"
def TX6 : u_T := fun k => match k with
  | 0 => ("RowsOfTwo$Sentences", "letters", "[I", true)
  | 1 => ("RowsOfTwo$Sentences", "relations", "[I", true)
  | 2 => ("RowsOfTwo$Sentences", "limits", "[I", true)
  | 3 => ("RowsOfTwo$Sentences", "opensAlternative", "[Z", true)
  | 4 => ("RowsOfTwo$Sentences", "measured", "[I", true)
  | 5 => ("RowsOfTwo$Sentences", "length", "I", false)
  | 6 => ("RowsOfTwo$Sentences", "tests", "I", false)
  | 7 => ("RowsOfTwo$Sentences", "due", "I", false)
  | _ => ("RowsOfTwo$Sentences", "stuckAt", "I", false)
def tyX6 : Nat → FieldType := fun k => match k with
  | 0 => .array .int
  | 1 => .array .int
  | 2 => .array .int
  | 3 => .array .boolean
  | 4 => .array .int
  | 5 => .int
  | 6 => .int
  | 7 => .int
  | _ => .int
abbrev wsX60 : List Cond := u_ws RX6 TX6 9
theorem nmX6 : ∀ a, a < 9 → ∀ b, b < 9 → a ≠ b → (TX6 a).2.1 ≠ (TX6 b).2.1 := by decide +kernel
theorem tyX6_ok : ∀ k, k < 9 → parseFieldDescriptor (TX6 k).2.2.1 = some (tyX6 k) := by decide +kernel
abbrev cX6_init : ByteArray := prog_8_method_1_code
def yX6_init : MethodName := ⟨RX6, "<init>", "()V"⟩
abbrev cX6_empty : ByteArray := prog_8_method_2_code
def yX6_empty : MethodName := ⟨RX6, "empty", "()V"⟩
abbrev cX6_append : ByteArray := prog_8_method_3_code
def yX6_append : MethodName := ⟨RX6, "append", "(I)V"⟩
abbrev cX6_faultPlace : ByteArray := prog_8_method_4_code
def yX6_faultPlace : MethodName := ⟨RX6, "faultPlace", "()I"⟩
abbrev cX6_isFaulty : ByteArray := prog_8_method_5_code
def yX6_isFaulty : MethodName := ⟨RX6, "isFaulty", "()Z"⟩
abbrev cX6_goesOn : ByteArray := prog_8_method_6_code
def yX6_goesOn : MethodName := ⟨RX6, "goesOn", "(I)Z"⟩
abbrev cX6_takesLetter : ByteArray := prog_8_method_7_code
def yX6_takesLetter : MethodName := ⟨RX6, "takesLetter", "(I)Z"⟩
abbrev cX6_takesRelation : ByteArray := prog_8_method_8_code
def yX6_takesRelation : MethodName := ⟨RX6, "takesRelation", "(I)Z"⟩
abbrev cX6_takesFigure : ByteArray := prog_8_method_9_code
def yX6_takesFigure : MethodName := ⟨RX6, "takesFigure", "(I)Z"⟩
abbrev cX6_takesSecondFigure : ByteArray := prog_8_method_10_code
def yX6_takesSecondFigure : MethodName := ⟨RX6, "takesSecondFigure", "(I)Z"⟩
abbrev cX6_takesJoint : ByteArray := prog_8_method_11_code
def yX6_takesJoint : MethodName := ⟨RX6, "takesJoint", "(I)Z"⟩
abbrev cX6_hold : ByteArray := prog_8_method_12_code
def yX6_hold : MethodName := ⟨RX6, "hold", "(III)Z"⟩
abbrev cX6_isDone : ByteArray := prog_8_method_13_code
def yX6_isDone : MethodName := ⟨RX6, "isDone", "(I)Z"⟩
def RX7 : String := "RowsOfTwo$Sheet"
def TX7 : u_T := fun k => match k with
  | 0 => ("RowsOfTwo$Sheet", "items", "[I", true)
  | 1 => ("RowsOfTwo$Sheet", "lost", "Z", false)
  | 2 => ("RowsOfTwo$Sheet", "kind", "I", false)
  | _ => ("RowsOfTwo$Sheet", "size", "I", false)
def tyX7 : Nat → FieldType := fun k => match k with
  | 0 => .array .int
  | 1 => .boolean
  | 2 => .int
  | _ => .int
abbrev wsX70 : List Cond := u_ws RX7 TX7 4
theorem nmX7 : ∀ a, a < 4 → ∀ b, b < 4 → a ≠ b → (TX7 a).2.1 ≠ (TX7 b).2.1 := by decide +kernel
theorem tyX7_ok : ∀ k, k < 4 → parseFieldDescriptor (TX7 k).2.2.1 = some (tyX7 k) := by decide +kernel
abbrev cX7_init : ByteArray := prog_9_method_1_code
def yX7_init : MethodName := ⟨RX7, "<init>", "()V"⟩
abbrev cX7_renew : ByteArray := prog_9_method_2_code
def yX7_renew : MethodName := ⟨RX7, "renew", "(II)V"⟩
abbrev cX7_store : ByteArray := prog_9_method_3_code
def yX7_store : MethodName := ⟨RX7, "store", "(II)V"⟩
abbrev cX7_hasSpan : ByteArray := prog_9_method_4_code
def yX7_hasSpan : MethodName := ⟨RX7, "hasSpan", "(II)Z"⟩
def RX8 : String := "RowsOfTwo$Shown"
def TX8 : u_T := fun k => match k with
  | 0 => ("RowsOfTwo$Shown", "tallies", "[[I", true)
  | _ => ("RowsOfTwo$Shown", "known", "[Z", true)
def tyX8 : Nat → FieldType := fun k => match k with
  | 0 => .array (.array .int)
  | _ => .array .boolean
abbrev wsX80 : List Cond := u_ws RX8 TX8 2
theorem nmX8 : ∀ a, a < 2 → ∀ b, b < 2 → a ≠ b → (TX8 a).2.1 ≠ (TX8 b).2.1 := by decide +kernel
theorem tyX8_ok : ∀ k, k < 2 → parseFieldDescriptor (TX8 k).2.2.1 = some (tyX8 k) := by decide +kernel
abbrev cX8_init : ByteArray := prog_10_method_1_code
def yX8_init : MethodName := ⟨RX8, "<init>", "()V"⟩
abbrev cX8_forget : ByteArray := prog_10_method_2_code
def yX8_forget : MethodName := ⟨RX8, "forget", "()V"⟩
abbrev cX8_learn : ByteArray := prog_10_method_3_code
def yX8_learn : MethodName := ⟨RX8, "learn", "(ILRowsOfTwo$Sentences;I)V"⟩
def RX9 : String := "RowsOfTwo$Tallies"
def TX9 : u_T := fun k => match k with
  | _ => ("", "", "", false)
def tyX9 : Nat → FieldType := fun k => match k with
  | _ => .int
abbrev wsX90 : List Cond := u_ws RX9 TX9 0
theorem nmX9 : ∀ a, a < 0 → ∀ b, b < 0 → a ≠ b → (TX9 a).2.1 ≠ (TX9 b).2.1 := by decide +kernel
theorem tyX9_ok : ∀ k, k < 0 → parseFieldDescriptor (TX9 k).2.2.1 = some (tyX9 k) := by decide +kernel
abbrev cX9_sum : ByteArray := prog_11_method_2_code
def yX9_sum : MethodName := ⟨RX9, "sum", "([I)I"⟩
abbrev cX9_sharePart : ByteArray := prog_11_method_3_code
def yX9_sharePart : MethodName := ⟨RX9, "sharePart", "([IIII)J"⟩
def RX10 : String := "RowsOfTwo"
def TX10 : u_T := fun k => match k with
  | 0 => ("RowsOfTwo", "rows", "[LRowsOfTwo$Row;", true)
  | 1 => ("RowsOfTwo", "sheets", "[LRowsOfTwo$Sheet;", true)
  | 2 => ("RowsOfTwo", "sentences", "LRowsOfTwo$Sentences;", true)
  | 3 => ("RowsOfTwo", "shownRows", "LRowsOfTwo$Shown;", true)
  | 4 => ("RowsOfTwo", "heldFills", "LRowsOfTwo$Fills;", true)
  | 5 => ("RowsOfTwo", "odds", "I", false)
  | 6 => ("RowsOfTwo", "pattern", "I", false)
  | _ => ("RowsOfTwo", "finding", "I", false)
def tyX10 : Nat → FieldType := fun k => match k with
  | 0 => .array (.object "RowsOfTwo$Row")
  | 1 => .array (.object "RowsOfTwo$Sheet")
  | 2 => .object "RowsOfTwo$Sentences"
  | 3 => .object "RowsOfTwo$Shown"
  | 4 => .object "RowsOfTwo$Fills"
  | 5 => .int
  | 6 => .int
  | _ => .int
abbrev wsX100 : List Cond := u_ws RX10 TX10 8
theorem nmX10 : ∀ a, a < 8 → ∀ b, b < 8 → a ≠ b → (TX10 a).2.1 ≠ (TX10 b).2.1 := by decide +kernel
theorem tyX10_ok : ∀ k, k < 8 → parseFieldDescriptor (TX10 k).2.2.1 = some (tyX10 k) := by decide +kernel
abbrev cX10_init : ByteArray := prog_1_method_1_code
def yX10_init : MethodName := ⟨RX10, "<init>", "()V"⟩
abbrev cX10_sign : ByteArray := prog_1_method_2_code
def yX10_sign : MethodName := ⟨RX10, "sign", "(II)I"⟩
abbrev cX10_read : ByteArray := prog_1_method_3_code
def yX10_read : MethodName := ⟨RX10, "read", "(II)I"⟩
abbrev cX10_clear : ByteArray := prog_1_method_4_code
def yX10_clear : MethodName := ⟨RX10, "clear", "(I)I"⟩
abbrev cX10_at : ByteArray := prog_1_method_5_code
def yX10_at : MethodName := ⟨RX10, "at", "(II)I"⟩
abbrev cX10_set : ByteArray := prog_1_method_6_code
def yX10_set : MethodName := ⟨RX10, "set", "(II)I"⟩
abbrev cX10_shows : ByteArray := prog_1_method_7_code
def yX10_shows : MethodName := ⟨RX10, "shows", "(II)I"⟩
abbrev cX10_type : ByteArray := prog_1_method_8_code
def yX10_type : MethodName := ⟨RX10, "type", "(I)I"⟩
abbrev cX10_wipe : ByteArray := prog_1_method_9_code
def yX10_wipe : MethodName := ⟨RX10, "wipe", "()I"⟩
abbrev cX10_fault : ByteArray := prog_1_method_10_code
def yX10_fault : MethodName := ⟨RX10, "fault", "()I"⟩
abbrev cX10_holds : ByteArray := prog_1_method_11_code
def yX10_holds : MethodName := ⟨RX10, "holds", "(I)I"⟩
abbrev cX10_shown : ByteArray := prog_1_method_12_code
def yX10_shown : MethodName := ⟨RX10, "shown", "(II)I"⟩
abbrev cX10_nth : ByteArray := prog_1_method_13_code
def yX10_nth : MethodName := ⟨RX10, "nth", "(II)I"⟩
abbrev cX10_share : ByteArray := prog_1_method_14_code
def yX10_share : MethodName := ⟨RX10, "share", "(II)J"⟩
abbrev cX10_fills : ByteArray := prog_1_method_15_code
def yX10_fills : MethodName := ⟨RX10, "fills", "(II)I"⟩
abbrev cX10_filled : ByteArray := prog_1_method_16_code
def yX10_filled : MethodName := ⟨RX10, "filled", "(II)J"⟩
abbrev cX10_sure : ByteArray := prog_1_method_17_code
def yX10_sure : MethodName := ⟨RX10, "sure", "(II)I"⟩
abbrev cX10_dealt : ByteArray := prog_1_method_18_code
def yX10_dealt : MethodName := ⟨RX10, "dealt", "(IIZ)I"⟩
abbrev cX10_strangest : ByteArray := prog_1_method_19_code
def yX10_strangest : MethodName := ⟨RX10, "strangest", "(I)I"⟩
abbrev cX10_hot : ByteArray := prog_1_method_20_code
def yX10_hot : MethodName := ⟨RX10, "hot", "(III)J"⟩
abbrev cX10_already : ByteArray := prog_1_method_21_code
def yX10_already : MethodName := ⟨RX10, "already", "(III)J"⟩
abbrev cX10_waits : ByteArray := prog_1_method_22_code
def yX10_waits : MethodName := ⟨RX10, "waits", "(I)J"⟩
abbrev cX10_first : ByteArray := prog_1_method_23_code
def yX10_first : MethodName := ⟨RX10, "first", "(III)J"⟩
abbrev cX10_agree : ByteArray := prog_1_method_24_code
def yX10_agree : MethodName := ⟨RX10, "agree", "(III)I"⟩
abbrev cX10_twice : ByteArray := prog_1_method_25_code
def yX10_twice : MethodName := ⟨RX10, "twice", "(I)I"⟩
abbrev cX10_next : ByteArray := prog_1_method_26_code
def yX10_next : MethodName := ⟨RX10, "next", "(III)I"⟩
abbrev cX10_sheet : ByteArray := prog_1_method_27_code
def yX10_sheet : MethodName := ⟨RX10, "sheet", "(III)I"⟩
abbrev cX10_lose : ByteArray := prog_1_method_28_code
def yX10_lose : MethodName := ⟨RX10, "lose", "(I)I"⟩
abbrev cX10_put : ByteArray := prog_1_method_29_code
def yX10_put : MethodName := ⟨RX10, "put", "(IIII)I"⟩
abbrev cX10_get : ByteArray := prog_1_method_30_code
def yX10_get : MethodName := ⟨RX10, "get", "(III)I"⟩
abbrev cX10_copy : ByteArray := prog_1_method_31_code
def yX10_copy : MethodName := ⟨RX10, "copy", "(IIIII)I"⟩
abbrev cX10_write : ByteArray := prog_1_method_32_code
def yX10_write : MethodName := ⟨RX10, "write", "(II)I"⟩
abbrev cX10_count : ByteArray := prog_1_method_33_code
def yX10_count : MethodName := ⟨RX10, "count", "(I)I"⟩
abbrev cX10_digest : ByteArray := prog_1_method_34_code
def yX10_digest : MethodName := ⟨RX10, "digest", "()J"⟩
abbrev cX10_isRow : ByteArray := prog_1_method_35_code
def yX10_isRow : MethodName := ⟨RX10, "isRow", "(I)Z"⟩
abbrev cX10_isSheet : ByteArray := prog_1_method_36_code
def yX10_isSheet : MethodName := ⟨RX10, "isSheet", "(I)Z"⟩
abbrev cX10_isType : ByteArray := prog_1_method_37_code
def yX10_isType : MethodName := ⟨RX10, "isType", "(I)Z"⟩
abbrev cX10_isNumber : ByteArray := prog_1_method_38_code
def yX10_isNumber : MethodName := ⟨RX10, "isNumber", "(I)Z"⟩
abbrev cX10_isLength : ByteArray := prog_1_method_39_code
def yX10_isLength : MethodName := ⟨RX10, "isLength", "(I)Z"⟩
abbrev cX10_isPart : ByteArray := prog_1_method_40_code
def yX10_isPart : MethodName := ⟨RX10, "isPart", "(I)Z"⟩
abbrev cX10_isBehind : ByteArray := prog_1_method_41_code
def yX10_isBehind : MethodName := ⟨RX10, "isBehind", "(I)Z"⟩
abbrev cX10_isFirstTold : ByteArray := prog_1_method_42_code
def yX10_isFirstTold : MethodName := ⟨RX10, "isFirstTold", "(I)Z"⟩
abbrev cX10_refusal : ByteArray := prog_1_method_43_code
def yX10_refusal : MethodName := ⟨RX10, "refusal", "(I)J"⟩
abbrev cX10_found : ByteArray := prog_1_method_44_code
def yX10_found : MethodName := ⟨RX10, "found", "(I)I"⟩
abbrev cX10_refusesItem : ByteArray := prog_1_method_45_code
def yX10_refusesItem : MethodName := ⟨RX10, "refusesItem", "(III)I"⟩
abbrev cX10_numberOf : ByteArray := prog_1_method_46_code
def yX10_numberOf : MethodName := ⟨RX10, "numberOf", "(LRowsOfTwo$Row;I)I"⟩
abbrev cX10_dealtAsFar : ByteArray := prog_1_method_47_code
def yX10_dealtAsFar : MethodName := ⟨RX10, "dealtAsFar", "(LRowsOfTwo$Row;IZ)I"⟩
abbrev cX10_millionths : ByteArray := prog_1_method_48_code
def yX10_millionths : MethodName := ⟨RX10, "millionths", "(II)I"⟩
abbrev cX10_backwards : ByteArray := prog_1_method_49_code
def yX10_backwards : MethodName := ⟨RX10, "backwards", "(II)I"⟩
abbrev cX10_wholeRows : ByteArray := prog_1_method_50_code
def yX10_wholeRows : MethodName := ⟨RX10, "wholeRows", "()I"⟩
def RX11 : String := "RowsOfTwoModel"
def TX11 : u_T := fun k => match k with
  | 0 => ("RowsOfTwoModel", "sizes", "[I", true)
  | 1 => ("RowsOfTwoModel", "signs", "[I", true)
  | 2 => ("RowsOfTwoModel", "odds", "I", false)
  | 3 => ("RowsOfTwoModel", "pattern", "I", false)
  | 4 => ("RowsOfTwoModel", "typed", "I", false)
  | 5 => ("RowsOfTwoModel", "text", "[I", true)
  | 6 => ("RowsOfTwoModel", "at", "I", false)
  | 7 => ("RowsOfTwoModel", "fault", "I", false)
  | 8 => ("RowsOfTwoModel", "tests", "I", false)
  | 9 => ("RowsOfTwoModel", "testNumber", "[I", true)
  | 10 => ("RowsOfTwoModel", "testSign", "[I", true)
  | 11 => ("RowsOfTwoModel", "testValue", "[I", true)
  | 12 => ("RowsOfTwoModel", "testBegins", "[Z", true)
  | 13 => ("RowsOfTwoModel", "isRead", "Z", false)
  | 14 => ("RowsOfTwoModel", "unseen", "[I", true)
  | 15 => ("RowsOfTwoModel", "unseenMany", "I", false)
  | 16 => ("RowsOfTwoModel", "behindAll", "I", false)
  | 17 => ("RowsOfTwoModel", "behindHits", "I", false)
  | 18 => ("RowsOfTwoModel", "isThere", "[Z", true)
  | 19 => ("RowsOfTwoModel", "types", "[I", true)
  | 20 => ("RowsOfTwoModel", "held", "[I", true)
  | 21 => ("RowsOfTwoModel", "items", "[I", true)
  | 22 => ("RowsOfTwoModel", "moved", "[I", true)
  | _ => ("RowsOfTwoModel", "finding", "I", false)
def tyX11 : Nat → FieldType := fun k => match k with
  | 0 => .array .int
  | 1 => .array .int
  | 2 => .int
  | 3 => .int
  | 4 => .int
  | 5 => .array .int
  | 6 => .int
  | 7 => .int
  | 8 => .int
  | 9 => .array .int
  | 10 => .array .int
  | 11 => .array .int
  | 12 => .array .boolean
  | 13 => .boolean
  | 14 => .array .int
  | 15 => .int
  | 16 => .int
  | 17 => .int
  | 18 => .array .boolean
  | 19 => .array .int
  | 20 => .array .int
  | 21 => .array .int
  | 22 => .array .int
  | _ => .int
abbrev wsX110 : List Cond := u_ws RX11 TX11 24
theorem nmX11 : ∀ a, a < 24 → ∀ b, b < 24 → a ≠ b → (TX11 a).2.1 ≠ (TX11 b).2.1 := by decide +kernel
theorem tyX11_ok : ∀ k, k < 24 → parseFieldDescriptor (TX11 k).2.2.1 = some (tyX11 k) := by decide +kernel
abbrev cX11_init : ByteArray := prog_13_method_1_code
def yX11_init : MethodName := ⟨RX11, "<init>", "()V"⟩
abbrev cX11_in : ByteArray := prog_13_method_3_code
def yX11_in : MethodName := ⟨RX11, "in", "(III)Z"⟩
abbrev cX11_no : ByteArray := prog_13_method_4_code
def yX11_no : MethodName := ⟨RX11, "no", "(I)J"⟩
abbrev cX11_lowest : ByteArray := prog_13_method_5_code
def yX11_lowest : MethodName := ⟨RX11, "lowest", "(JJI)J"⟩
abbrev cX11_power : ByteArray := prog_13_method_6_code
def yX11_power : MethodName := ⟨RX11, "power", "(JI)J"⟩
abbrev cX11_ones : ByteArray := prog_13_method_7_code
def yX11_ones : MethodName := ⟨RX11, "ones", "(I)I"⟩
abbrev cX11_isRow : ByteArray := prog_13_method_8_code
def yX11_isRow : MethodName := ⟨RX11, "isRow", "(I)Z"⟩
abbrev cX11_puts : ByteArray := prog_13_method_9_code
def yX11_puts : MethodName := ⟨RX11, "puts", "(II)I"⟩
abbrev cX11_sign : ByteArray := prog_13_method_10_code
def yX11_sign : MethodName := ⟨RX11, "sign", "(II)I"⟩
abbrev cX11_read : ByteArray := prog_13_method_11_code
def yX11_read : MethodName := ⟨RX11, "read", "(II)I"⟩
abbrev cX11_clear : ByteArray := prog_13_method_12_code
def yX11_clear : MethodName := ⟨RX11, "clear", "(I)I"⟩
abbrev cX11_at : ByteArray := prog_13_method_13_code
def yX11_at : MethodName := ⟨RX11, "at", "(II)I"⟩
abbrev cX11_set : ByteArray := prog_13_method_14_code
def yX11_set : MethodName := ⟨RX11, "set", "(II)I"⟩
abbrev cX11_isWhole : ByteArray := prog_13_method_15_code
def yX11_isWhole : MethodName := ⟨RX11, "isWhole", "(I)Z"⟩
abbrev cX11_bitsOf : ByteArray := prog_13_method_16_code
def yX11_bitsOf : MethodName := ⟨RX11, "bitsOf", "(I)I"⟩
abbrev cX11_lengthOf : ByteArray := prog_13_method_17_code
def yX11_lengthOf : MethodName := ⟨RX11, "lengthOf", "(I)I"⟩
abbrev cX11_standing : ByteArray := prog_13_method_18_code
def yX11_standing : MethodName := ⟨RX11, "standing", "(II)I"⟩
abbrev cX11_numberOf : ByteArray := prog_13_method_19_code
def yX11_numberOf : MethodName := ⟨RX11, "numberOf", "(III)I"⟩
abbrev cX11_showsNow : ByteArray := prog_13_method_20_code
def yX11_showsNow : MethodName := ⟨RX11, "showsNow", "(II)I"⟩
abbrev cX11_shows : ByteArray := prog_13_method_21_code
def yX11_shows : MethodName := ⟨RX11, "shows", "(II)I"⟩
abbrev cX11_type : ByteArray := prog_13_method_22_code
def yX11_type : MethodName := ⟨RX11, "type", "(I)I"⟩
abbrev cX11_wipe : ByteArray := prog_13_method_23_code
def yX11_wipe : MethodName := ⟨RX11, "wipe", "()I"⟩
abbrev cX11_byteNow : ByteArray := prog_13_method_24_code
def yX11_byteNow : MethodName := ⟨RX11, "byteNow", "()I"⟩
abbrev cX11_numberBy : ByteArray := prog_13_method_25_code
def yX11_numberBy : MethodName := ⟨RX11, "numberBy", "(I)I"⟩
abbrev cX11_test : ByteArray := prog_13_method_26_code
def yX11_test : MethodName := ⟨RX11, "test", "(Z)V"⟩
abbrev cX11_faultNow : ByteArray := prog_13_method_27_code
def yX11_faultNow : MethodName := ⟨RX11, "faultNow", "()I"⟩
abbrev cX11_fault : ByteArray := prog_13_method_28_code
def yX11_fault : MethodName := ⟨RX11, "fault", "()I"⟩
abbrev cX11_does : ByteArray := prog_13_method_29_code
def yX11_does : MethodName := ⟨RX11, "does", "(II)Z"⟩
abbrev cX11_holds : ByteArray := prog_13_method_30_code
def yX11_holds : MethodName := ⟨RX11, "holds", "(I)I"⟩
abbrev cX11_shownNow : ByteArray := prog_13_method_31_code
def yX11_shownNow : MethodName := ⟨RX11, "shownNow", "(II)I"⟩
abbrev cX11_shown : ByteArray := prog_13_method_32_code
def yX11_shown : MethodName := ⟨RX11, "shown", "(II)I"⟩
abbrev cX11_nth : ByteArray := prog_13_method_33_code
def yX11_nth : MethodName := ⟨RX11, "nth", "(II)I"⟩
abbrev cX11_share : ByteArray := prog_13_method_34_code
def yX11_share : MethodName := ⟨RX11, "share", "(II)J"⟩
abbrev cX11_gathers : ByteArray := prog_13_method_35_code
def yX11_gathers : MethodName := ⟨RX11, "gathers", "(I)V"⟩
abbrev cX11_fill : ByteArray := prog_13_method_36_code
def yX11_fill : MethodName := ⟨RX11, "fill", "(II)I"⟩
abbrev cX11_fills : ByteArray := prog_13_method_37_code
def yX11_fills : MethodName := ⟨RX11, "fills", "(II)I"⟩
abbrev cX11_filled : ByteArray := prog_13_method_38_code
def yX11_filled : MethodName := ⟨RX11, "filled", "(II)J"⟩
abbrev cX11_sure : ByteArray := prog_13_method_39_code
def yX11_sure : MethodName := ⟨RX11, "sure", "(II)I"⟩
abbrev cX11_dealtMany : ByteArray := prog_13_method_40_code
def yX11_dealtMany : MethodName := ⟨RX11, "dealtMany", "(IIZ)I"⟩
abbrev cX11_choose : ByteArray := prog_13_method_41_code
def yX11_choose : MethodName := ⟨RX11, "choose", "(II)J"⟩
abbrev cX11_dealtAll : ByteArray := prog_13_method_42_code
def yX11_dealtAll : MethodName := ⟨RX11, "dealtAll", "(I)J"⟩
abbrev cX11_dealt : ByteArray := prog_13_method_43_code
def yX11_dealt : MethodName := ⟨RX11, "dealt", "(IIZ)I"⟩
abbrev cX11_strangest : ByteArray := prog_13_method_44_code
def yX11_strangest : MethodName := ⟨RX11, "strangest", "(I)I"⟩
abbrev cX11_behind : ByteArray := prog_13_method_45_code
def yX11_behind : MethodName := ⟨RX11, "behind", "(III)V"⟩
abbrev cX11_hot : ByteArray := prog_13_method_46_code
def yX11_hot : MethodName := ⟨RX11, "hot", "(III)J"⟩
abbrev cX11_already : ByteArray := prog_13_method_47_code
def yX11_already : MethodName := ⟨RX11, "already", "(III)J"⟩
abbrev cX11_oddsOf : ByteArray := prog_13_method_48_code
def yX11_oddsOf : MethodName := ⟨RX11, "oddsOf", "(II)J"⟩
abbrev cX11_overlaps : ByteArray := prog_13_method_49_code
def yX11_overlaps : MethodName := ⟨RX11, "overlaps", "(III)Z"⟩
abbrev cX11_lead : ByteArray := prog_13_method_50_code
def yX11_lead : MethodName := ⟨RX11, "lead", "(II)J"⟩
abbrev cX11_waitsNow : ByteArray := prog_13_method_51_code
def yX11_waitsNow : MethodName := ⟨RX11, "waitsNow", "(I)J"⟩
abbrev cX11_waits : ByteArray := prog_13_method_52_code
def yX11_waits : MethodName := ⟨RX11, "waits", "(I)J"⟩
abbrev cX11_stands : ByteArray := prog_13_method_53_code
def yX11_stands : MethodName := ⟨RX11, "stands", "(II)Z"⟩
abbrev cX11_first : ByteArray := prog_13_method_54_code
def yX11_first : MethodName := ⟨RX11, "first", "(III)J"⟩
abbrev cX11_agree : ByteArray := prog_13_method_55_code
def yX11_agree : MethodName := ⟨RX11, "agree", "(III)I"⟩
abbrev cX11_twice : ByteArray := prog_13_method_56_code
def yX11_twice : MethodName := ⟨RX11, "twice", "(I)I"⟩
abbrev cX11_next : ByteArray := prog_13_method_57_code
def yX11_next : MethodName := ⟨RX11, "next", "(III)I"⟩
abbrev cX11_meets : ByteArray := prog_13_method_58_code
def yX11_meets : MethodName := ⟨RX11, "meets", "(I)I"⟩
abbrev cX11_isSheet : ByteArray := prog_13_method_59_code
def yX11_isSheet : MethodName := ⟨RX11, "isSheet", "(I)Z"⟩
abbrev cX11_sheet : ByteArray := prog_13_method_60_code
def yX11_sheet : MethodName := ⟨RX11, "sheet", "(III)I"⟩
abbrev cX11_lose : ByteArray := prog_13_method_61_code
def yX11_lose : MethodName := ⟨RX11, "lose", "(I)I"⟩
abbrev cX11_lacks : ByteArray := prog_13_method_62_code
def yX11_lacks : MethodName := ⟨RX11, "lacks", "(III)I"⟩
abbrev cX11_keep : ByteArray := prog_13_method_63_code
def yX11_keep : MethodName := ⟨RX11, "keep", "(III)V"⟩
abbrev cX11_put : ByteArray := prog_13_method_64_code
def yX11_put : MethodName := ⟨RX11, "put", "(IIII)I"⟩
abbrev cX11_get : ByteArray := prog_13_method_65_code
def yX11_get : MethodName := ⟨RX11, "get", "(III)I"⟩
abbrev cX11_copy : ByteArray := prog_13_method_66_code
def yX11_copy : MethodName := ⟨RX11, "copy", "(IIIII)I"⟩
abbrev cX11_write : ByteArray := prog_13_method_67_code
def yX11_write : MethodName := ⟨RX11, "write", "(II)I"⟩
abbrev cX11_wholeOnes : ByteArray := prog_13_method_68_code
def yX11_wholeOnes : MethodName := ⟨RX11, "wholeOnes", "()I"⟩
abbrev cX11_count : ByteArray := prog_13_method_69_code
def yX11_count : MethodName := ⟨RX11, "count", "(I)I"⟩
abbrev cX11_digest : ByteArray := prog_13_method_70_code
def yX11_digest : MethodName := ⟨RX11, "digest", "()J"⟩
def RJ11 : String := "java/lang/Character"
def TJ11 : u_T := fun k => match k with
  | _ => ("", "", "", false)
def tyJ11 : Nat → FieldType := fun k => match k with
  | _ => .int
abbrev wsJ110 : List Cond := u_ws RJ11 TJ11 0
theorem nmJ11 : ∀ a, a < 0 → ∀ b, b < 0 → a ≠ b → (TJ11 a).2.1 ≠ (TJ11 b).2.1 := by decide +kernel
theorem tyJ11_ok : ∀ k, k < 0 → parseFieldDescriptor (TJ11 k).2.2.1 = some (tyJ11 k) := by decide +kernel
abbrev cJ11_isValidCodePoint_9a6ad : ByteArray := prog_14_method_11_code
def yJ11_isValidCodePoint_9a6ad : MethodName := ⟨RJ11, "isValidCodePoint", "(I)Z"⟩
abbrev cJ11_highSurrogate_5068e : ByteArray := prog_14_method_28_code
def yJ11_highSurrogate_5068e : MethodName := ⟨RJ11, "highSurrogate", "(I)C"⟩
abbrev cJ11_lowSurrogate_5068e : ByteArray := prog_14_method_29_code
def yJ11_lowSurrogate_5068e : MethodName := ⟨RJ11, "lowSurrogate", "(I)C"⟩
def RJ6 : String := "java/lang/Integer"
def TJ6 : u_T := fun k => match k with
  | _ => ("", "", "", false)
def tyJ6 : Nat → FieldType := fun k => match k with
  | _ => .int
abbrev wsJ60 : List Cond := u_ws RJ6 TJ6 0
theorem nmJ6 : ∀ a, a < 0 → ∀ b, b < 0 → a ≠ b → (TJ6 a).2.1 ≠ (TJ6 b).2.1 := by decide +kernel
theorem tyJ6_ok : ∀ k, k < 0 → parseFieldDescriptor (TJ6 k).2.2.1 = some (tyJ6 k) := by decide +kernel
abbrev cJ6_bitCount_0f7a4 : ByteArray := prog_15_method_49_code
def yJ6_bitCount_0f7a4 : MethodName := ⟨RJ6, "bitCount", "(I)I"⟩
def RJ9 : String := "java/lang/Math"
def TJ9 : u_T := fun k => match k with
  | _ => ("", "", "", false)
def tyJ9 : Nat → FieldType := fun k => match k with
  | _ => .int
abbrev wsJ90 : List Cond := u_ws RJ9 TJ9 0
theorem nmJ9 : ∀ a, a < 0 → ∀ b, b < 0 → a ≠ b → (TJ9 a).2.1 ≠ (TJ9 b).2.1 := by decide +kernel
theorem tyJ9_ok : ∀ k, k < 0 → parseFieldDescriptor (TJ9 k).2.2.1 = some (tyJ9 k) := by decide +kernel
abbrev cJ9_max_7cf53 : ByteArray := prog_16_method_65_code
def yJ9_max_7cf53 : MethodName := ⟨RJ9, "max", "(II)I"⟩
abbrev cJ9_min_7cf53 : ByteArray := prog_16_method_69_code
def yJ9_min_7cf53 : MethodName := ⟨RJ9, "min", "(II)I"⟩
def RJ0 : String := "java/lang/String"
def TJ0 : u_T := fun k => match k with
  | _ => ("", "", "", false)
def tyJ0 : Nat → FieldType := fun k => match k with
  | _ => .int
abbrev wsJ00 : List Cond := u_ws RJ0 TJ0 0
theorem nmJ0 : ∀ a, a < 0 → ∀ b, b < 0 → a ≠ b → (TJ0 a).2.1 ≠ (TJ0 b).2.1 := by decide +kernel
theorem tyJ0_ok : ∀ k, k < 0 → parseFieldDescriptor (TJ0 k).2.2.1 = some (tyJ0 k) := by decide +kernel
abbrev cJ0_length_8abf5 : ByteArray := prog_17_method_54_code
def yJ0_length_8abf5 : MethodName := ⟨RJ0, "length", "()I"⟩
abbrev cJ0_indexOf_0f7a4 : ByteArray := prog_17_method_79_code
def yJ0_indexOf_0f7a4 : MethodName := ⟨RJ0, "indexOf", "(I)I"⟩
abbrev cJ0_indexOf_7cf53 : ByteArray := prog_17_method_80_code
def yJ0_indexOf_7cf53 : MethodName := ⟨RJ0, "indexOf", "(II)I"⟩
abbrev cJ0_coder_7d493 : ByteArray := prog_17_method_152_code
def yJ0_coder_7d493 : MethodName := ⟨RJ0, "coder", "()B"⟩
abbrev cJ0_isLatin1_aae02 : ByteArray := prog_17_method_154_code
def yJ0_isLatin1_aae02 : MethodName := ⟨RJ0, "isLatin1", "()Z"⟩
abbrev cJ0_checkBoundsBeginEnd_23922 : ByteArray := prog_17_method_158_code
def yJ0_checkBoundsBeginEnd_23922 : MethodName := ⟨RJ0, "checkBoundsBeginEnd", "(III)V"⟩
def RJ1 : String := "java/lang/StringLatin1"
def TJ1 : u_T := fun k => match k with
  | _ => ("", "", "", false)
def tyJ1 : Nat → FieldType := fun k => match k with
  | _ => .int
abbrev wsJ10 : List Cond := u_ws RJ1 TJ1 0
theorem nmJ1 : ∀ a, a < 0 → ∀ b, b < 0 → a ≠ b → (TJ1 a).2.1 ≠ (TJ1 b).2.1 := by decide +kernel
theorem tyJ1_ok : ∀ k, k < 0 → parseFieldDescriptor (TJ1 k).2.2.1 = some (tyJ1 k) := by decide +kernel
abbrev cJ1_canEncode_9a6ad : ByteArray := prog_18_method_4_code
def yJ1_canEncode_9a6ad : MethodName := ⟨RJ1, "canEncode", "(I)Z"⟩
abbrev cJ1_indexOf_4cfef : ByteArray := prog_18_method_22_code
def yJ1_indexOf_4cfef : MethodName := ⟨RJ1, "indexOf", "([BIII)I"⟩
abbrev cJ1_indexOfChar_4cfef : ByteArray := prog_18_method_23_code
def yJ1_indexOfChar_4cfef : MethodName := ⟨RJ1, "indexOfChar", "([BIII)I"⟩
def RJ2 : String := "java/lang/StringUTF16"
def TJ2 : u_T := fun k => match k with
  | _ => ("", "", "", false)
def tyJ2 : Nat → FieldType := fun k => match k with
  | _ => .int
abbrev wsJ20 : List Cond := u_ws RJ2 TJ2 0
theorem nmJ2 : ∀ a, a < 0 → ∀ b, b < 0 → a ≠ b → (TJ2 a).2.1 ≠ (TJ2 b).2.1 := by decide +kernel
theorem tyJ2_ok : ∀ k, k < 0 → parseFieldDescriptor (TJ2 k).2.2.1 = some (tyJ2 k) := by decide +kernel
abbrev cJ2_getChar_3b067 : ByteArray := prog_19_method_5_code
def yJ2_getChar_3b067 : MethodName := ⟨RJ2, "getChar", "([BI)C"⟩
abbrev cJ2_length_9d52b : ByteArray := prog_19_method_6_code
def yJ2_length_9d52b : MethodName := ⟨RJ2, "length", "([B)I"⟩
abbrev cJ2_indexOf_4cfef : ByteArray := prog_19_method_40_code
def yJ2_indexOf_4cfef : MethodName := ⟨RJ2, "indexOf", "([BIII)I"⟩
abbrev cJ2_indexOfChar_4cfef : ByteArray := prog_19_method_47_code
def yJ2_indexOfChar_4cfef : MethodName := ⟨RJ2, "indexOfChar", "([BIII)I"⟩
abbrev cJ2_indexOfCharUnsafe_4cfef : ByteArray := prog_19_method_48_code
def yJ2_indexOfCharUnsafe_4cfef : MethodName := ⟨RJ2, "indexOfCharUnsafe", "([BIII)I"⟩
abbrev cJ2_indexOfSupplementary_4cfef : ByteArray := prog_19_method_49_code
def yJ2_indexOfSupplementary_4cfef : MethodName := ⟨RJ2, "indexOfSupplementary", "([BIII)I"⟩
abbrev cJ2_checkBoundsBeginEnd_d044e : ByteArray := prog_19_method_93_code
def yJ2_checkBoundsBeginEnd_d044e : MethodName := ⟨RJ2, "checkBoundsBeginEnd", "(II[B)V"⟩
def RJ10 : String := "java/lang/System"
def TJ10 : u_T := fun k => match k with
  | _ => ("", "", "", false)
def tyJ10 : Nat → FieldType := fun k => match k with
  | _ => .int
abbrev wsJ100 : List Cond := u_ws RJ10 TJ10 0
theorem nmJ10 : ∀ a, a < 0 → ∀ b, b < 0 → a ≠ b → (TJ10 a).2.1 ≠ (TJ10 b).2.1 := by decide +kernel
theorem tyJ10_ok : ∀ k, k < 0 → parseFieldDescriptor (TJ10 k).2.2.1 = some (tyJ10 k) := by decide +kernel
def RJ3 : String := "jdk/internal/util/Preconditions"
def TJ3 : u_T := fun k => match k with
  | _ => ("", "", "", false)
def tyJ3 : Nat → FieldType := fun k => match k with
  | _ => .int
abbrev wsJ30 : List Cond := u_ws RJ3 TJ3 0
theorem nmJ3 : ∀ a, a < 0 → ∀ b, b < 0 → a ≠ b → (TJ3 a).2.1 ≠ (TJ3 b).2.1 := by decide +kernel
theorem tyJ3_ok : ∀ k, k < 0 → parseFieldDescriptor (TJ3 k).2.2.1 = some (tyJ3 k) := by decide +kernel
abbrev cJ3_checkFromToIndex_8c36e : ByteArray := prog_21_method_12_code
def yJ3_checkFromToIndex_8c36e : MethodName := ⟨RJ3, "checkFromToIndex", "(IIILjava/util/function/BiFunction;)I"⟩
def RL : String := "RowsOfTwoLaw"
abbrev cL_law : ByteArray := code
def yL_law : MethodName := ⟨RL, "law", "([I)Z"⟩
def wsX0_init : List Cond := .code yX0_init cX0_init 1 none :: ([.methodLink RX0 3 objectInit, .instanceMethod objectInit, .code objectInit ⟨#[0xb1]⟩ 1 none, .arrayClass .int, .fieldLink RX0 9 "RowsOfTwo$Fills" "tally" "[I"] ++ wsX00)
def wsJ6_bitCount_0f7a4 : List Cond := .code yJ6_bitCount_0f7a4 cJ6_bitCount_0f7a4 1 (some .int) :: ([.constant RJ6 265 (1431655765), .constant RJ6 266 (858993459), .constant RJ6 267 (252645135)])
def wsX3_runs : List Cond := .code yX3_runs cX3_runs 3 (some .int) :: ([.methodLink RX3 9 yJ6_bitCount_0f7a4, .static yJ6_bitCount_0f7a4, .initialized RJ6, .code yJ6_bitCount_0f7a4 cJ6_bitCount_0f7a4 1 (some .int), .constant RJ6 265 (1431655765), .constant RJ6 266 (858993459), .constant RJ6 267 (252645135)])
def wsX3_longestRun : List Cond := .code yX3_longestRun cX3_longestRun 3 (some .int) :: ([])
def wsX3_firstHit : List Cond := .code yX3_firstHit cX3_firstHit 3 (some .int) :: ([])
def wsX4_lengthOf : List Cond := .code yX4_lengthOf cX4_lengthOf 2 (some .int) :: ([])
def wsX4_timesIn : List Cond := .code yX4_timesIn cX4_timesIn 7 (some .int) :: ([.methodLink RX4 11 yX4_lengthOf, .static yX4_lengthOf, .initialized RX4, .code yX4_lengthOf cX4_lengthOf 2 (some .int), .methodLink RX4 15 yJ6_bitCount_0f7a4, .static yJ6_bitCount_0f7a4, .initialized RJ6, .code yJ6_bitCount_0f7a4 cJ6_bitCount_0f7a4 1 (some .int), .constant RJ6 265 (1431655765), .constant RJ6 266 (858993459), .constant RJ6 267 (252645135)])
def wsX3_measure_r1 : List Cond := [Cond.methodLink RX3 24 Lib.Math.max.name, Cond.static Lib.Math.max.name, Cond.initialized "java/lang/Math", Cond.code Lib.Math.max.name Lib.Math.max.code 2 (some .int), Cond.methodLink RX3 9 yJ6_bitCount_0f7a4, Cond.static yJ6_bitCount_0f7a4, Cond.initialized RJ6, Cond.code yJ6_bitCount_0f7a4 cJ6_bitCount_0f7a4 1 (some .int), Cond.constant RJ6 265 (1431655765), Cond.constant RJ6 266 (858993459), Cond.constant RJ6 267 (252645135), Cond.methodLink RX3 15 yX3_runs, Cond.static yX3_runs, Cond.initialized RX3, Cond.code yX3_runs cX3_runs 3 (some .int), Cond.methodLink RX3 21 yX3_longestRun, Cond.static yX3_longestRun, Cond.code yX3_longestRun cX3_longestRun 3 (some .int), Cond.methodLink RX3 29 yX3_firstHit, Cond.static yX3_firstHit, Cond.code yX3_firstHit cX3_firstHit 3 (some .int), Cond.methodLink RX3 32 yX4_timesIn, Cond.static yX4_timesIn, Cond.initialized RX4]
def wsX3_measure_r2 : List Cond := [Cond.code yX4_timesIn cX4_timesIn 7 (some .int), Cond.methodLink RX4 11 yX4_lengthOf, Cond.static yX4_lengthOf, Cond.code yX4_lengthOf cX4_lengthOf 2 (some .int), Cond.methodLink RX4 15 yJ6_bitCount_0f7a4]
def wsX3_measure : List Cond := .code yX3_measure cX3_measure 4 (some .int) :: ((wsX3_measure_r1 ++ wsX3_measure_r2))
def wsX6_isDone : List Cond := .code yX6_isDone cX6_isDone 3 (some .boolean) :: ([.fieldLink RX6 25 "RowsOfTwo$Sentences" "measured" "[I", .fieldLink RX6 11 "RowsOfTwo$Sentences" "letters" "[I", .fieldLink RX6 15 "RowsOfTwo$Sentences" "relations" "[I", .fieldLink RX6 18 "RowsOfTwo$Sentences" "limits" "[I"] ++ wsX60)
def wsX6_hold_r1 : List Cond := [Cond.fieldLink RX6 35 "RowsOfTwo$Sentences" "tests" "I", Cond.fieldLink RX6 21 "RowsOfTwo$Sentences" "opensAlternative" "[Z", Cond.fieldLink RX6 11 "RowsOfTwo$Sentences" "letters" "[I", Cond.fieldLink RX6 25 "RowsOfTwo$Sentences" "measured" "[I", Cond.methodLink RX6 72 yX3_measure, Cond.static yX3_measure, Cond.initialized RX3, Cond.code yX3_measure cX3_measure 4 (some .int), Cond.methodLink RX3 24 Lib.Math.max.name, Cond.static Lib.Math.max.name, Cond.initialized "java/lang/Math", Cond.code Lib.Math.max.name Lib.Math.max.code 2 (some .int), Cond.methodLink RX3 9 yJ6_bitCount_0f7a4, Cond.static yJ6_bitCount_0f7a4, Cond.initialized RJ6, Cond.code yJ6_bitCount_0f7a4 cJ6_bitCount_0f7a4 1 (some .int), Cond.constant RJ6 265 (1431655765), Cond.constant RJ6 266 (858993459), Cond.constant RJ6 267 (252645135), Cond.methodLink RX3 15 yX3_runs, Cond.static yX3_runs, Cond.code yX3_runs cX3_runs 3 (some .int), Cond.methodLink RX3 21 yX3_longestRun, Cond.static yX3_longestRun]
def wsX6_hold_r2 : List Cond := [Cond.code yX3_longestRun cX3_longestRun 3 (some .int), Cond.methodLink RX3 29 yX3_firstHit, Cond.static yX3_firstHit, Cond.code yX3_firstHit cX3_firstHit 3 (some .int), Cond.methodLink RX3 32 yX4_timesIn, Cond.static yX4_timesIn, Cond.initialized RX4, Cond.code yX4_timesIn cX4_timesIn 7 (some .int), Cond.methodLink RX4 11 yX4_lengthOf, Cond.static yX4_lengthOf, Cond.code yX4_lengthOf cX4_lengthOf 2 (some .int), Cond.methodLink RX4 15 yJ6_bitCount_0f7a4, Cond.methodLink RX6 78 yX6_isDone, Cond.instanceMethod yX6_isDone, Cond.selects RX6 yX6_isDone yX6_isDone, Cond.initialized RX6, Cond.code yX6_isDone cX6_isDone 3 (some .boolean), Cond.fieldLink RX6 15 "RowsOfTwo$Sentences" "relations" "[I", Cond.fieldLink RX6 18 "RowsOfTwo$Sentences" "limits" "[I"]
def wsX6_hold : List Cond := .code yX6_hold cX6_hold 8 (some .boolean) :: ((wsX6_hold_r1 ++ wsX6_hold_r2) ++ wsX60)
def wsX0_learn_r1 : List Cond := [Cond.fieldLink RX0 9 "RowsOfTwo$Fills" "tally" "[I", Cond.fieldLink RX0 15 "RowsOfTwo$Fills" "alwaysHit" "I", Cond.fieldLink RX0 19 "RowsOfTwo$Fills" "everHit" "I", Cond.fieldLink RX0 22 "RowsOfTwo$Row" "unseen" "I", Cond.fieldLink RX0 33 "RowsOfTwo$Row" "hits" "I", Cond.fieldLink RX0 36 "RowsOfTwo$Row" "length" "I", Cond.methodLink RX0 27 yJ6_bitCount_0f7a4, Cond.static yJ6_bitCount_0f7a4, Cond.initialized RJ6, Cond.code yJ6_bitCount_0f7a4 cJ6_bitCount_0f7a4 1 (some .int), Cond.constant RJ6 265 (1431655765), Cond.constant RJ6 266 (858993459), Cond.constant RJ6 267 (252645135), Cond.methodLink RX0 39 yX6_hold, Cond.instanceMethod yX6_hold, Cond.selects RX6 yX6_hold yX6_hold, Cond.initialized RX6, Cond.code yX6_hold cX6_hold 8 (some .boolean), Cond.fieldLink RX6 35 "RowsOfTwo$Sentences" "tests" "I", Cond.fieldLink RX6 21 "RowsOfTwo$Sentences" "opensAlternative" "[Z", Cond.fieldLink RX6 11 "RowsOfTwo$Sentences" "letters" "[I", Cond.fieldLink RX6 25 "RowsOfTwo$Sentences" "measured" "[I", Cond.methodLink RX6 72 yX3_measure, Cond.static yX3_measure]
def wsX0_learn_r2 : List Cond := [Cond.initialized RX3, Cond.code yX3_measure cX3_measure 4 (some .int), Cond.methodLink RX3 24 Lib.Math.max.name, Cond.static Lib.Math.max.name, Cond.initialized "java/lang/Math", Cond.code Lib.Math.max.name Lib.Math.max.code 2 (some .int), Cond.methodLink RX3 9 yJ6_bitCount_0f7a4, Cond.methodLink RX3 15 yX3_runs, Cond.static yX3_runs, Cond.code yX3_runs cX3_runs 3 (some .int), Cond.methodLink RX3 21 yX3_longestRun, Cond.static yX3_longestRun, Cond.code yX3_longestRun cX3_longestRun 3 (some .int), Cond.methodLink RX3 29 yX3_firstHit, Cond.static yX3_firstHit, Cond.code yX3_firstHit cX3_firstHit 3 (some .int), Cond.methodLink RX3 32 yX4_timesIn, Cond.static yX4_timesIn, Cond.initialized RX4, Cond.code yX4_timesIn cX4_timesIn 7 (some .int), Cond.methodLink RX4 11 yX4_lengthOf, Cond.static yX4_lengthOf, Cond.code yX4_lengthOf cX4_lengthOf 2 (some .int), Cond.methodLink RX4 15 yJ6_bitCount_0f7a4]
def wsX0_learn_r3 : List Cond := [Cond.methodLink RX6 78 yX6_isDone, Cond.instanceMethod yX6_isDone, Cond.selects RX6 yX6_isDone yX6_isDone, Cond.code yX6_isDone cX6_isDone 3 (some .boolean), Cond.fieldLink RX6 15 "RowsOfTwo$Sentences" "relations" "[I", Cond.fieldLink RX6 18 "RowsOfTwo$Sentences" "limits" "[I"]
def wsX0_learn : List Cond := .code yX0_learn cX0_learn 8 none :: ((wsX0_learn_r1 ++ (wsX0_learn_r2 ++ wsX0_learn_r3)) ++ wsX00 ++ wsX50 ++ wsX60)
def wsX1_commonDivisor : List Cond := .code yX1_commonDivisor cX1_commonDivisor 11 (some .long) :: ([])
def wsX1_part : List Cond := .code yX1_part cX1_part 7 (some .long) :: ([.methodLink RX1 7 yX1_commonDivisor, .static yX1_commonDivisor, .initialized RX1, .code yX1_commonDivisor cX1_commonDivisor 11 (some .long)])
def wsX1_power : List Cond := .code yX1_power cX1_power 6 (some .long) :: ([])
def wsX2_howMany : List Cond := .code yX2_howMany cX2_howMany 4 (some .int) :: ([.fieldLink RX2 7 "RowsOfTwo$Row" "hits" "I", .fieldLink RX2 19 "RowsOfTwo$Row" "length" "I", .methodLink RX2 13 yJ6_bitCount_0f7a4, .static yJ6_bitCount_0f7a4, .initialized RJ6, .code yJ6_bitCount_0f7a4 cJ6_bitCount_0f7a4 1 (some .int), .constant RJ6 265 (1431655765), .constant RJ6 266 (858993459), .constant RJ6 267 (252645135)] ++ wsX50)
def wsX2_lowest : List Cond := .code yX2_lowest cX2_lowest 1 (some .int) :: ([.fieldLink RX2 7 "RowsOfTwo$Row" "hits" "I", .methodLink RX2 13 yJ6_bitCount_0f7a4, .static yJ6_bitCount_0f7a4, .initialized RJ6, .code yJ6_bitCount_0f7a4 cJ6_bitCount_0f7a4 1 (some .int), .constant RJ6 265 (1431655765), .constant RJ6 266 (858993459), .constant RJ6 267 (252645135)] ++ wsX50)
def wsX2_after : List Cond := .code yX2_after cX2_after 3 (some .int) :: ([])
def wsX2_behindHits : List Cond := .code yX2_behindHits cX2_behindHits 4 (some .int) :: ([])
def wsX2_heat : List Cond := .code yX2_heat cX2_heat 3 (some .long) :: ([.constantLong RX2 24 (360360), .methodLink RX2 13 yJ6_bitCount_0f7a4, .static yJ6_bitCount_0f7a4, .initialized RJ6, .code yJ6_bitCount_0f7a4 cJ6_bitCount_0f7a4 1 (some .int), .constant RJ6 265 (1431655765), .constant RJ6 266 (858993459), .constant RJ6 267 (252645135)])
def wsX4_standsIn : List Cond := .code yX4_standsIn cX4_standsIn 3 (some .boolean) :: ([.methodLink RX4 11 yX4_lengthOf, .static yX4_lengthOf, .initialized RX4, .code yX4_lengthOf cX4_lengthOf 2 (some .int), .methodLink RX4 20 yX4_timesIn, .static yX4_timesIn, .code yX4_timesIn cX4_timesIn 7 (some .int), .methodLink RX4 15 yJ6_bitCount_0f7a4, .static yJ6_bitCount_0f7a4, .initialized RJ6, .code yJ6_bitCount_0f7a4 cJ6_bitCount_0f7a4 1 (some .int), .constant RJ6 265 (1431655765), .constant RJ6 266 (858993459), .constant RJ6 267 (252645135)])
def wsX4_chanceParts : List Cond := .code yX4_chanceParts cX4_chanceParts 3 (some .long) :: ([.methodLink RX4 30 yX1_power, .static yX1_power, .initialized RX1, .code yX1_power cX1_power 6 (some .long)])
def wsX4_lead : List Cond := .code yX4_lead cX4_lead 14 (some .long) :: ([.constantLong RX4 28 (16), .methodLink RX4 11 yX4_lengthOf, .static yX4_lengthOf, .initialized RX4, .code yX4_lengthOf cX4_lengthOf 2 (some .int), .methodLink RX4 15 yJ6_bitCount_0f7a4, .static yJ6_bitCount_0f7a4, .initialized RJ6, .code yJ6_bitCount_0f7a4 cJ6_bitCount_0f7a4 1 (some .int), .constant RJ6 265 (1431655765), .constant RJ6 266 (858993459), .constant RJ6 267 (252645135), .methodLink RX4 24 yX4_chanceParts, .static yX4_chanceParts, .code yX4_chanceParts cX4_chanceParts 3 (some .long), .methodLink RX4 30 yX1_power, .static yX1_power, .initialized RX1, .code yX1_power cX1_power 6 (some .long)])
def wsX4_leadUnit : List Cond := .code yX4_leadUnit cX4_leadUnit 1 (some .long) :: ([.methodLink RX4 24 yX4_chanceParts, .static yX4_chanceParts, .initialized RX4, .code yX4_chanceParts cX4_chanceParts 3 (some .long), .methodLink RX4 30 yX1_power, .static yX1_power, .initialized RX1, .code yX1_power cX1_power 6 (some .long)])
def wsX5_init : List Cond := .code yX5_init cX5_init 1 none :: ([.methodLink RX5 3 objectInit, .instanceMethod objectInit, .code objectInit ⟨#[0xb1]⟩ 1 none])
def wsX5_maySee : List Cond := .code yX5_maySee cX5_maySee 1 (some .boolean) :: ([])
def wsX5_isFull : List Cond := .code yX5_isFull cX5_isFull 1 (some .boolean) :: ([.fieldLink RX5 9 "RowsOfTwo$Row" "length" "I"] ++ wsX50)
def wsX5_isWhole : List Cond := .code yX5_isWhole cX5_isWhole 1 (some .boolean) :: ([.fieldLink RX5 15 "RowsOfTwo$Row" "unseen" "I"] ++ wsX50)
def wsX5_empty : List Cond := .code yX5_empty cX5_empty 1 none :: ([.fieldLink RX5 9 "RowsOfTwo$Row" "length" "I", .fieldLink RX5 18 "RowsOfTwo$Row" "hits" "I", .fieldLink RX5 15 "RowsOfTwo$Row" "unseen" "I"] ++ wsX50)
def wsX5_append : List Cond := .code yX5_append cX5_append 2 none :: ([.fieldLink RX5 18 "RowsOfTwo$Row" "hits" "I", .fieldLink RX5 15 "RowsOfTwo$Row" "unseen" "I", .fieldLink RX5 9 "RowsOfTwo$Row" "length" "I"] ++ wsX50)
def wsX5_signAt : List Cond := .code yX5_signAt cX5_signAt 3 (some .int) :: ([.fieldLink RX5 9 "RowsOfTwo$Row" "length" "I", .fieldLink RX5 15 "RowsOfTwo$Row" "unseen" "I", .fieldLink RX5 18 "RowsOfTwo$Row" "hits" "I"] ++ wsX50)
def wsX5_isBehindItsEnd : List Cond := .code yX5_isBehindItsEnd cX5_isBehindItsEnd 6 (some .boolean) :: ([.fieldLink RX5 9 "RowsOfTwo$Row" "length" "I", .fieldLink RX5 15 "RowsOfTwo$Row" "unseen" "I", .fieldLink RX5 18 "RowsOfTwo$Row" "hits" "I"] ++ wsX50)
def wsX6_init : List Cond := .code yX6_init cX6_init 1 none :: ([.methodLink RX6 3 objectInit, .instanceMethod objectInit, .code objectInit ⟨#[0xb1]⟩ 1 none, .arrayClass .int, .fieldLink RX6 11 "RowsOfTwo$Sentences" "letters" "[I", .fieldLink RX6 15 "RowsOfTwo$Sentences" "relations" "[I", .fieldLink RX6 18 "RowsOfTwo$Sentences" "limits" "[I", .arrayClass .boolean, .fieldLink RX6 21 "RowsOfTwo$Sentences" "opensAlternative" "[Z", .fieldLink RX6 25 "RowsOfTwo$Sentences" "measured" "[I", .fieldLink RX6 28 "RowsOfTwo$Sentences" "stuckAt" "I"] ++ wsX60)
def wsX6_empty : List Cond := .code yX6_empty cX6_empty 1 none :: ([.fieldLink RX6 32 "RowsOfTwo$Sentences" "length" "I", .fieldLink RX6 35 "RowsOfTwo$Sentences" "tests" "I", .fieldLink RX6 38 "RowsOfTwo$Sentences" "due" "I", .fieldLink RX6 28 "RowsOfTwo$Sentences" "stuckAt" "I"] ++ wsX60)
def wsJ0_isLatin1_aae02 : List Cond := .code yJ0_isLatin1_aae02 cJ0_isLatin1_aae02 1 (some .boolean) :: ([.fieldLink RJ0 38 "java/lang/String" "COMPACT_STRINGS" "Z", .fieldLink RJ0 15 "java/lang/String" "coder" "B"])
def wsJ0_coder_7d493 : List Cond := .code yJ0_coder_7d493 cJ0_coder_7d493 1 (some .byte) :: ([.fieldLink RJ0 38 "java/lang/String" "COMPACT_STRINGS" "Z", .fieldLink RJ0 15 "java/lang/String" "coder" "B"])
def wsJ0_length_8abf5 : List Cond := .code yJ0_length_8abf5 cJ0_length_8abf5 1 (some .int) :: ([.fieldLink RJ0 9 "java/lang/String" "value" "[B", .methodLink RJ0 335 yJ0_coder_7d493, .instanceMethod yJ0_coder_7d493, .selects RJ0 yJ0_coder_7d493 yJ0_coder_7d493, .initialized RJ0, .code yJ0_coder_7d493 cJ0_coder_7d493 1 (some .byte), .fieldLink RJ0 38 "java/lang/String" "COMPACT_STRINGS" "Z", .fieldLink RJ0 15 "java/lang/String" "coder" "B"])
def wsJ1_canEncode_9a6ad : List Cond := .code yJ1_canEncode_9a6ad cJ1_canEncode_9a6ad 1 (some .boolean) :: ([])
def wsJ1_indexOfChar_4cfef : List Cond := .code yJ1_indexOfChar_4cfef cJ1_indexOfChar_4cfef 6 (some .int) :: ([])
def wsJ1_indexOf_4cfef : List Cond := .code yJ1_indexOf_4cfef cJ1_indexOf_4cfef 4 (some .int) :: ([.methodLink RJ1 92 Lib.Math.max.name, .static Lib.Math.max.name, .initialized "java/lang/Math", .code Lib.Math.max.name Lib.Math.max.code 2 (some .int), .methodLink RJ1 38 Lib.Math.min.name, .static Lib.Math.min.name, .code Lib.Math.min.name Lib.Math.min.code 2 (some .int), .methodLink RJ1 88 yJ1_canEncode_9a6ad, .static yJ1_canEncode_9a6ad, .initialized RJ1, .code yJ1_canEncode_9a6ad cJ1_canEncode_9a6ad 1 (some .boolean), .methodLink RJ1 95 yJ1_indexOfChar_4cfef, .static yJ1_indexOfChar_4cfef, .code yJ1_indexOfChar_4cfef cJ1_indexOfChar_4cfef 6 (some .int)])
def wsJ2_length_9d52b : List Cond := .code yJ2_length_9d52b cJ2_length_9d52b 1 (some .int) :: ([])
def wsJ3_checkFromToIndex_8c36e : List Cond := .code yJ3_checkFromToIndex_8c36e cJ3_checkFromToIndex_8c36e 4 (some .int) :: ([])
def wsJ0_checkBoundsBeginEnd_23922 : List Cond := .code yJ0_checkBoundsBeginEnd_23922 cJ0_checkBoundsBeginEnd_23922 3 none :: ([.fieldLink RJ0 1053 "jdk/internal/util/Preconditions" "SIOOBE_FORMATTER" "Ljava/util/function/BiFunction;", .methodLink RJ0 1062 yJ3_checkFromToIndex_8c36e, .static yJ3_checkFromToIndex_8c36e, .initialized RJ3, .code yJ3_checkFromToIndex_8c36e cJ3_checkFromToIndex_8c36e 4 (some .int)])
def wsJ2_checkBoundsBeginEnd_d044e : List Cond := .code yJ2_checkBoundsBeginEnd_d044e cJ2_checkBoundsBeginEnd_d044e 3 none :: ([.methodLink RJ2 48 yJ2_length_9d52b, .static yJ2_length_9d52b, .initialized RJ2, .code yJ2_length_9d52b cJ2_length_9d52b 1 (some .int), .methodLink RJ2 241 yJ0_checkBoundsBeginEnd_23922, .static yJ0_checkBoundsBeginEnd_23922, .initialized RJ0, .code yJ0_checkBoundsBeginEnd_23922 cJ0_checkBoundsBeginEnd_23922 3 none, .fieldLink RJ0 1053 "jdk/internal/util/Preconditions" "SIOOBE_FORMATTER" "Ljava/util/function/BiFunction;", .methodLink RJ0 1062 yJ3_checkFromToIndex_8c36e, .static yJ3_checkFromToIndex_8c36e, .initialized RJ3, .code yJ3_checkFromToIndex_8c36e cJ3_checkFromToIndex_8c36e 4 (some .int)])
def wsJ2_getChar_3b067 : List Cond := .code yJ2_getChar_3b067 cJ2_getChar_3b067 2 (some .char) :: ([.fieldLink RJ2 44 "java/lang/StringUTF16" "$assertionsDisabled" "Z", .fieldLink RJ2 59 "java/lang/StringUTF16" "HI_BYTE_SHIFT" "I", .fieldLink RJ2 63 "java/lang/StringUTF16" "LO_BYTE_SHIFT" "I", .methodLink RJ2 48 yJ2_length_9d52b, .static yJ2_length_9d52b, .initialized RJ2, .code yJ2_length_9d52b cJ2_length_9d52b 1 (some .int)])
def wsJ2_indexOfCharUnsafe_4cfef : List Cond := .code yJ2_indexOfCharUnsafe_4cfef cJ2_indexOfCharUnsafe_4cfef 5 (some .int) :: ([.methodLink RJ2 71 yJ2_getChar_3b067, .static yJ2_getChar_3b067, .initialized RJ2, .code yJ2_getChar_3b067 cJ2_getChar_3b067 2 (some .char), .fieldLink RJ2 44 "java/lang/StringUTF16" "$assertionsDisabled" "Z", .fieldLink RJ2 59 "java/lang/StringUTF16" "HI_BYTE_SHIFT" "I", .fieldLink RJ2 63 "java/lang/StringUTF16" "LO_BYTE_SHIFT" "I", .methodLink RJ2 48 yJ2_length_9d52b, .static yJ2_length_9d52b, .code yJ2_length_9d52b cJ2_length_9d52b 1 (some .int)])
def wsJ2_indexOfChar_4cfef_r1 : List Cond := [Cond.methodLink RJ2 96 yJ2_checkBoundsBeginEnd_d044e, Cond.static yJ2_checkBoundsBeginEnd_d044e, Cond.initialized RJ2, Cond.code yJ2_checkBoundsBeginEnd_d044e cJ2_checkBoundsBeginEnd_d044e 3 none, Cond.methodLink RJ2 48 yJ2_length_9d52b, Cond.static yJ2_length_9d52b, Cond.code yJ2_length_9d52b cJ2_length_9d52b 1 (some .int), Cond.methodLink RJ2 241 yJ0_checkBoundsBeginEnd_23922, Cond.static yJ0_checkBoundsBeginEnd_23922, Cond.initialized RJ0, Cond.code yJ0_checkBoundsBeginEnd_23922 cJ0_checkBoundsBeginEnd_23922 3 none, Cond.fieldLink RJ0 1053 "jdk/internal/util/Preconditions" "SIOOBE_FORMATTER" "Ljava/util/function/BiFunction;", Cond.methodLink RJ0 1062 yJ3_checkFromToIndex_8c36e, Cond.static yJ3_checkFromToIndex_8c36e, Cond.initialized RJ3, Cond.code yJ3_checkFromToIndex_8c36e cJ3_checkFromToIndex_8c36e 4 (some .int), Cond.methodLink RJ2 244 yJ2_indexOfCharUnsafe_4cfef, Cond.static yJ2_indexOfCharUnsafe_4cfef, Cond.code yJ2_indexOfCharUnsafe_4cfef cJ2_indexOfCharUnsafe_4cfef 5 (some .int), Cond.methodLink RJ2 71 yJ2_getChar_3b067, Cond.static yJ2_getChar_3b067, Cond.code yJ2_getChar_3b067 cJ2_getChar_3b067 2 (some .char), Cond.fieldLink RJ2 44 "java/lang/StringUTF16" "$assertionsDisabled" "Z", Cond.fieldLink RJ2 59 "java/lang/StringUTF16" "HI_BYTE_SHIFT" "I"]
def wsJ2_indexOfChar_4cfef_r2 : List Cond := [Cond.fieldLink RJ2 63 "java/lang/StringUTF16" "LO_BYTE_SHIFT" "I"]
def wsJ2_indexOfChar_4cfef : List Cond := .code yJ2_indexOfChar_4cfef cJ2_indexOfChar_4cfef 4 (some .int) :: ((wsJ2_indexOfChar_4cfef_r1 ++ wsJ2_indexOfChar_4cfef_r2))
def wsJ11_isValidCodePoint_9a6ad : List Cond := .code yJ11_isValidCodePoint_9a6ad cJ11_isValidCodePoint_9a6ad 2 (some .boolean) :: ([])
def wsJ11_highSurrogate_5068e : List Cond := .code yJ11_highSurrogate_5068e cJ11_highSurrogate_5068e 1 (some .char) :: ([.constant RJ11 110 (55232)])
def wsJ11_lowSurrogate_5068e : List Cond := .code yJ11_lowSurrogate_5068e cJ11_lowSurrogate_5068e 1 (some .char) :: ([.constant RJ11 76 (56320)])
def wsJ2_indexOfSupplementary_4cfef_r1 : List Cond := [Cond.methodLink RJ2 164 yJ11_isValidCodePoint_9a6ad, Cond.static yJ11_isValidCodePoint_9a6ad, Cond.initialized RJ11, Cond.code yJ11_isValidCodePoint_9a6ad cJ11_isValidCodePoint_9a6ad 2 (some .boolean), Cond.methodLink RJ2 157 yJ11_highSurrogate_5068e, Cond.static yJ11_highSurrogate_5068e, Cond.code yJ11_highSurrogate_5068e cJ11_highSurrogate_5068e 1 (some .char), Cond.constant RJ11 110 (55232), Cond.methodLink RJ2 161 yJ11_lowSurrogate_5068e, Cond.static yJ11_lowSurrogate_5068e, Cond.code yJ11_lowSurrogate_5068e cJ11_lowSurrogate_5068e 1 (some .char), Cond.constant RJ11 76 (56320), Cond.methodLink RJ2 96 yJ2_checkBoundsBeginEnd_d044e, Cond.static yJ2_checkBoundsBeginEnd_d044e, Cond.initialized RJ2, Cond.code yJ2_checkBoundsBeginEnd_d044e cJ2_checkBoundsBeginEnd_d044e 3 none, Cond.methodLink RJ2 48 yJ2_length_9d52b, Cond.static yJ2_length_9d52b, Cond.code yJ2_length_9d52b cJ2_length_9d52b 1 (some .int), Cond.methodLink RJ2 241 yJ0_checkBoundsBeginEnd_23922, Cond.static yJ0_checkBoundsBeginEnd_23922, Cond.initialized RJ0, Cond.code yJ0_checkBoundsBeginEnd_23922 cJ0_checkBoundsBeginEnd_23922 3 none, Cond.fieldLink RJ0 1053 "jdk/internal/util/Preconditions" "SIOOBE_FORMATTER" "Ljava/util/function/BiFunction;"]
def wsJ2_indexOfSupplementary_4cfef_r2 : List Cond := [Cond.methodLink RJ0 1062 yJ3_checkFromToIndex_8c36e, Cond.static yJ3_checkFromToIndex_8c36e, Cond.initialized RJ3, Cond.code yJ3_checkFromToIndex_8c36e cJ3_checkFromToIndex_8c36e 4 (some .int), Cond.methodLink RJ2 71 yJ2_getChar_3b067, Cond.static yJ2_getChar_3b067, Cond.code yJ2_getChar_3b067 cJ2_getChar_3b067 2 (some .char), Cond.fieldLink RJ2 44 "java/lang/StringUTF16" "$assertionsDisabled" "Z", Cond.fieldLink RJ2 59 "java/lang/StringUTF16" "HI_BYTE_SHIFT" "I", Cond.fieldLink RJ2 63 "java/lang/StringUTF16" "LO_BYTE_SHIFT" "I"]
def wsJ2_indexOfSupplementary_4cfef : List Cond := .code yJ2_indexOfSupplementary_4cfef cJ2_indexOfSupplementary_4cfef 7 (some .int) :: ((wsJ2_indexOfSupplementary_4cfef_r1 ++ wsJ2_indexOfSupplementary_4cfef_r2))
def wsJ2_indexOf_4cfef_r1 : List Cond := [Cond.methodLink RJ2 224 Lib.Math.max.name, Cond.static Lib.Math.max.name, Cond.initialized "java/lang/Math", Cond.code Lib.Math.max.name Lib.Math.max.code 2 (some .int), Cond.methodLink RJ2 183 Lib.Math.min.name, Cond.static Lib.Math.min.name, Cond.code Lib.Math.min.name Lib.Math.min.code 2 (some .int), Cond.constant RJ2 227 (65536), Cond.methodLink RJ2 228 yJ2_indexOfChar_4cfef, Cond.static yJ2_indexOfChar_4cfef, Cond.initialized RJ2, Cond.code yJ2_indexOfChar_4cfef cJ2_indexOfChar_4cfef 4 (some .int), Cond.methodLink RJ2 96 yJ2_checkBoundsBeginEnd_d044e, Cond.static yJ2_checkBoundsBeginEnd_d044e, Cond.code yJ2_checkBoundsBeginEnd_d044e cJ2_checkBoundsBeginEnd_d044e 3 none, Cond.methodLink RJ2 48 yJ2_length_9d52b, Cond.static yJ2_length_9d52b, Cond.code yJ2_length_9d52b cJ2_length_9d52b 1 (some .int), Cond.methodLink RJ2 241 yJ0_checkBoundsBeginEnd_23922, Cond.static yJ0_checkBoundsBeginEnd_23922, Cond.initialized RJ0, Cond.code yJ0_checkBoundsBeginEnd_23922 cJ0_checkBoundsBeginEnd_23922 3 none, Cond.fieldLink RJ0 1053 "jdk/internal/util/Preconditions" "SIOOBE_FORMATTER" "Ljava/util/function/BiFunction;", Cond.methodLink RJ0 1062 yJ3_checkFromToIndex_8c36e]
def wsJ2_indexOf_4cfef_r2 : List Cond := [Cond.static yJ3_checkFromToIndex_8c36e, Cond.initialized RJ3, Cond.code yJ3_checkFromToIndex_8c36e cJ3_checkFromToIndex_8c36e 4 (some .int), Cond.methodLink RJ2 244 yJ2_indexOfCharUnsafe_4cfef, Cond.static yJ2_indexOfCharUnsafe_4cfef, Cond.code yJ2_indexOfCharUnsafe_4cfef cJ2_indexOfCharUnsafe_4cfef 5 (some .int), Cond.methodLink RJ2 71 yJ2_getChar_3b067, Cond.static yJ2_getChar_3b067, Cond.code yJ2_getChar_3b067 cJ2_getChar_3b067 2 (some .char), Cond.fieldLink RJ2 44 "java/lang/StringUTF16" "$assertionsDisabled" "Z", Cond.fieldLink RJ2 59 "java/lang/StringUTF16" "HI_BYTE_SHIFT" "I", Cond.fieldLink RJ2 63 "java/lang/StringUTF16" "LO_BYTE_SHIFT" "I", Cond.methodLink RJ2 232 yJ2_indexOfSupplementary_4cfef, Cond.static yJ2_indexOfSupplementary_4cfef, Cond.code yJ2_indexOfSupplementary_4cfef cJ2_indexOfSupplementary_4cfef 7 (some .int), Cond.methodLink RJ2 164 yJ11_isValidCodePoint_9a6ad, Cond.static yJ11_isValidCodePoint_9a6ad, Cond.initialized RJ11, Cond.code yJ11_isValidCodePoint_9a6ad cJ11_isValidCodePoint_9a6ad 2 (some .boolean), Cond.methodLink RJ2 157 yJ11_highSurrogate_5068e, Cond.static yJ11_highSurrogate_5068e, Cond.code yJ11_highSurrogate_5068e cJ11_highSurrogate_5068e 1 (some .char), Cond.constant RJ11 110 (55232), Cond.methodLink RJ2 161 yJ11_lowSurrogate_5068e]
def wsJ2_indexOf_4cfef_r3 : List Cond := [Cond.static yJ11_lowSurrogate_5068e, Cond.code yJ11_lowSurrogate_5068e cJ11_lowSurrogate_5068e 1 (some .char), Cond.constant RJ11 76 (56320)]
def wsJ2_indexOf_4cfef : List Cond := .code yJ2_indexOf_4cfef cJ2_indexOf_4cfef 4 (some .int) :: ((wsJ2_indexOf_4cfef_r1 ++ (wsJ2_indexOf_4cfef_r2 ++ wsJ2_indexOf_4cfef_r3)))
def wsJ0_indexOf_7cf53_r1 : List Cond := [Cond.fieldLink RJ0 9 "java/lang/String" "value" "[B", Cond.methodLink RJ0 492 yJ0_isLatin1_aae02, Cond.instanceMethod yJ0_isLatin1_aae02, Cond.selects RJ0 yJ0_isLatin1_aae02 yJ0_isLatin1_aae02, Cond.initialized RJ0, Cond.code yJ0_isLatin1_aae02 cJ0_isLatin1_aae02 1 (some .boolean), Cond.fieldLink RJ0 38 "java/lang/String" "COMPACT_STRINGS" "Z", Cond.fieldLink RJ0 15 "java/lang/String" "coder" "B", Cond.methodLink RJ0 505 yJ0_length_8abf5, Cond.instanceMethod yJ0_length_8abf5, Cond.selects RJ0 yJ0_length_8abf5 yJ0_length_8abf5, Cond.code yJ0_length_8abf5 cJ0_length_8abf5 1 (some .int), Cond.methodLink RJ0 335 yJ0_coder_7d493, Cond.instanceMethod yJ0_coder_7d493, Cond.selects RJ0 yJ0_coder_7d493 yJ0_coder_7d493, Cond.code yJ0_coder_7d493 cJ0_coder_7d493 1 (some .byte), Cond.methodLink RJ0 637 yJ1_indexOf_4cfef, Cond.static yJ1_indexOf_4cfef, Cond.initialized RJ1, Cond.code yJ1_indexOf_4cfef cJ1_indexOf_4cfef 4 (some .int), Cond.methodLink RJ1 92 Lib.Math.max.name, Cond.static Lib.Math.max.name, Cond.initialized "java/lang/Math", Cond.code Lib.Math.max.name Lib.Math.max.code 2 (some .int)]
def wsJ0_indexOf_7cf53_r2 : List Cond := [Cond.methodLink RJ1 38 Lib.Math.min.name, Cond.static Lib.Math.min.name, Cond.code Lib.Math.min.name Lib.Math.min.code 2 (some .int), Cond.methodLink RJ1 88 yJ1_canEncode_9a6ad, Cond.static yJ1_canEncode_9a6ad, Cond.code yJ1_canEncode_9a6ad cJ1_canEncode_9a6ad 1 (some .boolean), Cond.methodLink RJ1 95 yJ1_indexOfChar_4cfef, Cond.static yJ1_indexOfChar_4cfef, Cond.code yJ1_indexOfChar_4cfef cJ1_indexOfChar_4cfef 6 (some .int), Cond.methodLink RJ0 640 yJ2_indexOf_4cfef, Cond.static yJ2_indexOf_4cfef, Cond.initialized RJ2, Cond.code yJ2_indexOf_4cfef cJ2_indexOf_4cfef 4 (some .int), Cond.methodLink RJ2 224 Lib.Math.max.name, Cond.methodLink RJ2 183 Lib.Math.min.name, Cond.constant RJ2 227 (65536), Cond.methodLink RJ2 228 yJ2_indexOfChar_4cfef, Cond.static yJ2_indexOfChar_4cfef, Cond.code yJ2_indexOfChar_4cfef cJ2_indexOfChar_4cfef 4 (some .int), Cond.methodLink RJ2 96 yJ2_checkBoundsBeginEnd_d044e, Cond.static yJ2_checkBoundsBeginEnd_d044e, Cond.code yJ2_checkBoundsBeginEnd_d044e cJ2_checkBoundsBeginEnd_d044e 3 none, Cond.methodLink RJ2 48 yJ2_length_9d52b, Cond.static yJ2_length_9d52b]
def wsJ0_indexOf_7cf53_r3 : List Cond := [Cond.code yJ2_length_9d52b cJ2_length_9d52b 1 (some .int), Cond.methodLink RJ2 241 yJ0_checkBoundsBeginEnd_23922, Cond.static yJ0_checkBoundsBeginEnd_23922, Cond.code yJ0_checkBoundsBeginEnd_23922 cJ0_checkBoundsBeginEnd_23922 3 none, Cond.fieldLink RJ0 1053 "jdk/internal/util/Preconditions" "SIOOBE_FORMATTER" "Ljava/util/function/BiFunction;", Cond.methodLink RJ0 1062 yJ3_checkFromToIndex_8c36e, Cond.static yJ3_checkFromToIndex_8c36e, Cond.initialized RJ3, Cond.code yJ3_checkFromToIndex_8c36e cJ3_checkFromToIndex_8c36e 4 (some .int), Cond.methodLink RJ2 244 yJ2_indexOfCharUnsafe_4cfef, Cond.static yJ2_indexOfCharUnsafe_4cfef, Cond.code yJ2_indexOfCharUnsafe_4cfef cJ2_indexOfCharUnsafe_4cfef 5 (some .int), Cond.methodLink RJ2 71 yJ2_getChar_3b067, Cond.static yJ2_getChar_3b067, Cond.code yJ2_getChar_3b067 cJ2_getChar_3b067 2 (some .char), Cond.fieldLink RJ2 44 "java/lang/StringUTF16" "$assertionsDisabled" "Z", Cond.fieldLink RJ2 59 "java/lang/StringUTF16" "HI_BYTE_SHIFT" "I", Cond.fieldLink RJ2 63 "java/lang/StringUTF16" "LO_BYTE_SHIFT" "I", Cond.methodLink RJ2 232 yJ2_indexOfSupplementary_4cfef, Cond.static yJ2_indexOfSupplementary_4cfef, Cond.code yJ2_indexOfSupplementary_4cfef cJ2_indexOfSupplementary_4cfef 7 (some .int), Cond.methodLink RJ2 164 yJ11_isValidCodePoint_9a6ad, Cond.static yJ11_isValidCodePoint_9a6ad, Cond.initialized RJ11]
def wsJ0_indexOf_7cf53_r4 : List Cond := [Cond.code yJ11_isValidCodePoint_9a6ad cJ11_isValidCodePoint_9a6ad 2 (some .boolean), Cond.methodLink RJ2 157 yJ11_highSurrogate_5068e, Cond.static yJ11_highSurrogate_5068e, Cond.code yJ11_highSurrogate_5068e cJ11_highSurrogate_5068e 1 (some .char), Cond.constant RJ11 110 (55232), Cond.methodLink RJ2 161 yJ11_lowSurrogate_5068e, Cond.static yJ11_lowSurrogate_5068e, Cond.code yJ11_lowSurrogate_5068e cJ11_lowSurrogate_5068e 1 (some .char), Cond.constant RJ11 76 (56320)]
def wsJ0_indexOf_7cf53 : List Cond := .code yJ0_indexOf_7cf53 cJ0_indexOf_7cf53 3 (some .int) :: ((wsJ0_indexOf_7cf53_r1 ++ (wsJ0_indexOf_7cf53_r2 ++ (wsJ0_indexOf_7cf53_r3 ++ wsJ0_indexOf_7cf53_r4))))
def wsJ0_indexOf_0f7a4_r1 : List Cond := [Cond.methodLink RJ0 633 yJ0_indexOf_7cf53, Cond.instanceMethod yJ0_indexOf_7cf53, Cond.selects RJ0 yJ0_indexOf_7cf53 yJ0_indexOf_7cf53, Cond.initialized RJ0, Cond.code yJ0_indexOf_7cf53 cJ0_indexOf_7cf53 3 (some .int), Cond.fieldLink RJ0 9 "java/lang/String" "value" "[B", Cond.methodLink RJ0 492 yJ0_isLatin1_aae02, Cond.instanceMethod yJ0_isLatin1_aae02, Cond.selects RJ0 yJ0_isLatin1_aae02 yJ0_isLatin1_aae02, Cond.code yJ0_isLatin1_aae02 cJ0_isLatin1_aae02 1 (some .boolean), Cond.fieldLink RJ0 38 "java/lang/String" "COMPACT_STRINGS" "Z", Cond.fieldLink RJ0 15 "java/lang/String" "coder" "B", Cond.methodLink RJ0 505 yJ0_length_8abf5, Cond.instanceMethod yJ0_length_8abf5, Cond.selects RJ0 yJ0_length_8abf5 yJ0_length_8abf5, Cond.code yJ0_length_8abf5 cJ0_length_8abf5 1 (some .int), Cond.methodLink RJ0 335 yJ0_coder_7d493, Cond.instanceMethod yJ0_coder_7d493, Cond.selects RJ0 yJ0_coder_7d493 yJ0_coder_7d493, Cond.code yJ0_coder_7d493 cJ0_coder_7d493 1 (some .byte), Cond.methodLink RJ0 637 yJ1_indexOf_4cfef, Cond.static yJ1_indexOf_4cfef, Cond.initialized RJ1, Cond.code yJ1_indexOf_4cfef cJ1_indexOf_4cfef 4 (some .int)]
def wsJ0_indexOf_0f7a4_r2 : List Cond := [Cond.methodLink RJ1 92 Lib.Math.max.name, Cond.static Lib.Math.max.name, Cond.initialized "java/lang/Math", Cond.code Lib.Math.max.name Lib.Math.max.code 2 (some .int), Cond.methodLink RJ1 38 Lib.Math.min.name, Cond.static Lib.Math.min.name, Cond.code Lib.Math.min.name Lib.Math.min.code 2 (some .int), Cond.methodLink RJ1 88 yJ1_canEncode_9a6ad, Cond.static yJ1_canEncode_9a6ad, Cond.code yJ1_canEncode_9a6ad cJ1_canEncode_9a6ad 1 (some .boolean), Cond.methodLink RJ1 95 yJ1_indexOfChar_4cfef, Cond.static yJ1_indexOfChar_4cfef, Cond.code yJ1_indexOfChar_4cfef cJ1_indexOfChar_4cfef 6 (some .int), Cond.methodLink RJ0 640 yJ2_indexOf_4cfef, Cond.static yJ2_indexOf_4cfef, Cond.initialized RJ2, Cond.code yJ2_indexOf_4cfef cJ2_indexOf_4cfef 4 (some .int), Cond.methodLink RJ2 224 Lib.Math.max.name, Cond.methodLink RJ2 183 Lib.Math.min.name, Cond.constant RJ2 227 (65536), Cond.methodLink RJ2 228 yJ2_indexOfChar_4cfef, Cond.static yJ2_indexOfChar_4cfef, Cond.code yJ2_indexOfChar_4cfef cJ2_indexOfChar_4cfef 4 (some .int), Cond.methodLink RJ2 96 yJ2_checkBoundsBeginEnd_d044e]
def wsJ0_indexOf_0f7a4_r3 : List Cond := [Cond.static yJ2_checkBoundsBeginEnd_d044e, Cond.code yJ2_checkBoundsBeginEnd_d044e cJ2_checkBoundsBeginEnd_d044e 3 none, Cond.methodLink RJ2 48 yJ2_length_9d52b, Cond.static yJ2_length_9d52b, Cond.code yJ2_length_9d52b cJ2_length_9d52b 1 (some .int), Cond.methodLink RJ2 241 yJ0_checkBoundsBeginEnd_23922, Cond.static yJ0_checkBoundsBeginEnd_23922, Cond.code yJ0_checkBoundsBeginEnd_23922 cJ0_checkBoundsBeginEnd_23922 3 none, Cond.fieldLink RJ0 1053 "jdk/internal/util/Preconditions" "SIOOBE_FORMATTER" "Ljava/util/function/BiFunction;", Cond.methodLink RJ0 1062 yJ3_checkFromToIndex_8c36e, Cond.static yJ3_checkFromToIndex_8c36e, Cond.initialized RJ3, Cond.code yJ3_checkFromToIndex_8c36e cJ3_checkFromToIndex_8c36e 4 (some .int), Cond.methodLink RJ2 244 yJ2_indexOfCharUnsafe_4cfef, Cond.static yJ2_indexOfCharUnsafe_4cfef, Cond.code yJ2_indexOfCharUnsafe_4cfef cJ2_indexOfCharUnsafe_4cfef 5 (some .int), Cond.methodLink RJ2 71 yJ2_getChar_3b067, Cond.static yJ2_getChar_3b067, Cond.code yJ2_getChar_3b067 cJ2_getChar_3b067 2 (some .char), Cond.fieldLink RJ2 44 "java/lang/StringUTF16" "$assertionsDisabled" "Z", Cond.fieldLink RJ2 59 "java/lang/StringUTF16" "HI_BYTE_SHIFT" "I", Cond.fieldLink RJ2 63 "java/lang/StringUTF16" "LO_BYTE_SHIFT" "I", Cond.methodLink RJ2 232 yJ2_indexOfSupplementary_4cfef, Cond.static yJ2_indexOfSupplementary_4cfef]
def wsJ0_indexOf_0f7a4_r4 : List Cond := [Cond.code yJ2_indexOfSupplementary_4cfef cJ2_indexOfSupplementary_4cfef 7 (some .int), Cond.methodLink RJ2 164 yJ11_isValidCodePoint_9a6ad, Cond.static yJ11_isValidCodePoint_9a6ad, Cond.initialized RJ11, Cond.code yJ11_isValidCodePoint_9a6ad cJ11_isValidCodePoint_9a6ad 2 (some .boolean), Cond.methodLink RJ2 157 yJ11_highSurrogate_5068e, Cond.static yJ11_highSurrogate_5068e, Cond.code yJ11_highSurrogate_5068e cJ11_highSurrogate_5068e 1 (some .char), Cond.constant RJ11 110 (55232), Cond.methodLink RJ2 161 yJ11_lowSurrogate_5068e, Cond.static yJ11_lowSurrogate_5068e, Cond.code yJ11_lowSurrogate_5068e cJ11_lowSurrogate_5068e 1 (some .char), Cond.constant RJ11 76 (56320)]
def wsJ0_indexOf_0f7a4 : List Cond := .code yJ0_indexOf_0f7a4 cJ0_indexOf_0f7a4 2 (some .int) :: ((wsJ0_indexOf_0f7a4_r1 ++ (wsJ0_indexOf_0f7a4_r2 ++ (wsJ0_indexOf_0f7a4_r3 ++ wsJ0_indexOf_0f7a4_r4))))
def wsX6_takesLetter_r1 : List Cond := [Cond.fieldLink RX6 35 "RowsOfTwo$Sentences" "tests" "I", Cond.fieldLink RX6 11 "RowsOfTwo$Sentences" "letters" "[I", Cond.fieldLink RX6 38 "RowsOfTwo$Sentences" "due" "I", Cond.methodLink RX6 66 yJ0_indexOf_0f7a4, Cond.instanceMethod yJ0_indexOf_0f7a4, Cond.selects RJ0 yJ0_indexOf_0f7a4 yJ0_indexOf_0f7a4, Cond.initialized RJ0, Cond.code yJ0_indexOf_0f7a4 cJ0_indexOf_0f7a4 2 (some .int), Cond.methodLink RJ0 633 yJ0_indexOf_7cf53, Cond.instanceMethod yJ0_indexOf_7cf53, Cond.selects RJ0 yJ0_indexOf_7cf53 yJ0_indexOf_7cf53, Cond.code yJ0_indexOf_7cf53 cJ0_indexOf_7cf53 3 (some .int), Cond.fieldLink RJ0 9 "java/lang/String" "value" "[B", Cond.methodLink RJ0 492 yJ0_isLatin1_aae02, Cond.instanceMethod yJ0_isLatin1_aae02, Cond.selects RJ0 yJ0_isLatin1_aae02 yJ0_isLatin1_aae02, Cond.code yJ0_isLatin1_aae02 cJ0_isLatin1_aae02 1 (some .boolean), Cond.fieldLink RJ0 38 "java/lang/String" "COMPACT_STRINGS" "Z", Cond.fieldLink RJ0 15 "java/lang/String" "coder" "B", Cond.methodLink RJ0 505 yJ0_length_8abf5, Cond.instanceMethod yJ0_length_8abf5, Cond.selects RJ0 yJ0_length_8abf5 yJ0_length_8abf5, Cond.code yJ0_length_8abf5 cJ0_length_8abf5 1 (some .int), Cond.methodLink RJ0 335 yJ0_coder_7d493]
def wsX6_takesLetter_r2 : List Cond := [Cond.instanceMethod yJ0_coder_7d493, Cond.selects RJ0 yJ0_coder_7d493 yJ0_coder_7d493, Cond.code yJ0_coder_7d493 cJ0_coder_7d493 1 (some .byte), Cond.methodLink RJ0 637 yJ1_indexOf_4cfef, Cond.static yJ1_indexOf_4cfef, Cond.initialized RJ1, Cond.code yJ1_indexOf_4cfef cJ1_indexOf_4cfef 4 (some .int), Cond.methodLink RJ1 92 Lib.Math.max.name, Cond.static Lib.Math.max.name, Cond.initialized "java/lang/Math", Cond.code Lib.Math.max.name Lib.Math.max.code 2 (some .int), Cond.methodLink RJ1 38 Lib.Math.min.name, Cond.static Lib.Math.min.name, Cond.code Lib.Math.min.name Lib.Math.min.code 2 (some .int), Cond.methodLink RJ1 88 yJ1_canEncode_9a6ad, Cond.static yJ1_canEncode_9a6ad, Cond.code yJ1_canEncode_9a6ad cJ1_canEncode_9a6ad 1 (some .boolean), Cond.methodLink RJ1 95 yJ1_indexOfChar_4cfef, Cond.static yJ1_indexOfChar_4cfef, Cond.code yJ1_indexOfChar_4cfef cJ1_indexOfChar_4cfef 6 (some .int), Cond.methodLink RJ0 640 yJ2_indexOf_4cfef, Cond.static yJ2_indexOf_4cfef, Cond.initialized RJ2, Cond.code yJ2_indexOf_4cfef cJ2_indexOf_4cfef 4 (some .int)]
def wsX6_takesLetter_r3 : List Cond := [Cond.methodLink RJ2 224 Lib.Math.max.name, Cond.methodLink RJ2 183 Lib.Math.min.name, Cond.constant RJ2 227 (65536), Cond.methodLink RJ2 228 yJ2_indexOfChar_4cfef, Cond.static yJ2_indexOfChar_4cfef, Cond.code yJ2_indexOfChar_4cfef cJ2_indexOfChar_4cfef 4 (some .int), Cond.methodLink RJ2 96 yJ2_checkBoundsBeginEnd_d044e, Cond.static yJ2_checkBoundsBeginEnd_d044e, Cond.code yJ2_checkBoundsBeginEnd_d044e cJ2_checkBoundsBeginEnd_d044e 3 none, Cond.methodLink RJ2 48 yJ2_length_9d52b, Cond.static yJ2_length_9d52b, Cond.code yJ2_length_9d52b cJ2_length_9d52b 1 (some .int), Cond.methodLink RJ2 241 yJ0_checkBoundsBeginEnd_23922, Cond.static yJ0_checkBoundsBeginEnd_23922, Cond.code yJ0_checkBoundsBeginEnd_23922 cJ0_checkBoundsBeginEnd_23922 3 none, Cond.fieldLink RJ0 1053 "jdk/internal/util/Preconditions" "SIOOBE_FORMATTER" "Ljava/util/function/BiFunction;", Cond.methodLink RJ0 1062 yJ3_checkFromToIndex_8c36e, Cond.static yJ3_checkFromToIndex_8c36e, Cond.initialized RJ3, Cond.code yJ3_checkFromToIndex_8c36e cJ3_checkFromToIndex_8c36e 4 (some .int), Cond.methodLink RJ2 244 yJ2_indexOfCharUnsafe_4cfef, Cond.static yJ2_indexOfCharUnsafe_4cfef, Cond.code yJ2_indexOfCharUnsafe_4cfef cJ2_indexOfCharUnsafe_4cfef 5 (some .int), Cond.methodLink RJ2 71 yJ2_getChar_3b067]
def wsX6_takesLetter_r4 : List Cond := [Cond.static yJ2_getChar_3b067, Cond.code yJ2_getChar_3b067 cJ2_getChar_3b067 2 (some .char), Cond.fieldLink RJ2 44 "java/lang/StringUTF16" "$assertionsDisabled" "Z", Cond.fieldLink RJ2 59 "java/lang/StringUTF16" "HI_BYTE_SHIFT" "I", Cond.fieldLink RJ2 63 "java/lang/StringUTF16" "LO_BYTE_SHIFT" "I", Cond.methodLink RJ2 232 yJ2_indexOfSupplementary_4cfef, Cond.static yJ2_indexOfSupplementary_4cfef, Cond.code yJ2_indexOfSupplementary_4cfef cJ2_indexOfSupplementary_4cfef 7 (some .int), Cond.methodLink RJ2 164 yJ11_isValidCodePoint_9a6ad, Cond.static yJ11_isValidCodePoint_9a6ad, Cond.initialized RJ11, Cond.code yJ11_isValidCodePoint_9a6ad cJ11_isValidCodePoint_9a6ad 2 (some .boolean), Cond.methodLink RJ2 157 yJ11_highSurrogate_5068e, Cond.static yJ11_highSurrogate_5068e, Cond.code yJ11_highSurrogate_5068e cJ11_highSurrogate_5068e 1 (some .char), Cond.constant RJ11 110 (55232), Cond.methodLink RJ2 161 yJ11_lowSurrogate_5068e, Cond.static yJ11_lowSurrogate_5068e, Cond.code yJ11_lowSurrogate_5068e cJ11_lowSurrogate_5068e 1 (some .char), Cond.constant RJ11 76 (56320)]
def wsX6_takesLetter : List Cond := .code yX6_takesLetter cX6_takesLetter 3 (some .boolean) :: ((wsX6_takesLetter_r1 ++ (wsX6_takesLetter_r2 ++ (wsX6_takesLetter_r3 ++ wsX6_takesLetter_r4))) ++ wsX60)
def wsX6_takesRelation : List Cond := .code yX6_takesRelation cX6_takesRelation 2 (some .boolean) :: ([.fieldLink RX6 35 "RowsOfTwo$Sentences" "tests" "I", .fieldLink RX6 15 "RowsOfTwo$Sentences" "relations" "[I", .fieldLink RX6 38 "RowsOfTwo$Sentences" "due" "I"] ++ wsX60)
def wsX6_takesFigure : List Cond := .code yX6_takesFigure cX6_takesFigure 2 (some .boolean) :: ([.fieldLink RX6 35 "RowsOfTwo$Sentences" "tests" "I", .fieldLink RX6 18 "RowsOfTwo$Sentences" "limits" "[I", .fieldLink RX6 38 "RowsOfTwo$Sentences" "due" "I"] ++ wsX60)
def wsX6_takesSecondFigure : List Cond := .code yX6_takesSecondFigure cX6_takesSecondFigure 2 (some .boolean) :: ([.fieldLink RX6 35 "RowsOfTwo$Sentences" "tests" "I", .fieldLink RX6 18 "RowsOfTwo$Sentences" "limits" "[I", .fieldLink RX6 38 "RowsOfTwo$Sentences" "due" "I"] ++ wsX60)
def wsX6_takesJoint : List Cond := .code yX6_takesJoint cX6_takesJoint 2 (some .boolean) :: ([.fieldLink RX6 35 "RowsOfTwo$Sentences" "tests" "I", .fieldLink RX6 21 "RowsOfTwo$Sentences" "opensAlternative" "[Z", .fieldLink RX6 38 "RowsOfTwo$Sentences" "due" "I"] ++ wsX60)
def wsX6_goesOn_r1 : List Cond := [Cond.fieldLink RX6 38 "RowsOfTwo$Sentences" "due" "I", Cond.methodLink RX6 49 yX6_takesLetter, Cond.instanceMethod yX6_takesLetter, Cond.selects RX6 yX6_takesLetter yX6_takesLetter, Cond.initialized RX6, Cond.code yX6_takesLetter cX6_takesLetter 3 (some .boolean), Cond.fieldLink RX6 35 "RowsOfTwo$Sentences" "tests" "I", Cond.fieldLink RX6 11 "RowsOfTwo$Sentences" "letters" "[I", Cond.methodLink RX6 66 yJ0_indexOf_0f7a4, Cond.instanceMethod yJ0_indexOf_0f7a4, Cond.selects RJ0 yJ0_indexOf_0f7a4 yJ0_indexOf_0f7a4, Cond.initialized RJ0, Cond.code yJ0_indexOf_0f7a4 cJ0_indexOf_0f7a4 2 (some .int), Cond.methodLink RJ0 633 yJ0_indexOf_7cf53, Cond.instanceMethod yJ0_indexOf_7cf53, Cond.selects RJ0 yJ0_indexOf_7cf53 yJ0_indexOf_7cf53, Cond.code yJ0_indexOf_7cf53 cJ0_indexOf_7cf53 3 (some .int), Cond.fieldLink RJ0 9 "java/lang/String" "value" "[B", Cond.methodLink RJ0 492 yJ0_isLatin1_aae02, Cond.instanceMethod yJ0_isLatin1_aae02, Cond.selects RJ0 yJ0_isLatin1_aae02 yJ0_isLatin1_aae02, Cond.code yJ0_isLatin1_aae02 cJ0_isLatin1_aae02 1 (some .boolean), Cond.fieldLink RJ0 38 "java/lang/String" "COMPACT_STRINGS" "Z", Cond.fieldLink RJ0 15 "java/lang/String" "coder" "B"]
def wsX6_goesOn_r2 : List Cond := [Cond.methodLink RJ0 505 yJ0_length_8abf5, Cond.instanceMethod yJ0_length_8abf5, Cond.selects RJ0 yJ0_length_8abf5 yJ0_length_8abf5, Cond.code yJ0_length_8abf5 cJ0_length_8abf5 1 (some .int), Cond.methodLink RJ0 335 yJ0_coder_7d493, Cond.instanceMethod yJ0_coder_7d493, Cond.selects RJ0 yJ0_coder_7d493 yJ0_coder_7d493, Cond.code yJ0_coder_7d493 cJ0_coder_7d493 1 (some .byte), Cond.methodLink RJ0 637 yJ1_indexOf_4cfef, Cond.static yJ1_indexOf_4cfef, Cond.initialized RJ1, Cond.code yJ1_indexOf_4cfef cJ1_indexOf_4cfef 4 (some .int), Cond.methodLink RJ1 92 Lib.Math.max.name, Cond.static Lib.Math.max.name, Cond.initialized "java/lang/Math", Cond.code Lib.Math.max.name Lib.Math.max.code 2 (some .int), Cond.methodLink RJ1 38 Lib.Math.min.name, Cond.static Lib.Math.min.name, Cond.code Lib.Math.min.name Lib.Math.min.code 2 (some .int), Cond.methodLink RJ1 88 yJ1_canEncode_9a6ad, Cond.static yJ1_canEncode_9a6ad, Cond.code yJ1_canEncode_9a6ad cJ1_canEncode_9a6ad 1 (some .boolean), Cond.methodLink RJ1 95 yJ1_indexOfChar_4cfef, Cond.static yJ1_indexOfChar_4cfef]
def wsX6_goesOn_r3 : List Cond := [Cond.code yJ1_indexOfChar_4cfef cJ1_indexOfChar_4cfef 6 (some .int), Cond.methodLink RJ0 640 yJ2_indexOf_4cfef, Cond.static yJ2_indexOf_4cfef, Cond.initialized RJ2, Cond.code yJ2_indexOf_4cfef cJ2_indexOf_4cfef 4 (some .int), Cond.methodLink RJ2 224 Lib.Math.max.name, Cond.methodLink RJ2 183 Lib.Math.min.name, Cond.constant RJ2 227 (65536), Cond.methodLink RJ2 228 yJ2_indexOfChar_4cfef, Cond.static yJ2_indexOfChar_4cfef, Cond.code yJ2_indexOfChar_4cfef cJ2_indexOfChar_4cfef 4 (some .int), Cond.methodLink RJ2 96 yJ2_checkBoundsBeginEnd_d044e, Cond.static yJ2_checkBoundsBeginEnd_d044e, Cond.code yJ2_checkBoundsBeginEnd_d044e cJ2_checkBoundsBeginEnd_d044e 3 none, Cond.methodLink RJ2 48 yJ2_length_9d52b, Cond.static yJ2_length_9d52b, Cond.code yJ2_length_9d52b cJ2_length_9d52b 1 (some .int), Cond.methodLink RJ2 241 yJ0_checkBoundsBeginEnd_23922, Cond.static yJ0_checkBoundsBeginEnd_23922, Cond.code yJ0_checkBoundsBeginEnd_23922 cJ0_checkBoundsBeginEnd_23922 3 none, Cond.fieldLink RJ0 1053 "jdk/internal/util/Preconditions" "SIOOBE_FORMATTER" "Ljava/util/function/BiFunction;", Cond.methodLink RJ0 1062 yJ3_checkFromToIndex_8c36e, Cond.static yJ3_checkFromToIndex_8c36e, Cond.initialized RJ3]
def wsX6_goesOn_r4 : List Cond := [Cond.code yJ3_checkFromToIndex_8c36e cJ3_checkFromToIndex_8c36e 4 (some .int), Cond.methodLink RJ2 244 yJ2_indexOfCharUnsafe_4cfef, Cond.static yJ2_indexOfCharUnsafe_4cfef, Cond.code yJ2_indexOfCharUnsafe_4cfef cJ2_indexOfCharUnsafe_4cfef 5 (some .int), Cond.methodLink RJ2 71 yJ2_getChar_3b067, Cond.static yJ2_getChar_3b067, Cond.code yJ2_getChar_3b067 cJ2_getChar_3b067 2 (some .char), Cond.fieldLink RJ2 44 "java/lang/StringUTF16" "$assertionsDisabled" "Z", Cond.fieldLink RJ2 59 "java/lang/StringUTF16" "HI_BYTE_SHIFT" "I", Cond.fieldLink RJ2 63 "java/lang/StringUTF16" "LO_BYTE_SHIFT" "I", Cond.methodLink RJ2 232 yJ2_indexOfSupplementary_4cfef, Cond.static yJ2_indexOfSupplementary_4cfef, Cond.code yJ2_indexOfSupplementary_4cfef cJ2_indexOfSupplementary_4cfef 7 (some .int), Cond.methodLink RJ2 164 yJ11_isValidCodePoint_9a6ad, Cond.static yJ11_isValidCodePoint_9a6ad, Cond.initialized RJ11, Cond.code yJ11_isValidCodePoint_9a6ad cJ11_isValidCodePoint_9a6ad 2 (some .boolean), Cond.methodLink RJ2 157 yJ11_highSurrogate_5068e, Cond.static yJ11_highSurrogate_5068e, Cond.code yJ11_highSurrogate_5068e cJ11_highSurrogate_5068e 1 (some .char), Cond.constant RJ11 110 (55232), Cond.methodLink RJ2 161 yJ11_lowSurrogate_5068e, Cond.static yJ11_lowSurrogate_5068e, Cond.code yJ11_lowSurrogate_5068e cJ11_lowSurrogate_5068e 1 (some .char)]
def wsX6_goesOn_r5 : List Cond := [Cond.constant RJ11 76 (56320), Cond.methodLink RX6 52 yX6_takesRelation, Cond.instanceMethod yX6_takesRelation, Cond.selects RX6 yX6_takesRelation yX6_takesRelation, Cond.code yX6_takesRelation cX6_takesRelation 2 (some .boolean), Cond.fieldLink RX6 15 "RowsOfTwo$Sentences" "relations" "[I", Cond.methodLink RX6 55 yX6_takesFigure, Cond.instanceMethod yX6_takesFigure, Cond.selects RX6 yX6_takesFigure yX6_takesFigure, Cond.code yX6_takesFigure cX6_takesFigure 2 (some .boolean), Cond.fieldLink RX6 18 "RowsOfTwo$Sentences" "limits" "[I", Cond.methodLink RX6 58 yX6_takesSecondFigure, Cond.instanceMethod yX6_takesSecondFigure, Cond.selects RX6 yX6_takesSecondFigure yX6_takesSecondFigure, Cond.code yX6_takesSecondFigure cX6_takesSecondFigure 2 (some .boolean), Cond.methodLink RX6 61 yX6_takesJoint, Cond.instanceMethod yX6_takesJoint, Cond.selects RX6 yX6_takesJoint yX6_takesJoint, Cond.code yX6_takesJoint cX6_takesJoint 2 (some .boolean), Cond.fieldLink RX6 21 "RowsOfTwo$Sentences" "opensAlternative" "[Z"]
def wsX6_goesOn : List Cond := .code yX6_goesOn cX6_goesOn 2 (some .boolean) :: ((wsX6_goesOn_r1 ++ (wsX6_goesOn_r2 ++ (wsX6_goesOn_r3 ++ (wsX6_goesOn_r4 ++ wsX6_goesOn_r5)))) ++ wsX60)
def wsX6_append_r1 : List Cond := [Cond.fieldLink RX6 28 "RowsOfTwo$Sentences" "stuckAt" "I", Cond.fieldLink RX6 32 "RowsOfTwo$Sentences" "length" "I", Cond.methodLink RX6 41 yX6_goesOn, Cond.instanceMethod yX6_goesOn, Cond.selects RX6 yX6_goesOn yX6_goesOn, Cond.initialized RX6, Cond.code yX6_goesOn cX6_goesOn 2 (some .boolean), Cond.fieldLink RX6 38 "RowsOfTwo$Sentences" "due" "I", Cond.methodLink RX6 49 yX6_takesLetter, Cond.instanceMethod yX6_takesLetter, Cond.selects RX6 yX6_takesLetter yX6_takesLetter, Cond.code yX6_takesLetter cX6_takesLetter 3 (some .boolean), Cond.fieldLink RX6 35 "RowsOfTwo$Sentences" "tests" "I", Cond.fieldLink RX6 11 "RowsOfTwo$Sentences" "letters" "[I", Cond.methodLink RX6 66 yJ0_indexOf_0f7a4, Cond.instanceMethod yJ0_indexOf_0f7a4, Cond.selects RJ0 yJ0_indexOf_0f7a4 yJ0_indexOf_0f7a4, Cond.initialized RJ0, Cond.code yJ0_indexOf_0f7a4 cJ0_indexOf_0f7a4 2 (some .int), Cond.methodLink RJ0 633 yJ0_indexOf_7cf53, Cond.instanceMethod yJ0_indexOf_7cf53, Cond.selects RJ0 yJ0_indexOf_7cf53 yJ0_indexOf_7cf53, Cond.code yJ0_indexOf_7cf53 cJ0_indexOf_7cf53 3 (some .int), Cond.fieldLink RJ0 9 "java/lang/String" "value" "[B"]
def wsX6_append_r2 : List Cond := [Cond.methodLink RJ0 492 yJ0_isLatin1_aae02, Cond.instanceMethod yJ0_isLatin1_aae02, Cond.selects RJ0 yJ0_isLatin1_aae02 yJ0_isLatin1_aae02, Cond.code yJ0_isLatin1_aae02 cJ0_isLatin1_aae02 1 (some .boolean), Cond.fieldLink RJ0 38 "java/lang/String" "COMPACT_STRINGS" "Z", Cond.fieldLink RJ0 15 "java/lang/String" "coder" "B", Cond.methodLink RJ0 505 yJ0_length_8abf5, Cond.instanceMethod yJ0_length_8abf5, Cond.selects RJ0 yJ0_length_8abf5 yJ0_length_8abf5, Cond.code yJ0_length_8abf5 cJ0_length_8abf5 1 (some .int), Cond.methodLink RJ0 335 yJ0_coder_7d493, Cond.instanceMethod yJ0_coder_7d493, Cond.selects RJ0 yJ0_coder_7d493 yJ0_coder_7d493, Cond.code yJ0_coder_7d493 cJ0_coder_7d493 1 (some .byte), Cond.methodLink RJ0 637 yJ1_indexOf_4cfef, Cond.static yJ1_indexOf_4cfef, Cond.initialized RJ1, Cond.code yJ1_indexOf_4cfef cJ1_indexOf_4cfef 4 (some .int), Cond.methodLink RJ1 92 Lib.Math.max.name, Cond.static Lib.Math.max.name, Cond.initialized "java/lang/Math", Cond.code Lib.Math.max.name Lib.Math.max.code 2 (some .int), Cond.methodLink RJ1 38 Lib.Math.min.name, Cond.static Lib.Math.min.name]
def wsX6_append_r3 : List Cond := [Cond.code Lib.Math.min.name Lib.Math.min.code 2 (some .int), Cond.methodLink RJ1 88 yJ1_canEncode_9a6ad, Cond.static yJ1_canEncode_9a6ad, Cond.code yJ1_canEncode_9a6ad cJ1_canEncode_9a6ad 1 (some .boolean), Cond.methodLink RJ1 95 yJ1_indexOfChar_4cfef, Cond.static yJ1_indexOfChar_4cfef, Cond.code yJ1_indexOfChar_4cfef cJ1_indexOfChar_4cfef 6 (some .int), Cond.methodLink RJ0 640 yJ2_indexOf_4cfef, Cond.static yJ2_indexOf_4cfef, Cond.initialized RJ2, Cond.code yJ2_indexOf_4cfef cJ2_indexOf_4cfef 4 (some .int), Cond.methodLink RJ2 224 Lib.Math.max.name, Cond.methodLink RJ2 183 Lib.Math.min.name, Cond.constant RJ2 227 (65536), Cond.methodLink RJ2 228 yJ2_indexOfChar_4cfef, Cond.static yJ2_indexOfChar_4cfef, Cond.code yJ2_indexOfChar_4cfef cJ2_indexOfChar_4cfef 4 (some .int), Cond.methodLink RJ2 96 yJ2_checkBoundsBeginEnd_d044e, Cond.static yJ2_checkBoundsBeginEnd_d044e, Cond.code yJ2_checkBoundsBeginEnd_d044e cJ2_checkBoundsBeginEnd_d044e 3 none, Cond.methodLink RJ2 48 yJ2_length_9d52b, Cond.static yJ2_length_9d52b, Cond.code yJ2_length_9d52b cJ2_length_9d52b 1 (some .int), Cond.methodLink RJ2 241 yJ0_checkBoundsBeginEnd_23922]
def wsX6_append_r4 : List Cond := [Cond.static yJ0_checkBoundsBeginEnd_23922, Cond.code yJ0_checkBoundsBeginEnd_23922 cJ0_checkBoundsBeginEnd_23922 3 none, Cond.fieldLink RJ0 1053 "jdk/internal/util/Preconditions" "SIOOBE_FORMATTER" "Ljava/util/function/BiFunction;", Cond.methodLink RJ0 1062 yJ3_checkFromToIndex_8c36e, Cond.static yJ3_checkFromToIndex_8c36e, Cond.initialized RJ3, Cond.code yJ3_checkFromToIndex_8c36e cJ3_checkFromToIndex_8c36e 4 (some .int), Cond.methodLink RJ2 244 yJ2_indexOfCharUnsafe_4cfef, Cond.static yJ2_indexOfCharUnsafe_4cfef, Cond.code yJ2_indexOfCharUnsafe_4cfef cJ2_indexOfCharUnsafe_4cfef 5 (some .int), Cond.methodLink RJ2 71 yJ2_getChar_3b067, Cond.static yJ2_getChar_3b067, Cond.code yJ2_getChar_3b067 cJ2_getChar_3b067 2 (some .char), Cond.fieldLink RJ2 44 "java/lang/StringUTF16" "$assertionsDisabled" "Z", Cond.fieldLink RJ2 59 "java/lang/StringUTF16" "HI_BYTE_SHIFT" "I", Cond.fieldLink RJ2 63 "java/lang/StringUTF16" "LO_BYTE_SHIFT" "I", Cond.methodLink RJ2 232 yJ2_indexOfSupplementary_4cfef, Cond.static yJ2_indexOfSupplementary_4cfef, Cond.code yJ2_indexOfSupplementary_4cfef cJ2_indexOfSupplementary_4cfef 7 (some .int), Cond.methodLink RJ2 164 yJ11_isValidCodePoint_9a6ad, Cond.static yJ11_isValidCodePoint_9a6ad, Cond.initialized RJ11, Cond.code yJ11_isValidCodePoint_9a6ad cJ11_isValidCodePoint_9a6ad 2 (some .boolean), Cond.methodLink RJ2 157 yJ11_highSurrogate_5068e]
def wsX6_append_r5 : List Cond := [Cond.static yJ11_highSurrogate_5068e, Cond.code yJ11_highSurrogate_5068e cJ11_highSurrogate_5068e 1 (some .char), Cond.constant RJ11 110 (55232), Cond.methodLink RJ2 161 yJ11_lowSurrogate_5068e, Cond.static yJ11_lowSurrogate_5068e, Cond.code yJ11_lowSurrogate_5068e cJ11_lowSurrogate_5068e 1 (some .char), Cond.constant RJ11 76 (56320), Cond.methodLink RX6 52 yX6_takesRelation, Cond.instanceMethod yX6_takesRelation, Cond.selects RX6 yX6_takesRelation yX6_takesRelation, Cond.code yX6_takesRelation cX6_takesRelation 2 (some .boolean), Cond.fieldLink RX6 15 "RowsOfTwo$Sentences" "relations" "[I", Cond.methodLink RX6 55 yX6_takesFigure, Cond.instanceMethod yX6_takesFigure, Cond.selects RX6 yX6_takesFigure yX6_takesFigure, Cond.code yX6_takesFigure cX6_takesFigure 2 (some .boolean), Cond.fieldLink RX6 18 "RowsOfTwo$Sentences" "limits" "[I", Cond.methodLink RX6 58 yX6_takesSecondFigure, Cond.instanceMethod yX6_takesSecondFigure, Cond.selects RX6 yX6_takesSecondFigure yX6_takesSecondFigure, Cond.code yX6_takesSecondFigure cX6_takesSecondFigure 2 (some .boolean), Cond.methodLink RX6 61 yX6_takesJoint, Cond.instanceMethod yX6_takesJoint, Cond.selects RX6 yX6_takesJoint yX6_takesJoint]
def wsX6_append_r6 : List Cond := [Cond.code yX6_takesJoint cX6_takesJoint 2 (some .boolean), Cond.fieldLink RX6 21 "RowsOfTwo$Sentences" "opensAlternative" "[Z"]
def wsX6_append : List Cond := .code yX6_append cX6_append 2 none :: ((wsX6_append_r1 ++ (wsX6_append_r2 ++ (wsX6_append_r3 ++ (wsX6_append_r4 ++ (wsX6_append_r5 ++ wsX6_append_r6))))) ++ wsX60)
def wsX6_faultPlace : List Cond := .code yX6_faultPlace cX6_faultPlace 1 (some .int) :: ([.fieldLink RX6 28 "RowsOfTwo$Sentences" "stuckAt" "I", .fieldLink RX6 38 "RowsOfTwo$Sentences" "due" "I", .fieldLink RX6 32 "RowsOfTwo$Sentences" "length" "I"] ++ wsX60)
def wsX6_isFaulty : List Cond := .code yX6_isFaulty cX6_isFaulty 1 (some .boolean) :: ([.methodLink RX6 45 yX6_faultPlace, .instanceMethod yX6_faultPlace, .selects RX6 yX6_faultPlace yX6_faultPlace, .initialized RX6, .code yX6_faultPlace cX6_faultPlace 1 (some .int), .fieldLink RX6 28 "RowsOfTwo$Sentences" "stuckAt" "I", .fieldLink RX6 38 "RowsOfTwo$Sentences" "due" "I", .fieldLink RX6 32 "RowsOfTwo$Sentences" "length" "I"] ++ wsX60)
def wsX7_init : List Cond := .code yX7_init cX7_init 1 none :: ([.methodLink RX7 3 objectInit, .instanceMethod objectInit, .code objectInit ⟨#[0xb1]⟩ 1 none, .arrayClass .int, .fieldLink RX7 9 "RowsOfTwo$Sheet" "items" "[I", .fieldLink RX7 15 "RowsOfTwo$Sheet" "lost" "Z"] ++ wsX70)
def wsX7_renew : List Cond := .code yX7_renew cX7_renew 4 none :: ([.fieldLink RX7 9 "RowsOfTwo$Sheet" "items" "[I", .fieldLink RX7 15 "RowsOfTwo$Sheet" "lost" "Z", .fieldLink RX7 19 "RowsOfTwo$Sheet" "kind" "I", .fieldLink RX7 23 "RowsOfTwo$Sheet" "size" "I"] ++ wsX70)
def wsX7_store : List Cond := .code yX7_store cX7_store 3 none :: ([.fieldLink RX7 19 "RowsOfTwo$Sheet" "kind" "I", .fieldLink RX7 9 "RowsOfTwo$Sheet" "items" "[I"] ++ wsX70)
def wsX7_hasSpan : List Cond := .code yX7_hasSpan cX7_hasSpan 3 (some .boolean) :: ([.fieldLink RX7 23 "RowsOfTwo$Sheet" "size" "I"] ++ wsX70)
def wsX8_init : List Cond := .code yX8_init cX8_init 1 none :: ([.methodLink RX8 3 objectInit, .instanceMethod objectInit, .code objectInit ⟨#[0xb1]⟩ 1 none, .classLink RX8 9 "[[I", .arrayClass .int, .fieldLink RX8 11 "RowsOfTwo$Shown" "tallies" "[[I", .arrayClass .boolean, .fieldLink RX8 16 "RowsOfTwo$Shown" "known" "[Z"] ++ wsX80)
def wsX8_forget : List Cond := .code yX8_forget cX8_forget 2 none :: ([.fieldLink RX8 16 "RowsOfTwo$Shown" "known" "[Z"] ++ wsX80)
def wsX8_learn_r1 : List Cond := [Cond.fieldLink RX8 16 "RowsOfTwo$Shown" "known" "[Z", Cond.fieldLink RX8 11 "RowsOfTwo$Shown" "tallies" "[[I", Cond.methodLink RX8 20 yX6_hold, Cond.instanceMethod yX6_hold, Cond.selects RX6 yX6_hold yX6_hold, Cond.initialized RX6, Cond.code yX6_hold cX6_hold 8 (some .boolean), Cond.fieldLink RX6 35 "RowsOfTwo$Sentences" "tests" "I", Cond.fieldLink RX6 21 "RowsOfTwo$Sentences" "opensAlternative" "[Z", Cond.fieldLink RX6 11 "RowsOfTwo$Sentences" "letters" "[I", Cond.fieldLink RX6 25 "RowsOfTwo$Sentences" "measured" "[I", Cond.methodLink RX6 72 yX3_measure, Cond.static yX3_measure, Cond.initialized RX3, Cond.code yX3_measure cX3_measure 4 (some .int), Cond.methodLink RX3 24 Lib.Math.max.name, Cond.static Lib.Math.max.name, Cond.initialized "java/lang/Math", Cond.code Lib.Math.max.name Lib.Math.max.code 2 (some .int), Cond.methodLink RX3 9 yJ6_bitCount_0f7a4, Cond.static yJ6_bitCount_0f7a4, Cond.initialized RJ6, Cond.code yJ6_bitCount_0f7a4 cJ6_bitCount_0f7a4 1 (some .int), Cond.constant RJ6 265 (1431655765)]
def wsX8_learn_r2 : List Cond := [Cond.constant RJ6 266 (858993459), Cond.constant RJ6 267 (252645135), Cond.methodLink RX3 15 yX3_runs, Cond.static yX3_runs, Cond.code yX3_runs cX3_runs 3 (some .int), Cond.methodLink RX3 21 yX3_longestRun, Cond.static yX3_longestRun, Cond.code yX3_longestRun cX3_longestRun 3 (some .int), Cond.methodLink RX3 29 yX3_firstHit, Cond.static yX3_firstHit, Cond.code yX3_firstHit cX3_firstHit 3 (some .int), Cond.methodLink RX3 32 yX4_timesIn, Cond.static yX4_timesIn, Cond.initialized RX4, Cond.code yX4_timesIn cX4_timesIn 7 (some .int), Cond.methodLink RX4 11 yX4_lengthOf, Cond.static yX4_lengthOf, Cond.code yX4_lengthOf cX4_lengthOf 2 (some .int), Cond.methodLink RX4 15 yJ6_bitCount_0f7a4, Cond.methodLink RX6 78 yX6_isDone, Cond.instanceMethod yX6_isDone, Cond.selects RX6 yX6_isDone yX6_isDone, Cond.code yX6_isDone cX6_isDone 3 (some .boolean), Cond.fieldLink RX6 15 "RowsOfTwo$Sentences" "relations" "[I"]
def wsX8_learn_r3 : List Cond := [Cond.fieldLink RX6 18 "RowsOfTwo$Sentences" "limits" "[I", Cond.methodLink RX8 26 yJ6_bitCount_0f7a4]
def wsX8_learn : List Cond := .code yX8_learn cX8_learn 6 none :: ((wsX8_learn_r1 ++ (wsX8_learn_r2 ++ wsX8_learn_r3)) ++ wsX80 ++ wsX60)
def wsX9_sum : List Cond := .code yX9_sum cX9_sum 6 (some .int) :: ([])
def wsX9_sharePart : List Cond := .code yX9_sharePart cX9_sharePart 9 (some .long) :: ([.constantLong RX9 15 (16), .methodLink RX9 9 yX1_power, .static yX1_power, .initialized RX1, .code yX1_power cX1_power 6 (some .long), .methodLink RX9 17 yX1_part, .static yX1_part, .code yX1_part cX1_part 7 (some .long), .methodLink RX1 7 yX1_commonDivisor, .static yX1_commonDivisor, .code yX1_commonDivisor cX1_commonDivisor 11 (some .long)])
def wsX10_init_r1 : List Cond := [Cond.methodLink RX10 1 objectInit, Cond.instanceMethod objectInit, Cond.code objectInit ⟨#[0xb1]⟩ 1 none, Cond.classLink RX10 9 RX5, Cond.fieldLink RX10 11 "RowsOfTwo" "rows" "[LRowsOfTwo$Row;", Cond.instantiable RX5 3, Cond.initialized RX5, Cond.classLink RX10 16 RX7, Cond.fieldLink RX10 18 "RowsOfTwo" "sheets" "[LRowsOfTwo$Sheet;", Cond.instantiable RX7 4, Cond.initialized RX7, Cond.classLink RX10 23 RX6, Cond.instantiable RX6 9, Cond.initialized RX6, Cond.fieldLink RX10 26 "RowsOfTwo" "sentences" "LRowsOfTwo$Sentences;", Cond.classLink RX10 30 RX8, Cond.instantiable RX8 2, Cond.initialized RX8, Cond.fieldLink RX10 33 "RowsOfTwo" "shownRows" "LRowsOfTwo$Shown;", Cond.classLink RX10 37 RX0, Cond.instantiable RX0 3, Cond.initialized RX0, Cond.fieldLink RX10 40 "RowsOfTwo" "heldFills" "LRowsOfTwo$Fills;", Cond.fieldLink RX10 44 "RowsOfTwo" "odds" "I"]
def wsX10_init_r2 : List Cond := [Cond.fieldLink RX10 48 "RowsOfTwo" "pattern" "I", Cond.fieldLink RX10 51 "RowsOfTwo" "finding" "I", Cond.instanceMethod yX5_init, Cond.code yX5_init cX5_init 1 none, Cond.methodLink RX5 3 objectInit, Cond.methodLink RX10 22 yX7_init, Cond.instanceMethod yX7_init, Cond.code yX7_init cX7_init 1 none, Cond.methodLink RX7 3 objectInit, Cond.arrayClass .int, Cond.fieldLink RX7 9 "RowsOfTwo$Sheet" "items" "[I", Cond.fieldLink RX7 15 "RowsOfTwo$Sheet" "lost" "Z", Cond.methodLink RX10 25 yX6_init, Cond.instanceMethod yX6_init, Cond.code yX6_init cX6_init 1 none, Cond.methodLink RX6 3 objectInit, Cond.fieldLink RX6 11 "RowsOfTwo$Sentences" "letters" "[I", Cond.fieldLink RX6 15 "RowsOfTwo$Sentences" "relations" "[I", Cond.fieldLink RX6 18 "RowsOfTwo$Sentences" "limits" "[I", Cond.arrayClass .boolean, Cond.fieldLink RX6 21 "RowsOfTwo$Sentences" "opensAlternative" "[Z", Cond.fieldLink RX6 25 "RowsOfTwo$Sentences" "measured" "[I", Cond.fieldLink RX6 28 "RowsOfTwo$Sentences" "stuckAt" "I", Cond.methodLink RX10 32 yX8_init]
def wsX10_init_r3 : List Cond := [Cond.instanceMethod yX8_init, Cond.code yX8_init cX8_init 1 none, Cond.methodLink RX8 3 objectInit, Cond.classLink RX8 9 "[[I", Cond.fieldLink RX8 11 "RowsOfTwo$Shown" "tallies" "[[I", Cond.fieldLink RX8 16 "RowsOfTwo$Shown" "known" "[Z", Cond.methodLink RX10 39 yX0_init, Cond.instanceMethod yX0_init, Cond.code yX0_init cX0_init 1 none, Cond.methodLink RX0 3 objectInit, Cond.fieldLink RX0 9 "RowsOfTwo$Fills" "tally" "[I"]
def wsX10_init : List Cond := .code yX10_init cX10_init 2 none :: ((wsX10_init_r1 ++ (wsX10_init_r2 ++ wsX10_init_r3)) ++ wsX100 ++ wsX50 ++ wsX70 ++ wsX60 ++ wsX80 ++ wsX00)
def wsX10_isRow : List Cond := .code yX10_isRow cX10_isRow 1 (some .boolean) :: ([])
def wsX10_sign : List Cond := .code yX10_sign cX10_sign 4 (some .int) :: ([.fieldLink RX10 11 "RowsOfTwo" "rows" "[LRowsOfTwo$Row;", .fieldLink RX10 69 "RowsOfTwo$Row" "length" "I", .methodLink RX10 54 yX10_isRow, .static yX10_isRow, .initialized RX10, .code yX10_isRow cX10_isRow 1 (some .boolean), .methodLink RX10 58 yX5_maySee, .static yX5_maySee, .initialized RX5, .code yX5_maySee cX5_maySee 1 (some .boolean), .methodLink RX10 61 yX5_isFull, .instanceMethod yX5_isFull, .selects RX5 yX5_isFull yX5_isFull, .code yX5_isFull cX5_isFull 1 (some .boolean), .fieldLink RX5 9 "RowsOfTwo$Row" "length" "I", .methodLink RX10 65 yX5_append, .instanceMethod yX5_append, .selects RX5 yX5_append yX5_append, .code yX5_append cX5_append 2 none, .fieldLink RX5 18 "RowsOfTwo$Row" "hits" "I", .fieldLink RX5 15 "RowsOfTwo$Row" "unseen" "I"] ++ wsX100 ++ wsX50)
def wsX10_isSheet : List Cond := .code yX10_isSheet cX10_isSheet 1 (some .boolean) :: ([])
def wsX10_found : List Cond := .code yX10_found cX10_found 2 (some .int) :: ([.fieldLink RX10 51 "RowsOfTwo" "finding" "I"] ++ wsX100)
def wsX10_read_r1 : List Cond := [Cond.fieldLink RX10 18 "RowsOfTwo" "sheets" "[LRowsOfTwo$Sheet;", Cond.fieldLink RX10 75 "RowsOfTwo$Sheet" "lost" "Z", Cond.fieldLink RX10 11 "RowsOfTwo" "rows" "[LRowsOfTwo$Row;", Cond.fieldLink RX10 83 "RowsOfTwo$Sheet" "size" "I", Cond.fieldLink RX10 86 "RowsOfTwo$Sheet" "items" "[I", Cond.methodLink RX10 72 yX10_isSheet, Cond.static yX10_isSheet, Cond.initialized RX10, Cond.code yX10_isSheet cX10_isSheet 1 (some .boolean), Cond.methodLink RX10 54 yX10_isRow, Cond.static yX10_isRow, Cond.code yX10_isRow cX10_isRow 1 (some .boolean), Cond.methodLink RX10 79 yX10_found, Cond.instanceMethod yX10_found, Cond.selects RX10 yX10_found yX10_found, Cond.code yX10_found cX10_found 2 (some .int), Cond.fieldLink RX10 51 "RowsOfTwo" "finding" "I", Cond.methodLink RX10 61 yX5_isFull, Cond.instanceMethod yX5_isFull, Cond.selects RX5 yX5_isFull yX5_isFull, Cond.initialized RX5, Cond.code yX5_isFull cX5_isFull 1 (some .boolean), Cond.fieldLink RX5 9 "RowsOfTwo$Row" "length" "I", Cond.methodLink RX10 58 yX5_maySee]
def wsX10_read_r2 : List Cond := [Cond.static yX5_maySee, Cond.code yX5_maySee cX5_maySee 1 (some .boolean), Cond.methodLink RX10 65 yX5_append, Cond.instanceMethod yX5_append, Cond.selects RX5 yX5_append yX5_append, Cond.code yX5_append cX5_append 2 none, Cond.fieldLink RX5 18 "RowsOfTwo$Row" "hits" "I", Cond.fieldLink RX5 15 "RowsOfTwo$Row" "unseen" "I"]
def wsX10_read : List Cond := .code yX10_read cX10_read 6 (some .int) :: ((wsX10_read_r1 ++ wsX10_read_r2) ++ wsX100 ++ wsX70 ++ wsX50)
def wsX10_clear : List Cond := .code yX10_clear cX10_clear 3 (some .int) :: ([.fieldLink RX10 11 "RowsOfTwo" "rows" "[LRowsOfTwo$Row;", .fieldLink RX10 69 "RowsOfTwo$Row" "length" "I", .methodLink RX10 54 yX10_isRow, .static yX10_isRow, .initialized RX10, .code yX10_isRow cX10_isRow 1 (some .boolean), .methodLink RX10 90 yX5_empty, .instanceMethod yX5_empty, .selects RX5 yX5_empty yX5_empty, .initialized RX5, .code yX5_empty cX5_empty 1 none, .fieldLink RX5 9 "RowsOfTwo$Row" "length" "I", .fieldLink RX5 18 "RowsOfTwo$Row" "hits" "I", .fieldLink RX5 15 "RowsOfTwo$Row" "unseen" "I"] ++ wsX100 ++ wsX50)
def wsX10_at : List Cond := .code yX10_at cX10_at 3 (some .int) :: ([.fieldLink RX10 11 "RowsOfTwo" "rows" "[LRowsOfTwo$Row;", .fieldLink RX10 69 "RowsOfTwo$Row" "length" "I", .methodLink RX10 54 yX10_isRow, .static yX10_isRow, .initialized RX10, .code yX10_isRow cX10_isRow 1 (some .boolean), .methodLink RX10 93 yX5_signAt, .instanceMethod yX5_signAt, .selects RX5 yX5_signAt yX5_signAt, .initialized RX5, .code yX5_signAt cX5_signAt 3 (some .int), .fieldLink RX5 9 "RowsOfTwo$Row" "length" "I", .fieldLink RX5 15 "RowsOfTwo$Row" "unseen" "I", .fieldLink RX5 18 "RowsOfTwo$Row" "hits" "I"] ++ wsX100 ++ wsX50)
def wsX10_set : List Cond := .code yX10_set cX10_set 4 (some .int) :: ([.fieldLink RX10 44 "RowsOfTwo" "odds" "I", .fieldLink RX10 48 "RowsOfTwo" "pattern" "I", .fieldLink RX10 33 "RowsOfTwo" "shownRows" "LRowsOfTwo$Shown;", .methodLink RX10 96 yX8_forget, .instanceMethod yX8_forget, .selects RX8 yX8_forget yX8_forget, .initialized RX8, .code yX8_forget cX8_forget 2 none, .fieldLink RX8 16 "RowsOfTwo$Shown" "known" "[Z"] ++ wsX100 ++ wsX80)
def wsX10_isNumber : List Cond := .code yX10_isNumber cX10_isNumber 1 (some .boolean) :: ([])
def wsX10_numberOf_r1 : List Cond := [Cond.fieldLink RX10 69 "RowsOfTwo$Row" "length" "I", Cond.fieldLink RX10 119 "RowsOfTwo$Row" "hits" "I", Cond.fieldLink RX10 48 "RowsOfTwo" "pattern" "I", Cond.methodLink RX10 297 yX3_measure, Cond.static yX3_measure, Cond.initialized RX3, Cond.code yX3_measure cX3_measure 4 (some .int), Cond.methodLink RX3 24 Lib.Math.max.name, Cond.static Lib.Math.max.name, Cond.initialized "java/lang/Math", Cond.code Lib.Math.max.name Lib.Math.max.code 2 (some .int), Cond.methodLink RX3 9 yJ6_bitCount_0f7a4, Cond.static yJ6_bitCount_0f7a4, Cond.initialized RJ6, Cond.code yJ6_bitCount_0f7a4 cJ6_bitCount_0f7a4 1 (some .int), Cond.constant RJ6 265 (1431655765), Cond.constant RJ6 266 (858993459), Cond.constant RJ6 267 (252645135), Cond.methodLink RX3 15 yX3_runs, Cond.static yX3_runs, Cond.code yX3_runs cX3_runs 3 (some .int), Cond.methodLink RX3 21 yX3_longestRun, Cond.static yX3_longestRun, Cond.code yX3_longestRun cX3_longestRun 3 (some .int)]
def wsX10_numberOf_r2 : List Cond := [Cond.methodLink RX3 29 yX3_firstHit, Cond.static yX3_firstHit, Cond.code yX3_firstHit cX3_firstHit 3 (some .int), Cond.methodLink RX3 32 yX4_timesIn, Cond.static yX4_timesIn, Cond.initialized RX4, Cond.code yX4_timesIn cX4_timesIn 7 (some .int), Cond.methodLink RX4 11 yX4_lengthOf, Cond.static yX4_lengthOf, Cond.code yX4_lengthOf cX4_lengthOf 2 (some .int), Cond.methodLink RX4 15 yJ6_bitCount_0f7a4]
def wsX10_numberOf : List Cond := .code yX10_numberOf cX10_numberOf 3 (some .int) :: ((wsX10_numberOf_r1 ++ wsX10_numberOf_r2) ++ wsX50 ++ wsX100)
def wsX10_shows_r1 : List Cond := [Cond.fieldLink RX10 11 "RowsOfTwo" "rows" "[LRowsOfTwo$Row;", Cond.methodLink RX10 54 yX10_isRow, Cond.static yX10_isRow, Cond.initialized RX10, Cond.code yX10_isRow cX10_isRow 1 (some .boolean), Cond.methodLink RX10 99 yX10_isNumber, Cond.static yX10_isNumber, Cond.code yX10_isNumber cX10_isNumber 1 (some .boolean), Cond.methodLink RX10 102 yX5_isWhole, Cond.instanceMethod yX5_isWhole, Cond.selects RX5 yX5_isWhole yX5_isWhole, Cond.initialized RX5, Cond.code yX5_isWhole cX5_isWhole 1 (some .boolean), Cond.fieldLink RX5 15 "RowsOfTwo$Row" "unseen" "I", Cond.methodLink RX10 105 yX10_numberOf, Cond.instanceMethod yX10_numberOf, Cond.selects RX10 yX10_numberOf yX10_numberOf, Cond.code yX10_numberOf cX10_numberOf 3 (some .int), Cond.fieldLink RX10 69 "RowsOfTwo$Row" "length" "I", Cond.fieldLink RX10 119 "RowsOfTwo$Row" "hits" "I", Cond.fieldLink RX10 48 "RowsOfTwo" "pattern" "I", Cond.methodLink RX10 297 yX3_measure, Cond.static yX3_measure, Cond.initialized RX3]
def wsX10_shows_r2 : List Cond := [Cond.code yX3_measure cX3_measure 4 (some .int), Cond.methodLink RX3 24 Lib.Math.max.name, Cond.static Lib.Math.max.name, Cond.initialized "java/lang/Math", Cond.code Lib.Math.max.name Lib.Math.max.code 2 (some .int), Cond.methodLink RX3 9 yJ6_bitCount_0f7a4, Cond.static yJ6_bitCount_0f7a4, Cond.initialized RJ6, Cond.code yJ6_bitCount_0f7a4 cJ6_bitCount_0f7a4 1 (some .int), Cond.constant RJ6 265 (1431655765), Cond.constant RJ6 266 (858993459), Cond.constant RJ6 267 (252645135), Cond.methodLink RX3 15 yX3_runs, Cond.static yX3_runs, Cond.code yX3_runs cX3_runs 3 (some .int), Cond.methodLink RX3 21 yX3_longestRun, Cond.static yX3_longestRun, Cond.code yX3_longestRun cX3_longestRun 3 (some .int), Cond.methodLink RX3 29 yX3_firstHit, Cond.static yX3_firstHit, Cond.code yX3_firstHit cX3_firstHit 3 (some .int), Cond.methodLink RX3 32 yX4_timesIn, Cond.static yX4_timesIn, Cond.initialized RX4]
def wsX10_shows_r3 : List Cond := [Cond.code yX4_timesIn cX4_timesIn 7 (some .int), Cond.methodLink RX4 11 yX4_lengthOf, Cond.static yX4_lengthOf, Cond.code yX4_lengthOf cX4_lengthOf 2 (some .int), Cond.methodLink RX4 15 yJ6_bitCount_0f7a4]
def wsX10_shows : List Cond := .code yX10_shows cX10_shows 3 (some .int) :: ((wsX10_shows_r1 ++ (wsX10_shows_r2 ++ wsX10_shows_r3)) ++ wsX100 ++ wsX50)
def wsX10_type_r1 : List Cond := [Cond.fieldLink RX10 26 "RowsOfTwo" "sentences" "LRowsOfTwo$Sentences;", Cond.fieldLink RX10 109 "RowsOfTwo$Sentences" "length" "I", Cond.fieldLink RX10 33 "RowsOfTwo" "shownRows" "LRowsOfTwo$Shown;", Cond.methodLink RX10 110 yX6_append, Cond.instanceMethod yX6_append, Cond.selects RX6 yX6_append yX6_append, Cond.initialized RX6, Cond.code yX6_append cX6_append 2 none, Cond.fieldLink RX6 28 "RowsOfTwo$Sentences" "stuckAt" "I", Cond.fieldLink RX6 32 "RowsOfTwo$Sentences" "length" "I", Cond.methodLink RX6 41 yX6_goesOn, Cond.instanceMethod yX6_goesOn, Cond.selects RX6 yX6_goesOn yX6_goesOn, Cond.code yX6_goesOn cX6_goesOn 2 (some .boolean), Cond.fieldLink RX6 38 "RowsOfTwo$Sentences" "due" "I", Cond.methodLink RX6 49 yX6_takesLetter, Cond.instanceMethod yX6_takesLetter, Cond.selects RX6 yX6_takesLetter yX6_takesLetter, Cond.code yX6_takesLetter cX6_takesLetter 3 (some .boolean), Cond.fieldLink RX6 35 "RowsOfTwo$Sentences" "tests" "I", Cond.fieldLink RX6 11 "RowsOfTwo$Sentences" "letters" "[I", Cond.methodLink RX6 66 yJ0_indexOf_0f7a4, Cond.instanceMethod yJ0_indexOf_0f7a4, Cond.selects RJ0 yJ0_indexOf_0f7a4 yJ0_indexOf_0f7a4]
def wsX10_type_r2 : List Cond := [Cond.initialized RJ0, Cond.code yJ0_indexOf_0f7a4 cJ0_indexOf_0f7a4 2 (some .int), Cond.methodLink RJ0 633 yJ0_indexOf_7cf53, Cond.instanceMethod yJ0_indexOf_7cf53, Cond.selects RJ0 yJ0_indexOf_7cf53 yJ0_indexOf_7cf53, Cond.code yJ0_indexOf_7cf53 cJ0_indexOf_7cf53 3 (some .int), Cond.fieldLink RJ0 9 "java/lang/String" "value" "[B", Cond.methodLink RJ0 492 yJ0_isLatin1_aae02, Cond.instanceMethod yJ0_isLatin1_aae02, Cond.selects RJ0 yJ0_isLatin1_aae02 yJ0_isLatin1_aae02, Cond.code yJ0_isLatin1_aae02 cJ0_isLatin1_aae02 1 (some .boolean), Cond.fieldLink RJ0 38 "java/lang/String" "COMPACT_STRINGS" "Z", Cond.fieldLink RJ0 15 "java/lang/String" "coder" "B", Cond.methodLink RJ0 505 yJ0_length_8abf5, Cond.instanceMethod yJ0_length_8abf5, Cond.selects RJ0 yJ0_length_8abf5 yJ0_length_8abf5, Cond.code yJ0_length_8abf5 cJ0_length_8abf5 1 (some .int), Cond.methodLink RJ0 335 yJ0_coder_7d493, Cond.instanceMethod yJ0_coder_7d493, Cond.selects RJ0 yJ0_coder_7d493 yJ0_coder_7d493, Cond.code yJ0_coder_7d493 cJ0_coder_7d493 1 (some .byte), Cond.methodLink RJ0 637 yJ1_indexOf_4cfef, Cond.static yJ1_indexOf_4cfef, Cond.initialized RJ1]
def wsX10_type_r3 : List Cond := [Cond.code yJ1_indexOf_4cfef cJ1_indexOf_4cfef 4 (some .int), Cond.methodLink RJ1 92 Lib.Math.max.name, Cond.static Lib.Math.max.name, Cond.initialized "java/lang/Math", Cond.code Lib.Math.max.name Lib.Math.max.code 2 (some .int), Cond.methodLink RJ1 38 Lib.Math.min.name, Cond.static Lib.Math.min.name, Cond.code Lib.Math.min.name Lib.Math.min.code 2 (some .int), Cond.methodLink RJ1 88 yJ1_canEncode_9a6ad, Cond.static yJ1_canEncode_9a6ad, Cond.code yJ1_canEncode_9a6ad cJ1_canEncode_9a6ad 1 (some .boolean), Cond.methodLink RJ1 95 yJ1_indexOfChar_4cfef, Cond.static yJ1_indexOfChar_4cfef, Cond.code yJ1_indexOfChar_4cfef cJ1_indexOfChar_4cfef 6 (some .int), Cond.methodLink RJ0 640 yJ2_indexOf_4cfef, Cond.static yJ2_indexOf_4cfef, Cond.initialized RJ2, Cond.code yJ2_indexOf_4cfef cJ2_indexOf_4cfef 4 (some .int), Cond.methodLink RJ2 224 Lib.Math.max.name, Cond.methodLink RJ2 183 Lib.Math.min.name, Cond.constant RJ2 227 (65536), Cond.methodLink RJ2 228 yJ2_indexOfChar_4cfef, Cond.static yJ2_indexOfChar_4cfef, Cond.code yJ2_indexOfChar_4cfef cJ2_indexOfChar_4cfef 4 (some .int)]
def wsX10_type_r4 : List Cond := [Cond.methodLink RJ2 96 yJ2_checkBoundsBeginEnd_d044e, Cond.static yJ2_checkBoundsBeginEnd_d044e, Cond.code yJ2_checkBoundsBeginEnd_d044e cJ2_checkBoundsBeginEnd_d044e 3 none, Cond.methodLink RJ2 48 yJ2_length_9d52b, Cond.static yJ2_length_9d52b, Cond.code yJ2_length_9d52b cJ2_length_9d52b 1 (some .int), Cond.methodLink RJ2 241 yJ0_checkBoundsBeginEnd_23922, Cond.static yJ0_checkBoundsBeginEnd_23922, Cond.code yJ0_checkBoundsBeginEnd_23922 cJ0_checkBoundsBeginEnd_23922 3 none, Cond.fieldLink RJ0 1053 "jdk/internal/util/Preconditions" "SIOOBE_FORMATTER" "Ljava/util/function/BiFunction;", Cond.methodLink RJ0 1062 yJ3_checkFromToIndex_8c36e, Cond.static yJ3_checkFromToIndex_8c36e, Cond.initialized RJ3, Cond.code yJ3_checkFromToIndex_8c36e cJ3_checkFromToIndex_8c36e 4 (some .int), Cond.methodLink RJ2 244 yJ2_indexOfCharUnsafe_4cfef, Cond.static yJ2_indexOfCharUnsafe_4cfef, Cond.code yJ2_indexOfCharUnsafe_4cfef cJ2_indexOfCharUnsafe_4cfef 5 (some .int), Cond.methodLink RJ2 71 yJ2_getChar_3b067, Cond.static yJ2_getChar_3b067, Cond.code yJ2_getChar_3b067 cJ2_getChar_3b067 2 (some .char), Cond.fieldLink RJ2 44 "java/lang/StringUTF16" "$assertionsDisabled" "Z", Cond.fieldLink RJ2 59 "java/lang/StringUTF16" "HI_BYTE_SHIFT" "I", Cond.fieldLink RJ2 63 "java/lang/StringUTF16" "LO_BYTE_SHIFT" "I", Cond.methodLink RJ2 232 yJ2_indexOfSupplementary_4cfef]
def wsX10_type_r5 : List Cond := [Cond.static yJ2_indexOfSupplementary_4cfef, Cond.code yJ2_indexOfSupplementary_4cfef cJ2_indexOfSupplementary_4cfef 7 (some .int), Cond.methodLink RJ2 164 yJ11_isValidCodePoint_9a6ad, Cond.static yJ11_isValidCodePoint_9a6ad, Cond.initialized RJ11, Cond.code yJ11_isValidCodePoint_9a6ad cJ11_isValidCodePoint_9a6ad 2 (some .boolean), Cond.methodLink RJ2 157 yJ11_highSurrogate_5068e, Cond.static yJ11_highSurrogate_5068e, Cond.code yJ11_highSurrogate_5068e cJ11_highSurrogate_5068e 1 (some .char), Cond.constant RJ11 110 (55232), Cond.methodLink RJ2 161 yJ11_lowSurrogate_5068e, Cond.static yJ11_lowSurrogate_5068e, Cond.code yJ11_lowSurrogate_5068e cJ11_lowSurrogate_5068e 1 (some .char), Cond.constant RJ11 76 (56320), Cond.methodLink RX6 52 yX6_takesRelation, Cond.instanceMethod yX6_takesRelation, Cond.selects RX6 yX6_takesRelation yX6_takesRelation, Cond.code yX6_takesRelation cX6_takesRelation 2 (some .boolean), Cond.fieldLink RX6 15 "RowsOfTwo$Sentences" "relations" "[I", Cond.methodLink RX6 55 yX6_takesFigure, Cond.instanceMethod yX6_takesFigure, Cond.selects RX6 yX6_takesFigure yX6_takesFigure, Cond.code yX6_takesFigure cX6_takesFigure 2 (some .boolean), Cond.fieldLink RX6 18 "RowsOfTwo$Sentences" "limits" "[I"]
def wsX10_type_r6 : List Cond := [Cond.methodLink RX6 58 yX6_takesSecondFigure, Cond.instanceMethod yX6_takesSecondFigure, Cond.selects RX6 yX6_takesSecondFigure yX6_takesSecondFigure, Cond.code yX6_takesSecondFigure cX6_takesSecondFigure 2 (some .boolean), Cond.methodLink RX6 61 yX6_takesJoint, Cond.instanceMethod yX6_takesJoint, Cond.selects RX6 yX6_takesJoint yX6_takesJoint, Cond.code yX6_takesJoint cX6_takesJoint 2 (some .boolean), Cond.fieldLink RX6 21 "RowsOfTwo$Sentences" "opensAlternative" "[Z", Cond.methodLink RX10 96 yX8_forget, Cond.instanceMethod yX8_forget, Cond.selects RX8 yX8_forget yX8_forget, Cond.initialized RX8, Cond.code yX8_forget cX8_forget 2 none, Cond.fieldLink RX8 16 "RowsOfTwo$Shown" "known" "[Z"]
def wsX10_type : List Cond := .code yX10_type cX10_type 2 (some .int) :: ((wsX10_type_r1 ++ (wsX10_type_r2 ++ (wsX10_type_r3 ++ (wsX10_type_r4 ++ (wsX10_type_r5 ++ wsX10_type_r6))))) ++ wsX100 ++ wsX60 ++ wsX80)
def wsX10_wipe : List Cond := .code yX10_wipe cX10_wipe 2 (some .int) :: ([.fieldLink RX10 26 "RowsOfTwo" "sentences" "LRowsOfTwo$Sentences;", .fieldLink RX10 109 "RowsOfTwo$Sentences" "length" "I", .fieldLink RX10 33 "RowsOfTwo" "shownRows" "LRowsOfTwo$Shown;", .methodLink RX10 111 yX6_empty, .instanceMethod yX6_empty, .selects RX6 yX6_empty yX6_empty, .initialized RX6, .code yX6_empty cX6_empty 1 none, .fieldLink RX6 32 "RowsOfTwo$Sentences" "length" "I", .fieldLink RX6 35 "RowsOfTwo$Sentences" "tests" "I", .fieldLink RX6 38 "RowsOfTwo$Sentences" "due" "I", .fieldLink RX6 28 "RowsOfTwo$Sentences" "stuckAt" "I", .methodLink RX10 96 yX8_forget, .instanceMethod yX8_forget, .selects RX8 yX8_forget yX8_forget, .initialized RX8, .code yX8_forget cX8_forget 2 none, .fieldLink RX8 16 "RowsOfTwo$Shown" "known" "[Z"] ++ wsX100 ++ wsX60 ++ wsX80)
def wsX10_fault : List Cond := .code yX10_fault cX10_fault 1 (some .int) :: ([.fieldLink RX10 26 "RowsOfTwo" "sentences" "LRowsOfTwo$Sentences;", .methodLink RX10 112 yX6_faultPlace, .instanceMethod yX6_faultPlace, .selects RX6 yX6_faultPlace yX6_faultPlace, .initialized RX6, .code yX6_faultPlace cX6_faultPlace 1 (some .int), .fieldLink RX6 28 "RowsOfTwo$Sentences" "stuckAt" "I", .fieldLink RX6 38 "RowsOfTwo$Sentences" "due" "I", .fieldLink RX6 32 "RowsOfTwo$Sentences" "length" "I"] ++ wsX100 ++ wsX60)
def wsX10_holds_r1 : List Cond := [Cond.fieldLink RX10 11 "RowsOfTwo" "rows" "[LRowsOfTwo$Row;", Cond.fieldLink RX10 26 "RowsOfTwo" "sentences" "LRowsOfTwo$Sentences;", Cond.fieldLink RX10 69 "RowsOfTwo$Row" "length" "I", Cond.fieldLink RX10 119 "RowsOfTwo$Row" "hits" "I", Cond.fieldLink RX10 48 "RowsOfTwo" "pattern" "I", Cond.methodLink RX10 54 yX10_isRow, Cond.static yX10_isRow, Cond.initialized RX10, Cond.code yX10_isRow cX10_isRow 1 (some .boolean), Cond.methodLink RX10 102 yX5_isWhole, Cond.instanceMethod yX5_isWhole, Cond.selects RX5 yX5_isWhole yX5_isWhole, Cond.initialized RX5, Cond.code yX5_isWhole cX5_isWhole 1 (some .boolean), Cond.fieldLink RX5 15 "RowsOfTwo$Row" "unseen" "I", Cond.methodLink RX10 116 yX6_isFaulty, Cond.instanceMethod yX6_isFaulty, Cond.selects RX6 yX6_isFaulty yX6_isFaulty, Cond.initialized RX6, Cond.code yX6_isFaulty cX6_isFaulty 1 (some .boolean), Cond.methodLink RX6 45 yX6_faultPlace, Cond.instanceMethod yX6_faultPlace, Cond.selects RX6 yX6_faultPlace yX6_faultPlace, Cond.code yX6_faultPlace cX6_faultPlace 1 (some .int)]
def wsX10_holds_r2 : List Cond := [Cond.fieldLink RX6 28 "RowsOfTwo$Sentences" "stuckAt" "I", Cond.fieldLink RX6 38 "RowsOfTwo$Sentences" "due" "I", Cond.fieldLink RX6 32 "RowsOfTwo$Sentences" "length" "I", Cond.methodLink RX10 122 yX6_hold, Cond.instanceMethod yX6_hold, Cond.selects RX6 yX6_hold yX6_hold, Cond.code yX6_hold cX6_hold 8 (some .boolean), Cond.fieldLink RX6 35 "RowsOfTwo$Sentences" "tests" "I", Cond.fieldLink RX6 21 "RowsOfTwo$Sentences" "opensAlternative" "[Z", Cond.fieldLink RX6 11 "RowsOfTwo$Sentences" "letters" "[I", Cond.fieldLink RX6 25 "RowsOfTwo$Sentences" "measured" "[I", Cond.methodLink RX6 72 yX3_measure, Cond.static yX3_measure, Cond.initialized RX3, Cond.code yX3_measure cX3_measure 4 (some .int), Cond.methodLink RX3 24 Lib.Math.max.name, Cond.static Lib.Math.max.name, Cond.initialized "java/lang/Math", Cond.code Lib.Math.max.name Lib.Math.max.code 2 (some .int), Cond.methodLink RX3 9 yJ6_bitCount_0f7a4, Cond.static yJ6_bitCount_0f7a4, Cond.initialized RJ6, Cond.code yJ6_bitCount_0f7a4 cJ6_bitCount_0f7a4 1 (some .int), Cond.constant RJ6 265 (1431655765)]
def wsX10_holds_r3 : List Cond := [Cond.constant RJ6 266 (858993459), Cond.constant RJ6 267 (252645135), Cond.methodLink RX3 15 yX3_runs, Cond.static yX3_runs, Cond.code yX3_runs cX3_runs 3 (some .int), Cond.methodLink RX3 21 yX3_longestRun, Cond.static yX3_longestRun, Cond.code yX3_longestRun cX3_longestRun 3 (some .int), Cond.methodLink RX3 29 yX3_firstHit, Cond.static yX3_firstHit, Cond.code yX3_firstHit cX3_firstHit 3 (some .int), Cond.methodLink RX3 32 yX4_timesIn, Cond.static yX4_timesIn, Cond.initialized RX4, Cond.code yX4_timesIn cX4_timesIn 7 (some .int), Cond.methodLink RX4 11 yX4_lengthOf, Cond.static yX4_lengthOf, Cond.code yX4_lengthOf cX4_lengthOf 2 (some .int), Cond.methodLink RX4 15 yJ6_bitCount_0f7a4, Cond.methodLink RX6 78 yX6_isDone, Cond.instanceMethod yX6_isDone, Cond.selects RX6 yX6_isDone yX6_isDone, Cond.code yX6_isDone cX6_isDone 3 (some .boolean), Cond.fieldLink RX6 15 "RowsOfTwo$Sentences" "relations" "[I"]
def wsX10_holds_r4 : List Cond := [Cond.fieldLink RX6 18 "RowsOfTwo$Sentences" "limits" "[I"]
def wsX10_holds : List Cond := .code yX10_holds cX10_holds 3 (some .int) :: ((wsX10_holds_r1 ++ (wsX10_holds_r2 ++ (wsX10_holds_r3 ++ wsX10_holds_r4))) ++ wsX100 ++ wsX50 ++ wsX60)
def wsX10_isLength : List Cond := .code yX10_isLength cX10_isLength 1 (some .boolean) :: ([])
def wsX10_shown_r1 : List Cond := [Cond.fieldLink RX10 26 "RowsOfTwo" "sentences" "LRowsOfTwo$Sentences;", Cond.fieldLink RX10 33 "RowsOfTwo" "shownRows" "LRowsOfTwo$Shown;", Cond.fieldLink RX10 48 "RowsOfTwo" "pattern" "I", Cond.fieldLink RX10 133 "RowsOfTwo$Shown" "tallies" "[[I", Cond.methodLink RX10 126 yX10_isLength, Cond.static yX10_isLength, Cond.initialized RX10, Cond.code yX10_isLength cX10_isLength 1 (some .boolean), Cond.methodLink RX10 116 yX6_isFaulty, Cond.instanceMethod yX6_isFaulty, Cond.selects RX6 yX6_isFaulty yX6_isFaulty, Cond.initialized RX6, Cond.code yX6_isFaulty cX6_isFaulty 1 (some .boolean), Cond.methodLink RX6 45 yX6_faultPlace, Cond.instanceMethod yX6_faultPlace, Cond.selects RX6 yX6_faultPlace yX6_faultPlace, Cond.code yX6_faultPlace cX6_faultPlace 1 (some .int), Cond.fieldLink RX6 28 "RowsOfTwo$Sentences" "stuckAt" "I", Cond.fieldLink RX6 38 "RowsOfTwo$Sentences" "due" "I", Cond.fieldLink RX6 32 "RowsOfTwo$Sentences" "length" "I", Cond.methodLink RX10 129 yX8_learn, Cond.instanceMethod yX8_learn, Cond.selects RX8 yX8_learn yX8_learn, Cond.initialized RX8]
def wsX10_shown_r2 : List Cond := [Cond.code yX8_learn cX8_learn 6 none, Cond.fieldLink RX8 16 "RowsOfTwo$Shown" "known" "[Z", Cond.fieldLink RX8 11 "RowsOfTwo$Shown" "tallies" "[[I", Cond.methodLink RX8 20 yX6_hold, Cond.instanceMethod yX6_hold, Cond.selects RX6 yX6_hold yX6_hold, Cond.code yX6_hold cX6_hold 8 (some .boolean), Cond.fieldLink RX6 35 "RowsOfTwo$Sentences" "tests" "I", Cond.fieldLink RX6 21 "RowsOfTwo$Sentences" "opensAlternative" "[Z", Cond.fieldLink RX6 11 "RowsOfTwo$Sentences" "letters" "[I", Cond.fieldLink RX6 25 "RowsOfTwo$Sentences" "measured" "[I", Cond.methodLink RX6 72 yX3_measure, Cond.static yX3_measure, Cond.initialized RX3, Cond.code yX3_measure cX3_measure 4 (some .int), Cond.methodLink RX3 24 Lib.Math.max.name, Cond.static Lib.Math.max.name, Cond.initialized "java/lang/Math", Cond.code Lib.Math.max.name Lib.Math.max.code 2 (some .int), Cond.methodLink RX3 9 yJ6_bitCount_0f7a4, Cond.static yJ6_bitCount_0f7a4, Cond.initialized RJ6, Cond.code yJ6_bitCount_0f7a4 cJ6_bitCount_0f7a4 1 (some .int), Cond.constant RJ6 265 (1431655765)]
def wsX10_shown_r3 : List Cond := [Cond.constant RJ6 266 (858993459), Cond.constant RJ6 267 (252645135), Cond.methodLink RX3 15 yX3_runs, Cond.static yX3_runs, Cond.code yX3_runs cX3_runs 3 (some .int), Cond.methodLink RX3 21 yX3_longestRun, Cond.static yX3_longestRun, Cond.code yX3_longestRun cX3_longestRun 3 (some .int), Cond.methodLink RX3 29 yX3_firstHit, Cond.static yX3_firstHit, Cond.code yX3_firstHit cX3_firstHit 3 (some .int), Cond.methodLink RX3 32 yX4_timesIn, Cond.static yX4_timesIn, Cond.initialized RX4, Cond.code yX4_timesIn cX4_timesIn 7 (some .int), Cond.methodLink RX4 11 yX4_lengthOf, Cond.static yX4_lengthOf, Cond.code yX4_lengthOf cX4_lengthOf 2 (some .int), Cond.methodLink RX4 15 yJ6_bitCount_0f7a4, Cond.methodLink RX6 78 yX6_isDone, Cond.instanceMethod yX6_isDone, Cond.selects RX6 yX6_isDone yX6_isDone, Cond.code yX6_isDone cX6_isDone 3 (some .boolean), Cond.fieldLink RX6 15 "RowsOfTwo$Sentences" "relations" "[I"]
def wsX10_shown_r4 : List Cond := [Cond.fieldLink RX6 18 "RowsOfTwo$Sentences" "limits" "[I", Cond.methodLink RX8 26 yJ6_bitCount_0f7a4, Cond.methodLink RX10 137 yX9_sum, Cond.static yX9_sum, Cond.initialized RX9, Cond.code yX9_sum cX9_sum 6 (some .int)]
def wsX10_shown : List Cond := .code yX10_shown cX10_shown 3 (some .int) :: ((wsX10_shown_r1 ++ (wsX10_shown_r2 ++ (wsX10_shown_r3 ++ wsX10_shown_r4))) ++ wsX100 ++ wsX80 ++ wsX60)
def wsX10_nth_r1 : List Cond := [Cond.fieldLink RX10 26 "RowsOfTwo" "sentences" "LRowsOfTwo$Sentences;", Cond.fieldLink RX10 48 "RowsOfTwo" "pattern" "I", Cond.methodLink RX10 126 yX10_isLength, Cond.static yX10_isLength, Cond.initialized RX10, Cond.code yX10_isLength cX10_isLength 1 (some .boolean), Cond.methodLink RX10 116 yX6_isFaulty, Cond.instanceMethod yX6_isFaulty, Cond.selects RX6 yX6_isFaulty yX6_isFaulty, Cond.initialized RX6, Cond.code yX6_isFaulty cX6_isFaulty 1 (some .boolean), Cond.methodLink RX6 45 yX6_faultPlace, Cond.instanceMethod yX6_faultPlace, Cond.selects RX6 yX6_faultPlace yX6_faultPlace, Cond.code yX6_faultPlace cX6_faultPlace 1 (some .int), Cond.fieldLink RX6 28 "RowsOfTwo$Sentences" "stuckAt" "I", Cond.fieldLink RX6 38 "RowsOfTwo$Sentences" "due" "I", Cond.fieldLink RX6 32 "RowsOfTwo$Sentences" "length" "I", Cond.methodLink RX10 122 yX6_hold, Cond.instanceMethod yX6_hold, Cond.selects RX6 yX6_hold yX6_hold, Cond.code yX6_hold cX6_hold 8 (some .boolean), Cond.fieldLink RX6 35 "RowsOfTwo$Sentences" "tests" "I", Cond.fieldLink RX6 21 "RowsOfTwo$Sentences" "opensAlternative" "[Z"]
def wsX10_nth_r2 : List Cond := [Cond.fieldLink RX6 11 "RowsOfTwo$Sentences" "letters" "[I", Cond.fieldLink RX6 25 "RowsOfTwo$Sentences" "measured" "[I", Cond.methodLink RX6 72 yX3_measure, Cond.static yX3_measure, Cond.initialized RX3, Cond.code yX3_measure cX3_measure 4 (some .int), Cond.methodLink RX3 24 Lib.Math.max.name, Cond.static Lib.Math.max.name, Cond.initialized "java/lang/Math", Cond.code Lib.Math.max.name Lib.Math.max.code 2 (some .int), Cond.methodLink RX3 9 yJ6_bitCount_0f7a4, Cond.static yJ6_bitCount_0f7a4, Cond.initialized RJ6, Cond.code yJ6_bitCount_0f7a4 cJ6_bitCount_0f7a4 1 (some .int), Cond.constant RJ6 265 (1431655765), Cond.constant RJ6 266 (858993459), Cond.constant RJ6 267 (252645135), Cond.methodLink RX3 15 yX3_runs, Cond.static yX3_runs, Cond.code yX3_runs cX3_runs 3 (some .int), Cond.methodLink RX3 21 yX3_longestRun, Cond.static yX3_longestRun, Cond.code yX3_longestRun cX3_longestRun 3 (some .int), Cond.methodLink RX3 29 yX3_firstHit]
def wsX10_nth_r3 : List Cond := [Cond.static yX3_firstHit, Cond.code yX3_firstHit cX3_firstHit 3 (some .int), Cond.methodLink RX3 32 yX4_timesIn, Cond.static yX4_timesIn, Cond.initialized RX4, Cond.code yX4_timesIn cX4_timesIn 7 (some .int), Cond.methodLink RX4 11 yX4_lengthOf, Cond.static yX4_lengthOf, Cond.code yX4_lengthOf cX4_lengthOf 2 (some .int), Cond.methodLink RX4 15 yJ6_bitCount_0f7a4, Cond.methodLink RX6 78 yX6_isDone, Cond.instanceMethod yX6_isDone, Cond.selects RX6 yX6_isDone yX6_isDone, Cond.code yX6_isDone cX6_isDone 3 (some .boolean), Cond.fieldLink RX6 15 "RowsOfTwo$Sentences" "relations" "[I", Cond.fieldLink RX6 18 "RowsOfTwo$Sentences" "limits" "[I"]
def wsX10_nth : List Cond := .code yX10_nth cX10_nth 5 (some .int) :: ((wsX10_nth_r1 ++ (wsX10_nth_r2 ++ wsX10_nth_r3)) ++ wsX100 ++ wsX60)
def wsX10_isPart : List Cond := .code yX10_isPart cX10_isPart 1 (some .boolean) :: ([])
def wsX10_refusal : List Cond := .code yX10_refusal cX10_refusal 1 (some .long) :: ([.constantLong RX10 295 (-9223372036854775808)])
def wsX10_share_r1 : List Cond := [Cond.fieldLink RX10 26 "RowsOfTwo" "sentences" "LRowsOfTwo$Sentences;", Cond.fieldLink RX10 33 "RowsOfTwo" "shownRows" "LRowsOfTwo$Shown;", Cond.fieldLink RX10 48 "RowsOfTwo" "pattern" "I", Cond.fieldLink RX10 133 "RowsOfTwo$Shown" "tallies" "[[I", Cond.fieldLink RX10 44 "RowsOfTwo" "odds" "I", Cond.methodLink RX10 126 yX10_isLength, Cond.static yX10_isLength, Cond.initialized RX10, Cond.code yX10_isLength cX10_isLength 1 (some .boolean), Cond.methodLink RX10 143 yX10_isPart, Cond.static yX10_isPart, Cond.code yX10_isPart cX10_isPart 1 (some .boolean), Cond.methodLink RX10 146 yX10_refusal, Cond.static yX10_refusal, Cond.code yX10_refusal cX10_refusal 1 (some .long), Cond.constantLong RX10 295 (-9223372036854775808), Cond.methodLink RX10 116 yX6_isFaulty, Cond.instanceMethod yX6_isFaulty, Cond.selects RX6 yX6_isFaulty yX6_isFaulty, Cond.initialized RX6, Cond.code yX6_isFaulty cX6_isFaulty 1 (some .boolean), Cond.methodLink RX6 45 yX6_faultPlace, Cond.instanceMethod yX6_faultPlace, Cond.selects RX6 yX6_faultPlace yX6_faultPlace]
def wsX10_share_r2 : List Cond := [Cond.code yX6_faultPlace cX6_faultPlace 1 (some .int), Cond.fieldLink RX6 28 "RowsOfTwo$Sentences" "stuckAt" "I", Cond.fieldLink RX6 38 "RowsOfTwo$Sentences" "due" "I", Cond.fieldLink RX6 32 "RowsOfTwo$Sentences" "length" "I", Cond.methodLink RX10 129 yX8_learn, Cond.instanceMethod yX8_learn, Cond.selects RX8 yX8_learn yX8_learn, Cond.initialized RX8, Cond.code yX8_learn cX8_learn 6 none, Cond.fieldLink RX8 16 "RowsOfTwo$Shown" "known" "[Z", Cond.fieldLink RX8 11 "RowsOfTwo$Shown" "tallies" "[[I", Cond.methodLink RX8 20 yX6_hold, Cond.instanceMethod yX6_hold, Cond.selects RX6 yX6_hold yX6_hold, Cond.code yX6_hold cX6_hold 8 (some .boolean), Cond.fieldLink RX6 35 "RowsOfTwo$Sentences" "tests" "I", Cond.fieldLink RX6 21 "RowsOfTwo$Sentences" "opensAlternative" "[Z", Cond.fieldLink RX6 11 "RowsOfTwo$Sentences" "letters" "[I", Cond.fieldLink RX6 25 "RowsOfTwo$Sentences" "measured" "[I", Cond.methodLink RX6 72 yX3_measure, Cond.static yX3_measure, Cond.initialized RX3, Cond.code yX3_measure cX3_measure 4 (some .int), Cond.methodLink RX3 24 Lib.Math.max.name]
def wsX10_share_r3 : List Cond := [Cond.static Lib.Math.max.name, Cond.initialized "java/lang/Math", Cond.code Lib.Math.max.name Lib.Math.max.code 2 (some .int), Cond.methodLink RX3 9 yJ6_bitCount_0f7a4, Cond.static yJ6_bitCount_0f7a4, Cond.initialized RJ6, Cond.code yJ6_bitCount_0f7a4 cJ6_bitCount_0f7a4 1 (some .int), Cond.constant RJ6 265 (1431655765), Cond.constant RJ6 266 (858993459), Cond.constant RJ6 267 (252645135), Cond.methodLink RX3 15 yX3_runs, Cond.static yX3_runs, Cond.code yX3_runs cX3_runs 3 (some .int), Cond.methodLink RX3 21 yX3_longestRun, Cond.static yX3_longestRun, Cond.code yX3_longestRun cX3_longestRun 3 (some .int), Cond.methodLink RX3 29 yX3_firstHit, Cond.static yX3_firstHit, Cond.code yX3_firstHit cX3_firstHit 3 (some .int), Cond.methodLink RX3 32 yX4_timesIn, Cond.static yX4_timesIn, Cond.initialized RX4, Cond.code yX4_timesIn cX4_timesIn 7 (some .int), Cond.methodLink RX4 11 yX4_lengthOf]
def wsX10_share_r4 : List Cond := [Cond.static yX4_lengthOf, Cond.code yX4_lengthOf cX4_lengthOf 2 (some .int), Cond.methodLink RX4 15 yJ6_bitCount_0f7a4, Cond.methodLink RX6 78 yX6_isDone, Cond.instanceMethod yX6_isDone, Cond.selects RX6 yX6_isDone yX6_isDone, Cond.code yX6_isDone cX6_isDone 3 (some .boolean), Cond.fieldLink RX6 15 "RowsOfTwo$Sentences" "relations" "[I", Cond.fieldLink RX6 18 "RowsOfTwo$Sentences" "limits" "[I", Cond.methodLink RX8 26 yJ6_bitCount_0f7a4, Cond.methodLink RX10 150 yX9_sharePart, Cond.static yX9_sharePart, Cond.initialized RX9, Cond.code yX9_sharePart cX9_sharePart 9 (some .long), Cond.constantLong RX9 15 (16), Cond.methodLink RX9 9 yX1_power, Cond.static yX1_power, Cond.initialized RX1, Cond.code yX1_power cX1_power 6 (some .long), Cond.methodLink RX9 17 yX1_part, Cond.static yX1_part, Cond.code yX1_part cX1_part 7 (some .long), Cond.methodLink RX1 7 yX1_commonDivisor, Cond.static yX1_commonDivisor]
def wsX10_share_r5 : List Cond := [Cond.code yX1_commonDivisor cX1_commonDivisor 11 (some .long)]
def wsX10_share : List Cond := .code yX10_share cX10_share 3 (some .long) :: ((wsX10_share_r1 ++ (wsX10_share_r2 ++ (wsX10_share_r3 ++ (wsX10_share_r4 ++ wsX10_share_r5)))) ++ wsX100 ++ wsX80 ++ wsX60)
def wsX10_fills_r1 : List Cond := [Cond.fieldLink RX10 11 "RowsOfTwo" "rows" "[LRowsOfTwo$Row;", Cond.fieldLink RX10 154 "RowsOfTwo$Row" "unseen" "I", Cond.fieldLink RX10 26 "RowsOfTwo" "sentences" "LRowsOfTwo$Sentences;", Cond.fieldLink RX10 40 "RowsOfTwo" "heldFills" "LRowsOfTwo$Fills;", Cond.fieldLink RX10 48 "RowsOfTwo" "pattern" "I", Cond.fieldLink RX10 165 "RowsOfTwo$Fills" "tally" "[I", Cond.methodLink RX10 54 yX10_isRow, Cond.static yX10_isRow, Cond.initialized RX10, Cond.code yX10_isRow cX10_isRow 1 (some .boolean), Cond.methodLink RX10 143 yX10_isPart, Cond.static yX10_isPart, Cond.code yX10_isPart cX10_isPart 1 (some .boolean), Cond.methodLink RX10 157 yJ6_bitCount_0f7a4, Cond.static yJ6_bitCount_0f7a4, Cond.initialized RJ6, Cond.code yJ6_bitCount_0f7a4 cJ6_bitCount_0f7a4 1 (some .int), Cond.constant RJ6 265 (1431655765), Cond.constant RJ6 266 (858993459), Cond.constant RJ6 267 (252645135), Cond.methodLink RX10 116 yX6_isFaulty, Cond.instanceMethod yX6_isFaulty, Cond.selects RX6 yX6_isFaulty yX6_isFaulty, Cond.initialized RX6]
def wsX10_fills_r2 : List Cond := [Cond.code yX6_isFaulty cX6_isFaulty 1 (some .boolean), Cond.methodLink RX6 45 yX6_faultPlace, Cond.instanceMethod yX6_faultPlace, Cond.selects RX6 yX6_faultPlace yX6_faultPlace, Cond.code yX6_faultPlace cX6_faultPlace 1 (some .int), Cond.fieldLink RX6 28 "RowsOfTwo$Sentences" "stuckAt" "I", Cond.fieldLink RX6 38 "RowsOfTwo$Sentences" "due" "I", Cond.fieldLink RX6 32 "RowsOfTwo$Sentences" "length" "I", Cond.methodLink RX10 162 yX0_learn, Cond.instanceMethod yX0_learn, Cond.selects RX0 yX0_learn yX0_learn, Cond.initialized RX0, Cond.code yX0_learn cX0_learn 8 none, Cond.fieldLink RX0 9 "RowsOfTwo$Fills" "tally" "[I", Cond.fieldLink RX0 15 "RowsOfTwo$Fills" "alwaysHit" "I", Cond.fieldLink RX0 19 "RowsOfTwo$Fills" "everHit" "I", Cond.fieldLink RX0 22 "RowsOfTwo$Row" "unseen" "I", Cond.fieldLink RX0 33 "RowsOfTwo$Row" "hits" "I", Cond.fieldLink RX0 36 "RowsOfTwo$Row" "length" "I", Cond.methodLink RX0 27 yJ6_bitCount_0f7a4, Cond.methodLink RX0 39 yX6_hold, Cond.instanceMethod yX6_hold, Cond.selects RX6 yX6_hold yX6_hold, Cond.code yX6_hold cX6_hold 8 (some .boolean)]
def wsX10_fills_r3 : List Cond := [Cond.fieldLink RX6 35 "RowsOfTwo$Sentences" "tests" "I", Cond.fieldLink RX6 21 "RowsOfTwo$Sentences" "opensAlternative" "[Z", Cond.fieldLink RX6 11 "RowsOfTwo$Sentences" "letters" "[I", Cond.fieldLink RX6 25 "RowsOfTwo$Sentences" "measured" "[I", Cond.methodLink RX6 72 yX3_measure, Cond.static yX3_measure, Cond.initialized RX3, Cond.code yX3_measure cX3_measure 4 (some .int), Cond.methodLink RX3 24 Lib.Math.max.name, Cond.static Lib.Math.max.name, Cond.initialized "java/lang/Math", Cond.code Lib.Math.max.name Lib.Math.max.code 2 (some .int), Cond.methodLink RX3 9 yJ6_bitCount_0f7a4, Cond.methodLink RX3 15 yX3_runs, Cond.static yX3_runs, Cond.code yX3_runs cX3_runs 3 (some .int), Cond.methodLink RX3 21 yX3_longestRun, Cond.static yX3_longestRun, Cond.code yX3_longestRun cX3_longestRun 3 (some .int), Cond.methodLink RX3 29 yX3_firstHit, Cond.static yX3_firstHit, Cond.code yX3_firstHit cX3_firstHit 3 (some .int), Cond.methodLink RX3 32 yX4_timesIn, Cond.static yX4_timesIn]
def wsX10_fills_r4 : List Cond := [Cond.initialized RX4, Cond.code yX4_timesIn cX4_timesIn 7 (some .int), Cond.methodLink RX4 11 yX4_lengthOf, Cond.static yX4_lengthOf, Cond.code yX4_lengthOf cX4_lengthOf 2 (some .int), Cond.methodLink RX4 15 yJ6_bitCount_0f7a4, Cond.methodLink RX6 78 yX6_isDone, Cond.instanceMethod yX6_isDone, Cond.selects RX6 yX6_isDone yX6_isDone, Cond.code yX6_isDone cX6_isDone 3 (some .boolean), Cond.fieldLink RX6 15 "RowsOfTwo$Sentences" "relations" "[I", Cond.fieldLink RX6 18 "RowsOfTwo$Sentences" "limits" "[I", Cond.methodLink RX10 137 yX9_sum, Cond.static yX9_sum, Cond.initialized RX9, Cond.code yX9_sum cX9_sum 6 (some .int)]
def wsX10_fills : List Cond := .code yX10_fills cX10_fills 3 (some .int) :: ((wsX10_fills_r1 ++ (wsX10_fills_r2 ++ (wsX10_fills_r3 ++ wsX10_fills_r4))) ++ wsX100 ++ wsX50 ++ wsX00 ++ wsX60)
def wsX10_filled_r1 : List Cond := [Cond.fieldLink RX10 26 "RowsOfTwo" "sentences" "LRowsOfTwo$Sentences;", Cond.fieldLink RX10 40 "RowsOfTwo" "heldFills" "LRowsOfTwo$Fills;", Cond.fieldLink RX10 11 "RowsOfTwo" "rows" "[LRowsOfTwo$Row;", Cond.fieldLink RX10 48 "RowsOfTwo" "pattern" "I", Cond.fieldLink RX10 165 "RowsOfTwo$Fills" "tally" "[I", Cond.fieldLink RX10 154 "RowsOfTwo$Row" "unseen" "I", Cond.fieldLink RX10 44 "RowsOfTwo" "odds" "I", Cond.methodLink RX10 54 yX10_isRow, Cond.static yX10_isRow, Cond.initialized RX10, Cond.code yX10_isRow cX10_isRow 1 (some .boolean), Cond.methodLink RX10 143 yX10_isPart, Cond.static yX10_isPart, Cond.code yX10_isPart cX10_isPart 1 (some .boolean), Cond.methodLink RX10 146 yX10_refusal, Cond.static yX10_refusal, Cond.code yX10_refusal cX10_refusal 1 (some .long), Cond.constantLong RX10 295 (-9223372036854775808), Cond.methodLink RX10 116 yX6_isFaulty, Cond.instanceMethod yX6_isFaulty, Cond.selects RX6 yX6_isFaulty yX6_isFaulty, Cond.initialized RX6, Cond.code yX6_isFaulty cX6_isFaulty 1 (some .boolean), Cond.methodLink RX6 45 yX6_faultPlace]
def wsX10_filled_r2 : List Cond := [Cond.instanceMethod yX6_faultPlace, Cond.selects RX6 yX6_faultPlace yX6_faultPlace, Cond.code yX6_faultPlace cX6_faultPlace 1 (some .int), Cond.fieldLink RX6 28 "RowsOfTwo$Sentences" "stuckAt" "I", Cond.fieldLink RX6 38 "RowsOfTwo$Sentences" "due" "I", Cond.fieldLink RX6 32 "RowsOfTwo$Sentences" "length" "I", Cond.methodLink RX10 162 yX0_learn, Cond.instanceMethod yX0_learn, Cond.selects RX0 yX0_learn yX0_learn, Cond.initialized RX0, Cond.code yX0_learn cX0_learn 8 none, Cond.fieldLink RX0 9 "RowsOfTwo$Fills" "tally" "[I", Cond.fieldLink RX0 15 "RowsOfTwo$Fills" "alwaysHit" "I", Cond.fieldLink RX0 19 "RowsOfTwo$Fills" "everHit" "I", Cond.fieldLink RX0 22 "RowsOfTwo$Row" "unseen" "I", Cond.fieldLink RX0 33 "RowsOfTwo$Row" "hits" "I", Cond.fieldLink RX0 36 "RowsOfTwo$Row" "length" "I", Cond.methodLink RX0 27 yJ6_bitCount_0f7a4, Cond.static yJ6_bitCount_0f7a4, Cond.initialized RJ6, Cond.code yJ6_bitCount_0f7a4 cJ6_bitCount_0f7a4 1 (some .int), Cond.constant RJ6 265 (1431655765), Cond.constant RJ6 266 (858993459), Cond.constant RJ6 267 (252645135)]
def wsX10_filled_r3 : List Cond := [Cond.methodLink RX0 39 yX6_hold, Cond.instanceMethod yX6_hold, Cond.selects RX6 yX6_hold yX6_hold, Cond.code yX6_hold cX6_hold 8 (some .boolean), Cond.fieldLink RX6 35 "RowsOfTwo$Sentences" "tests" "I", Cond.fieldLink RX6 21 "RowsOfTwo$Sentences" "opensAlternative" "[Z", Cond.fieldLink RX6 11 "RowsOfTwo$Sentences" "letters" "[I", Cond.fieldLink RX6 25 "RowsOfTwo$Sentences" "measured" "[I", Cond.methodLink RX6 72 yX3_measure, Cond.static yX3_measure, Cond.initialized RX3, Cond.code yX3_measure cX3_measure 4 (some .int), Cond.methodLink RX3 24 Lib.Math.max.name, Cond.static Lib.Math.max.name, Cond.initialized "java/lang/Math", Cond.code Lib.Math.max.name Lib.Math.max.code 2 (some .int), Cond.methodLink RX3 9 yJ6_bitCount_0f7a4, Cond.methodLink RX3 15 yX3_runs, Cond.static yX3_runs, Cond.code yX3_runs cX3_runs 3 (some .int), Cond.methodLink RX3 21 yX3_longestRun, Cond.static yX3_longestRun, Cond.code yX3_longestRun cX3_longestRun 3 (some .int), Cond.methodLink RX3 29 yX3_firstHit]
def wsX10_filled_r4 : List Cond := [Cond.static yX3_firstHit, Cond.code yX3_firstHit cX3_firstHit 3 (some .int), Cond.methodLink RX3 32 yX4_timesIn, Cond.static yX4_timesIn, Cond.initialized RX4, Cond.code yX4_timesIn cX4_timesIn 7 (some .int), Cond.methodLink RX4 11 yX4_lengthOf, Cond.static yX4_lengthOf, Cond.code yX4_lengthOf cX4_lengthOf 2 (some .int), Cond.methodLink RX4 15 yJ6_bitCount_0f7a4, Cond.methodLink RX6 78 yX6_isDone, Cond.instanceMethod yX6_isDone, Cond.selects RX6 yX6_isDone yX6_isDone, Cond.code yX6_isDone cX6_isDone 3 (some .boolean), Cond.fieldLink RX6 15 "RowsOfTwo$Sentences" "relations" "[I", Cond.fieldLink RX6 18 "RowsOfTwo$Sentences" "limits" "[I", Cond.methodLink RX10 157 yJ6_bitCount_0f7a4, Cond.methodLink RX10 150 yX9_sharePart, Cond.static yX9_sharePart, Cond.initialized RX9, Cond.code yX9_sharePart cX9_sharePart 9 (some .long), Cond.constantLong RX9 15 (16), Cond.methodLink RX9 9 yX1_power, Cond.static yX1_power]
def wsX10_filled_r5 : List Cond := [Cond.initialized RX1, Cond.code yX1_power cX1_power 6 (some .long), Cond.methodLink RX9 17 yX1_part, Cond.static yX1_part, Cond.code yX1_part cX1_part 7 (some .long), Cond.methodLink RX1 7 yX1_commonDivisor, Cond.static yX1_commonDivisor, Cond.code yX1_commonDivisor cX1_commonDivisor 11 (some .long)]
def wsX10_filled : List Cond := .code yX10_filled cX10_filled 3 (some .long) :: ((wsX10_filled_r1 ++ (wsX10_filled_r2 ++ (wsX10_filled_r3 ++ (wsX10_filled_r4 ++ wsX10_filled_r5)))) ++ wsX100 ++ wsX00 ++ wsX50 ++ wsX60)
def wsX10_sure_r1 : List Cond := [Cond.fieldLink RX10 11 "RowsOfTwo" "rows" "[LRowsOfTwo$Row;", Cond.fieldLink RX10 26 "RowsOfTwo" "sentences" "LRowsOfTwo$Sentences;", Cond.fieldLink RX10 69 "RowsOfTwo$Row" "length" "I", Cond.fieldLink RX10 40 "RowsOfTwo" "heldFills" "LRowsOfTwo$Fills;", Cond.fieldLink RX10 48 "RowsOfTwo" "pattern" "I", Cond.fieldLink RX10 165 "RowsOfTwo$Fills" "tally" "[I", Cond.fieldLink RX10 168 "RowsOfTwo$Fills" "alwaysHit" "I", Cond.fieldLink RX10 171 "RowsOfTwo$Fills" "everHit" "I", Cond.methodLink RX10 54 yX10_isRow, Cond.static yX10_isRow, Cond.initialized RX10, Cond.code yX10_isRow cX10_isRow 1 (some .boolean), Cond.methodLink RX10 116 yX6_isFaulty, Cond.instanceMethod yX6_isFaulty, Cond.selects RX6 yX6_isFaulty yX6_isFaulty, Cond.initialized RX6, Cond.code yX6_isFaulty cX6_isFaulty 1 (some .boolean), Cond.methodLink RX6 45 yX6_faultPlace, Cond.instanceMethod yX6_faultPlace, Cond.selects RX6 yX6_faultPlace yX6_faultPlace, Cond.code yX6_faultPlace cX6_faultPlace 1 (some .int), Cond.fieldLink RX6 28 "RowsOfTwo$Sentences" "stuckAt" "I", Cond.fieldLink RX6 38 "RowsOfTwo$Sentences" "due" "I", Cond.fieldLink RX6 32 "RowsOfTwo$Sentences" "length" "I"]
def wsX10_sure_r2 : List Cond := [Cond.methodLink RX10 162 yX0_learn, Cond.instanceMethod yX0_learn, Cond.selects RX0 yX0_learn yX0_learn, Cond.initialized RX0, Cond.code yX0_learn cX0_learn 8 none, Cond.fieldLink RX0 9 "RowsOfTwo$Fills" "tally" "[I", Cond.fieldLink RX0 15 "RowsOfTwo$Fills" "alwaysHit" "I", Cond.fieldLink RX0 19 "RowsOfTwo$Fills" "everHit" "I", Cond.fieldLink RX0 22 "RowsOfTwo$Row" "unseen" "I", Cond.fieldLink RX0 33 "RowsOfTwo$Row" "hits" "I", Cond.fieldLink RX0 36 "RowsOfTwo$Row" "length" "I", Cond.methodLink RX0 27 yJ6_bitCount_0f7a4, Cond.static yJ6_bitCount_0f7a4, Cond.initialized RJ6, Cond.code yJ6_bitCount_0f7a4 cJ6_bitCount_0f7a4 1 (some .int), Cond.constant RJ6 265 (1431655765), Cond.constant RJ6 266 (858993459), Cond.constant RJ6 267 (252645135), Cond.methodLink RX0 39 yX6_hold, Cond.instanceMethod yX6_hold, Cond.selects RX6 yX6_hold yX6_hold, Cond.code yX6_hold cX6_hold 8 (some .boolean), Cond.fieldLink RX6 35 "RowsOfTwo$Sentences" "tests" "I", Cond.fieldLink RX6 21 "RowsOfTwo$Sentences" "opensAlternative" "[Z"]
def wsX10_sure_r3 : List Cond := [Cond.fieldLink RX6 11 "RowsOfTwo$Sentences" "letters" "[I", Cond.fieldLink RX6 25 "RowsOfTwo$Sentences" "measured" "[I", Cond.methodLink RX6 72 yX3_measure, Cond.static yX3_measure, Cond.initialized RX3, Cond.code yX3_measure cX3_measure 4 (some .int), Cond.methodLink RX3 24 Lib.Math.max.name, Cond.static Lib.Math.max.name, Cond.initialized "java/lang/Math", Cond.code Lib.Math.max.name Lib.Math.max.code 2 (some .int), Cond.methodLink RX3 9 yJ6_bitCount_0f7a4, Cond.methodLink RX3 15 yX3_runs, Cond.static yX3_runs, Cond.code yX3_runs cX3_runs 3 (some .int), Cond.methodLink RX3 21 yX3_longestRun, Cond.static yX3_longestRun, Cond.code yX3_longestRun cX3_longestRun 3 (some .int), Cond.methodLink RX3 29 yX3_firstHit, Cond.static yX3_firstHit, Cond.code yX3_firstHit cX3_firstHit 3 (some .int), Cond.methodLink RX3 32 yX4_timesIn, Cond.static yX4_timesIn, Cond.initialized RX4, Cond.code yX4_timesIn cX4_timesIn 7 (some .int)]
def wsX10_sure_r4 : List Cond := [Cond.methodLink RX4 11 yX4_lengthOf, Cond.static yX4_lengthOf, Cond.code yX4_lengthOf cX4_lengthOf 2 (some .int), Cond.methodLink RX4 15 yJ6_bitCount_0f7a4, Cond.methodLink RX6 78 yX6_isDone, Cond.instanceMethod yX6_isDone, Cond.selects RX6 yX6_isDone yX6_isDone, Cond.code yX6_isDone cX6_isDone 3 (some .boolean), Cond.fieldLink RX6 15 "RowsOfTwo$Sentences" "relations" "[I", Cond.fieldLink RX6 18 "RowsOfTwo$Sentences" "limits" "[I", Cond.methodLink RX10 137 yX9_sum, Cond.static yX9_sum, Cond.initialized RX9, Cond.code yX9_sum cX9_sum 6 (some .int)]
def wsX10_sure : List Cond := .code yX10_sure cX10_sure 5 (some .int) :: ((wsX10_sure_r1 ++ (wsX10_sure_r2 ++ (wsX10_sure_r3 ++ wsX10_sure_r4))) ++ wsX100 ++ wsX50 ++ wsX00 ++ wsX60)
def wsX10_dealtAsFar_r1 : List Cond := [Cond.fieldLink RX10 69 "RowsOfTwo$Row" "length" "I", Cond.fieldLink RX10 48 "RowsOfTwo" "pattern" "I", Cond.methodLink RX10 105 yX10_numberOf, Cond.instanceMethod yX10_numberOf, Cond.selects RX10 yX10_numberOf yX10_numberOf, Cond.initialized RX10, Cond.code yX10_numberOf cX10_numberOf 3 (some .int), Cond.fieldLink RX10 119 "RowsOfTwo$Row" "hits" "I", Cond.methodLink RX10 297 yX3_measure, Cond.static yX3_measure, Cond.initialized RX3, Cond.code yX3_measure cX3_measure 4 (some .int), Cond.methodLink RX3 24 Lib.Math.max.name, Cond.static Lib.Math.max.name, Cond.initialized "java/lang/Math", Cond.code Lib.Math.max.name Lib.Math.max.code 2 (some .int), Cond.methodLink RX3 9 yJ6_bitCount_0f7a4, Cond.static yJ6_bitCount_0f7a4, Cond.initialized RJ6, Cond.code yJ6_bitCount_0f7a4 cJ6_bitCount_0f7a4 1 (some .int), Cond.constant RJ6 265 (1431655765), Cond.constant RJ6 266 (858993459), Cond.constant RJ6 267 (252645135), Cond.methodLink RX3 15 yX3_runs]
def wsX10_dealtAsFar_r2 : List Cond := [Cond.static yX3_runs, Cond.code yX3_runs cX3_runs 3 (some .int), Cond.methodLink RX3 21 yX3_longestRun, Cond.static yX3_longestRun, Cond.code yX3_longestRun cX3_longestRun 3 (some .int), Cond.methodLink RX3 29 yX3_firstHit, Cond.static yX3_firstHit, Cond.code yX3_firstHit cX3_firstHit 3 (some .int), Cond.methodLink RX3 32 yX4_timesIn, Cond.static yX4_timesIn, Cond.initialized RX4, Cond.code yX4_timesIn cX4_timesIn 7 (some .int), Cond.methodLink RX4 11 yX4_lengthOf, Cond.static yX4_lengthOf, Cond.code yX4_lengthOf cX4_lengthOf 2 (some .int), Cond.methodLink RX4 15 yJ6_bitCount_0f7a4, Cond.methodLink RX10 178 yX2_howMany, Cond.static yX2_howMany, Cond.initialized RX2, Cond.code yX2_howMany cX2_howMany 4 (some .int), Cond.fieldLink RX2 7 "RowsOfTwo$Row" "hits" "I", Cond.fieldLink RX2 19 "RowsOfTwo$Row" "length" "I", Cond.methodLink RX2 13 yJ6_bitCount_0f7a4, Cond.methodLink RX10 202 yX2_lowest]
def wsX10_dealtAsFar_r3 : List Cond := [Cond.static yX2_lowest, Cond.code yX2_lowest cX2_lowest 1 (some .int), Cond.methodLink RX10 209 yX2_after, Cond.static yX2_after, Cond.code yX2_after cX2_after 3 (some .int)]
def wsX10_dealtAsFar : List Cond := .code yX10_dealtAsFar cX10_dealtAsFar 10 (some .int) :: ((wsX10_dealtAsFar_r1 ++ (wsX10_dealtAsFar_r2 ++ wsX10_dealtAsFar_r3)) ++ wsX50 ++ wsX100)
def wsX10_millionths : List Cond := .code yX10_millionths cX10_millionths 2 (some .int) :: ([.constantLong RX10 301 (1000000)])
def wsX10_dealt_r1 : List Cond := [Cond.fieldLink RX10 11 "RowsOfTwo" "rows" "[LRowsOfTwo$Row;", Cond.methodLink RX10 54 yX10_isRow, Cond.static yX10_isRow, Cond.initialized RX10, Cond.code yX10_isRow cX10_isRow 1 (some .boolean), Cond.methodLink RX10 99 yX10_isNumber, Cond.static yX10_isNumber, Cond.code yX10_isNumber cX10_isNumber 1 (some .boolean), Cond.methodLink RX10 102 yX5_isWhole, Cond.instanceMethod yX5_isWhole, Cond.selects RX5 yX5_isWhole yX5_isWhole, Cond.initialized RX5, Cond.code yX5_isWhole cX5_isWhole 1 (some .boolean), Cond.fieldLink RX5 15 "RowsOfTwo$Row" "unseen" "I", Cond.methodLink RX10 174 yX10_dealtAsFar, Cond.instanceMethod yX10_dealtAsFar, Cond.selects RX10 yX10_dealtAsFar yX10_dealtAsFar, Cond.code yX10_dealtAsFar cX10_dealtAsFar 10 (some .int), Cond.fieldLink RX10 69 "RowsOfTwo$Row" "length" "I", Cond.fieldLink RX10 48 "RowsOfTwo" "pattern" "I", Cond.methodLink RX10 105 yX10_numberOf, Cond.instanceMethod yX10_numberOf, Cond.selects RX10 yX10_numberOf yX10_numberOf, Cond.code yX10_numberOf cX10_numberOf 3 (some .int)]
def wsX10_dealt_r2 : List Cond := [Cond.fieldLink RX10 119 "RowsOfTwo$Row" "hits" "I", Cond.methodLink RX10 297 yX3_measure, Cond.static yX3_measure, Cond.initialized RX3, Cond.code yX3_measure cX3_measure 4 (some .int), Cond.methodLink RX3 24 Lib.Math.max.name, Cond.static Lib.Math.max.name, Cond.initialized "java/lang/Math", Cond.code Lib.Math.max.name Lib.Math.max.code 2 (some .int), Cond.methodLink RX3 9 yJ6_bitCount_0f7a4, Cond.static yJ6_bitCount_0f7a4, Cond.initialized RJ6, Cond.code yJ6_bitCount_0f7a4 cJ6_bitCount_0f7a4 1 (some .int), Cond.constant RJ6 265 (1431655765), Cond.constant RJ6 266 (858993459), Cond.constant RJ6 267 (252645135), Cond.methodLink RX3 15 yX3_runs, Cond.static yX3_runs, Cond.code yX3_runs cX3_runs 3 (some .int), Cond.methodLink RX3 21 yX3_longestRun, Cond.static yX3_longestRun, Cond.code yX3_longestRun cX3_longestRun 3 (some .int), Cond.methodLink RX3 29 yX3_firstHit, Cond.static yX3_firstHit]
def wsX10_dealt_r3 : List Cond := [Cond.code yX3_firstHit cX3_firstHit 3 (some .int), Cond.methodLink RX3 32 yX4_timesIn, Cond.static yX4_timesIn, Cond.initialized RX4, Cond.code yX4_timesIn cX4_timesIn 7 (some .int), Cond.methodLink RX4 11 yX4_lengthOf, Cond.static yX4_lengthOf, Cond.code yX4_lengthOf cX4_lengthOf 2 (some .int), Cond.methodLink RX4 15 yJ6_bitCount_0f7a4, Cond.methodLink RX10 178 yX2_howMany, Cond.static yX2_howMany, Cond.initialized RX2, Cond.code yX2_howMany cX2_howMany 4 (some .int), Cond.fieldLink RX2 7 "RowsOfTwo$Row" "hits" "I", Cond.fieldLink RX2 19 "RowsOfTwo$Row" "length" "I", Cond.methodLink RX2 13 yJ6_bitCount_0f7a4, Cond.methodLink RX10 202 yX2_lowest, Cond.static yX2_lowest, Cond.code yX2_lowest cX2_lowest 1 (some .int), Cond.methodLink RX10 209 yX2_after, Cond.static yX2_after, Cond.code yX2_after cX2_after 3 (some .int), Cond.methodLink RX10 184 yX10_millionths, Cond.static yX10_millionths]
def wsX10_dealt_r4 : List Cond := [Cond.code yX10_millionths cX10_millionths 2 (some .int), Cond.constantLong RX10 301 (1000000)]
def wsX10_dealt : List Cond := .code yX10_dealt cX10_dealt 5 (some .int) :: ((wsX10_dealt_r1 ++ (wsX10_dealt_r2 ++ (wsX10_dealt_r3 ++ wsX10_dealt_r4))) ++ wsX100 ++ wsX50)
def wsX10_strangest_r1 : List Cond := [Cond.fieldLink RX10 11 "RowsOfTwo" "rows" "[LRowsOfTwo$Row;", Cond.fieldLink RX10 69 "RowsOfTwo$Row" "length" "I", Cond.methodLink RX10 54 yX10_isRow, Cond.static yX10_isRow, Cond.initialized RX10, Cond.code yX10_isRow cX10_isRow 1 (some .boolean), Cond.methodLink RX10 102 yX5_isWhole, Cond.instanceMethod yX5_isWhole, Cond.selects RX5 yX5_isWhole yX5_isWhole, Cond.initialized RX5, Cond.code yX5_isWhole cX5_isWhole 1 (some .boolean), Cond.fieldLink RX5 15 "RowsOfTwo$Row" "unseen" "I", Cond.methodLink RX10 174 yX10_dealtAsFar, Cond.instanceMethod yX10_dealtAsFar, Cond.selects RX10 yX10_dealtAsFar yX10_dealtAsFar, Cond.code yX10_dealtAsFar cX10_dealtAsFar 10 (some .int), Cond.fieldLink RX10 48 "RowsOfTwo" "pattern" "I", Cond.methodLink RX10 105 yX10_numberOf, Cond.instanceMethod yX10_numberOf, Cond.selects RX10 yX10_numberOf yX10_numberOf, Cond.code yX10_numberOf cX10_numberOf 3 (some .int), Cond.fieldLink RX10 119 "RowsOfTwo$Row" "hits" "I", Cond.methodLink RX10 297 yX3_measure, Cond.static yX3_measure]
def wsX10_strangest_r2 : List Cond := [Cond.initialized RX3, Cond.code yX3_measure cX3_measure 4 (some .int), Cond.methodLink RX3 24 Lib.Math.max.name, Cond.static Lib.Math.max.name, Cond.initialized "java/lang/Math", Cond.code Lib.Math.max.name Lib.Math.max.code 2 (some .int), Cond.methodLink RX3 9 yJ6_bitCount_0f7a4, Cond.static yJ6_bitCount_0f7a4, Cond.initialized RJ6, Cond.code yJ6_bitCount_0f7a4 cJ6_bitCount_0f7a4 1 (some .int), Cond.constant RJ6 265 (1431655765), Cond.constant RJ6 266 (858993459), Cond.constant RJ6 267 (252645135), Cond.methodLink RX3 15 yX3_runs, Cond.static yX3_runs, Cond.code yX3_runs cX3_runs 3 (some .int), Cond.methodLink RX3 21 yX3_longestRun, Cond.static yX3_longestRun, Cond.code yX3_longestRun cX3_longestRun 3 (some .int), Cond.methodLink RX3 29 yX3_firstHit, Cond.static yX3_firstHit, Cond.code yX3_firstHit cX3_firstHit 3 (some .int), Cond.methodLink RX3 32 yX4_timesIn, Cond.static yX4_timesIn]
def wsX10_strangest_r3 : List Cond := [Cond.initialized RX4, Cond.code yX4_timesIn cX4_timesIn 7 (some .int), Cond.methodLink RX4 11 yX4_lengthOf, Cond.static yX4_lengthOf, Cond.code yX4_lengthOf cX4_lengthOf 2 (some .int), Cond.methodLink RX4 15 yJ6_bitCount_0f7a4, Cond.methodLink RX10 178 yX2_howMany, Cond.static yX2_howMany, Cond.initialized RX2, Cond.code yX2_howMany cX2_howMany 4 (some .int), Cond.fieldLink RX2 7 "RowsOfTwo$Row" "hits" "I", Cond.fieldLink RX2 19 "RowsOfTwo$Row" "length" "I", Cond.methodLink RX2 13 yJ6_bitCount_0f7a4, Cond.methodLink RX10 202 yX2_lowest, Cond.static yX2_lowest, Cond.code yX2_lowest cX2_lowest 1 (some .int), Cond.methodLink RX10 209 yX2_after, Cond.static yX2_after, Cond.code yX2_after cX2_after 3 (some .int)]
def wsX10_strangest : List Cond := .code yX10_strangest cX10_strangest 8 (some .int) :: ((wsX10_strangest_r1 ++ (wsX10_strangest_r2 ++ wsX10_strangest_r3)) ++ wsX100 ++ wsX50)
def wsX10_isBehind : List Cond := .code yX10_isBehind cX10_isBehind 1 (some .boolean) :: ([])
def wsX10_hot_r1 : List Cond := [Cond.fieldLink RX10 11 "RowsOfTwo" "rows" "[LRowsOfTwo$Row;", Cond.fieldLink RX10 119 "RowsOfTwo$Row" "hits" "I", Cond.methodLink RX10 54 yX10_isRow, Cond.static yX10_isRow, Cond.initialized RX10, Cond.code yX10_isRow cX10_isRow 1 (some .boolean), Cond.methodLink RX10 190 yX10_isBehind, Cond.static yX10_isBehind, Cond.code yX10_isBehind cX10_isBehind 1 (some .boolean), Cond.methodLink RX10 143 yX10_isPart, Cond.static yX10_isPart, Cond.code yX10_isPart cX10_isPart 1 (some .boolean), Cond.methodLink RX10 146 yX10_refusal, Cond.static yX10_refusal, Cond.code yX10_refusal cX10_refusal 1 (some .long), Cond.constantLong RX10 295 (-9223372036854775808), Cond.methodLink RX10 102 yX5_isWhole, Cond.instanceMethod yX5_isWhole, Cond.selects RX5 yX5_isWhole yX5_isWhole, Cond.initialized RX5, Cond.code yX5_isWhole cX5_isWhole 1 (some .boolean), Cond.fieldLink RX5 15 "RowsOfTwo$Row" "unseen" "I", Cond.methodLink RX10 193 yX2_behindHits, Cond.static yX2_behindHits]
def wsX10_hot_r2 : List Cond := [Cond.initialized RX2, Cond.code yX2_behindHits cX2_behindHits 4 (some .int), Cond.methodLink RX10 157 yJ6_bitCount_0f7a4, Cond.static yJ6_bitCount_0f7a4, Cond.initialized RJ6, Cond.code yJ6_bitCount_0f7a4 cJ6_bitCount_0f7a4 1 (some .int), Cond.constant RJ6 265 (1431655765), Cond.constant RJ6 266 (858993459), Cond.constant RJ6 267 (252645135), Cond.methodLink RX10 196 yX1_part, Cond.static yX1_part, Cond.initialized RX1, Cond.code yX1_part cX1_part 7 (some .long), Cond.methodLink RX1 7 yX1_commonDivisor, Cond.static yX1_commonDivisor, Cond.code yX1_commonDivisor cX1_commonDivisor 11 (some .long)]
def wsX10_hot : List Cond := .code yX10_hot cX10_hot 7 (some .long) :: ((wsX10_hot_r1 ++ wsX10_hot_r2) ++ wsX100 ++ wsX50)
def wsX10_already_r1 : List Cond := [Cond.fieldLink RX10 11 "RowsOfTwo" "rows" "[LRowsOfTwo$Row;", Cond.constantLong RX10 212 (360360), Cond.methodLink RX10 54 yX10_isRow, Cond.static yX10_isRow, Cond.initialized RX10, Cond.code yX10_isRow cX10_isRow 1 (some .boolean), Cond.methodLink RX10 190 yX10_isBehind, Cond.static yX10_isBehind, Cond.code yX10_isBehind cX10_isBehind 1 (some .boolean), Cond.methodLink RX10 143 yX10_isPart, Cond.static yX10_isPart, Cond.code yX10_isPart cX10_isPart 1 (some .boolean), Cond.methodLink RX10 146 yX10_refusal, Cond.static yX10_refusal, Cond.code yX10_refusal cX10_refusal 1 (some .long), Cond.constantLong RX10 295 (-9223372036854775808), Cond.methodLink RX10 102 yX5_isWhole, Cond.instanceMethod yX5_isWhole, Cond.selects RX5 yX5_isWhole yX5_isWhole, Cond.initialized RX5, Cond.code yX5_isWhole cX5_isWhole 1 (some .boolean), Cond.fieldLink RX5 15 "RowsOfTwo$Row" "unseen" "I", Cond.methodLink RX10 178 yX2_howMany, Cond.static yX2_howMany]
def wsX10_already_r2 : List Cond := [Cond.initialized RX2, Cond.code yX2_howMany cX2_howMany 4 (some .int), Cond.fieldLink RX2 7 "RowsOfTwo$Row" "hits" "I", Cond.fieldLink RX2 19 "RowsOfTwo$Row" "length" "I", Cond.methodLink RX2 13 yJ6_bitCount_0f7a4, Cond.static yJ6_bitCount_0f7a4, Cond.initialized RJ6, Cond.code yJ6_bitCount_0f7a4 cJ6_bitCount_0f7a4 1 (some .int), Cond.constant RJ6 265 (1431655765), Cond.constant RJ6 266 (858993459), Cond.constant RJ6 267 (252645135), Cond.methodLink RX10 202 yX2_lowest, Cond.static yX2_lowest, Cond.code yX2_lowest cX2_lowest 1 (some .int), Cond.methodLink RX10 193 yX2_behindHits, Cond.static yX2_behindHits, Cond.code yX2_behindHits cX2_behindHits 4 (some .int), Cond.methodLink RX10 205 yX2_heat, Cond.static yX2_heat, Cond.code yX2_heat cX2_heat 3 (some .long), Cond.constantLong RX2 24 (360360), Cond.methodLink RX10 209 yX2_after, Cond.static yX2_after, Cond.code yX2_after cX2_after 3 (some .int)]
def wsX10_already_r3 : List Cond := [Cond.methodLink RX10 196 yX1_part, Cond.static yX1_part, Cond.initialized RX1, Cond.code yX1_part cX1_part 7 (some .long), Cond.methodLink RX1 7 yX1_commonDivisor, Cond.static yX1_commonDivisor, Cond.code yX1_commonDivisor cX1_commonDivisor 11 (some .long)]
def wsX10_already : List Cond := .code yX10_already cX10_already 12 (some .long) :: ((wsX10_already_r1 ++ (wsX10_already_r2 ++ wsX10_already_r3)) ++ wsX100 ++ wsX50)
def wsX10_waits_r1 : List Cond := [Cond.fieldLink RX10 48 "RowsOfTwo" "pattern" "I", Cond.fieldLink RX10 44 "RowsOfTwo" "odds" "I", Cond.methodLink RX10 143 yX10_isPart, Cond.static yX10_isPart, Cond.initialized RX10, Cond.code yX10_isPart cX10_isPart 1 (some .boolean), Cond.methodLink RX10 146 yX10_refusal, Cond.static yX10_refusal, Cond.code yX10_refusal cX10_refusal 1 (some .long), Cond.constantLong RX10 295 (-9223372036854775808), Cond.methodLink RX10 214 yX4_lead, Cond.static yX4_lead, Cond.initialized RX4, Cond.code yX4_lead cX4_lead 14 (some .long), Cond.constantLong RX4 28 (16), Cond.methodLink RX4 11 yX4_lengthOf, Cond.static yX4_lengthOf, Cond.code yX4_lengthOf cX4_lengthOf 2 (some .int), Cond.methodLink RX4 15 yJ6_bitCount_0f7a4, Cond.static yJ6_bitCount_0f7a4, Cond.initialized RJ6, Cond.code yJ6_bitCount_0f7a4 cJ6_bitCount_0f7a4 1 (some .int), Cond.constant RJ6 265 (1431655765), Cond.constant RJ6 266 (858993459)]
def wsX10_waits_r2 : List Cond := [Cond.constant RJ6 267 (252645135), Cond.methodLink RX4 24 yX4_chanceParts, Cond.static yX4_chanceParts, Cond.code yX4_chanceParts cX4_chanceParts 3 (some .long), Cond.methodLink RX4 30 yX1_power, Cond.static yX1_power, Cond.initialized RX1, Cond.code yX1_power cX1_power 6 (some .long), Cond.methodLink RX10 220 yX4_leadUnit, Cond.static yX4_leadUnit, Cond.code yX4_leadUnit cX4_leadUnit 1 (some .long), Cond.methodLink RX10 196 yX1_part, Cond.static yX1_part, Cond.code yX1_part cX1_part 7 (some .long), Cond.methodLink RX1 7 yX1_commonDivisor, Cond.static yX1_commonDivisor, Cond.code yX1_commonDivisor cX1_commonDivisor 11 (some .long)]
def wsX10_waits : List Cond := .code yX10_waits cX10_waits 2 (some .long) :: ((wsX10_waits_r1 ++ wsX10_waits_r2) ++ wsX100)
def wsX10_isFirstTold : List Cond := .code yX10_isFirstTold cX10_isFirstTold 1 (some .boolean) :: ([])
def wsX10_first_r1 : List Cond := [Cond.fieldLink RX10 44 "RowsOfTwo" "odds" "I", Cond.methodLink RX10 223 yX10_isFirstTold, Cond.static yX10_isFirstTold, Cond.initialized RX10, Cond.code yX10_isFirstTold cX10_isFirstTold 1 (some .boolean), Cond.methodLink RX10 143 yX10_isPart, Cond.static yX10_isPart, Cond.code yX10_isPart cX10_isPart 1 (some .boolean), Cond.methodLink RX10 146 yX10_refusal, Cond.static yX10_refusal, Cond.code yX10_refusal cX10_refusal 1 (some .long), Cond.constantLong RX10 295 (-9223372036854775808), Cond.methodLink RX10 226 yX4_standsIn, Cond.static yX4_standsIn, Cond.initialized RX4, Cond.code yX4_standsIn cX4_standsIn 3 (some .boolean), Cond.methodLink RX4 11 yX4_lengthOf, Cond.static yX4_lengthOf, Cond.code yX4_lengthOf cX4_lengthOf 2 (some .int), Cond.methodLink RX4 20 yX4_timesIn, Cond.static yX4_timesIn, Cond.code yX4_timesIn cX4_timesIn 7 (some .int), Cond.methodLink RX4 15 yJ6_bitCount_0f7a4, Cond.static yJ6_bitCount_0f7a4]
def wsX10_first_r2 : List Cond := [Cond.initialized RJ6, Cond.code yJ6_bitCount_0f7a4 cJ6_bitCount_0f7a4 1 (some .int), Cond.constant RJ6 265 (1431655765), Cond.constant RJ6 266 (858993459), Cond.constant RJ6 267 (252645135), Cond.methodLink RX10 214 yX4_lead, Cond.static yX4_lead, Cond.code yX4_lead cX4_lead 14 (some .long), Cond.constantLong RX4 28 (16), Cond.methodLink RX4 24 yX4_chanceParts, Cond.static yX4_chanceParts, Cond.code yX4_chanceParts cX4_chanceParts 3 (some .long), Cond.methodLink RX4 30 yX1_power, Cond.static yX1_power, Cond.initialized RX1, Cond.code yX1_power cX1_power 6 (some .long), Cond.methodLink RX10 196 yX1_part, Cond.static yX1_part, Cond.code yX1_part cX1_part 7 (some .long), Cond.methodLink RX1 7 yX1_commonDivisor, Cond.static yX1_commonDivisor, Cond.code yX1_commonDivisor cX1_commonDivisor 11 (some .long)]
def wsX10_first : List Cond := .code yX10_first cX10_first 8 (some .long) :: ((wsX10_first_r1 ++ wsX10_first_r2) ++ wsX100)
def wsX10_agree_r1 : List Cond := [Cond.fieldLink RX10 11 "RowsOfTwo" "rows" "[LRowsOfTwo$Row;", Cond.fieldLink RX10 69 "RowsOfTwo$Row" "length" "I", Cond.fieldLink RX10 119 "RowsOfTwo$Row" "hits" "I", Cond.methodLink RX10 54 yX10_isRow, Cond.static yX10_isRow, Cond.initialized RX10, Cond.code yX10_isRow cX10_isRow 1 (some .boolean), Cond.methodLink RX10 143 yX10_isPart, Cond.static yX10_isPart, Cond.code yX10_isPart cX10_isPart 1 (some .boolean), Cond.methodLink RX10 102 yX5_isWhole, Cond.instanceMethod yX5_isWhole, Cond.selects RX5 yX5_isWhole yX5_isWhole, Cond.initialized RX5, Cond.code yX5_isWhole cX5_isWhole 1 (some .boolean), Cond.fieldLink RX5 15 "RowsOfTwo$Row" "unseen" "I", Cond.methodLink RX10 157 yJ6_bitCount_0f7a4, Cond.static yJ6_bitCount_0f7a4, Cond.initialized RJ6, Cond.code yJ6_bitCount_0f7a4 cJ6_bitCount_0f7a4 1 (some .int), Cond.constant RJ6 265 (1431655765), Cond.constant RJ6 266 (858993459), Cond.constant RJ6 267 (252645135), Cond.methodLink RX10 178 yX2_howMany]
def wsX10_agree_r2 : List Cond := [Cond.static yX2_howMany, Cond.initialized RX2, Cond.code yX2_howMany cX2_howMany 4 (some .int), Cond.fieldLink RX2 7 "RowsOfTwo$Row" "hits" "I", Cond.fieldLink RX2 19 "RowsOfTwo$Row" "length" "I", Cond.methodLink RX2 13 yJ6_bitCount_0f7a4, Cond.methodLink RX10 202 yX2_lowest, Cond.static yX2_lowest, Cond.code yX2_lowest cX2_lowest 1 (some .int), Cond.methodLink RX10 209 yX2_after, Cond.static yX2_after, Cond.code yX2_after cX2_after 3 (some .int), Cond.methodLink RX10 184 yX10_millionths, Cond.static yX10_millionths, Cond.code yX10_millionths cX10_millionths 2 (some .int), Cond.constantLong RX10 301 (1000000)]
def wsX10_agree : List Cond := .code yX10_agree cX10_agree 11 (some .int) :: ((wsX10_agree_r1 ++ wsX10_agree_r2) ++ wsX100 ++ wsX50)
def wsX10_backwards : List Cond := .code yX10_backwards cX10_backwards 4 (some .int) :: ([])
def wsX10_twice : List Cond := .code yX10_twice cX10_twice 7 (some .int) :: ([.fieldLink RX10 11 "RowsOfTwo" "rows" "[LRowsOfTwo$Row;", .fieldLink RX10 69 "RowsOfTwo$Row" "length" "I", .fieldLink RX10 119 "RowsOfTwo$Row" "hits" "I", .methodLink RX10 54 yX10_isRow, .static yX10_isRow, .initialized RX10, .code yX10_isRow cX10_isRow 1 (some .boolean), .methodLink RX10 102 yX5_isWhole, .instanceMethod yX5_isWhole, .selects RX5 yX5_isWhole yX5_isWhole, .initialized RX5, .code yX5_isWhole cX5_isWhole 1 (some .boolean), .fieldLink RX5 15 "RowsOfTwo$Row" "unseen" "I", .methodLink RX10 230 yX10_backwards, .static yX10_backwards, .code yX10_backwards cX10_backwards 4 (some .int)] ++ wsX100 ++ wsX50)
def wsX10_next_r1 : List Cond := [Cond.fieldLink RX10 11 "RowsOfTwo" "rows" "[LRowsOfTwo$Row;", Cond.fieldLink RX10 69 "RowsOfTwo$Row" "length" "I", Cond.fieldLink RX10 154 "RowsOfTwo$Row" "unseen" "I", Cond.methodLink RX10 54 yX10_isRow, Cond.static yX10_isRow, Cond.initialized RX10, Cond.code yX10_isRow cX10_isRow 1 (some .boolean), Cond.methodLink RX10 233 yX5_isBehindItsEnd, Cond.instanceMethod yX5_isBehindItsEnd, Cond.selects RX5 yX5_isBehindItsEnd yX5_isBehindItsEnd, Cond.initialized RX5, Cond.code yX5_isBehindItsEnd cX5_isBehindItsEnd 6 (some .boolean), Cond.fieldLink RX5 9 "RowsOfTwo$Row" "length" "I", Cond.fieldLink RX5 15 "RowsOfTwo$Row" "unseen" "I", Cond.fieldLink RX5 18 "RowsOfTwo$Row" "hits" "I", Cond.methodLink RX10 93 yX5_signAt, Cond.instanceMethod yX5_signAt, Cond.selects RX5 yX5_signAt yX5_signAt, Cond.code yX5_signAt cX5_signAt 3 (some .int), Cond.methodLink RX10 196 yX1_part, Cond.static yX1_part, Cond.initialized RX1, Cond.code yX1_part cX1_part 7 (some .long), Cond.methodLink RX1 7 yX1_commonDivisor]
def wsX10_next_r2 : List Cond := [Cond.static yX1_commonDivisor, Cond.code yX1_commonDivisor cX1_commonDivisor 11 (some .long)]
def wsX10_next : List Cond := .code yX10_next cX10_next 9 (some .int) :: ((wsX10_next_r1 ++ wsX10_next_r2) ++ wsX100 ++ wsX50)
def wsX10_isType : List Cond := .code yX10_isType cX10_isType 1 (some .boolean) :: ([])
def wsX10_sheet : List Cond := .code yX10_sheet cX10_sheet 4 (some .int) :: ([.fieldLink RX10 18 "RowsOfTwo" "sheets" "[LRowsOfTwo$Sheet;", .methodLink RX10 72 yX10_isSheet, .static yX10_isSheet, .initialized RX10, .code yX10_isSheet cX10_isSheet 1 (some .boolean), .methodLink RX10 236 yX10_isType, .static yX10_isType, .code yX10_isType cX10_isType 1 (some .boolean), .methodLink RX10 79 yX10_found, .instanceMethod yX10_found, .selects RX10 yX10_found yX10_found, .code yX10_found cX10_found 2 (some .int), .fieldLink RX10 51 "RowsOfTwo" "finding" "I", .methodLink RX10 239 yX7_renew, .instanceMethod yX7_renew, .selects RX7 yX7_renew yX7_renew, .initialized RX7, .code yX7_renew cX7_renew 4 none, .fieldLink RX7 9 "RowsOfTwo$Sheet" "items" "[I", .fieldLink RX7 15 "RowsOfTwo$Sheet" "lost" "Z", .fieldLink RX7 19 "RowsOfTwo$Sheet" "kind" "I", .fieldLink RX7 23 "RowsOfTwo$Sheet" "size" "I"] ++ wsX100 ++ wsX70)
def wsX10_lose : List Cond := .code yX10_lose cX10_lose 2 (some .int) :: ([.fieldLink RX10 18 "RowsOfTwo" "sheets" "[LRowsOfTwo$Sheet;", .fieldLink RX10 75 "RowsOfTwo$Sheet" "lost" "Z", .fieldLink RX10 83 "RowsOfTwo$Sheet" "size" "I", .methodLink RX10 72 yX10_isSheet, .static yX10_isSheet, .initialized RX10, .code yX10_isSheet cX10_isSheet 1 (some .boolean), .methodLink RX10 79 yX10_found, .instanceMethod yX10_found, .selects RX10 yX10_found yX10_found, .code yX10_found cX10_found 2 (some .int), .fieldLink RX10 51 "RowsOfTwo" "finding" "I"] ++ wsX100 ++ wsX70)
def wsX10_refusesItem : List Cond := .code yX10_refusesItem cX10_refusesItem 4 (some .int) :: ([.fieldLink RX10 18 "RowsOfTwo" "sheets" "[LRowsOfTwo$Sheet;", .fieldLink RX10 75 "RowsOfTwo$Sheet" "lost" "Z", .fieldLink RX10 251 "RowsOfTwo$Sheet" "kind" "I", .fieldLink RX10 83 "RowsOfTwo$Sheet" "size" "I", .methodLink RX10 72 yX10_isSheet, .static yX10_isSheet, .initialized RX10, .code yX10_isSheet cX10_isSheet 1 (some .boolean), .methodLink RX10 236 yX10_isType, .static yX10_isType, .code yX10_isType cX10_isType 1 (some .boolean), .methodLink RX10 79 yX10_found, .instanceMethod yX10_found, .selects RX10 yX10_found yX10_found, .code yX10_found cX10_found 2 (some .int), .fieldLink RX10 51 "RowsOfTwo" "finding" "I"] ++ wsX100 ++ wsX70)
def wsX10_put_r1 : List Cond := [Cond.fieldLink RX10 18 "RowsOfTwo" "sheets" "[LRowsOfTwo$Sheet;", Cond.methodLink RX10 243 yX10_refusesItem, Cond.instanceMethod yX10_refusesItem, Cond.selects RX10 yX10_refusesItem yX10_refusesItem, Cond.initialized RX10, Cond.code yX10_refusesItem cX10_refusesItem 4 (some .int), Cond.fieldLink RX10 75 "RowsOfTwo$Sheet" "lost" "Z", Cond.fieldLink RX10 251 "RowsOfTwo$Sheet" "kind" "I", Cond.fieldLink RX10 83 "RowsOfTwo$Sheet" "size" "I", Cond.methodLink RX10 72 yX10_isSheet, Cond.static yX10_isSheet, Cond.code yX10_isSheet cX10_isSheet 1 (some .boolean), Cond.methodLink RX10 236 yX10_isType, Cond.static yX10_isType, Cond.code yX10_isType cX10_isType 1 (some .boolean), Cond.methodLink RX10 79 yX10_found, Cond.instanceMethod yX10_found, Cond.selects RX10 yX10_found yX10_found, Cond.code yX10_found cX10_found 2 (some .int), Cond.fieldLink RX10 51 "RowsOfTwo" "finding" "I", Cond.methodLink RX10 247 yX7_store, Cond.instanceMethod yX7_store, Cond.selects RX7 yX7_store yX7_store, Cond.initialized RX7]
def wsX10_put_r2 : List Cond := [Cond.code yX7_store cX7_store 3 none, Cond.fieldLink RX7 19 "RowsOfTwo$Sheet" "kind" "I", Cond.fieldLink RX7 9 "RowsOfTwo$Sheet" "items" "[I"]
def wsX10_put : List Cond := .code yX10_put cX10_put 6 (some .int) :: ((wsX10_put_r1 ++ wsX10_put_r2) ++ wsX100 ++ wsX70)
def wsX10_get : List Cond := .code yX10_get cX10_get 4 (some .int) :: ([.constant RX10 250 (-2147483648), .fieldLink RX10 18 "RowsOfTwo" "sheets" "[LRowsOfTwo$Sheet;", .fieldLink RX10 86 "RowsOfTwo$Sheet" "items" "[I", .methodLink RX10 243 yX10_refusesItem, .instanceMethod yX10_refusesItem, .selects RX10 yX10_refusesItem yX10_refusesItem, .initialized RX10, .code yX10_refusesItem cX10_refusesItem 4 (some .int), .fieldLink RX10 75 "RowsOfTwo$Sheet" "lost" "Z", .fieldLink RX10 251 "RowsOfTwo$Sheet" "kind" "I", .fieldLink RX10 83 "RowsOfTwo$Sheet" "size" "I", .methodLink RX10 72 yX10_isSheet, .static yX10_isSheet, .code yX10_isSheet cX10_isSheet 1 (some .boolean), .methodLink RX10 236 yX10_isType, .static yX10_isType, .code yX10_isType cX10_isType 1 (some .boolean), .methodLink RX10 79 yX10_found, .instanceMethod yX10_found, .selects RX10 yX10_found yX10_found, .code yX10_found cX10_found 2 (some .int), .fieldLink RX10 51 "RowsOfTwo" "finding" "I"] ++ wsX100 ++ wsX70)
def wsX10_copy : List Cond := .code yX10_copy cX10_copy 8 (some .int) :: ([.fieldLink RX10 18 "RowsOfTwo" "sheets" "[LRowsOfTwo$Sheet;", .fieldLink RX10 75 "RowsOfTwo$Sheet" "lost" "Z", .fieldLink RX10 251 "RowsOfTwo$Sheet" "kind" "I", .fieldLink RX10 86 "RowsOfTwo$Sheet" "items" "[I", .methodLink RX10 257 arraycopyName, .native arraycopyName, .static arraycopyName, .initialized "java/lang/System", .methodLink RX10 72 yX10_isSheet, .static yX10_isSheet, .initialized RX10, .code yX10_isSheet cX10_isSheet 1 (some .boolean), .methodLink RX10 79 yX10_found, .instanceMethod yX10_found, .selects RX10 yX10_found yX10_found, .code yX10_found cX10_found 2 (some .int), .fieldLink RX10 51 "RowsOfTwo" "finding" "I", .methodLink RX10 254 yX7_hasSpan, .instanceMethod yX7_hasSpan, .selects RX7 yX7_hasSpan yX7_hasSpan, .initialized RX7, .code yX7_hasSpan cX7_hasSpan 3 (some .boolean), .fieldLink RX7 23 "RowsOfTwo$Sheet" "size" "I"] ++ wsX100 ++ wsX70)
def wsX10_write_r1 : List Cond := [Cond.fieldLink RX10 18 "RowsOfTwo" "sheets" "[LRowsOfTwo$Sheet;", Cond.fieldLink RX10 75 "RowsOfTwo$Sheet" "lost" "Z", Cond.fieldLink RX10 83 "RowsOfTwo$Sheet" "size" "I", Cond.fieldLink RX10 11 "RowsOfTwo" "rows" "[LRowsOfTwo$Row;", Cond.fieldLink RX10 69 "RowsOfTwo$Row" "length" "I", Cond.methodLink RX10 263 Lib.Math.min.name, Cond.static Lib.Math.min.name, Cond.initialized "java/lang/Math", Cond.code Lib.Math.min.name Lib.Math.min.code 2 (some .int), Cond.methodLink RX10 54 yX10_isRow, Cond.static yX10_isRow, Cond.initialized RX10, Cond.code yX10_isRow cX10_isRow 1 (some .boolean), Cond.methodLink RX10 72 yX10_isSheet, Cond.static yX10_isSheet, Cond.code yX10_isSheet cX10_isSheet 1 (some .boolean), Cond.methodLink RX10 79 yX10_found, Cond.instanceMethod yX10_found, Cond.selects RX10 yX10_found yX10_found, Cond.code yX10_found cX10_found 2 (some .int), Cond.fieldLink RX10 51 "RowsOfTwo" "finding" "I", Cond.methodLink RX10 93 yX5_signAt, Cond.instanceMethod yX5_signAt, Cond.selects RX5 yX5_signAt yX5_signAt]
def wsX10_write_r2 : List Cond := [Cond.initialized RX5, Cond.code yX5_signAt cX5_signAt 3 (some .int), Cond.fieldLink RX5 9 "RowsOfTwo$Row" "length" "I", Cond.fieldLink RX5 15 "RowsOfTwo$Row" "unseen" "I", Cond.fieldLink RX5 18 "RowsOfTwo$Row" "hits" "I", Cond.methodLink RX10 247 yX7_store, Cond.instanceMethod yX7_store, Cond.selects RX7 yX7_store yX7_store, Cond.initialized RX7, Cond.code yX7_store cX7_store 3 none, Cond.fieldLink RX7 19 "RowsOfTwo$Sheet" "kind" "I", Cond.fieldLink RX7 9 "RowsOfTwo$Sheet" "items" "[I"]
def wsX10_write : List Cond := .code yX10_write cX10_write 6 (some .int) :: ((wsX10_write_r1 ++ wsX10_write_r2) ++ wsX100 ++ wsX70 ++ wsX50)
def wsX10_wholeRows : List Cond := .code yX10_wholeRows cX10_wholeRows 3 (some .int) :: ([.fieldLink RX10 11 "RowsOfTwo" "rows" "[LRowsOfTwo$Row;", .methodLink RX10 102 yX5_isWhole, .instanceMethod yX5_isWhole, .selects RX5 yX5_isWhole yX5_isWhole, .initialized RX5, .code yX5_isWhole cX5_isWhole 1 (some .boolean), .fieldLink RX5 15 "RowsOfTwo$Row" "unseen" "I"] ++ wsX100 ++ wsX50)
def wsX10_count : List Cond := .code yX10_count cX10_count 2 (some .int) :: ([.fieldLink RX10 11 "RowsOfTwo" "rows" "[LRowsOfTwo$Row;", .fieldLink RX10 69 "RowsOfTwo$Row" "length" "I", .fieldLink RX10 26 "RowsOfTwo" "sentences" "LRowsOfTwo$Sentences;", .fieldLink RX10 109 "RowsOfTwo$Sentences" "length" "I", .fieldLink RX10 44 "RowsOfTwo" "odds" "I", .fieldLink RX10 48 "RowsOfTwo" "pattern" "I", .fieldLink RX10 51 "RowsOfTwo" "finding" "I", .methodLink RX10 54 yX10_isRow, .static yX10_isRow, .initialized RX10, .code yX10_isRow cX10_isRow 1 (some .boolean), .methodLink RX10 268 yX10_wholeRows, .instanceMethod yX10_wholeRows, .selects RX10 yX10_wholeRows yX10_wholeRows, .code yX10_wholeRows cX10_wholeRows 3 (some .int), .methodLink RX10 102 yX5_isWhole, .instanceMethod yX5_isWhole, .selects RX5 yX5_isWhole yX5_isWhole, .initialized RX5, .code yX5_isWhole cX5_isWhole 1 (some .boolean), .fieldLink RX5 15 "RowsOfTwo$Row" "unseen" "I"] ++ wsX100 ++ wsX50 ++ wsX60)
def wsX10_digest_r1 : List Cond := [Cond.constantLong RX10 271 (17), Cond.constantLong RX10 273 (31), Cond.fieldLink RX10 11 "RowsOfTwo" "rows" "[LRowsOfTwo$Row;", Cond.fieldLink RX10 69 "RowsOfTwo$Row" "length" "I", Cond.methodLink RX10 275 yX10_count, Cond.instanceMethod yX10_count, Cond.selects RX10 yX10_count yX10_count, Cond.initialized RX10, Cond.code yX10_count cX10_count 2 (some .int), Cond.fieldLink RX10 26 "RowsOfTwo" "sentences" "LRowsOfTwo$Sentences;", Cond.fieldLink RX10 109 "RowsOfTwo$Sentences" "length" "I", Cond.fieldLink RX10 44 "RowsOfTwo" "odds" "I", Cond.fieldLink RX10 48 "RowsOfTwo" "pattern" "I", Cond.fieldLink RX10 51 "RowsOfTwo" "finding" "I", Cond.methodLink RX10 54 yX10_isRow, Cond.static yX10_isRow, Cond.code yX10_isRow cX10_isRow 1 (some .boolean), Cond.methodLink RX10 268 yX10_wholeRows, Cond.instanceMethod yX10_wholeRows, Cond.selects RX10 yX10_wholeRows yX10_wholeRows, Cond.code yX10_wholeRows cX10_wholeRows 3 (some .int), Cond.methodLink RX10 102 yX5_isWhole, Cond.instanceMethod yX5_isWhole, Cond.selects RX5 yX5_isWhole yX5_isWhole]
def wsX10_digest_r2 : List Cond := [Cond.initialized RX5, Cond.code yX5_isWhole cX5_isWhole 1 (some .boolean), Cond.fieldLink RX5 15 "RowsOfTwo$Row" "unseen" "I", Cond.methodLink RX10 93 yX5_signAt, Cond.instanceMethod yX5_signAt, Cond.selects RX5 yX5_signAt yX5_signAt, Cond.code yX5_signAt cX5_signAt 3 (some .int), Cond.fieldLink RX5 9 "RowsOfTwo$Row" "length" "I", Cond.fieldLink RX5 18 "RowsOfTwo$Row" "hits" "I", Cond.methodLink RX10 278 yX10_shows, Cond.instanceMethod yX10_shows, Cond.selects RX10 yX10_shows yX10_shows, Cond.code yX10_shows cX10_shows 3 (some .int), Cond.methodLink RX10 99 yX10_isNumber, Cond.static yX10_isNumber, Cond.code yX10_isNumber cX10_isNumber 1 (some .boolean), Cond.methodLink RX10 105 yX10_numberOf, Cond.instanceMethod yX10_numberOf, Cond.selects RX10 yX10_numberOf yX10_numberOf, Cond.code yX10_numberOf cX10_numberOf 3 (some .int), Cond.fieldLink RX10 119 "RowsOfTwo$Row" "hits" "I", Cond.methodLink RX10 297 yX3_measure, Cond.static yX3_measure, Cond.initialized RX3]
def wsX10_digest_r3 : List Cond := [Cond.code yX3_measure cX3_measure 4 (some .int), Cond.methodLink RX3 24 Lib.Math.max.name, Cond.static Lib.Math.max.name, Cond.initialized "java/lang/Math", Cond.code Lib.Math.max.name Lib.Math.max.code 2 (some .int), Cond.methodLink RX3 9 yJ6_bitCount_0f7a4, Cond.static yJ6_bitCount_0f7a4, Cond.initialized RJ6, Cond.code yJ6_bitCount_0f7a4 cJ6_bitCount_0f7a4 1 (some .int), Cond.constant RJ6 265 (1431655765), Cond.constant RJ6 266 (858993459), Cond.constant RJ6 267 (252645135), Cond.methodLink RX3 15 yX3_runs, Cond.static yX3_runs, Cond.code yX3_runs cX3_runs 3 (some .int), Cond.methodLink RX3 21 yX3_longestRun, Cond.static yX3_longestRun, Cond.code yX3_longestRun cX3_longestRun 3 (some .int), Cond.methodLink RX3 29 yX3_firstHit, Cond.static yX3_firstHit, Cond.code yX3_firstHit cX3_firstHit 3 (some .int), Cond.methodLink RX3 32 yX4_timesIn, Cond.static yX4_timesIn, Cond.initialized RX4]
def wsX10_digest_r4 : List Cond := [Cond.code yX4_timesIn cX4_timesIn 7 (some .int), Cond.methodLink RX4 11 yX4_lengthOf, Cond.static yX4_lengthOf, Cond.code yX4_lengthOf cX4_lengthOf 2 (some .int), Cond.methodLink RX4 15 yJ6_bitCount_0f7a4, Cond.methodLink RX10 281 yX10_fault, Cond.instanceMethod yX10_fault, Cond.selects RX10 yX10_fault yX10_fault, Cond.code yX10_fault cX10_fault 1 (some .int), Cond.methodLink RX10 112 yX6_faultPlace, Cond.instanceMethod yX6_faultPlace, Cond.selects RX6 yX6_faultPlace yX6_faultPlace, Cond.initialized RX6, Cond.code yX6_faultPlace cX6_faultPlace 1 (some .int), Cond.fieldLink RX6 28 "RowsOfTwo$Sentences" "stuckAt" "I", Cond.fieldLink RX6 38 "RowsOfTwo$Sentences" "due" "I", Cond.fieldLink RX6 32 "RowsOfTwo$Sentences" "length" "I", Cond.methodLink RX10 284 yX10_shown, Cond.instanceMethod yX10_shown, Cond.selects RX10 yX10_shown yX10_shown, Cond.code yX10_shown cX10_shown 3 (some .int), Cond.fieldLink RX10 33 "RowsOfTwo" "shownRows" "LRowsOfTwo$Shown;", Cond.fieldLink RX10 133 "RowsOfTwo$Shown" "tallies" "[[I", Cond.methodLink RX10 126 yX10_isLength]
def wsX10_digest_r5 : List Cond := [Cond.static yX10_isLength, Cond.code yX10_isLength cX10_isLength 1 (some .boolean), Cond.methodLink RX10 116 yX6_isFaulty, Cond.instanceMethod yX6_isFaulty, Cond.selects RX6 yX6_isFaulty yX6_isFaulty, Cond.code yX6_isFaulty cX6_isFaulty 1 (some .boolean), Cond.methodLink RX6 45 yX6_faultPlace, Cond.methodLink RX10 129 yX8_learn, Cond.instanceMethod yX8_learn, Cond.selects RX8 yX8_learn yX8_learn, Cond.initialized RX8, Cond.code yX8_learn cX8_learn 6 none, Cond.fieldLink RX8 16 "RowsOfTwo$Shown" "known" "[Z", Cond.fieldLink RX8 11 "RowsOfTwo$Shown" "tallies" "[[I", Cond.methodLink RX8 20 yX6_hold, Cond.instanceMethod yX6_hold, Cond.selects RX6 yX6_hold yX6_hold, Cond.code yX6_hold cX6_hold 8 (some .boolean), Cond.fieldLink RX6 35 "RowsOfTwo$Sentences" "tests" "I", Cond.fieldLink RX6 21 "RowsOfTwo$Sentences" "opensAlternative" "[Z", Cond.fieldLink RX6 11 "RowsOfTwo$Sentences" "letters" "[I", Cond.fieldLink RX6 25 "RowsOfTwo$Sentences" "measured" "[I", Cond.methodLink RX6 72 yX3_measure, Cond.methodLink RX6 78 yX6_isDone]
def wsX10_digest_r6 : List Cond := [Cond.instanceMethod yX6_isDone, Cond.selects RX6 yX6_isDone yX6_isDone, Cond.code yX6_isDone cX6_isDone 3 (some .boolean), Cond.fieldLink RX6 15 "RowsOfTwo$Sentences" "relations" "[I", Cond.fieldLink RX6 18 "RowsOfTwo$Sentences" "limits" "[I", Cond.methodLink RX8 26 yJ6_bitCount_0f7a4, Cond.methodLink RX10 137 yX9_sum, Cond.static yX9_sum, Cond.initialized RX9, Cond.code yX9_sum cX9_sum 6 (some .int), Cond.methodLink RX10 287 yX10_waits, Cond.instanceMethod yX10_waits, Cond.selects RX10 yX10_waits yX10_waits, Cond.code yX10_waits cX10_waits 2 (some .long), Cond.methodLink RX10 143 yX10_isPart, Cond.static yX10_isPart, Cond.code yX10_isPart cX10_isPart 1 (some .boolean), Cond.methodLink RX10 146 yX10_refusal, Cond.static yX10_refusal, Cond.code yX10_refusal cX10_refusal 1 (some .long), Cond.constantLong RX10 295 (-9223372036854775808), Cond.methodLink RX10 214 yX4_lead, Cond.static yX4_lead, Cond.code yX4_lead cX4_lead 14 (some .long)]
def wsX10_digest_r7 : List Cond := [Cond.constantLong RX4 28 (16), Cond.methodLink RX4 24 yX4_chanceParts, Cond.static yX4_chanceParts, Cond.code yX4_chanceParts cX4_chanceParts 3 (some .long), Cond.methodLink RX4 30 yX1_power, Cond.static yX1_power, Cond.initialized RX1, Cond.code yX1_power cX1_power 6 (some .long), Cond.methodLink RX10 220 yX4_leadUnit, Cond.static yX4_leadUnit, Cond.code yX4_leadUnit cX4_leadUnit 1 (some .long), Cond.methodLink RX10 196 yX1_part, Cond.static yX1_part, Cond.code yX1_part cX1_part 7 (some .long), Cond.methodLink RX1 7 yX1_commonDivisor, Cond.static yX1_commonDivisor, Cond.code yX1_commonDivisor cX1_commonDivisor 11 (some .long), Cond.methodLink RX10 290 yX10_fills, Cond.instanceMethod yX10_fills, Cond.selects RX10 yX10_fills yX10_fills, Cond.code yX10_fills cX10_fills 3 (some .int), Cond.fieldLink RX10 154 "RowsOfTwo$Row" "unseen" "I", Cond.fieldLink RX10 40 "RowsOfTwo" "heldFills" "LRowsOfTwo$Fills;", Cond.fieldLink RX10 165 "RowsOfTwo$Fills" "tally" "[I"]
def wsX10_digest_r8 : List Cond := [Cond.methodLink RX10 157 yJ6_bitCount_0f7a4, Cond.methodLink RX10 162 yX0_learn, Cond.instanceMethod yX0_learn, Cond.selects RX0 yX0_learn yX0_learn, Cond.initialized RX0, Cond.code yX0_learn cX0_learn 8 none, Cond.fieldLink RX0 9 "RowsOfTwo$Fills" "tally" "[I", Cond.fieldLink RX0 15 "RowsOfTwo$Fills" "alwaysHit" "I", Cond.fieldLink RX0 19 "RowsOfTwo$Fills" "everHit" "I", Cond.fieldLink RX0 22 "RowsOfTwo$Row" "unseen" "I", Cond.fieldLink RX0 33 "RowsOfTwo$Row" "hits" "I", Cond.fieldLink RX0 36 "RowsOfTwo$Row" "length" "I", Cond.methodLink RX0 27 yJ6_bitCount_0f7a4, Cond.methodLink RX0 39 yX6_hold]
def wsX10_digest : List Cond := .code yX10_digest cX10_digest 5 (some .long) :: ((wsX10_digest_r1 ++ (wsX10_digest_r2 ++ (wsX10_digest_r3 ++ (wsX10_digest_r4 ++ (wsX10_digest_r5 ++ (wsX10_digest_r6 ++ (wsX10_digest_r7 ++ wsX10_digest_r8))))))) ++ wsX100 ++ wsX50 ++ wsX60 ++ wsX80 ++ wsX00)
def wsX11_init : List Cond := .code yX11_init cX11_init 1 none :: ([.methodLink RX11 1 objectInit, .instanceMethod objectInit, .code objectInit ⟨#[0xb1]⟩ 1 none, .arrayClass .int, .fieldLink RX11 7 "RowsOfTwoModel" "sizes" "[I", .fieldLink RX11 13 "RowsOfTwoModel" "signs" "[I", .fieldLink RX11 16 "RowsOfTwoModel" "odds" "I", .fieldLink RX11 20 "RowsOfTwoModel" "pattern" "I", .fieldLink RX11 23 "RowsOfTwoModel" "text" "[I", .fieldLink RX11 26 "RowsOfTwoModel" "testNumber" "[I", .fieldLink RX11 29 "RowsOfTwoModel" "testSign" "[I", .fieldLink RX11 32 "RowsOfTwoModel" "testValue" "[I", .arrayClass .boolean, .fieldLink RX11 35 "RowsOfTwoModel" "testBegins" "[Z", .fieldLink RX11 39 "RowsOfTwoModel" "unseen" "[I", .fieldLink RX11 42 "RowsOfTwoModel" "isThere" "[Z", .fieldLink RX11 45 "RowsOfTwoModel" "types" "[I", .fieldLink RX11 48 "RowsOfTwoModel" "held" "[I", .fieldLink RX11 51 "RowsOfTwoModel" "items" "[I", .fieldLink RX11 54 "RowsOfTwoModel" "moved" "[I"] ++ wsX110)
def wsX11_in : List Cond := .code yX11_in cX11_in 3 (some .boolean) :: ([])
def wsX11_no : List Cond := .code yX11_no cX11_no 1 (some .long) :: ([.constantLong RX11 57 (-9223372036854775808)])
def wsX11_lowest : List Cond := .code yX11_lowest cX11_lowest 11 (some .long) :: ([])
def wsX11_power : List Cond := .code yX11_power cX11_power 6 (some .long) :: ([])
def wsX11_ones : List Cond := .code yX11_ones cX11_ones 3 (some .int) :: ([])
def wsX11_isRow : List Cond := .code yX11_isRow cX11_isRow 1 (some .boolean) :: ([.methodLink RX11 59 yX11_in, .static yX11_in, .initialized RX11, .code yX11_in cX11_in 3 (some .boolean)])
def wsX11_puts : List Cond := .code yX11_puts cX11_puts 3 (some .int) :: ([.fieldLink RX11 7 "RowsOfTwoModel" "sizes" "[I", .fieldLink RX11 13 "RowsOfTwoModel" "signs" "[I", .methodLink RX11 63 yX11_isRow, .static yX11_isRow, .initialized RX11, .code yX11_isRow cX11_isRow 1 (some .boolean), .methodLink RX11 59 yX11_in, .static yX11_in, .code yX11_in cX11_in 3 (some .boolean)] ++ wsX110)
def wsX11_sign : List Cond := .code yX11_sign cX11_sign 3 (some .int) :: ([.methodLink RX11 67 yX11_puts, .instanceMethod yX11_puts, .selects RX11 yX11_puts yX11_puts, .initialized RX11, .code yX11_puts cX11_puts 3 (some .int), .fieldLink RX11 7 "RowsOfTwoModel" "sizes" "[I", .fieldLink RX11 13 "RowsOfTwoModel" "signs" "[I", .methodLink RX11 63 yX11_isRow, .static yX11_isRow, .code yX11_isRow cX11_isRow 1 (some .boolean), .methodLink RX11 59 yX11_in, .static yX11_in, .code yX11_in cX11_in 3 (some .boolean)] ++ wsX110)
def wsX11_isSheet : List Cond := .code yX11_isSheet cX11_isSheet 1 (some .boolean) :: ([.methodLink RX11 59 yX11_in, .static yX11_in, .initialized RX11, .code yX11_in cX11_in 3 (some .boolean)])
def wsX11_meets : List Cond := .code yX11_meets cX11_meets 2 (some .int) :: ([.fieldLink RX11 203 "RowsOfTwoModel" "finding" "I"] ++ wsX110)
def wsX11_read : List Cond := .code yX11_read cX11_read 4 (some .int) :: ([.fieldLink RX11 42 "RowsOfTwoModel" "isThere" "[Z", .fieldLink RX11 48 "RowsOfTwoModel" "held" "[I", .fieldLink RX11 51 "RowsOfTwoModel" "items" "[I", .methodLink RX11 71 yX11_isSheet, .static yX11_isSheet, .initialized RX11, .code yX11_isSheet cX11_isSheet 1 (some .boolean), .methodLink RX11 59 yX11_in, .static yX11_in, .code yX11_in cX11_in 3 (some .boolean), .methodLink RX11 63 yX11_isRow, .static yX11_isRow, .code yX11_isRow cX11_isRow 1 (some .boolean), .methodLink RX11 74 yX11_meets, .instanceMethod yX11_meets, .selects RX11 yX11_meets yX11_meets, .code yX11_meets cX11_meets 2 (some .int), .fieldLink RX11 203 "RowsOfTwoModel" "finding" "I", .methodLink RX11 67 yX11_puts, .instanceMethod yX11_puts, .selects RX11 yX11_puts yX11_puts, .code yX11_puts cX11_puts 3 (some .int), .fieldLink RX11 7 "RowsOfTwoModel" "sizes" "[I", .fieldLink RX11 13 "RowsOfTwoModel" "signs" "[I"] ++ wsX110)
def wsX11_clear : List Cond := .code yX11_clear cX11_clear 3 (some .int) :: ([.fieldLink RX11 7 "RowsOfTwoModel" "sizes" "[I", .methodLink RX11 63 yX11_isRow, .static yX11_isRow, .initialized RX11, .code yX11_isRow cX11_isRow 1 (some .boolean), .methodLink RX11 59 yX11_in, .static yX11_in, .code yX11_in cX11_in 3 (some .boolean)] ++ wsX110)
def wsX11_at : List Cond := .code yX11_at cX11_at 3 (some .int) :: ([.fieldLink RX11 7 "RowsOfTwoModel" "sizes" "[I", .fieldLink RX11 13 "RowsOfTwoModel" "signs" "[I", .methodLink RX11 63 yX11_isRow, .static yX11_isRow, .initialized RX11, .code yX11_isRow cX11_isRow 1 (some .boolean), .methodLink RX11 59 yX11_in, .static yX11_in, .code yX11_in cX11_in 3 (some .boolean)] ++ wsX110)
def wsX11_set : List Cond := .code yX11_set cX11_set 4 (some .int) :: ([.fieldLink RX11 16 "RowsOfTwoModel" "odds" "I", .fieldLink RX11 20 "RowsOfTwoModel" "pattern" "I", .methodLink RX11 59 yX11_in, .static yX11_in, .initialized RX11, .code yX11_in cX11_in 3 (some .boolean)] ++ wsX110)
def wsX11_isWhole : List Cond := .code yX11_isWhole cX11_isWhole 3 (some .boolean) :: ([.fieldLink RX11 7 "RowsOfTwoModel" "sizes" "[I", .fieldLink RX11 13 "RowsOfTwoModel" "signs" "[I"] ++ wsX110)
def wsX11_bitsOf : List Cond := .code yX11_bitsOf cX11_bitsOf 4 (some .int) :: ([.fieldLink RX11 7 "RowsOfTwoModel" "sizes" "[I", .fieldLink RX11 13 "RowsOfTwoModel" "signs" "[I"] ++ wsX110)
def wsX11_lengthOf : List Cond := .code yX11_lengthOf cX11_lengthOf 2 (some .int) :: ([])
def wsX11_standing : List Cond := .code yX11_standing cX11_standing 7 (some .int) :: ([.fieldLink RX11 20 "RowsOfTwoModel" "pattern" "I", .methodLink RX11 78 yX11_lengthOf, .static yX11_lengthOf, .initialized RX11, .code yX11_lengthOf cX11_lengthOf 2 (some .int)] ++ wsX110)
def wsX11_numberOf : List Cond := .code yX11_numberOf cX11_numberOf 13 (some .int) :: ([.methodLink RX11 81 yX11_ones, .static yX11_ones, .initialized RX11, .code yX11_ones cX11_ones 3 (some .int), .methodLink RX11 84 yX11_standing, .instanceMethod yX11_standing, .selects RX11 yX11_standing yX11_standing, .code yX11_standing cX11_standing 7 (some .int), .fieldLink RX11 20 "RowsOfTwoModel" "pattern" "I", .methodLink RX11 78 yX11_lengthOf, .static yX11_lengthOf, .code yX11_lengthOf cX11_lengthOf 2 (some .int)] ++ wsX110)
def wsX11_showsNow_r1 : List Cond := [Cond.fieldLink RX11 7 "RowsOfTwoModel" "sizes" "[I", Cond.methodLink RX11 87 yX11_isWhole, Cond.instanceMethod yX11_isWhole, Cond.selects RX11 yX11_isWhole yX11_isWhole, Cond.initialized RX11, Cond.code yX11_isWhole cX11_isWhole 3 (some .boolean), Cond.fieldLink RX11 13 "RowsOfTwoModel" "signs" "[I", Cond.methodLink RX11 90 yX11_bitsOf, Cond.instanceMethod yX11_bitsOf, Cond.selects RX11 yX11_bitsOf yX11_bitsOf, Cond.code yX11_bitsOf cX11_bitsOf 4 (some .int), Cond.methodLink RX11 93 yX11_numberOf, Cond.instanceMethod yX11_numberOf, Cond.selects RX11 yX11_numberOf yX11_numberOf, Cond.code yX11_numberOf cX11_numberOf 13 (some .int), Cond.methodLink RX11 81 yX11_ones, Cond.static yX11_ones, Cond.code yX11_ones cX11_ones 3 (some .int), Cond.methodLink RX11 84 yX11_standing, Cond.instanceMethod yX11_standing, Cond.selects RX11 yX11_standing yX11_standing, Cond.code yX11_standing cX11_standing 7 (some .int), Cond.fieldLink RX11 20 "RowsOfTwoModel" "pattern" "I", Cond.methodLink RX11 78 yX11_lengthOf]
def wsX11_showsNow_r2 : List Cond := [Cond.static yX11_lengthOf, Cond.code yX11_lengthOf cX11_lengthOf 2 (some .int)]
def wsX11_showsNow : List Cond := .code yX11_showsNow cX11_showsNow 3 (some .int) :: ((wsX11_showsNow_r1 ++ wsX11_showsNow_r2) ++ wsX110)
def wsX11_shows_r1 : List Cond := [Cond.methodLink RX11 63 yX11_isRow, Cond.static yX11_isRow, Cond.initialized RX11, Cond.code yX11_isRow cX11_isRow 1 (some .boolean), Cond.methodLink RX11 59 yX11_in, Cond.static yX11_in, Cond.code yX11_in cX11_in 3 (some .boolean), Cond.methodLink RX11 97 yX11_showsNow, Cond.instanceMethod yX11_showsNow, Cond.selects RX11 yX11_showsNow yX11_showsNow, Cond.code yX11_showsNow cX11_showsNow 3 (some .int), Cond.fieldLink RX11 7 "RowsOfTwoModel" "sizes" "[I", Cond.methodLink RX11 87 yX11_isWhole, Cond.instanceMethod yX11_isWhole, Cond.selects RX11 yX11_isWhole yX11_isWhole, Cond.code yX11_isWhole cX11_isWhole 3 (some .boolean), Cond.fieldLink RX11 13 "RowsOfTwoModel" "signs" "[I", Cond.methodLink RX11 90 yX11_bitsOf, Cond.instanceMethod yX11_bitsOf, Cond.selects RX11 yX11_bitsOf yX11_bitsOf, Cond.code yX11_bitsOf cX11_bitsOf 4 (some .int), Cond.methodLink RX11 93 yX11_numberOf, Cond.instanceMethod yX11_numberOf, Cond.selects RX11 yX11_numberOf yX11_numberOf]
def wsX11_shows_r2 : List Cond := [Cond.code yX11_numberOf cX11_numberOf 13 (some .int), Cond.methodLink RX11 81 yX11_ones, Cond.static yX11_ones, Cond.code yX11_ones cX11_ones 3 (some .int), Cond.methodLink RX11 84 yX11_standing, Cond.instanceMethod yX11_standing, Cond.selects RX11 yX11_standing yX11_standing, Cond.code yX11_standing cX11_standing 7 (some .int), Cond.fieldLink RX11 20 "RowsOfTwoModel" "pattern" "I", Cond.methodLink RX11 78 yX11_lengthOf, Cond.static yX11_lengthOf, Cond.code yX11_lengthOf cX11_lengthOf 2 (some .int)]
def wsX11_shows : List Cond := .code yX11_shows cX11_shows 3 (some .int) :: ((wsX11_shows_r1 ++ wsX11_shows_r2) ++ wsX110)
def wsX11_type : List Cond := .code yX11_type cX11_type 2 (some .int) :: ([.fieldLink RX11 100 "RowsOfTwoModel" "typed" "I", .fieldLink RX11 23 "RowsOfTwoModel" "text" "[I", .fieldLink RX11 103 "RowsOfTwoModel" "isRead" "Z", .methodLink RX11 59 yX11_in, .static yX11_in, .initialized RX11, .code yX11_in cX11_in 3 (some .boolean)] ++ wsX110)
def wsX11_wipe : List Cond := .code yX11_wipe cX11_wipe 2 (some .int) :: ([.fieldLink RX11 100 "RowsOfTwoModel" "typed" "I", .fieldLink RX11 103 "RowsOfTwoModel" "isRead" "Z"] ++ wsX110)
def wsX11_byteNow : List Cond := .code yX11_byteNow cX11_byteNow 1 (some .int) :: ([.fieldLink RX11 107 "RowsOfTwoModel" "at" "I", .fieldLink RX11 100 "RowsOfTwoModel" "typed" "I", .fieldLink RX11 23 "RowsOfTwoModel" "text" "[I"] ++ wsX110)
def wsX11_numberBy : List Cond := .code yX11_numberBy cX11_numberBy 1 (some .int) :: ([])
def wsX11_test : List Cond := .code yX11_test cX11_test 6 none :: ([.fieldLink RX11 107 "RowsOfTwoModel" "at" "I", .fieldLink RX11 117 "RowsOfTwoModel" "fault" "I", .fieldLink RX11 26 "RowsOfTwoModel" "testNumber" "[I", .fieldLink RX11 120 "RowsOfTwoModel" "tests" "I", .fieldLink RX11 29 "RowsOfTwoModel" "testSign" "[I", .fieldLink RX11 32 "RowsOfTwoModel" "testValue" "[I", .fieldLink RX11 35 "RowsOfTwoModel" "testBegins" "[Z", .methodLink RX11 110 yX11_byteNow, .instanceMethod yX11_byteNow, .selects RX11 yX11_byteNow yX11_byteNow, .initialized RX11, .code yX11_byteNow cX11_byteNow 1 (some .int), .fieldLink RX11 100 "RowsOfTwoModel" "typed" "I", .fieldLink RX11 23 "RowsOfTwoModel" "text" "[I", .methodLink RX11 114 yX11_numberBy, .static yX11_numberBy, .code yX11_numberBy cX11_numberBy 1 (some .int), .methodLink RX11 59 yX11_in, .static yX11_in, .code yX11_in cX11_in 3 (some .boolean)] ++ wsX110)
def wsX11_faultNow_r1 : List Cond := [Cond.fieldLink RX11 103 "RowsOfTwoModel" "isRead" "Z", Cond.fieldLink RX11 117 "RowsOfTwoModel" "fault" "I", Cond.fieldLink RX11 107 "RowsOfTwoModel" "at" "I", Cond.fieldLink RX11 120 "RowsOfTwoModel" "tests" "I", Cond.fieldLink RX11 100 "RowsOfTwoModel" "typed" "I", Cond.methodLink RX11 123 yX11_test, Cond.instanceMethod yX11_test, Cond.selects RX11 yX11_test yX11_test, Cond.initialized RX11, Cond.code yX11_test cX11_test 6 none, Cond.fieldLink RX11 26 "RowsOfTwoModel" "testNumber" "[I", Cond.fieldLink RX11 29 "RowsOfTwoModel" "testSign" "[I", Cond.fieldLink RX11 32 "RowsOfTwoModel" "testValue" "[I", Cond.fieldLink RX11 35 "RowsOfTwoModel" "testBegins" "[Z", Cond.methodLink RX11 110 yX11_byteNow, Cond.instanceMethod yX11_byteNow, Cond.selects RX11 yX11_byteNow yX11_byteNow, Cond.code yX11_byteNow cX11_byteNow 1 (some .int), Cond.fieldLink RX11 23 "RowsOfTwoModel" "text" "[I", Cond.methodLink RX11 114 yX11_numberBy, Cond.static yX11_numberBy, Cond.code yX11_numberBy cX11_numberBy 1 (some .int), Cond.methodLink RX11 59 yX11_in, Cond.static yX11_in]
def wsX11_faultNow_r2 : List Cond := [Cond.code yX11_in cX11_in 3 (some .boolean)]
def wsX11_faultNow : List Cond := .code yX11_faultNow cX11_faultNow 2 (some .int) :: ((wsX11_faultNow_r1 ++ wsX11_faultNow_r2) ++ wsX110)
def wsX11_fault_r1 : List Cond := [Cond.methodLink RX11 127 yX11_faultNow, Cond.instanceMethod yX11_faultNow, Cond.selects RX11 yX11_faultNow yX11_faultNow, Cond.initialized RX11, Cond.code yX11_faultNow cX11_faultNow 2 (some .int), Cond.fieldLink RX11 103 "RowsOfTwoModel" "isRead" "Z", Cond.fieldLink RX11 117 "RowsOfTwoModel" "fault" "I", Cond.fieldLink RX11 107 "RowsOfTwoModel" "at" "I", Cond.fieldLink RX11 120 "RowsOfTwoModel" "tests" "I", Cond.fieldLink RX11 100 "RowsOfTwoModel" "typed" "I", Cond.methodLink RX11 123 yX11_test, Cond.instanceMethod yX11_test, Cond.selects RX11 yX11_test yX11_test, Cond.code yX11_test cX11_test 6 none, Cond.fieldLink RX11 26 "RowsOfTwoModel" "testNumber" "[I", Cond.fieldLink RX11 29 "RowsOfTwoModel" "testSign" "[I", Cond.fieldLink RX11 32 "RowsOfTwoModel" "testValue" "[I", Cond.fieldLink RX11 35 "RowsOfTwoModel" "testBegins" "[Z", Cond.methodLink RX11 110 yX11_byteNow, Cond.instanceMethod yX11_byteNow, Cond.selects RX11 yX11_byteNow yX11_byteNow, Cond.code yX11_byteNow cX11_byteNow 1 (some .int), Cond.fieldLink RX11 23 "RowsOfTwoModel" "text" "[I", Cond.methodLink RX11 114 yX11_numberBy]
def wsX11_fault_r2 : List Cond := [Cond.static yX11_numberBy, Cond.code yX11_numberBy cX11_numberBy 1 (some .int), Cond.methodLink RX11 59 yX11_in, Cond.static yX11_in, Cond.code yX11_in cX11_in 3 (some .boolean)]
def wsX11_fault : List Cond := .code yX11_fault cX11_fault 1 (some .int) :: ((wsX11_fault_r1 ++ wsX11_fault_r2) ++ wsX110)
def wsX11_does : List Cond := .code yX11_does cX11_does 6 (some .boolean) :: ([.fieldLink RX11 120 "RowsOfTwoModel" "tests" "I", .fieldLink RX11 35 "RowsOfTwoModel" "testBegins" "[Z", .fieldLink RX11 26 "RowsOfTwoModel" "testNumber" "[I", .fieldLink RX11 29 "RowsOfTwoModel" "testSign" "[I", .fieldLink RX11 32 "RowsOfTwoModel" "testValue" "[I", .methodLink RX11 93 yX11_numberOf, .instanceMethod yX11_numberOf, .selects RX11 yX11_numberOf yX11_numberOf, .initialized RX11, .code yX11_numberOf cX11_numberOf 13 (some .int), .methodLink RX11 81 yX11_ones, .static yX11_ones, .code yX11_ones cX11_ones 3 (some .int), .methodLink RX11 84 yX11_standing, .instanceMethod yX11_standing, .selects RX11 yX11_standing yX11_standing, .code yX11_standing cX11_standing 7 (some .int), .fieldLink RX11 20 "RowsOfTwoModel" "pattern" "I", .methodLink RX11 78 yX11_lengthOf, .static yX11_lengthOf, .code yX11_lengthOf cX11_lengthOf 2 (some .int)] ++ wsX110)
def wsX11_holds_r1 : List Cond := [Cond.fieldLink RX11 7 "RowsOfTwoModel" "sizes" "[I", Cond.methodLink RX11 63 yX11_isRow, Cond.static yX11_isRow, Cond.initialized RX11, Cond.code yX11_isRow cX11_isRow 1 (some .boolean), Cond.methodLink RX11 59 yX11_in, Cond.static yX11_in, Cond.code yX11_in cX11_in 3 (some .boolean), Cond.methodLink RX11 87 yX11_isWhole, Cond.instanceMethod yX11_isWhole, Cond.selects RX11 yX11_isWhole yX11_isWhole, Cond.code yX11_isWhole cX11_isWhole 3 (some .boolean), Cond.fieldLink RX11 13 "RowsOfTwoModel" "signs" "[I", Cond.methodLink RX11 127 yX11_faultNow, Cond.instanceMethod yX11_faultNow, Cond.selects RX11 yX11_faultNow yX11_faultNow, Cond.code yX11_faultNow cX11_faultNow 2 (some .int), Cond.fieldLink RX11 103 "RowsOfTwoModel" "isRead" "Z", Cond.fieldLink RX11 117 "RowsOfTwoModel" "fault" "I", Cond.fieldLink RX11 107 "RowsOfTwoModel" "at" "I", Cond.fieldLink RX11 120 "RowsOfTwoModel" "tests" "I", Cond.fieldLink RX11 100 "RowsOfTwoModel" "typed" "I", Cond.methodLink RX11 123 yX11_test, Cond.instanceMethod yX11_test]
def wsX11_holds_r2 : List Cond := [Cond.selects RX11 yX11_test yX11_test, Cond.code yX11_test cX11_test 6 none, Cond.fieldLink RX11 26 "RowsOfTwoModel" "testNumber" "[I", Cond.fieldLink RX11 29 "RowsOfTwoModel" "testSign" "[I", Cond.fieldLink RX11 32 "RowsOfTwoModel" "testValue" "[I", Cond.fieldLink RX11 35 "RowsOfTwoModel" "testBegins" "[Z", Cond.methodLink RX11 110 yX11_byteNow, Cond.instanceMethod yX11_byteNow, Cond.selects RX11 yX11_byteNow yX11_byteNow, Cond.code yX11_byteNow cX11_byteNow 1 (some .int), Cond.fieldLink RX11 23 "RowsOfTwoModel" "text" "[I", Cond.methodLink RX11 114 yX11_numberBy, Cond.static yX11_numberBy, Cond.code yX11_numberBy cX11_numberBy 1 (some .int), Cond.methodLink RX11 90 yX11_bitsOf, Cond.instanceMethod yX11_bitsOf, Cond.selects RX11 yX11_bitsOf yX11_bitsOf, Cond.code yX11_bitsOf cX11_bitsOf 4 (some .int), Cond.methodLink RX11 130 yX11_does, Cond.instanceMethod yX11_does, Cond.selects RX11 yX11_does yX11_does, Cond.code yX11_does cX11_does 6 (some .boolean), Cond.methodLink RX11 93 yX11_numberOf, Cond.instanceMethod yX11_numberOf]
def wsX11_holds_r3 : List Cond := [Cond.selects RX11 yX11_numberOf yX11_numberOf, Cond.code yX11_numberOf cX11_numberOf 13 (some .int), Cond.methodLink RX11 81 yX11_ones, Cond.static yX11_ones, Cond.code yX11_ones cX11_ones 3 (some .int), Cond.methodLink RX11 84 yX11_standing, Cond.instanceMethod yX11_standing, Cond.selects RX11 yX11_standing yX11_standing, Cond.code yX11_standing cX11_standing 7 (some .int), Cond.fieldLink RX11 20 "RowsOfTwoModel" "pattern" "I", Cond.methodLink RX11 78 yX11_lengthOf, Cond.static yX11_lengthOf, Cond.code yX11_lengthOf cX11_lengthOf 2 (some .int)]
def wsX11_holds : List Cond := .code yX11_holds cX11_holds 2 (some .int) :: ((wsX11_holds_r1 ++ (wsX11_holds_r2 ++ wsX11_holds_r3)) ++ wsX110)
def wsX11_shownNow_r1 : List Cond := [Cond.methodLink RX11 127 yX11_faultNow, Cond.instanceMethod yX11_faultNow, Cond.selects RX11 yX11_faultNow yX11_faultNow, Cond.initialized RX11, Cond.code yX11_faultNow cX11_faultNow 2 (some .int), Cond.fieldLink RX11 103 "RowsOfTwoModel" "isRead" "Z", Cond.fieldLink RX11 117 "RowsOfTwoModel" "fault" "I", Cond.fieldLink RX11 107 "RowsOfTwoModel" "at" "I", Cond.fieldLink RX11 120 "RowsOfTwoModel" "tests" "I", Cond.fieldLink RX11 100 "RowsOfTwoModel" "typed" "I", Cond.methodLink RX11 123 yX11_test, Cond.instanceMethod yX11_test, Cond.selects RX11 yX11_test yX11_test, Cond.code yX11_test cX11_test 6 none, Cond.fieldLink RX11 26 "RowsOfTwoModel" "testNumber" "[I", Cond.fieldLink RX11 29 "RowsOfTwoModel" "testSign" "[I", Cond.fieldLink RX11 32 "RowsOfTwoModel" "testValue" "[I", Cond.fieldLink RX11 35 "RowsOfTwoModel" "testBegins" "[Z", Cond.methodLink RX11 110 yX11_byteNow, Cond.instanceMethod yX11_byteNow, Cond.selects RX11 yX11_byteNow yX11_byteNow, Cond.code yX11_byteNow cX11_byteNow 1 (some .int), Cond.fieldLink RX11 23 "RowsOfTwoModel" "text" "[I", Cond.methodLink RX11 114 yX11_numberBy]
def wsX11_shownNow_r2 : List Cond := [Cond.static yX11_numberBy, Cond.code yX11_numberBy cX11_numberBy 1 (some .int), Cond.methodLink RX11 59 yX11_in, Cond.static yX11_in, Cond.code yX11_in cX11_in 3 (some .boolean), Cond.methodLink RX11 81 yX11_ones, Cond.static yX11_ones, Cond.code yX11_ones cX11_ones 3 (some .int), Cond.methodLink RX11 130 yX11_does, Cond.instanceMethod yX11_does, Cond.selects RX11 yX11_does yX11_does, Cond.code yX11_does cX11_does 6 (some .boolean), Cond.methodLink RX11 93 yX11_numberOf, Cond.instanceMethod yX11_numberOf, Cond.selects RX11 yX11_numberOf yX11_numberOf, Cond.code yX11_numberOf cX11_numberOf 13 (some .int), Cond.methodLink RX11 84 yX11_standing, Cond.instanceMethod yX11_standing, Cond.selects RX11 yX11_standing yX11_standing, Cond.code yX11_standing cX11_standing 7 (some .int), Cond.fieldLink RX11 20 "RowsOfTwoModel" "pattern" "I", Cond.methodLink RX11 78 yX11_lengthOf, Cond.static yX11_lengthOf, Cond.code yX11_lengthOf cX11_lengthOf 2 (some .int)]
def wsX11_shownNow : List Cond := .code yX11_shownNow cX11_shownNow 5 (some .int) :: ((wsX11_shownNow_r1 ++ wsX11_shownNow_r2) ++ wsX110)
def wsX11_shown_r1 : List Cond := [Cond.methodLink RX11 59 yX11_in, Cond.static yX11_in, Cond.initialized RX11, Cond.code yX11_in cX11_in 3 (some .boolean), Cond.methodLink RX11 134 yX11_shownNow, Cond.instanceMethod yX11_shownNow, Cond.selects RX11 yX11_shownNow yX11_shownNow, Cond.code yX11_shownNow cX11_shownNow 5 (some .int), Cond.methodLink RX11 127 yX11_faultNow, Cond.instanceMethod yX11_faultNow, Cond.selects RX11 yX11_faultNow yX11_faultNow, Cond.code yX11_faultNow cX11_faultNow 2 (some .int), Cond.fieldLink RX11 103 "RowsOfTwoModel" "isRead" "Z", Cond.fieldLink RX11 117 "RowsOfTwoModel" "fault" "I", Cond.fieldLink RX11 107 "RowsOfTwoModel" "at" "I", Cond.fieldLink RX11 120 "RowsOfTwoModel" "tests" "I", Cond.fieldLink RX11 100 "RowsOfTwoModel" "typed" "I", Cond.methodLink RX11 123 yX11_test, Cond.instanceMethod yX11_test, Cond.selects RX11 yX11_test yX11_test, Cond.code yX11_test cX11_test 6 none, Cond.fieldLink RX11 26 "RowsOfTwoModel" "testNumber" "[I", Cond.fieldLink RX11 29 "RowsOfTwoModel" "testSign" "[I", Cond.fieldLink RX11 32 "RowsOfTwoModel" "testValue" "[I"]
def wsX11_shown_r2 : List Cond := [Cond.fieldLink RX11 35 "RowsOfTwoModel" "testBegins" "[Z", Cond.methodLink RX11 110 yX11_byteNow, Cond.instanceMethod yX11_byteNow, Cond.selects RX11 yX11_byteNow yX11_byteNow, Cond.code yX11_byteNow cX11_byteNow 1 (some .int), Cond.fieldLink RX11 23 "RowsOfTwoModel" "text" "[I", Cond.methodLink RX11 114 yX11_numberBy, Cond.static yX11_numberBy, Cond.code yX11_numberBy cX11_numberBy 1 (some .int), Cond.methodLink RX11 81 yX11_ones, Cond.static yX11_ones, Cond.code yX11_ones cX11_ones 3 (some .int), Cond.methodLink RX11 130 yX11_does, Cond.instanceMethod yX11_does, Cond.selects RX11 yX11_does yX11_does, Cond.code yX11_does cX11_does 6 (some .boolean), Cond.methodLink RX11 93 yX11_numberOf, Cond.instanceMethod yX11_numberOf, Cond.selects RX11 yX11_numberOf yX11_numberOf, Cond.code yX11_numberOf cX11_numberOf 13 (some .int), Cond.methodLink RX11 84 yX11_standing, Cond.instanceMethod yX11_standing, Cond.selects RX11 yX11_standing yX11_standing, Cond.code yX11_standing cX11_standing 7 (some .int)]
def wsX11_shown_r3 : List Cond := [Cond.fieldLink RX11 20 "RowsOfTwoModel" "pattern" "I", Cond.methodLink RX11 78 yX11_lengthOf, Cond.static yX11_lengthOf, Cond.code yX11_lengthOf cX11_lengthOf 2 (some .int)]
def wsX11_shown : List Cond := .code yX11_shown cX11_shown 3 (some .int) :: ((wsX11_shown_r1 ++ (wsX11_shown_r2 ++ wsX11_shown_r3)) ++ wsX110)
def wsX11_nth_r1 : List Cond := [Cond.methodLink RX11 59 yX11_in, Cond.static yX11_in, Cond.initialized RX11, Cond.code yX11_in cX11_in 3 (some .boolean), Cond.methodLink RX11 127 yX11_faultNow, Cond.instanceMethod yX11_faultNow, Cond.selects RX11 yX11_faultNow yX11_faultNow, Cond.code yX11_faultNow cX11_faultNow 2 (some .int), Cond.fieldLink RX11 103 "RowsOfTwoModel" "isRead" "Z", Cond.fieldLink RX11 117 "RowsOfTwoModel" "fault" "I", Cond.fieldLink RX11 107 "RowsOfTwoModel" "at" "I", Cond.fieldLink RX11 120 "RowsOfTwoModel" "tests" "I", Cond.fieldLink RX11 100 "RowsOfTwoModel" "typed" "I", Cond.methodLink RX11 123 yX11_test, Cond.instanceMethod yX11_test, Cond.selects RX11 yX11_test yX11_test, Cond.code yX11_test cX11_test 6 none, Cond.fieldLink RX11 26 "RowsOfTwoModel" "testNumber" "[I", Cond.fieldLink RX11 29 "RowsOfTwoModel" "testSign" "[I", Cond.fieldLink RX11 32 "RowsOfTwoModel" "testValue" "[I", Cond.fieldLink RX11 35 "RowsOfTwoModel" "testBegins" "[Z", Cond.methodLink RX11 110 yX11_byteNow, Cond.instanceMethod yX11_byteNow, Cond.selects RX11 yX11_byteNow yX11_byteNow]
def wsX11_nth_r2 : List Cond := [Cond.code yX11_byteNow cX11_byteNow 1 (some .int), Cond.fieldLink RX11 23 "RowsOfTwoModel" "text" "[I", Cond.methodLink RX11 114 yX11_numberBy, Cond.static yX11_numberBy, Cond.code yX11_numberBy cX11_numberBy 1 (some .int), Cond.methodLink RX11 130 yX11_does, Cond.instanceMethod yX11_does, Cond.selects RX11 yX11_does yX11_does, Cond.code yX11_does cX11_does 6 (some .boolean), Cond.methodLink RX11 93 yX11_numberOf, Cond.instanceMethod yX11_numberOf, Cond.selects RX11 yX11_numberOf yX11_numberOf, Cond.code yX11_numberOf cX11_numberOf 13 (some .int), Cond.methodLink RX11 81 yX11_ones, Cond.static yX11_ones, Cond.code yX11_ones cX11_ones 3 (some .int), Cond.methodLink RX11 84 yX11_standing, Cond.instanceMethod yX11_standing, Cond.selects RX11 yX11_standing yX11_standing, Cond.code yX11_standing cX11_standing 7 (some .int), Cond.fieldLink RX11 20 "RowsOfTwoModel" "pattern" "I", Cond.methodLink RX11 78 yX11_lengthOf, Cond.static yX11_lengthOf, Cond.code yX11_lengthOf cX11_lengthOf 2 (some .int)]
def wsX11_nth : List Cond := .code yX11_nth cX11_nth 5 (some .int) :: ((wsX11_nth_r1 ++ wsX11_nth_r2) ++ wsX110)
def wsX11_share_r1 : List Cond := [Cond.fieldLink RX11 16 "RowsOfTwoModel" "odds" "I", Cond.constantLong RX11 145 (16), Cond.methodLink RX11 59 yX11_in, Cond.static yX11_in, Cond.initialized RX11, Cond.code yX11_in cX11_in 3 (some .boolean), Cond.methodLink RX11 137 yX11_no, Cond.static yX11_no, Cond.code yX11_no cX11_no 1 (some .long), Cond.constantLong RX11 57 (-9223372036854775808), Cond.methodLink RX11 127 yX11_faultNow, Cond.instanceMethod yX11_faultNow, Cond.selects RX11 yX11_faultNow yX11_faultNow, Cond.code yX11_faultNow cX11_faultNow 2 (some .int), Cond.fieldLink RX11 103 "RowsOfTwoModel" "isRead" "Z", Cond.fieldLink RX11 117 "RowsOfTwoModel" "fault" "I", Cond.fieldLink RX11 107 "RowsOfTwoModel" "at" "I", Cond.fieldLink RX11 120 "RowsOfTwoModel" "tests" "I", Cond.fieldLink RX11 100 "RowsOfTwoModel" "typed" "I", Cond.methodLink RX11 123 yX11_test, Cond.instanceMethod yX11_test, Cond.selects RX11 yX11_test yX11_test, Cond.code yX11_test cX11_test 6 none, Cond.fieldLink RX11 26 "RowsOfTwoModel" "testNumber" "[I"]
def wsX11_share_r2 : List Cond := [Cond.fieldLink RX11 29 "RowsOfTwoModel" "testSign" "[I", Cond.fieldLink RX11 32 "RowsOfTwoModel" "testValue" "[I", Cond.fieldLink RX11 35 "RowsOfTwoModel" "testBegins" "[Z", Cond.methodLink RX11 110 yX11_byteNow, Cond.instanceMethod yX11_byteNow, Cond.selects RX11 yX11_byteNow yX11_byteNow, Cond.code yX11_byteNow cX11_byteNow 1 (some .int), Cond.fieldLink RX11 23 "RowsOfTwoModel" "text" "[I", Cond.methodLink RX11 114 yX11_numberBy, Cond.static yX11_numberBy, Cond.code yX11_numberBy cX11_numberBy 1 (some .int), Cond.methodLink RX11 130 yX11_does, Cond.instanceMethod yX11_does, Cond.selects RX11 yX11_does yX11_does, Cond.code yX11_does cX11_does 6 (some .boolean), Cond.methodLink RX11 93 yX11_numberOf, Cond.instanceMethod yX11_numberOf, Cond.selects RX11 yX11_numberOf yX11_numberOf, Cond.code yX11_numberOf cX11_numberOf 13 (some .int), Cond.methodLink RX11 81 yX11_ones, Cond.static yX11_ones, Cond.code yX11_ones cX11_ones 3 (some .int), Cond.methodLink RX11 84 yX11_standing, Cond.instanceMethod yX11_standing]
def wsX11_share_r3 : List Cond := [Cond.selects RX11 yX11_standing yX11_standing, Cond.code yX11_standing cX11_standing 7 (some .int), Cond.fieldLink RX11 20 "RowsOfTwoModel" "pattern" "I", Cond.methodLink RX11 78 yX11_lengthOf, Cond.static yX11_lengthOf, Cond.code yX11_lengthOf cX11_lengthOf 2 (some .int), Cond.methodLink RX11 141 yX11_power, Cond.static yX11_power, Cond.code yX11_power cX11_power 6 (some .long), Cond.methodLink RX11 147 yX11_lowest, Cond.static yX11_lowest, Cond.code yX11_lowest cX11_lowest 11 (some .long)]
def wsX11_share : List Cond := .code yX11_share cX11_share 6 (some .long) :: ((wsX11_share_r1 ++ (wsX11_share_r2 ++ wsX11_share_r3)) ++ wsX110)
def wsX11_gathers : List Cond := .code yX11_gathers cX11_gathers 3 none :: ([.fieldLink RX11 151 "RowsOfTwoModel" "unseenMany" "I", .fieldLink RX11 7 "RowsOfTwoModel" "sizes" "[I", .fieldLink RX11 13 "RowsOfTwoModel" "signs" "[I", .fieldLink RX11 39 "RowsOfTwoModel" "unseen" "[I"] ++ wsX110)
def wsX11_fill : List Cond := .code yX11_fill cX11_fill 5 (some .int) :: ([.fieldLink RX11 151 "RowsOfTwoModel" "unseenMany" "I", .fieldLink RX11 39 "RowsOfTwoModel" "unseen" "[I", .methodLink RX11 90 yX11_bitsOf, .instanceMethod yX11_bitsOf, .selects RX11 yX11_bitsOf yX11_bitsOf, .initialized RX11, .code yX11_bitsOf cX11_bitsOf 4 (some .int), .fieldLink RX11 7 "RowsOfTwoModel" "sizes" "[I", .fieldLink RX11 13 "RowsOfTwoModel" "signs" "[I"] ++ wsX110)
def wsX11_fills_r1 : List Cond := [Cond.fieldLink RX11 151 "RowsOfTwoModel" "unseenMany" "I", Cond.fieldLink RX11 7 "RowsOfTwoModel" "sizes" "[I", Cond.methodLink RX11 63 yX11_isRow, Cond.static yX11_isRow, Cond.initialized RX11, Cond.code yX11_isRow cX11_isRow 1 (some .boolean), Cond.methodLink RX11 59 yX11_in, Cond.static yX11_in, Cond.code yX11_in cX11_in 3 (some .boolean), Cond.methodLink RX11 154 yX11_gathers, Cond.instanceMethod yX11_gathers, Cond.selects RX11 yX11_gathers yX11_gathers, Cond.code yX11_gathers cX11_gathers 3 none, Cond.fieldLink RX11 13 "RowsOfTwoModel" "signs" "[I", Cond.fieldLink RX11 39 "RowsOfTwoModel" "unseen" "[I", Cond.methodLink RX11 127 yX11_faultNow, Cond.instanceMethod yX11_faultNow, Cond.selects RX11 yX11_faultNow yX11_faultNow, Cond.code yX11_faultNow cX11_faultNow 2 (some .int), Cond.fieldLink RX11 103 "RowsOfTwoModel" "isRead" "Z", Cond.fieldLink RX11 117 "RowsOfTwoModel" "fault" "I", Cond.fieldLink RX11 107 "RowsOfTwoModel" "at" "I", Cond.fieldLink RX11 120 "RowsOfTwoModel" "tests" "I", Cond.fieldLink RX11 100 "RowsOfTwoModel" "typed" "I"]
def wsX11_fills_r2 : List Cond := [Cond.methodLink RX11 123 yX11_test, Cond.instanceMethod yX11_test, Cond.selects RX11 yX11_test yX11_test, Cond.code yX11_test cX11_test 6 none, Cond.fieldLink RX11 26 "RowsOfTwoModel" "testNumber" "[I", Cond.fieldLink RX11 29 "RowsOfTwoModel" "testSign" "[I", Cond.fieldLink RX11 32 "RowsOfTwoModel" "testValue" "[I", Cond.fieldLink RX11 35 "RowsOfTwoModel" "testBegins" "[Z", Cond.methodLink RX11 110 yX11_byteNow, Cond.instanceMethod yX11_byteNow, Cond.selects RX11 yX11_byteNow yX11_byteNow, Cond.code yX11_byteNow cX11_byteNow 1 (some .int), Cond.fieldLink RX11 23 "RowsOfTwoModel" "text" "[I", Cond.methodLink RX11 114 yX11_numberBy, Cond.static yX11_numberBy, Cond.code yX11_numberBy cX11_numberBy 1 (some .int), Cond.methodLink RX11 158 yX11_fill, Cond.instanceMethod yX11_fill, Cond.selects RX11 yX11_fill yX11_fill, Cond.code yX11_fill cX11_fill 5 (some .int), Cond.methodLink RX11 90 yX11_bitsOf, Cond.instanceMethod yX11_bitsOf, Cond.selects RX11 yX11_bitsOf yX11_bitsOf, Cond.code yX11_bitsOf cX11_bitsOf 4 (some .int)]
def wsX11_fills_r3 : List Cond := [Cond.methodLink RX11 130 yX11_does, Cond.instanceMethod yX11_does, Cond.selects RX11 yX11_does yX11_does, Cond.code yX11_does cX11_does 6 (some .boolean), Cond.methodLink RX11 93 yX11_numberOf, Cond.instanceMethod yX11_numberOf, Cond.selects RX11 yX11_numberOf yX11_numberOf, Cond.code yX11_numberOf cX11_numberOf 13 (some .int), Cond.methodLink RX11 81 yX11_ones, Cond.static yX11_ones, Cond.code yX11_ones cX11_ones 3 (some .int), Cond.methodLink RX11 84 yX11_standing, Cond.instanceMethod yX11_standing, Cond.selects RX11 yX11_standing yX11_standing, Cond.code yX11_standing cX11_standing 7 (some .int), Cond.fieldLink RX11 20 "RowsOfTwoModel" "pattern" "I", Cond.methodLink RX11 78 yX11_lengthOf, Cond.static yX11_lengthOf, Cond.code yX11_lengthOf cX11_lengthOf 2 (some .int)]
def wsX11_fills : List Cond := .code yX11_fills cX11_fills 5 (some .int) :: ((wsX11_fills_r1 ++ (wsX11_fills_r2 ++ wsX11_fills_r3)) ++ wsX110)
def wsX11_filled_r1 : List Cond := [Cond.fieldLink RX11 151 "RowsOfTwoModel" "unseenMany" "I", Cond.fieldLink RX11 7 "RowsOfTwoModel" "sizes" "[I", Cond.fieldLink RX11 16 "RowsOfTwoModel" "odds" "I", Cond.constantLong RX11 145 (16), Cond.methodLink RX11 63 yX11_isRow, Cond.static yX11_isRow, Cond.initialized RX11, Cond.code yX11_isRow cX11_isRow 1 (some .boolean), Cond.methodLink RX11 59 yX11_in, Cond.static yX11_in, Cond.code yX11_in cX11_in 3 (some .boolean), Cond.methodLink RX11 137 yX11_no, Cond.static yX11_no, Cond.code yX11_no cX11_no 1 (some .long), Cond.constantLong RX11 57 (-9223372036854775808), Cond.methodLink RX11 127 yX11_faultNow, Cond.instanceMethod yX11_faultNow, Cond.selects RX11 yX11_faultNow yX11_faultNow, Cond.code yX11_faultNow cX11_faultNow 2 (some .int), Cond.fieldLink RX11 103 "RowsOfTwoModel" "isRead" "Z", Cond.fieldLink RX11 117 "RowsOfTwoModel" "fault" "I", Cond.fieldLink RX11 107 "RowsOfTwoModel" "at" "I", Cond.fieldLink RX11 120 "RowsOfTwoModel" "tests" "I", Cond.fieldLink RX11 100 "RowsOfTwoModel" "typed" "I"]
def wsX11_filled_r2 : List Cond := [Cond.methodLink RX11 123 yX11_test, Cond.instanceMethod yX11_test, Cond.selects RX11 yX11_test yX11_test, Cond.code yX11_test cX11_test 6 none, Cond.fieldLink RX11 26 "RowsOfTwoModel" "testNumber" "[I", Cond.fieldLink RX11 29 "RowsOfTwoModel" "testSign" "[I", Cond.fieldLink RX11 32 "RowsOfTwoModel" "testValue" "[I", Cond.fieldLink RX11 35 "RowsOfTwoModel" "testBegins" "[Z", Cond.methodLink RX11 110 yX11_byteNow, Cond.instanceMethod yX11_byteNow, Cond.selects RX11 yX11_byteNow yX11_byteNow, Cond.code yX11_byteNow cX11_byteNow 1 (some .int), Cond.fieldLink RX11 23 "RowsOfTwoModel" "text" "[I", Cond.methodLink RX11 114 yX11_numberBy, Cond.static yX11_numberBy, Cond.code yX11_numberBy cX11_numberBy 1 (some .int), Cond.methodLink RX11 154 yX11_gathers, Cond.instanceMethod yX11_gathers, Cond.selects RX11 yX11_gathers yX11_gathers, Cond.code yX11_gathers cX11_gathers 3 none, Cond.fieldLink RX11 13 "RowsOfTwoModel" "signs" "[I", Cond.fieldLink RX11 39 "RowsOfTwoModel" "unseen" "[I", Cond.methodLink RX11 158 yX11_fill, Cond.instanceMethod yX11_fill]
def wsX11_filled_r3 : List Cond := [Cond.selects RX11 yX11_fill yX11_fill, Cond.code yX11_fill cX11_fill 5 (some .int), Cond.methodLink RX11 90 yX11_bitsOf, Cond.instanceMethod yX11_bitsOf, Cond.selects RX11 yX11_bitsOf yX11_bitsOf, Cond.code yX11_bitsOf cX11_bitsOf 4 (some .int), Cond.methodLink RX11 130 yX11_does, Cond.instanceMethod yX11_does, Cond.selects RX11 yX11_does yX11_does, Cond.code yX11_does cX11_does 6 (some .boolean), Cond.methodLink RX11 93 yX11_numberOf, Cond.instanceMethod yX11_numberOf, Cond.selects RX11 yX11_numberOf yX11_numberOf, Cond.code yX11_numberOf cX11_numberOf 13 (some .int), Cond.methodLink RX11 81 yX11_ones, Cond.static yX11_ones, Cond.code yX11_ones cX11_ones 3 (some .int), Cond.methodLink RX11 84 yX11_standing, Cond.instanceMethod yX11_standing, Cond.selects RX11 yX11_standing yX11_standing, Cond.code yX11_standing cX11_standing 7 (some .int), Cond.fieldLink RX11 20 "RowsOfTwoModel" "pattern" "I", Cond.methodLink RX11 78 yX11_lengthOf, Cond.static yX11_lengthOf]
def wsX11_filled_r4 : List Cond := [Cond.code yX11_lengthOf cX11_lengthOf 2 (some .int), Cond.methodLink RX11 141 yX11_power, Cond.static yX11_power, Cond.code yX11_power cX11_power 6 (some .long), Cond.methodLink RX11 147 yX11_lowest, Cond.static yX11_lowest, Cond.code yX11_lowest cX11_lowest 11 (some .long)]
def wsX11_filled : List Cond := .code yX11_filled cX11_filled 6 (some .long) :: ((wsX11_filled_r1 ++ (wsX11_filled_r2 ++ (wsX11_filled_r3 ++ wsX11_filled_r4))) ++ wsX110)
def wsX11_sure_r1 : List Cond := [Cond.fieldLink RX11 7 "RowsOfTwoModel" "sizes" "[I", Cond.fieldLink RX11 151 "RowsOfTwoModel" "unseenMany" "I", Cond.methodLink RX11 63 yX11_isRow, Cond.static yX11_isRow, Cond.initialized RX11, Cond.code yX11_isRow cX11_isRow 1 (some .boolean), Cond.methodLink RX11 59 yX11_in, Cond.static yX11_in, Cond.code yX11_in cX11_in 3 (some .boolean), Cond.methodLink RX11 127 yX11_faultNow, Cond.instanceMethod yX11_faultNow, Cond.selects RX11 yX11_faultNow yX11_faultNow, Cond.code yX11_faultNow cX11_faultNow 2 (some .int), Cond.fieldLink RX11 103 "RowsOfTwoModel" "isRead" "Z", Cond.fieldLink RX11 117 "RowsOfTwoModel" "fault" "I", Cond.fieldLink RX11 107 "RowsOfTwoModel" "at" "I", Cond.fieldLink RX11 120 "RowsOfTwoModel" "tests" "I", Cond.fieldLink RX11 100 "RowsOfTwoModel" "typed" "I", Cond.methodLink RX11 123 yX11_test, Cond.instanceMethod yX11_test, Cond.selects RX11 yX11_test yX11_test, Cond.code yX11_test cX11_test 6 none, Cond.fieldLink RX11 26 "RowsOfTwoModel" "testNumber" "[I", Cond.fieldLink RX11 29 "RowsOfTwoModel" "testSign" "[I"]
def wsX11_sure_r2 : List Cond := [Cond.fieldLink RX11 32 "RowsOfTwoModel" "testValue" "[I", Cond.fieldLink RX11 35 "RowsOfTwoModel" "testBegins" "[Z", Cond.methodLink RX11 110 yX11_byteNow, Cond.instanceMethod yX11_byteNow, Cond.selects RX11 yX11_byteNow yX11_byteNow, Cond.code yX11_byteNow cX11_byteNow 1 (some .int), Cond.fieldLink RX11 23 "RowsOfTwoModel" "text" "[I", Cond.methodLink RX11 114 yX11_numberBy, Cond.static yX11_numberBy, Cond.code yX11_numberBy cX11_numberBy 1 (some .int), Cond.methodLink RX11 154 yX11_gathers, Cond.instanceMethod yX11_gathers, Cond.selects RX11 yX11_gathers yX11_gathers, Cond.code yX11_gathers cX11_gathers 3 none, Cond.fieldLink RX11 13 "RowsOfTwoModel" "signs" "[I", Cond.fieldLink RX11 39 "RowsOfTwoModel" "unseen" "[I", Cond.methodLink RX11 158 yX11_fill, Cond.instanceMethod yX11_fill, Cond.selects RX11 yX11_fill yX11_fill, Cond.code yX11_fill cX11_fill 5 (some .int), Cond.methodLink RX11 90 yX11_bitsOf, Cond.instanceMethod yX11_bitsOf, Cond.selects RX11 yX11_bitsOf yX11_bitsOf, Cond.code yX11_bitsOf cX11_bitsOf 4 (some .int)]
def wsX11_sure_r3 : List Cond := [Cond.methodLink RX11 130 yX11_does, Cond.instanceMethod yX11_does, Cond.selects RX11 yX11_does yX11_does, Cond.code yX11_does cX11_does 6 (some .boolean), Cond.methodLink RX11 93 yX11_numberOf, Cond.instanceMethod yX11_numberOf, Cond.selects RX11 yX11_numberOf yX11_numberOf, Cond.code yX11_numberOf cX11_numberOf 13 (some .int), Cond.methodLink RX11 81 yX11_ones, Cond.static yX11_ones, Cond.code yX11_ones cX11_ones 3 (some .int), Cond.methodLink RX11 84 yX11_standing, Cond.instanceMethod yX11_standing, Cond.selects RX11 yX11_standing yX11_standing, Cond.code yX11_standing cX11_standing 7 (some .int), Cond.fieldLink RX11 20 "RowsOfTwoModel" "pattern" "I", Cond.methodLink RX11 78 yX11_lengthOf, Cond.static yX11_lengthOf, Cond.code yX11_lengthOf cX11_lengthOf 2 (some .int)]
def wsX11_sure : List Cond := .code yX11_sure cX11_sure 8 (some .int) :: ((wsX11_sure_r1 ++ (wsX11_sure_r2 ++ wsX11_sure_r3)) ++ wsX110)
def wsX11_dealtMany : List Cond := .code yX11_dealtMany cX11_dealtMany 11 (some .int) :: ([.fieldLink RX11 7 "RowsOfTwoModel" "sizes" "[I", .methodLink RX11 90 yX11_bitsOf, .instanceMethod yX11_bitsOf, .selects RX11 yX11_bitsOf yX11_bitsOf, .initialized RX11, .code yX11_bitsOf cX11_bitsOf 4 (some .int), .fieldLink RX11 13 "RowsOfTwoModel" "signs" "[I", .methodLink RX11 81 yX11_ones, .static yX11_ones, .code yX11_ones cX11_ones 3 (some .int), .methodLink RX11 93 yX11_numberOf, .instanceMethod yX11_numberOf, .selects RX11 yX11_numberOf yX11_numberOf, .code yX11_numberOf cX11_numberOf 13 (some .int), .methodLink RX11 84 yX11_standing, .instanceMethod yX11_standing, .selects RX11 yX11_standing yX11_standing, .code yX11_standing cX11_standing 7 (some .int), .fieldLink RX11 20 "RowsOfTwoModel" "pattern" "I", .methodLink RX11 78 yX11_lengthOf, .static yX11_lengthOf, .code yX11_lengthOf cX11_lengthOf 2 (some .int)] ++ wsX110)
def wsX11_choose : List Cond := .code yX11_choose cX11_choose 5 (some .long) :: ([])
def wsX11_dealtAll : List Cond := .code yX11_dealtAll cX11_dealtAll 2 (some .long) :: ([.fieldLink RX11 7 "RowsOfTwoModel" "sizes" "[I", .methodLink RX11 90 yX11_bitsOf, .instanceMethod yX11_bitsOf, .selects RX11 yX11_bitsOf yX11_bitsOf, .initialized RX11, .code yX11_bitsOf cX11_bitsOf 4 (some .int), .fieldLink RX11 13 "RowsOfTwoModel" "signs" "[I", .methodLink RX11 81 yX11_ones, .static yX11_ones, .code yX11_ones cX11_ones 3 (some .int), .methodLink RX11 161 yX11_choose, .static yX11_choose, .code yX11_choose cX11_choose 5 (some .long)] ++ wsX110)
def wsX11_dealt_r1 : List Cond := [Cond.constantLong RX11 165 (1000000), Cond.methodLink RX11 63 yX11_isRow, Cond.static yX11_isRow, Cond.initialized RX11, Cond.code yX11_isRow cX11_isRow 1 (some .boolean), Cond.methodLink RX11 59 yX11_in, Cond.static yX11_in, Cond.code yX11_in cX11_in 3 (some .boolean), Cond.methodLink RX11 87 yX11_isWhole, Cond.instanceMethod yX11_isWhole, Cond.selects RX11 yX11_isWhole yX11_isWhole, Cond.code yX11_isWhole cX11_isWhole 3 (some .boolean), Cond.fieldLink RX11 7 "RowsOfTwoModel" "sizes" "[I", Cond.fieldLink RX11 13 "RowsOfTwoModel" "signs" "[I", Cond.methodLink RX11 167 yX11_dealtMany, Cond.instanceMethod yX11_dealtMany, Cond.selects RX11 yX11_dealtMany yX11_dealtMany, Cond.code yX11_dealtMany cX11_dealtMany 11 (some .int), Cond.methodLink RX11 90 yX11_bitsOf, Cond.instanceMethod yX11_bitsOf, Cond.selects RX11 yX11_bitsOf yX11_bitsOf, Cond.code yX11_bitsOf cX11_bitsOf 4 (some .int), Cond.methodLink RX11 81 yX11_ones, Cond.static yX11_ones]
def wsX11_dealt_r2 : List Cond := [Cond.code yX11_ones cX11_ones 3 (some .int), Cond.methodLink RX11 93 yX11_numberOf, Cond.instanceMethod yX11_numberOf, Cond.selects RX11 yX11_numberOf yX11_numberOf, Cond.code yX11_numberOf cX11_numberOf 13 (some .int), Cond.methodLink RX11 84 yX11_standing, Cond.instanceMethod yX11_standing, Cond.selects RX11 yX11_standing yX11_standing, Cond.code yX11_standing cX11_standing 7 (some .int), Cond.fieldLink RX11 20 "RowsOfTwoModel" "pattern" "I", Cond.methodLink RX11 78 yX11_lengthOf, Cond.static yX11_lengthOf, Cond.code yX11_lengthOf cX11_lengthOf 2 (some .int), Cond.methodLink RX11 171 yX11_dealtAll, Cond.instanceMethod yX11_dealtAll, Cond.selects RX11 yX11_dealtAll yX11_dealtAll, Cond.code yX11_dealtAll cX11_dealtAll 2 (some .long), Cond.methodLink RX11 161 yX11_choose, Cond.static yX11_choose, Cond.code yX11_choose cX11_choose 5 (some .long)]
def wsX11_dealt : List Cond := .code yX11_dealt cX11_dealt 4 (some .int) :: ((wsX11_dealt_r1 ++ wsX11_dealt_r2) ++ wsX110)
def wsX11_strangest_r1 : List Cond := [Cond.fieldLink RX11 7 "RowsOfTwoModel" "sizes" "[I", Cond.methodLink RX11 63 yX11_isRow, Cond.static yX11_isRow, Cond.initialized RX11, Cond.code yX11_isRow cX11_isRow 1 (some .boolean), Cond.methodLink RX11 59 yX11_in, Cond.static yX11_in, Cond.code yX11_in cX11_in 3 (some .boolean), Cond.methodLink RX11 87 yX11_isWhole, Cond.instanceMethod yX11_isWhole, Cond.selects RX11 yX11_isWhole yX11_isWhole, Cond.code yX11_isWhole cX11_isWhole 3 (some .boolean), Cond.fieldLink RX11 13 "RowsOfTwoModel" "signs" "[I", Cond.methodLink RX11 167 yX11_dealtMany, Cond.instanceMethod yX11_dealtMany, Cond.selects RX11 yX11_dealtMany yX11_dealtMany, Cond.code yX11_dealtMany cX11_dealtMany 11 (some .int), Cond.methodLink RX11 90 yX11_bitsOf, Cond.instanceMethod yX11_bitsOf, Cond.selects RX11 yX11_bitsOf yX11_bitsOf, Cond.code yX11_bitsOf cX11_bitsOf 4 (some .int), Cond.methodLink RX11 81 yX11_ones, Cond.static yX11_ones, Cond.code yX11_ones cX11_ones 3 (some .int)]
def wsX11_strangest_r2 : List Cond := [Cond.methodLink RX11 93 yX11_numberOf, Cond.instanceMethod yX11_numberOf, Cond.selects RX11 yX11_numberOf yX11_numberOf, Cond.code yX11_numberOf cX11_numberOf 13 (some .int), Cond.methodLink RX11 84 yX11_standing, Cond.instanceMethod yX11_standing, Cond.selects RX11 yX11_standing yX11_standing, Cond.code yX11_standing cX11_standing 7 (some .int), Cond.fieldLink RX11 20 "RowsOfTwoModel" "pattern" "I", Cond.methodLink RX11 78 yX11_lengthOf, Cond.static yX11_lengthOf, Cond.code yX11_lengthOf cX11_lengthOf 2 (some .int)]
def wsX11_strangest : List Cond := .code yX11_strangest cX11_strangest 7 (some .int) :: ((wsX11_strangest_r1 ++ wsX11_strangest_r2) ++ wsX110)
def wsX11_behind : List Cond := .code yX11_behind cX11_behind 6 none :: ([.fieldLink RX11 174 "RowsOfTwoModel" "behindAll" "I", .fieldLink RX11 177 "RowsOfTwoModel" "behindHits" "I"] ++ wsX110)
def wsX11_hot_r1 : List Cond := [Cond.fieldLink RX11 7 "RowsOfTwoModel" "sizes" "[I", Cond.fieldLink RX11 174 "RowsOfTwoModel" "behindAll" "I", Cond.fieldLink RX11 177 "RowsOfTwoModel" "behindHits" "I", Cond.methodLink RX11 63 yX11_isRow, Cond.static yX11_isRow, Cond.initialized RX11, Cond.code yX11_isRow cX11_isRow 1 (some .boolean), Cond.methodLink RX11 59 yX11_in, Cond.static yX11_in, Cond.code yX11_in cX11_in 3 (some .boolean), Cond.methodLink RX11 137 yX11_no, Cond.static yX11_no, Cond.code yX11_no cX11_no 1 (some .long), Cond.constantLong RX11 57 (-9223372036854775808), Cond.methodLink RX11 87 yX11_isWhole, Cond.instanceMethod yX11_isWhole, Cond.selects RX11 yX11_isWhole yX11_isWhole, Cond.code yX11_isWhole cX11_isWhole 3 (some .boolean), Cond.fieldLink RX11 13 "RowsOfTwoModel" "signs" "[I", Cond.methodLink RX11 90 yX11_bitsOf, Cond.instanceMethod yX11_bitsOf, Cond.selects RX11 yX11_bitsOf yX11_bitsOf, Cond.code yX11_bitsOf cX11_bitsOf 4 (some .int), Cond.methodLink RX11 180 yX11_behind]
def wsX11_hot_r2 : List Cond := [Cond.instanceMethod yX11_behind, Cond.selects RX11 yX11_behind yX11_behind, Cond.code yX11_behind cX11_behind 6 none, Cond.methodLink RX11 147 yX11_lowest, Cond.static yX11_lowest, Cond.code yX11_lowest cX11_lowest 11 (some .long)]
def wsX11_hot : List Cond := .code yX11_hot cX11_hot 4 (some .long) :: ((wsX11_hot_r1 ++ wsX11_hot_r2) ++ wsX110)
def wsX11_already_r1 : List Cond := [Cond.fieldLink RX11 7 "RowsOfTwoModel" "sizes" "[I", Cond.fieldLink RX11 174 "RowsOfTwoModel" "behindAll" "I", Cond.fieldLink RX11 177 "RowsOfTwoModel" "behindHits" "I", Cond.constantLong RX11 184 (360360), Cond.methodLink RX11 63 yX11_isRow, Cond.static yX11_isRow, Cond.initialized RX11, Cond.code yX11_isRow cX11_isRow 1 (some .boolean), Cond.methodLink RX11 59 yX11_in, Cond.static yX11_in, Cond.code yX11_in cX11_in 3 (some .boolean), Cond.methodLink RX11 137 yX11_no, Cond.static yX11_no, Cond.code yX11_no cX11_no 1 (some .long), Cond.constantLong RX11 57 (-9223372036854775808), Cond.methodLink RX11 87 yX11_isWhole, Cond.instanceMethod yX11_isWhole, Cond.selects RX11 yX11_isWhole yX11_isWhole, Cond.code yX11_isWhole cX11_isWhole 3 (some .boolean), Cond.fieldLink RX11 13 "RowsOfTwoModel" "signs" "[I", Cond.methodLink RX11 90 yX11_bitsOf, Cond.instanceMethod yX11_bitsOf, Cond.selects RX11 yX11_bitsOf yX11_bitsOf, Cond.code yX11_bitsOf cX11_bitsOf 4 (some .int)]
def wsX11_already_r2 : List Cond := [Cond.methodLink RX11 81 yX11_ones, Cond.static yX11_ones, Cond.code yX11_ones cX11_ones 3 (some .int), Cond.methodLink RX11 180 yX11_behind, Cond.instanceMethod yX11_behind, Cond.selects RX11 yX11_behind yX11_behind, Cond.code yX11_behind cX11_behind 6 none, Cond.methodLink RX11 147 yX11_lowest, Cond.static yX11_lowest, Cond.code yX11_lowest cX11_lowest 11 (some .long)]
def wsX11_already : List Cond := .code yX11_already cX11_already 10 (some .long) :: ((wsX11_already_r1 ++ wsX11_already_r2) ++ wsX110)
def wsX11_oddsOf : List Cond := .code yX11_oddsOf cX11_oddsOf 7 (some .long) :: ([.fieldLink RX11 16 "RowsOfTwoModel" "odds" "I", .methodLink RX11 78 yX11_lengthOf, .static yX11_lengthOf, .initialized RX11, .code yX11_lengthOf cX11_lengthOf 2 (some .int)] ++ wsX110)
def wsX11_overlaps : List Cond := .code yX11_overlaps cX11_overlaps 4 (some .boolean) :: ([.methodLink RX11 78 yX11_lengthOf, .static yX11_lengthOf, .initialized RX11, .code yX11_lengthOf cX11_lengthOf 2 (some .int)])
def wsX11_lead : List Cond := .code yX11_lead cX11_lead 7 (some .long) :: ([.constantLong RX11 145 (16), .methodLink RX11 78 yX11_lengthOf, .static yX11_lengthOf, .initialized RX11, .code yX11_lengthOf cX11_lengthOf 2 (some .int), .methodLink RX11 186 yX11_overlaps, .static yX11_overlaps, .code yX11_overlaps cX11_overlaps 4 (some .boolean), .methodLink RX11 141 yX11_power, .static yX11_power, .code yX11_power cX11_power 6 (some .long), .methodLink RX11 189 yX11_oddsOf, .instanceMethod yX11_oddsOf, .selects RX11 yX11_oddsOf yX11_oddsOf, .code yX11_oddsOf cX11_oddsOf 7 (some .long), .fieldLink RX11 16 "RowsOfTwoModel" "odds" "I"] ++ wsX110)
def wsX11_waitsNow : List Cond := .code yX11_waitsNow cX11_waitsNow 2 (some .long) :: ([.fieldLink RX11 20 "RowsOfTwoModel" "pattern" "I", .methodLink RX11 192 yX11_lead, .instanceMethod yX11_lead, .selects RX11 yX11_lead yX11_lead, .initialized RX11, .code yX11_lead cX11_lead 7 (some .long), .constantLong RX11 145 (16), .methodLink RX11 78 yX11_lengthOf, .static yX11_lengthOf, .code yX11_lengthOf cX11_lengthOf 2 (some .int), .methodLink RX11 186 yX11_overlaps, .static yX11_overlaps, .code yX11_overlaps cX11_overlaps 4 (some .boolean), .methodLink RX11 141 yX11_power, .static yX11_power, .code yX11_power cX11_power 6 (some .long), .methodLink RX11 189 yX11_oddsOf, .instanceMethod yX11_oddsOf, .selects RX11 yX11_oddsOf yX11_oddsOf, .code yX11_oddsOf cX11_oddsOf 7 (some .long), .fieldLink RX11 16 "RowsOfTwoModel" "odds" "I", .methodLink RX11 147 yX11_lowest, .static yX11_lowest, .code yX11_lowest cX11_lowest 11 (some .long)] ++ wsX110)
def wsX11_waits_r1 : List Cond := [Cond.methodLink RX11 59 yX11_in, Cond.static yX11_in, Cond.initialized RX11, Cond.code yX11_in cX11_in 3 (some .boolean), Cond.methodLink RX11 195 yX11_waitsNow, Cond.instanceMethod yX11_waitsNow, Cond.selects RX11 yX11_waitsNow yX11_waitsNow, Cond.code yX11_waitsNow cX11_waitsNow 2 (some .long), Cond.fieldLink RX11 20 "RowsOfTwoModel" "pattern" "I", Cond.methodLink RX11 192 yX11_lead, Cond.instanceMethod yX11_lead, Cond.selects RX11 yX11_lead yX11_lead, Cond.code yX11_lead cX11_lead 7 (some .long), Cond.constantLong RX11 145 (16), Cond.methodLink RX11 78 yX11_lengthOf, Cond.static yX11_lengthOf, Cond.code yX11_lengthOf cX11_lengthOf 2 (some .int), Cond.methodLink RX11 186 yX11_overlaps, Cond.static yX11_overlaps, Cond.code yX11_overlaps cX11_overlaps 4 (some .boolean), Cond.methodLink RX11 141 yX11_power, Cond.static yX11_power, Cond.code yX11_power cX11_power 6 (some .long), Cond.methodLink RX11 189 yX11_oddsOf]
def wsX11_waits_r2 : List Cond := [Cond.instanceMethod yX11_oddsOf, Cond.selects RX11 yX11_oddsOf yX11_oddsOf, Cond.code yX11_oddsOf cX11_oddsOf 7 (some .long), Cond.fieldLink RX11 16 "RowsOfTwoModel" "odds" "I", Cond.methodLink RX11 147 yX11_lowest, Cond.static yX11_lowest, Cond.code yX11_lowest cX11_lowest 11 (some .long), Cond.methodLink RX11 137 yX11_no, Cond.static yX11_no, Cond.code yX11_no cX11_no 1 (some .long), Cond.constantLong RX11 57 (-9223372036854775808)]
def wsX11_waits : List Cond := .code yX11_waits cX11_waits 2 (some .long) :: ((wsX11_waits_r1 ++ wsX11_waits_r2) ++ wsX110)
def wsX11_stands : List Cond := .code yX11_stands cX11_stands 5 (some .boolean) :: ([.methodLink RX11 78 yX11_lengthOf, .static yX11_lengthOf, .initialized RX11, .code yX11_lengthOf cX11_lengthOf 2 (some .int)])
def wsX11_first_r1 : List Cond := [Cond.methodLink RX11 59 yX11_in, Cond.static yX11_in, Cond.initialized RX11, Cond.code yX11_in cX11_in 3 (some .boolean), Cond.methodLink RX11 137 yX11_no, Cond.static yX11_no, Cond.code yX11_no cX11_no 1 (some .long), Cond.constantLong RX11 57 (-9223372036854775808), Cond.methodLink RX11 198 yX11_stands, Cond.static yX11_stands, Cond.code yX11_stands cX11_stands 5 (some .boolean), Cond.methodLink RX11 78 yX11_lengthOf, Cond.static yX11_lengthOf, Cond.code yX11_lengthOf cX11_lengthOf 2 (some .int), Cond.methodLink RX11 189 yX11_oddsOf, Cond.instanceMethod yX11_oddsOf, Cond.selects RX11 yX11_oddsOf yX11_oddsOf, Cond.code yX11_oddsOf cX11_oddsOf 7 (some .long), Cond.fieldLink RX11 16 "RowsOfTwoModel" "odds" "I", Cond.methodLink RX11 192 yX11_lead, Cond.instanceMethod yX11_lead, Cond.selects RX11 yX11_lead yX11_lead, Cond.code yX11_lead cX11_lead 7 (some .long), Cond.constantLong RX11 145 (16)]
def wsX11_first_r2 : List Cond := [Cond.methodLink RX11 186 yX11_overlaps, Cond.static yX11_overlaps, Cond.code yX11_overlaps cX11_overlaps 4 (some .boolean), Cond.methodLink RX11 141 yX11_power, Cond.static yX11_power, Cond.code yX11_power cX11_power 6 (some .long), Cond.methodLink RX11 147 yX11_lowest, Cond.static yX11_lowest, Cond.code yX11_lowest cX11_lowest 11 (some .long)]
def wsX11_first : List Cond := .code yX11_first cX11_first 12 (some .long) :: ((wsX11_first_r1 ++ wsX11_first_r2) ++ wsX110)
def wsX11_agree_r1 : List Cond := [Cond.fieldLink RX11 7 "RowsOfTwoModel" "sizes" "[I", Cond.constantLong RX11 165 (1000000), Cond.methodLink RX11 63 yX11_isRow, Cond.static yX11_isRow, Cond.initialized RX11, Cond.code yX11_isRow cX11_isRow 1 (some .boolean), Cond.methodLink RX11 59 yX11_in, Cond.static yX11_in, Cond.code yX11_in cX11_in 3 (some .boolean), Cond.methodLink RX11 87 yX11_isWhole, Cond.instanceMethod yX11_isWhole, Cond.selects RX11 yX11_isWhole yX11_isWhole, Cond.code yX11_isWhole cX11_isWhole 3 (some .boolean), Cond.fieldLink RX11 13 "RowsOfTwoModel" "signs" "[I", Cond.methodLink RX11 90 yX11_bitsOf, Cond.instanceMethod yX11_bitsOf, Cond.selects RX11 yX11_bitsOf yX11_bitsOf, Cond.code yX11_bitsOf cX11_bitsOf 4 (some .int), Cond.methodLink RX11 81 yX11_ones, Cond.static yX11_ones, Cond.code yX11_ones cX11_ones 3 (some .int), Cond.methodLink RX11 171 yX11_dealtAll, Cond.instanceMethod yX11_dealtAll, Cond.selects RX11 yX11_dealtAll yX11_dealtAll]
def wsX11_agree_r2 : List Cond := [Cond.code yX11_dealtAll cX11_dealtAll 2 (some .long), Cond.methodLink RX11 161 yX11_choose, Cond.static yX11_choose, Cond.code yX11_choose cX11_choose 5 (some .long)]
def wsX11_agree : List Cond := .code yX11_agree cX11_agree 10 (some .int) :: ((wsX11_agree_r1 ++ wsX11_agree_r2) ++ wsX110)
def wsX11_twice : List Cond := .code yX11_twice cX11_twice 8 (some .int) :: ([.fieldLink RX11 7 "RowsOfTwoModel" "sizes" "[I", .fieldLink RX11 13 "RowsOfTwoModel" "signs" "[I", .methodLink RX11 63 yX11_isRow, .static yX11_isRow, .initialized RX11, .code yX11_isRow cX11_isRow 1 (some .boolean), .methodLink RX11 59 yX11_in, .static yX11_in, .code yX11_in cX11_in 3 (some .boolean), .methodLink RX11 87 yX11_isWhole, .instanceMethod yX11_isWhole, .selects RX11 yX11_isWhole yX11_isWhole, .code yX11_isWhole cX11_isWhole 3 (some .boolean)] ++ wsX110)
def wsX11_next : List Cond := .code yX11_next cX11_next 11 (some .int) :: ([.fieldLink RX11 7 "RowsOfTwoModel" "sizes" "[I", .fieldLink RX11 13 "RowsOfTwoModel" "signs" "[I", .constantLong RX11 201 (2), .methodLink RX11 63 yX11_isRow, .static yX11_isRow, .initialized RX11, .code yX11_isRow cX11_isRow 1 (some .boolean), .methodLink RX11 59 yX11_in, .static yX11_in, .code yX11_in cX11_in 3 (some .boolean), .methodLink RX11 147 yX11_lowest, .static yX11_lowest, .code yX11_lowest cX11_lowest 11 (some .long)] ++ wsX110)
def wsX11_sheet : List Cond := .code yX11_sheet cX11_sheet 5 (some .int) :: ([.fieldLink RX11 42 "RowsOfTwoModel" "isThere" "[Z", .fieldLink RX11 45 "RowsOfTwoModel" "types" "[I", .fieldLink RX11 48 "RowsOfTwoModel" "held" "[I", .fieldLink RX11 51 "RowsOfTwoModel" "items" "[I", .methodLink RX11 71 yX11_isSheet, .static yX11_isSheet, .initialized RX11, .code yX11_isSheet cX11_isSheet 1 (some .boolean), .methodLink RX11 59 yX11_in, .static yX11_in, .code yX11_in cX11_in 3 (some .boolean), .methodLink RX11 74 yX11_meets, .instanceMethod yX11_meets, .selects RX11 yX11_meets yX11_meets, .code yX11_meets cX11_meets 2 (some .int), .fieldLink RX11 203 "RowsOfTwoModel" "finding" "I"] ++ wsX110)
def wsX11_lose : List Cond := .code yX11_lose cX11_lose 2 (some .int) :: ([.fieldLink RX11 42 "RowsOfTwoModel" "isThere" "[Z", .fieldLink RX11 48 "RowsOfTwoModel" "held" "[I", .methodLink RX11 71 yX11_isSheet, .static yX11_isSheet, .initialized RX11, .code yX11_isSheet cX11_isSheet 1 (some .boolean), .methodLink RX11 59 yX11_in, .static yX11_in, .code yX11_in cX11_in 3 (some .boolean), .methodLink RX11 74 yX11_meets, .instanceMethod yX11_meets, .selects RX11 yX11_meets yX11_meets, .code yX11_meets cX11_meets 2 (some .int), .fieldLink RX11 203 "RowsOfTwoModel" "finding" "I"] ++ wsX110)
def wsX11_lacks : List Cond := .code yX11_lacks cX11_lacks 4 (some .int) :: ([.fieldLink RX11 42 "RowsOfTwoModel" "isThere" "[Z", .fieldLink RX11 45 "RowsOfTwoModel" "types" "[I", .fieldLink RX11 48 "RowsOfTwoModel" "held" "[I", .methodLink RX11 59 yX11_in, .static yX11_in, .initialized RX11, .code yX11_in cX11_in 3 (some .boolean)] ++ wsX110)
def wsX11_keep : List Cond := .code yX11_keep cX11_keep 4 none :: ([.fieldLink RX11 51 "RowsOfTwoModel" "items" "[I", .fieldLink RX11 45 "RowsOfTwoModel" "types" "[I"] ++ wsX110)
def wsX11_put : List Cond := .code yX11_put cX11_put 6 (some .int) :: ([.methodLink RX11 71 yX11_isSheet, .static yX11_isSheet, .initialized RX11, .code yX11_isSheet cX11_isSheet 1 (some .boolean), .methodLink RX11 59 yX11_in, .static yX11_in, .code yX11_in cX11_in 3 (some .boolean), .methodLink RX11 206 yX11_lacks, .instanceMethod yX11_lacks, .selects RX11 yX11_lacks yX11_lacks, .code yX11_lacks cX11_lacks 4 (some .int), .fieldLink RX11 42 "RowsOfTwoModel" "isThere" "[Z", .fieldLink RX11 45 "RowsOfTwoModel" "types" "[I", .fieldLink RX11 48 "RowsOfTwoModel" "held" "[I", .methodLink RX11 74 yX11_meets, .instanceMethod yX11_meets, .selects RX11 yX11_meets yX11_meets, .code yX11_meets cX11_meets 2 (some .int), .fieldLink RX11 203 "RowsOfTwoModel" "finding" "I", .methodLink RX11 209 yX11_keep, .instanceMethod yX11_keep, .selects RX11 yX11_keep yX11_keep, .code yX11_keep cX11_keep 4 none, .fieldLink RX11 51 "RowsOfTwoModel" "items" "[I"] ++ wsX110)
def wsX11_get : List Cond := .code yX11_get cX11_get 5 (some .int) :: ([.constant RX11 212 (-2147483648), .fieldLink RX11 203 "RowsOfTwoModel" "finding" "I", .fieldLink RX11 51 "RowsOfTwoModel" "items" "[I", .methodLink RX11 71 yX11_isSheet, .static yX11_isSheet, .initialized RX11, .code yX11_isSheet cX11_isSheet 1 (some .boolean), .methodLink RX11 59 yX11_in, .static yX11_in, .code yX11_in cX11_in 3 (some .boolean), .methodLink RX11 206 yX11_lacks, .instanceMethod yX11_lacks, .selects RX11 yX11_lacks yX11_lacks, .code yX11_lacks cX11_lacks 4 (some .int), .fieldLink RX11 42 "RowsOfTwoModel" "isThere" "[Z", .fieldLink RX11 45 "RowsOfTwoModel" "types" "[I", .fieldLink RX11 48 "RowsOfTwoModel" "held" "[I"] ++ wsX110)
def wsX11_copy : List Cond := .code yX11_copy cX11_copy 7 (some .int) :: ([.fieldLink RX11 42 "RowsOfTwoModel" "isThere" "[Z", .fieldLink RX11 45 "RowsOfTwoModel" "types" "[I", .fieldLink RX11 48 "RowsOfTwoModel" "held" "[I", .fieldLink RX11 54 "RowsOfTwoModel" "moved" "[I", .fieldLink RX11 51 "RowsOfTwoModel" "items" "[I", .methodLink RX11 71 yX11_isSheet, .static yX11_isSheet, .initialized RX11, .code yX11_isSheet cX11_isSheet 1 (some .boolean), .methodLink RX11 59 yX11_in, .static yX11_in, .code yX11_in cX11_in 3 (some .boolean), .methodLink RX11 74 yX11_meets, .instanceMethod yX11_meets, .selects RX11 yX11_meets yX11_meets, .code yX11_meets cX11_meets 2 (some .int), .fieldLink RX11 203 "RowsOfTwoModel" "finding" "I"] ++ wsX110)
def wsX11_write_r1 : List Cond := [Cond.fieldLink RX11 42 "RowsOfTwoModel" "isThere" "[Z", Cond.fieldLink RX11 7 "RowsOfTwoModel" "sizes" "[I", Cond.fieldLink RX11 48 "RowsOfTwoModel" "held" "[I", Cond.fieldLink RX11 13 "RowsOfTwoModel" "signs" "[I", Cond.methodLink RX11 63 yX11_isRow, Cond.static yX11_isRow, Cond.initialized RX11, Cond.code yX11_isRow cX11_isRow 1 (some .boolean), Cond.methodLink RX11 59 yX11_in, Cond.static yX11_in, Cond.code yX11_in cX11_in 3 (some .boolean), Cond.methodLink RX11 71 yX11_isSheet, Cond.static yX11_isSheet, Cond.code yX11_isSheet cX11_isSheet 1 (some .boolean), Cond.methodLink RX11 74 yX11_meets, Cond.instanceMethod yX11_meets, Cond.selects RX11 yX11_meets yX11_meets, Cond.code yX11_meets cX11_meets 2 (some .int), Cond.fieldLink RX11 203 "RowsOfTwoModel" "finding" "I", Cond.methodLink RX11 209 yX11_keep, Cond.instanceMethod yX11_keep, Cond.selects RX11 yX11_keep yX11_keep, Cond.code yX11_keep cX11_keep 4 none, Cond.fieldLink RX11 51 "RowsOfTwoModel" "items" "[I"]
def wsX11_write_r2 : List Cond := [Cond.fieldLink RX11 45 "RowsOfTwoModel" "types" "[I"]
def wsX11_write : List Cond := .code yX11_write cX11_write 4 (some .int) :: ((wsX11_write_r1 ++ wsX11_write_r2) ++ wsX110)
def wsX11_wholeOnes : List Cond := .code yX11_wholeOnes cX11_wholeOnes 3 (some .int) :: ([.methodLink RX11 87 yX11_isWhole, .instanceMethod yX11_isWhole, .selects RX11 yX11_isWhole yX11_isWhole, .initialized RX11, .code yX11_isWhole cX11_isWhole 3 (some .boolean), .fieldLink RX11 7 "RowsOfTwoModel" "sizes" "[I", .fieldLink RX11 13 "RowsOfTwoModel" "signs" "[I"] ++ wsX110)
def wsX11_count : List Cond := .code yX11_count cX11_count 2 (some .int) :: ([.fieldLink RX11 7 "RowsOfTwoModel" "sizes" "[I", .fieldLink RX11 100 "RowsOfTwoModel" "typed" "I", .fieldLink RX11 16 "RowsOfTwoModel" "odds" "I", .fieldLink RX11 20 "RowsOfTwoModel" "pattern" "I", .fieldLink RX11 203 "RowsOfTwoModel" "finding" "I", .methodLink RX11 213 yX11_wholeOnes, .instanceMethod yX11_wholeOnes, .selects RX11 yX11_wholeOnes yX11_wholeOnes, .initialized RX11, .code yX11_wholeOnes cX11_wholeOnes 3 (some .int), .methodLink RX11 87 yX11_isWhole, .instanceMethod yX11_isWhole, .selects RX11 yX11_isWhole yX11_isWhole, .code yX11_isWhole cX11_isWhole 3 (some .boolean), .fieldLink RX11 13 "RowsOfTwoModel" "signs" "[I"] ++ wsX110)
def wsX11_digest_r1 : List Cond := [Cond.constantLong RX11 216 (17), Cond.constantLong RX11 218 (31), Cond.fieldLink RX11 7 "RowsOfTwoModel" "sizes" "[I", Cond.fieldLink RX11 13 "RowsOfTwoModel" "signs" "[I", Cond.fieldLink RX11 151 "RowsOfTwoModel" "unseenMany" "I", Cond.methodLink RX11 220 yX11_count, Cond.instanceMethod yX11_count, Cond.selects RX11 yX11_count yX11_count, Cond.initialized RX11, Cond.code yX11_count cX11_count 2 (some .int), Cond.fieldLink RX11 100 "RowsOfTwoModel" "typed" "I", Cond.fieldLink RX11 16 "RowsOfTwoModel" "odds" "I", Cond.fieldLink RX11 20 "RowsOfTwoModel" "pattern" "I", Cond.fieldLink RX11 203 "RowsOfTwoModel" "finding" "I", Cond.methodLink RX11 213 yX11_wholeOnes, Cond.instanceMethod yX11_wholeOnes, Cond.selects RX11 yX11_wholeOnes yX11_wholeOnes, Cond.code yX11_wholeOnes cX11_wholeOnes 3 (some .int), Cond.methodLink RX11 87 yX11_isWhole, Cond.instanceMethod yX11_isWhole, Cond.selects RX11 yX11_isWhole yX11_isWhole, Cond.code yX11_isWhole cX11_isWhole 3 (some .boolean), Cond.methodLink RX11 97 yX11_showsNow, Cond.instanceMethod yX11_showsNow]
def wsX11_digest_r2 : List Cond := [Cond.selects RX11 yX11_showsNow yX11_showsNow, Cond.code yX11_showsNow cX11_showsNow 3 (some .int), Cond.methodLink RX11 90 yX11_bitsOf, Cond.instanceMethod yX11_bitsOf, Cond.selects RX11 yX11_bitsOf yX11_bitsOf, Cond.code yX11_bitsOf cX11_bitsOf 4 (some .int), Cond.methodLink RX11 93 yX11_numberOf, Cond.instanceMethod yX11_numberOf, Cond.selects RX11 yX11_numberOf yX11_numberOf, Cond.code yX11_numberOf cX11_numberOf 13 (some .int), Cond.methodLink RX11 81 yX11_ones, Cond.static yX11_ones, Cond.code yX11_ones cX11_ones 3 (some .int), Cond.methodLink RX11 84 yX11_standing, Cond.instanceMethod yX11_standing, Cond.selects RX11 yX11_standing yX11_standing, Cond.code yX11_standing cX11_standing 7 (some .int), Cond.methodLink RX11 78 yX11_lengthOf, Cond.static yX11_lengthOf, Cond.code yX11_lengthOf cX11_lengthOf 2 (some .int), Cond.methodLink RX11 127 yX11_faultNow, Cond.instanceMethod yX11_faultNow, Cond.selects RX11 yX11_faultNow yX11_faultNow, Cond.code yX11_faultNow cX11_faultNow 2 (some .int)]
def wsX11_digest_r3 : List Cond := [Cond.fieldLink RX11 103 "RowsOfTwoModel" "isRead" "Z", Cond.fieldLink RX11 117 "RowsOfTwoModel" "fault" "I", Cond.fieldLink RX11 107 "RowsOfTwoModel" "at" "I", Cond.fieldLink RX11 120 "RowsOfTwoModel" "tests" "I", Cond.methodLink RX11 123 yX11_test, Cond.instanceMethod yX11_test, Cond.selects RX11 yX11_test yX11_test, Cond.code yX11_test cX11_test 6 none, Cond.fieldLink RX11 26 "RowsOfTwoModel" "testNumber" "[I", Cond.fieldLink RX11 29 "RowsOfTwoModel" "testSign" "[I", Cond.fieldLink RX11 32 "RowsOfTwoModel" "testValue" "[I", Cond.fieldLink RX11 35 "RowsOfTwoModel" "testBegins" "[Z", Cond.methodLink RX11 110 yX11_byteNow, Cond.instanceMethod yX11_byteNow, Cond.selects RX11 yX11_byteNow yX11_byteNow, Cond.code yX11_byteNow cX11_byteNow 1 (some .int), Cond.fieldLink RX11 23 "RowsOfTwoModel" "text" "[I", Cond.methodLink RX11 114 yX11_numberBy, Cond.static yX11_numberBy, Cond.code yX11_numberBy cX11_numberBy 1 (some .int), Cond.methodLink RX11 59 yX11_in, Cond.static yX11_in, Cond.code yX11_in cX11_in 3 (some .boolean), Cond.methodLink RX11 134 yX11_shownNow]
def wsX11_digest_r4 : List Cond := [Cond.instanceMethod yX11_shownNow, Cond.selects RX11 yX11_shownNow yX11_shownNow, Cond.code yX11_shownNow cX11_shownNow 5 (some .int), Cond.methodLink RX11 130 yX11_does, Cond.instanceMethod yX11_does, Cond.selects RX11 yX11_does yX11_does, Cond.code yX11_does cX11_does 6 (some .boolean), Cond.methodLink RX11 195 yX11_waitsNow, Cond.instanceMethod yX11_waitsNow, Cond.selects RX11 yX11_waitsNow yX11_waitsNow, Cond.code yX11_waitsNow cX11_waitsNow 2 (some .long), Cond.methodLink RX11 192 yX11_lead, Cond.instanceMethod yX11_lead, Cond.selects RX11 yX11_lead yX11_lead, Cond.code yX11_lead cX11_lead 7 (some .long), Cond.constantLong RX11 145 (16), Cond.methodLink RX11 186 yX11_overlaps, Cond.static yX11_overlaps, Cond.code yX11_overlaps cX11_overlaps 4 (some .boolean), Cond.methodLink RX11 141 yX11_power, Cond.static yX11_power, Cond.code yX11_power cX11_power 6 (some .long), Cond.methodLink RX11 189 yX11_oddsOf, Cond.instanceMethod yX11_oddsOf]
def wsX11_digest_r5 : List Cond := [Cond.selects RX11 yX11_oddsOf yX11_oddsOf, Cond.code yX11_oddsOf cX11_oddsOf 7 (some .long), Cond.methodLink RX11 147 yX11_lowest, Cond.static yX11_lowest, Cond.code yX11_lowest cX11_lowest 11 (some .long), Cond.methodLink RX11 154 yX11_gathers, Cond.instanceMethod yX11_gathers, Cond.selects RX11 yX11_gathers yX11_gathers, Cond.code yX11_gathers cX11_gathers 3 none, Cond.fieldLink RX11 39 "RowsOfTwoModel" "unseen" "[I"]
def wsX11_digest : List Cond := .code yX11_digest cX11_digest 5 (some .long) :: ((wsX11_digest_r1 ++ (wsX11_digest_r2 ++ (wsX11_digest_r3 ++ (wsX11_digest_r4 ++ wsX11_digest_r5)))) ++ wsX110)
def wsJ9_max_7cf53 : List Cond := .code yJ9_max_7cf53 cJ9_max_7cf53 2 (some .int) :: ([])
def wsJ9_min_7cf53 : List Cond := .code yJ9_min_7cf53 cJ9_min_7cf53 2 (some .int) :: ([])
def wsL_law_r1 : List Cond := [Cond.classLink RL 7 RX10, Cond.instantiable RX10 8, Cond.initialized RX10, Cond.classLink RL 10 RX11, Cond.instantiable RX11 24, Cond.initialized RX11, Cond.methodLink RL 9 yX10_init, Cond.instanceMethod yX10_init, Cond.code yX10_init cX10_init 2 none, Cond.methodLink RX10 1 objectInit, Cond.instanceMethod objectInit, Cond.code objectInit ⟨#[0xb1]⟩ 1 none, Cond.classLink RX10 9 RX5, Cond.fieldLink RX10 11 "RowsOfTwo" "rows" "[LRowsOfTwo$Row;", Cond.instantiable RX5 3, Cond.initialized RX5, Cond.classLink RX10 16 RX7, Cond.fieldLink RX10 18 "RowsOfTwo" "sheets" "[LRowsOfTwo$Sheet;", Cond.instantiable RX7 4, Cond.initialized RX7, Cond.classLink RX10 23 RX6, Cond.instantiable RX6 9, Cond.initialized RX6, Cond.fieldLink RX10 26 "RowsOfTwo" "sentences" "LRowsOfTwo$Sentences;"]
def wsL_law_r2 : List Cond := [Cond.classLink RX10 30 RX8, Cond.instantiable RX8 2, Cond.initialized RX8, Cond.fieldLink RX10 33 "RowsOfTwo" "shownRows" "LRowsOfTwo$Shown;", Cond.classLink RX10 37 RX0, Cond.instantiable RX0 3, Cond.initialized RX0, Cond.fieldLink RX10 40 "RowsOfTwo" "heldFills" "LRowsOfTwo$Fills;", Cond.fieldLink RX10 44 "RowsOfTwo" "odds" "I", Cond.fieldLink RX10 48 "RowsOfTwo" "pattern" "I", Cond.fieldLink RX10 51 "RowsOfTwo" "finding" "I", Cond.instanceMethod yX5_init, Cond.code yX5_init cX5_init 1 none, Cond.methodLink RX5 3 objectInit, Cond.methodLink RX10 22 yX7_init, Cond.instanceMethod yX7_init, Cond.code yX7_init cX7_init 1 none, Cond.methodLink RX7 3 objectInit, Cond.arrayClass .int, Cond.fieldLink RX7 9 "RowsOfTwo$Sheet" "items" "[I", Cond.fieldLink RX7 15 "RowsOfTwo$Sheet" "lost" "Z", Cond.methodLink RX10 25 yX6_init, Cond.instanceMethod yX6_init, Cond.code yX6_init cX6_init 1 none]
def wsL_law_r3 : List Cond := [Cond.methodLink RX6 3 objectInit, Cond.fieldLink RX6 11 "RowsOfTwo$Sentences" "letters" "[I", Cond.fieldLink RX6 15 "RowsOfTwo$Sentences" "relations" "[I", Cond.fieldLink RX6 18 "RowsOfTwo$Sentences" "limits" "[I", Cond.arrayClass .boolean, Cond.fieldLink RX6 21 "RowsOfTwo$Sentences" "opensAlternative" "[Z", Cond.fieldLink RX6 25 "RowsOfTwo$Sentences" "measured" "[I", Cond.fieldLink RX6 28 "RowsOfTwo$Sentences" "stuckAt" "I", Cond.methodLink RX10 32 yX8_init, Cond.instanceMethod yX8_init, Cond.code yX8_init cX8_init 1 none, Cond.methodLink RX8 3 objectInit, Cond.classLink RX8 9 "[[I", Cond.fieldLink RX8 11 "RowsOfTwo$Shown" "tallies" "[[I", Cond.fieldLink RX8 16 "RowsOfTwo$Shown" "known" "[Z", Cond.methodLink RX10 39 yX0_init, Cond.instanceMethod yX0_init, Cond.code yX0_init cX0_init 1 none, Cond.methodLink RX0 3 objectInit, Cond.fieldLink RX0 9 "RowsOfTwo$Fills" "tally" "[I", Cond.methodLink RL 12 yX11_init, Cond.instanceMethod yX11_init, Cond.code yX11_init cX11_init 1 none, Cond.methodLink RX11 1 objectInit]
def wsL_law_r4 : List Cond := [Cond.fieldLink RX11 7 "RowsOfTwoModel" "sizes" "[I", Cond.fieldLink RX11 13 "RowsOfTwoModel" "signs" "[I", Cond.fieldLink RX11 16 "RowsOfTwoModel" "odds" "I", Cond.fieldLink RX11 20 "RowsOfTwoModel" "pattern" "I", Cond.fieldLink RX11 23 "RowsOfTwoModel" "text" "[I", Cond.fieldLink RX11 26 "RowsOfTwoModel" "testNumber" "[I", Cond.fieldLink RX11 29 "RowsOfTwoModel" "testSign" "[I", Cond.fieldLink RX11 32 "RowsOfTwoModel" "testValue" "[I", Cond.fieldLink RX11 35 "RowsOfTwoModel" "testBegins" "[Z", Cond.fieldLink RX11 39 "RowsOfTwoModel" "unseen" "[I", Cond.fieldLink RX11 42 "RowsOfTwoModel" "isThere" "[Z", Cond.fieldLink RX11 45 "RowsOfTwoModel" "types" "[I", Cond.fieldLink RX11 48 "RowsOfTwoModel" "held" "[I", Cond.fieldLink RX11 51 "RowsOfTwoModel" "items" "[I", Cond.fieldLink RX11 54 "RowsOfTwoModel" "moved" "[I", Cond.methodLink RL 13 yX10_sign, Cond.instanceMethod yX10_sign, Cond.selects RX10 yX10_sign yX10_sign, Cond.code yX10_sign cX10_sign 4 (some .int), Cond.fieldLink RX10 69 "RowsOfTwo$Row" "length" "I", Cond.methodLink RX10 54 yX10_isRow, Cond.static yX10_isRow, Cond.code yX10_isRow cX10_isRow 1 (some .boolean), Cond.methodLink RX10 58 yX5_maySee]
def wsL_law_r5 : List Cond := [Cond.static yX5_maySee, Cond.code yX5_maySee cX5_maySee 1 (some .boolean), Cond.methodLink RX10 61 yX5_isFull, Cond.instanceMethod yX5_isFull, Cond.selects RX5 yX5_isFull yX5_isFull, Cond.code yX5_isFull cX5_isFull 1 (some .boolean), Cond.fieldLink RX5 9 "RowsOfTwo$Row" "length" "I", Cond.methodLink RX10 65 yX5_append, Cond.instanceMethod yX5_append, Cond.selects RX5 yX5_append yX5_append, Cond.code yX5_append cX5_append 2 none, Cond.fieldLink RX5 18 "RowsOfTwo$Row" "hits" "I", Cond.fieldLink RX5 15 "RowsOfTwo$Row" "unseen" "I", Cond.methodLink RL 17 yX11_sign, Cond.instanceMethod yX11_sign, Cond.selects RX11 yX11_sign yX11_sign, Cond.code yX11_sign cX11_sign 3 (some .int), Cond.methodLink RX11 67 yX11_puts, Cond.instanceMethod yX11_puts, Cond.selects RX11 yX11_puts yX11_puts, Cond.code yX11_puts cX11_puts 3 (some .int), Cond.methodLink RX11 63 yX11_isRow, Cond.static yX11_isRow, Cond.code yX11_isRow cX11_isRow 1 (some .boolean)]
def wsL_law_r6 : List Cond := [Cond.methodLink RX11 59 yX11_in, Cond.static yX11_in, Cond.code yX11_in cX11_in 3 (some .boolean), Cond.methodLink RL 18 yX10_read, Cond.instanceMethod yX10_read, Cond.selects RX10 yX10_read yX10_read, Cond.code yX10_read cX10_read 6 (some .int), Cond.fieldLink RX10 75 "RowsOfTwo$Sheet" "lost" "Z", Cond.fieldLink RX10 83 "RowsOfTwo$Sheet" "size" "I", Cond.fieldLink RX10 86 "RowsOfTwo$Sheet" "items" "[I", Cond.methodLink RX10 72 yX10_isSheet, Cond.static yX10_isSheet, Cond.code yX10_isSheet cX10_isSheet 1 (some .boolean), Cond.methodLink RX10 79 yX10_found, Cond.instanceMethod yX10_found, Cond.selects RX10 yX10_found yX10_found, Cond.code yX10_found cX10_found 2 (some .int), Cond.methodLink RL 21 yX11_read, Cond.instanceMethod yX11_read, Cond.selects RX11 yX11_read yX11_read, Cond.code yX11_read cX11_read 4 (some .int), Cond.methodLink RX11 71 yX11_isSheet, Cond.static yX11_isSheet, Cond.code yX11_isSheet cX11_isSheet 1 (some .boolean)]
def wsL_law_r7 : List Cond := [Cond.methodLink RX11 74 yX11_meets, Cond.instanceMethod yX11_meets, Cond.selects RX11 yX11_meets yX11_meets, Cond.code yX11_meets cX11_meets 2 (some .int), Cond.fieldLink RX11 203 "RowsOfTwoModel" "finding" "I", Cond.methodLink RL 22 yX10_clear, Cond.instanceMethod yX10_clear, Cond.selects RX10 yX10_clear yX10_clear, Cond.code yX10_clear cX10_clear 3 (some .int), Cond.methodLink RX10 90 yX5_empty, Cond.instanceMethod yX5_empty, Cond.selects RX5 yX5_empty yX5_empty, Cond.code yX5_empty cX5_empty 1 none, Cond.methodLink RL 26 yX11_clear, Cond.instanceMethod yX11_clear, Cond.selects RX11 yX11_clear yX11_clear, Cond.code yX11_clear cX11_clear 3 (some .int), Cond.methodLink RL 27 yX10_at, Cond.instanceMethod yX10_at, Cond.selects RX10 yX10_at yX10_at, Cond.code yX10_at cX10_at 3 (some .int), Cond.methodLink RX10 93 yX5_signAt, Cond.instanceMethod yX5_signAt, Cond.selects RX5 yX5_signAt yX5_signAt]
def wsL_law_r8 : List Cond := [Cond.code yX5_signAt cX5_signAt 3 (some .int), Cond.methodLink RL 30 yX11_at, Cond.instanceMethod yX11_at, Cond.selects RX11 yX11_at yX11_at, Cond.code yX11_at cX11_at 3 (some .int), Cond.methodLink RL 31 yX10_set, Cond.instanceMethod yX10_set, Cond.selects RX10 yX10_set yX10_set, Cond.code yX10_set cX10_set 4 (some .int), Cond.methodLink RX10 96 yX8_forget, Cond.instanceMethod yX8_forget, Cond.selects RX8 yX8_forget yX8_forget, Cond.code yX8_forget cX8_forget 2 none, Cond.methodLink RL 34 yX11_set, Cond.instanceMethod yX11_set, Cond.selects RX11 yX11_set yX11_set, Cond.code yX11_set cX11_set 4 (some .int), Cond.methodLink RL 35 yX10_shows, Cond.instanceMethod yX10_shows, Cond.selects RX10 yX10_shows yX10_shows, Cond.code yX10_shows cX10_shows 3 (some .int), Cond.methodLink RX10 99 yX10_isNumber, Cond.static yX10_isNumber, Cond.code yX10_isNumber cX10_isNumber 1 (some .boolean)]
def wsL_law_r9 : List Cond := [Cond.methodLink RX10 102 yX5_isWhole, Cond.instanceMethod yX5_isWhole, Cond.selects RX5 yX5_isWhole yX5_isWhole, Cond.code yX5_isWhole cX5_isWhole 1 (some .boolean), Cond.methodLink RX10 105 yX10_numberOf, Cond.instanceMethod yX10_numberOf, Cond.selects RX10 yX10_numberOf yX10_numberOf, Cond.code yX10_numberOf cX10_numberOf 3 (some .int), Cond.fieldLink RX10 119 "RowsOfTwo$Row" "hits" "I", Cond.methodLink RX10 297 yX3_measure, Cond.static yX3_measure, Cond.initialized RX3, Cond.code yX3_measure cX3_measure 4 (some .int), Cond.methodLink RX3 24 Lib.Math.max.name, Cond.static Lib.Math.max.name, Cond.initialized "java/lang/Math", Cond.code Lib.Math.max.name Lib.Math.max.code 2 (some .int), Cond.methodLink RX3 9 yJ6_bitCount_0f7a4, Cond.static yJ6_bitCount_0f7a4, Cond.initialized RJ6, Cond.code yJ6_bitCount_0f7a4 cJ6_bitCount_0f7a4 1 (some .int), Cond.constant RJ6 265 (1431655765), Cond.constant RJ6 266 (858993459), Cond.constant RJ6 267 (252645135)]
def wsL_law_r10 : List Cond := [Cond.methodLink RX3 15 yX3_runs, Cond.static yX3_runs, Cond.code yX3_runs cX3_runs 3 (some .int), Cond.methodLink RX3 21 yX3_longestRun, Cond.static yX3_longestRun, Cond.code yX3_longestRun cX3_longestRun 3 (some .int), Cond.methodLink RX3 29 yX3_firstHit, Cond.static yX3_firstHit, Cond.code yX3_firstHit cX3_firstHit 3 (some .int), Cond.methodLink RX3 32 yX4_timesIn, Cond.static yX4_timesIn, Cond.initialized RX4, Cond.code yX4_timesIn cX4_timesIn 7 (some .int), Cond.methodLink RX4 11 yX4_lengthOf, Cond.static yX4_lengthOf, Cond.code yX4_lengthOf cX4_lengthOf 2 (some .int), Cond.methodLink RX4 15 yJ6_bitCount_0f7a4, Cond.methodLink RL 38 yX11_shows, Cond.instanceMethod yX11_shows, Cond.selects RX11 yX11_shows yX11_shows, Cond.code yX11_shows cX11_shows 3 (some .int), Cond.methodLink RX11 97 yX11_showsNow, Cond.instanceMethod yX11_showsNow, Cond.selects RX11 yX11_showsNow yX11_showsNow]
def wsL_law_r11 : List Cond := [Cond.code yX11_showsNow cX11_showsNow 3 (some .int), Cond.methodLink RX11 87 yX11_isWhole, Cond.instanceMethod yX11_isWhole, Cond.selects RX11 yX11_isWhole yX11_isWhole, Cond.code yX11_isWhole cX11_isWhole 3 (some .boolean), Cond.methodLink RX11 90 yX11_bitsOf, Cond.instanceMethod yX11_bitsOf, Cond.selects RX11 yX11_bitsOf yX11_bitsOf, Cond.code yX11_bitsOf cX11_bitsOf 4 (some .int), Cond.methodLink RX11 93 yX11_numberOf, Cond.instanceMethod yX11_numberOf, Cond.selects RX11 yX11_numberOf yX11_numberOf, Cond.code yX11_numberOf cX11_numberOf 13 (some .int), Cond.methodLink RX11 81 yX11_ones, Cond.static yX11_ones, Cond.code yX11_ones cX11_ones 3 (some .int), Cond.methodLink RX11 84 yX11_standing, Cond.instanceMethod yX11_standing, Cond.selects RX11 yX11_standing yX11_standing, Cond.code yX11_standing cX11_standing 7 (some .int), Cond.methodLink RX11 78 yX11_lengthOf, Cond.static yX11_lengthOf, Cond.code yX11_lengthOf cX11_lengthOf 2 (some .int), Cond.methodLink RL 39 yX10_type]
def wsL_law_r12 : List Cond := [Cond.instanceMethod yX10_type, Cond.selects RX10 yX10_type yX10_type, Cond.code yX10_type cX10_type 2 (some .int), Cond.fieldLink RX10 109 "RowsOfTwo$Sentences" "length" "I", Cond.methodLink RX10 110 yX6_append, Cond.instanceMethod yX6_append, Cond.selects RX6 yX6_append yX6_append, Cond.code yX6_append cX6_append 2 none, Cond.fieldLink RX6 32 "RowsOfTwo$Sentences" "length" "I", Cond.methodLink RX6 41 yX6_goesOn, Cond.instanceMethod yX6_goesOn, Cond.selects RX6 yX6_goesOn yX6_goesOn, Cond.code yX6_goesOn cX6_goesOn 2 (some .boolean), Cond.fieldLink RX6 38 "RowsOfTwo$Sentences" "due" "I", Cond.methodLink RX6 49 yX6_takesLetter, Cond.instanceMethod yX6_takesLetter, Cond.selects RX6 yX6_takesLetter yX6_takesLetter, Cond.code yX6_takesLetter cX6_takesLetter 3 (some .boolean), Cond.fieldLink RX6 35 "RowsOfTwo$Sentences" "tests" "I", Cond.methodLink RX6 66 yJ0_indexOf_0f7a4, Cond.instanceMethod yJ0_indexOf_0f7a4, Cond.selects RJ0 yJ0_indexOf_0f7a4 yJ0_indexOf_0f7a4, Cond.initialized RJ0, Cond.code yJ0_indexOf_0f7a4 cJ0_indexOf_0f7a4 2 (some .int)]
def wsL_law_r13 : List Cond := [Cond.methodLink RJ0 633 yJ0_indexOf_7cf53, Cond.instanceMethod yJ0_indexOf_7cf53, Cond.selects RJ0 yJ0_indexOf_7cf53 yJ0_indexOf_7cf53, Cond.code yJ0_indexOf_7cf53 cJ0_indexOf_7cf53 3 (some .int), Cond.fieldLink RJ0 9 "java/lang/String" "value" "[B", Cond.methodLink RJ0 492 yJ0_isLatin1_aae02, Cond.instanceMethod yJ0_isLatin1_aae02, Cond.selects RJ0 yJ0_isLatin1_aae02 yJ0_isLatin1_aae02, Cond.code yJ0_isLatin1_aae02 cJ0_isLatin1_aae02 1 (some .boolean), Cond.fieldLink RJ0 38 "java/lang/String" "COMPACT_STRINGS" "Z", Cond.fieldLink RJ0 15 "java/lang/String" "coder" "B", Cond.methodLink RJ0 505 yJ0_length_8abf5, Cond.instanceMethod yJ0_length_8abf5, Cond.selects RJ0 yJ0_length_8abf5 yJ0_length_8abf5, Cond.code yJ0_length_8abf5 cJ0_length_8abf5 1 (some .int), Cond.methodLink RJ0 335 yJ0_coder_7d493, Cond.instanceMethod yJ0_coder_7d493, Cond.selects RJ0 yJ0_coder_7d493 yJ0_coder_7d493, Cond.code yJ0_coder_7d493 cJ0_coder_7d493 1 (some .byte), Cond.methodLink RJ0 637 yJ1_indexOf_4cfef, Cond.static yJ1_indexOf_4cfef, Cond.initialized RJ1, Cond.code yJ1_indexOf_4cfef cJ1_indexOf_4cfef 4 (some .int), Cond.methodLink RJ1 92 Lib.Math.max.name]
def wsL_law_r14 : List Cond := [Cond.methodLink RJ1 38 Lib.Math.min.name, Cond.static Lib.Math.min.name, Cond.code Lib.Math.min.name Lib.Math.min.code 2 (some .int), Cond.methodLink RJ1 88 yJ1_canEncode_9a6ad, Cond.static yJ1_canEncode_9a6ad, Cond.code yJ1_canEncode_9a6ad cJ1_canEncode_9a6ad 1 (some .boolean), Cond.methodLink RJ1 95 yJ1_indexOfChar_4cfef, Cond.static yJ1_indexOfChar_4cfef, Cond.code yJ1_indexOfChar_4cfef cJ1_indexOfChar_4cfef 6 (some .int), Cond.methodLink RJ0 640 yJ2_indexOf_4cfef, Cond.static yJ2_indexOf_4cfef, Cond.initialized RJ2, Cond.code yJ2_indexOf_4cfef cJ2_indexOf_4cfef 4 (some .int), Cond.methodLink RJ2 224 Lib.Math.max.name, Cond.methodLink RJ2 183 Lib.Math.min.name, Cond.constant RJ2 227 (65536), Cond.methodLink RJ2 228 yJ2_indexOfChar_4cfef, Cond.static yJ2_indexOfChar_4cfef, Cond.code yJ2_indexOfChar_4cfef cJ2_indexOfChar_4cfef 4 (some .int), Cond.methodLink RJ2 96 yJ2_checkBoundsBeginEnd_d044e, Cond.static yJ2_checkBoundsBeginEnd_d044e, Cond.code yJ2_checkBoundsBeginEnd_d044e cJ2_checkBoundsBeginEnd_d044e 3 none, Cond.methodLink RJ2 48 yJ2_length_9d52b, Cond.static yJ2_length_9d52b]
def wsL_law_r15 : List Cond := [Cond.code yJ2_length_9d52b cJ2_length_9d52b 1 (some .int), Cond.methodLink RJ2 241 yJ0_checkBoundsBeginEnd_23922, Cond.static yJ0_checkBoundsBeginEnd_23922, Cond.code yJ0_checkBoundsBeginEnd_23922 cJ0_checkBoundsBeginEnd_23922 3 none, Cond.fieldLink RJ0 1053 "jdk/internal/util/Preconditions" "SIOOBE_FORMATTER" "Ljava/util/function/BiFunction;", Cond.methodLink RJ0 1062 yJ3_checkFromToIndex_8c36e, Cond.static yJ3_checkFromToIndex_8c36e, Cond.initialized RJ3, Cond.code yJ3_checkFromToIndex_8c36e cJ3_checkFromToIndex_8c36e 4 (some .int), Cond.methodLink RJ2 244 yJ2_indexOfCharUnsafe_4cfef, Cond.static yJ2_indexOfCharUnsafe_4cfef, Cond.code yJ2_indexOfCharUnsafe_4cfef cJ2_indexOfCharUnsafe_4cfef 5 (some .int), Cond.methodLink RJ2 71 yJ2_getChar_3b067, Cond.static yJ2_getChar_3b067, Cond.code yJ2_getChar_3b067 cJ2_getChar_3b067 2 (some .char), Cond.fieldLink RJ2 44 "java/lang/StringUTF16" "$assertionsDisabled" "Z", Cond.fieldLink RJ2 59 "java/lang/StringUTF16" "HI_BYTE_SHIFT" "I", Cond.fieldLink RJ2 63 "java/lang/StringUTF16" "LO_BYTE_SHIFT" "I", Cond.methodLink RJ2 232 yJ2_indexOfSupplementary_4cfef, Cond.static yJ2_indexOfSupplementary_4cfef, Cond.code yJ2_indexOfSupplementary_4cfef cJ2_indexOfSupplementary_4cfef 7 (some .int), Cond.methodLink RJ2 164 yJ11_isValidCodePoint_9a6ad, Cond.static yJ11_isValidCodePoint_9a6ad, Cond.initialized RJ11]
def wsL_law_r16 : List Cond := [Cond.code yJ11_isValidCodePoint_9a6ad cJ11_isValidCodePoint_9a6ad 2 (some .boolean), Cond.methodLink RJ2 157 yJ11_highSurrogate_5068e, Cond.static yJ11_highSurrogate_5068e, Cond.code yJ11_highSurrogate_5068e cJ11_highSurrogate_5068e 1 (some .char), Cond.constant RJ11 110 (55232), Cond.methodLink RJ2 161 yJ11_lowSurrogate_5068e, Cond.static yJ11_lowSurrogate_5068e, Cond.code yJ11_lowSurrogate_5068e cJ11_lowSurrogate_5068e 1 (some .char), Cond.constant RJ11 76 (56320), Cond.methodLink RX6 52 yX6_takesRelation, Cond.instanceMethod yX6_takesRelation, Cond.selects RX6 yX6_takesRelation yX6_takesRelation, Cond.code yX6_takesRelation cX6_takesRelation 2 (some .boolean), Cond.methodLink RX6 55 yX6_takesFigure, Cond.instanceMethod yX6_takesFigure, Cond.selects RX6 yX6_takesFigure yX6_takesFigure, Cond.code yX6_takesFigure cX6_takesFigure 2 (some .boolean), Cond.methodLink RX6 58 yX6_takesSecondFigure, Cond.instanceMethod yX6_takesSecondFigure, Cond.selects RX6 yX6_takesSecondFigure yX6_takesSecondFigure, Cond.code yX6_takesSecondFigure cX6_takesSecondFigure 2 (some .boolean), Cond.methodLink RX6 61 yX6_takesJoint, Cond.instanceMethod yX6_takesJoint, Cond.selects RX6 yX6_takesJoint yX6_takesJoint]
def wsL_law_r17 : List Cond := [Cond.code yX6_takesJoint cX6_takesJoint 2 (some .boolean), Cond.methodLink RL 42 yX11_type, Cond.instanceMethod yX11_type, Cond.selects RX11 yX11_type yX11_type, Cond.code yX11_type cX11_type 2 (some .int), Cond.fieldLink RX11 100 "RowsOfTwoModel" "typed" "I", Cond.fieldLink RX11 103 "RowsOfTwoModel" "isRead" "Z", Cond.methodLink RL 43 yX10_wipe, Cond.instanceMethod yX10_wipe, Cond.selects RX10 yX10_wipe yX10_wipe, Cond.code yX10_wipe cX10_wipe 2 (some .int), Cond.methodLink RX10 111 yX6_empty, Cond.instanceMethod yX6_empty, Cond.selects RX6 yX6_empty yX6_empty, Cond.code yX6_empty cX6_empty 1 none, Cond.methodLink RL 47 yX11_wipe, Cond.instanceMethod yX11_wipe, Cond.selects RX11 yX11_wipe yX11_wipe, Cond.code yX11_wipe cX11_wipe 2 (some .int), Cond.methodLink RL 48 yX10_fault, Cond.instanceMethod yX10_fault, Cond.selects RX10 yX10_fault yX10_fault, Cond.code yX10_fault cX10_fault 1 (some .int), Cond.methodLink RX10 112 yX6_faultPlace]
def wsL_law_r18 : List Cond := [Cond.instanceMethod yX6_faultPlace, Cond.selects RX6 yX6_faultPlace yX6_faultPlace, Cond.code yX6_faultPlace cX6_faultPlace 1 (some .int), Cond.methodLink RL 51 yX11_fault, Cond.instanceMethod yX11_fault, Cond.selects RX11 yX11_fault yX11_fault, Cond.code yX11_fault cX11_fault 1 (some .int), Cond.methodLink RX11 127 yX11_faultNow, Cond.instanceMethod yX11_faultNow, Cond.selects RX11 yX11_faultNow yX11_faultNow, Cond.code yX11_faultNow cX11_faultNow 2 (some .int), Cond.fieldLink RX11 117 "RowsOfTwoModel" "fault" "I", Cond.fieldLink RX11 107 "RowsOfTwoModel" "at" "I", Cond.fieldLink RX11 120 "RowsOfTwoModel" "tests" "I", Cond.methodLink RX11 123 yX11_test, Cond.instanceMethod yX11_test, Cond.selects RX11 yX11_test yX11_test, Cond.code yX11_test cX11_test 6 none, Cond.methodLink RX11 110 yX11_byteNow, Cond.instanceMethod yX11_byteNow, Cond.selects RX11 yX11_byteNow yX11_byteNow, Cond.code yX11_byteNow cX11_byteNow 1 (some .int), Cond.methodLink RX11 114 yX11_numberBy, Cond.static yX11_numberBy]
def wsL_law_r19 : List Cond := [Cond.code yX11_numberBy cX11_numberBy 1 (some .int), Cond.methodLink RL 52 yX10_holds, Cond.instanceMethod yX10_holds, Cond.selects RX10 yX10_holds yX10_holds, Cond.code yX10_holds cX10_holds 3 (some .int), Cond.methodLink RX10 116 yX6_isFaulty, Cond.instanceMethod yX6_isFaulty, Cond.selects RX6 yX6_isFaulty yX6_isFaulty, Cond.code yX6_isFaulty cX6_isFaulty 1 (some .boolean), Cond.methodLink RX6 45 yX6_faultPlace, Cond.methodLink RX10 122 yX6_hold, Cond.instanceMethod yX6_hold, Cond.selects RX6 yX6_hold yX6_hold, Cond.code yX6_hold cX6_hold 8 (some .boolean), Cond.methodLink RX6 72 yX3_measure, Cond.methodLink RX6 78 yX6_isDone, Cond.instanceMethod yX6_isDone, Cond.selects RX6 yX6_isDone yX6_isDone, Cond.code yX6_isDone cX6_isDone 3 (some .boolean), Cond.methodLink RL 55 yX11_holds, Cond.instanceMethod yX11_holds, Cond.selects RX11 yX11_holds yX11_holds, Cond.code yX11_holds cX11_holds 2 (some .int), Cond.methodLink RX11 130 yX11_does]
def wsL_law_r20 : List Cond := [Cond.instanceMethod yX11_does, Cond.selects RX11 yX11_does yX11_does, Cond.code yX11_does cX11_does 6 (some .boolean), Cond.methodLink RL 56 yX10_shown, Cond.instanceMethod yX10_shown, Cond.selects RX10 yX10_shown yX10_shown, Cond.code yX10_shown cX10_shown 3 (some .int), Cond.fieldLink RX10 133 "RowsOfTwo$Shown" "tallies" "[[I", Cond.methodLink RX10 126 yX10_isLength, Cond.static yX10_isLength, Cond.code yX10_isLength cX10_isLength 1 (some .boolean), Cond.methodLink RX10 129 yX8_learn, Cond.instanceMethod yX8_learn, Cond.selects RX8 yX8_learn yX8_learn, Cond.code yX8_learn cX8_learn 6 none, Cond.methodLink RX8 20 yX6_hold, Cond.methodLink RX8 26 yJ6_bitCount_0f7a4, Cond.methodLink RX10 137 yX9_sum, Cond.static yX9_sum, Cond.initialized RX9, Cond.code yX9_sum cX9_sum 6 (some .int), Cond.methodLink RL 59 yX11_shown, Cond.instanceMethod yX11_shown, Cond.selects RX11 yX11_shown yX11_shown]
def wsL_law_r21 : List Cond := [Cond.code yX11_shown cX11_shown 3 (some .int), Cond.methodLink RX11 134 yX11_shownNow, Cond.instanceMethod yX11_shownNow, Cond.selects RX11 yX11_shownNow yX11_shownNow, Cond.code yX11_shownNow cX11_shownNow 5 (some .int), Cond.methodLink RL 60 yX10_nth, Cond.instanceMethod yX10_nth, Cond.selects RX10 yX10_nth yX10_nth, Cond.code yX10_nth cX10_nth 5 (some .int), Cond.methodLink RL 63 yX11_nth, Cond.instanceMethod yX11_nth, Cond.selects RX11 yX11_nth yX11_nth, Cond.code yX11_nth cX11_nth 5 (some .int), Cond.methodLink RL 64 yX10_share, Cond.instanceMethod yX10_share, Cond.selects RX10 yX10_share yX10_share, Cond.code yX10_share cX10_share 3 (some .long), Cond.methodLink RX10 143 yX10_isPart, Cond.static yX10_isPart, Cond.code yX10_isPart cX10_isPart 1 (some .boolean), Cond.methodLink RX10 146 yX10_refusal, Cond.static yX10_refusal, Cond.code yX10_refusal cX10_refusal 1 (some .long), Cond.constantLong RX10 295 (-9223372036854775808)]
def wsL_law_r22 : List Cond := [Cond.methodLink RX10 150 yX9_sharePart, Cond.static yX9_sharePart, Cond.code yX9_sharePart cX9_sharePart 9 (some .long), Cond.constantLong RX9 15 (16), Cond.methodLink RX9 9 yX1_power, Cond.static yX1_power, Cond.initialized RX1, Cond.code yX1_power cX1_power 6 (some .long), Cond.methodLink RX9 17 yX1_part, Cond.static yX1_part, Cond.code yX1_part cX1_part 7 (some .long), Cond.methodLink RX1 7 yX1_commonDivisor, Cond.static yX1_commonDivisor, Cond.code yX1_commonDivisor cX1_commonDivisor 11 (some .long), Cond.methodLink RL 68 yX11_share, Cond.instanceMethod yX11_share, Cond.selects RX11 yX11_share yX11_share, Cond.code yX11_share cX11_share 6 (some .long), Cond.constantLong RX11 145 (16), Cond.methodLink RX11 137 yX11_no, Cond.static yX11_no, Cond.code yX11_no cX11_no 1 (some .long), Cond.constantLong RX11 57 (-9223372036854775808), Cond.methodLink RX11 141 yX11_power]
def wsL_law_r23 : List Cond := [Cond.static yX11_power, Cond.code yX11_power cX11_power 6 (some .long), Cond.methodLink RX11 147 yX11_lowest, Cond.static yX11_lowest, Cond.code yX11_lowest cX11_lowest 11 (some .long), Cond.methodLink RL 69 yX10_fills, Cond.instanceMethod yX10_fills, Cond.selects RX10 yX10_fills yX10_fills, Cond.code yX10_fills cX10_fills 3 (some .int), Cond.fieldLink RX10 154 "RowsOfTwo$Row" "unseen" "I", Cond.fieldLink RX10 165 "RowsOfTwo$Fills" "tally" "[I", Cond.methodLink RX10 157 yJ6_bitCount_0f7a4, Cond.methodLink RX10 162 yX0_learn, Cond.instanceMethod yX0_learn, Cond.selects RX0 yX0_learn yX0_learn, Cond.code yX0_learn cX0_learn 8 none, Cond.fieldLink RX0 15 "RowsOfTwo$Fills" "alwaysHit" "I", Cond.fieldLink RX0 19 "RowsOfTwo$Fills" "everHit" "I", Cond.fieldLink RX0 22 "RowsOfTwo$Row" "unseen" "I", Cond.fieldLink RX0 33 "RowsOfTwo$Row" "hits" "I", Cond.fieldLink RX0 36 "RowsOfTwo$Row" "length" "I", Cond.methodLink RX0 27 yJ6_bitCount_0f7a4, Cond.methodLink RX0 39 yX6_hold, Cond.methodLink RL 72 yX11_fills]
def wsL_law_r24 : List Cond := [Cond.instanceMethod yX11_fills, Cond.selects RX11 yX11_fills yX11_fills, Cond.code yX11_fills cX11_fills 5 (some .int), Cond.fieldLink RX11 151 "RowsOfTwoModel" "unseenMany" "I", Cond.methodLink RX11 154 yX11_gathers, Cond.instanceMethod yX11_gathers, Cond.selects RX11 yX11_gathers yX11_gathers, Cond.code yX11_gathers cX11_gathers 3 none, Cond.methodLink RX11 158 yX11_fill, Cond.instanceMethod yX11_fill, Cond.selects RX11 yX11_fill yX11_fill, Cond.code yX11_fill cX11_fill 5 (some .int), Cond.methodLink RL 73 yX10_filled, Cond.instanceMethod yX10_filled, Cond.selects RX10 yX10_filled yX10_filled, Cond.code yX10_filled cX10_filled 3 (some .long), Cond.methodLink RL 76 yX11_filled, Cond.instanceMethod yX11_filled, Cond.selects RX11 yX11_filled yX11_filled, Cond.code yX11_filled cX11_filled 6 (some .long), Cond.methodLink RL 77 yX10_sure, Cond.instanceMethod yX10_sure, Cond.selects RX10 yX10_sure yX10_sure, Cond.code yX10_sure cX10_sure 5 (some .int)]
def wsL_law_r25 : List Cond := [Cond.fieldLink RX10 168 "RowsOfTwo$Fills" "alwaysHit" "I", Cond.fieldLink RX10 171 "RowsOfTwo$Fills" "everHit" "I", Cond.methodLink RL 80 yX11_sure, Cond.instanceMethod yX11_sure, Cond.selects RX11 yX11_sure yX11_sure, Cond.code yX11_sure cX11_sure 8 (some .int), Cond.methodLink RL 81 yX10_dealt, Cond.instanceMethod yX10_dealt, Cond.selects RX10 yX10_dealt yX10_dealt, Cond.code yX10_dealt cX10_dealt 5 (some .int), Cond.methodLink RX10 174 yX10_dealtAsFar, Cond.instanceMethod yX10_dealtAsFar, Cond.selects RX10 yX10_dealtAsFar yX10_dealtAsFar, Cond.code yX10_dealtAsFar cX10_dealtAsFar 10 (some .int), Cond.methodLink RX10 178 yX2_howMany, Cond.static yX2_howMany, Cond.initialized RX2, Cond.code yX2_howMany cX2_howMany 4 (some .int), Cond.fieldLink RX2 7 "RowsOfTwo$Row" "hits" "I", Cond.fieldLink RX2 19 "RowsOfTwo$Row" "length" "I", Cond.methodLink RX2 13 yJ6_bitCount_0f7a4, Cond.methodLink RX10 202 yX2_lowest, Cond.static yX2_lowest, Cond.code yX2_lowest cX2_lowest 1 (some .int)]
def wsL_law_r26 : List Cond := [Cond.methodLink RX10 209 yX2_after, Cond.static yX2_after, Cond.code yX2_after cX2_after 3 (some .int), Cond.methodLink RX10 184 yX10_millionths, Cond.static yX10_millionths, Cond.code yX10_millionths cX10_millionths 2 (some .int), Cond.constantLong RX10 301 (1000000), Cond.methodLink RL 85 yX11_dealt, Cond.instanceMethod yX11_dealt, Cond.selects RX11 yX11_dealt yX11_dealt, Cond.code yX11_dealt cX11_dealt 4 (some .int), Cond.constantLong RX11 165 (1000000), Cond.methodLink RX11 167 yX11_dealtMany, Cond.instanceMethod yX11_dealtMany, Cond.selects RX11 yX11_dealtMany yX11_dealtMany, Cond.code yX11_dealtMany cX11_dealtMany 11 (some .int), Cond.methodLink RX11 171 yX11_dealtAll, Cond.instanceMethod yX11_dealtAll, Cond.selects RX11 yX11_dealtAll yX11_dealtAll, Cond.code yX11_dealtAll cX11_dealtAll 2 (some .long), Cond.methodLink RX11 161 yX11_choose, Cond.static yX11_choose, Cond.code yX11_choose cX11_choose 5 (some .long), Cond.methodLink RL 86 yX10_strangest]
def wsL_law_r27 : List Cond := [Cond.instanceMethod yX10_strangest, Cond.selects RX10 yX10_strangest yX10_strangest, Cond.code yX10_strangest cX10_strangest 8 (some .int), Cond.methodLink RL 89 yX11_strangest, Cond.instanceMethod yX11_strangest, Cond.selects RX11 yX11_strangest yX11_strangest, Cond.code yX11_strangest cX11_strangest 7 (some .int), Cond.methodLink RL 90 yX10_hot, Cond.instanceMethod yX10_hot, Cond.selects RX10 yX10_hot yX10_hot, Cond.code yX10_hot cX10_hot 7 (some .long), Cond.methodLink RX10 190 yX10_isBehind, Cond.static yX10_isBehind, Cond.code yX10_isBehind cX10_isBehind 1 (some .boolean), Cond.methodLink RX10 193 yX2_behindHits, Cond.static yX2_behindHits, Cond.code yX2_behindHits cX2_behindHits 4 (some .int), Cond.methodLink RX10 196 yX1_part, Cond.methodLink RL 94 yX11_hot, Cond.instanceMethod yX11_hot, Cond.selects RX11 yX11_hot yX11_hot, Cond.code yX11_hot cX11_hot 4 (some .long), Cond.fieldLink RX11 174 "RowsOfTwoModel" "behindAll" "I", Cond.fieldLink RX11 177 "RowsOfTwoModel" "behindHits" "I"]
def wsL_law_r28 : List Cond := [Cond.methodLink RX11 180 yX11_behind, Cond.instanceMethod yX11_behind, Cond.selects RX11 yX11_behind yX11_behind, Cond.code yX11_behind cX11_behind 6 none, Cond.methodLink RL 95 yX10_already, Cond.instanceMethod yX10_already, Cond.selects RX10 yX10_already yX10_already, Cond.code yX10_already cX10_already 12 (some .long), Cond.constantLong RX10 212 (360360), Cond.methodLink RX10 205 yX2_heat, Cond.static yX2_heat, Cond.code yX2_heat cX2_heat 3 (some .long), Cond.constantLong RX2 24 (360360), Cond.methodLink RL 98 yX11_already, Cond.instanceMethod yX11_already, Cond.selects RX11 yX11_already yX11_already, Cond.code yX11_already cX11_already 10 (some .long), Cond.constantLong RX11 184 (360360), Cond.methodLink RL 99 yX10_waits, Cond.instanceMethod yX10_waits, Cond.selects RX10 yX10_waits yX10_waits, Cond.code yX10_waits cX10_waits 2 (some .long), Cond.methodLink RX10 214 yX4_lead, Cond.static yX4_lead]
def wsL_law_r29 : List Cond := [Cond.code yX4_lead cX4_lead 14 (some .long), Cond.constantLong RX4 28 (16), Cond.methodLink RX4 24 yX4_chanceParts, Cond.static yX4_chanceParts, Cond.code yX4_chanceParts cX4_chanceParts 3 (some .long), Cond.methodLink RX4 30 yX1_power, Cond.methodLink RX10 220 yX4_leadUnit, Cond.static yX4_leadUnit, Cond.code yX4_leadUnit cX4_leadUnit 1 (some .long), Cond.methodLink RL 103 yX11_waits, Cond.instanceMethod yX11_waits, Cond.selects RX11 yX11_waits yX11_waits, Cond.code yX11_waits cX11_waits 2 (some .long), Cond.methodLink RX11 195 yX11_waitsNow, Cond.instanceMethod yX11_waitsNow, Cond.selects RX11 yX11_waitsNow yX11_waitsNow, Cond.code yX11_waitsNow cX11_waitsNow 2 (some .long), Cond.methodLink RX11 192 yX11_lead, Cond.instanceMethod yX11_lead, Cond.selects RX11 yX11_lead yX11_lead, Cond.code yX11_lead cX11_lead 7 (some .long), Cond.methodLink RX11 186 yX11_overlaps, Cond.static yX11_overlaps, Cond.code yX11_overlaps cX11_overlaps 4 (some .boolean)]
def wsL_law_r30 : List Cond := [Cond.methodLink RX11 189 yX11_oddsOf, Cond.instanceMethod yX11_oddsOf, Cond.selects RX11 yX11_oddsOf yX11_oddsOf, Cond.code yX11_oddsOf cX11_oddsOf 7 (some .long), Cond.methodLink RL 104 yX10_first, Cond.instanceMethod yX10_first, Cond.selects RX10 yX10_first yX10_first, Cond.code yX10_first cX10_first 8 (some .long), Cond.methodLink RX10 223 yX10_isFirstTold, Cond.static yX10_isFirstTold, Cond.code yX10_isFirstTold cX10_isFirstTold 1 (some .boolean), Cond.methodLink RX10 226 yX4_standsIn, Cond.static yX4_standsIn, Cond.code yX4_standsIn cX4_standsIn 3 (some .boolean), Cond.methodLink RX4 20 yX4_timesIn, Cond.methodLink RL 107 yX11_first, Cond.instanceMethod yX11_first, Cond.selects RX11 yX11_first yX11_first, Cond.code yX11_first cX11_first 12 (some .long), Cond.methodLink RX11 198 yX11_stands, Cond.static yX11_stands, Cond.code yX11_stands cX11_stands 5 (some .boolean), Cond.methodLink RL 108 yX10_agree, Cond.instanceMethod yX10_agree]
def wsL_law_r31 : List Cond := [Cond.selects RX10 yX10_agree yX10_agree, Cond.code yX10_agree cX10_agree 11 (some .int), Cond.methodLink RL 112 yX11_agree, Cond.instanceMethod yX11_agree, Cond.selects RX11 yX11_agree yX11_agree, Cond.code yX11_agree cX11_agree 10 (some .int), Cond.methodLink RL 113 yX10_twice, Cond.instanceMethod yX10_twice, Cond.selects RX10 yX10_twice yX10_twice, Cond.code yX10_twice cX10_twice 7 (some .int), Cond.methodLink RX10 230 yX10_backwards, Cond.static yX10_backwards, Cond.code yX10_backwards cX10_backwards 4 (some .int), Cond.methodLink RL 116 yX11_twice, Cond.instanceMethod yX11_twice, Cond.selects RX11 yX11_twice yX11_twice, Cond.code yX11_twice cX11_twice 8 (some .int), Cond.methodLink RL 117 yX10_next, Cond.instanceMethod yX10_next, Cond.selects RX10 yX10_next yX10_next, Cond.code yX10_next cX10_next 9 (some .int), Cond.methodLink RX10 233 yX5_isBehindItsEnd, Cond.instanceMethod yX5_isBehindItsEnd, Cond.selects RX5 yX5_isBehindItsEnd yX5_isBehindItsEnd]
def wsL_law_r32 : List Cond := [Cond.code yX5_isBehindItsEnd cX5_isBehindItsEnd 6 (some .boolean), Cond.methodLink RL 120 yX11_next, Cond.instanceMethod yX11_next, Cond.selects RX11 yX11_next yX11_next, Cond.code yX11_next cX11_next 11 (some .int), Cond.constantLong RX11 201 (2), Cond.methodLink RL 121 yX10_sheet, Cond.instanceMethod yX10_sheet, Cond.selects RX10 yX10_sheet yX10_sheet, Cond.code yX10_sheet cX10_sheet 4 (some .int), Cond.methodLink RX10 236 yX10_isType, Cond.static yX10_isType, Cond.code yX10_isType cX10_isType 1 (some .boolean), Cond.methodLink RX10 239 yX7_renew, Cond.instanceMethod yX7_renew, Cond.selects RX7 yX7_renew yX7_renew, Cond.code yX7_renew cX7_renew 4 none, Cond.fieldLink RX7 19 "RowsOfTwo$Sheet" "kind" "I", Cond.fieldLink RX7 23 "RowsOfTwo$Sheet" "size" "I", Cond.methodLink RL 124 yX11_sheet, Cond.instanceMethod yX11_sheet, Cond.selects RX11 yX11_sheet yX11_sheet, Cond.code yX11_sheet cX11_sheet 5 (some .int), Cond.methodLink RL 125 yX10_lose]
def wsL_law_r33 : List Cond := [Cond.instanceMethod yX10_lose, Cond.selects RX10 yX10_lose yX10_lose, Cond.code yX10_lose cX10_lose 2 (some .int), Cond.methodLink RL 128 yX11_lose, Cond.instanceMethod yX11_lose, Cond.selects RX11 yX11_lose yX11_lose, Cond.code yX11_lose cX11_lose 2 (some .int), Cond.methodLink RL 129 yX10_put, Cond.instanceMethod yX10_put, Cond.selects RX10 yX10_put yX10_put, Cond.code yX10_put cX10_put 6 (some .int), Cond.methodLink RX10 243 yX10_refusesItem, Cond.instanceMethod yX10_refusesItem, Cond.selects RX10 yX10_refusesItem yX10_refusesItem, Cond.code yX10_refusesItem cX10_refusesItem 4 (some .int), Cond.fieldLink RX10 251 "RowsOfTwo$Sheet" "kind" "I", Cond.methodLink RX10 247 yX7_store, Cond.instanceMethod yX7_store, Cond.selects RX7 yX7_store yX7_store, Cond.code yX7_store cX7_store 3 none, Cond.methodLink RL 133 yX11_put, Cond.instanceMethod yX11_put, Cond.selects RX11 yX11_put yX11_put, Cond.code yX11_put cX11_put 6 (some .int)]
def wsL_law_r34 : List Cond := [Cond.methodLink RX11 206 yX11_lacks, Cond.instanceMethod yX11_lacks, Cond.selects RX11 yX11_lacks yX11_lacks, Cond.code yX11_lacks cX11_lacks 4 (some .int), Cond.methodLink RX11 209 yX11_keep, Cond.instanceMethod yX11_keep, Cond.selects RX11 yX11_keep yX11_keep, Cond.code yX11_keep cX11_keep 4 none, Cond.methodLink RL 134 yX10_get, Cond.instanceMethod yX10_get, Cond.selects RX10 yX10_get yX10_get, Cond.code yX10_get cX10_get 4 (some .int), Cond.constant RX10 250 (-2147483648), Cond.methodLink RL 137 yX11_get, Cond.instanceMethod yX11_get, Cond.selects RX11 yX11_get yX11_get, Cond.code yX11_get cX11_get 5 (some .int), Cond.constant RX11 212 (-2147483648), Cond.methodLink RL 138 yX10_copy, Cond.instanceMethod yX10_copy, Cond.selects RX10 yX10_copy yX10_copy, Cond.code yX10_copy cX10_copy 8 (some .int), Cond.methodLink RX10 257 arraycopyName, Cond.native arraycopyName]
def wsL_law_r35 : List Cond := [Cond.static arraycopyName, Cond.initialized "java/lang/System", Cond.methodLink RX10 254 yX7_hasSpan, Cond.instanceMethod yX7_hasSpan, Cond.selects RX7 yX7_hasSpan yX7_hasSpan, Cond.code yX7_hasSpan cX7_hasSpan 3 (some .boolean), Cond.methodLink RL 142 yX11_copy, Cond.instanceMethod yX11_copy, Cond.selects RX11 yX11_copy yX11_copy, Cond.code yX11_copy cX11_copy 7 (some .int), Cond.methodLink RL 143 yX10_write, Cond.instanceMethod yX10_write, Cond.selects RX10 yX10_write yX10_write, Cond.code yX10_write cX10_write 6 (some .int), Cond.methodLink RX10 263 Lib.Math.min.name, Cond.methodLink RL 146 yX11_write, Cond.instanceMethod yX11_write, Cond.selects RX11 yX11_write yX11_write, Cond.code yX11_write cX11_write 4 (some .int), Cond.methodLink RL 147 yX10_count, Cond.instanceMethod yX10_count, Cond.selects RX10 yX10_count yX10_count, Cond.code yX10_count cX10_count 2 (some .int), Cond.methodLink RX10 268 yX10_wholeRows]
def wsL_law_r36 : List Cond := [Cond.instanceMethod yX10_wholeRows, Cond.selects RX10 yX10_wholeRows yX10_wholeRows, Cond.code yX10_wholeRows cX10_wholeRows 3 (some .int), Cond.methodLink RL 150 yX11_count, Cond.instanceMethod yX11_count, Cond.selects RX11 yX11_count yX11_count, Cond.code yX11_count cX11_count 2 (some .int), Cond.methodLink RX11 213 yX11_wholeOnes, Cond.instanceMethod yX11_wholeOnes, Cond.selects RX11 yX11_wholeOnes yX11_wholeOnes, Cond.code yX11_wholeOnes cX11_wholeOnes 3 (some .int), Cond.methodLink RL 151 yX10_digest, Cond.instanceMethod yX10_digest, Cond.selects RX10 yX10_digest yX10_digest, Cond.code yX10_digest cX10_digest 5 (some .long), Cond.constantLong RX10 271 (17), Cond.constantLong RX10 273 (31), Cond.methodLink RX10 275 yX10_count, Cond.methodLink RX10 278 yX10_shows, Cond.methodLink RX10 281 yX10_fault, Cond.methodLink RX10 284 yX10_shown, Cond.methodLink RX10 287 yX10_waits, Cond.methodLink RX10 290 yX10_fills, Cond.methodLink RL 155 yX11_digest]
def wsL_law_r37 : List Cond := [Cond.instanceMethod yX11_digest, Cond.selects RX11 yX11_digest yX11_digest, Cond.code yX11_digest cX11_digest 5 (some .long), Cond.constantLong RX11 216 (17), Cond.constantLong RX11 218 (31), Cond.methodLink RX11 220 yX11_count]
def wsL_law : List Cond := (wsL_law_r1 ++ (wsL_law_r2 ++ (wsL_law_r3 ++ (wsL_law_r4 ++ (wsL_law_r5 ++ (wsL_law_r6 ++ (wsL_law_r7 ++ (wsL_law_r8 ++ (wsL_law_r9 ++ (wsL_law_r10 ++ (wsL_law_r11 ++ (wsL_law_r12 ++ (wsL_law_r13 ++ (wsL_law_r14 ++ (wsL_law_r15 ++ (wsL_law_r16 ++ (wsL_law_r17 ++ (wsL_law_r18 ++ (wsL_law_r19 ++ (wsL_law_r20 ++ (wsL_law_r21 ++ (wsL_law_r22 ++ (wsL_law_r23 ++ (wsL_law_r24 ++ (wsL_law_r25 ++ (wsL_law_r26 ++ (wsL_law_r27 ++ (wsL_law_r28 ++ (wsL_law_r29 ++ (wsL_law_r30 ++ (wsL_law_r31 ++ (wsL_law_r32 ++ (wsL_law_r33 ++ (wsL_law_r34 ++ (wsL_law_r35 ++ (wsL_law_r36 ++ wsL_law_r37)))))))))))))))))))))))))))))))))))) ++ wsX100 ++ wsX110 ++ wsX50 ++ wsX70 ++ wsX60 ++ wsX80 ++ wsX00 ++ ([] : List Cond)
set_option maxRecDepth 20000 in
theorem wsL_law_in : ∀ w ∈ wsL_law, w ∈ lw_tbl := fun w h => (goodIn_p wsL_law [60, 63, 69, 94, 118, 154, 170, 684, 213, 216, 219, 223, 227, 762, 766, 769, 772, 231, 234, 238, 776, 779, 783, 242, 246, 787, 250, 254, 791, 258, 262, 795, 266, 269, 273, 277, 280, 295, 283, 289, 292, 298, 301, 304, 799, 803, 807, 811, 815, 818, 822, 825, 309, 313, 317, 321, 326, 330, 334, 340, 344, 347, 354, 350, 357, 360, 366, 369, 372, 375, 380, 383, 386, 395, 398, 401, 405, 410, 414, 418, 422, 829, 427, 431, 833, 435, 439, 837, 841, 845, 849, 852, 443, 447, 452, 457, 856, 860, 461, 464, 468, 473, 864, 868, 477, 872, 481, 484, 487, 491, 494, 498, 501, 876, 879, 883, 887, 505, 510, 891, 895, 899, 516, 903, 520, 907, 524, 528, 531, 535, 538, 541, 911, 916, 920, 923, 546, 927, 550, 553, 556, 931, 935, 561, 564, 939, 570, 573, 576, 581, 944, 948, 952, 955, 959, 585, 588, 591, 963, 966, 596, 970, 600, 603, 974, 607, 611, 978, 615, 618, 622, 983, 626, 987, 630, 634, 638, 991, 995, 999, 642, 1003, 647, 651, 1008, 658, 1012, 663, 667, 1016, 1020, 671, 1024] (by decide +kernel) (by decide +kernel) w h).1
theorem inlX0 : ∀ w ∈ wsX00, w ∈ wsL_law := fun _ h => List.mem_append_left _ (List.mem_append_right _ h)
theorem inX0 : ∀ w ∈ wsX00, w ∈ lw_tbl := fun w h => wsL_law_in w (inlX0 w h)
theorem inX1 : ∀ w ∈ wsX10, w ∈ lw_tbl := by decide +kernel
theorem inX2 : ∀ w ∈ wsX20, w ∈ lw_tbl := by decide +kernel
theorem inX3 : ∀ w ∈ wsX30, w ∈ lw_tbl := by decide +kernel
theorem inX4 : ∀ w ∈ wsX40, w ∈ lw_tbl := by decide +kernel
theorem inlX5 : ∀ w ∈ wsX50, w ∈ wsL_law := fun _ h => List.mem_append_left _ (List.mem_append_left _ (List.mem_append_left _ (List.mem_append_left _ (List.mem_append_left _ (List.mem_append_right _ h)))))
theorem inX5 : ∀ w ∈ wsX50, w ∈ lw_tbl := fun w h => wsL_law_in w (inlX5 w h)
theorem inlX6 : ∀ w ∈ wsX60, w ∈ wsL_law := fun _ h => List.mem_append_left _ (List.mem_append_left _ (List.mem_append_left _ (List.mem_append_right _ h)))
theorem inX6 : ∀ w ∈ wsX60, w ∈ lw_tbl := fun w h => wsL_law_in w (inlX6 w h)
theorem inlX7 : ∀ w ∈ wsX70, w ∈ wsL_law := fun _ h => List.mem_append_left _ (List.mem_append_left _ (List.mem_append_left _ (List.mem_append_left _ (List.mem_append_right _ h))))
theorem inX7 : ∀ w ∈ wsX70, w ∈ lw_tbl := fun w h => wsL_law_in w (inlX7 w h)
theorem inlX8 : ∀ w ∈ wsX80, w ∈ wsL_law := fun _ h => List.mem_append_left _ (List.mem_append_left _ (List.mem_append_right _ h))
theorem inX8 : ∀ w ∈ wsX80, w ∈ lw_tbl := fun w h => wsL_law_in w (inlX8 w h)
theorem inX9 : ∀ w ∈ wsX90, w ∈ lw_tbl := by decide +kernel
theorem inlX10 : ∀ w ∈ wsX100, w ∈ wsL_law := fun _ h => List.mem_append_left _ (List.mem_append_left _ (List.mem_append_left _ (List.mem_append_left _ (List.mem_append_left _ (List.mem_append_left _ (List.mem_append_left _ (List.mem_append_right _ h)))))))
theorem inX10 : ∀ w ∈ wsX100, w ∈ lw_tbl := fun w h => wsL_law_in w (inlX10 w h)
theorem inlX11 : ∀ w ∈ wsX110, w ∈ wsL_law := fun _ h => List.mem_append_left _ (List.mem_append_left _ (List.mem_append_left _ (List.mem_append_left _ (List.mem_append_left _ (List.mem_append_left _ (List.mem_append_right _ h))))))
theorem inX11 : ∀ w ∈ wsX110, w ∈ lw_tbl := fun w h => wsL_law_in w (inlX11 w h)
theorem inJ11 : ∀ w ∈ wsJ110, w ∈ lw_tbl := by decide +kernel
theorem inJ6 : ∀ w ∈ wsJ60, w ∈ lw_tbl := by decide +kernel
theorem inJ9 : ∀ w ∈ wsJ90, w ∈ lw_tbl := by decide +kernel
theorem inJ0 : ∀ w ∈ wsJ00, w ∈ lw_tbl := by decide +kernel
theorem inJ1 : ∀ w ∈ wsJ10, w ∈ lw_tbl := by decide +kernel
theorem inJ2 : ∀ w ∈ wsJ20, w ∈ lw_tbl := by decide +kernel
theorem inJ10 : ∀ w ∈ wsJ100, w ∈ lw_tbl := by decide +kernel
theorem inJ3 : ∀ w ∈ wsJ30, w ∈ lw_tbl := by decide +kernel
set_option maxRecDepth 20000 in
theorem ggX0_learn_J6_bitCount_0f7a4 : GoodIn wsX0_learn wsJ6_bitCount_0f7a4 := goodIn_r _ [10, 11, 12, 13] (by decide +kernel) (by decide +kernel)
set_option maxRecDepth 20000 in
theorem gX0_learn_J6_bitCount_0f7a4 : GoodIn wsX0_learn (va_wsS RX0 27 yJ6_bitCount_0f7a4 wsJ6_bitCount_0f7a4) := goodIn_app (goodIn_of _ (by decide +kernel)) ggX0_learn_J6_bitCount_0f7a4
set_option maxRecDepth 20000 in
theorem ggX0_learn_X6_hold : GoodIn wsX0_learn wsX6_hold := goodIn_r _ [18, 19, 20, 21, 22, 23, 24, 25, 26, 27, 28, 29, 30, 31, 8, 9, 10, 11, 12, 13, 32, 33, 34, 35, 36, 37, 38, 39, 40, 41, 42, 43, 44, 45, 46, 47, 48, 49, 50, 51, 17, 52, 53, 54, 61, 62, 63, 64, 65, 66, 67, 68, 69] (by decide +kernel) (by decide +kernel)
set_option maxRecDepth 20000 in
theorem gX0_learn_X6_hold : GoodIn wsX0_learn (wsV RX0 39 RX6 yX6_hold wsX6_hold) := goodIn_app (goodIn_of _ (by decide +kernel)) ggX0_learn_X6_hold
set_option maxRecDepth 20000 in
theorem ggX1_part_X1_commonDivisor : GoodIn wsX1_part wsX1_commonDivisor := goodIn_r _ [4] (by decide +kernel) (by decide +kernel)
set_option maxRecDepth 20000 in
theorem gX1_part_X1_commonDivisor : GoodIn wsX1_part (va_wsS RX1 7 yX1_commonDivisor wsX1_commonDivisor) := goodIn_app (goodIn_of _ (by decide +kernel)) ggX1_part_X1_commonDivisor
set_option maxRecDepth 20000 in
theorem ggX2_howMany_J6_bitCount_0f7a4 : GoodIn wsX2_howMany wsJ6_bitCount_0f7a4 := goodIn_r _ [6, 7, 8, 9] (by decide +kernel) (by decide +kernel)
set_option maxRecDepth 20000 in
theorem gX2_howMany_J6_bitCount_0f7a4 : GoodIn wsX2_howMany (va_wsS RX2 13 yJ6_bitCount_0f7a4 wsJ6_bitCount_0f7a4) := goodIn_app (goodIn_of _ (by decide +kernel)) ggX2_howMany_J6_bitCount_0f7a4
set_option maxRecDepth 20000 in
theorem ggX2_lowest_J6_bitCount_0f7a4 : GoodIn wsX2_lowest wsJ6_bitCount_0f7a4 := goodIn_r _ [5, 6, 7, 8] (by decide +kernel) (by decide +kernel)
set_option maxRecDepth 20000 in
theorem gX2_lowest_J6_bitCount_0f7a4 : GoodIn wsX2_lowest (va_wsS RX2 13 yJ6_bitCount_0f7a4 wsJ6_bitCount_0f7a4) := goodIn_app (goodIn_of _ (by decide +kernel)) ggX2_lowest_J6_bitCount_0f7a4
set_option maxRecDepth 20000 in
theorem ggX2_heat_J6_bitCount_0f7a4 : GoodIn wsX2_heat wsJ6_bitCount_0f7a4 := goodIn_r _ [5, 6, 7, 8] (by decide +kernel) (by decide +kernel)
set_option maxRecDepth 20000 in
theorem gX2_heat_J6_bitCount_0f7a4 : GoodIn wsX2_heat (va_wsS RX2 13 yJ6_bitCount_0f7a4 wsJ6_bitCount_0f7a4) := goodIn_app (goodIn_of _ (by decide +kernel)) ggX2_heat_J6_bitCount_0f7a4
set_option maxRecDepth 20000 in
theorem ggX3_measure_J6_bitCount_0f7a4 : GoodIn wsX3_measure wsJ6_bitCount_0f7a4 := goodIn_r _ [8, 9, 10, 11] (by decide +kernel) (by decide +kernel)
set_option maxRecDepth 20000 in
theorem gX3_measure_J6_bitCount_0f7a4 : GoodIn wsX3_measure (va_wsS RX3 9 yJ6_bitCount_0f7a4 wsJ6_bitCount_0f7a4) := goodIn_app (goodIn_of _ (by decide +kernel)) ggX3_measure_J6_bitCount_0f7a4
set_option maxRecDepth 20000 in
theorem ggX3_measure_X3_runs : GoodIn wsX3_measure wsX3_runs := goodIn_r _ [15, 5, 6, 7, 8, 9, 10, 11] (by decide +kernel) (by decide +kernel)
set_option maxRecDepth 20000 in
theorem gX3_measure_X3_runs : GoodIn wsX3_measure (va_wsS RX3 15 yX3_runs wsX3_runs) := goodIn_app (goodIn_of _ (by decide +kernel)) ggX3_measure_X3_runs
set_option maxRecDepth 20000 in
theorem ggX3_measure_X3_longestRun : GoodIn wsX3_measure wsX3_longestRun := goodIn_r _ [18] (by decide +kernel) (by decide +kernel)
set_option maxRecDepth 20000 in
theorem gX3_measure_X3_longestRun : GoodIn wsX3_measure (va_wsS RX3 21 yX3_longestRun wsX3_longestRun) := goodIn_app (goodIn_of _ (by decide +kernel)) ggX3_measure_X3_longestRun
set_option maxRecDepth 20000 in
theorem ggX3_measure_X3_firstHit : GoodIn wsX3_measure wsX3_firstHit := goodIn_r _ [21] (by decide +kernel) (by decide +kernel)
set_option maxRecDepth 20000 in
theorem gX3_measure_X3_firstHit : GoodIn wsX3_measure (va_wsS RX3 29 yX3_firstHit wsX3_firstHit) := goodIn_app (goodIn_of _ (by decide +kernel)) ggX3_measure_X3_firstHit
set_option maxRecDepth 20000 in
theorem ggX3_measure_X4_timesIn : GoodIn wsX3_measure wsX4_timesIn := goodIn_r _ [25, 26, 27, 24, 28, 29, 6, 7, 8, 9, 10, 11] (by decide +kernel) (by decide +kernel)
set_option maxRecDepth 20000 in
theorem gX3_measure_X4_timesIn : GoodIn wsX3_measure (va_wsS RX3 32 yX4_timesIn wsX4_timesIn) := goodIn_app (goodIn_of _ (by decide +kernel)) ggX3_measure_X4_timesIn
set_option maxRecDepth 20000 in
theorem ggX3_runs_J6_bitCount_0f7a4 : GoodIn wsX3_runs wsJ6_bitCount_0f7a4 := goodIn_r _ [4, 5, 6, 7] (by decide +kernel) (by decide +kernel)
set_option maxRecDepth 20000 in
theorem gX3_runs_J6_bitCount_0f7a4 : GoodIn wsX3_runs (va_wsS RX3 9 yJ6_bitCount_0f7a4 wsJ6_bitCount_0f7a4) := goodIn_app (goodIn_of _ (by decide +kernel)) ggX3_runs_J6_bitCount_0f7a4
set_option maxRecDepth 20000 in
theorem ggX4_timesIn_X4_lengthOf : GoodIn wsX4_timesIn wsX4_lengthOf := goodIn_r _ [4] (by decide +kernel) (by decide +kernel)
set_option maxRecDepth 20000 in
theorem gX4_timesIn_X4_lengthOf : GoodIn wsX4_timesIn (va_wsS RX4 11 yX4_lengthOf wsX4_lengthOf) := goodIn_app (goodIn_of _ (by decide +kernel)) ggX4_timesIn_X4_lengthOf
set_option maxRecDepth 20000 in
theorem ggX4_timesIn_J6_bitCount_0f7a4 : GoodIn wsX4_timesIn wsJ6_bitCount_0f7a4 := goodIn_r _ [8, 9, 10, 11] (by decide +kernel) (by decide +kernel)
set_option maxRecDepth 20000 in
theorem gX4_timesIn_J6_bitCount_0f7a4 : GoodIn wsX4_timesIn (va_wsS RX4 15 yJ6_bitCount_0f7a4 wsJ6_bitCount_0f7a4) := goodIn_app (goodIn_of _ (by decide +kernel)) ggX4_timesIn_J6_bitCount_0f7a4
set_option maxRecDepth 20000 in
theorem ggX4_standsIn_X4_lengthOf : GoodIn wsX4_standsIn wsX4_lengthOf := goodIn_r _ [4] (by decide +kernel) (by decide +kernel)
set_option maxRecDepth 20000 in
theorem gX4_standsIn_X4_lengthOf : GoodIn wsX4_standsIn (va_wsS RX4 11 yX4_lengthOf wsX4_lengthOf) := goodIn_app (goodIn_of _ (by decide +kernel)) ggX4_standsIn_X4_lengthOf
set_option maxRecDepth 20000 in
theorem ggX4_standsIn_X4_timesIn : GoodIn wsX4_standsIn wsX4_timesIn := goodIn_r _ [7, 1, 2, 3, 4, 8, 9, 10, 11, 12, 13, 14] (by decide +kernel) (by decide +kernel)
set_option maxRecDepth 20000 in
theorem gX4_standsIn_X4_timesIn : GoodIn wsX4_standsIn (va_wsS RX4 20 yX4_timesIn wsX4_timesIn) := goodIn_app (goodIn_of _ (by decide +kernel)) ggX4_standsIn_X4_timesIn
set_option maxRecDepth 20000 in
theorem ggX4_lead_X4_lengthOf : GoodIn wsX4_lead wsX4_lengthOf := goodIn_r _ [5] (by decide +kernel) (by decide +kernel)
set_option maxRecDepth 20000 in
theorem gX4_lead_X4_lengthOf : GoodIn wsX4_lead (va_wsS RX4 11 yX4_lengthOf wsX4_lengthOf) := goodIn_app (goodIn_of _ (by decide +kernel)) ggX4_lead_X4_lengthOf
set_option maxRecDepth 20000 in
theorem ggX4_lead_J6_bitCount_0f7a4 : GoodIn wsX4_lead wsJ6_bitCount_0f7a4 := goodIn_r _ [9, 10, 11, 12] (by decide +kernel) (by decide +kernel)
set_option maxRecDepth 20000 in
theorem gX4_lead_J6_bitCount_0f7a4 : GoodIn wsX4_lead (va_wsS RX4 15 yJ6_bitCount_0f7a4 wsJ6_bitCount_0f7a4) := goodIn_app (goodIn_of _ (by decide +kernel)) ggX4_lead_J6_bitCount_0f7a4
set_option maxRecDepth 20000 in
theorem ggX4_lead_X4_chanceParts : GoodIn wsX4_lead wsX4_chanceParts := goodIn_r _ [15, 16, 17, 18, 19] (by decide +kernel) (by decide +kernel)
set_option maxRecDepth 20000 in
theorem gX4_lead_X4_chanceParts : GoodIn wsX4_lead (va_wsS RX4 24 yX4_chanceParts wsX4_chanceParts) := goodIn_app (goodIn_of _ (by decide +kernel)) ggX4_lead_X4_chanceParts
set_option maxRecDepth 20000 in
theorem ggX4_lead_X1_power : GoodIn wsX4_lead wsX1_power := goodIn_r _ [19] (by decide +kernel) (by decide +kernel)
set_option maxRecDepth 20000 in
theorem gX4_lead_X1_power : GoodIn wsX4_lead (va_wsS RX4 30 yX1_power wsX1_power) := goodIn_app (goodIn_of _ (by decide +kernel)) ggX4_lead_X1_power
set_option maxRecDepth 20000 in
theorem ggX4_leadUnit_X4_chanceParts : GoodIn wsX4_leadUnit wsX4_chanceParts := goodIn_r _ [4, 5, 6, 7, 8] (by decide +kernel) (by decide +kernel)
set_option maxRecDepth 20000 in
theorem gX4_leadUnit_X4_chanceParts : GoodIn wsX4_leadUnit (va_wsS RX4 24 yX4_chanceParts wsX4_chanceParts) := goodIn_app (goodIn_of _ (by decide +kernel)) ggX4_leadUnit_X4_chanceParts
set_option maxRecDepth 20000 in
theorem ggX4_chanceParts_X1_power : GoodIn wsX4_chanceParts wsX1_power := goodIn_r _ [4] (by decide +kernel) (by decide +kernel)
set_option maxRecDepth 20000 in
theorem gX4_chanceParts_X1_power : GoodIn wsX4_chanceParts (va_wsS RX4 30 yX1_power wsX1_power) := goodIn_app (goodIn_of _ (by decide +kernel)) ggX4_chanceParts_X1_power
set_option maxRecDepth 20000 in
theorem ggX6_append_X6_goesOn : GoodIn wsX6_append wsX6_goesOn := goodIn_r _ [7, 8, 9, 10, 11, 6, 12, 13, 14, 15, 16, 17, 18, 19, 20, 21, 22, 23, 24, 25, 26, 27, 28, 29, 30, 31, 32, 33, 34, 35, 36, 37, 38, 39, 40, 41, 42, 43, 44, 45, 46, 47, 48, 49, 50, 51, 52, 53, 54, 55, 56, 57, 58, 59, 60, 61, 62, 63, 64, 65, 66, 67, 68, 69, 70, 71, 72, 73, 74, 75, 76, 77, 78, 79, 80, 81, 82, 83, 84, 85, 86, 87, 88, 89, 90, 91, 92, 93, 94, 95, 96, 97, 98, 99, 100, 101, 102, 103, 104, 105, 106, 107, 108, 109, 110, 111, 112, 113, 114, 115, 116, 117, 118, 119, 120, 121, 122, 123, 124, 125, 126, 127, 128, 129, 130, 131] (by decide +kernel) (by decide +kernel)
set_option maxRecDepth 20000 in
theorem gX6_append_X6_goesOn : GoodIn wsX6_append (wsV RX6 41 RX6 yX6_goesOn wsX6_goesOn) := goodIn_app (goodIn_of _ (by decide +kernel)) ggX6_append_X6_goesOn
set_option maxRecDepth 20000 in
theorem ggX6_isFaulty_X6_faultPlace : GoodIn wsX6_isFaulty wsX6_faultPlace := goodIn_r _ [5, 6, 7, 8, 9, 10, 11, 12, 13, 14, 15, 16, 17] (by decide +kernel) (by decide +kernel)
set_option maxRecDepth 20000 in
theorem gX6_isFaulty_X6_faultPlace : GoodIn wsX6_isFaulty (wsV RX6 45 RX6 yX6_faultPlace wsX6_faultPlace) := goodIn_app (goodIn_of _ (by decide +kernel)) ggX6_isFaulty_X6_faultPlace
set_option maxRecDepth 20000 in
theorem ggX6_goesOn_X6_takesLetter : GoodIn wsX6_goesOn wsX6_takesLetter := goodIn_r _ [6, 7, 8, 1, 9, 10, 11, 12, 13, 14, 15, 16, 17, 18, 19, 20, 21, 22, 23, 24, 25, 26, 27, 28, 29, 30, 31, 32, 33, 34, 35, 36, 37, 38, 39, 40, 41, 42, 43, 44, 45, 46, 47, 48, 49, 50, 51, 52, 53, 54, 55, 56, 57, 58, 59, 60, 61, 62, 63, 64, 65, 66, 67, 68, 69, 70, 71, 72, 73, 74, 75, 76, 77, 78, 79, 80, 81, 82, 83, 84, 85, 86, 87, 88, 89, 90, 91, 92, 93, 94, 95, 96, 97, 117, 118, 119, 120, 121, 122, 123, 124, 125] (by decide +kernel) (by decide +kernel)
set_option maxRecDepth 20000 in
theorem gX6_goesOn_X6_takesLetter : GoodIn wsX6_goesOn (wsV RX6 49 RX6 yX6_takesLetter wsX6_takesLetter) := goodIn_app (goodIn_of _ (by decide +kernel)) ggX6_goesOn_X6_takesLetter
set_option maxRecDepth 20000 in
theorem ggX6_goesOn_X6_takesRelation : GoodIn wsX6_goesOn wsX6_takesRelation := goodIn_r _ [101, 7, 102, 1, 117, 118, 119, 120, 121, 122, 123, 124, 125] (by decide +kernel) (by decide +kernel)
set_option maxRecDepth 20000 in
theorem gX6_goesOn_X6_takesRelation : GoodIn wsX6_goesOn (wsV RX6 52 RX6 yX6_takesRelation wsX6_takesRelation) := goodIn_app (goodIn_of _ (by decide +kernel)) ggX6_goesOn_X6_takesRelation
set_option maxRecDepth 20000 in
theorem ggX6_goesOn_X6_takesFigure : GoodIn wsX6_goesOn wsX6_takesFigure := goodIn_r _ [106, 7, 107, 1, 117, 118, 119, 120, 121, 122, 123, 124, 125] (by decide +kernel) (by decide +kernel)
set_option maxRecDepth 20000 in
theorem gX6_goesOn_X6_takesFigure : GoodIn wsX6_goesOn (wsV RX6 55 RX6 yX6_takesFigure wsX6_takesFigure) := goodIn_app (goodIn_of _ (by decide +kernel)) ggX6_goesOn_X6_takesFigure
set_option maxRecDepth 20000 in
theorem ggX6_goesOn_X6_takesSecondFigure : GoodIn wsX6_goesOn wsX6_takesSecondFigure := goodIn_r _ [111, 7, 107, 1, 117, 118, 119, 120, 121, 122, 123, 124, 125] (by decide +kernel) (by decide +kernel)
set_option maxRecDepth 20000 in
theorem gX6_goesOn_X6_takesSecondFigure : GoodIn wsX6_goesOn (wsV RX6 58 RX6 yX6_takesSecondFigure wsX6_takesSecondFigure) := goodIn_app (goodIn_of _ (by decide +kernel)) ggX6_goesOn_X6_takesSecondFigure
set_option maxRecDepth 20000 in
theorem ggX6_goesOn_X6_takesJoint : GoodIn wsX6_goesOn wsX6_takesJoint := goodIn_r _ [115, 7, 116, 1, 117, 118, 119, 120, 121, 122, 123, 124, 125] (by decide +kernel) (by decide +kernel)
set_option maxRecDepth 20000 in
theorem gX6_goesOn_X6_takesJoint : GoodIn wsX6_goesOn (wsV RX6 61 RX6 yX6_takesJoint wsX6_takesJoint) := goodIn_app (goodIn_of _ (by decide +kernel)) ggX6_goesOn_X6_takesJoint
set_option maxRecDepth 20000 in
theorem ggX6_takesLetter_J0_indexOf_0f7a4 : GoodIn wsX6_takesLetter wsJ0_indexOf_0f7a4 := goodIn_r _ [8, 9, 10, 11, 7, 12, 13, 14, 15, 16, 17, 18, 19, 20, 21, 22, 23, 24, 25, 26, 27, 28, 29, 30, 31, 32, 33, 34, 35, 36, 37, 38, 39, 40, 41, 42, 43, 44, 45, 46, 47, 48, 49, 50, 51, 52, 53, 54, 55, 56, 57, 58, 59, 60, 61, 62, 63, 64, 65, 66, 67, 68, 69, 70, 71, 72, 73, 74, 75, 76, 77, 78, 79, 80, 81, 82, 83, 84, 85, 86, 87, 88, 89, 90, 91, 92] (by decide +kernel) (by decide +kernel)
set_option maxRecDepth 20000 in
theorem gX6_takesLetter_J0_indexOf_0f7a4 : GoodIn wsX6_takesLetter (wsV RX6 66 RJ0 yJ0_indexOf_0f7a4 wsJ0_indexOf_0f7a4) := goodIn_app (goodIn_of _ (by decide +kernel)) ggX6_takesLetter_J0_indexOf_0f7a4
set_option maxRecDepth 20000 in
theorem ggX6_hold_X3_measure : GoodIn wsX6_hold wsX3_measure := goodIn_r _ [8, 9, 10, 11, 12, 13, 14, 15, 16, 17, 18, 19, 20, 21, 7, 22, 23, 24, 25, 26, 27, 28, 29, 30, 31, 32, 33, 34, 35, 36] (by decide +kernel) (by decide +kernel)
set_option maxRecDepth 20000 in
theorem gX6_hold_X3_measure : GoodIn wsX6_hold (va_wsS RX6 72 yX3_measure wsX3_measure) := goodIn_app (goodIn_of _ (by decide +kernel)) ggX6_hold_X3_measure
set_option maxRecDepth 20000 in
theorem ggX6_hold_X6_isDone : GoodIn wsX6_hold wsX6_isDone := goodIn_r _ [41, 4, 3, 42, 43, 44, 45, 46, 47, 48, 49, 50, 51, 52] (by decide +kernel) (by decide +kernel)
set_option maxRecDepth 20000 in
theorem gX6_hold_X6_isDone : GoodIn wsX6_hold (wsV RX6 78 RX6 yX6_isDone wsX6_isDone) := goodIn_app (goodIn_of _ (by decide +kernel)) ggX6_hold_X6_isDone
set_option maxRecDepth 20000 in
theorem ggX8_learn_X6_hold : GoodIn wsX8_learn wsX6_hold := goodIn_r _ [7, 8, 9, 10, 11, 12, 13, 14, 15, 16, 17, 18, 19, 20, 21, 22, 23, 24, 25, 26, 27, 28, 29, 30, 31, 32, 33, 34, 35, 36, 37, 38, 39, 40, 41, 42, 43, 44, 45, 46, 6, 47, 48, 49, 53, 54, 55, 56, 57, 58, 59, 60, 61] (by decide +kernel) (by decide +kernel)
set_option maxRecDepth 20000 in
theorem gX8_learn_X6_hold : GoodIn wsX8_learn (wsV RX8 20 RX6 yX6_hold wsX6_hold) := goodIn_app (goodIn_of _ (by decide +kernel)) ggX8_learn_X6_hold
set_option maxRecDepth 20000 in
theorem ggX8_learn_J6_bitCount_0f7a4 : GoodIn wsX8_learn wsJ6_bitCount_0f7a4 := goodIn_r _ [23, 24, 25, 26] (by decide +kernel) (by decide +kernel)
set_option maxRecDepth 20000 in
theorem gX8_learn_J6_bitCount_0f7a4 : GoodIn wsX8_learn (va_wsS RX8 26 yJ6_bitCount_0f7a4 wsJ6_bitCount_0f7a4) := goodIn_app (goodIn_of _ (by decide +kernel)) ggX8_learn_J6_bitCount_0f7a4
set_option maxRecDepth 20000 in
theorem ggX9_sharePart_X1_power : GoodIn wsX9_sharePart wsX1_power := goodIn_r _ [5] (by decide +kernel) (by decide +kernel)
set_option maxRecDepth 20000 in
theorem gX9_sharePart_X1_power : GoodIn wsX9_sharePart (va_wsS RX9 9 yX1_power wsX1_power) := goodIn_app (goodIn_of _ (by decide +kernel)) ggX9_sharePart_X1_power
set_option maxRecDepth 20000 in
theorem ggX9_sharePart_X1_part : GoodIn wsX9_sharePart wsX1_part := goodIn_r _ [8, 9, 10, 4, 11] (by decide +kernel) (by decide +kernel)
set_option maxRecDepth 20000 in
theorem gX9_sharePart_X1_part : GoodIn wsX9_sharePart (va_wsS RX9 17 yX1_part wsX1_part) := goodIn_app (goodIn_of _ (by decide +kernel)) ggX9_sharePart_X1_part
set_option maxRecDepth 20000 in
theorem ggX10_init_X5_init : GoodIn wsX10_init wsX5_init := goodIn_r _ [28, 29, 2, 3] (by decide +kernel) (by decide +kernel)
set_option maxRecDepth 20000 in
theorem gX10_init_X5_init_n15 : GoodIn wsX10_init (wsX5_init) := ggX10_init_X5_init
set_option maxRecDepth 20000 in
theorem ggX10_init_X7_init : GoodIn wsX10_init wsX7_init := goodIn_r _ [32, 33, 2, 3, 34, 35, 36, 71, 72, 73, 74] (by decide +kernel) (by decide +kernel)
set_option maxRecDepth 20000 in
theorem gX10_init_X7_init : GoodIn wsX10_init (wsX7_init) := ggX10_init_X7_init
set_option maxRecDepth 20000 in
theorem ggX10_init_X6_init : GoodIn wsX10_init wsX6_init := goodIn_r _ [39, 40, 2, 3, 34, 41, 42, 43, 44, 45, 46, 47, 75, 76, 77, 78, 79, 80, 81, 82, 83] (by decide +kernel) (by decide +kernel)
set_option maxRecDepth 20000 in
theorem gX10_init_X6_init : GoodIn wsX10_init (wsX6_init) := ggX10_init_X6_init
set_option maxRecDepth 20000 in
theorem ggX10_init_X8_init : GoodIn wsX10_init wsX8_init := goodIn_r _ [50, 51, 2, 3, 52, 34, 53, 44, 54, 84, 85] (by decide +kernel) (by decide +kernel)
set_option maxRecDepth 20000 in
theorem gX10_init_X8_init : GoodIn wsX10_init (wsX8_init) := ggX10_init_X8_init
set_option maxRecDepth 20000 in
theorem ggX10_init_X0_init : GoodIn wsX10_init wsX0_init := goodIn_r _ [57, 58, 2, 3, 34, 59, 86, 87, 88] (by decide +kernel) (by decide +kernel)
set_option maxRecDepth 20000 in
theorem gX10_init_X0_init : GoodIn wsX10_init (wsX0_init) := ggX10_init_X0_init
set_option maxRecDepth 20000 in
theorem ggX10_sign_X10_isRow : GoodIn wsX10_sign wsX10_isRow := goodIn_r _ [6] (by decide +kernel) (by decide +kernel)
set_option maxRecDepth 20000 in
theorem gX10_sign_X10_isRow : GoodIn wsX10_sign (va_wsS RX10 54 yX10_isRow wsX10_isRow) := goodIn_app (goodIn_of _ (by decide +kernel)) ggX10_sign_X10_isRow
set_option maxRecDepth 20000 in
theorem ggX10_sign_X5_maySee : GoodIn wsX10_sign wsX5_maySee := goodIn_r _ [10] (by decide +kernel) (by decide +kernel)
set_option maxRecDepth 20000 in
theorem gX10_sign_X5_maySee : GoodIn wsX10_sign (va_wsS RX10 58 yX5_maySee wsX5_maySee) := goodIn_app (goodIn_of _ (by decide +kernel)) ggX10_sign_X5_maySee
set_option maxRecDepth 20000 in
theorem ggX10_sign_X5_isFull : GoodIn wsX10_sign wsX5_isFull := goodIn_r _ [14, 15, 30, 31, 32] (by decide +kernel) (by decide +kernel)
set_option maxRecDepth 20000 in
theorem gX10_sign_X5_isFull : GoodIn wsX10_sign (wsV RX10 61 RX5 yX5_isFull wsX5_isFull) := goodIn_app (goodIn_of _ (by decide +kernel)) ggX10_sign_X5_isFull
set_option maxRecDepth 20000 in
theorem ggX10_sign_X5_append : GoodIn wsX10_sign wsX5_append := goodIn_r _ [19, 20, 21, 15, 30, 31, 32] (by decide +kernel) (by decide +kernel)
set_option maxRecDepth 20000 in
theorem gX10_sign_X5_append : GoodIn wsX10_sign (wsV RX10 65 RX5 yX5_append wsX5_append) := goodIn_app (goodIn_of _ (by decide +kernel)) ggX10_sign_X5_append
set_option maxRecDepth 20000 in
theorem ggX10_read_X10_isSheet : GoodIn wsX10_read wsX10_isSheet := goodIn_r _ [9] (by decide +kernel) (by decide +kernel)
set_option maxRecDepth 20000 in
theorem gX10_read_X10_isSheet : GoodIn wsX10_read (va_wsS RX10 72 yX10_isSheet wsX10_isSheet) := goodIn_app (goodIn_of _ (by decide +kernel)) ggX10_read_X10_isSheet
set_option maxRecDepth 20000 in
theorem ggX10_read_X10_isRow : GoodIn wsX10_read wsX10_isRow := goodIn_r _ [12] (by decide +kernel) (by decide +kernel)
set_option maxRecDepth 20000 in
theorem gX10_read_X10_isRow : GoodIn wsX10_read (va_wsS RX10 54 yX10_isRow wsX10_isRow) := goodIn_app (goodIn_of _ (by decide +kernel)) ggX10_read_X10_isRow
set_option maxRecDepth 20000 in
theorem ggX10_read_X10_found : GoodIn wsX10_read wsX10_found := goodIn_r _ [16, 17, 33, 34, 35, 36, 37, 38, 39, 40] (by decide +kernel) (by decide +kernel)
set_option maxRecDepth 20000 in
theorem gX10_read_X10_found : GoodIn wsX10_read (wsV RX10 79 RX10 yX10_found wsX10_found) := goodIn_app (goodIn_of _ (by decide +kernel)) ggX10_read_X10_found
set_option maxRecDepth 20000 in
theorem ggX10_read_X5_isFull : GoodIn wsX10_read wsX5_isFull := goodIn_r _ [22, 23, 45, 46, 47] (by decide +kernel) (by decide +kernel)
set_option maxRecDepth 20000 in
theorem gX10_read_X5_isFull : GoodIn wsX10_read (wsV RX10 61 RX5 yX5_isFull wsX5_isFull) := goodIn_app (goodIn_of _ (by decide +kernel)) ggX10_read_X5_isFull
set_option maxRecDepth 20000 in
theorem ggX10_read_X5_maySee : GoodIn wsX10_read wsX5_maySee := goodIn_r _ [26] (by decide +kernel) (by decide +kernel)
set_option maxRecDepth 20000 in
theorem gX10_read_X5_maySee : GoodIn wsX10_read (va_wsS RX10 58 yX5_maySee wsX5_maySee) := goodIn_app (goodIn_of _ (by decide +kernel)) ggX10_read_X5_maySee
set_option maxRecDepth 20000 in
theorem ggX10_read_X5_append : GoodIn wsX10_read wsX5_append := goodIn_r _ [30, 31, 32, 23, 45, 46, 47] (by decide +kernel) (by decide +kernel)
set_option maxRecDepth 20000 in
theorem gX10_read_X5_append : GoodIn wsX10_read (wsV RX10 65 RX5 yX5_append wsX5_append) := goodIn_app (goodIn_of _ (by decide +kernel)) ggX10_read_X5_append
set_option maxRecDepth 20000 in
theorem ggX10_clear_X10_isRow : GoodIn wsX10_clear wsX10_isRow := goodIn_r _ [6] (by decide +kernel) (by decide +kernel)
set_option maxRecDepth 20000 in
theorem gX10_clear_X10_isRow : GoodIn wsX10_clear (va_wsS RX10 54 yX10_isRow wsX10_isRow) := goodIn_app (goodIn_of _ (by decide +kernel)) ggX10_clear_X10_isRow
set_option maxRecDepth 20000 in
theorem ggX10_clear_X5_empty : GoodIn wsX10_clear wsX5_empty := goodIn_r _ [11, 12, 13, 14, 23, 24, 25] (by decide +kernel) (by decide +kernel)
set_option maxRecDepth 20000 in
theorem gX10_clear_X5_empty : GoodIn wsX10_clear (wsV RX10 90 RX5 yX5_empty wsX5_empty) := goodIn_app (goodIn_of _ (by decide +kernel)) ggX10_clear_X5_empty
set_option maxRecDepth 20000 in
theorem ggX10_at_X10_isRow : GoodIn wsX10_at wsX10_isRow := goodIn_r _ [6] (by decide +kernel) (by decide +kernel)
set_option maxRecDepth 20000 in
theorem gX10_at_X10_isRow : GoodIn wsX10_at (va_wsS RX10 54 yX10_isRow wsX10_isRow) := goodIn_app (goodIn_of _ (by decide +kernel)) ggX10_at_X10_isRow
set_option maxRecDepth 20000 in
theorem ggX10_at_X5_signAt : GoodIn wsX10_at wsX5_signAt := goodIn_r _ [11, 12, 13, 14, 23, 24, 25] (by decide +kernel) (by decide +kernel)
set_option maxRecDepth 20000 in
theorem gX10_at_X5_signAt : GoodIn wsX10_at (wsV RX10 93 RX5 yX5_signAt wsX5_signAt) := goodIn_app (goodIn_of _ (by decide +kernel)) ggX10_at_X5_signAt
set_option maxRecDepth 20000 in
theorem ggX10_set_X8_forget : GoodIn wsX10_set wsX8_forget := goodIn_r _ [8, 9, 18, 19] (by decide +kernel) (by decide +kernel)
set_option maxRecDepth 20000 in
theorem gX10_set_X8_forget : GoodIn wsX10_set (wsV RX10 96 RX8 yX8_forget wsX8_forget) := goodIn_app (goodIn_of _ (by decide +kernel)) ggX10_set_X8_forget
set_option maxRecDepth 20000 in
theorem ggX10_shows_X10_isRow : GoodIn wsX10_shows wsX10_isRow := goodIn_r _ [5] (by decide +kernel) (by decide +kernel)
set_option maxRecDepth 20000 in
theorem gX10_shows_X10_isRow : GoodIn wsX10_shows (va_wsS RX10 54 yX10_isRow wsX10_isRow) := goodIn_app (goodIn_of _ (by decide +kernel)) ggX10_shows_X10_isRow
set_option maxRecDepth 20000 in
theorem ggX10_shows_X10_isNumber : GoodIn wsX10_shows wsX10_isNumber := goodIn_r _ [8] (by decide +kernel) (by decide +kernel)
set_option maxRecDepth 20000 in
theorem gX10_shows_X10_isNumber : GoodIn wsX10_shows (va_wsS RX10 99 yX10_isNumber wsX10_isNumber) := goodIn_app (goodIn_of _ (by decide +kernel)) ggX10_shows_X10_isNumber
set_option maxRecDepth 20000 in
theorem ggX10_shows_X5_isWhole : GoodIn wsX10_shows wsX5_isWhole := goodIn_r _ [13, 14, 62, 63, 64] (by decide +kernel) (by decide +kernel)
set_option maxRecDepth 20000 in
theorem gX10_shows_X5_isWhole : GoodIn wsX10_shows (wsV RX10 102 RX5 yX5_isWhole wsX5_isWhole) := goodIn_app (goodIn_of _ (by decide +kernel)) ggX10_shows_X5_isWhole
set_option maxRecDepth 20000 in
theorem ggX10_shows_X10_numberOf : GoodIn wsX10_shows wsX10_numberOf := goodIn_r _ [18, 19, 20, 21, 22, 23, 24, 25, 26, 27, 28, 29, 30, 31, 32, 33, 34, 35, 36, 37, 38, 39, 40, 41, 42, 43, 44, 45, 46, 47, 48, 49, 50, 51, 52, 53, 62, 63, 64, 54, 55, 56, 57, 58, 59, 60, 61] (by decide +kernel) (by decide +kernel)
set_option maxRecDepth 20000 in
theorem gX10_shows_X10_numberOf : GoodIn wsX10_shows (wsV RX10 105 RX10 yX10_numberOf wsX10_numberOf) := goodIn_app (goodIn_of _ (by decide +kernel)) ggX10_shows_X10_numberOf
set_option maxRecDepth 20000 in
theorem ggX10_type_X6_append : GoodIn wsX10_type wsX6_append := goodIn_r _ [8, 9, 10, 11, 12, 13, 7, 14, 15, 16, 17, 18, 19, 20, 21, 22, 23, 24, 25, 26, 27, 28, 29, 30, 31, 32, 33, 34, 35, 36, 37, 38, 39, 40, 41, 42, 43, 44, 45, 46, 47, 48, 49, 50, 51, 52, 53, 54, 55, 56, 57, 58, 59, 60, 61, 62, 63, 64, 65, 66, 67, 68, 69, 70, 71, 72, 73, 74, 75, 76, 77, 78, 79, 80, 81, 82, 83, 84, 85, 86, 87, 88, 89, 90, 91, 92, 93, 94, 95, 96, 97, 98, 99, 100, 101, 102, 103, 104, 105, 106, 107, 108, 109, 110, 111, 112, 113, 114, 115, 116, 117, 118, 119, 120, 121, 122, 123, 124, 125, 126, 127, 128, 129, 144, 145, 146, 147, 148, 149, 150, 151, 152] (by decide +kernel) (by decide +kernel)
set_option maxRecDepth 20000 in
theorem gX10_type_X6_append : GoodIn wsX10_type (wsV RX10 110 RX6 yX6_append wsX6_append) := goodIn_app (goodIn_of _ (by decide +kernel)) ggX10_type_X6_append
set_option maxRecDepth 20000 in
theorem ggX10_type_X8_forget : GoodIn wsX10_type wsX8_forget := goodIn_r _ [134, 135, 153, 154] (by decide +kernel) (by decide +kernel)
set_option maxRecDepth 20000 in
theorem gX10_type_X8_forget : GoodIn wsX10_type (wsV RX10 96 RX8 yX8_forget wsX8_forget) := goodIn_app (goodIn_of _ (by decide +kernel)) ggX10_type_X8_forget
set_option maxRecDepth 20000 in
theorem ggX10_wipe_X6_empty : GoodIn wsX10_wipe wsX6_empty := goodIn_r _ [8, 9, 10, 11, 12, 27, 28, 29, 30, 31, 32, 33, 34, 35] (by decide +kernel) (by decide +kernel)
set_option maxRecDepth 20000 in
theorem gX10_wipe_X6_empty : GoodIn wsX10_wipe (wsV RX10 111 RX6 yX6_empty wsX6_empty) := goodIn_app (goodIn_of _ (by decide +kernel)) ggX10_wipe_X6_empty
set_option maxRecDepth 20000 in
theorem ggX10_wipe_X8_forget : GoodIn wsX10_wipe wsX8_forget := goodIn_r _ [17, 18, 36, 37] (by decide +kernel) (by decide +kernel)
set_option maxRecDepth 20000 in
theorem gX10_wipe_X8_forget : GoodIn wsX10_wipe (wsV RX10 96 RX8 yX8_forget wsX8_forget) := goodIn_app (goodIn_of _ (by decide +kernel)) ggX10_wipe_X8_forget
set_option maxRecDepth 20000 in
theorem ggX10_fault_X6_faultPlace : GoodIn wsX10_fault wsX6_faultPlace := goodIn_r _ [6, 7, 8, 9, 18, 19, 20, 21, 22, 23, 24, 25, 26] (by decide +kernel) (by decide +kernel)
set_option maxRecDepth 20000 in
theorem gX10_fault_X6_faultPlace : GoodIn wsX10_fault (wsV RX10 112 RX6 yX6_faultPlace wsX6_faultPlace) := goodIn_app (goodIn_of _ (by decide +kernel)) ggX10_fault_X6_faultPlace
set_option maxRecDepth 20000 in
theorem ggX10_holds_X10_isRow : GoodIn wsX10_holds wsX10_isRow := goodIn_r _ [9] (by decide +kernel) (by decide +kernel)
set_option maxRecDepth 20000 in
theorem gX10_holds_X10_isRow : GoodIn wsX10_holds (va_wsS RX10 54 yX10_isRow wsX10_isRow) := goodIn_app (goodIn_of _ (by decide +kernel)) ggX10_holds_X10_isRow
set_option maxRecDepth 20000 in
theorem ggX10_holds_X5_isWhole : GoodIn wsX10_holds wsX5_isWhole := goodIn_r _ [14, 15, 82, 83, 84] (by decide +kernel) (by decide +kernel)
set_option maxRecDepth 20000 in
theorem gX10_holds_X5_isWhole : GoodIn wsX10_holds (wsV RX10 102 RX5 yX5_isWhole wsX5_isWhole) := goodIn_app (goodIn_of _ (by decide +kernel)) ggX10_holds_X5_isWhole
set_option maxRecDepth 20000 in
theorem ggX10_holds_X6_isFaulty : GoodIn wsX10_holds wsX6_isFaulty := goodIn_r _ [20, 21, 22, 23, 19, 24, 25, 26, 27, 85, 86, 87, 88, 89, 90, 91, 92, 93] (by decide +kernel) (by decide +kernel)
set_option maxRecDepth 20000 in
theorem gX10_holds_X6_isFaulty : GoodIn wsX10_holds (wsV RX10 116 RX6 yX6_isFaulty wsX6_isFaulty) := goodIn_app (goodIn_of _ (by decide +kernel)) ggX10_holds_X6_isFaulty
set_option maxRecDepth 20000 in
theorem ggX10_holds_X6_hold : GoodIn wsX10_holds wsX6_hold := goodIn_r _ [31, 32, 33, 34, 35, 36, 37, 38, 39, 40, 41, 42, 43, 44, 45, 46, 47, 48, 49, 50, 51, 52, 53, 54, 55, 56, 57, 58, 59, 60, 61, 62, 63, 64, 65, 66, 67, 68, 69, 70, 19, 71, 72, 73, 85, 86, 87, 88, 89, 90, 91, 92, 93] (by decide +kernel) (by decide +kernel)
set_option maxRecDepth 20000 in
theorem gX10_holds_X6_hold : GoodIn wsX10_holds (wsV RX10 122 RX6 yX6_hold wsX6_hold) := goodIn_app (goodIn_of _ (by decide +kernel)) ggX10_holds_X6_hold
set_option maxRecDepth 20000 in
theorem ggX10_shown_X10_isLength : GoodIn wsX10_shown wsX10_isLength := goodIn_r _ [8] (by decide +kernel) (by decide +kernel)
set_option maxRecDepth 20000 in
theorem gX10_shown_X10_isLength : GoodIn wsX10_shown (va_wsS RX10 126 yX10_isLength wsX10_isLength) := goodIn_app (goodIn_of _ (by decide +kernel)) ggX10_shown_X10_isLength
set_option maxRecDepth 20000 in
theorem ggX10_shown_X6_isFaulty : GoodIn wsX10_shown wsX6_isFaulty := goodIn_r _ [13, 14, 15, 16, 12, 17, 18, 19, 20, 89, 90, 91, 92, 93, 94, 95, 96, 97] (by decide +kernel) (by decide +kernel)
set_option maxRecDepth 20000 in
theorem gX10_shown_X6_isFaulty : GoodIn wsX10_shown (wsV RX10 116 RX6 yX6_isFaulty wsX6_isFaulty) := goodIn_app (goodIn_of _ (by decide +kernel)) ggX10_shown_X6_isFaulty
set_option maxRecDepth 20000 in
theorem ggX10_shown_X8_learn : GoodIn wsX10_shown wsX8_learn := goodIn_r _ [25, 26, 27, 28, 29, 30, 12, 31, 32, 33, 34, 35, 36, 37, 38, 39, 40, 41, 42, 43, 44, 45, 46, 47, 48, 49, 50, 51, 52, 53, 54, 55, 56, 57, 58, 59, 60, 61, 62, 63, 64, 65, 66, 67, 68, 69, 70, 71, 72, 73, 74, 87, 88, 89, 90, 91, 92, 93, 94, 95, 96, 97] (by decide +kernel) (by decide +kernel)
set_option maxRecDepth 20000 in
theorem gX10_shown_X8_learn : GoodIn wsX10_shown (wsV RX10 129 RX8 yX8_learn wsX8_learn) := goodIn_app (goodIn_of _ (by decide +kernel)) ggX10_shown_X8_learn
set_option maxRecDepth 20000 in
theorem ggX10_shown_X9_sum : GoodIn wsX10_shown wsX9_sum := goodIn_r _ [78] (by decide +kernel) (by decide +kernel)
set_option maxRecDepth 20000 in
theorem gX10_shown_X9_sum : GoodIn wsX10_shown (va_wsS RX10 137 yX9_sum wsX9_sum) := goodIn_app (goodIn_of _ (by decide +kernel)) ggX10_shown_X9_sum
set_option maxRecDepth 20000 in
theorem ggX10_nth_X10_isLength : GoodIn wsX10_nth wsX10_isLength := goodIn_r _ [6] (by decide +kernel) (by decide +kernel)
set_option maxRecDepth 20000 in
theorem gX10_nth_X10_isLength : GoodIn wsX10_nth (va_wsS RX10 126 yX10_isLength wsX10_isLength) := goodIn_app (goodIn_of _ (by decide +kernel)) ggX10_nth_X10_isLength
set_option maxRecDepth 20000 in
theorem ggX10_nth_X6_isFaulty : GoodIn wsX10_nth wsX6_isFaulty := goodIn_r _ [11, 12, 13, 14, 10, 15, 16, 17, 18, 73, 74, 75, 76, 77, 78, 79, 80, 81] (by decide +kernel) (by decide +kernel)
set_option maxRecDepth 20000 in
theorem gX10_nth_X6_isFaulty : GoodIn wsX10_nth (wsV RX10 116 RX6 yX6_isFaulty wsX6_isFaulty) := goodIn_app (goodIn_of _ (by decide +kernel)) ggX10_nth_X6_isFaulty
set_option maxRecDepth 20000 in
theorem ggX10_nth_X6_hold : GoodIn wsX10_nth wsX6_hold := goodIn_r _ [22, 23, 24, 25, 26, 27, 28, 29, 30, 31, 32, 33, 34, 35, 36, 37, 38, 39, 40, 41, 42, 43, 44, 45, 46, 47, 48, 49, 50, 51, 52, 53, 54, 55, 56, 57, 58, 59, 60, 61, 10, 62, 63, 64, 73, 74, 75, 76, 77, 78, 79, 80, 81] (by decide +kernel) (by decide +kernel)
set_option maxRecDepth 20000 in
theorem gX10_nth_X6_hold : GoodIn wsX10_nth (wsV RX10 122 RX6 yX6_hold wsX6_hold) := goodIn_app (goodIn_of _ (by decide +kernel)) ggX10_nth_X6_hold
set_option maxRecDepth 20000 in
theorem ggX10_share_X10_isLength : GoodIn wsX10_share wsX10_isLength := goodIn_r _ [9] (by decide +kernel) (by decide +kernel)
set_option maxRecDepth 20000 in
theorem gX10_share_X10_isLength : GoodIn wsX10_share (va_wsS RX10 126 yX10_isLength wsX10_isLength) := goodIn_app (goodIn_of _ (by decide +kernel)) ggX10_share_X10_isLength
set_option maxRecDepth 20000 in
theorem ggX10_share_X10_isPart : GoodIn wsX10_share wsX10_isPart := goodIn_r _ [12] (by decide +kernel) (by decide +kernel)
set_option maxRecDepth 20000 in
theorem gX10_share_X10_isPart : GoodIn wsX10_share (va_wsS RX10 143 yX10_isPart wsX10_isPart) := goodIn_app (goodIn_of _ (by decide +kernel)) ggX10_share_X10_isPart
set_option maxRecDepth 20000 in
theorem ggX10_share_X10_refusal : GoodIn wsX10_share wsX10_refusal := goodIn_r _ [15, 16] (by decide +kernel) (by decide +kernel)
set_option maxRecDepth 20000 in
theorem gX10_share_X10_refusal : GoodIn wsX10_share (va_wsS RX10 146 yX10_refusal wsX10_refusal) := goodIn_app (goodIn_of _ (by decide +kernel)) ggX10_share_X10_refusal
set_option maxRecDepth 20000 in
theorem ggX10_share_X6_isFaulty : GoodIn wsX10_share wsX6_isFaulty := goodIn_r _ [21, 22, 23, 24, 20, 25, 26, 27, 28, 108, 109, 110, 111, 112, 113, 114, 115, 116] (by decide +kernel) (by decide +kernel)
set_option maxRecDepth 20000 in
theorem gX10_share_X6_isFaulty : GoodIn wsX10_share (wsV RX10 116 RX6 yX6_isFaulty wsX6_isFaulty) := goodIn_app (goodIn_of _ (by decide +kernel)) ggX10_share_X6_isFaulty
set_option maxRecDepth 20000 in
theorem ggX10_share_X8_learn : GoodIn wsX10_share wsX8_learn := goodIn_r _ [33, 34, 35, 36, 37, 38, 20, 39, 40, 41, 42, 43, 44, 45, 46, 47, 48, 49, 50, 51, 52, 53, 54, 55, 56, 57, 58, 59, 60, 61, 62, 63, 64, 65, 66, 67, 68, 69, 70, 71, 72, 73, 74, 75, 76, 77, 78, 79, 80, 81, 82, 106, 107, 108, 109, 110, 111, 112, 113, 114, 115, 116] (by decide +kernel) (by decide +kernel)
set_option maxRecDepth 20000 in
theorem gX10_share_X8_learn : GoodIn wsX10_share (wsV RX10 129 RX8 yX8_learn wsX8_learn) := goodIn_app (goodIn_of _ (by decide +kernel)) ggX10_share_X8_learn
set_option maxRecDepth 20000 in
theorem ggX10_share_X9_sharePart : GoodIn wsX10_share wsX9_sharePart := goodIn_r _ [86, 87, 88, 89, 90, 91, 92, 93, 94, 95, 96, 97] (by decide +kernel) (by decide +kernel)
set_option maxRecDepth 20000 in
theorem gX10_share_X9_sharePart : GoodIn wsX10_share (va_wsS RX10 150 yX9_sharePart wsX9_sharePart) := goodIn_app (goodIn_of _ (by decide +kernel)) ggX10_share_X9_sharePart
set_option maxRecDepth 20000 in
theorem ggX10_fills_X10_isRow : GoodIn wsX10_fills wsX10_isRow := goodIn_r _ [10] (by decide +kernel) (by decide +kernel)
set_option maxRecDepth 20000 in
theorem gX10_fills_X10_isRow : GoodIn wsX10_fills (va_wsS RX10 54 yX10_isRow wsX10_isRow) := goodIn_app (goodIn_of _ (by decide +kernel)) ggX10_fills_X10_isRow
set_option maxRecDepth 20000 in
theorem ggX10_fills_X10_isPart : GoodIn wsX10_fills wsX10_isPart := goodIn_r _ [13] (by decide +kernel) (by decide +kernel)
set_option maxRecDepth 20000 in
theorem gX10_fills_X10_isPart : GoodIn wsX10_fills (va_wsS RX10 143 yX10_isPart wsX10_isPart) := goodIn_app (goodIn_of _ (by decide +kernel)) ggX10_fills_X10_isPart
set_option maxRecDepth 20000 in
theorem ggX10_fills_J6_bitCount_0f7a4 : GoodIn wsX10_fills wsJ6_bitCount_0f7a4 := goodIn_r _ [17, 18, 19, 20] (by decide +kernel) (by decide +kernel)
set_option maxRecDepth 20000 in
theorem gX10_fills_J6_bitCount_0f7a4 : GoodIn wsX10_fills (va_wsS RX10 157 yJ6_bitCount_0f7a4 wsJ6_bitCount_0f7a4) := goodIn_app (goodIn_of _ (by decide +kernel)) ggX10_fills_J6_bitCount_0f7a4
set_option maxRecDepth 20000 in
theorem ggX10_fills_X6_isFaulty : GoodIn wsX10_fills wsX6_isFaulty := goodIn_r _ [25, 26, 27, 28, 24, 29, 30, 31, 32, 103, 104, 105, 106, 107, 108, 109, 110, 111] (by decide +kernel) (by decide +kernel)
set_option maxRecDepth 20000 in
theorem gX10_fills_X6_isFaulty : GoodIn wsX10_fills (wsV RX10 116 RX6 yX6_isFaulty wsX6_isFaulty) := goodIn_app (goodIn_of _ (by decide +kernel)) ggX10_fills_X6_isFaulty
set_option maxRecDepth 20000 in
theorem ggX10_fills_X0_learn : GoodIn wsX10_fills wsX0_learn := goodIn_r _ [37, 38, 39, 40, 41, 42, 43, 44, 15, 16, 17, 18, 19, 20, 45, 46, 47, 24, 48, 49, 50, 51, 52, 53, 54, 55, 56, 57, 58, 59, 60, 61, 62, 63, 64, 65, 66, 67, 68, 69, 70, 71, 72, 73, 74, 75, 76, 77, 78, 79, 80, 81, 82, 83, 84, 100, 101, 102, 97, 98, 99, 103, 104, 105, 106, 107, 108, 109, 110, 111] (by decide +kernel) (by decide +kernel)
set_option maxRecDepth 20000 in
theorem gX10_fills_X0_learn : GoodIn wsX10_fills (wsV RX10 162 RX0 yX0_learn wsX0_learn) := goodIn_app (goodIn_of _ (by decide +kernel)) ggX10_fills_X0_learn
set_option maxRecDepth 20000 in
theorem ggX10_fills_X9_sum : GoodIn wsX10_fills wsX9_sum := goodIn_r _ [88] (by decide +kernel) (by decide +kernel)
set_option maxRecDepth 20000 in
theorem gX10_fills_X9_sum : GoodIn wsX10_fills (va_wsS RX10 137 yX9_sum wsX9_sum) := goodIn_app (goodIn_of _ (by decide +kernel)) ggX10_fills_X9_sum
set_option maxRecDepth 20000 in
theorem ggX10_filled_X10_isRow : GoodIn wsX10_filled wsX10_isRow := goodIn_r _ [11] (by decide +kernel) (by decide +kernel)
set_option maxRecDepth 20000 in
theorem gX10_filled_X10_isRow : GoodIn wsX10_filled (va_wsS RX10 54 yX10_isRow wsX10_isRow) := goodIn_app (goodIn_of _ (by decide +kernel)) ggX10_filled_X10_isRow
set_option maxRecDepth 20000 in
theorem ggX10_filled_X10_isPart : GoodIn wsX10_filled wsX10_isPart := goodIn_r _ [14] (by decide +kernel) (by decide +kernel)
set_option maxRecDepth 20000 in
theorem gX10_filled_X10_isPart : GoodIn wsX10_filled (va_wsS RX10 143 yX10_isPart wsX10_isPart) := goodIn_app (goodIn_of _ (by decide +kernel)) ggX10_filled_X10_isPart
set_option maxRecDepth 20000 in
theorem ggX10_filled_X10_refusal : GoodIn wsX10_filled wsX10_refusal := goodIn_r _ [17, 18] (by decide +kernel) (by decide +kernel)
set_option maxRecDepth 20000 in
theorem gX10_filled_X10_refusal : GoodIn wsX10_filled (va_wsS RX10 146 yX10_refusal wsX10_refusal) := goodIn_app (goodIn_of _ (by decide +kernel)) ggX10_filled_X10_refusal
set_option maxRecDepth 20000 in
theorem ggX10_filled_X6_isFaulty : GoodIn wsX10_filled wsX6_isFaulty := goodIn_r _ [23, 24, 25, 26, 22, 27, 28, 29, 30, 119, 120, 121, 122, 123, 124, 125, 126, 127] (by decide +kernel) (by decide +kernel)
set_option maxRecDepth 20000 in
theorem gX10_filled_X6_isFaulty : GoodIn wsX10_filled (wsV RX10 116 RX6 yX6_isFaulty wsX6_isFaulty) := goodIn_app (goodIn_of _ (by decide +kernel)) ggX10_filled_X6_isFaulty
set_option maxRecDepth 20000 in
theorem ggX10_filled_X0_learn : GoodIn wsX10_filled wsX0_learn := goodIn_r _ [35, 36, 37, 38, 39, 40, 41, 42, 43, 44, 45, 46, 47, 48, 49, 50, 51, 22, 52, 53, 54, 55, 56, 57, 58, 59, 60, 61, 62, 63, 64, 65, 66, 67, 68, 69, 70, 71, 72, 73, 74, 75, 76, 77, 78, 79, 80, 81, 82, 83, 84, 85, 86, 87, 88, 113, 114, 115, 116, 117, 118, 119, 120, 121, 122, 123, 124, 125, 126, 127] (by decide +kernel) (by decide +kernel)
set_option maxRecDepth 20000 in
theorem gX10_filled_X0_learn : GoodIn wsX10_filled (wsV RX10 162 RX0 yX0_learn wsX0_learn) := goodIn_app (goodIn_of _ (by decide +kernel)) ggX10_filled_X0_learn
set_option maxRecDepth 20000 in
theorem ggX10_filled_J6_bitCount_0f7a4 : GoodIn wsX10_filled wsJ6_bitCount_0f7a4 := goodIn_r _ [45, 46, 47, 48] (by decide +kernel) (by decide +kernel)
set_option maxRecDepth 20000 in
theorem gX10_filled_J6_bitCount_0f7a4 : GoodIn wsX10_filled (va_wsS RX10 157 yJ6_bitCount_0f7a4 wsJ6_bitCount_0f7a4) := goodIn_app (goodIn_of _ (by decide +kernel)) ggX10_filled_J6_bitCount_0f7a4
set_option maxRecDepth 20000 in
theorem ggX10_filled_X9_sharePart : GoodIn wsX10_filled wsX9_sharePart := goodIn_r _ [93, 94, 95, 96, 97, 98, 99, 100, 101, 102, 103, 104] (by decide +kernel) (by decide +kernel)
set_option maxRecDepth 20000 in
theorem gX10_filled_X9_sharePart : GoodIn wsX10_filled (va_wsS RX10 150 yX9_sharePart wsX9_sharePart) := goodIn_app (goodIn_of _ (by decide +kernel)) ggX10_filled_X9_sharePart
set_option maxRecDepth 20000 in
theorem ggX10_sure_X10_isRow : GoodIn wsX10_sure wsX10_isRow := goodIn_r _ [12] (by decide +kernel) (by decide +kernel)
set_option maxRecDepth 20000 in
theorem gX10_sure_X10_isRow : GoodIn wsX10_sure (va_wsS RX10 54 yX10_isRow wsX10_isRow) := goodIn_app (goodIn_of _ (by decide +kernel)) ggX10_sure_X10_isRow
set_option maxRecDepth 20000 in
theorem ggX10_sure_X6_isFaulty : GoodIn wsX10_sure wsX6_isFaulty := goodIn_r _ [17, 18, 19, 20, 16, 21, 22, 23, 24, 101, 102, 103, 104, 105, 106, 107, 108, 109] (by decide +kernel) (by decide +kernel)
set_option maxRecDepth 20000 in
theorem gX10_sure_X6_isFaulty : GoodIn wsX10_sure (wsV RX10 116 RX6 yX6_isFaulty wsX6_isFaulty) := goodIn_app (goodIn_of _ (by decide +kernel)) ggX10_sure_X6_isFaulty
set_option maxRecDepth 20000 in
theorem ggX10_sure_X0_learn : GoodIn wsX10_sure wsX0_learn := goodIn_r _ [29, 30, 31, 32, 33, 34, 35, 36, 37, 38, 39, 40, 41, 42, 43, 44, 45, 16, 46, 47, 48, 49, 50, 51, 52, 53, 54, 55, 56, 57, 58, 59, 60, 61, 62, 63, 64, 65, 66, 67, 68, 69, 70, 71, 72, 73, 74, 75, 76, 77, 78, 79, 80, 81, 82, 98, 99, 100, 95, 96, 97, 101, 102, 103, 104, 105, 106, 107, 108, 109] (by decide +kernel) (by decide +kernel)
set_option maxRecDepth 20000 in
theorem gX10_sure_X0_learn : GoodIn wsX10_sure (wsV RX10 162 RX0 yX0_learn wsX0_learn) := goodIn_app (goodIn_of _ (by decide +kernel)) ggX10_sure_X0_learn
set_option maxRecDepth 20000 in
theorem ggX10_sure_X9_sum : GoodIn wsX10_sure wsX9_sum := goodIn_r _ [86] (by decide +kernel) (by decide +kernel)
set_option maxRecDepth 20000 in
theorem gX10_sure_X9_sum : GoodIn wsX10_sure (va_wsS RX10 137 yX9_sum wsX9_sum) := goodIn_app (goodIn_of _ (by decide +kernel)) ggX10_sure_X9_sum
set_option maxRecDepth 20000 in
theorem ggX10_dealt_X10_isRow : GoodIn wsX10_dealt wsX10_isRow := goodIn_r _ [5] (by decide +kernel) (by decide +kernel)
set_option maxRecDepth 20000 in
theorem gX10_dealt_X10_isRow : GoodIn wsX10_dealt (va_wsS RX10 54 yX10_isRow wsX10_isRow) := goodIn_app (goodIn_of _ (by decide +kernel)) ggX10_dealt_X10_isRow
set_option maxRecDepth 20000 in
theorem ggX10_dealt_X10_isNumber : GoodIn wsX10_dealt wsX10_isNumber := goodIn_r _ [8] (by decide +kernel) (by decide +kernel)
set_option maxRecDepth 20000 in
theorem gX10_dealt_X10_isNumber : GoodIn wsX10_dealt (va_wsS RX10 99 yX10_isNumber wsX10_isNumber) := goodIn_app (goodIn_of _ (by decide +kernel)) ggX10_dealt_X10_isNumber
set_option maxRecDepth 20000 in
theorem ggX10_dealt_X5_isWhole : GoodIn wsX10_dealt wsX5_isWhole := goodIn_r _ [13, 14, 83, 84, 85] (by decide +kernel) (by decide +kernel)
set_option maxRecDepth 20000 in
theorem gX10_dealt_X5_isWhole : GoodIn wsX10_dealt (wsV RX10 102 RX5 yX5_isWhole wsX5_isWhole) := goodIn_app (goodIn_of _ (by decide +kernel)) ggX10_dealt_X5_isWhole
set_option maxRecDepth 20000 in
theorem ggX10_dealt_X10_dealtAsFar : GoodIn wsX10_dealt wsX10_dealtAsFar := goodIn_r _ [18, 19, 20, 21, 22, 23, 4, 24, 25, 26, 27, 28, 29, 30, 31, 32, 33, 34, 35, 36, 37, 38, 39, 40, 41, 42, 43, 44, 45, 46, 47, 48, 49, 50, 51, 52, 53, 54, 55, 56, 57, 58, 59, 60, 61, 62, 63, 64, 65, 66, 67, 68, 69, 70, 83, 84, 85, 75, 76, 77, 78, 79, 80, 81, 82] (by decide +kernel) (by decide +kernel)
set_option maxRecDepth 20000 in
theorem gX10_dealt_X10_dealtAsFar : GoodIn wsX10_dealt (wsV RX10 174 RX10 yX10_dealtAsFar wsX10_dealtAsFar) := goodIn_app (goodIn_of _ (by decide +kernel)) ggX10_dealt_X10_dealtAsFar
set_option maxRecDepth 20000 in
theorem ggX10_dealt_X2_howMany : GoodIn wsX10_dealt wsX2_howMany := goodIn_r _ [61, 62, 63, 64, 35, 36, 37, 38, 39, 40, 83, 84, 85] (by decide +kernel) (by decide +kernel)
set_option maxRecDepth 20000 in
theorem gX10_dealt_X2_howMany : GoodIn wsX10_dealt (va_wsS RX10 178 yX2_howMany wsX2_howMany) := goodIn_app (goodIn_of _ (by decide +kernel)) ggX10_dealt_X2_howMany
set_option maxRecDepth 20000 in
theorem ggX10_dealt_X10_millionths : GoodIn wsX10_dealt wsX10_millionths := goodIn_r _ [73, 74] (by decide +kernel) (by decide +kernel)
set_option maxRecDepth 20000 in
theorem gX10_dealt_X10_millionths : GoodIn wsX10_dealt (va_wsS RX10 184 yX10_millionths wsX10_millionths) := goodIn_app (goodIn_of _ (by decide +kernel)) ggX10_dealt_X10_millionths
set_option maxRecDepth 20000 in
theorem ggX10_strangest_X10_isRow : GoodIn wsX10_strangest wsX10_isRow := goodIn_r _ [6] (by decide +kernel) (by decide +kernel)
set_option maxRecDepth 20000 in
theorem gX10_strangest_X10_isRow : GoodIn wsX10_strangest (va_wsS RX10 54 yX10_isRow wsX10_isRow) := goodIn_app (goodIn_of _ (by decide +kernel)) ggX10_strangest_X10_isRow
set_option maxRecDepth 20000 in
theorem ggX10_strangest_X5_isWhole : GoodIn wsX10_strangest wsX5_isWhole := goodIn_r _ [11, 12, 76, 77, 78] (by decide +kernel) (by decide +kernel)
set_option maxRecDepth 20000 in
theorem gX10_strangest_X5_isWhole : GoodIn wsX10_strangest (wsV RX10 102 RX5 yX5_isWhole wsX5_isWhole) := goodIn_app (goodIn_of _ (by decide +kernel)) ggX10_strangest_X5_isWhole
set_option maxRecDepth 20000 in
theorem ggX10_strangest_X10_dealtAsFar : GoodIn wsX10_strangest wsX10_dealtAsFar := goodIn_r _ [16, 2, 17, 18, 19, 20, 5, 21, 22, 23, 24, 25, 26, 27, 28, 29, 30, 31, 32, 33, 34, 35, 36, 37, 38, 39, 40, 41, 42, 43, 44, 45, 46, 47, 48, 49, 50, 51, 52, 53, 54, 55, 56, 57, 58, 59, 60, 61, 62, 63, 64, 65, 66, 67, 76, 77, 78, 68, 69, 70, 71, 72, 73, 74, 75] (by decide +kernel) (by decide +kernel)
set_option maxRecDepth 20000 in
theorem gX10_strangest_X10_dealtAsFar : GoodIn wsX10_strangest (wsV RX10 174 RX10 yX10_dealtAsFar wsX10_dealtAsFar) := goodIn_app (goodIn_of _ (by decide +kernel)) ggX10_strangest_X10_dealtAsFar
set_option maxRecDepth 20000 in
theorem ggX10_hot_X10_isRow : GoodIn wsX10_hot wsX10_isRow := goodIn_r _ [6] (by decide +kernel) (by decide +kernel)
set_option maxRecDepth 20000 in
theorem gX10_hot_X10_isRow : GoodIn wsX10_hot (va_wsS RX10 54 yX10_isRow wsX10_isRow) := goodIn_app (goodIn_of _ (by decide +kernel)) ggX10_hot_X10_isRow
set_option maxRecDepth 20000 in
theorem ggX10_hot_X10_isBehind : GoodIn wsX10_hot wsX10_isBehind := goodIn_r _ [9] (by decide +kernel) (by decide +kernel)
set_option maxRecDepth 20000 in
theorem gX10_hot_X10_isBehind : GoodIn wsX10_hot (va_wsS RX10 190 yX10_isBehind wsX10_isBehind) := goodIn_app (goodIn_of _ (by decide +kernel)) ggX10_hot_X10_isBehind
set_option maxRecDepth 20000 in
theorem ggX10_hot_X10_isPart : GoodIn wsX10_hot wsX10_isPart := goodIn_r _ [12] (by decide +kernel) (by decide +kernel)
set_option maxRecDepth 20000 in
theorem gX10_hot_X10_isPart : GoodIn wsX10_hot (va_wsS RX10 143 yX10_isPart wsX10_isPart) := goodIn_app (goodIn_of _ (by decide +kernel)) ggX10_hot_X10_isPart
set_option maxRecDepth 20000 in
theorem ggX10_hot_X10_refusal : GoodIn wsX10_hot wsX10_refusal := goodIn_r _ [15, 16] (by decide +kernel) (by decide +kernel)
set_option maxRecDepth 20000 in
theorem gX10_hot_X10_refusal : GoodIn wsX10_hot (va_wsS RX10 146 yX10_refusal wsX10_refusal) := goodIn_app (goodIn_of _ (by decide +kernel)) ggX10_hot_X10_refusal
set_option maxRecDepth 20000 in
theorem ggX10_hot_X5_isWhole : GoodIn wsX10_hot wsX5_isWhole := goodIn_r _ [21, 22, 49, 50, 51] (by decide +kernel) (by decide +kernel)
set_option maxRecDepth 20000 in
theorem gX10_hot_X5_isWhole : GoodIn wsX10_hot (wsV RX10 102 RX5 yX5_isWhole wsX5_isWhole) := goodIn_app (goodIn_of _ (by decide +kernel)) ggX10_hot_X5_isWhole
set_option maxRecDepth 20000 in
theorem ggX10_hot_X2_behindHits : GoodIn wsX10_hot wsX2_behindHits := goodIn_r _ [26] (by decide +kernel) (by decide +kernel)
set_option maxRecDepth 20000 in
theorem gX10_hot_X2_behindHits : GoodIn wsX10_hot (va_wsS RX10 193 yX2_behindHits wsX2_behindHits) := goodIn_app (goodIn_of _ (by decide +kernel)) ggX10_hot_X2_behindHits
set_option maxRecDepth 20000 in
theorem ggX10_hot_J6_bitCount_0f7a4 : GoodIn wsX10_hot wsJ6_bitCount_0f7a4 := goodIn_r _ [30, 31, 32, 33] (by decide +kernel) (by decide +kernel)
set_option maxRecDepth 20000 in
theorem gX10_hot_J6_bitCount_0f7a4 : GoodIn wsX10_hot (va_wsS RX10 157 yJ6_bitCount_0f7a4 wsJ6_bitCount_0f7a4) := goodIn_app (goodIn_of _ (by decide +kernel)) ggX10_hot_J6_bitCount_0f7a4
set_option maxRecDepth 20000 in
theorem ggX10_hot_X1_part : GoodIn wsX10_hot wsX1_part := goodIn_r _ [37, 38, 39, 36, 40] (by decide +kernel) (by decide +kernel)
set_option maxRecDepth 20000 in
theorem gX10_hot_X1_part : GoodIn wsX10_hot (va_wsS RX10 196 yX1_part wsX1_part) := goodIn_app (goodIn_of _ (by decide +kernel)) ggX10_hot_X1_part
set_option maxRecDepth 20000 in
theorem ggX10_already_X10_isRow : GoodIn wsX10_already wsX10_isRow := goodIn_r _ [6] (by decide +kernel) (by decide +kernel)
set_option maxRecDepth 20000 in
theorem gX10_already_X10_isRow : GoodIn wsX10_already (va_wsS RX10 54 yX10_isRow wsX10_isRow) := goodIn_app (goodIn_of _ (by decide +kernel)) ggX10_already_X10_isRow
set_option maxRecDepth 20000 in
theorem ggX10_already_X10_isBehind : GoodIn wsX10_already wsX10_isBehind := goodIn_r _ [9] (by decide +kernel) (by decide +kernel)
set_option maxRecDepth 20000 in
theorem gX10_already_X10_isBehind : GoodIn wsX10_already (va_wsS RX10 190 yX10_isBehind wsX10_isBehind) := goodIn_app (goodIn_of _ (by decide +kernel)) ggX10_already_X10_isBehind
set_option maxRecDepth 20000 in
theorem ggX10_already_X10_isPart : GoodIn wsX10_already wsX10_isPart := goodIn_r _ [12] (by decide +kernel) (by decide +kernel)
set_option maxRecDepth 20000 in
theorem gX10_already_X10_isPart : GoodIn wsX10_already (va_wsS RX10 143 yX10_isPart wsX10_isPart) := goodIn_app (goodIn_of _ (by decide +kernel)) ggX10_already_X10_isPart
set_option maxRecDepth 20000 in
theorem ggX10_already_X10_refusal : GoodIn wsX10_already wsX10_refusal := goodIn_r _ [15, 16] (by decide +kernel) (by decide +kernel)
set_option maxRecDepth 20000 in
theorem gX10_already_X10_refusal : GoodIn wsX10_already (va_wsS RX10 146 yX10_refusal wsX10_refusal) := goodIn_app (goodIn_of _ (by decide +kernel)) ggX10_already_X10_refusal
set_option maxRecDepth 20000 in
theorem ggX10_already_X5_isWhole : GoodIn wsX10_already wsX5_isWhole := goodIn_r _ [21, 22, 64, 65, 66] (by decide +kernel) (by decide +kernel)
set_option maxRecDepth 20000 in
theorem gX10_already_X5_isWhole : GoodIn wsX10_already (wsV RX10 102 RX5 yX5_isWhole wsX5_isWhole) := goodIn_app (goodIn_of _ (by decide +kernel)) ggX10_already_X5_isWhole
set_option maxRecDepth 20000 in
theorem ggX10_already_X2_howMany : GoodIn wsX10_already wsX2_howMany := goodIn_r _ [26, 27, 28, 29, 30, 31, 32, 33, 34, 35, 64, 65, 66] (by decide +kernel) (by decide +kernel)
set_option maxRecDepth 20000 in
theorem gX10_already_X2_howMany : GoodIn wsX10_already (va_wsS RX10 178 yX2_howMany wsX2_howMany) := goodIn_app (goodIn_of _ (by decide +kernel)) ggX10_already_X2_howMany
set_option maxRecDepth 20000 in
theorem ggX10_already_X2_lowest : GoodIn wsX10_already wsX2_lowest := goodIn_r _ [38, 27, 29, 30, 31, 32, 33, 34, 35, 64, 65, 66] (by decide +kernel) (by decide +kernel)
set_option maxRecDepth 20000 in
theorem gX10_already_X2_lowest : GoodIn wsX10_already (va_wsS RX10 202 yX2_lowest wsX2_lowest) := goodIn_app (goodIn_of _ (by decide +kernel)) ggX10_already_X2_lowest
set_option maxRecDepth 20000 in
theorem ggX10_already_X2_behindHits : GoodIn wsX10_already wsX2_behindHits := goodIn_r _ [41] (by decide +kernel) (by decide +kernel)
set_option maxRecDepth 20000 in
theorem gX10_already_X2_behindHits : GoodIn wsX10_already (va_wsS RX10 193 yX2_behindHits wsX2_behindHits) := goodIn_app (goodIn_of _ (by decide +kernel)) ggX10_already_X2_behindHits
set_option maxRecDepth 20000 in
theorem ggX10_already_X2_heat : GoodIn wsX10_already wsX2_heat := goodIn_r _ [44, 45, 29, 30, 31, 32, 33, 34, 35] (by decide +kernel) (by decide +kernel)
set_option maxRecDepth 20000 in
theorem gX10_already_X2_heat : GoodIn wsX10_already (va_wsS RX10 205 yX2_heat wsX2_heat) := goodIn_app (goodIn_of _ (by decide +kernel)) ggX10_already_X2_heat
set_option maxRecDepth 20000 in
theorem ggX10_already_X2_after : GoodIn wsX10_already wsX2_after := goodIn_r _ [48] (by decide +kernel) (by decide +kernel)
set_option maxRecDepth 20000 in
theorem gX10_already_X2_after : GoodIn wsX10_already (va_wsS RX10 209 yX2_after wsX2_after) := goodIn_app (goodIn_of _ (by decide +kernel)) ggX10_already_X2_after
set_option maxRecDepth 20000 in
theorem ggX10_already_X1_part : GoodIn wsX10_already wsX1_part := goodIn_r _ [52, 53, 54, 51, 55] (by decide +kernel) (by decide +kernel)
set_option maxRecDepth 20000 in
theorem gX10_already_X1_part : GoodIn wsX10_already (va_wsS RX10 196 yX1_part wsX1_part) := goodIn_app (goodIn_of _ (by decide +kernel)) ggX10_already_X1_part
set_option maxRecDepth 20000 in
theorem ggX10_waits_X10_isPart : GoodIn wsX10_waits wsX10_isPart := goodIn_r _ [6] (by decide +kernel) (by decide +kernel)
set_option maxRecDepth 20000 in
theorem gX10_waits_X10_isPart : GoodIn wsX10_waits (va_wsS RX10 143 yX10_isPart wsX10_isPart) := goodIn_app (goodIn_of _ (by decide +kernel)) ggX10_waits_X10_isPart
set_option maxRecDepth 20000 in
theorem ggX10_waits_X10_refusal : GoodIn wsX10_waits wsX10_refusal := goodIn_r _ [9, 10] (by decide +kernel) (by decide +kernel)
set_option maxRecDepth 20000 in
theorem gX10_waits_X10_refusal : GoodIn wsX10_waits (va_wsS RX10 146 yX10_refusal wsX10_refusal) := goodIn_app (goodIn_of _ (by decide +kernel)) ggX10_waits_X10_refusal
set_option maxRecDepth 20000 in
theorem ggX10_waits_X4_lead : GoodIn wsX10_waits wsX4_lead := goodIn_r _ [14, 15, 16, 17, 13, 18, 19, 20, 21, 22, 23, 24, 25, 26, 27, 28, 29, 30, 31, 32] (by decide +kernel) (by decide +kernel)
set_option maxRecDepth 20000 in
theorem gX10_waits_X4_lead : GoodIn wsX10_waits (va_wsS RX10 214 yX4_lead wsX4_lead) := goodIn_app (goodIn_of _ (by decide +kernel)) ggX10_waits_X4_lead
set_option maxRecDepth 20000 in
theorem ggX10_waits_X4_leadUnit : GoodIn wsX10_waits wsX4_leadUnit := goodIn_r _ [35, 26, 27, 13, 28, 29, 30, 31, 32] (by decide +kernel) (by decide +kernel)
set_option maxRecDepth 20000 in
theorem gX10_waits_X4_leadUnit : GoodIn wsX10_waits (va_wsS RX10 220 yX4_leadUnit wsX4_leadUnit) := goodIn_app (goodIn_of _ (by decide +kernel)) ggX10_waits_X4_leadUnit
set_option maxRecDepth 20000 in
theorem ggX10_waits_X1_part : GoodIn wsX10_waits wsX1_part := goodIn_r _ [38, 39, 40, 31, 41] (by decide +kernel) (by decide +kernel)
set_option maxRecDepth 20000 in
theorem gX10_waits_X1_part : GoodIn wsX10_waits (va_wsS RX10 196 yX1_part wsX1_part) := goodIn_app (goodIn_of _ (by decide +kernel)) ggX10_waits_X1_part
set_option maxRecDepth 20000 in
theorem ggX10_first_X10_isFirstTold : GoodIn wsX10_first wsX10_isFirstTold := goodIn_r _ [5] (by decide +kernel) (by decide +kernel)
set_option maxRecDepth 20000 in
theorem gX10_first_X10_isFirstTold : GoodIn wsX10_first (va_wsS RX10 223 yX10_isFirstTold wsX10_isFirstTold) := goodIn_app (goodIn_of _ (by decide +kernel)) ggX10_first_X10_isFirstTold
set_option maxRecDepth 20000 in
theorem ggX10_first_X10_isPart : GoodIn wsX10_first wsX10_isPart := goodIn_r _ [8] (by decide +kernel) (by decide +kernel)
set_option maxRecDepth 20000 in
theorem gX10_first_X10_isPart : GoodIn wsX10_first (va_wsS RX10 143 yX10_isPart wsX10_isPart) := goodIn_app (goodIn_of _ (by decide +kernel)) ggX10_first_X10_isPart
set_option maxRecDepth 20000 in
theorem ggX10_first_X10_refusal : GoodIn wsX10_first wsX10_refusal := goodIn_r _ [11, 12] (by decide +kernel) (by decide +kernel)
set_option maxRecDepth 20000 in
theorem gX10_first_X10_refusal : GoodIn wsX10_first (va_wsS RX10 146 yX10_refusal wsX10_refusal) := goodIn_app (goodIn_of _ (by decide +kernel)) ggX10_first_X10_refusal
set_option maxRecDepth 20000 in
theorem ggX10_first_X4_standsIn : GoodIn wsX10_first wsX4_standsIn := goodIn_r _ [16, 17, 18, 15, 19, 20, 21, 22, 23, 24, 25, 26, 27, 28, 29] (by decide +kernel) (by decide +kernel)
set_option maxRecDepth 20000 in
theorem gX10_first_X4_standsIn : GoodIn wsX10_first (va_wsS RX10 226 yX4_standsIn wsX4_standsIn) := goodIn_app (goodIn_of _ (by decide +kernel)) ggX10_first_X4_standsIn
set_option maxRecDepth 20000 in
theorem ggX10_first_X4_lead : GoodIn wsX10_first wsX4_lead := goodIn_r _ [32, 33, 17, 18, 15, 19, 23, 24, 25, 26, 27, 28, 29, 34, 35, 36, 37, 38, 39, 40] (by decide +kernel) (by decide +kernel)
set_option maxRecDepth 20000 in
theorem gX10_first_X4_lead : GoodIn wsX10_first (va_wsS RX10 214 yX4_lead wsX4_lead) := goodIn_app (goodIn_of _ (by decide +kernel)) ggX10_first_X4_lead
set_option maxRecDepth 20000 in
theorem ggX10_first_X1_part : GoodIn wsX10_first wsX1_part := goodIn_r _ [43, 44, 45, 39, 46] (by decide +kernel) (by decide +kernel)
set_option maxRecDepth 20000 in
theorem gX10_first_X1_part : GoodIn wsX10_first (va_wsS RX10 196 yX1_part wsX1_part) := goodIn_app (goodIn_of _ (by decide +kernel)) ggX10_first_X1_part
set_option maxRecDepth 20000 in
theorem ggX10_agree_X10_isRow : GoodIn wsX10_agree wsX10_isRow := goodIn_r _ [7] (by decide +kernel) (by decide +kernel)
set_option maxRecDepth 20000 in
theorem gX10_agree_X10_isRow : GoodIn wsX10_agree (va_wsS RX10 54 yX10_isRow wsX10_isRow) := goodIn_app (goodIn_of _ (by decide +kernel)) ggX10_agree_X10_isRow
set_option maxRecDepth 20000 in
theorem ggX10_agree_X10_isPart : GoodIn wsX10_agree wsX10_isPart := goodIn_r _ [10] (by decide +kernel) (by decide +kernel)
set_option maxRecDepth 20000 in
theorem gX10_agree_X10_isPart : GoodIn wsX10_agree (va_wsS RX10 143 yX10_isPart wsX10_isPart) := goodIn_app (goodIn_of _ (by decide +kernel)) ggX10_agree_X10_isPart
set_option maxRecDepth 20000 in
theorem ggX10_agree_X5_isWhole : GoodIn wsX10_agree wsX5_isWhole := goodIn_r _ [15, 16, 49, 50, 51] (by decide +kernel) (by decide +kernel)
set_option maxRecDepth 20000 in
theorem gX10_agree_X5_isWhole : GoodIn wsX10_agree (wsV RX10 102 RX5 yX5_isWhole wsX5_isWhole) := goodIn_app (goodIn_of _ (by decide +kernel)) ggX10_agree_X5_isWhole
set_option maxRecDepth 20000 in
theorem ggX10_agree_J6_bitCount_0f7a4 : GoodIn wsX10_agree wsJ6_bitCount_0f7a4 := goodIn_r _ [20, 21, 22, 23] (by decide +kernel) (by decide +kernel)
set_option maxRecDepth 20000 in
theorem gX10_agree_J6_bitCount_0f7a4 : GoodIn wsX10_agree (va_wsS RX10 157 yJ6_bitCount_0f7a4 wsJ6_bitCount_0f7a4) := goodIn_app (goodIn_of _ (by decide +kernel)) ggX10_agree_J6_bitCount_0f7a4
set_option maxRecDepth 20000 in
theorem ggX10_agree_X2_howMany : GoodIn wsX10_agree wsX2_howMany := goodIn_r _ [27, 28, 29, 30, 18, 19, 20, 21, 22, 23, 49, 50, 51] (by decide +kernel) (by decide +kernel)
set_option maxRecDepth 20000 in
theorem gX10_agree_X2_howMany : GoodIn wsX10_agree (va_wsS RX10 178 yX2_howMany wsX2_howMany) := goodIn_app (goodIn_of _ (by decide +kernel)) ggX10_agree_X2_howMany
set_option maxRecDepth 20000 in
theorem ggX10_agree_X2_lowest : GoodIn wsX10_agree wsX2_lowest := goodIn_r _ [33, 28, 30, 18, 19, 20, 21, 22, 23, 49, 50, 51] (by decide +kernel) (by decide +kernel)
set_option maxRecDepth 20000 in
theorem gX10_agree_X2_lowest : GoodIn wsX10_agree (va_wsS RX10 202 yX2_lowest wsX2_lowest) := goodIn_app (goodIn_of _ (by decide +kernel)) ggX10_agree_X2_lowest
set_option maxRecDepth 20000 in
theorem ggX10_agree_X2_after : GoodIn wsX10_agree wsX2_after := goodIn_r _ [36] (by decide +kernel) (by decide +kernel)
set_option maxRecDepth 20000 in
theorem gX10_agree_X2_after : GoodIn wsX10_agree (va_wsS RX10 209 yX2_after wsX2_after) := goodIn_app (goodIn_of _ (by decide +kernel)) ggX10_agree_X2_after
set_option maxRecDepth 20000 in
theorem ggX10_agree_X10_millionths : GoodIn wsX10_agree wsX10_millionths := goodIn_r _ [39, 40] (by decide +kernel) (by decide +kernel)
set_option maxRecDepth 20000 in
theorem gX10_agree_X10_millionths : GoodIn wsX10_agree (va_wsS RX10 184 yX10_millionths wsX10_millionths) := goodIn_app (goodIn_of _ (by decide +kernel)) ggX10_agree_X10_millionths
set_option maxRecDepth 20000 in
theorem ggX10_twice_X10_isRow : GoodIn wsX10_twice wsX10_isRow := goodIn_r _ [7] (by decide +kernel) (by decide +kernel)
set_option maxRecDepth 20000 in
theorem gX10_twice_X10_isRow : GoodIn wsX10_twice (va_wsS RX10 54 yX10_isRow wsX10_isRow) := goodIn_app (goodIn_of _ (by decide +kernel)) ggX10_twice_X10_isRow
set_option maxRecDepth 20000 in
theorem ggX10_twice_X5_isWhole : GoodIn wsX10_twice wsX5_isWhole := goodIn_r _ [12, 13, 25, 26, 27] (by decide +kernel) (by decide +kernel)
set_option maxRecDepth 20000 in
theorem gX10_twice_X5_isWhole : GoodIn wsX10_twice (wsV RX10 102 RX5 yX5_isWhole wsX5_isWhole) := goodIn_app (goodIn_of _ (by decide +kernel)) ggX10_twice_X5_isWhole
set_option maxRecDepth 20000 in
theorem ggX10_twice_X10_backwards : GoodIn wsX10_twice wsX10_backwards := goodIn_r _ [16] (by decide +kernel) (by decide +kernel)
set_option maxRecDepth 20000 in
theorem gX10_twice_X10_backwards : GoodIn wsX10_twice (va_wsS RX10 230 yX10_backwards wsX10_backwards) := goodIn_app (goodIn_of _ (by decide +kernel)) ggX10_twice_X10_backwards
set_option maxRecDepth 20000 in
theorem ggX10_next_X10_isRow : GoodIn wsX10_next wsX10_isRow := goodIn_r _ [7] (by decide +kernel) (by decide +kernel)
set_option maxRecDepth 20000 in
theorem gX10_next_X10_isRow : GoodIn wsX10_next (va_wsS RX10 54 yX10_isRow wsX10_isRow) := goodIn_app (goodIn_of _ (by decide +kernel)) ggX10_next_X10_isRow
set_option maxRecDepth 20000 in
theorem ggX10_next_X5_isBehindItsEnd : GoodIn wsX10_next wsX5_isBehindItsEnd := goodIn_r _ [12, 13, 14, 15, 35, 36, 37] (by decide +kernel) (by decide +kernel)
set_option maxRecDepth 20000 in
theorem gX10_next_X5_isBehindItsEnd : GoodIn wsX10_next (wsV RX10 233 RX5 yX5_isBehindItsEnd wsX5_isBehindItsEnd) := goodIn_app (goodIn_of _ (by decide +kernel)) ggX10_next_X5_isBehindItsEnd
set_option maxRecDepth 20000 in
theorem ggX10_next_X5_signAt : GoodIn wsX10_next wsX5_signAt := goodIn_r _ [19, 13, 14, 15, 35, 36, 37] (by decide +kernel) (by decide +kernel)
set_option maxRecDepth 20000 in
theorem gX10_next_X5_signAt : GoodIn wsX10_next (wsV RX10 93 RX5 yX5_signAt wsX5_signAt) := goodIn_app (goodIn_of _ (by decide +kernel)) ggX10_next_X5_signAt
set_option maxRecDepth 20000 in
theorem ggX10_next_X1_part : GoodIn wsX10_next wsX1_part := goodIn_r _ [23, 24, 25, 22, 26] (by decide +kernel) (by decide +kernel)
set_option maxRecDepth 20000 in
theorem gX10_next_X1_part : GoodIn wsX10_next (va_wsS RX10 196 yX1_part wsX1_part) := goodIn_app (goodIn_of _ (by decide +kernel)) ggX10_next_X1_part
set_option maxRecDepth 20000 in
theorem ggX10_sheet_X10_isSheet : GoodIn wsX10_sheet wsX10_isSheet := goodIn_r _ [5] (by decide +kernel) (by decide +kernel)
set_option maxRecDepth 20000 in
theorem gX10_sheet_X10_isSheet : GoodIn wsX10_sheet (va_wsS RX10 72 yX10_isSheet wsX10_isSheet) := goodIn_app (goodIn_of _ (by decide +kernel)) ggX10_sheet_X10_isSheet
set_option maxRecDepth 20000 in
theorem ggX10_sheet_X10_isType : GoodIn wsX10_sheet wsX10_isType := goodIn_r _ [8] (by decide +kernel) (by decide +kernel)
set_option maxRecDepth 20000 in
theorem gX10_sheet_X10_isType : GoodIn wsX10_sheet (va_wsS RX10 236 yX10_isType wsX10_isType) := goodIn_app (goodIn_of _ (by decide +kernel)) ggX10_sheet_X10_isType
set_option maxRecDepth 20000 in
theorem ggX10_sheet_X10_found : GoodIn wsX10_sheet wsX10_found := goodIn_r _ [12, 13, 23, 24, 25, 26, 27, 28, 29, 30] (by decide +kernel) (by decide +kernel)
set_option maxRecDepth 20000 in
theorem gX10_sheet_X10_found : GoodIn wsX10_sheet (wsV RX10 79 RX10 yX10_found wsX10_found) := goodIn_app (goodIn_of _ (by decide +kernel)) ggX10_sheet_X10_found
set_option maxRecDepth 20000 in
theorem ggX10_sheet_X7_renew : GoodIn wsX10_sheet wsX7_renew := goodIn_r _ [18, 19, 20, 21, 22, 31, 32, 33, 34] (by decide +kernel) (by decide +kernel)
set_option maxRecDepth 20000 in
theorem gX10_sheet_X7_renew : GoodIn wsX10_sheet (wsV RX10 239 RX7 yX7_renew wsX7_renew) := goodIn_app (goodIn_of _ (by decide +kernel)) ggX10_sheet_X7_renew
set_option maxRecDepth 20000 in
theorem ggX10_lose_X10_isSheet : GoodIn wsX10_lose wsX10_isSheet := goodIn_r _ [7] (by decide +kernel) (by decide +kernel)
set_option maxRecDepth 20000 in
theorem gX10_lose_X10_isSheet : GoodIn wsX10_lose (va_wsS RX10 72 yX10_isSheet wsX10_isSheet) := goodIn_app (goodIn_of _ (by decide +kernel)) ggX10_lose_X10_isSheet
set_option maxRecDepth 20000 in
theorem ggX10_lose_X10_found : GoodIn wsX10_lose wsX10_found := goodIn_r _ [11, 12, 13, 14, 15, 16, 17, 18, 19, 20] (by decide +kernel) (by decide +kernel)
set_option maxRecDepth 20000 in
theorem gX10_lose_X10_found : GoodIn wsX10_lose (wsV RX10 79 RX10 yX10_found wsX10_found) := goodIn_app (goodIn_of _ (by decide +kernel)) ggX10_lose_X10_found
set_option maxRecDepth 20000 in
theorem ggX10_put_X10_refusesItem : GoodIn wsX10_put wsX10_refusesItem := goodIn_r _ [6, 1, 7, 8, 9, 10, 11, 5, 12, 13, 14, 15, 16, 17, 18, 19, 20, 28, 29, 30, 31, 32, 33, 34, 35, 36, 37, 38, 39] (by decide +kernel) (by decide +kernel)
set_option maxRecDepth 20000 in
theorem gX10_put_X10_refusesItem : GoodIn wsX10_put (wsV RX10 243 RX10 yX10_refusesItem wsX10_refusesItem) := goodIn_app (goodIn_of _ (by decide +kernel)) ggX10_put_X10_refusesItem
set_option maxRecDepth 20000 in
theorem ggX10_put_X7_store : GoodIn wsX10_put wsX7_store := goodIn_r _ [25, 26, 27, 36, 37, 38, 39] (by decide +kernel) (by decide +kernel)
set_option maxRecDepth 20000 in
theorem gX10_put_X7_store : GoodIn wsX10_put (wsV RX10 247 RX7 yX7_store wsX7_store) := goodIn_app (goodIn_of _ (by decide +kernel)) ggX10_put_X7_store
set_option maxRecDepth 20000 in
theorem ggX10_get_X10_refusesItem : GoodIn wsX10_get wsX10_refusesItem := goodIn_r _ [8, 2, 9, 10, 11, 12, 13, 7, 14, 15, 16, 17, 18, 19, 20, 21, 22, 23, 24, 25, 26, 27, 28, 29, 30, 31, 32, 33, 34] (by decide +kernel) (by decide +kernel)
set_option maxRecDepth 20000 in
theorem gX10_get_X10_refusesItem : GoodIn wsX10_get (wsV RX10 243 RX10 yX10_refusesItem wsX10_refusesItem) := goodIn_app (goodIn_of _ (by decide +kernel)) ggX10_get_X10_refusesItem
set_option maxRecDepth 20000 in
theorem ggX10_copy_X10_isSheet : GoodIn wsX10_copy wsX10_isSheet := goodIn_r _ [12] (by decide +kernel) (by decide +kernel)
set_option maxRecDepth 20000 in
theorem gX10_copy_X10_isSheet : GoodIn wsX10_copy (va_wsS RX10 72 yX10_isSheet wsX10_isSheet) := goodIn_app (goodIn_of _ (by decide +kernel)) ggX10_copy_X10_isSheet
set_option maxRecDepth 20000 in
theorem ggX10_copy_X10_found : GoodIn wsX10_copy wsX10_found := goodIn_r _ [16, 17, 24, 25, 26, 27, 28, 29, 30, 31] (by decide +kernel) (by decide +kernel)
set_option maxRecDepth 20000 in
theorem gX10_copy_X10_found : GoodIn wsX10_copy (wsV RX10 79 RX10 yX10_found wsX10_found) := goodIn_app (goodIn_of _ (by decide +kernel)) ggX10_copy_X10_found
set_option maxRecDepth 20000 in
theorem ggX10_copy_X7_hasSpan : GoodIn wsX10_copy wsX7_hasSpan := goodIn_r _ [22, 23, 32, 33, 34, 35] (by decide +kernel) (by decide +kernel)
set_option maxRecDepth 20000 in
theorem gX10_copy_X7_hasSpan : GoodIn wsX10_copy (wsV RX10 254 RX7 yX7_hasSpan wsX7_hasSpan) := goodIn_app (goodIn_of _ (by decide +kernel)) ggX10_copy_X7_hasSpan
set_option maxRecDepth 20000 in
theorem ggX10_write_X10_isRow : GoodIn wsX10_write wsX10_isRow := goodIn_r _ [13] (by decide +kernel) (by decide +kernel)
set_option maxRecDepth 20000 in
theorem gX10_write_X10_isRow : GoodIn wsX10_write (va_wsS RX10 54 yX10_isRow wsX10_isRow) := goodIn_app (goodIn_of _ (by decide +kernel)) ggX10_write_X10_isRow
set_option maxRecDepth 20000 in
theorem ggX10_write_X10_isSheet : GoodIn wsX10_write wsX10_isSheet := goodIn_r _ [16] (by decide +kernel) (by decide +kernel)
set_option maxRecDepth 20000 in
theorem gX10_write_X10_isSheet : GoodIn wsX10_write (va_wsS RX10 72 yX10_isSheet wsX10_isSheet) := goodIn_app (goodIn_of _ (by decide +kernel)) ggX10_write_X10_isSheet
set_option maxRecDepth 20000 in
theorem ggX10_write_X10_found : GoodIn wsX10_write wsX10_found := goodIn_r _ [20, 21, 37, 38, 39, 40, 41, 42, 43, 44] (by decide +kernel) (by decide +kernel)
set_option maxRecDepth 20000 in
theorem gX10_write_X10_found : GoodIn wsX10_write (wsV RX10 79 RX10 yX10_found wsX10_found) := goodIn_app (goodIn_of _ (by decide +kernel)) ggX10_write_X10_found
set_option maxRecDepth 20000 in
theorem ggX10_write_X5_signAt : GoodIn wsX10_write wsX5_signAt := goodIn_r _ [26, 27, 28, 29, 49, 50, 51] (by decide +kernel) (by decide +kernel)
set_option maxRecDepth 20000 in
theorem gX10_write_X5_signAt : GoodIn wsX10_write (wsV RX10 93 RX5 yX5_signAt wsX5_signAt) := goodIn_app (goodIn_of _ (by decide +kernel)) ggX10_write_X5_signAt
set_option maxRecDepth 20000 in
theorem ggX10_write_X7_store : GoodIn wsX10_write wsX7_store := goodIn_r _ [34, 35, 36, 45, 46, 47, 48] (by decide +kernel) (by decide +kernel)
set_option maxRecDepth 20000 in
theorem gX10_write_X7_store : GoodIn wsX10_write (wsV RX10 247 RX7 yX7_store wsX7_store) := goodIn_app (goodIn_of _ (by decide +kernel)) ggX10_write_X7_store
set_option maxRecDepth 20000 in
theorem ggX10_count_X10_isRow : GoodIn wsX10_count wsX10_isRow := goodIn_r _ [11] (by decide +kernel) (by decide +kernel)
set_option maxRecDepth 20000 in
theorem gX10_count_X10_isRow : GoodIn wsX10_count (va_wsS RX10 54 yX10_isRow wsX10_isRow) := goodIn_app (goodIn_of _ (by decide +kernel)) ggX10_count_X10_isRow
set_option maxRecDepth 20000 in
theorem ggX10_count_X10_wholeRows : GoodIn wsX10_count wsX10_wholeRows := goodIn_r _ [15, 1, 16, 17, 18, 19, 20, 21, 22, 23, 24, 25, 26, 27, 28, 29, 30, 31, 32] (by decide +kernel) (by decide +kernel)
set_option maxRecDepth 20000 in
theorem gX10_count_X10_wholeRows : GoodIn wsX10_count (wsV RX10 268 RX10 yX10_wholeRows wsX10_wholeRows) := goodIn_app (goodIn_of _ (by decide +kernel)) ggX10_count_X10_wholeRows
set_option maxRecDepth 20000 in
theorem ggX10_digest_X10_count : GoodIn wsX10_digest wsX10_count := goodIn_r _ [9, 3, 4, 10, 11, 12, 13, 14, 15, 16, 8, 17, 18, 19, 20, 21, 22, 23, 24, 25, 26, 27, 183, 184, 185, 186, 187, 188, 189, 190, 191, 192, 193, 194, 195, 196, 197, 198, 199, 200, 201, 202] (by decide +kernel) (by decide +kernel)
set_option maxRecDepth 20000 in
theorem gX10_digest_X10_count : GoodIn wsX10_digest (wsV RX10 275 RX10 yX10_count wsX10_count) := goodIn_app (goodIn_of _ (by decide +kernel)) ggX10_digest_X10_count
set_option maxRecDepth 20000 in
theorem ggX10_digest_X5_signAt : GoodIn wsX10_digest wsX5_signAt := goodIn_r _ [31, 32, 27, 33, 191, 192, 193] (by decide +kernel) (by decide +kernel)
set_option maxRecDepth 20000 in
theorem gX10_digest_X5_signAt : GoodIn wsX10_digest (wsV RX10 93 RX5 yX5_signAt wsX5_signAt) := goodIn_app (goodIn_of _ (by decide +kernel)) ggX10_digest_X5_signAt
set_option maxRecDepth 20000 in
theorem ggX10_digest_X10_shows : GoodIn wsX10_digest wsX10_shows := goodIn_r _ [37, 3, 15, 16, 8, 17, 38, 39, 40, 22, 23, 24, 25, 26, 27, 41, 42, 43, 44, 4, 45, 13, 46, 47, 48, 49, 50, 51, 52, 53, 54, 55, 56, 57, 58, 59, 60, 61, 62, 63, 64, 65, 66, 67, 68, 69, 70, 71, 72, 73, 74, 75, 76, 77, 183, 184, 185, 186, 187, 188, 189, 190, 191, 192, 193] (by decide +kernel) (by decide +kernel)
set_option maxRecDepth 20000 in
theorem gX10_digest_X10_shows : GoodIn wsX10_digest (wsV RX10 278 RX10 yX10_shows wsX10_shows) := goodIn_app (goodIn_of _ (by decide +kernel)) ggX10_digest_X10_shows
set_option maxRecDepth 20000 in
theorem ggX10_digest_X10_fault : GoodIn wsX10_digest wsX10_fault := goodIn_r _ [81, 10, 82, 83, 84, 85, 86, 87, 88, 89, 183, 184, 185, 186, 187, 188, 189, 190, 194, 195, 196, 197, 198, 199, 200, 201, 202] (by decide +kernel) (by decide +kernel)
set_option maxRecDepth 20000 in
theorem gX10_digest_X10_fault : GoodIn wsX10_digest (wsV RX10 281 RX10 yX10_fault wsX10_fault) := goodIn_app (goodIn_of _ (by decide +kernel)) ggX10_digest_X10_fault
set_option maxRecDepth 20000 in
theorem ggX10_digest_X10_shown : GoodIn wsX10_digest wsX10_shown := goodIn_r _ [93, 10, 94, 13, 95, 96, 97, 8, 98, 99, 100, 101, 85, 102, 103, 83, 84, 86, 87, 88, 89, 104, 105, 106, 107, 108, 109, 110, 111, 112, 113, 114, 115, 116, 117, 118, 119, 47, 48, 49, 50, 51, 52, 53, 54, 55, 56, 57, 58, 59, 60, 61, 62, 63, 64, 65, 66, 67, 68, 69, 70, 71, 72, 73, 74, 75, 76, 77, 120, 121, 122, 123, 124, 125, 126, 127, 128, 129, 130, 183, 184, 185, 186, 187, 188, 189, 190, 203, 204, 194, 195, 196, 197, 198, 199, 200, 201, 202] (by decide +kernel) (by decide +kernel)
set_option maxRecDepth 20000 in
theorem gX10_digest_X10_shown : GoodIn wsX10_digest (wsV RX10 284 RX10 yX10_shown wsX10_shown) := goodIn_app (goodIn_of _ (by decide +kernel)) ggX10_digest_X10_shown
set_option maxRecDepth 20000 in
theorem ggX10_digest_X10_waits : GoodIn wsX10_digest wsX10_waits := goodIn_r _ [134, 13, 12, 135, 136, 8, 137, 138, 139, 140, 141, 142, 143, 72, 144, 145, 74, 75, 76, 77, 55, 56, 57, 58, 59, 60, 146, 147, 148, 149, 150, 151, 152, 153, 154, 155, 156, 157, 158, 159, 160, 161, 183, 184, 185, 186, 187, 188, 189, 190] (by decide +kernel) (by decide +kernel)
set_option maxRecDepth 20000 in
theorem gX10_digest_X10_waits : GoodIn wsX10_digest (wsV RX10 287 RX10 yX10_waits wsX10_waits) := goodIn_app (goodIn_of _ (by decide +kernel)) ggX10_digest_X10_waits
set_option maxRecDepth 20000 in
theorem ggX10_digest_X10_fills : GoodIn wsX10_digest wsX10_fills := goodIn_r _ [165, 3, 166, 10, 167, 13, 168, 15, 16, 8, 17, 135, 136, 137, 169, 55, 56, 57, 58, 59, 60, 99, 100, 101, 85, 102, 103, 83, 84, 86, 87, 88, 89, 170, 171, 172, 173, 174, 175, 176, 177, 178, 179, 180, 181, 182, 112, 113, 114, 115, 116, 117, 118, 119, 47, 48, 49, 50, 51, 52, 53, 54, 61, 62, 63, 64, 65, 66, 67, 68, 69, 70, 71, 72, 73, 74, 75, 76, 77, 120, 121, 122, 123, 124, 125, 127, 128, 129, 130, 183, 184, 185, 186, 187, 188, 189, 190, 191, 192, 193, 205, 206, 207, 194, 195, 196, 197, 198, 199, 200, 201, 202] (by decide +kernel) (by decide +kernel)
set_option maxRecDepth 20000 in
theorem gX10_digest_X10_fills : GoodIn wsX10_digest (wsV RX10 290 RX10 yX10_fills wsX10_fills) := goodIn_app (goodIn_of _ (by decide +kernel)) ggX10_digest_X10_fills
set_option maxRecDepth 20000 in
theorem ggX10_refusesItem_X10_isSheet : GoodIn wsX10_refusesItem wsX10_isSheet := goodIn_r _ [8] (by decide +kernel) (by decide +kernel)
set_option maxRecDepth 20000 in
theorem gX10_refusesItem_X10_isSheet : GoodIn wsX10_refusesItem (va_wsS RX10 72 yX10_isSheet wsX10_isSheet) := goodIn_app (goodIn_of _ (by decide +kernel)) ggX10_refusesItem_X10_isSheet
set_option maxRecDepth 20000 in
theorem ggX10_refusesItem_X10_isType : GoodIn wsX10_refusesItem wsX10_isType := goodIn_r _ [11] (by decide +kernel) (by decide +kernel)
set_option maxRecDepth 20000 in
theorem gX10_refusesItem_X10_isType : GoodIn wsX10_refusesItem (va_wsS RX10 236 yX10_isType wsX10_isType) := goodIn_app (goodIn_of _ (by decide +kernel)) ggX10_refusesItem_X10_isType
set_option maxRecDepth 20000 in
theorem ggX10_refusesItem_X10_found : GoodIn wsX10_refusesItem wsX10_found := goodIn_r _ [15, 16, 17, 18, 19, 20, 21, 22, 23, 24] (by decide +kernel) (by decide +kernel)
set_option maxRecDepth 20000 in
theorem gX10_refusesItem_X10_found : GoodIn wsX10_refusesItem (wsV RX10 79 RX10 yX10_found wsX10_found) := goodIn_app (goodIn_of _ (by decide +kernel)) ggX10_refusesItem_X10_found
set_option maxRecDepth 20000 in
theorem ggX10_numberOf_X3_measure : GoodIn wsX10_numberOf wsX3_measure := goodIn_r _ [7, 8, 9, 10, 11, 12, 13, 14, 15, 16, 17, 18, 19, 20, 6, 21, 22, 23, 24, 25, 26, 27, 28, 29, 30, 31, 32, 33, 34, 35] (by decide +kernel) (by decide +kernel)
set_option maxRecDepth 20000 in
theorem gX10_numberOf_X3_measure : GoodIn wsX10_numberOf (va_wsS RX10 297 yX3_measure wsX3_measure) := goodIn_app (goodIn_of _ (by decide +kernel)) ggX10_numberOf_X3_measure
set_option maxRecDepth 20000 in
theorem ggX10_dealtAsFar_X10_numberOf : GoodIn wsX10_dealtAsFar wsX10_numberOf := goodIn_r _ [7, 1, 8, 2, 9, 10, 11, 12, 13, 14, 15, 16, 17, 18, 19, 20, 21, 22, 23, 24, 25, 26, 27, 28, 29, 30, 31, 32, 33, 34, 35, 36, 37, 38, 39, 40, 54, 55, 56, 57, 58, 59, 60, 61, 62, 63, 64] (by decide +kernel) (by decide +kernel)
set_option maxRecDepth 20000 in
theorem gX10_dealtAsFar_X10_numberOf : GoodIn wsX10_dealtAsFar (wsV RX10 105 RX10 yX10_numberOf wsX10_numberOf) := goodIn_app (goodIn_of _ (by decide +kernel)) ggX10_dealtAsFar_X10_numberOf
set_option maxRecDepth 20000 in
theorem ggX10_dealtAsFar_X2_howMany : GoodIn wsX10_dealtAsFar wsX2_howMany := goodIn_r _ [44, 45, 46, 47, 18, 19, 20, 21, 22, 23, 54, 55, 56] (by decide +kernel) (by decide +kernel)
set_option maxRecDepth 20000 in
theorem gX10_dealtAsFar_X2_howMany : GoodIn wsX10_dealtAsFar (va_wsS RX10 178 yX2_howMany wsX2_howMany) := goodIn_app (goodIn_of _ (by decide +kernel)) ggX10_dealtAsFar_X2_howMany
set_option maxRecDepth 20000 in
theorem ggX10_dealtAsFar_X2_lowest : GoodIn wsX10_dealtAsFar wsX2_lowest := goodIn_r _ [50, 45, 47, 18, 19, 20, 21, 22, 23, 54, 55, 56] (by decide +kernel) (by decide +kernel)
set_option maxRecDepth 20000 in
theorem gX10_dealtAsFar_X2_lowest : GoodIn wsX10_dealtAsFar (va_wsS RX10 202 yX2_lowest wsX2_lowest) := goodIn_app (goodIn_of _ (by decide +kernel)) ggX10_dealtAsFar_X2_lowest
set_option maxRecDepth 20000 in
theorem ggX10_dealtAsFar_X3_measure : GoodIn wsX10_dealtAsFar wsX3_measure := goodIn_r _ [12, 13, 14, 15, 16, 17, 18, 19, 20, 21, 22, 23, 24, 25, 11, 26, 27, 28, 29, 30, 31, 32, 33, 34, 35, 36, 37, 38, 39, 40] (by decide +kernel) (by decide +kernel)
set_option maxRecDepth 20000 in
theorem gX10_dealtAsFar_X3_measure : GoodIn wsX10_dealtAsFar (va_wsS RX10 297 yX3_measure wsX3_measure) := goodIn_app (goodIn_of _ (by decide +kernel)) ggX10_dealtAsFar_X3_measure
set_option maxRecDepth 20000 in
theorem ggX10_dealtAsFar_X2_after : GoodIn wsX10_dealtAsFar wsX2_after := goodIn_r _ [53] (by decide +kernel) (by decide +kernel)
set_option maxRecDepth 20000 in
theorem gX10_dealtAsFar_X2_after : GoodIn wsX10_dealtAsFar (va_wsS RX10 209 yX2_after wsX2_after) := goodIn_app (goodIn_of _ (by decide +kernel)) ggX10_dealtAsFar_X2_after
set_option maxRecDepth 20000 in
theorem ggX10_wholeRows_X5_isWhole : GoodIn wsX10_wholeRows wsX5_isWhole := goodIn_r _ [6, 7, 16, 17, 18] (by decide +kernel) (by decide +kernel)
set_option maxRecDepth 20000 in
theorem gX10_wholeRows_X5_isWhole : GoodIn wsX10_wholeRows (wsV RX10 102 RX5 yX5_isWhole wsX5_isWhole) := goodIn_app (goodIn_of _ (by decide +kernel)) ggX10_wholeRows_X5_isWhole
set_option maxRecDepth 20000 in
theorem ggX11_isRow_X11_in : GoodIn wsX11_isRow wsX11_in := goodIn_r _ [4] (by decide +kernel) (by decide +kernel)
set_option maxRecDepth 20000 in
theorem gX11_isRow_X11_in : GoodIn wsX11_isRow (va_wsS RX11 59 yX11_in wsX11_in) := goodIn_app (goodIn_of _ (by decide +kernel)) ggX11_isRow_X11_in
set_option maxRecDepth 20000 in
theorem ggX11_puts_X11_isRow : GoodIn wsX11_puts wsX11_isRow := goodIn_r _ [6, 7, 8, 5, 9] (by decide +kernel) (by decide +kernel)
set_option maxRecDepth 20000 in
theorem gX11_puts_X11_isRow : GoodIn wsX11_puts (va_wsS RX11 63 yX11_isRow wsX11_isRow) := goodIn_app (goodIn_of _ (by decide +kernel)) ggX11_puts_X11_isRow
set_option maxRecDepth 20000 in
theorem ggX11_puts_X11_in : GoodIn wsX11_puts wsX11_in := goodIn_r _ [9] (by decide +kernel) (by decide +kernel)
set_option maxRecDepth 20000 in
theorem gX11_puts_X11_in : GoodIn wsX11_puts (va_wsS RX11 59 yX11_in wsX11_in) := goodIn_app (goodIn_of _ (by decide +kernel)) ggX11_puts_X11_in
set_option maxRecDepth 20000 in
theorem ggX11_sign_X11_puts : GoodIn wsX11_sign wsX11_puts := goodIn_r _ [5, 6, 7, 8, 9, 4, 10, 11, 12, 13, 14, 15, 16, 17, 18, 19, 20, 21, 22, 23, 24, 25, 26, 27, 28, 29, 30, 31, 32, 33, 34, 35, 36, 37] (by decide +kernel) (by decide +kernel)
set_option maxRecDepth 20000 in
theorem gX11_sign_X11_puts : GoodIn wsX11_sign (wsV RX11 67 RX11 yX11_puts wsX11_puts) := goodIn_app (goodIn_of _ (by decide +kernel)) ggX11_sign_X11_puts
set_option maxRecDepth 20000 in
theorem ggX11_read_X11_isSheet : GoodIn wsX11_read wsX11_isSheet := goodIn_r _ [7, 8, 9, 6, 10] (by decide +kernel) (by decide +kernel)
set_option maxRecDepth 20000 in
theorem gX11_read_X11_isSheet : GoodIn wsX11_read (va_wsS RX11 71 yX11_isSheet wsX11_isSheet) := goodIn_app (goodIn_of _ (by decide +kernel)) ggX11_read_X11_isSheet
set_option maxRecDepth 20000 in
theorem ggX11_read_X11_isRow : GoodIn wsX11_read wsX11_isRow := goodIn_r _ [13, 8, 9, 6, 10] (by decide +kernel) (by decide +kernel)
set_option maxRecDepth 20000 in
theorem gX11_read_X11_isRow : GoodIn wsX11_read (va_wsS RX11 63 yX11_isRow wsX11_isRow) := goodIn_app (goodIn_of _ (by decide +kernel)) ggX11_read_X11_isRow
set_option maxRecDepth 20000 in
theorem ggX11_read_X11_meets : GoodIn wsX11_read wsX11_meets := goodIn_r _ [17, 18, 25, 26, 27, 28, 29, 30, 31, 32, 33, 34, 35, 36, 37, 38, 39, 40, 41, 42, 43, 44, 45, 46, 47, 48] (by decide +kernel) (by decide +kernel)
set_option maxRecDepth 20000 in
theorem gX11_read_X11_meets : GoodIn wsX11_read (wsV RX11 74 RX11 yX11_meets wsX11_meets) := goodIn_app (goodIn_of _ (by decide +kernel)) ggX11_read_X11_meets
set_option maxRecDepth 20000 in
theorem ggX11_read_X11_puts : GoodIn wsX11_read wsX11_puts := goodIn_r _ [22, 23, 24, 11, 12, 6, 13, 8, 9, 10, 25, 26, 27, 28, 29, 30, 31, 32, 33, 34, 35, 36, 37, 38, 39, 40, 41, 42, 43, 44, 45, 46, 47, 48] (by decide +kernel) (by decide +kernel)
set_option maxRecDepth 20000 in
theorem gX11_read_X11_puts : GoodIn wsX11_read (wsV RX11 67 RX11 yX11_puts wsX11_puts) := goodIn_app (goodIn_of _ (by decide +kernel)) ggX11_read_X11_puts
set_option maxRecDepth 20000 in
theorem ggX11_clear_X11_isRow : GoodIn wsX11_clear wsX11_isRow := goodIn_r _ [5, 6, 7, 4, 8] (by decide +kernel) (by decide +kernel)
set_option maxRecDepth 20000 in
theorem gX11_clear_X11_isRow : GoodIn wsX11_clear (va_wsS RX11 63 yX11_isRow wsX11_isRow) := goodIn_app (goodIn_of _ (by decide +kernel)) ggX11_clear_X11_isRow
set_option maxRecDepth 20000 in
theorem ggX11_at_X11_isRow : GoodIn wsX11_at wsX11_isRow := goodIn_r _ [6, 7, 8, 5, 9] (by decide +kernel) (by decide +kernel)
set_option maxRecDepth 20000 in
theorem gX11_at_X11_isRow : GoodIn wsX11_at (va_wsS RX11 63 yX11_isRow wsX11_isRow) := goodIn_app (goodIn_of _ (by decide +kernel)) ggX11_at_X11_isRow
set_option maxRecDepth 20000 in
theorem ggX11_set_X11_in : GoodIn wsX11_set wsX11_in := goodIn_r _ [6] (by decide +kernel) (by decide +kernel)
set_option maxRecDepth 20000 in
theorem gX11_set_X11_in : GoodIn wsX11_set (va_wsS RX11 59 yX11_in wsX11_in) := goodIn_app (goodIn_of _ (by decide +kernel)) ggX11_set_X11_in
set_option maxRecDepth 20000 in
theorem ggX11_standing_X11_lengthOf : GoodIn wsX11_standing wsX11_lengthOf := goodIn_r _ [5] (by decide +kernel) (by decide +kernel)
set_option maxRecDepth 20000 in
theorem gX11_standing_X11_lengthOf : GoodIn wsX11_standing (va_wsS RX11 78 yX11_lengthOf wsX11_lengthOf) := goodIn_app (goodIn_of _ (by decide +kernel)) ggX11_standing_X11_lengthOf
set_option maxRecDepth 20000 in
theorem ggX11_numberOf_X11_ones : GoodIn wsX11_numberOf wsX11_ones := goodIn_r _ [4] (by decide +kernel) (by decide +kernel)
set_option maxRecDepth 20000 in
theorem gX11_numberOf_X11_ones : GoodIn wsX11_numberOf (va_wsS RX11 81 yX11_ones wsX11_ones) := goodIn_app (goodIn_of _ (by decide +kernel)) ggX11_numberOf_X11_ones
set_option maxRecDepth 20000 in
theorem ggX11_numberOf_X11_standing : GoodIn wsX11_numberOf wsX11_standing := goodIn_r _ [8, 9, 10, 11, 3, 12, 13, 14, 15, 16, 17, 18, 19, 20, 21, 22, 23, 24, 25, 26, 27, 28, 29, 30, 31, 32, 33, 34, 35, 36] (by decide +kernel) (by decide +kernel)
set_option maxRecDepth 20000 in
theorem gX11_numberOf_X11_standing : GoodIn wsX11_numberOf (wsV RX11 84 RX11 yX11_standing wsX11_standing) := goodIn_app (goodIn_of _ (by decide +kernel)) ggX11_numberOf_X11_standing
set_option maxRecDepth 20000 in
theorem ggX11_showsNow_X11_isWhole : GoodIn wsX11_showsNow wsX11_isWhole := goodIn_r _ [6, 1, 7, 27, 28, 29, 30, 31, 32, 33, 34, 35, 36, 37, 38, 39, 40, 41, 42, 43, 44, 45, 46, 47, 48, 49, 50] (by decide +kernel) (by decide +kernel)
set_option maxRecDepth 20000 in
theorem gX11_showsNow_X11_isWhole : GoodIn wsX11_showsNow (wsV RX11 87 RX11 yX11_isWhole wsX11_isWhole) := goodIn_app (goodIn_of _ (by decide +kernel)) ggX11_showsNow_X11_isWhole
set_option maxRecDepth 20000 in
theorem ggX11_showsNow_X11_bitsOf : GoodIn wsX11_showsNow wsX11_bitsOf := goodIn_r _ [11, 1, 7, 27, 28, 29, 30, 31, 32, 33, 34, 35, 36, 37, 38, 39, 40, 41, 42, 43, 44, 45, 46, 47, 48, 49, 50] (by decide +kernel) (by decide +kernel)
set_option maxRecDepth 20000 in
theorem gX11_showsNow_X11_bitsOf : GoodIn wsX11_showsNow (wsV RX11 90 RX11 yX11_bitsOf wsX11_bitsOf) := goodIn_app (goodIn_of _ (by decide +kernel)) ggX11_showsNow_X11_bitsOf
set_option maxRecDepth 20000 in
theorem ggX11_showsNow_X11_numberOf : GoodIn wsX11_showsNow wsX11_numberOf := goodIn_r _ [15, 16, 17, 5, 18, 19, 20, 21, 22, 23, 24, 25, 26, 27, 28, 29, 30, 31, 32, 33, 34, 35, 36, 37, 38, 39, 40, 41, 42, 43, 44, 45, 46, 47, 48, 49, 50] (by decide +kernel) (by decide +kernel)
set_option maxRecDepth 20000 in
theorem gX11_showsNow_X11_numberOf : GoodIn wsX11_showsNow (wsV RX11 93 RX11 yX11_numberOf wsX11_numberOf) := goodIn_app (goodIn_of _ (by decide +kernel)) ggX11_showsNow_X11_numberOf
set_option maxRecDepth 20000 in
theorem ggX11_shows_X11_isRow : GoodIn wsX11_shows wsX11_isRow := goodIn_r _ [4, 5, 6, 3, 7] (by decide +kernel) (by decide +kernel)
set_option maxRecDepth 20000 in
theorem gX11_shows_X11_isRow : GoodIn wsX11_shows (va_wsS RX11 63 yX11_isRow wsX11_isRow) := goodIn_app (goodIn_of _ (by decide +kernel)) ggX11_shows_X11_isRow
set_option maxRecDepth 20000 in
theorem ggX11_shows_X11_in : GoodIn wsX11_shows wsX11_in := goodIn_r _ [7] (by decide +kernel) (by decide +kernel)
set_option maxRecDepth 20000 in
theorem gX11_shows_X11_in : GoodIn wsX11_shows (va_wsS RX11 59 yX11_in wsX11_in) := goodIn_app (goodIn_of _ (by decide +kernel)) ggX11_shows_X11_in
set_option maxRecDepth 20000 in
theorem ggX11_shows_X11_showsNow : GoodIn wsX11_shows wsX11_showsNow := goodIn_r _ [11, 12, 13, 14, 15, 3, 16, 17, 18, 19, 20, 21, 22, 23, 24, 25, 26, 27, 28, 29, 30, 31, 32, 33, 34, 35, 36, 37, 38, 39, 40, 41, 42, 43, 44, 45, 46, 47, 48, 49, 50, 51, 52, 53, 54, 55, 56, 57, 58, 59, 60] (by decide +kernel) (by decide +kernel)
set_option maxRecDepth 20000 in
theorem gX11_shows_X11_showsNow : GoodIn wsX11_shows (wsV RX11 97 RX11 yX11_showsNow wsX11_showsNow) := goodIn_app (goodIn_of _ (by decide +kernel)) ggX11_shows_X11_showsNow
set_option maxRecDepth 20000 in
theorem ggX11_type_X11_in : GoodIn wsX11_type wsX11_in := goodIn_r _ [7] (by decide +kernel) (by decide +kernel)
set_option maxRecDepth 20000 in
theorem gX11_type_X11_in : GoodIn wsX11_type (va_wsS RX11 59 yX11_in wsX11_in) := goodIn_app (goodIn_of _ (by decide +kernel)) ggX11_type_X11_in
set_option maxRecDepth 20000 in
theorem ggX11_test_X11_byteNow : GoodIn wsX11_test wsX11_byteNow := goodIn_r _ [12, 1, 13, 14, 21, 22, 23, 24, 25, 26, 27, 28, 29, 30, 31, 32, 33, 34, 35, 36, 37, 38, 39, 40, 41, 42, 43, 44] (by decide +kernel) (by decide +kernel)
set_option maxRecDepth 20000 in
theorem gX11_test_X11_byteNow : GoodIn wsX11_test (wsV RX11 110 RX11 yX11_byteNow wsX11_byteNow) := goodIn_app (goodIn_of _ (by decide +kernel)) ggX11_test_X11_byteNow
set_option maxRecDepth 20000 in
theorem ggX11_test_X11_numberBy : GoodIn wsX11_test wsX11_numberBy := goodIn_r _ [17] (by decide +kernel) (by decide +kernel)
set_option maxRecDepth 20000 in
theorem gX11_test_X11_numberBy : GoodIn wsX11_test (va_wsS RX11 114 yX11_numberBy wsX11_numberBy) := goodIn_app (goodIn_of _ (by decide +kernel)) ggX11_test_X11_numberBy
set_option maxRecDepth 20000 in
theorem ggX11_test_X11_in : GoodIn wsX11_test wsX11_in := goodIn_r _ [20] (by decide +kernel) (by decide +kernel)
set_option maxRecDepth 20000 in
theorem gX11_test_X11_in : GoodIn wsX11_test (va_wsS RX11 59 yX11_in wsX11_in) := goodIn_app (goodIn_of _ (by decide +kernel)) ggX11_test_X11_in
set_option maxRecDepth 20000 in
theorem ggX11_faultNow_X11_test : GoodIn wsX11_faultNow wsX11_test := goodIn_r _ [10, 3, 2, 11, 4, 12, 13, 14, 15, 16, 17, 9, 18, 5, 19, 20, 21, 22, 23, 24, 25, 26, 27, 28, 29, 30, 31, 32, 33, 34, 35, 36, 37, 38, 39, 40, 41, 42, 43, 44, 45, 46, 47, 48, 49] (by decide +kernel) (by decide +kernel)
set_option maxRecDepth 20000 in
theorem gX11_faultNow_X11_test : GoodIn wsX11_faultNow (wsV RX11 123 RX11 yX11_test wsX11_test) := goodIn_app (goodIn_of _ (by decide +kernel)) ggX11_faultNow_X11_test
set_option maxRecDepth 20000 in
theorem ggX11_faultNow_X11_byteNow : GoodIn wsX11_faultNow wsX11_byteNow := goodIn_r _ [18, 3, 5, 19, 26, 27, 28, 29, 30, 31, 32, 33, 34, 35, 36, 37, 38, 39, 40, 41, 42, 43, 44, 45, 46, 47, 48, 49] (by decide +kernel) (by decide +kernel)
set_option maxRecDepth 20000 in
theorem gX11_faultNow_X11_byteNow : GoodIn wsX11_faultNow (wsV RX11 110 RX11 yX11_byteNow wsX11_byteNow) := goodIn_app (goodIn_of _ (by decide +kernel)) ggX11_faultNow_X11_byteNow
set_option maxRecDepth 20000 in
theorem ggX11_fault_X11_faultNow : GoodIn wsX11_fault wsX11_faultNow := goodIn_r _ [5, 6, 7, 8, 9, 10, 11, 12, 13, 4, 14, 15, 16, 17, 18, 19, 20, 21, 22, 23, 24, 25, 26, 27, 28, 29, 30, 31, 32, 33, 34, 35, 36, 37, 38, 39, 40, 41, 42, 43, 44, 45, 46, 47, 48, 49, 50, 51, 52, 53] (by decide +kernel) (by decide +kernel)
set_option maxRecDepth 20000 in
theorem gX11_fault_X11_faultNow : GoodIn wsX11_fault (wsV RX11 127 RX11 yX11_faultNow wsX11_faultNow) := goodIn_app (goodIn_of _ (by decide +kernel)) ggX11_fault_X11_faultNow
set_option maxRecDepth 20000 in
theorem ggX11_does_X11_numberOf : GoodIn wsX11_does wsX11_numberOf := goodIn_r _ [10, 11, 12, 9, 13, 14, 15, 16, 17, 18, 19, 20, 21, 22, 23, 24, 25, 26, 27, 28, 29, 30, 31, 32, 33, 34, 35, 36, 37, 38, 39, 40, 41, 42, 43, 44, 45] (by decide +kernel) (by decide +kernel)
set_option maxRecDepth 20000 in
theorem gX11_does_X11_numberOf : GoodIn wsX11_does (wsV RX11 93 RX11 yX11_numberOf wsX11_numberOf) := goodIn_app (goodIn_of _ (by decide +kernel)) ggX11_does_X11_numberOf
set_option maxRecDepth 20000 in
theorem ggX11_holds_X11_isRow : GoodIn wsX11_holds wsX11_isRow := goodIn_r _ [5, 6, 7, 4, 8] (by decide +kernel) (by decide +kernel)
set_option maxRecDepth 20000 in
theorem gX11_holds_X11_isRow : GoodIn wsX11_holds (va_wsS RX11 63 yX11_isRow wsX11_isRow) := goodIn_app (goodIn_of _ (by decide +kernel)) ggX11_holds_X11_isRow
set_option maxRecDepth 20000 in
theorem ggX11_holds_X11_isWhole : GoodIn wsX11_holds wsX11_isWhole := goodIn_r _ [12, 1, 13, 62, 63, 64, 65, 66, 67, 68, 69, 70, 71, 72, 73, 74, 75, 76, 77, 78, 79, 80, 81, 82, 83, 84, 85] (by decide +kernel) (by decide +kernel)
set_option maxRecDepth 20000 in
theorem gX11_holds_X11_isWhole : GoodIn wsX11_holds (wsV RX11 87 RX11 yX11_isWhole wsX11_isWhole) := goodIn_app (goodIn_of _ (by decide +kernel)) ggX11_holds_X11_isWhole
set_option maxRecDepth 20000 in
theorem ggX11_holds_X11_faultNow : GoodIn wsX11_holds wsX11_faultNow := goodIn_r _ [17, 18, 19, 20, 21, 22, 23, 24, 25, 4, 26, 27, 28, 29, 30, 31, 32, 33, 34, 35, 36, 37, 38, 6, 7, 8, 62, 63, 64, 65, 66, 67, 68, 69, 70, 71, 72, 73, 74, 75, 76, 77, 78, 79, 80, 81, 82, 83, 84, 85] (by decide +kernel) (by decide +kernel)
set_option maxRecDepth 20000 in
theorem gX11_holds_X11_faultNow : GoodIn wsX11_holds (wsV RX11 127 RX11 yX11_faultNow wsX11_faultNow) := goodIn_app (goodIn_of _ (by decide +kernel)) ggX11_holds_X11_faultNow
set_option maxRecDepth 20000 in
theorem ggX11_holds_X11_bitsOf : GoodIn wsX11_holds wsX11_bitsOf := goodIn_r _ [42, 1, 13, 62, 63, 64, 65, 66, 67, 68, 69, 70, 71, 72, 73, 74, 75, 76, 77, 78, 79, 80, 81, 82, 83, 84, 85] (by decide +kernel) (by decide +kernel)
set_option maxRecDepth 20000 in
theorem gX11_holds_X11_bitsOf : GoodIn wsX11_holds (wsV RX11 90 RX11 yX11_bitsOf wsX11_bitsOf) := goodIn_app (goodIn_of _ (by decide +kernel)) ggX11_holds_X11_bitsOf
set_option maxRecDepth 20000 in
theorem ggX11_holds_X11_does : GoodIn wsX11_holds wsX11_does := goodIn_r _ [46, 21, 30, 27, 28, 29, 47, 48, 49, 4, 50, 51, 52, 53, 54, 55, 56, 57, 58, 59, 60, 61, 62, 63, 64, 65, 66, 67, 68, 69, 70, 71, 72, 73, 74, 75, 76, 77, 78, 79, 80, 81, 82, 83, 84, 85] (by decide +kernel) (by decide +kernel)
set_option maxRecDepth 20000 in
theorem gX11_holds_X11_does : GoodIn wsX11_holds (wsV RX11 130 RX11 yX11_does wsX11_does) := goodIn_app (goodIn_of _ (by decide +kernel)) ggX11_holds_X11_does
set_option maxRecDepth 20000 in
theorem ggX11_shownNow_X11_faultNow : GoodIn wsX11_shownNow wsX11_faultNow := goodIn_r _ [5, 6, 7, 8, 9, 10, 11, 12, 13, 4, 14, 15, 16, 17, 18, 19, 20, 21, 22, 23, 24, 25, 26, 27, 28, 29, 49, 50, 51, 52, 53, 54, 55, 56, 57, 58, 59, 60, 61, 62, 63, 64, 65, 66, 67, 68, 69, 70, 71, 72] (by decide +kernel) (by decide +kernel)
set_option maxRecDepth 20000 in
theorem gX11_shownNow_X11_faultNow : GoodIn wsX11_shownNow (wsV RX11 127 RX11 yX11_faultNow wsX11_faultNow) := goodIn_app (goodIn_of _ (by decide +kernel)) ggX11_shownNow_X11_faultNow
set_option maxRecDepth 20000 in
theorem ggX11_shownNow_X11_ones : GoodIn wsX11_shownNow wsX11_ones := goodIn_r _ [32] (by decide +kernel) (by decide +kernel)
set_option maxRecDepth 20000 in
theorem gX11_shownNow_X11_ones : GoodIn wsX11_shownNow (va_wsS RX11 81 yX11_ones wsX11_ones) := goodIn_app (goodIn_of _ (by decide +kernel)) ggX11_shownNow_X11_ones
set_option maxRecDepth 20000 in
theorem ggX11_shownNow_X11_does : GoodIn wsX11_shownNow wsX11_does := goodIn_r _ [36, 9, 18, 15, 16, 17, 37, 38, 39, 4, 40, 30, 31, 32, 41, 42, 43, 44, 45, 46, 47, 48, 49, 50, 51, 52, 53, 54, 55, 56, 57, 58, 59, 60, 61, 62, 63, 64, 65, 66, 67, 68, 69, 70, 71, 72] (by decide +kernel) (by decide +kernel)
set_option maxRecDepth 20000 in
theorem gX11_shownNow_X11_does : GoodIn wsX11_shownNow (wsV RX11 130 RX11 yX11_does wsX11_does) := goodIn_app (goodIn_of _ (by decide +kernel)) ggX11_shownNow_X11_does
set_option maxRecDepth 20000 in
theorem ggX11_shown_X11_in : GoodIn wsX11_shown wsX11_in := goodIn_r _ [4] (by decide +kernel) (by decide +kernel)
set_option maxRecDepth 20000 in
theorem gX11_shown_X11_in : GoodIn wsX11_shown (va_wsS RX11 59 yX11_in wsX11_in) := goodIn_app (goodIn_of _ (by decide +kernel)) ggX11_shown_X11_in
set_option maxRecDepth 20000 in
theorem ggX11_shown_X11_shownNow : GoodIn wsX11_shown wsX11_shownNow := goodIn_r _ [8, 9, 10, 11, 3, 12, 13, 14, 15, 16, 17, 18, 19, 20, 21, 22, 23, 24, 25, 26, 27, 28, 29, 30, 31, 32, 33, 1, 2, 4, 34, 35, 36, 37, 38, 39, 40, 41, 42, 43, 44, 45, 46, 47, 48, 49, 50, 51, 52, 53, 54, 55, 56, 57, 58, 59, 60, 61, 62, 63, 64, 65, 66, 67, 68, 69, 70, 71, 72, 73, 74, 75, 76] (by decide +kernel) (by decide +kernel)
set_option maxRecDepth 20000 in
theorem gX11_shown_X11_shownNow : GoodIn wsX11_shown (wsV RX11 134 RX11 yX11_shownNow wsX11_shownNow) := goodIn_app (goodIn_of _ (by decide +kernel)) ggX11_shown_X11_shownNow
set_option maxRecDepth 20000 in
theorem ggX11_nth_X11_in : GoodIn wsX11_nth wsX11_in := goodIn_r _ [4] (by decide +kernel) (by decide +kernel)
set_option maxRecDepth 20000 in
theorem gX11_nth_X11_in : GoodIn wsX11_nth (va_wsS RX11 59 yX11_in wsX11_in) := goodIn_app (goodIn_of _ (by decide +kernel)) ggX11_nth_X11_in
set_option maxRecDepth 20000 in
theorem ggX11_nth_X11_faultNow : GoodIn wsX11_nth wsX11_faultNow := goodIn_r _ [8, 9, 10, 11, 12, 13, 14, 15, 16, 3, 17, 18, 19, 20, 21, 22, 23, 24, 25, 26, 27, 28, 29, 1, 2, 4, 49, 50, 51, 52, 53, 54, 55, 56, 57, 58, 59, 60, 61, 62, 63, 64, 65, 66, 67, 68, 69, 70, 71, 72] (by decide +kernel) (by decide +kernel)
set_option maxRecDepth 20000 in
theorem gX11_nth_X11_faultNow : GoodIn wsX11_nth (wsV RX11 127 RX11 yX11_faultNow wsX11_faultNow) := goodIn_app (goodIn_of _ (by decide +kernel)) ggX11_nth_X11_faultNow
set_option maxRecDepth 20000 in
theorem ggX11_nth_X11_does : GoodIn wsX11_nth wsX11_does := goodIn_r _ [33, 12, 21, 18, 19, 20, 34, 35, 36, 3, 37, 38, 39, 40, 41, 42, 43, 44, 45, 46, 47, 48, 49, 50, 51, 52, 53, 54, 55, 56, 57, 58, 59, 60, 61, 62, 63, 64, 65, 66, 67, 68, 69, 70, 71, 72] (by decide +kernel) (by decide +kernel)
set_option maxRecDepth 20000 in
theorem gX11_nth_X11_does : GoodIn wsX11_nth (wsV RX11 130 RX11 yX11_does wsX11_does) := goodIn_app (goodIn_of _ (by decide +kernel)) ggX11_nth_X11_does
set_option maxRecDepth 20000 in
theorem ggX11_share_X11_in : GoodIn wsX11_share wsX11_in := goodIn_r _ [6] (by decide +kernel) (by decide +kernel)
set_option maxRecDepth 20000 in
theorem gX11_share_X11_in : GoodIn wsX11_share (va_wsS RX11 59 yX11_in wsX11_in) := goodIn_app (goodIn_of _ (by decide +kernel)) ggX11_share_X11_in
set_option maxRecDepth 20000 in
theorem ggX11_share_X11_no : GoodIn wsX11_share wsX11_no := goodIn_r _ [9, 10] (by decide +kernel) (by decide +kernel)
set_option maxRecDepth 20000 in
theorem gX11_share_X11_no : GoodIn wsX11_share (va_wsS RX11 137 yX11_no wsX11_no) := goodIn_app (goodIn_of _ (by decide +kernel)) ggX11_share_X11_no
set_option maxRecDepth 20000 in
theorem ggX11_share_X11_faultNow : GoodIn wsX11_share wsX11_faultNow := goodIn_r _ [14, 15, 16, 17, 18, 19, 20, 21, 22, 5, 23, 24, 25, 26, 27, 28, 29, 30, 31, 32, 33, 34, 35, 3, 4, 6, 61, 62, 63, 64, 65, 66, 67, 68, 69, 70, 71, 72, 73, 74, 75, 76, 77, 78, 79, 80, 81, 82, 83, 84] (by decide +kernel) (by decide +kernel)
set_option maxRecDepth 20000 in
theorem gX11_share_X11_faultNow : GoodIn wsX11_share (wsV RX11 127 RX11 yX11_faultNow wsX11_faultNow) := goodIn_app (goodIn_of _ (by decide +kernel)) ggX11_share_X11_faultNow
set_option maxRecDepth 20000 in
theorem ggX11_share_X11_does : GoodIn wsX11_share wsX11_does := goodIn_r _ [39, 18, 27, 24, 25, 26, 40, 41, 42, 5, 43, 44, 45, 46, 47, 48, 49, 50, 51, 52, 53, 54, 61, 62, 63, 64, 65, 66, 67, 68, 69, 70, 71, 72, 73, 74, 75, 76, 77, 78, 79, 80, 81, 82, 83, 84] (by decide +kernel) (by decide +kernel)
set_option maxRecDepth 20000 in
theorem gX11_share_X11_does : GoodIn wsX11_share (wsV RX11 130 RX11 yX11_does wsX11_does) := goodIn_app (goodIn_of _ (by decide +kernel)) ggX11_share_X11_does
set_option maxRecDepth 20000 in
theorem ggX11_share_X11_ones : GoodIn wsX11_share wsX11_ones := goodIn_r _ [46] (by decide +kernel) (by decide +kernel)
set_option maxRecDepth 20000 in
theorem gX11_share_X11_ones : GoodIn wsX11_share (va_wsS RX11 81 yX11_ones wsX11_ones) := goodIn_app (goodIn_of _ (by decide +kernel)) ggX11_share_X11_ones
set_option maxRecDepth 20000 in
theorem ggX11_share_X11_power : GoodIn wsX11_share wsX11_power := goodIn_r _ [57] (by decide +kernel) (by decide +kernel)
set_option maxRecDepth 20000 in
theorem gX11_share_X11_power : GoodIn wsX11_share (va_wsS RX11 141 yX11_power wsX11_power) := goodIn_app (goodIn_of _ (by decide +kernel)) ggX11_share_X11_power
set_option maxRecDepth 20000 in
theorem ggX11_share_X11_lowest : GoodIn wsX11_share wsX11_lowest := goodIn_r _ [60] (by decide +kernel) (by decide +kernel)
set_option maxRecDepth 20000 in
theorem gX11_share_X11_lowest : GoodIn wsX11_share (va_wsS RX11 147 yX11_lowest wsX11_lowest) := goodIn_app (goodIn_of _ (by decide +kernel)) ggX11_share_X11_lowest
set_option maxRecDepth 20000 in
theorem ggX11_fill_X11_bitsOf : GoodIn wsX11_fill wsX11_bitsOf := goodIn_r _ [7, 8, 9, 10, 11, 12, 13, 14, 15, 16, 17, 18, 19, 20, 21, 22, 23, 24, 25, 26, 27, 28, 29, 30, 31, 32, 33] (by decide +kernel) (by decide +kernel)
set_option maxRecDepth 20000 in
theorem gX11_fill_X11_bitsOf : GoodIn wsX11_fill (wsV RX11 90 RX11 yX11_bitsOf wsX11_bitsOf) := goodIn_app (goodIn_of _ (by decide +kernel)) ggX11_fill_X11_bitsOf
set_option maxRecDepth 20000 in
theorem ggX11_fills_X11_isRow : GoodIn wsX11_fills wsX11_isRow := goodIn_r _ [6, 7, 8, 5, 9] (by decide +kernel) (by decide +kernel)
set_option maxRecDepth 20000 in
theorem gX11_fills_X11_isRow : GoodIn wsX11_fills (va_wsS RX11 63 yX11_isRow wsX11_isRow) := goodIn_app (goodIn_of _ (by decide +kernel)) ggX11_fills_X11_isRow
set_option maxRecDepth 20000 in
theorem ggX11_fills_X11_in : GoodIn wsX11_fills wsX11_in := goodIn_r _ [9] (by decide +kernel) (by decide +kernel)
set_option maxRecDepth 20000 in
theorem gX11_fills_X11_in : GoodIn wsX11_fills (va_wsS RX11 59 yX11_in wsX11_in) := goodIn_app (goodIn_of _ (by decide +kernel)) ggX11_fills_X11_in
set_option maxRecDepth 20000 in
theorem ggX11_fills_X11_gathers : GoodIn wsX11_fills wsX11_gathers := goodIn_r _ [13, 1, 2, 14, 15, 68, 69, 70, 71, 72, 73, 74, 75, 76, 77, 78, 79, 80, 81, 82, 83, 84, 85, 86, 87, 88, 89, 90, 91] (by decide +kernel) (by decide +kernel)
set_option maxRecDepth 20000 in
theorem gX11_fills_X11_gathers : GoodIn wsX11_fills (wsV RX11 154 RX11 yX11_gathers wsX11_gathers) := goodIn_app (goodIn_of _ (by decide +kernel)) ggX11_fills_X11_gathers
set_option maxRecDepth 20000 in
theorem ggX11_fills_X11_faultNow : GoodIn wsX11_fills wsX11_faultNow := goodIn_r _ [19, 20, 21, 22, 23, 24, 25, 26, 27, 5, 28, 29, 30, 31, 32, 33, 34, 35, 36, 37, 38, 39, 40, 7, 8, 9, 68, 69, 70, 71, 72, 73, 74, 75, 76, 77, 78, 79, 80, 81, 82, 83, 84, 85, 86, 87, 88, 89, 90, 91] (by decide +kernel) (by decide +kernel)
set_option maxRecDepth 20000 in
theorem gX11_fills_X11_faultNow : GoodIn wsX11_fills (wsV RX11 127 RX11 yX11_faultNow wsX11_faultNow) := goodIn_app (goodIn_of _ (by decide +kernel)) ggX11_fills_X11_faultNow
set_option maxRecDepth 20000 in
theorem ggX11_fills_X11_fill : GoodIn wsX11_fills wsX11_fill := goodIn_r _ [44, 1, 15, 45, 46, 47, 5, 48, 2, 14, 68, 69, 70, 71, 72, 73, 74, 75, 76, 77, 78, 79, 80, 81, 82, 83, 84, 85, 86, 87, 88, 89, 90, 91] (by decide +kernel) (by decide +kernel)
set_option maxRecDepth 20000 in
theorem gX11_fills_X11_fill : GoodIn wsX11_fills (wsV RX11 158 RX11 yX11_fill wsX11_fill) := goodIn_app (goodIn_of _ (by decide +kernel)) ggX11_fills_X11_fill
set_option maxRecDepth 20000 in
theorem ggX11_fills_X11_does : GoodIn wsX11_fills wsX11_does := goodIn_r _ [52, 23, 32, 29, 30, 31, 53, 54, 55, 5, 56, 57, 58, 59, 60, 61, 62, 63, 64, 65, 66, 67, 68, 69, 70, 71, 72, 73, 74, 75, 76, 77, 78, 79, 80, 81, 82, 83, 84, 85, 86, 87, 88, 89, 90, 91] (by decide +kernel) (by decide +kernel)
set_option maxRecDepth 20000 in
theorem gX11_fills_X11_does : GoodIn wsX11_fills (wsV RX11 130 RX11 yX11_does wsX11_does) := goodIn_app (goodIn_of _ (by decide +kernel)) ggX11_fills_X11_does
set_option maxRecDepth 20000 in
theorem ggX11_filled_X11_isRow : GoodIn wsX11_filled wsX11_isRow := goodIn_r _ [8, 9, 10, 7, 11] (by decide +kernel) (by decide +kernel)
set_option maxRecDepth 20000 in
theorem gX11_filled_X11_isRow : GoodIn wsX11_filled (va_wsS RX11 63 yX11_isRow wsX11_isRow) := goodIn_app (goodIn_of _ (by decide +kernel)) ggX11_filled_X11_isRow
set_option maxRecDepth 20000 in
theorem ggX11_filled_X11_in : GoodIn wsX11_filled wsX11_in := goodIn_r _ [11] (by decide +kernel) (by decide +kernel)
set_option maxRecDepth 20000 in
theorem gX11_filled_X11_in : GoodIn wsX11_filled (va_wsS RX11 59 yX11_in wsX11_in) := goodIn_app (goodIn_of _ (by decide +kernel)) ggX11_filled_X11_in
set_option maxRecDepth 20000 in
theorem ggX11_filled_X11_no : GoodIn wsX11_filled wsX11_no := goodIn_r _ [14, 15] (by decide +kernel) (by decide +kernel)
set_option maxRecDepth 20000 in
theorem gX11_filled_X11_no : GoodIn wsX11_filled (va_wsS RX11 137 yX11_no wsX11_no) := goodIn_app (goodIn_of _ (by decide +kernel)) ggX11_filled_X11_no
set_option maxRecDepth 20000 in
theorem ggX11_filled_X11_faultNow : GoodIn wsX11_filled wsX11_faultNow := goodIn_r _ [19, 20, 21, 22, 23, 24, 25, 26, 27, 7, 28, 29, 30, 31, 32, 33, 34, 35, 36, 37, 38, 39, 40, 9, 10, 11, 80, 81, 82, 83, 84, 85, 86, 87, 88, 89, 90, 91, 92, 93, 94, 95, 96, 97, 98, 99, 100, 101, 102, 103] (by decide +kernel) (by decide +kernel)
set_option maxRecDepth 20000 in
theorem gX11_filled_X11_faultNow : GoodIn wsX11_filled (wsV RX11 127 RX11 yX11_faultNow wsX11_faultNow) := goodIn_app (goodIn_of _ (by decide +kernel)) ggX11_filled_X11_faultNow
set_option maxRecDepth 20000 in
theorem ggX11_filled_X11_gathers : GoodIn wsX11_filled wsX11_gathers := goodIn_r _ [44, 1, 2, 45, 46, 80, 81, 82, 83, 84, 85, 86, 87, 88, 89, 90, 91, 92, 93, 94, 95, 96, 97, 98, 99, 100, 101, 102, 103] (by decide +kernel) (by decide +kernel)
set_option maxRecDepth 20000 in
theorem gX11_filled_X11_gathers : GoodIn wsX11_filled (wsV RX11 154 RX11 yX11_gathers wsX11_gathers) := goodIn_app (goodIn_of _ (by decide +kernel)) ggX11_filled_X11_gathers
set_option maxRecDepth 20000 in
theorem ggX11_filled_X11_fill : GoodIn wsX11_filled wsX11_fill := goodIn_r _ [50, 1, 46, 51, 52, 53, 7, 54, 2, 45, 80, 81, 82, 83, 84, 85, 86, 87, 88, 89, 90, 91, 92, 93, 94, 95, 96, 97, 98, 99, 100, 101, 102, 103] (by decide +kernel) (by decide +kernel)
set_option maxRecDepth 20000 in
theorem gX11_filled_X11_fill : GoodIn wsX11_filled (wsV RX11 158 RX11 yX11_fill wsX11_fill) := goodIn_app (goodIn_of _ (by decide +kernel)) ggX11_filled_X11_fill
set_option maxRecDepth 20000 in
theorem ggX11_filled_X11_does : GoodIn wsX11_filled wsX11_does := goodIn_r _ [58, 23, 32, 29, 30, 31, 59, 60, 61, 7, 62, 63, 64, 65, 66, 67, 68, 69, 70, 71, 72, 73, 80, 81, 82, 83, 84, 85, 86, 87, 88, 89, 90, 91, 92, 93, 94, 95, 96, 97, 98, 99, 100, 101, 102, 103] (by decide +kernel) (by decide +kernel)
set_option maxRecDepth 20000 in
theorem gX11_filled_X11_does : GoodIn wsX11_filled (wsV RX11 130 RX11 yX11_does wsX11_does) := goodIn_app (goodIn_of _ (by decide +kernel)) ggX11_filled_X11_does
set_option maxRecDepth 20000 in
theorem ggX11_filled_X11_ones : GoodIn wsX11_filled wsX11_ones := goodIn_r _ [65] (by decide +kernel) (by decide +kernel)
set_option maxRecDepth 20000 in
theorem gX11_filled_X11_ones : GoodIn wsX11_filled (va_wsS RX11 81 yX11_ones wsX11_ones) := goodIn_app (goodIn_of _ (by decide +kernel)) ggX11_filled_X11_ones
set_option maxRecDepth 20000 in
theorem ggX11_filled_X11_power : GoodIn wsX11_filled wsX11_power := goodIn_r _ [76] (by decide +kernel) (by decide +kernel)
set_option maxRecDepth 20000 in
theorem gX11_filled_X11_power : GoodIn wsX11_filled (va_wsS RX11 141 yX11_power wsX11_power) := goodIn_app (goodIn_of _ (by decide +kernel)) ggX11_filled_X11_power
set_option maxRecDepth 20000 in
theorem ggX11_filled_X11_lowest : GoodIn wsX11_filled wsX11_lowest := goodIn_r _ [79] (by decide +kernel) (by decide +kernel)
set_option maxRecDepth 20000 in
theorem gX11_filled_X11_lowest : GoodIn wsX11_filled (va_wsS RX11 147 yX11_lowest wsX11_lowest) := goodIn_app (goodIn_of _ (by decide +kernel)) ggX11_filled_X11_lowest
set_option maxRecDepth 20000 in
theorem ggX11_sure_X11_isRow : GoodIn wsX11_sure wsX11_isRow := goodIn_r _ [6, 7, 8, 5, 9] (by decide +kernel) (by decide +kernel)
set_option maxRecDepth 20000 in
theorem gX11_sure_X11_isRow : GoodIn wsX11_sure (va_wsS RX11 63 yX11_isRow wsX11_isRow) := goodIn_app (goodIn_of _ (by decide +kernel)) ggX11_sure_X11_isRow
set_option maxRecDepth 20000 in
theorem ggX11_sure_X11_faultNow : GoodIn wsX11_sure wsX11_faultNow := goodIn_r _ [13, 14, 15, 16, 17, 18, 19, 20, 21, 5, 22, 23, 24, 25, 26, 27, 28, 29, 30, 31, 32, 33, 34, 7, 8, 9, 68, 69, 70, 71, 72, 73, 74, 75, 76, 77, 78, 79, 80, 81, 82, 83, 84, 85, 86, 87, 88, 89, 90, 91] (by decide +kernel) (by decide +kernel)
set_option maxRecDepth 20000 in
theorem gX11_sure_X11_faultNow : GoodIn wsX11_sure (wsV RX11 127 RX11 yX11_faultNow wsX11_faultNow) := goodIn_app (goodIn_of _ (by decide +kernel)) ggX11_sure_X11_faultNow
set_option maxRecDepth 20000 in
theorem ggX11_sure_X11_gathers : GoodIn wsX11_sure wsX11_gathers := goodIn_r _ [38, 2, 1, 39, 40, 68, 69, 70, 71, 72, 73, 74, 75, 76, 77, 78, 79, 80, 81, 82, 83, 84, 85, 86, 87, 88, 89, 90, 91] (by decide +kernel) (by decide +kernel)
set_option maxRecDepth 20000 in
theorem gX11_sure_X11_gathers : GoodIn wsX11_sure (wsV RX11 154 RX11 yX11_gathers wsX11_gathers) := goodIn_app (goodIn_of _ (by decide +kernel)) ggX11_sure_X11_gathers
set_option maxRecDepth 20000 in
theorem ggX11_sure_X11_fill : GoodIn wsX11_sure wsX11_fill := goodIn_r _ [44, 2, 40, 45, 46, 47, 5, 48, 1, 39, 68, 69, 70, 71, 72, 73, 74, 75, 76, 77, 78, 79, 80, 81, 82, 83, 84, 85, 86, 87, 88, 89, 90, 91] (by decide +kernel) (by decide +kernel)
set_option maxRecDepth 20000 in
theorem gX11_sure_X11_fill : GoodIn wsX11_sure (wsV RX11 158 RX11 yX11_fill wsX11_fill) := goodIn_app (goodIn_of _ (by decide +kernel)) ggX11_sure_X11_fill
set_option maxRecDepth 20000 in
theorem ggX11_sure_X11_does : GoodIn wsX11_sure wsX11_does := goodIn_r _ [52, 17, 26, 23, 24, 25, 53, 54, 55, 5, 56, 57, 58, 59, 60, 61, 62, 63, 64, 65, 66, 67, 68, 69, 70, 71, 72, 73, 74, 75, 76, 77, 78, 79, 80, 81, 82, 83, 84, 85, 86, 87, 88, 89, 90, 91] (by decide +kernel) (by decide +kernel)
set_option maxRecDepth 20000 in
theorem gX11_sure_X11_does : GoodIn wsX11_sure (wsV RX11 130 RX11 yX11_does wsX11_does) := goodIn_app (goodIn_of _ (by decide +kernel)) ggX11_sure_X11_does
set_option maxRecDepth 20000 in
theorem ggX11_dealtMany_X11_bitsOf : GoodIn wsX11_dealtMany wsX11_bitsOf := goodIn_r _ [6, 1, 7, 23, 24, 25, 26, 27, 28, 29, 30, 31, 32, 33, 34, 35, 36, 37, 38, 39, 40, 41, 42, 43, 44, 45, 46] (by decide +kernel) (by decide +kernel)
set_option maxRecDepth 20000 in
theorem gX11_dealtMany_X11_bitsOf : GoodIn wsX11_dealtMany (wsV RX11 90 RX11 yX11_bitsOf wsX11_bitsOf) := goodIn_app (goodIn_of _ (by decide +kernel)) ggX11_dealtMany_X11_bitsOf
set_option maxRecDepth 20000 in
theorem ggX11_dealtMany_X11_ones : GoodIn wsX11_dealtMany wsX11_ones := goodIn_r _ [10] (by decide +kernel) (by decide +kernel)
set_option maxRecDepth 20000 in
theorem gX11_dealtMany_X11_ones : GoodIn wsX11_dealtMany (va_wsS RX11 81 yX11_ones wsX11_ones) := goodIn_app (goodIn_of _ (by decide +kernel)) ggX11_dealtMany_X11_ones
set_option maxRecDepth 20000 in
theorem ggX11_dealtMany_X11_numberOf : GoodIn wsX11_dealtMany wsX11_numberOf := goodIn_r _ [14, 8, 9, 5, 10, 15, 16, 17, 18, 19, 20, 21, 22, 23, 24, 25, 26, 27, 28, 29, 30, 31, 32, 33, 34, 35, 36, 37, 38, 39, 40, 41, 42, 43, 44, 45, 46] (by decide +kernel) (by decide +kernel)
set_option maxRecDepth 20000 in
theorem gX11_dealtMany_X11_numberOf : GoodIn wsX11_dealtMany (wsV RX11 93 RX11 yX11_numberOf wsX11_numberOf) := goodIn_app (goodIn_of _ (by decide +kernel)) ggX11_dealtMany_X11_numberOf
set_option maxRecDepth 20000 in
theorem ggX11_dealtAll_X11_bitsOf : GoodIn wsX11_dealtAll wsX11_bitsOf := goodIn_r _ [6, 1, 7, 14, 15, 16, 17, 18, 19, 20, 21, 22, 23, 24, 25, 26, 27, 28, 29, 30, 31, 32, 33, 34, 35, 36, 37] (by decide +kernel) (by decide +kernel)
set_option maxRecDepth 20000 in
theorem gX11_dealtAll_X11_bitsOf : GoodIn wsX11_dealtAll (wsV RX11 90 RX11 yX11_bitsOf wsX11_bitsOf) := goodIn_app (goodIn_of _ (by decide +kernel)) ggX11_dealtAll_X11_bitsOf
set_option maxRecDepth 20000 in
theorem ggX11_dealtAll_X11_ones : GoodIn wsX11_dealtAll wsX11_ones := goodIn_r _ [10] (by decide +kernel) (by decide +kernel)
set_option maxRecDepth 20000 in
theorem gX11_dealtAll_X11_ones : GoodIn wsX11_dealtAll (va_wsS RX11 81 yX11_ones wsX11_ones) := goodIn_app (goodIn_of _ (by decide +kernel)) ggX11_dealtAll_X11_ones
set_option maxRecDepth 20000 in
theorem ggX11_dealtAll_X11_choose : GoodIn wsX11_dealtAll wsX11_choose := goodIn_r _ [13] (by decide +kernel) (by decide +kernel)
set_option maxRecDepth 20000 in
theorem gX11_dealtAll_X11_choose : GoodIn wsX11_dealtAll (va_wsS RX11 161 yX11_choose wsX11_choose) := goodIn_app (goodIn_of _ (by decide +kernel)) ggX11_dealtAll_X11_choose
set_option maxRecDepth 20000 in
theorem ggX11_dealt_X11_isRow : GoodIn wsX11_dealt wsX11_isRow := goodIn_r _ [5, 6, 7, 4, 8] (by decide +kernel) (by decide +kernel)
set_option maxRecDepth 20000 in
theorem gX11_dealt_X11_isRow : GoodIn wsX11_dealt (va_wsS RX11 63 yX11_isRow wsX11_isRow) := goodIn_app (goodIn_of _ (by decide +kernel)) ggX11_dealt_X11_isRow
set_option maxRecDepth 20000 in
theorem ggX11_dealt_X11_in : GoodIn wsX11_dealt wsX11_in := goodIn_r _ [8] (by decide +kernel) (by decide +kernel)
set_option maxRecDepth 20000 in
theorem gX11_dealt_X11_in : GoodIn wsX11_dealt (va_wsS RX11 59 yX11_in wsX11_in) := goodIn_app (goodIn_of _ (by decide +kernel)) ggX11_dealt_X11_in
set_option maxRecDepth 20000 in
theorem ggX11_dealt_X11_isWhole : GoodIn wsX11_dealt wsX11_isWhole := goodIn_r _ [12, 13, 14, 45, 46, 47, 48, 49, 50, 51, 52, 53, 54, 55, 56, 57, 58, 59, 60, 61, 62, 63, 64, 65, 66, 67, 68] (by decide +kernel) (by decide +kernel)
set_option maxRecDepth 20000 in
theorem gX11_dealt_X11_isWhole : GoodIn wsX11_dealt (wsV RX11 87 RX11 yX11_isWhole wsX11_isWhole) := goodIn_app (goodIn_of _ (by decide +kernel)) ggX11_dealt_X11_isWhole
set_option maxRecDepth 20000 in
theorem ggX11_dealt_X11_dealtMany : GoodIn wsX11_dealt wsX11_dealtMany := goodIn_r _ [18, 13, 19, 20, 21, 4, 22, 14, 23, 24, 25, 26, 27, 28, 29, 30, 31, 32, 33, 34, 35, 36, 37, 45, 46, 47, 48, 49, 50, 51, 52, 53, 54, 55, 56, 57, 58, 59, 60, 61, 62, 63, 64, 65, 66, 67, 68] (by decide +kernel) (by decide +kernel)
set_option maxRecDepth 20000 in
theorem gX11_dealt_X11_dealtMany : GoodIn wsX11_dealt (wsV RX11 167 RX11 yX11_dealtMany wsX11_dealtMany) := goodIn_app (goodIn_of _ (by decide +kernel)) ggX11_dealt_X11_dealtMany
set_option maxRecDepth 20000 in
theorem ggX11_dealt_X11_dealtAll : GoodIn wsX11_dealt wsX11_dealtAll := goodIn_r _ [41, 13, 19, 20, 21, 4, 22, 14, 23, 24, 25, 42, 43, 44, 45, 46, 47, 48, 49, 50, 51, 52, 53, 54, 55, 56, 57, 58, 59, 60, 61, 62, 63, 64, 65, 66, 67, 68] (by decide +kernel) (by decide +kernel)
set_option maxRecDepth 20000 in
theorem gX11_dealt_X11_dealtAll : GoodIn wsX11_dealt (wsV RX11 171 RX11 yX11_dealtAll wsX11_dealtAll) := goodIn_app (goodIn_of _ (by decide +kernel)) ggX11_dealt_X11_dealtAll
set_option maxRecDepth 20000 in
theorem ggX11_strangest_X11_isRow : GoodIn wsX11_strangest wsX11_isRow := goodIn_r _ [5, 6, 7, 4, 8] (by decide +kernel) (by decide +kernel)
set_option maxRecDepth 20000 in
theorem gX11_strangest_X11_isRow : GoodIn wsX11_strangest (va_wsS RX11 63 yX11_isRow wsX11_isRow) := goodIn_app (goodIn_of _ (by decide +kernel)) ggX11_strangest_X11_isRow
set_option maxRecDepth 20000 in
theorem ggX11_strangest_X11_isWhole : GoodIn wsX11_strangest wsX11_isWhole := goodIn_r _ [12, 1, 13, 37, 38, 39, 40, 41, 42, 43, 44, 45, 46, 47, 48, 49, 50, 51, 52, 53, 54, 55, 56, 57, 58, 59, 60] (by decide +kernel) (by decide +kernel)
set_option maxRecDepth 20000 in
theorem gX11_strangest_X11_isWhole : GoodIn wsX11_strangest (wsV RX11 87 RX11 yX11_isWhole wsX11_isWhole) := goodIn_app (goodIn_of _ (by decide +kernel)) ggX11_strangest_X11_isWhole
set_option maxRecDepth 20000 in
theorem ggX11_strangest_X11_dealtMany : GoodIn wsX11_strangest wsX11_dealtMany := goodIn_r _ [17, 1, 18, 19, 20, 4, 21, 13, 22, 23, 24, 25, 26, 27, 28, 29, 30, 31, 32, 33, 34, 35, 36, 37, 38, 39, 40, 41, 42, 43, 44, 45, 46, 47, 48, 49, 50, 51, 52, 53, 54, 55, 56, 57, 58, 59, 60] (by decide +kernel) (by decide +kernel)
set_option maxRecDepth 20000 in
theorem gX11_strangest_X11_dealtMany : GoodIn wsX11_strangest (wsV RX11 167 RX11 yX11_dealtMany wsX11_dealtMany) := goodIn_app (goodIn_of _ (by decide +kernel)) ggX11_strangest_X11_dealtMany
set_option maxRecDepth 20000 in
theorem ggX11_hot_X11_isRow : GoodIn wsX11_hot wsX11_isRow := goodIn_r _ [7, 8, 9, 6, 10] (by decide +kernel) (by decide +kernel)
set_option maxRecDepth 20000 in
theorem gX11_hot_X11_isRow : GoodIn wsX11_hot (va_wsS RX11 63 yX11_isRow wsX11_isRow) := goodIn_app (goodIn_of _ (by decide +kernel)) ggX11_hot_X11_isRow
set_option maxRecDepth 20000 in
theorem ggX11_hot_X11_in : GoodIn wsX11_hot wsX11_in := goodIn_r _ [10] (by decide +kernel) (by decide +kernel)
set_option maxRecDepth 20000 in
theorem gX11_hot_X11_in : GoodIn wsX11_hot (va_wsS RX11 59 yX11_in wsX11_in) := goodIn_app (goodIn_of _ (by decide +kernel)) ggX11_hot_X11_in
set_option maxRecDepth 20000 in
theorem ggX11_hot_X11_no : GoodIn wsX11_hot wsX11_no := goodIn_r _ [13, 14] (by decide +kernel) (by decide +kernel)
set_option maxRecDepth 20000 in
theorem gX11_hot_X11_no : GoodIn wsX11_hot (va_wsS RX11 137 yX11_no wsX11_no) := goodIn_app (goodIn_of _ (by decide +kernel)) ggX11_hot_X11_no
set_option maxRecDepth 20000 in
theorem ggX11_hot_X11_isWhole : GoodIn wsX11_hot wsX11_isWhole := goodIn_r _ [18, 1, 19, 31, 32, 33, 34, 35, 36, 37, 38, 39, 40, 41, 42, 43, 44, 45, 46, 47, 48, 49, 50, 51, 52, 53, 54] (by decide +kernel) (by decide +kernel)
set_option maxRecDepth 20000 in
theorem gX11_hot_X11_isWhole : GoodIn wsX11_hot (wsV RX11 87 RX11 yX11_isWhole wsX11_isWhole) := goodIn_app (goodIn_of _ (by decide +kernel)) ggX11_hot_X11_isWhole
set_option maxRecDepth 20000 in
theorem ggX11_hot_X11_bitsOf : GoodIn wsX11_hot wsX11_bitsOf := goodIn_r _ [23, 1, 19, 31, 32, 33, 34, 35, 36, 37, 38, 39, 40, 41, 42, 43, 44, 45, 46, 47, 48, 49, 50, 51, 52, 53, 54] (by decide +kernel) (by decide +kernel)
set_option maxRecDepth 20000 in
theorem gX11_hot_X11_bitsOf : GoodIn wsX11_hot (wsV RX11 90 RX11 yX11_bitsOf wsX11_bitsOf) := goodIn_app (goodIn_of _ (by decide +kernel)) ggX11_hot_X11_bitsOf
set_option maxRecDepth 20000 in
theorem ggX11_hot_X11_behind : GoodIn wsX11_hot wsX11_behind := goodIn_r _ [27, 2, 3, 31, 32, 33, 34, 35, 36, 37, 38, 39, 40, 41, 42, 43, 44, 45, 46, 47, 48, 49, 50, 51, 52, 53, 54] (by decide +kernel) (by decide +kernel)
set_option maxRecDepth 20000 in
theorem gX11_hot_X11_behind : GoodIn wsX11_hot (wsV RX11 180 RX11 yX11_behind wsX11_behind) := goodIn_app (goodIn_of _ (by decide +kernel)) ggX11_hot_X11_behind
set_option maxRecDepth 20000 in
theorem ggX11_hot_X11_lowest : GoodIn wsX11_hot wsX11_lowest := goodIn_r _ [30] (by decide +kernel) (by decide +kernel)
set_option maxRecDepth 20000 in
theorem gX11_hot_X11_lowest : GoodIn wsX11_hot (va_wsS RX11 147 yX11_lowest wsX11_lowest) := goodIn_app (goodIn_of _ (by decide +kernel)) ggX11_hot_X11_lowest
set_option maxRecDepth 20000 in
theorem ggX11_already_X11_isRow : GoodIn wsX11_already wsX11_isRow := goodIn_r _ [8, 9, 10, 7, 11] (by decide +kernel) (by decide +kernel)
set_option maxRecDepth 20000 in
theorem gX11_already_X11_isRow : GoodIn wsX11_already (va_wsS RX11 63 yX11_isRow wsX11_isRow) := goodIn_app (goodIn_of _ (by decide +kernel)) ggX11_already_X11_isRow
set_option maxRecDepth 20000 in
theorem ggX11_already_X11_in : GoodIn wsX11_already wsX11_in := goodIn_r _ [11] (by decide +kernel) (by decide +kernel)
set_option maxRecDepth 20000 in
theorem gX11_already_X11_in : GoodIn wsX11_already (va_wsS RX11 59 yX11_in wsX11_in) := goodIn_app (goodIn_of _ (by decide +kernel)) ggX11_already_X11_in
set_option maxRecDepth 20000 in
theorem ggX11_already_X11_no : GoodIn wsX11_already wsX11_no := goodIn_r _ [14, 15] (by decide +kernel) (by decide +kernel)
set_option maxRecDepth 20000 in
theorem gX11_already_X11_no : GoodIn wsX11_already (va_wsS RX11 137 yX11_no wsX11_no) := goodIn_app (goodIn_of _ (by decide +kernel)) ggX11_already_X11_no
set_option maxRecDepth 20000 in
theorem ggX11_already_X11_isWhole : GoodIn wsX11_already wsX11_isWhole := goodIn_r _ [19, 1, 20, 35, 36, 37, 38, 39, 40, 41, 42, 43, 44, 45, 46, 47, 48, 49, 50, 51, 52, 53, 54, 55, 56, 57, 58] (by decide +kernel) (by decide +kernel)
set_option maxRecDepth 20000 in
theorem gX11_already_X11_isWhole : GoodIn wsX11_already (wsV RX11 87 RX11 yX11_isWhole wsX11_isWhole) := goodIn_app (goodIn_of _ (by decide +kernel)) ggX11_already_X11_isWhole
set_option maxRecDepth 20000 in
theorem ggX11_already_X11_bitsOf : GoodIn wsX11_already wsX11_bitsOf := goodIn_r _ [24, 1, 20, 35, 36, 37, 38, 39, 40, 41, 42, 43, 44, 45, 46, 47, 48, 49, 50, 51, 52, 53, 54, 55, 56, 57, 58] (by decide +kernel) (by decide +kernel)
set_option maxRecDepth 20000 in
theorem gX11_already_X11_bitsOf : GoodIn wsX11_already (wsV RX11 90 RX11 yX11_bitsOf wsX11_bitsOf) := goodIn_app (goodIn_of _ (by decide +kernel)) ggX11_already_X11_bitsOf
set_option maxRecDepth 20000 in
theorem ggX11_already_X11_ones : GoodIn wsX11_already wsX11_ones := goodIn_r _ [27] (by decide +kernel) (by decide +kernel)
set_option maxRecDepth 20000 in
theorem gX11_already_X11_ones : GoodIn wsX11_already (va_wsS RX11 81 yX11_ones wsX11_ones) := goodIn_app (goodIn_of _ (by decide +kernel)) ggX11_already_X11_ones
set_option maxRecDepth 20000 in
theorem ggX11_already_X11_behind : GoodIn wsX11_already wsX11_behind := goodIn_r _ [31, 2, 3, 35, 36, 37, 38, 39, 40, 41, 42, 43, 44, 45, 46, 47, 48, 49, 50, 51, 52, 53, 54, 55, 56, 57, 58] (by decide +kernel) (by decide +kernel)
set_option maxRecDepth 20000 in
theorem gX11_already_X11_behind : GoodIn wsX11_already (wsV RX11 180 RX11 yX11_behind wsX11_behind) := goodIn_app (goodIn_of _ (by decide +kernel)) ggX11_already_X11_behind
set_option maxRecDepth 20000 in
theorem ggX11_already_X11_lowest : GoodIn wsX11_already wsX11_lowest := goodIn_r _ [34] (by decide +kernel) (by decide +kernel)
set_option maxRecDepth 20000 in
theorem gX11_already_X11_lowest : GoodIn wsX11_already (va_wsS RX11 147 yX11_lowest wsX11_lowest) := goodIn_app (goodIn_of _ (by decide +kernel)) ggX11_already_X11_lowest
set_option maxRecDepth 20000 in
theorem ggX11_oddsOf_X11_lengthOf : GoodIn wsX11_oddsOf wsX11_lengthOf := goodIn_r _ [5] (by decide +kernel) (by decide +kernel)
set_option maxRecDepth 20000 in
theorem gX11_oddsOf_X11_lengthOf : GoodIn wsX11_oddsOf (va_wsS RX11 78 yX11_lengthOf wsX11_lengthOf) := goodIn_app (goodIn_of _ (by decide +kernel)) ggX11_oddsOf_X11_lengthOf
set_option maxRecDepth 20000 in
theorem ggX11_overlaps_X11_lengthOf : GoodIn wsX11_overlaps wsX11_lengthOf := goodIn_r _ [4] (by decide +kernel) (by decide +kernel)
set_option maxRecDepth 20000 in
theorem gX11_overlaps_X11_lengthOf : GoodIn wsX11_overlaps (va_wsS RX11 78 yX11_lengthOf wsX11_lengthOf) := goodIn_app (goodIn_of _ (by decide +kernel)) ggX11_overlaps_X11_lengthOf
set_option maxRecDepth 20000 in
theorem ggX11_lead_X11_lengthOf : GoodIn wsX11_lead wsX11_lengthOf := goodIn_r _ [5] (by decide +kernel) (by decide +kernel)
set_option maxRecDepth 20000 in
theorem gX11_lead_X11_lengthOf : GoodIn wsX11_lead (va_wsS RX11 78 yX11_lengthOf wsX11_lengthOf) := goodIn_app (goodIn_of _ (by decide +kernel)) ggX11_lead_X11_lengthOf
set_option maxRecDepth 20000 in
theorem ggX11_lead_X11_overlaps : GoodIn wsX11_lead wsX11_overlaps := goodIn_r _ [8, 2, 3, 4, 5] (by decide +kernel) (by decide +kernel)
set_option maxRecDepth 20000 in
theorem gX11_lead_X11_overlaps : GoodIn wsX11_lead (va_wsS RX11 186 yX11_overlaps wsX11_overlaps) := goodIn_app (goodIn_of _ (by decide +kernel)) ggX11_lead_X11_overlaps
set_option maxRecDepth 20000 in
theorem ggX11_lead_X11_power : GoodIn wsX11_lead wsX11_power := goodIn_r _ [11] (by decide +kernel) (by decide +kernel)
set_option maxRecDepth 20000 in
theorem gX11_lead_X11_power : GoodIn wsX11_lead (va_wsS RX11 141 yX11_power wsX11_power) := goodIn_app (goodIn_of _ (by decide +kernel)) ggX11_lead_X11_power
set_option maxRecDepth 20000 in
theorem ggX11_lead_X11_oddsOf : GoodIn wsX11_lead wsX11_oddsOf := goodIn_r _ [15, 16, 2, 3, 4, 5, 17, 18, 19, 20, 21, 22, 23, 24, 25, 26, 27, 28, 29, 30, 31, 32, 33, 34, 35, 36, 37, 38, 39, 40] (by decide +kernel) (by decide +kernel)
set_option maxRecDepth 20000 in
theorem gX11_lead_X11_oddsOf : GoodIn wsX11_lead (wsV RX11 189 RX11 yX11_oddsOf wsX11_oddsOf) := goodIn_app (goodIn_of _ (by decide +kernel)) ggX11_lead_X11_oddsOf
set_option maxRecDepth 20000 in
theorem ggX11_waitsNow_X11_lead : GoodIn wsX11_waitsNow wsX11_lead := goodIn_r _ [6, 7, 8, 9, 5, 10, 11, 12, 13, 14, 15, 16, 17, 18, 19, 20, 21, 25, 26, 27, 28, 29, 30, 31, 32, 33, 34, 35, 36, 37, 38, 39, 40, 41, 42, 43, 44, 45, 46, 47, 48] (by decide +kernel) (by decide +kernel)
set_option maxRecDepth 20000 in
theorem gX11_waitsNow_X11_lead : GoodIn wsX11_waitsNow (wsV RX11 192 RX11 yX11_lead wsX11_lead) := goodIn_app (goodIn_of _ (by decide +kernel)) ggX11_waitsNow_X11_lead
set_option maxRecDepth 20000 in
theorem ggX11_waitsNow_X11_lengthOf : GoodIn wsX11_waitsNow wsX11_lengthOf := goodIn_r _ [10] (by decide +kernel) (by decide +kernel)
set_option maxRecDepth 20000 in
theorem gX11_waitsNow_X11_lengthOf : GoodIn wsX11_waitsNow (va_wsS RX11 78 yX11_lengthOf wsX11_lengthOf) := goodIn_app (goodIn_of _ (by decide +kernel)) ggX11_waitsNow_X11_lengthOf
set_option maxRecDepth 20000 in
theorem ggX11_waitsNow_X11_oddsOf : GoodIn wsX11_waitsNow wsX11_oddsOf := goodIn_r _ [20, 21, 8, 9, 5, 10, 25, 26, 27, 28, 29, 30, 31, 32, 33, 34, 35, 36, 37, 38, 39, 40, 41, 42, 43, 44, 45, 46, 47, 48] (by decide +kernel) (by decide +kernel)
set_option maxRecDepth 20000 in
theorem gX11_waitsNow_X11_oddsOf : GoodIn wsX11_waitsNow (wsV RX11 189 RX11 yX11_oddsOf wsX11_oddsOf) := goodIn_app (goodIn_of _ (by decide +kernel)) ggX11_waitsNow_X11_oddsOf
set_option maxRecDepth 20000 in
theorem ggX11_waitsNow_X11_lowest : GoodIn wsX11_waitsNow wsX11_lowest := goodIn_r _ [24] (by decide +kernel) (by decide +kernel)
set_option maxRecDepth 20000 in
theorem gX11_waitsNow_X11_lowest : GoodIn wsX11_waitsNow (va_wsS RX11 147 yX11_lowest wsX11_lowest) := goodIn_app (goodIn_of _ (by decide +kernel)) ggX11_waitsNow_X11_lowest
set_option maxRecDepth 20000 in
theorem ggX11_waits_X11_in : GoodIn wsX11_waits wsX11_in := goodIn_r _ [4] (by decide +kernel) (by decide +kernel)
set_option maxRecDepth 20000 in
theorem gX11_waits_X11_in : GoodIn wsX11_waits (va_wsS RX11 59 yX11_in wsX11_in) := goodIn_app (goodIn_of _ (by decide +kernel)) ggX11_waits_X11_in
set_option maxRecDepth 20000 in
theorem ggX11_waits_X11_waitsNow : GoodIn wsX11_waits wsX11_waitsNow := goodIn_r _ [8, 9, 10, 11, 12, 3, 13, 14, 15, 16, 17, 18, 19, 20, 21, 22, 23, 24, 25, 26, 27, 28, 29, 30, 31, 36, 37, 38, 39, 40, 41, 42, 43, 44, 45, 46, 47, 48, 49, 50, 51, 52, 53, 54, 55, 56, 57, 58, 59] (by decide +kernel) (by decide +kernel)
set_option maxRecDepth 20000 in
theorem gX11_waits_X11_waitsNow : GoodIn wsX11_waits (wsV RX11 195 RX11 yX11_waitsNow wsX11_waitsNow) := goodIn_app (goodIn_of _ (by decide +kernel)) ggX11_waits_X11_waitsNow
set_option maxRecDepth 20000 in
theorem ggX11_waits_X11_no : GoodIn wsX11_waits wsX11_no := goodIn_r _ [34, 35] (by decide +kernel) (by decide +kernel)
set_option maxRecDepth 20000 in
theorem gX11_waits_X11_no : GoodIn wsX11_waits (va_wsS RX11 137 yX11_no wsX11_no) := goodIn_app (goodIn_of _ (by decide +kernel)) ggX11_waits_X11_no
set_option maxRecDepth 20000 in
theorem ggX11_stands_X11_lengthOf : GoodIn wsX11_stands wsX11_lengthOf := goodIn_r _ [4] (by decide +kernel) (by decide +kernel)
set_option maxRecDepth 20000 in
theorem gX11_stands_X11_lengthOf : GoodIn wsX11_stands (va_wsS RX11 78 yX11_lengthOf wsX11_lengthOf) := goodIn_app (goodIn_of _ (by decide +kernel)) ggX11_stands_X11_lengthOf
set_option maxRecDepth 20000 in
theorem ggX11_first_X11_in : GoodIn wsX11_first wsX11_in := goodIn_r _ [4] (by decide +kernel) (by decide +kernel)
set_option maxRecDepth 20000 in
theorem gX11_first_X11_in : GoodIn wsX11_first (va_wsS RX11 59 yX11_in wsX11_in) := goodIn_app (goodIn_of _ (by decide +kernel)) ggX11_first_X11_in
set_option maxRecDepth 20000 in
theorem ggX11_first_X11_no : GoodIn wsX11_first wsX11_no := goodIn_r _ [7, 8] (by decide +kernel) (by decide +kernel)
set_option maxRecDepth 20000 in
theorem gX11_first_X11_no : GoodIn wsX11_first (va_wsS RX11 137 yX11_no wsX11_no) := goodIn_app (goodIn_of _ (by decide +kernel)) ggX11_first_X11_no
set_option maxRecDepth 20000 in
theorem ggX11_first_X11_stands : GoodIn wsX11_first wsX11_stands := goodIn_r _ [11, 12, 13, 3, 14] (by decide +kernel) (by decide +kernel)
set_option maxRecDepth 20000 in
theorem gX11_first_X11_stands : GoodIn wsX11_first (va_wsS RX11 198 yX11_stands wsX11_stands) := goodIn_app (goodIn_of _ (by decide +kernel)) ggX11_first_X11_stands
set_option maxRecDepth 20000 in
theorem ggX11_first_X11_lengthOf : GoodIn wsX11_first wsX11_lengthOf := goodIn_r _ [14] (by decide +kernel) (by decide +kernel)
set_option maxRecDepth 20000 in
theorem gX11_first_X11_lengthOf : GoodIn wsX11_first (va_wsS RX11 78 yX11_lengthOf wsX11_lengthOf) := goodIn_app (goodIn_of _ (by decide +kernel)) ggX11_first_X11_lengthOf
set_option maxRecDepth 20000 in
theorem ggX11_first_X11_oddsOf : GoodIn wsX11_first wsX11_oddsOf := goodIn_r _ [18, 19, 12, 13, 3, 14, 34, 35, 36, 37, 38, 39, 40, 41, 42, 43, 44, 45, 46, 47, 48, 49, 50, 51, 52, 53, 54, 55, 56, 57] (by decide +kernel) (by decide +kernel)
set_option maxRecDepth 20000 in
theorem gX11_first_X11_oddsOf : GoodIn wsX11_first (wsV RX11 189 RX11 yX11_oddsOf wsX11_oddsOf) := goodIn_app (goodIn_of _ (by decide +kernel)) ggX11_first_X11_oddsOf
set_option maxRecDepth 20000 in
theorem ggX11_first_X11_lead : GoodIn wsX11_first wsX11_lead := goodIn_r _ [23, 24, 12, 13, 3, 14, 25, 26, 27, 28, 29, 30, 15, 16, 17, 18, 19, 34, 35, 36, 37, 38, 39, 40, 41, 42, 43, 44, 45, 46, 47, 48, 49, 50, 51, 52, 53, 54, 55, 56, 57] (by decide +kernel) (by decide +kernel)
set_option maxRecDepth 20000 in
theorem gX11_first_X11_lead : GoodIn wsX11_first (wsV RX11 192 RX11 yX11_lead wsX11_lead) := goodIn_app (goodIn_of _ (by decide +kernel)) ggX11_first_X11_lead
set_option maxRecDepth 20000 in
theorem ggX11_first_X11_lowest : GoodIn wsX11_first wsX11_lowest := goodIn_r _ [33] (by decide +kernel) (by decide +kernel)
set_option maxRecDepth 20000 in
theorem gX11_first_X11_lowest : GoodIn wsX11_first (va_wsS RX11 147 yX11_lowest wsX11_lowest) := goodIn_app (goodIn_of _ (by decide +kernel)) ggX11_first_X11_lowest
set_option maxRecDepth 20000 in
theorem ggX11_agree_X11_isRow : GoodIn wsX11_agree wsX11_isRow := goodIn_r _ [6, 7, 8, 5, 9] (by decide +kernel) (by decide +kernel)
set_option maxRecDepth 20000 in
theorem gX11_agree_X11_isRow : GoodIn wsX11_agree (va_wsS RX11 63 yX11_isRow wsX11_isRow) := goodIn_app (goodIn_of _ (by decide +kernel)) ggX11_agree_X11_isRow
set_option maxRecDepth 20000 in
theorem ggX11_agree_X11_in : GoodIn wsX11_agree wsX11_in := goodIn_r _ [9] (by decide +kernel) (by decide +kernel)
set_option maxRecDepth 20000 in
theorem gX11_agree_X11_in : GoodIn wsX11_agree (va_wsS RX11 59 yX11_in wsX11_in) := goodIn_app (goodIn_of _ (by decide +kernel)) ggX11_agree_X11_in
set_option maxRecDepth 20000 in
theorem ggX11_agree_X11_isWhole : GoodIn wsX11_agree wsX11_isWhole := goodIn_r _ [13, 1, 14, 29, 30, 31, 32, 33, 34, 35, 36, 37, 38, 39, 40, 41, 42, 43, 44, 45, 46, 47, 48, 49, 50, 51, 52] (by decide +kernel) (by decide +kernel)
set_option maxRecDepth 20000 in
theorem gX11_agree_X11_isWhole : GoodIn wsX11_agree (wsV RX11 87 RX11 yX11_isWhole wsX11_isWhole) := goodIn_app (goodIn_of _ (by decide +kernel)) ggX11_agree_X11_isWhole
set_option maxRecDepth 20000 in
theorem ggX11_agree_X11_bitsOf : GoodIn wsX11_agree wsX11_bitsOf := goodIn_r _ [18, 1, 14, 29, 30, 31, 32, 33, 34, 35, 36, 37, 38, 39, 40, 41, 42, 43, 44, 45, 46, 47, 48, 49, 50, 51, 52] (by decide +kernel) (by decide +kernel)
set_option maxRecDepth 20000 in
theorem gX11_agree_X11_bitsOf : GoodIn wsX11_agree (wsV RX11 90 RX11 yX11_bitsOf wsX11_bitsOf) := goodIn_app (goodIn_of _ (by decide +kernel)) ggX11_agree_X11_bitsOf
set_option maxRecDepth 20000 in
theorem ggX11_agree_X11_ones : GoodIn wsX11_agree wsX11_ones := goodIn_r _ [21] (by decide +kernel) (by decide +kernel)
set_option maxRecDepth 20000 in
theorem gX11_agree_X11_ones : GoodIn wsX11_agree (va_wsS RX11 81 yX11_ones wsX11_ones) := goodIn_app (goodIn_of _ (by decide +kernel)) ggX11_agree_X11_ones
set_option maxRecDepth 20000 in
theorem ggX11_agree_X11_dealtAll : GoodIn wsX11_agree wsX11_dealtAll := goodIn_r _ [25, 1, 15, 16, 17, 5, 18, 14, 19, 20, 21, 26, 27, 28, 29, 30, 31, 32, 33, 34, 35, 36, 37, 38, 39, 40, 41, 42, 43, 44, 45, 46, 47, 48, 49, 50, 51, 52] (by decide +kernel) (by decide +kernel)
set_option maxRecDepth 20000 in
theorem gX11_agree_X11_dealtAll : GoodIn wsX11_agree (wsV RX11 171 RX11 yX11_dealtAll wsX11_dealtAll) := goodIn_app (goodIn_of _ (by decide +kernel)) ggX11_agree_X11_dealtAll
set_option maxRecDepth 20000 in
theorem ggX11_twice_X11_isRow : GoodIn wsX11_twice wsX11_isRow := goodIn_r _ [6, 7, 8, 5, 9] (by decide +kernel) (by decide +kernel)
set_option maxRecDepth 20000 in
theorem gX11_twice_X11_isRow : GoodIn wsX11_twice (va_wsS RX11 63 yX11_isRow wsX11_isRow) := goodIn_app (goodIn_of _ (by decide +kernel)) ggX11_twice_X11_isRow
set_option maxRecDepth 20000 in
theorem ggX11_twice_X11_isWhole : GoodIn wsX11_twice wsX11_isWhole := goodIn_r _ [13, 1, 2, 14, 15, 16, 17, 18, 19, 20, 21, 22, 23, 24, 25, 26, 27, 28, 29, 30, 31, 32, 33, 34, 35, 36, 37] (by decide +kernel) (by decide +kernel)
set_option maxRecDepth 20000 in
theorem gX11_twice_X11_isWhole : GoodIn wsX11_twice (wsV RX11 87 RX11 yX11_isWhole wsX11_isWhole) := goodIn_app (goodIn_of _ (by decide +kernel)) ggX11_twice_X11_isWhole
set_option maxRecDepth 20000 in
theorem ggX11_next_X11_isRow : GoodIn wsX11_next wsX11_isRow := goodIn_r _ [7, 8, 9, 6, 10] (by decide +kernel) (by decide +kernel)
set_option maxRecDepth 20000 in
theorem gX11_next_X11_isRow : GoodIn wsX11_next (va_wsS RX11 63 yX11_isRow wsX11_isRow) := goodIn_app (goodIn_of _ (by decide +kernel)) ggX11_next_X11_isRow
set_option maxRecDepth 20000 in
theorem ggX11_next_X11_in : GoodIn wsX11_next wsX11_in := goodIn_r _ [10] (by decide +kernel) (by decide +kernel)
set_option maxRecDepth 20000 in
theorem gX11_next_X11_in : GoodIn wsX11_next (va_wsS RX11 59 yX11_in wsX11_in) := goodIn_app (goodIn_of _ (by decide +kernel)) ggX11_next_X11_in
set_option maxRecDepth 20000 in
theorem ggX11_next_X11_lowest : GoodIn wsX11_next wsX11_lowest := goodIn_r _ [13] (by decide +kernel) (by decide +kernel)
set_option maxRecDepth 20000 in
theorem gX11_next_X11_lowest : GoodIn wsX11_next (va_wsS RX11 147 yX11_lowest wsX11_lowest) := goodIn_app (goodIn_of _ (by decide +kernel)) ggX11_next_X11_lowest
set_option maxRecDepth 20000 in
theorem ggX11_isSheet_X11_in : GoodIn wsX11_isSheet wsX11_in := goodIn_r _ [4] (by decide +kernel) (by decide +kernel)
set_option maxRecDepth 20000 in
theorem gX11_isSheet_X11_in : GoodIn wsX11_isSheet (va_wsS RX11 59 yX11_in wsX11_in) := goodIn_app (goodIn_of _ (by decide +kernel)) ggX11_isSheet_X11_in
set_option maxRecDepth 20000 in
theorem ggX11_sheet_X11_isSheet : GoodIn wsX11_sheet wsX11_isSheet := goodIn_r _ [8, 9, 10, 7, 11] (by decide +kernel) (by decide +kernel)
set_option maxRecDepth 20000 in
theorem gX11_sheet_X11_isSheet : GoodIn wsX11_sheet (va_wsS RX11 71 yX11_isSheet wsX11_isSheet) := goodIn_app (goodIn_of _ (by decide +kernel)) ggX11_sheet_X11_isSheet
set_option maxRecDepth 20000 in
theorem ggX11_sheet_X11_in : GoodIn wsX11_sheet wsX11_in := goodIn_r _ [11] (by decide +kernel) (by decide +kernel)
set_option maxRecDepth 20000 in
theorem gX11_sheet_X11_in : GoodIn wsX11_sheet (va_wsS RX11 59 yX11_in wsX11_in) := goodIn_app (goodIn_of _ (by decide +kernel)) ggX11_sheet_X11_in
set_option maxRecDepth 20000 in
theorem ggX11_sheet_X11_meets : GoodIn wsX11_sheet wsX11_meets := goodIn_r _ [15, 16, 17, 18, 19, 20, 21, 22, 23, 24, 25, 26, 27, 28, 29, 30, 31, 32, 33, 34, 35, 36, 37, 38, 39, 40] (by decide +kernel) (by decide +kernel)
set_option maxRecDepth 20000 in
theorem gX11_sheet_X11_meets : GoodIn wsX11_sheet (wsV RX11 74 RX11 yX11_meets wsX11_meets) := goodIn_app (goodIn_of _ (by decide +kernel)) ggX11_sheet_X11_meets
set_option maxRecDepth 20000 in
theorem ggX11_lose_X11_isSheet : GoodIn wsX11_lose wsX11_isSheet := goodIn_r _ [6, 7, 8, 5, 9] (by decide +kernel) (by decide +kernel)
set_option maxRecDepth 20000 in
theorem gX11_lose_X11_isSheet : GoodIn wsX11_lose (va_wsS RX11 71 yX11_isSheet wsX11_isSheet) := goodIn_app (goodIn_of _ (by decide +kernel)) ggX11_lose_X11_isSheet
set_option maxRecDepth 20000 in
theorem ggX11_lose_X11_meets : GoodIn wsX11_lose wsX11_meets := goodIn_r _ [13, 14, 15, 16, 17, 18, 19, 20, 21, 22, 23, 24, 25, 26, 27, 28, 29, 30, 31, 32, 33, 34, 35, 36, 37, 38] (by decide +kernel) (by decide +kernel)
set_option maxRecDepth 20000 in
theorem gX11_lose_X11_meets : GoodIn wsX11_lose (wsV RX11 74 RX11 yX11_meets wsX11_meets) := goodIn_app (goodIn_of _ (by decide +kernel)) ggX11_lose_X11_meets
set_option maxRecDepth 20000 in
theorem ggX11_lacks_X11_in : GoodIn wsX11_lacks wsX11_in := goodIn_r _ [7] (by decide +kernel) (by decide +kernel)
set_option maxRecDepth 20000 in
theorem gX11_lacks_X11_in : GoodIn wsX11_lacks (va_wsS RX11 59 yX11_in wsX11_in) := goodIn_app (goodIn_of _ (by decide +kernel)) ggX11_lacks_X11_in
set_option maxRecDepth 20000 in
theorem ggX11_put_X11_isSheet : GoodIn wsX11_put wsX11_isSheet := goodIn_r _ [4, 5, 6, 3, 7] (by decide +kernel) (by decide +kernel)
set_option maxRecDepth 20000 in
theorem gX11_put_X11_isSheet : GoodIn wsX11_put (va_wsS RX11 71 yX11_isSheet wsX11_isSheet) := goodIn_app (goodIn_of _ (by decide +kernel)) ggX11_put_X11_isSheet
set_option maxRecDepth 20000 in
theorem ggX11_put_X11_in : GoodIn wsX11_put wsX11_in := goodIn_r _ [7] (by decide +kernel) (by decide +kernel)
set_option maxRecDepth 20000 in
theorem gX11_put_X11_in : GoodIn wsX11_put (va_wsS RX11 59 yX11_in wsX11_in) := goodIn_app (goodIn_of _ (by decide +kernel)) ggX11_put_X11_in
set_option maxRecDepth 20000 in
theorem ggX11_put_X11_lacks : GoodIn wsX11_put wsX11_lacks := goodIn_r _ [11, 12, 13, 14, 5, 6, 3, 7, 25, 26, 27, 28, 29, 30, 31, 32, 33, 34, 35, 36, 37, 38, 39, 40, 41, 42, 43, 44, 45, 46, 47, 48] (by decide +kernel) (by decide +kernel)
set_option maxRecDepth 20000 in
theorem gX11_put_X11_lacks : GoodIn wsX11_put (wsV RX11 206 RX11 yX11_lacks wsX11_lacks) := goodIn_app (goodIn_of _ (by decide +kernel)) ggX11_put_X11_lacks
set_option maxRecDepth 20000 in
theorem ggX11_put_X11_meets : GoodIn wsX11_put wsX11_meets := goodIn_r _ [18, 19, 25, 26, 27, 28, 29, 30, 31, 32, 33, 34, 35, 36, 37, 38, 39, 40, 41, 42, 43, 44, 45, 46, 47, 48] (by decide +kernel) (by decide +kernel)
set_option maxRecDepth 20000 in
theorem gX11_put_X11_meets : GoodIn wsX11_put (wsV RX11 74 RX11 yX11_meets wsX11_meets) := goodIn_app (goodIn_of _ (by decide +kernel)) ggX11_put_X11_meets
set_option maxRecDepth 20000 in
theorem ggX11_put_X11_keep : GoodIn wsX11_put wsX11_keep := goodIn_r _ [23, 24, 13, 25, 26, 27, 28, 29, 30, 31, 32, 33, 34, 35, 36, 37, 38, 39, 40, 41, 42, 43, 44, 45, 46, 47, 48] (by decide +kernel) (by decide +kernel)
set_option maxRecDepth 20000 in
theorem gX11_put_X11_keep : GoodIn wsX11_put (wsV RX11 209 RX11 yX11_keep wsX11_keep) := goodIn_app (goodIn_of _ (by decide +kernel)) ggX11_put_X11_keep
set_option maxRecDepth 20000 in
theorem ggX11_get_X11_isSheet : GoodIn wsX11_get wsX11_isSheet := goodIn_r _ [7, 8, 9, 6, 10] (by decide +kernel) (by decide +kernel)
set_option maxRecDepth 20000 in
theorem gX11_get_X11_isSheet : GoodIn wsX11_get (va_wsS RX11 71 yX11_isSheet wsX11_isSheet) := goodIn_app (goodIn_of _ (by decide +kernel)) ggX11_get_X11_isSheet
set_option maxRecDepth 20000 in
theorem ggX11_get_X11_in : GoodIn wsX11_get wsX11_in := goodIn_r _ [10] (by decide +kernel) (by decide +kernel)
set_option maxRecDepth 20000 in
theorem gX11_get_X11_in : GoodIn wsX11_get (va_wsS RX11 59 yX11_in wsX11_in) := goodIn_app (goodIn_of _ (by decide +kernel)) ggX11_get_X11_in
set_option maxRecDepth 20000 in
theorem ggX11_get_X11_lacks : GoodIn wsX11_get wsX11_lacks := goodIn_r _ [14, 15, 16, 17, 8, 9, 6, 10, 18, 19, 20, 21, 22, 23, 24, 25, 26, 27, 28, 29, 30, 31, 32, 33, 34, 35, 36, 37, 38, 39, 40, 41] (by decide +kernel) (by decide +kernel)
set_option maxRecDepth 20000 in
theorem gX11_get_X11_lacks : GoodIn wsX11_get (wsV RX11 206 RX11 yX11_lacks wsX11_lacks) := goodIn_app (goodIn_of _ (by decide +kernel)) ggX11_get_X11_lacks
set_option maxRecDepth 20000 in
theorem ggX11_copy_X11_isSheet : GoodIn wsX11_copy wsX11_isSheet := goodIn_r _ [9, 10, 11, 8, 12] (by decide +kernel) (by decide +kernel)
set_option maxRecDepth 20000 in
theorem gX11_copy_X11_isSheet : GoodIn wsX11_copy (va_wsS RX11 71 yX11_isSheet wsX11_isSheet) := goodIn_app (goodIn_of _ (by decide +kernel)) ggX11_copy_X11_isSheet
set_option maxRecDepth 20000 in
theorem ggX11_copy_X11_meets : GoodIn wsX11_copy wsX11_meets := goodIn_r _ [16, 17, 18, 19, 20, 21, 22, 23, 24, 25, 26, 27, 28, 29, 30, 31, 32, 33, 34, 35, 36, 37, 38, 39, 40, 41] (by decide +kernel) (by decide +kernel)
set_option maxRecDepth 20000 in
theorem gX11_copy_X11_meets : GoodIn wsX11_copy (wsV RX11 74 RX11 yX11_meets wsX11_meets) := goodIn_app (goodIn_of _ (by decide +kernel)) ggX11_copy_X11_meets
set_option maxRecDepth 20000 in
theorem ggX11_write_X11_isRow : GoodIn wsX11_write wsX11_isRow := goodIn_r _ [8, 9, 10, 7, 11] (by decide +kernel) (by decide +kernel)
set_option maxRecDepth 20000 in
theorem gX11_write_X11_isRow : GoodIn wsX11_write (va_wsS RX11 63 yX11_isRow wsX11_isRow) := goodIn_app (goodIn_of _ (by decide +kernel)) ggX11_write_X11_isRow
set_option maxRecDepth 20000 in
theorem ggX11_write_X11_isSheet : GoodIn wsX11_write wsX11_isSheet := goodIn_r _ [14, 9, 10, 7, 11] (by decide +kernel) (by decide +kernel)
set_option maxRecDepth 20000 in
theorem gX11_write_X11_isSheet : GoodIn wsX11_write (va_wsS RX11 71 yX11_isSheet wsX11_isSheet) := goodIn_app (goodIn_of _ (by decide +kernel)) ggX11_write_X11_isSheet
set_option maxRecDepth 20000 in
theorem ggX11_write_X11_meets : GoodIn wsX11_write wsX11_meets := goodIn_r _ [18, 19, 26, 27, 28, 29, 30, 31, 32, 33, 34, 35, 36, 37, 38, 39, 40, 41, 42, 43, 44, 45, 46, 47, 48, 49] (by decide +kernel) (by decide +kernel)
set_option maxRecDepth 20000 in
theorem gX11_write_X11_meets : GoodIn wsX11_write (wsV RX11 74 RX11 yX11_meets wsX11_meets) := goodIn_app (goodIn_of _ (by decide +kernel)) ggX11_write_X11_meets
set_option maxRecDepth 20000 in
theorem ggX11_write_X11_keep : GoodIn wsX11_write wsX11_keep := goodIn_r _ [23, 24, 25, 26, 27, 28, 29, 30, 31, 32, 33, 34, 35, 36, 37, 38, 39, 40, 41, 42, 43, 44, 45, 46, 47, 48, 49] (by decide +kernel) (by decide +kernel)
set_option maxRecDepth 20000 in
theorem gX11_write_X11_keep : GoodIn wsX11_write (wsV RX11 209 RX11 yX11_keep wsX11_keep) := goodIn_app (goodIn_of _ (by decide +kernel)) ggX11_write_X11_keep
set_option maxRecDepth 20000 in
theorem ggX11_wholeOnes_X11_isWhole : GoodIn wsX11_wholeOnes wsX11_isWhole := goodIn_r _ [5, 6, 7, 8, 9, 10, 11, 12, 13, 14, 15, 16, 17, 18, 19, 20, 21, 22, 23, 24, 25, 26, 27, 28, 29, 30, 31] (by decide +kernel) (by decide +kernel)
set_option maxRecDepth 20000 in
theorem gX11_wholeOnes_X11_isWhole : GoodIn wsX11_wholeOnes (wsV RX11 87 RX11 yX11_isWhole wsX11_isWhole) := goodIn_app (goodIn_of _ (by decide +kernel)) ggX11_wholeOnes_X11_isWhole
set_option maxRecDepth 20000 in
theorem ggX11_count_X11_wholeOnes : GoodIn wsX11_count wsX11_wholeOnes := goodIn_r _ [10, 11, 12, 13, 9, 14, 1, 15, 16, 17, 18, 19, 20, 21, 22, 23, 24, 25, 26, 27, 28, 29, 30, 31, 32, 33, 34, 35, 36, 37, 38, 39] (by decide +kernel) (by decide +kernel)
set_option maxRecDepth 20000 in
theorem gX11_count_X11_wholeOnes : GoodIn wsX11_count (wsV RX11 213 RX11 yX11_wholeOnes wsX11_wholeOnes) := goodIn_app (goodIn_of _ (by decide +kernel)) ggX11_count_X11_wholeOnes
set_option maxRecDepth 20000 in
theorem ggX11_digest_X11_count : GoodIn wsX11_digest wsX11_count := goodIn_r _ [10, 3, 11, 12, 13, 14, 15, 16, 17, 9, 18, 19, 20, 21, 22, 4, 107, 108, 109, 110, 111, 112, 113, 114, 115, 116, 117, 118, 119, 120, 121, 122, 123, 124, 125, 126, 127, 128, 129, 130] (by decide +kernel) (by decide +kernel)
set_option maxRecDepth 20000 in
theorem gX11_digest_X11_count : GoodIn wsX11_digest (wsV RX11 220 RX11 yX11_count wsX11_count) := goodIn_app (goodIn_of _ (by decide +kernel)) ggX11_digest_X11_count
set_option maxRecDepth 20000 in
theorem ggX11_digest_X11_showsNow : GoodIn wsX11_digest wsX11_showsNow := goodIn_r _ [26, 3, 19, 20, 21, 9, 22, 4, 27, 28, 29, 30, 31, 32, 33, 34, 35, 36, 37, 38, 39, 40, 41, 13, 42, 43, 44, 107, 108, 109, 110, 111, 112, 113, 114, 115, 116, 117, 118, 119, 120, 121, 122, 123, 124, 125, 126, 127, 128, 129, 130] (by decide +kernel) (by decide +kernel)
set_option maxRecDepth 20000 in
theorem gX11_digest_X11_showsNow : GoodIn wsX11_digest (wsV RX11 97 RX11 yX11_showsNow wsX11_showsNow) := goodIn_app (goodIn_of _ (by decide +kernel)) ggX11_digest_X11_showsNow
set_option maxRecDepth 20000 in
theorem ggX11_digest_X11_faultNow : GoodIn wsX11_digest wsX11_faultNow := goodIn_r _ [48, 49, 50, 51, 52, 11, 53, 54, 55, 9, 56, 57, 58, 59, 60, 61, 62, 63, 64, 65, 66, 67, 68, 69, 70, 71, 107, 108, 109, 110, 111, 112, 113, 114, 115, 116, 117, 118, 119, 120, 121, 122, 123, 124, 125, 126, 127, 128, 129, 130] (by decide +kernel) (by decide +kernel)
set_option maxRecDepth 20000 in
theorem gX11_digest_X11_faultNow : GoodIn wsX11_digest (wsV RX11 127 RX11 yX11_faultNow wsX11_faultNow) := goodIn_app (goodIn_of _ (by decide +kernel)) ggX11_digest_X11_faultNow
set_option maxRecDepth 20000 in
theorem ggX11_digest_X11_shownNow : GoodIn wsX11_digest wsX11_shownNow := goodIn_r _ [75, 45, 46, 47, 9, 48, 49, 50, 51, 52, 11, 53, 54, 55, 56, 57, 58, 59, 60, 61, 62, 63, 64, 65, 66, 67, 68, 69, 70, 71, 35, 36, 37, 76, 77, 78, 79, 31, 32, 33, 34, 38, 39, 40, 41, 13, 42, 43, 44, 107, 108, 109, 110, 111, 112, 113, 114, 115, 116, 117, 118, 119, 120, 121, 122, 123, 124, 125, 126, 127, 128, 129, 130] (by decide +kernel) (by decide +kernel)
set_option maxRecDepth 20000 in
theorem gX11_digest_X11_shownNow : GoodIn wsX11_digest (wsV RX11 134 RX11 yX11_shownNow wsX11_shownNow) := goodIn_app (goodIn_of _ (by decide +kernel)) ggX11_digest_X11_shownNow
set_option maxRecDepth 20000 in
theorem ggX11_digest_X11_waitsNow : GoodIn wsX11_digest wsX11_waitsNow := goodIn_r _ [83, 13, 84, 85, 86, 9, 87, 88, 42, 43, 44, 89, 90, 91, 92, 93, 94, 95, 96, 97, 98, 12, 99, 100, 101, 107, 108, 109, 110, 111, 112, 113, 114, 115, 116, 117, 118, 119, 120, 121, 122, 123, 124, 125, 126, 127, 128, 129, 130] (by decide +kernel) (by decide +kernel)
set_option maxRecDepth 20000 in
theorem gX11_digest_X11_waitsNow : GoodIn wsX11_digest (wsV RX11 195 RX11 yX11_waitsNow wsX11_waitsNow) := goodIn_app (goodIn_of _ (by decide +kernel)) ggX11_digest_X11_waitsNow
set_option maxRecDepth 20000 in
theorem ggX11_digest_X11_gathers : GoodIn wsX11_digest wsX11_gathers := goodIn_r _ [105, 5, 3, 4, 106, 107, 108, 109, 110, 111, 112, 113, 114, 115, 116, 117, 118, 119, 120, 121, 122, 123, 124, 125, 126, 127, 128, 129, 130] (by decide +kernel) (by decide +kernel)
set_option maxRecDepth 20000 in
theorem gX11_digest_X11_gathers : GoodIn wsX11_digest (wsV RX11 154 RX11 yX11_gathers wsX11_gathers) := goodIn_app (goodIn_of _ (by decide +kernel)) ggX11_digest_X11_gathers
set_option maxRecDepth 20000 in
theorem ggJ0_length_8abf5_J0_coder_7d493 : GoodIn wsJ0_length_8abf5 wsJ0_coder_7d493 := goodIn_r _ [6, 7, 8] (by decide +kernel) (by decide +kernel)
set_option maxRecDepth 20000 in
theorem gJ0_length_8abf5_J0_coder_7d493 : GoodIn wsJ0_length_8abf5 (wsV RJ0 335 RJ0 yJ0_coder_7d493 wsJ0_coder_7d493) := goodIn_app (goodIn_of _ (by decide +kernel)) ggJ0_length_8abf5_J0_coder_7d493
set_option maxRecDepth 20000 in
theorem ggJ0_indexOf_0f7a4_J0_indexOf_7cf53 : GoodIn wsJ0_indexOf_0f7a4 wsJ0_indexOf_7cf53 := goodIn_r _ [5, 6, 7, 8, 9, 4, 10, 11, 12, 13, 14, 15, 16, 17, 18, 19, 20, 21, 22, 23, 24, 25, 26, 27, 28, 29, 30, 31, 32, 33, 34, 35, 36, 37, 38, 39, 40, 41, 42, 43, 44, 45, 46, 47, 48, 49, 50, 51, 52, 53, 54, 55, 56, 57, 58, 59, 60, 61, 62, 63, 64, 65, 66, 67, 68, 69, 70, 71, 72, 73, 74, 75, 76, 77, 78, 79, 80, 81, 82, 83, 84, 85] (by decide +kernel) (by decide +kernel)
set_option maxRecDepth 20000 in
theorem gJ0_indexOf_0f7a4_J0_indexOf_7cf53 : GoodIn wsJ0_indexOf_0f7a4 (wsV RJ0 633 RJ0 yJ0_indexOf_7cf53 wsJ0_indexOf_7cf53) := goodIn_app (goodIn_of _ (by decide +kernel)) ggJ0_indexOf_0f7a4_J0_indexOf_7cf53
set_option maxRecDepth 20000 in
theorem ggJ0_indexOf_7cf53_J0_isLatin1_aae02 : GoodIn wsJ0_indexOf_7cf53 wsJ0_isLatin1_aae02 := goodIn_r _ [6, 7, 8] (by decide +kernel) (by decide +kernel)
set_option maxRecDepth 20000 in
theorem gJ0_indexOf_7cf53_J0_isLatin1_aae02 : GoodIn wsJ0_indexOf_7cf53 (wsV RJ0 492 RJ0 yJ0_isLatin1_aae02 wsJ0_isLatin1_aae02) := goodIn_app (goodIn_of _ (by decide +kernel)) ggJ0_indexOf_7cf53_J0_isLatin1_aae02
set_option maxRecDepth 20000 in
theorem ggJ0_indexOf_7cf53_J0_length_8abf5 : GoodIn wsJ0_indexOf_7cf53 wsJ0_length_8abf5 := goodIn_r _ [12, 1, 13, 14, 15, 5, 16, 7, 8] (by decide +kernel) (by decide +kernel)
set_option maxRecDepth 20000 in
theorem gJ0_indexOf_7cf53_J0_length_8abf5 : GoodIn wsJ0_indexOf_7cf53 (wsV RJ0 505 RJ0 yJ0_length_8abf5 wsJ0_length_8abf5) := goodIn_app (goodIn_of _ (by decide +kernel)) ggJ0_indexOf_7cf53_J0_length_8abf5
set_option maxRecDepth 20000 in
theorem ggJ0_indexOf_7cf53_J1_indexOf_4cfef : GoodIn wsJ0_indexOf_7cf53 wsJ1_indexOf_4cfef := goodIn_r _ [20, 21, 22, 23, 24, 25, 26, 27, 28, 29, 19, 30, 31, 32, 33] (by decide +kernel) (by decide +kernel)
set_option maxRecDepth 20000 in
theorem gJ0_indexOf_7cf53_J1_indexOf_4cfef : GoodIn wsJ0_indexOf_7cf53 (va_wsS RJ0 637 yJ1_indexOf_4cfef wsJ1_indexOf_4cfef) := goodIn_app (goodIn_of _ (by decide +kernel)) ggJ0_indexOf_7cf53_J1_indexOf_4cfef
set_option maxRecDepth 20000 in
theorem ggJ0_indexOf_7cf53_J2_indexOf_4cfef : GoodIn wsJ0_indexOf_7cf53 wsJ2_indexOf_4cfef := goodIn_r _ [37, 38, 22, 23, 24, 39, 26, 27, 40, 41, 42, 36, 43, 44, 45, 46, 47, 48, 49, 50, 51, 5, 52, 53, 54, 55, 56, 57, 58, 59, 60, 61, 62, 63, 64, 65, 66, 67, 68, 69, 70, 71, 72, 73, 74, 75, 76, 77, 78, 79, 80, 81] (by decide +kernel) (by decide +kernel)
set_option maxRecDepth 20000 in
theorem gJ0_indexOf_7cf53_J2_indexOf_4cfef : GoodIn wsJ0_indexOf_7cf53 (va_wsS RJ0 640 yJ2_indexOf_4cfef wsJ2_indexOf_4cfef) := goodIn_app (goodIn_of _ (by decide +kernel)) ggJ0_indexOf_7cf53_J2_indexOf_4cfef
set_option maxRecDepth 20000 in
theorem ggJ0_checkBoundsBeginEnd_23922_J3_checkFromToIndex_8c36e : GoodIn wsJ0_checkBoundsBeginEnd_23922 wsJ3_checkFromToIndex_8c36e := goodIn_r _ [5] (by decide +kernel) (by decide +kernel)
set_option maxRecDepth 20000 in
theorem gJ0_checkBoundsBeginEnd_23922_J3_checkFromToIndex_8c36e : GoodIn wsJ0_checkBoundsBeginEnd_23922 (va_wsS RJ0 1062 yJ3_checkFromToIndex_8c36e wsJ3_checkFromToIndex_8c36e) := goodIn_app (goodIn_of _ (by decide +kernel)) ggJ0_checkBoundsBeginEnd_23922_J3_checkFromToIndex_8c36e
set_option maxRecDepth 20000 in
theorem ggJ1_indexOf_4cfef_J1_canEncode_9a6ad : GoodIn wsJ1_indexOf_4cfef wsJ1_canEncode_9a6ad := goodIn_r _ [11] (by decide +kernel) (by decide +kernel)
set_option maxRecDepth 20000 in
theorem gJ1_indexOf_4cfef_J1_canEncode_9a6ad : GoodIn wsJ1_indexOf_4cfef (va_wsS RJ1 88 yJ1_canEncode_9a6ad wsJ1_canEncode_9a6ad) := goodIn_app (goodIn_of _ (by decide +kernel)) ggJ1_indexOf_4cfef_J1_canEncode_9a6ad
set_option maxRecDepth 20000 in
theorem ggJ1_indexOf_4cfef_J1_indexOfChar_4cfef : GoodIn wsJ1_indexOf_4cfef wsJ1_indexOfChar_4cfef := goodIn_r _ [14] (by decide +kernel) (by decide +kernel)
set_option maxRecDepth 20000 in
theorem gJ1_indexOf_4cfef_J1_indexOfChar_4cfef : GoodIn wsJ1_indexOf_4cfef (va_wsS RJ1 95 yJ1_indexOfChar_4cfef wsJ1_indexOfChar_4cfef) := goodIn_app (goodIn_of _ (by decide +kernel)) ggJ1_indexOf_4cfef_J1_indexOfChar_4cfef
set_option maxRecDepth 20000 in
theorem ggJ2_getChar_3b067_J2_length_9d52b : GoodIn wsJ2_getChar_3b067 wsJ2_length_9d52b := goodIn_r _ [7] (by decide +kernel) (by decide +kernel)
set_option maxRecDepth 20000 in
theorem gJ2_getChar_3b067_J2_length_9d52b : GoodIn wsJ2_getChar_3b067 (va_wsS RJ2 48 yJ2_length_9d52b wsJ2_length_9d52b) := goodIn_app (goodIn_of _ (by decide +kernel)) ggJ2_getChar_3b067_J2_length_9d52b
set_option maxRecDepth 20000 in
theorem ggJ2_indexOf_4cfef_J2_indexOfChar_4cfef : GoodIn wsJ2_indexOf_4cfef wsJ2_indexOfChar_4cfef := goodIn_r _ [12, 13, 14, 11, 15, 16, 17, 18, 19, 20, 21, 22, 23, 24, 25, 26, 27, 28, 29, 30, 31, 32, 33, 34, 35, 36] (by decide +kernel) (by decide +kernel)
set_option maxRecDepth 20000 in
theorem gJ2_indexOf_4cfef_J2_indexOfChar_4cfef : GoodIn wsJ2_indexOf_4cfef (va_wsS RJ2 228 yJ2_indexOfChar_4cfef wsJ2_indexOfChar_4cfef) := goodIn_app (goodIn_of _ (by decide +kernel)) ggJ2_indexOf_4cfef_J2_indexOfChar_4cfef
set_option maxRecDepth 20000 in
theorem ggJ2_indexOf_4cfef_J2_indexOfSupplementary_4cfef : GoodIn wsJ2_indexOf_4cfef wsJ2_indexOfSupplementary_4cfef := goodIn_r _ [39, 40, 41, 42, 43, 44, 45, 46, 47, 48, 49, 50, 51, 13, 14, 11, 15, 16, 17, 18, 19, 20, 21, 22, 23, 24, 25, 26, 27, 31, 32, 33, 34, 35, 36] (by decide +kernel) (by decide +kernel)
set_option maxRecDepth 20000 in
theorem gJ2_indexOf_4cfef_J2_indexOfSupplementary_4cfef : GoodIn wsJ2_indexOf_4cfef (va_wsS RJ2 232 yJ2_indexOfSupplementary_4cfef wsJ2_indexOfSupplementary_4cfef) := goodIn_app (goodIn_of _ (by decide +kernel)) ggJ2_indexOf_4cfef_J2_indexOfSupplementary_4cfef
set_option maxRecDepth 20000 in
theorem ggJ2_indexOfChar_4cfef_J2_checkBoundsBeginEnd_d044e : GoodIn wsJ2_indexOfChar_4cfef wsJ2_checkBoundsBeginEnd_d044e := goodIn_r _ [4, 5, 6, 3, 7, 8, 9, 10, 11, 12, 13, 14, 15, 16] (by decide +kernel) (by decide +kernel)
set_option maxRecDepth 20000 in
theorem gJ2_indexOfChar_4cfef_J2_checkBoundsBeginEnd_d044e : GoodIn wsJ2_indexOfChar_4cfef (va_wsS RJ2 96 yJ2_checkBoundsBeginEnd_d044e wsJ2_checkBoundsBeginEnd_d044e) := goodIn_app (goodIn_of _ (by decide +kernel)) ggJ2_indexOfChar_4cfef_J2_checkBoundsBeginEnd_d044e
set_option maxRecDepth 20000 in
theorem ggJ2_indexOfChar_4cfef_J2_indexOfCharUnsafe_4cfef : GoodIn wsJ2_indexOfChar_4cfef wsJ2_indexOfCharUnsafe_4cfef := goodIn_r _ [19, 20, 21, 3, 22, 23, 24, 25, 5, 6, 7] (by decide +kernel) (by decide +kernel)
set_option maxRecDepth 20000 in
theorem gJ2_indexOfChar_4cfef_J2_indexOfCharUnsafe_4cfef : GoodIn wsJ2_indexOfChar_4cfef (va_wsS RJ2 244 yJ2_indexOfCharUnsafe_4cfef wsJ2_indexOfCharUnsafe_4cfef) := goodIn_app (goodIn_of _ (by decide +kernel)) ggJ2_indexOfChar_4cfef_J2_indexOfCharUnsafe_4cfef
set_option maxRecDepth 20000 in
theorem ggJ2_indexOfCharUnsafe_4cfef_J2_getChar_3b067 : GoodIn wsJ2_indexOfCharUnsafe_4cfef wsJ2_getChar_3b067 := goodIn_r _ [4, 5, 6, 7, 8, 9, 3, 10] (by decide +kernel) (by decide +kernel)
set_option maxRecDepth 20000 in
theorem gJ2_indexOfCharUnsafe_4cfef_J2_getChar_3b067 : GoodIn wsJ2_indexOfCharUnsafe_4cfef (va_wsS RJ2 71 yJ2_getChar_3b067 wsJ2_getChar_3b067) := goodIn_app (goodIn_of _ (by decide +kernel)) ggJ2_indexOfCharUnsafe_4cfef_J2_getChar_3b067
set_option maxRecDepth 20000 in
theorem ggJ2_indexOfSupplementary_4cfef_J11_isValidCodePoint_9a6ad : GoodIn wsJ2_indexOfSupplementary_4cfef wsJ11_isValidCodePoint_9a6ad := goodIn_r _ [4] (by decide +kernel) (by decide +kernel)
set_option maxRecDepth 20000 in
theorem gJ2_indexOfSupplementary_4cfef_J11_isValidCodePoint_9a6ad : GoodIn wsJ2_indexOfSupplementary_4cfef (va_wsS RJ2 164 yJ11_isValidCodePoint_9a6ad wsJ11_isValidCodePoint_9a6ad) := goodIn_app (goodIn_of _ (by decide +kernel)) ggJ2_indexOfSupplementary_4cfef_J11_isValidCodePoint_9a6ad
set_option maxRecDepth 20000 in
theorem ggJ2_indexOfSupplementary_4cfef_J11_highSurrogate_5068e : GoodIn wsJ2_indexOfSupplementary_4cfef wsJ11_highSurrogate_5068e := goodIn_r _ [7, 8] (by decide +kernel) (by decide +kernel)
set_option maxRecDepth 20000 in
theorem gJ2_indexOfSupplementary_4cfef_J11_highSurrogate_5068e : GoodIn wsJ2_indexOfSupplementary_4cfef (va_wsS RJ2 157 yJ11_highSurrogate_5068e wsJ11_highSurrogate_5068e) := goodIn_app (goodIn_of _ (by decide +kernel)) ggJ2_indexOfSupplementary_4cfef_J11_highSurrogate_5068e
set_option maxRecDepth 20000 in
theorem ggJ2_indexOfSupplementary_4cfef_J11_lowSurrogate_5068e : GoodIn wsJ2_indexOfSupplementary_4cfef wsJ11_lowSurrogate_5068e := goodIn_r _ [11, 12] (by decide +kernel) (by decide +kernel)
set_option maxRecDepth 20000 in
theorem gJ2_indexOfSupplementary_4cfef_J11_lowSurrogate_5068e : GoodIn wsJ2_indexOfSupplementary_4cfef (va_wsS RJ2 161 yJ11_lowSurrogate_5068e wsJ11_lowSurrogate_5068e) := goodIn_app (goodIn_of _ (by decide +kernel)) ggJ2_indexOfSupplementary_4cfef_J11_lowSurrogate_5068e
set_option maxRecDepth 20000 in
theorem ggJ2_indexOfSupplementary_4cfef_J2_checkBoundsBeginEnd_d044e : GoodIn wsJ2_indexOfSupplementary_4cfef wsJ2_checkBoundsBeginEnd_d044e := goodIn_r _ [16, 17, 18, 15, 19, 20, 21, 22, 23, 24, 25, 26, 27, 28] (by decide +kernel) (by decide +kernel)
set_option maxRecDepth 20000 in
theorem gJ2_indexOfSupplementary_4cfef_J2_checkBoundsBeginEnd_d044e : GoodIn wsJ2_indexOfSupplementary_4cfef (va_wsS RJ2 96 yJ2_checkBoundsBeginEnd_d044e wsJ2_checkBoundsBeginEnd_d044e) := goodIn_app (goodIn_of _ (by decide +kernel)) ggJ2_indexOfSupplementary_4cfef_J2_checkBoundsBeginEnd_d044e
set_option maxRecDepth 20000 in
theorem ggJ2_indexOfSupplementary_4cfef_J2_getChar_3b067 : GoodIn wsJ2_indexOfSupplementary_4cfef wsJ2_getChar_3b067 := goodIn_r _ [31, 32, 33, 34, 17, 18, 15, 19] (by decide +kernel) (by decide +kernel)
set_option maxRecDepth 20000 in
theorem gJ2_indexOfSupplementary_4cfef_J2_getChar_3b067 : GoodIn wsJ2_indexOfSupplementary_4cfef (va_wsS RJ2 71 yJ2_getChar_3b067 wsJ2_getChar_3b067) := goodIn_app (goodIn_of _ (by decide +kernel)) ggJ2_indexOfSupplementary_4cfef_J2_getChar_3b067
set_option maxRecDepth 20000 in
theorem ggJ2_checkBoundsBeginEnd_d044e_J2_length_9d52b : GoodIn wsJ2_checkBoundsBeginEnd_d044e wsJ2_length_9d52b := goodIn_r _ [4] (by decide +kernel) (by decide +kernel)
set_option maxRecDepth 20000 in
theorem gJ2_checkBoundsBeginEnd_d044e_J2_length_9d52b : GoodIn wsJ2_checkBoundsBeginEnd_d044e (va_wsS RJ2 48 yJ2_length_9d52b wsJ2_length_9d52b) := goodIn_app (goodIn_of _ (by decide +kernel)) ggJ2_checkBoundsBeginEnd_d044e_J2_length_9d52b
set_option maxRecDepth 20000 in
theorem ggJ2_checkBoundsBeginEnd_d044e_J0_checkBoundsBeginEnd_23922 : GoodIn wsJ2_checkBoundsBeginEnd_d044e wsJ0_checkBoundsBeginEnd_23922 := goodIn_r _ [8, 9, 10, 11, 12, 13] (by decide +kernel) (by decide +kernel)
set_option maxRecDepth 20000 in
theorem gJ2_checkBoundsBeginEnd_d044e_J0_checkBoundsBeginEnd_23922 : GoodIn wsJ2_checkBoundsBeginEnd_d044e (va_wsS RJ2 241 yJ0_checkBoundsBeginEnd_23922 wsJ0_checkBoundsBeginEnd_23922) := goodIn_app (goodIn_of _ (by decide +kernel)) ggJ2_checkBoundsBeginEnd_d044e_J0_checkBoundsBeginEnd_23922
set_option maxRecDepth 20000 in
theorem ggL_law_X10_init : GoodIn wsL_law wsX10_init := goodIn_r _ [8, 9, 10, 11, 12, 13, 14, 15, 16, 17, 18, 19, 20, 21, 22, 23, 24, 25, 26, 27, 28, 29, 30, 31, 32, 33, 34, 35, 36, 37, 38, 39, 40, 41, 42, 43, 44, 45, 46, 47, 48, 49, 50, 51, 52, 53, 54, 55, 56, 57, 58, 59, 60, 61, 62, 63, 64, 65, 66, 67, 870, 871, 872, 873, 874, 875, 876, 877, 902, 903, 904, 905, 906, 907, 908, 909, 910, 911, 912, 913, 914, 915, 916, 917, 918, 919, 920, 921, 922] (by decide +kernel) (by decide +kernel)
set_option maxRecDepth 20000 in
theorem gL_law_X10_init : GoodIn wsL_law (wsX10_init) := ggL_law_X10_init
set_option maxRecDepth 20000 in
theorem ggL_law_X11_init : GoodIn wsL_law wsX11_init := goodIn_r _ [70, 71, 10, 11, 42, 72, 73, 74, 75, 76, 77, 78, 79, 52, 80, 81, 82, 83, 84, 85, 86, 878, 879, 880, 881, 882, 883, 884, 885, 886, 887, 888, 889, 890, 891, 892, 893, 894, 895, 896, 897, 898, 899, 900, 901] (by decide +kernel) (by decide +kernel)
set_option maxRecDepth 20000 in
theorem gL_law_X11_init : GoodIn wsL_law (wsX11_init) := ggL_law_X11_init
set_option maxRecDepth 20000 in
theorem ggL_law_X10_sign : GoodIn wsL_law wsX10_sign := goodIn_r _ [90, 13, 91, 92, 93, 2, 94, 95, 96, 15, 97, 98, 99, 100, 101, 102, 103, 104, 105, 106, 107, 108, 870, 871, 872, 873, 874, 875, 876, 877, 902, 903, 904] (by decide +kernel) (by decide +kernel)
set_option maxRecDepth 20000 in
theorem gL_law_X10_sign : GoodIn wsL_law (wsV RL 13 RX10 yX10_sign wsX10_sign) := goodIn_app (goodIn_of _ (by decide +kernel)) ggL_law_X10_sign
set_option maxRecDepth 20000 in
theorem ggL_law_X11_sign : GoodIn wsL_law wsX11_sign := goodIn_r _ [112, 113, 114, 115, 5, 116, 72, 73, 117, 118, 119, 120, 121, 122, 878, 879, 880, 881, 882, 883, 884, 885, 886, 887, 888, 889, 890, 891, 892, 893, 894, 895, 896, 897, 898, 899, 900, 901] (by decide +kernel) (by decide +kernel)
set_option maxRecDepth 20000 in
theorem gL_law_X11_sign : GoodIn wsL_law (wsV RL 17 RX11 yX11_sign wsX11_sign) := goodIn_app (goodIn_of _ (by decide +kernel)) ggL_law_X11_sign
set_option maxRecDepth 20000 in
theorem ggL_law_X10_read : GoodIn wsL_law wsX10_read := goodIn_r _ [126, 17, 127, 13, 128, 129, 130, 131, 2, 132, 92, 93, 94, 133, 134, 135, 136, 34, 98, 99, 100, 15, 101, 102, 95, 96, 97, 103, 104, 105, 106, 107, 108, 870, 871, 872, 873, 874, 875, 876, 877, 905, 906, 907, 908, 902, 903, 904] (by decide +kernel) (by decide +kernel)
set_option maxRecDepth 20000 in
theorem gL_law_X10_read : GoodIn wsL_law (wsV RL 18 RX10 yX10_read wsX10_read) := goodIn_app (goodIn_of _ (by decide +kernel)) ggL_law_X10_read
set_option maxRecDepth 20000 in
theorem ggL_law_X11_read : GoodIn wsL_law wsX11_read := goodIn_r _ [140, 82, 84, 85, 141, 142, 5, 143, 120, 121, 122, 117, 118, 119, 144, 145, 146, 147, 148, 113, 114, 115, 116, 72, 73, 878, 879, 880, 881, 882, 883, 884, 885, 886, 887, 888, 889, 890, 891, 892, 893, 894, 895, 896, 897, 898, 899, 900, 901] (by decide +kernel) (by decide +kernel)
set_option maxRecDepth 20000 in
theorem gL_law_X11_read : GoodIn wsL_law (wsV RL 21 RX11 yX11_read wsX11_read) := goodIn_app (goodIn_of _ (by decide +kernel)) ggL_law_X11_read
set_option maxRecDepth 20000 in
theorem ggL_law_X10_clear : GoodIn wsL_law wsX10_clear := goodIn_r _ [152, 13, 91, 92, 93, 2, 94, 153, 154, 155, 15, 156, 102, 107, 108, 870, 871, 872, 873, 874, 875, 876, 877, 902, 903, 904] (by decide +kernel) (by decide +kernel)
set_option maxRecDepth 20000 in
theorem gL_law_X10_clear : GoodIn wsL_law (wsV RL 22 RX10 yX10_clear wsX10_clear) := goodIn_app (goodIn_of _ (by decide +kernel)) ggL_law_X10_clear
set_option maxRecDepth 20000 in
theorem ggL_law_X11_clear : GoodIn wsL_law wsX11_clear := goodIn_r _ [160, 72, 117, 118, 5, 119, 120, 121, 122, 878, 879, 880, 881, 882, 883, 884, 885, 886, 887, 888, 889, 890, 891, 892, 893, 894, 895, 896, 897, 898, 899, 900, 901] (by decide +kernel) (by decide +kernel)
set_option maxRecDepth 20000 in
theorem gL_law_X11_clear : GoodIn wsL_law (wsV RL 26 RX11 yX11_clear wsX11_clear) := goodIn_app (goodIn_of _ (by decide +kernel)) ggL_law_X11_clear
set_option maxRecDepth 20000 in
theorem ggL_law_X10_at : GoodIn wsL_law wsX10_at := goodIn_r _ [164, 13, 91, 92, 93, 2, 94, 165, 166, 167, 15, 168, 102, 108, 107, 870, 871, 872, 873, 874, 875, 876, 877, 902, 903, 904] (by decide +kernel) (by decide +kernel)
set_option maxRecDepth 20000 in
theorem gL_law_X10_at : GoodIn wsL_law (wsV RL 27 RX10 yX10_at wsX10_at) := goodIn_app (goodIn_of _ (by decide +kernel)) ggL_law_X10_at
set_option maxRecDepth 20000 in
theorem ggL_law_X11_at : GoodIn wsL_law wsX11_at := goodIn_r _ [172, 72, 73, 117, 118, 5, 119, 120, 121, 122, 878, 879, 880, 881, 882, 883, 884, 885, 886, 887, 888, 889, 890, 891, 892, 893, 894, 895, 896, 897, 898, 899, 900, 901] (by decide +kernel) (by decide +kernel)
set_option maxRecDepth 20000 in
theorem gL_law_X11_at : GoodIn wsL_law (wsV RL 30 RX11 yX11_at wsX11_at) := goodIn_app (goodIn_of _ (by decide +kernel)) ggL_law_X11_at
set_option maxRecDepth 20000 in
theorem ggL_law_X10_set : GoodIn wsL_law wsX10_set := goodIn_r _ [176, 32, 33, 27, 177, 178, 179, 26, 180, 62, 870, 871, 872, 873, 874, 875, 876, 877, 918, 919] (by decide +kernel) (by decide +kernel)
set_option maxRecDepth 20000 in
theorem gL_law_X10_set : GoodIn wsL_law (wsV RL 31 RX10 yX10_set wsX10_set) := goodIn_app (goodIn_of _ (by decide +kernel)) ggL_law_X10_set
set_option maxRecDepth 20000 in
theorem ggL_law_X11_set : GoodIn wsL_law wsX11_set := goodIn_r _ [184, 74, 75, 120, 121, 5, 122, 878, 879, 880, 881, 882, 883, 884, 885, 886, 887, 888, 889, 890, 891, 892, 893, 894, 895, 896, 897, 898, 899, 900, 901] (by decide +kernel) (by decide +kernel)
set_option maxRecDepth 20000 in
theorem gL_law_X11_set : GoodIn wsL_law (wsV RL 34 RX11 yX11_set wsX11_set) := goodIn_app (goodIn_of _ (by decide +kernel)) ggL_law_X11_set
set_option maxRecDepth 20000 in
theorem ggL_law_X10_shows : GoodIn wsL_law wsX10_shows := goodIn_r _ [188, 13, 92, 93, 2, 94, 189, 190, 191, 192, 193, 194, 15, 195, 108, 196, 197, 198, 199, 91, 200, 33, 201, 202, 203, 204, 205, 206, 207, 208, 209, 210, 211, 212, 213, 214, 215, 216, 217, 218, 219, 220, 221, 222, 223, 224, 225, 226, 227, 228, 229, 230, 231, 232, 870, 871, 872, 873, 874, 875, 876, 877, 902, 903, 904] (by decide +kernel) (by decide +kernel)
set_option maxRecDepth 20000 in
theorem gL_law_X10_shows : GoodIn wsL_law (wsV RL 35 RX10 yX10_shows wsX10_shows) := goodIn_app (goodIn_of _ (by decide +kernel)) ggL_law_X10_shows
set_option maxRecDepth 20000 in
theorem ggL_law_X11_shows : GoodIn wsL_law wsX11_shows := goodIn_r _ [236, 117, 118, 5, 119, 120, 121, 122, 237, 238, 239, 240, 72, 241, 242, 243, 244, 73, 245, 246, 247, 248, 249, 250, 251, 252, 253, 254, 255, 256, 257, 258, 259, 75, 260, 261, 262, 878, 879, 880, 881, 882, 883, 884, 885, 886, 887, 888, 889, 890, 891, 892, 893, 894, 895, 896, 897, 898, 899, 900, 901] (by decide +kernel) (by decide +kernel)
set_option maxRecDepth 20000 in
theorem gL_law_X11_shows : GoodIn wsL_law (wsV RL 38 RX11 yX11_shows wsX11_shows) := goodIn_app (goodIn_of _ (by decide +kernel)) ggL_law_X11_shows
set_option maxRecDepth 20000 in
theorem ggL_law_X10_type : GoodIn wsL_law wsX10_type := goodIn_r _ [266, 23, 267, 27, 268, 269, 270, 22, 271, 55, 272, 273, 274, 275, 276, 277, 278, 279, 280, 281, 282, 49, 283, 284, 285, 286, 287, 288, 289, 290, 291, 292, 293, 294, 295, 296, 297, 298, 299, 300, 301, 302, 303, 304, 305, 306, 307, 308, 309, 310, 311, 206, 207, 208, 312, 313, 314, 315, 316, 317, 318, 319, 320, 321, 322, 323, 324, 325, 326, 327, 328, 329, 330, 331, 332, 333, 334, 335, 336, 337, 338, 339, 340, 341, 342, 343, 344, 345, 346, 347, 348, 349, 350, 351, 352, 353, 354, 355, 356, 357, 358, 359, 360, 361, 362, 363, 364, 365, 366, 367, 368, 369, 370, 371, 372, 50, 373, 374, 375, 376, 51, 377, 378, 379, 380, 381, 382, 383, 384, 53, 177, 178, 179, 26, 180, 62, 870, 871, 872, 873, 874, 875, 876, 877, 909, 910, 911, 912, 913, 914, 915, 916, 917, 918, 919] (by decide +kernel) (by decide +kernel)
set_option maxRecDepth 20000 in
theorem gL_law_X10_type : GoodIn wsL_law (wsV RL 39 RX10 yX10_type wsX10_type) := goodIn_app (goodIn_of _ (by decide +kernel)) ggL_law_X10_type
set_option maxRecDepth 20000 in
theorem ggL_law_X11_type : GoodIn wsL_law wsX11_type := goodIn_r _ [388, 389, 76, 390, 120, 121, 5, 122, 878, 879, 880, 881, 882, 883, 884, 885, 886, 887, 888, 889, 890, 891, 892, 893, 894, 895, 896, 897, 898, 899, 900, 901] (by decide +kernel) (by decide +kernel)
set_option maxRecDepth 20000 in
theorem gL_law_X11_type : GoodIn wsL_law (wsV RL 42 RX11 yX11_type wsX11_type) := goodIn_app (goodIn_of _ (by decide +kernel)) ggL_law_X11_type
set_option maxRecDepth 20000 in
theorem ggL_law_X10_wipe : GoodIn wsL_law wsX10_wipe := goodIn_r _ [394, 23, 267, 27, 395, 396, 397, 22, 398, 272, 282, 277, 55, 177, 178, 179, 26, 180, 62, 870, 871, 872, 873, 874, 875, 876, 877, 909, 910, 911, 912, 913, 914, 915, 916, 917, 918, 919] (by decide +kernel) (by decide +kernel)
set_option maxRecDepth 20000 in
theorem gL_law_X10_wipe : GoodIn wsL_law (wsV RL 43 RX10 yX10_wipe wsX10_wipe) := goodIn_app (goodIn_of _ (by decide +kernel)) ggL_law_X10_wipe
set_option maxRecDepth 20000 in
theorem ggL_law_X11_wipe : GoodIn wsL_law wsX11_wipe := goodIn_r _ [402, 389, 390, 878, 879, 880, 881, 882, 883, 884, 885, 886, 887, 888, 889, 890, 891, 892, 893, 894, 895, 896, 897, 898, 899, 900, 901] (by decide +kernel) (by decide +kernel)
set_option maxRecDepth 20000 in
theorem gL_law_X11_wipe : GoodIn wsL_law (wsV RL 47 RX11 yX11_wipe wsX11_wipe) := goodIn_app (goodIn_of _ (by decide +kernel)) ggL_law_X11_wipe
set_option maxRecDepth 20000 in
theorem ggL_law_X10_fault : GoodIn wsL_law wsX10_fault := goodIn_r _ [406, 23, 407, 408, 409, 22, 410, 55, 277, 272, 870, 871, 872, 873, 874, 875, 876, 877, 909, 910, 911, 912, 913, 914, 915, 916, 917] (by decide +kernel) (by decide +kernel)
set_option maxRecDepth 20000 in
theorem gL_law_X10_fault : GoodIn wsL_law (wsV RL 48 RX10 yX10_fault wsX10_fault) := goodIn_app (goodIn_of _ (by decide +kernel)) ggL_law_X10_fault
set_option maxRecDepth 20000 in
theorem ggL_law_X11_fault : GoodIn wsL_law wsX11_fault := goodIn_r _ [414, 415, 416, 417, 5, 418, 390, 419, 420, 421, 389, 422, 423, 424, 425, 77, 78, 79, 80, 426, 427, 428, 429, 76, 430, 431, 432, 120, 121, 122, 878, 879, 880, 881, 882, 883, 884, 885, 886, 887, 888, 889, 890, 891, 892, 893, 894, 895, 896, 897, 898, 899, 900, 901] (by decide +kernel) (by decide +kernel)
set_option maxRecDepth 20000 in
theorem gL_law_X11_fault : GoodIn wsL_law (wsV RL 51 RX11 yX11_fault wsX11_fault) := goodIn_app (goodIn_of _ (by decide +kernel)) ggL_law_X11_fault
set_option maxRecDepth 20000 in
theorem ggL_law_X10_holds : GoodIn wsL_law wsX10_holds := goodIn_r _ [436, 13, 23, 91, 200, 33, 92, 93, 2, 94, 192, 193, 194, 15, 195, 108, 437, 438, 439, 22, 440, 441, 408, 409, 410, 55, 277, 272, 442, 443, 444, 445, 282, 53, 49, 54, 446, 202, 203, 204, 205, 206, 207, 208, 209, 210, 211, 212, 213, 214, 215, 216, 217, 218, 219, 220, 221, 222, 223, 224, 225, 226, 227, 228, 229, 230, 231, 232, 447, 448, 449, 450, 50, 51, 870, 871, 872, 873, 874, 875, 876, 877, 902, 903, 904, 909, 910, 911, 912, 913, 914, 915, 916, 917] (by decide +kernel) (by decide +kernel)
set_option maxRecDepth 20000 in
theorem gL_law_X10_holds : GoodIn wsL_law (wsV RL 52 RX10 yX10_holds wsX10_holds) := goodIn_app (goodIn_of _ (by decide +kernel)) ggL_law_X10_holds
set_option maxRecDepth 20000 in
theorem ggL_law_X11_holds : GoodIn wsL_law wsX11_holds := goodIn_r _ [454, 72, 117, 118, 5, 119, 120, 121, 122, 241, 242, 243, 244, 73, 415, 416, 417, 418, 390, 419, 420, 421, 389, 422, 423, 424, 425, 77, 78, 79, 80, 426, 427, 428, 429, 76, 430, 431, 432, 245, 246, 247, 248, 455, 456, 457, 458, 249, 250, 251, 252, 253, 254, 255, 256, 257, 258, 259, 75, 260, 261, 262, 878, 879, 880, 881, 882, 883, 884, 885, 886, 887, 888, 889, 890, 891, 892, 893, 894, 895, 896, 897, 898, 899, 900, 901] (by decide +kernel) (by decide +kernel)
set_option maxRecDepth 20000 in
theorem gL_law_X11_holds : GoodIn wsL_law (wsV RL 55 RX11 yX11_holds wsX11_holds) := goodIn_app (goodIn_of _ (by decide +kernel)) ggL_law_X11_holds
set_option maxRecDepth 20000 in
theorem ggL_law_X10_shown : GoodIn wsL_law wsX10_shown := goodIn_r _ [462, 23, 27, 33, 463, 464, 465, 2, 466, 437, 438, 439, 22, 440, 441, 408, 409, 410, 55, 277, 272, 467, 468, 469, 26, 470, 62, 61, 471, 443, 444, 445, 282, 53, 49, 54, 446, 202, 203, 204, 205, 206, 207, 208, 209, 210, 211, 212, 213, 214, 215, 216, 217, 218, 219, 220, 221, 222, 223, 224, 225, 226, 227, 228, 229, 230, 231, 232, 447, 448, 449, 450, 50, 51, 472, 473, 474, 475, 476, 870, 871, 872, 873, 874, 875, 876, 877, 918, 919, 909, 910, 911, 912, 913, 914, 915, 916, 917] (by decide +kernel) (by decide +kernel)
set_option maxRecDepth 20000 in
theorem gL_law_X10_shown : GoodIn wsL_law (wsV RL 56 RX10 yX10_shown wsX10_shown) := goodIn_app (goodIn_of _ (by decide +kernel)) ggL_law_X10_shown
set_option maxRecDepth 20000 in
theorem ggL_law_X11_shown : GoodIn wsL_law wsX11_shown := goodIn_r _ [480, 120, 121, 5, 122, 481, 482, 483, 484, 415, 416, 417, 418, 390, 419, 420, 421, 389, 422, 423, 424, 425, 77, 78, 79, 80, 426, 427, 428, 429, 76, 430, 431, 432, 253, 254, 255, 455, 456, 457, 458, 249, 250, 251, 252, 256, 257, 258, 259, 75, 260, 261, 262, 878, 879, 880, 881, 882, 883, 884, 885, 886, 887, 888, 889, 890, 891, 892, 893, 894, 895, 896, 897, 898, 899, 900, 901] (by decide +kernel) (by decide +kernel)
set_option maxRecDepth 20000 in
theorem gL_law_X11_shown : GoodIn wsL_law (wsV RL 59 RX11 yX11_shown wsX11_shown) := goodIn_app (goodIn_of _ (by decide +kernel)) ggL_law_X11_shown
set_option maxRecDepth 20000 in
theorem ggL_law_X10_nth : GoodIn wsL_law wsX10_nth := goodIn_r _ [488, 23, 33, 464, 465, 2, 466, 437, 438, 439, 22, 440, 441, 408, 409, 410, 55, 277, 272, 442, 443, 444, 445, 282, 53, 49, 54, 446, 202, 203, 204, 205, 206, 207, 208, 209, 210, 211, 212, 213, 214, 215, 216, 217, 218, 219, 220, 221, 222, 223, 224, 225, 226, 227, 228, 229, 230, 231, 232, 447, 448, 449, 450, 50, 51, 870, 871, 872, 873, 874, 875, 876, 877, 909, 910, 911, 912, 913, 914, 915, 916, 917] (by decide +kernel) (by decide +kernel)
set_option maxRecDepth 20000 in
theorem gL_law_X10_nth : GoodIn wsL_law (wsV RL 60 RX10 yX10_nth wsX10_nth) := goodIn_app (goodIn_of _ (by decide +kernel)) ggL_law_X10_nth
set_option maxRecDepth 20000 in
theorem ggL_law_X11_nth : GoodIn wsL_law wsX11_nth := goodIn_r _ [492, 120, 121, 5, 122, 415, 416, 417, 418, 390, 419, 420, 421, 389, 422, 423, 424, 425, 77, 78, 79, 80, 426, 427, 428, 429, 76, 430, 431, 432, 455, 456, 457, 458, 249, 250, 251, 252, 253, 254, 255, 256, 257, 258, 259, 75, 260, 261, 262, 878, 879, 880, 881, 882, 883, 884, 885, 886, 887, 888, 889, 890, 891, 892, 893, 894, 895, 896, 897, 898, 899, 900, 901] (by decide +kernel) (by decide +kernel)
set_option maxRecDepth 20000 in
theorem gL_law_X11_nth : GoodIn wsL_law (wsV RL 63 RX11 yX11_nth wsX11_nth) := goodIn_app (goodIn_of _ (by decide +kernel)) ggL_law_X11_nth
set_option maxRecDepth 20000 in
theorem ggL_law_X10_share : GoodIn wsL_law wsX10_share := goodIn_r _ [496, 23, 27, 33, 463, 32, 464, 465, 2, 466, 497, 498, 499, 500, 501, 502, 503, 437, 438, 439, 22, 440, 441, 408, 409, 410, 55, 277, 272, 467, 468, 469, 26, 470, 62, 61, 471, 443, 444, 445, 282, 53, 49, 54, 446, 202, 203, 204, 205, 206, 207, 208, 209, 210, 211, 212, 213, 214, 215, 216, 217, 218, 219, 220, 221, 222, 223, 224, 225, 226, 227, 228, 229, 230, 231, 232, 447, 448, 449, 450, 50, 51, 472, 504, 505, 475, 506, 507, 508, 509, 510, 511, 512, 513, 514, 515, 516, 517, 870, 871, 872, 873, 874, 875, 876, 877, 918, 919, 909, 910, 911, 912, 913, 914, 915, 916, 917] (by decide +kernel) (by decide +kernel)
set_option maxRecDepth 20000 in
theorem gL_law_X10_share : GoodIn wsL_law (wsV RL 64 RX10 yX10_share wsX10_share) := goodIn_app (goodIn_of _ (by decide +kernel)) ggL_law_X10_share
set_option maxRecDepth 20000 in
theorem ggL_law_X11_share : GoodIn wsL_law wsX11_share := goodIn_r _ [521, 74, 522, 120, 121, 5, 122, 523, 524, 525, 526, 415, 416, 417, 418, 390, 419, 420, 421, 389, 422, 423, 424, 425, 77, 78, 79, 80, 426, 427, 428, 429, 76, 430, 431, 432, 455, 456, 457, 458, 249, 250, 251, 252, 253, 254, 255, 256, 257, 258, 259, 75, 260, 261, 262, 527, 528, 529, 530, 531, 532, 878, 879, 880, 881, 882, 883, 884, 885, 886, 887, 888, 889, 890, 891, 892, 893, 894, 895, 896, 897, 898, 899, 900, 901] (by decide +kernel) (by decide +kernel)
set_option maxRecDepth 20000 in
theorem gL_law_X11_share : GoodIn wsL_law (wsV RL 68 RX11 yX11_share wsX11_share) := goodIn_app (goodIn_of _ (by decide +kernel)) ggL_law_X11_share
set_option maxRecDepth 20000 in
theorem ggL_law_X10_fills : GoodIn wsL_law wsX10_fills := goodIn_r _ [536, 13, 537, 23, 31, 33, 538, 92, 93, 2, 94, 497, 498, 499, 539, 210, 211, 212, 213, 214, 215, 437, 438, 439, 22, 440, 441, 408, 409, 410, 55, 277, 272, 540, 541, 542, 30, 543, 67, 544, 545, 546, 547, 548, 549, 550, 443, 444, 445, 282, 53, 49, 54, 446, 202, 203, 204, 205, 206, 207, 208, 209, 216, 217, 218, 219, 220, 221, 222, 223, 224, 225, 226, 227, 228, 229, 230, 231, 232, 447, 448, 449, 450, 50, 51, 473, 474, 475, 476, 870, 871, 872, 873, 874, 875, 876, 877, 902, 903, 904, 920, 921, 922, 909, 910, 911, 912, 913, 914, 915, 916, 917] (by decide +kernel) (by decide +kernel)
set_option maxRecDepth 20000 in
theorem gL_law_X10_fills : GoodIn wsL_law (wsV RL 69 RX10 yX10_fills wsX10_fills) := goodIn_app (goodIn_of _ (by decide +kernel)) ggL_law_X10_fills
set_option maxRecDepth 20000 in
theorem ggL_law_X11_fills : GoodIn wsL_law wsX11_fills := goodIn_r _ [554, 555, 72, 117, 118, 5, 119, 120, 121, 122, 556, 557, 558, 559, 73, 81, 415, 416, 417, 418, 390, 419, 420, 421, 389, 422, 423, 424, 425, 77, 78, 79, 80, 426, 427, 428, 429, 76, 430, 431, 432, 560, 561, 562, 563, 245, 246, 247, 248, 455, 456, 457, 458, 249, 250, 251, 252, 253, 254, 255, 256, 257, 258, 259, 75, 260, 261, 262, 878, 879, 880, 881, 882, 883, 884, 885, 886, 887, 888, 889, 890, 891, 892, 893, 894, 895, 896, 897, 898, 899, 900, 901] (by decide +kernel) (by decide +kernel)
set_option maxRecDepth 20000 in
theorem gL_law_X11_fills : GoodIn wsL_law (wsV RL 72 RX11 yX11_fills wsX11_fills) := goodIn_app (goodIn_of _ (by decide +kernel)) ggL_law_X11_fills
set_option maxRecDepth 20000 in
theorem ggL_law_X10_filled : GoodIn wsL_law wsX10_filled := goodIn_r _ [567, 23, 31, 13, 33, 538, 537, 32, 92, 93, 2, 94, 497, 498, 499, 500, 501, 502, 503, 437, 438, 439, 22, 440, 441, 408, 409, 410, 55, 277, 272, 540, 541, 542, 30, 543, 67, 544, 545, 546, 547, 548, 549, 210, 211, 212, 213, 214, 215, 550, 443, 444, 445, 282, 53, 49, 54, 446, 202, 203, 204, 205, 206, 207, 208, 209, 216, 217, 218, 219, 220, 221, 222, 223, 224, 225, 226, 227, 228, 229, 230, 231, 232, 447, 448, 449, 450, 50, 51, 539, 504, 505, 475, 506, 507, 508, 509, 510, 511, 512, 513, 514, 515, 516, 517, 870, 871, 872, 873, 874, 875, 876, 877, 920, 921, 922, 902, 903, 904, 909, 910, 911, 912, 913, 914, 915, 916, 917] (by decide +kernel) (by decide +kernel)
set_option maxRecDepth 20000 in
theorem gL_law_X10_filled : GoodIn wsL_law (wsV RL 73 RX10 yX10_filled wsX10_filled) := goodIn_app (goodIn_of _ (by decide +kernel)) ggL_law_X10_filled
set_option maxRecDepth 20000 in
theorem ggL_law_X11_filled : GoodIn wsL_law wsX11_filled := goodIn_r _ [571, 555, 72, 74, 522, 117, 118, 5, 119, 120, 121, 122, 523, 524, 525, 526, 415, 416, 417, 418, 390, 419, 420, 421, 389, 422, 423, 424, 425, 77, 78, 79, 80, 426, 427, 428, 429, 76, 430, 431, 432, 556, 557, 558, 559, 73, 81, 560, 561, 562, 563, 245, 246, 247, 248, 455, 456, 457, 458, 249, 250, 251, 252, 253, 254, 255, 256, 257, 258, 259, 75, 260, 261, 262, 527, 528, 529, 530, 531, 532, 878, 879, 880, 881, 882, 883, 884, 885, 886, 887, 888, 889, 890, 891, 892, 893, 894, 895, 896, 897, 898, 899, 900, 901] (by decide +kernel) (by decide +kernel)
set_option maxRecDepth 20000 in
theorem gL_law_X11_filled : GoodIn wsL_law (wsV RL 76 RX11 yX11_filled wsX11_filled) := goodIn_app (goodIn_of _ (by decide +kernel)) ggL_law_X11_filled
set_option maxRecDepth 20000 in
theorem ggL_law_X10_sure : GoodIn wsL_law wsX10_sure := goodIn_r _ [575, 13, 23, 91, 31, 33, 538, 576, 577, 92, 93, 2, 94, 437, 438, 439, 22, 440, 441, 408, 409, 410, 55, 277, 272, 540, 541, 542, 30, 543, 67, 544, 545, 546, 547, 548, 549, 210, 211, 212, 213, 214, 215, 550, 443, 444, 445, 282, 53, 49, 54, 446, 202, 203, 204, 205, 206, 207, 208, 209, 216, 217, 218, 219, 220, 221, 222, 223, 224, 225, 226, 227, 228, 229, 230, 231, 232, 447, 448, 449, 450, 50, 51, 473, 474, 475, 476, 870, 871, 872, 873, 874, 875, 876, 877, 902, 903, 904, 920, 921, 922, 909, 910, 911, 912, 913, 914, 915, 916, 917] (by decide +kernel) (by decide +kernel)
set_option maxRecDepth 20000 in
theorem gL_law_X10_sure : GoodIn wsL_law (wsV RL 77 RX10 yX10_sure wsX10_sure) := goodIn_app (goodIn_of _ (by decide +kernel)) ggL_law_X10_sure
set_option maxRecDepth 20000 in
theorem ggL_law_X11_sure : GoodIn wsL_law wsX11_sure := goodIn_r _ [581, 72, 555, 117, 118, 5, 119, 120, 121, 122, 415, 416, 417, 418, 390, 419, 420, 421, 389, 422, 423, 424, 425, 77, 78, 79, 80, 426, 427, 428, 429, 76, 430, 431, 432, 556, 557, 558, 559, 73, 81, 560, 561, 562, 563, 245, 246, 247, 248, 455, 456, 457, 458, 249, 250, 251, 252, 253, 254, 255, 256, 257, 258, 259, 75, 260, 261, 262, 878, 879, 880, 881, 882, 883, 884, 885, 886, 887, 888, 889, 890, 891, 892, 893, 894, 895, 896, 897, 898, 899, 900, 901] (by decide +kernel) (by decide +kernel)
set_option maxRecDepth 20000 in
theorem gL_law_X11_sure : GoodIn wsL_law (wsV RL 80 RX11 yX11_sure wsX11_sure) := goodIn_app (goodIn_of _ (by decide +kernel)) ggL_law_X11_sure
set_option maxRecDepth 20000 in
theorem ggL_law_X10_dealt : GoodIn wsL_law wsX10_dealt := goodIn_r _ [585, 13, 92, 93, 2, 94, 189, 190, 191, 192, 193, 194, 15, 195, 108, 586, 587, 588, 589, 91, 33, 196, 197, 198, 199, 200, 201, 202, 203, 204, 205, 206, 207, 208, 209, 210, 211, 212, 213, 214, 215, 216, 217, 218, 219, 220, 221, 222, 223, 224, 225, 226, 227, 228, 229, 230, 231, 232, 590, 591, 592, 593, 594, 595, 596, 597, 598, 599, 600, 601, 602, 603, 604, 605, 606, 870, 871, 872, 873, 874, 875, 876, 877, 902, 903, 904] (by decide +kernel) (by decide +kernel)
set_option maxRecDepth 20000 in
theorem gL_law_X10_dealt : GoodIn wsL_law (wsV RL 81 RX10 yX10_dealt wsX10_dealt) := goodIn_app (goodIn_of _ (by decide +kernel)) ggL_law_X10_dealt
set_option maxRecDepth 20000 in
theorem ggL_law_X11_dealt : GoodIn wsL_law wsX11_dealt := goodIn_r _ [610, 611, 117, 118, 5, 119, 120, 121, 122, 241, 242, 243, 244, 72, 73, 612, 613, 614, 615, 245, 246, 247, 248, 253, 254, 255, 249, 250, 251, 252, 256, 257, 258, 259, 75, 260, 261, 262, 616, 617, 618, 619, 620, 621, 622, 878, 879, 880, 881, 882, 883, 884, 885, 886, 887, 888, 889, 890, 891, 892, 893, 894, 895, 896, 897, 898, 899, 900, 901] (by decide +kernel) (by decide +kernel)
set_option maxRecDepth 20000 in
theorem gL_law_X11_dealt : GoodIn wsL_law (wsV RL 85 RX11 yX11_dealt wsX11_dealt) := goodIn_app (goodIn_of _ (by decide +kernel)) ggL_law_X11_dealt
set_option maxRecDepth 20000 in
theorem ggL_law_X10_strangest : GoodIn wsL_law wsX10_strangest := goodIn_r _ [626, 13, 91, 92, 93, 2, 94, 192, 193, 194, 15, 195, 108, 586, 587, 588, 589, 33, 196, 197, 198, 199, 200, 201, 202, 203, 204, 205, 206, 207, 208, 209, 210, 211, 212, 213, 214, 215, 216, 217, 218, 219, 220, 221, 222, 223, 224, 225, 226, 227, 228, 229, 230, 231, 232, 590, 591, 592, 593, 594, 595, 596, 597, 598, 599, 600, 601, 602, 870, 871, 872, 873, 874, 875, 876, 877, 902, 903, 904] (by decide +kernel) (by decide +kernel)
set_option maxRecDepth 20000 in
theorem gL_law_X10_strangest : GoodIn wsL_law (wsV RL 86 RX10 yX10_strangest wsX10_strangest) := goodIn_app (goodIn_of _ (by decide +kernel)) ggL_law_X10_strangest
set_option maxRecDepth 20000 in
theorem ggL_law_X11_strangest : GoodIn wsL_law wsX11_strangest := goodIn_r _ [630, 72, 117, 118, 5, 119, 120, 121, 122, 241, 242, 243, 244, 73, 612, 613, 614, 615, 245, 246, 247, 248, 253, 254, 255, 249, 250, 251, 252, 256, 257, 258, 259, 75, 260, 261, 262, 878, 879, 880, 881, 882, 883, 884, 885, 886, 887, 888, 889, 890, 891, 892, 893, 894, 895, 896, 897, 898, 899, 900, 901] (by decide +kernel) (by decide +kernel)
set_option maxRecDepth 20000 in
theorem gL_law_X11_strangest : GoodIn wsL_law (wsV RL 89 RX11 yX11_strangest wsX11_strangest) := goodIn_app (goodIn_of _ (by decide +kernel)) ggL_law_X11_strangest
set_option maxRecDepth 20000 in
theorem ggL_law_X10_hot : GoodIn wsL_law wsX10_hot := goodIn_r _ [634, 13, 200, 92, 93, 2, 94, 635, 636, 637, 497, 498, 499, 500, 501, 502, 503, 192, 193, 194, 15, 195, 108, 638, 639, 592, 640, 539, 210, 211, 212, 213, 214, 215, 641, 513, 510, 514, 515, 516, 517, 870, 871, 872, 873, 874, 875, 876, 877, 902, 903, 904] (by decide +kernel) (by decide +kernel)
set_option maxRecDepth 20000 in
theorem gL_law_X10_hot : GoodIn wsL_law (wsV RL 90 RX10 yX10_hot wsX10_hot) := goodIn_app (goodIn_of _ (by decide +kernel)) ggL_law_X10_hot
set_option maxRecDepth 20000 in
theorem ggL_law_X11_hot : GoodIn wsL_law wsX11_hot := goodIn_r _ [645, 72, 646, 647, 117, 118, 5, 119, 120, 121, 122, 523, 524, 525, 526, 241, 242, 243, 244, 73, 245, 246, 247, 248, 648, 649, 650, 651, 530, 531, 532, 878, 879, 880, 881, 882, 883, 884, 885, 886, 887, 888, 889, 890, 891, 892, 893, 894, 895, 896, 897, 898, 899, 900, 901] (by decide +kernel) (by decide +kernel)
set_option maxRecDepth 20000 in
theorem gL_law_X11_hot : GoodIn wsL_law (wsV RL 94 RX11 yX11_hot wsX11_hot) := goodIn_app (goodIn_of _ (by decide +kernel)) ggL_law_X11_hot
set_option maxRecDepth 20000 in
theorem ggL_law_X10_already : GoodIn wsL_law wsX10_already := goodIn_r _ [655, 13, 656, 92, 93, 2, 94, 635, 636, 637, 497, 498, 499, 500, 501, 502, 503, 192, 193, 194, 15, 195, 108, 590, 591, 592, 593, 594, 595, 596, 210, 211, 212, 213, 214, 215, 597, 598, 599, 638, 639, 640, 657, 658, 659, 660, 600, 601, 602, 641, 513, 510, 514, 515, 516, 517, 870, 871, 872, 873, 874, 875, 876, 877, 902, 903, 904] (by decide +kernel) (by decide +kernel)
set_option maxRecDepth 20000 in
theorem gL_law_X10_already : GoodIn wsL_law (wsV RL 95 RX10 yX10_already wsX10_already) := goodIn_app (goodIn_of _ (by decide +kernel)) ggL_law_X10_already
set_option maxRecDepth 20000 in
theorem ggL_law_X11_already : GoodIn wsL_law wsX11_already := goodIn_r _ [664, 72, 646, 647, 665, 117, 118, 5, 119, 120, 121, 122, 523, 524, 525, 526, 241, 242, 243, 244, 73, 245, 246, 247, 248, 253, 254, 255, 648, 649, 650, 651, 530, 531, 532, 878, 879, 880, 881, 882, 883, 884, 885, 886, 887, 888, 889, 890, 891, 892, 893, 894, 895, 896, 897, 898, 899, 900, 901] (by decide +kernel) (by decide +kernel)
set_option maxRecDepth 20000 in
theorem gL_law_X11_already : GoodIn wsL_law (wsV RL 98 RX11 yX11_already wsX11_already) := goodIn_app (goodIn_of _ (by decide +kernel)) ggL_law_X11_already
set_option maxRecDepth 20000 in
theorem ggL_law_X10_waits : GoodIn wsL_law wsX10_waits := goodIn_r _ [669, 33, 32, 497, 498, 2, 499, 500, 501, 502, 503, 670, 671, 227, 672, 673, 229, 230, 231, 232, 210, 211, 212, 213, 214, 215, 674, 675, 676, 677, 509, 510, 511, 678, 679, 680, 641, 513, 514, 515, 516, 517, 870, 871, 872, 873, 874, 875, 876, 877] (by decide +kernel) (by decide +kernel)
set_option maxRecDepth 20000 in
theorem gL_law_X10_waits : GoodIn wsL_law (wsV RL 99 RX10 yX10_waits wsX10_waits) := goodIn_app (goodIn_of _ (by decide +kernel)) ggL_law_X10_waits
set_option maxRecDepth 20000 in
theorem ggL_law_X11_waits : GoodIn wsL_law wsX11_waits := goodIn_r _ [684, 120, 121, 5, 122, 685, 686, 687, 688, 75, 689, 690, 691, 692, 522, 260, 261, 262, 693, 694, 695, 527, 528, 529, 696, 697, 698, 699, 74, 530, 531, 532, 523, 524, 525, 526, 878, 879, 880, 881, 882, 883, 884, 885, 886, 887, 888, 889, 890, 891, 892, 893, 894, 895, 896, 897, 898, 899, 900, 901] (by decide +kernel) (by decide +kernel)
set_option maxRecDepth 20000 in
theorem gL_law_X11_waits : GoodIn wsL_law (wsV RL 103 RX11 yX11_waits wsX11_waits) := goodIn_app (goodIn_of _ (by decide +kernel)) ggL_law_X11_waits
set_option maxRecDepth 20000 in
theorem ggL_law_X10_first : GoodIn wsL_law wsX10_first := goodIn_r _ [703, 32, 704, 705, 2, 706, 497, 498, 499, 500, 501, 502, 503, 707, 708, 227, 709, 229, 230, 231, 710, 226, 228, 232, 210, 211, 212, 213, 214, 215, 670, 671, 672, 673, 674, 675, 676, 677, 509, 510, 511, 641, 513, 514, 515, 516, 517, 870, 871, 872, 873, 874, 875, 876, 877] (by decide +kernel) (by decide +kernel)
set_option maxRecDepth 20000 in
theorem gL_law_X10_first : GoodIn wsL_law (wsV RL 104 RX10 yX10_first wsX10_first) := goodIn_app (goodIn_of _ (by decide +kernel)) ggL_law_X10_first
set_option maxRecDepth 20000 in
theorem ggL_law_X11_first : GoodIn wsL_law wsX11_first := goodIn_r _ [714, 120, 121, 5, 122, 523, 524, 525, 526, 715, 716, 717, 260, 261, 262, 696, 697, 698, 699, 74, 689, 690, 691, 692, 522, 693, 694, 695, 527, 528, 529, 530, 531, 532, 878, 879, 880, 881, 882, 883, 884, 885, 886, 887, 888, 889, 890, 891, 892, 893, 894, 895, 896, 897, 898, 899, 900, 901] (by decide +kernel) (by decide +kernel)
set_option maxRecDepth 20000 in
theorem gL_law_X11_first : GoodIn wsL_law (wsV RL 107 RX11 yX11_first wsX11_first) := goodIn_app (goodIn_of _ (by decide +kernel)) ggL_law_X11_first
set_option maxRecDepth 20000 in
theorem ggL_law_X10_agree : GoodIn wsL_law wsX10_agree := goodIn_r _ [721, 13, 91, 200, 92, 93, 2, 94, 497, 498, 499, 192, 193, 194, 15, 195, 108, 539, 210, 211, 212, 213, 214, 215, 590, 591, 592, 593, 594, 595, 596, 597, 598, 599, 600, 601, 602, 603, 604, 605, 606, 870, 871, 872, 873, 874, 875, 876, 877, 902, 903, 904] (by decide +kernel) (by decide +kernel)
set_option maxRecDepth 20000 in
theorem gL_law_X10_agree : GoodIn wsL_law (wsV RL 108 RX10 yX10_agree wsX10_agree) := goodIn_app (goodIn_of _ (by decide +kernel)) ggL_law_X10_agree
set_option maxRecDepth 20000 in
theorem ggL_law_X11_agree : GoodIn wsL_law wsX11_agree := goodIn_r _ [725, 72, 611, 117, 118, 5, 119, 120, 121, 122, 241, 242, 243, 244, 73, 245, 246, 247, 248, 253, 254, 255, 616, 617, 618, 619, 620, 621, 622, 878, 879, 880, 881, 882, 883, 884, 885, 886, 887, 888, 889, 890, 891, 892, 893, 894, 895, 896, 897, 898, 899, 900, 901] (by decide +kernel) (by decide +kernel)
set_option maxRecDepth 20000 in
theorem gL_law_X11_agree : GoodIn wsL_law (wsV RL 112 RX11 yX11_agree wsX11_agree) := goodIn_app (goodIn_of _ (by decide +kernel)) ggL_law_X11_agree
set_option maxRecDepth 20000 in
theorem ggL_law_X10_twice : GoodIn wsL_law wsX10_twice := goodIn_r _ [729, 13, 91, 200, 92, 93, 2, 94, 192, 193, 194, 15, 195, 108, 730, 731, 732, 870, 871, 872, 873, 874, 875, 876, 877, 902, 903, 904] (by decide +kernel) (by decide +kernel)
set_option maxRecDepth 20000 in
theorem gL_law_X10_twice : GoodIn wsL_law (wsV RL 113 RX10 yX10_twice wsX10_twice) := goodIn_app (goodIn_of _ (by decide +kernel)) ggL_law_X10_twice
set_option maxRecDepth 20000 in
theorem ggL_law_X11_twice : GoodIn wsL_law wsX11_twice := goodIn_r _ [736, 72, 73, 117, 118, 5, 119, 120, 121, 122, 241, 242, 243, 244, 878, 879, 880, 881, 882, 883, 884, 885, 886, 887, 888, 889, 890, 891, 892, 893, 894, 895, 896, 897, 898, 899, 900, 901] (by decide +kernel) (by decide +kernel)
set_option maxRecDepth 20000 in
theorem gL_law_X11_twice : GoodIn wsL_law (wsV RL 116 RX11 yX11_twice wsX11_twice) := goodIn_app (goodIn_of _ (by decide +kernel)) ggL_law_X11_twice
set_option maxRecDepth 20000 in
theorem ggL_law_X10_next : GoodIn wsL_law wsX10_next := goodIn_r _ [740, 13, 91, 537, 92, 93, 2, 94, 741, 742, 743, 15, 744, 102, 108, 107, 165, 166, 167, 168, 641, 513, 510, 514, 515, 516, 517, 870, 871, 872, 873, 874, 875, 876, 877, 902, 903, 904] (by decide +kernel) (by decide +kernel)
set_option maxRecDepth 20000 in
theorem gL_law_X10_next : GoodIn wsL_law (wsV RL 117 RX10 yX10_next wsX10_next) := goodIn_app (goodIn_of _ (by decide +kernel)) ggL_law_X10_next
set_option maxRecDepth 20000 in
theorem ggL_law_X11_next : GoodIn wsL_law wsX11_next := goodIn_r _ [748, 72, 73, 749, 117, 118, 5, 119, 120, 121, 122, 530, 531, 532, 878, 879, 880, 881, 882, 883, 884, 885, 886, 887, 888, 889, 890, 891, 892, 893, 894, 895, 896, 897, 898, 899, 900, 901] (by decide +kernel) (by decide +kernel)
set_option maxRecDepth 20000 in
theorem gL_law_X11_next : GoodIn wsL_law (wsV RL 120 RX11 yX11_next wsX11_next) := goodIn_app (goodIn_of _ (by decide +kernel)) ggL_law_X11_next
set_option maxRecDepth 20000 in
theorem ggL_law_X10_sheet : GoodIn wsL_law wsX10_sheet := goodIn_r _ [753, 17, 130, 131, 2, 132, 754, 755, 756, 133, 134, 135, 136, 34, 757, 758, 759, 19, 760, 43, 44, 761, 762, 870, 871, 872, 873, 874, 875, 876, 877, 905, 906, 907, 908] (by decide +kernel) (by decide +kernel)
set_option maxRecDepth 20000 in
theorem gL_law_X10_sheet : GoodIn wsL_law (wsV RL 121 RX10 yX10_sheet wsX10_sheet) := goodIn_app (goodIn_of _ (by decide +kernel)) ggL_law_X10_sheet
set_option maxRecDepth 20000 in
theorem ggL_law_X11_sheet : GoodIn wsL_law wsX11_sheet := goodIn_r _ [766, 82, 83, 84, 85, 141, 142, 5, 143, 120, 121, 122, 144, 145, 146, 147, 148, 878, 879, 880, 881, 882, 883, 884, 885, 886, 887, 888, 889, 890, 891, 892, 893, 894, 895, 896, 897, 898, 899, 900, 901] (by decide +kernel) (by decide +kernel)
set_option maxRecDepth 20000 in
theorem gL_law_X11_sheet : GoodIn wsL_law (wsV RL 124 RX11 yX11_sheet wsX11_sheet) := goodIn_app (goodIn_of _ (by decide +kernel)) ggL_law_X11_sheet
set_option maxRecDepth 20000 in
theorem ggL_law_X10_lose : GoodIn wsL_law wsX10_lose := goodIn_r _ [770, 17, 127, 128, 130, 131, 2, 132, 133, 134, 135, 136, 34, 870, 871, 872, 873, 874, 875, 876, 877, 905, 906, 907, 908] (by decide +kernel) (by decide +kernel)
set_option maxRecDepth 20000 in
theorem gL_law_X10_lose : GoodIn wsL_law (wsV RL 125 RX10 yX10_lose wsX10_lose) := goodIn_app (goodIn_of _ (by decide +kernel)) ggL_law_X10_lose
set_option maxRecDepth 20000 in
theorem ggL_law_X11_lose : GoodIn wsL_law wsX11_lose := goodIn_r _ [774, 82, 84, 141, 142, 5, 143, 120, 121, 122, 144, 145, 146, 147, 148, 878, 879, 880, 881, 882, 883, 884, 885, 886, 887, 888, 889, 890, 891, 892, 893, 894, 895, 896, 897, 898, 899, 900, 901] (by decide +kernel) (by decide +kernel)
set_option maxRecDepth 20000 in
theorem gL_law_X11_lose : GoodIn wsL_law (wsV RL 128 RX11 yX11_lose wsX11_lose) := goodIn_app (goodIn_of _ (by decide +kernel)) ggL_law_X11_lose
set_option maxRecDepth 20000 in
theorem ggL_law_X10_put : GoodIn wsL_law wsX10_put := goodIn_r _ [778, 17, 779, 780, 781, 2, 782, 127, 783, 128, 130, 131, 132, 754, 755, 756, 133, 134, 135, 136, 34, 784, 785, 786, 19, 787, 761, 43, 870, 871, 872, 873, 874, 875, 876, 877, 905, 906, 907, 908] (by decide +kernel) (by decide +kernel)
set_option maxRecDepth 20000 in
theorem gL_law_X10_put : GoodIn wsL_law (wsV RL 129 RX10 yX10_put wsX10_put) := goodIn_app (goodIn_of _ (by decide +kernel)) ggL_law_X10_put
set_option maxRecDepth 20000 in
theorem ggL_law_X11_put : GoodIn wsL_law wsX11_put := goodIn_r _ [791, 141, 142, 5, 143, 120, 121, 122, 792, 793, 794, 795, 82, 83, 84, 144, 145, 146, 147, 148, 796, 797, 798, 799, 85, 878, 879, 880, 881, 882, 883, 884, 885, 886, 887, 888, 889, 890, 891, 892, 893, 894, 895, 896, 897, 898, 899, 900, 901] (by decide +kernel) (by decide +kernel)
set_option maxRecDepth 20000 in
theorem gL_law_X11_put : GoodIn wsL_law (wsV RL 133 RX11 yX11_put wsX11_put) := goodIn_app (goodIn_of _ (by decide +kernel)) ggL_law_X11_put
set_option maxRecDepth 20000 in
theorem ggL_law_X10_get : GoodIn wsL_law wsX10_get := goodIn_r _ [803, 804, 17, 129, 779, 780, 781, 2, 782, 127, 783, 128, 130, 131, 132, 754, 755, 756, 133, 134, 135, 136, 34, 870, 871, 872, 873, 874, 875, 876, 877, 905, 906, 907, 908] (by decide +kernel) (by decide +kernel)
set_option maxRecDepth 20000 in
theorem gL_law_X10_get : GoodIn wsL_law (wsV RL 134 RX10 yX10_get wsX10_get) := goodIn_app (goodIn_of _ (by decide +kernel)) ggL_law_X10_get
set_option maxRecDepth 20000 in
theorem ggL_law_X11_get : GoodIn wsL_law wsX11_get := goodIn_r _ [808, 809, 148, 85, 141, 142, 5, 143, 120, 121, 122, 792, 793, 794, 795, 82, 83, 84, 878, 879, 880, 881, 882, 883, 884, 885, 886, 887, 888, 889, 890, 891, 892, 893, 894, 895, 896, 897, 898, 899, 900, 901] (by decide +kernel) (by decide +kernel)
set_option maxRecDepth 20000 in
theorem gL_law_X11_get : GoodIn wsL_law (wsV RL 137 RX11 yX11_get wsX11_get) := goodIn_app (goodIn_of _ (by decide +kernel)) ggL_law_X11_get
set_option maxRecDepth 20000 in
theorem ggL_law_X10_copy : GoodIn wsL_law wsX10_copy := goodIn_r _ [813, 17, 127, 783, 129, 814, 815, 816, 817, 130, 131, 2, 132, 133, 134, 135, 136, 34, 818, 819, 820, 19, 821, 762, 870, 871, 872, 873, 874, 875, 876, 877, 905, 906, 907, 908] (by decide +kernel) (by decide +kernel)
set_option maxRecDepth 20000 in
theorem gL_law_X10_copy : GoodIn wsL_law (wsV RL 138 RX10 yX10_copy wsX10_copy) := goodIn_app (goodIn_of _ (by decide +kernel)) ggL_law_X10_copy
set_option maxRecDepth 20000 in
theorem ggL_law_X11_copy : GoodIn wsL_law wsX11_copy := goodIn_r _ [825, 82, 83, 84, 86, 85, 141, 142, 5, 143, 120, 121, 122, 144, 145, 146, 147, 148, 878, 879, 880, 881, 882, 883, 884, 885, 886, 887, 888, 889, 890, 891, 892, 893, 894, 895, 896, 897, 898, 899, 900, 901] (by decide +kernel) (by decide +kernel)
set_option maxRecDepth 20000 in
theorem gL_law_X11_copy : GoodIn wsL_law (wsV RL 142 RX11 yX11_copy wsX11_copy) := goodIn_app (goodIn_of _ (by decide +kernel)) ggL_law_X11_copy
set_option maxRecDepth 20000 in
theorem ggL_law_X10_write : GoodIn wsL_law wsX10_write := goodIn_r _ [829, 17, 127, 128, 13, 91, 830, 313, 207, 314, 92, 93, 2, 94, 130, 131, 132, 133, 134, 135, 136, 34, 165, 166, 167, 15, 168, 102, 108, 107, 784, 785, 786, 19, 787, 761, 43, 870, 871, 872, 873, 874, 875, 876, 877, 905, 906, 907, 908, 902, 903, 904] (by decide +kernel) (by decide +kernel)
set_option maxRecDepth 20000 in
theorem gL_law_X10_write : GoodIn wsL_law (wsV RL 143 RX10 yX10_write wsX10_write) := goodIn_app (goodIn_of _ (by decide +kernel)) ggL_law_X10_write
set_option maxRecDepth 20000 in
theorem ggL_law_X11_write : GoodIn wsL_law wsX11_write := goodIn_r _ [834, 82, 72, 84, 73, 117, 118, 5, 119, 120, 121, 122, 141, 142, 143, 144, 145, 146, 147, 148, 796, 797, 798, 799, 85, 83, 878, 879, 880, 881, 882, 883, 884, 885, 886, 887, 888, 889, 890, 891, 892, 893, 894, 895, 896, 897, 898, 899, 900, 901] (by decide +kernel) (by decide +kernel)
set_option maxRecDepth 20000 in
theorem gL_law_X11_write : GoodIn wsL_law (wsV RL 146 RX11 yX11_write wsX11_write) := goodIn_app (goodIn_of _ (by decide +kernel)) ggL_law_X11_write
set_option maxRecDepth 20000 in
theorem ggL_law_X10_count : GoodIn wsL_law wsX10_count := goodIn_r _ [838, 13, 91, 23, 267, 32, 33, 34, 92, 93, 2, 94, 839, 840, 841, 842, 192, 193, 194, 15, 195, 108, 870, 871, 872, 873, 874, 875, 876, 877, 902, 903, 904, 909, 910, 911, 912, 913, 914, 915, 916, 917] (by decide +kernel) (by decide +kernel)
set_option maxRecDepth 20000 in
theorem gL_law_X10_count : GoodIn wsL_law (wsV RL 147 RX10 yX10_count wsX10_count) := goodIn_app (goodIn_of _ (by decide +kernel)) ggL_law_X10_count
set_option maxRecDepth 20000 in
theorem ggL_law_X11_count : GoodIn wsL_law wsX11_count := goodIn_r _ [846, 72, 389, 74, 75, 148, 847, 848, 849, 5, 850, 241, 242, 243, 244, 73, 878, 879, 880, 881, 882, 883, 884, 885, 886, 887, 888, 889, 890, 891, 892, 893, 894, 895, 896, 897, 898, 899, 900, 901] (by decide +kernel) (by decide +kernel)
set_option maxRecDepth 20000 in
theorem gL_law_X11_count : GoodIn wsL_law (wsV RL 150 RX11 yX11_count wsX11_count) := goodIn_app (goodIn_of _ (by decide +kernel)) ggL_law_X11_count
set_option maxRecDepth 20000 in
theorem ggL_law_X10_digest : GoodIn wsL_law wsX10_digest := goodIn_r _ [854, 855, 856, 13, 91, 857, 836, 837, 2, 838, 23, 267, 32, 33, 34, 92, 93, 94, 839, 840, 841, 842, 192, 193, 194, 15, 195, 108, 165, 166, 167, 168, 102, 107, 858, 186, 187, 188, 189, 190, 191, 196, 197, 198, 199, 200, 201, 202, 203, 204, 205, 206, 207, 208, 209, 210, 211, 212, 213, 214, 215, 216, 217, 218, 219, 220, 221, 222, 223, 224, 225, 226, 227, 228, 229, 230, 231, 232, 859, 404, 405, 406, 407, 408, 409, 22, 410, 55, 277, 272, 860, 460, 461, 462, 27, 463, 464, 465, 466, 437, 438, 439, 440, 441, 467, 468, 469, 26, 470, 62, 61, 471, 443, 444, 445, 282, 53, 49, 54, 446, 447, 448, 449, 450, 50, 51, 472, 473, 474, 475, 476, 861, 667, 668, 669, 497, 498, 499, 500, 501, 502, 503, 670, 671, 672, 673, 674, 675, 676, 677, 509, 510, 511, 678, 679, 680, 641, 513, 514, 515, 516, 517, 862, 534, 535, 536, 537, 31, 538, 539, 540, 541, 542, 30, 543, 67, 544, 545, 546, 547, 548, 549, 550, 870, 871, 872, 873, 874, 875, 876, 877, 902, 903, 904, 909, 910, 911, 912, 913, 914, 915, 916, 917, 918, 919, 920, 921, 922] (by decide +kernel) (by decide +kernel)
set_option maxRecDepth 20000 in
theorem gL_law_X10_digest : GoodIn wsL_law (wsV RL 151 RX10 yX10_digest wsX10_digest) := goodIn_app (goodIn_of _ (by decide +kernel)) ggL_law_X10_digest
set_option maxRecDepth 20000 in
theorem ggL_law_X11_digest : GoodIn wsL_law wsX11_digest := goodIn_r _ [866, 867, 868, 72, 73, 555, 869, 844, 845, 5, 846, 389, 74, 75, 148, 847, 848, 849, 850, 241, 242, 243, 244, 237, 238, 239, 240, 245, 246, 247, 248, 249, 250, 251, 252, 253, 254, 255, 256, 257, 258, 259, 260, 261, 262, 415, 416, 417, 418, 390, 419, 420, 421, 422, 423, 424, 425, 77, 78, 79, 80, 426, 427, 428, 429, 76, 430, 431, 432, 120, 121, 122, 481, 482, 483, 484, 455, 456, 457, 458, 685, 686, 687, 688, 689, 690, 691, 692, 522, 693, 694, 695, 527, 528, 529, 696, 697, 698, 699, 530, 531, 532, 556, 557, 558, 559, 81, 878, 879, 880, 881, 882, 883, 884, 885, 886, 887, 888, 889, 890, 891, 892, 893, 894, 895, 896, 897, 898, 899, 900, 901] (by decide +kernel) (by decide +kernel)
set_option maxRecDepth 20000 in
theorem gL_law_X11_digest : GoodIn wsL_law (wsV RL 155 RX11 yX11_digest wsX11_digest) := goodIn_app (goodIn_of _ (by decide +kernel)) ggL_law_X11_digest
abbrev vwCl : List vw_C := [(RX0, TX0, 3), (RX5, TX5, 3), (RX6, TX6, 9), (RX7, TX7, 4), (RX8, TX8, 2), (RX10, TX10, 8), (RX11, TX11, 24)]
