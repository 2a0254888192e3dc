/-! own rows: standard contracts, calls over a whole world, guards of the pure pictures -/
abbrev xTys (k : Nat → ClassId) : List (ClassId × FieldType) := [(k 0, .int), (k 1, .boolean), (k 2, .object "RowsOfTwo$Row"), (k 3, .object "RowsOfTwo$Sheet"), (k 4, .array .int)]
abbrev xRm (n : Nat) : Room := { frames := n, cells := 0, slots := 0, locals := 34 * n }
abbrev xPre (D : va_G) (k : Nat → ClassId) (ws : va_W) (sz : Nat) : State → Prop := fun U => U.heap.size = sz ∧ va_P D vwCl ws U.heap ∧ va_K D vwCl (xTys k) U ∧ va_D (fun _ => True) ws
abbrev xAt (D : va_G) (k : Nat → ClassId) (A : Nat → Prop) (ws : va_W) (t : State) : Prop := va_P D vwCl ws t.heap ∧ va_K D vwCl (xTys k) t ∧ va_D A ws
abbrev rPre (D : va_G) (k : Nat → ClassId) (ws : va_W) : State → Prop := fun U => va_P D vwCl ws U.heap ∧ va_K D vwCl (xTys k) U
abbrev mPi (l : Launch) (y : MethodName) (wd : List Cond) (n : Nat) (as : List Value) (r : Int32) : Prop := Met l y wd (xRm n) (va_Pc as (fun _ => True)) (vp_Si (fun r' => r' = r)) 0 0 (fun _ => False)
abbrev mPl (l : Launch) (y : MethodName) (wd : List Cond) (n : Nat) (as : List Value) (r : Int64) : Prop := Met l y wd (xRm n) (va_Pc as (fun _ => True)) (vp_Sl (fun r' => r' = r)) 0 0 (fun _ => False)
abbrev mRi (l : Launch) (y : MethodName) (wd : List Cond) (n : Nat) (D : va_G) (k : Nat → ClassId) (as : List Value) (ws : va_W) (r : Int32) : Prop := Met l y wd (xRm n) (va_Pc as (rPre D k ws)) (vp_Si (fun r' => r' = r)) 0 0 (fun _ => False)
abbrev mRl (l : Launch) (y : MethodName) (wd : List Cond) (n : Nat) (D : va_G) (k : Nat → ClassId) (as : List Value) (ws : va_W) (r : Int64) : Prop := Met l y wd (xRm n) (va_Pc as (rPre D k ws)) (vp_Sl (fun r' => r' = r)) 0 0 (fun _ => False)
abbrev mQi (l : Launch) (y : MethodName) (wd : List Cond) (n : Nat) (D : va_G) (k : Nat → ClassId) (as : List Value) (ws : va_W) (r : Int32) (ws' : va_W) : Prop := ∀ sz : Nat, Met l y wd (xRm n) (va_Pc as (xPre D k ws sz)) (va_Qi (fun (r' : Int32) (w' : va_W) => r' = r ∧ w' = ws') (xAt D k (va_A ws sz)) (va_A ws sz)) 0 0 (va_A ws sz)
abbrev mQl (l : Launch) (y : MethodName) (wd : List Cond) (n : Nat) (D : va_G) (k : Nat → ClassId) (as : List Value) (ws : va_W) (r : Int64) (ws' : va_W) : Prop := ∀ sz : Nat, Met l y wd (xRm n) (va_Pc as (xPre D k ws sz)) (va_Ql (fun (r' : Int64) (w' : va_W) => r' = r ∧ w' = ws') (xAt D k (va_A ws sz)) (va_A ws sz)) 0 0 (va_A ws sz)
abbrev mQv (l : Launch) (y : MethodName) (wd : List Cond) (n : Nat) (D : va_G) (k : Nat → ClassId) (as : List Value) (ws : va_W) (ws' : va_W) : Prop := ∀ sz : Nat, Met l y wd (xRm n) (va_Pc as (xPre D k ws sz)) (va_Qv (fun (w' : va_W) => w' = ws') (xAt D k (va_A ws sz)) (va_A ws sz)) 0 0 (va_A ws sz)
/-- the free cells of a callee that has the whole world -/
theorem xFree {A : Nat → Prop} {ws : va_W} {H0 H : Heap} {locs : List Loc} (hD : va_D A ws) (hS : va_S A H0 H locs) (hA : ∀ q, H0.size ≤ q → A q) : ∀ q, va_A ws H.size q → A q := by
  intro q h
  rcases h with ⟨k, e, h⟩ | h
  · exact hD.2 k (q, e) h
  · exact hA q (Nat.le_trans hS.1 h)
theorem xBlind {D : va_G} {k : Nat → ClassId} {as : List Value} {ws : va_W} {sz : Nat} : FrameBlind (va_Pc as (xPre D k ws sz)) := fun a U g mk q => ⟨q.1, q.2.1, q.2.2.1, va_K.moved (u := U) (U := U.calling g mk a) (Vm.Alike.refl U.vm) q.2.2.2.1, q.2.2.2.2⟩
theorem rBlind {D : va_G} {k : Nat → ClassId} {as : List Value} {ws : va_W} : FrameBlind (va_Pc as (rPre D k ws)) := fun a U g mk q => ⟨q.1, q.2.1, va_K.moved (u := U) (U := U.calling g mk a) (Vm.Alike.refl U.vm) q.2.2⟩
section XK
variable {p : Program} {l : Launch} {e : Env} {R : Room} {s : State} {m : MethodId} {args : Array Value} {below : List Frame} {meth : Method} {c : Code} {H : Heap} {locs : List Loc} {Q : State → Prop}
variable {Ts wd : List Cond} {cc bytes : ByteArray} {nL maxL index n lv cells slots : Nat} {own C : String} {y : MethodName} {ret : Option FieldType} {As rest st0 : List Value} {pc : Nat} {ls : Array Slot} {D : va_G} {k : Nat → ClassId} {ws ws' : va_W} {A : Nat → Prop} {H0 : Heap} {b : Nat}
theorem kPi {r : Int32} (S : CallFix p m c cc nL s args Ts own) (hM : mPi l y wd lv As r) (cw : CallB R s args own index y bytes maxL ret wd (xRm lv) 0 0 n ∧ (Cond.static y).before args s = true) (hn : As.length = n) (hsize : ls.size = nL) (hst : st0 = As.reverse ++ rest) (hW : (rest.map fun v => v.category).sum ≤ 8) (hdg : decode cc pc = .ok (.invokestatic index, 3)) (hf : cells ≤ R.cells ∧ slots ≤ R.slots)
    (kk : W p l e R s m args below meth c H locs cells slots Q (F0 m (pc + 3) ls (.int r :: rest))) : W p l e R s m args below meth c H locs cells slots Q (F0 m pc ls st0) :=
  vp_callSi (W.runS S hM cw ⟨fun _ _ _ _ q => ⟨q.1, trivial⟩, fun _ _ _ => ⟨rfl, trivial⟩⟩ rfl hn hsize hst (lv_room hW) hdg hf) (fun r' hr => by subst hr; exact kk)
theorem kPl {r : Int64} (S : CallFix p m c cc nL s args Ts own) (hM : mPl l y wd lv As r) (cw : CallB R s args own index y bytes maxL ret wd (xRm lv) 0 0 n ∧ (Cond.static y).before args s = true) (hn : As.length = n) (hsize : ls.size = nL) (hst : st0 = As.reverse ++ rest) (hW : (rest.map fun v => v.category).sum ≤ 8) (hdg : decode cc pc = .ok (.invokestatic index, 3)) (hf : cells ≤ R.cells ∧ slots ≤ R.slots)
    (kk : W p l e R s m args below meth c H locs cells slots Q (F0 m (pc + 3) ls (.long r :: rest))) : W p l e R s m args below meth c H locs cells slots Q (F0 m pc ls st0) :=
  vp_callSl (W.runS S hM cw ⟨fun _ _ _ _ q => ⟨q.1, trivial⟩, fun _ _ _ => ⟨rfl, trivial⟩⟩ rfl hn hsize hst (lv_room hW) hdg hf) (fun r' hr => by subst hr; exact kk)
theorem kRiS {r : Int32} (S : CallFix p m c cc nL s args Ts own) (hM : mRi l y wd lv D k As ws r) (cw : CallB R s args own index y bytes maxL ret wd (xRm lv) 0 0 n ∧ (Cond.static y).before args s = true) (hK : va_K D vwCl (xTys k) s) (hP : va_P D vwCl ws H) (hn : As.length = n) (hsize : ls.size = nL) (hst : st0 = As.reverse ++ rest) (hW : (rest.map fun v => v.category).sum ≤ 8) (hdg : decode cc pc = .ok (.invokestatic index, 3)) (hf : cells ≤ R.cells ∧ slots ≤ R.slots)
    (kk : W p l e R s m args below meth c H locs cells slots Q (F0 m (pc + 3) ls (.int r :: rest))) : W p l e R s m args below meth c H locs cells slots Q (F0 m pc ls st0) :=
  vp_callSi (W.runS S hM cw ⟨rBlind, fun U hU hW => ⟨rfl, by rw [hU]; exact hP, va_K.moved hW.alike hK⟩⟩ rfl hn hsize hst (lv_room hW) hdg hf) (fun r' hr => by subst hr; exact kk)
theorem kRlS {r : Int64} (S : CallFix p m c cc nL s args Ts own) (hM : mRl l y wd lv D k As ws r) (cw : CallB R s args own index y bytes maxL ret wd (xRm lv) 0 0 n ∧ (Cond.static y).before args s = true) (hK : va_K D vwCl (xTys k) s) (hP : va_P D vwCl ws H) (hn : As.length = n) (hsize : ls.size = nL) (hst : st0 = As.reverse ++ rest) (hW : (rest.map fun v => v.category).sum ≤ 8) (hdg : decode cc pc = .ok (.invokestatic index, 3)) (hf : cells ≤ R.cells ∧ slots ≤ R.slots)
    (kk : W p l e R s m args below meth c H locs cells slots Q (F0 m (pc + 3) ls (.long r :: rest))) : W p l e R s m args below meth c H locs cells slots Q (F0 m pc ls st0) :=
  vp_callSl (W.runS S hM cw ⟨rBlind, fun U hU hW => ⟨rfl, by rw [hU]; exact hP, va_K.moved hW.alike hK⟩⟩ rfl hn hsize hst (lv_room hW) hdg hf) (fun r' hr => by subst hr; exact kk)
theorem kRiV {r : Int32} {q0 ci N : Nat} {T : u_T} {fs : List Value} (S : CallFix p m c cc nL s args Ts own) (hM : mRi l y wd lv D k (.ref b :: As) ws r) (cw : CallW R s args own C index y bytes maxL ret wd (xRm lv) 0 0 n) (hK : va_K D vwCl (xTys k) s) (hP : va_P D vwCl ws H) (he : ws[q0]? = some (b, .inr (ci, fs))) (hc : vwCl[ci]? = some (C, T, N)) (hn : As.length = n) (hsize : ls.size = nL) (hst : st0 = As.reverse ++ .ref b :: rest) (hW : (rest.map fun v => v.category).sum ≤ 8) (hdg : decode cc pc = .ok (.invokevirtual index, 3)) (hf : cells ≤ R.cells ∧ slots ≤ R.slots)
    (kk : W p l e R s m args below meth c H locs cells slots Q (F0 m (pc + 3) ls (.int r :: rest))) : W p l e R s m args below meth c H locs cells slots Q (F0 m pc ls st0) :=
  vp_callSi (W.runV S hM cw ⟨rBlind, va_recv hK hP hc he, fun U hU hW => ⟨rfl, by rw [hU]; exact hP, va_K.moved hW.alike hK⟩⟩ rfl hn hsize hst (lv_room hW) hdg hf) (fun r' hr => by subst hr; exact kk)
theorem kRlV {r : Int64} {q0 ci N : Nat} {T : u_T} {fs : List Value} (S : CallFix p m c cc nL s args Ts own) (hM : mRl l y wd lv D k (.ref b :: As) ws r) (cw : CallW R s args own C index y bytes maxL ret wd (xRm lv) 0 0 n) (hK : va_K D vwCl (xTys k) s) (hP : va_P D vwCl ws H) (he : ws[q0]? = some (b, .inr (ci, fs))) (hc : vwCl[ci]? = some (C, T, N)) (hn : As.length = n) (hsize : ls.size = nL) (hst : st0 = As.reverse ++ .ref b :: rest) (hW : (rest.map fun v => v.category).sum ≤ 8) (hdg : decode cc pc = .ok (.invokevirtual index, 3)) (hf : cells ≤ R.cells ∧ slots ≤ R.slots)
    (kk : W p l e R s m args below meth c H locs cells slots Q (F0 m (pc + 3) ls (.long r :: rest))) : W p l e R s m args below meth c H locs cells slots Q (F0 m pc ls st0) :=
  vp_callSl (W.runV S hM cw ⟨rBlind, va_recv hK hP hc he, fun U hU hW => ⟨rfl, by rw [hU]; exact hP, va_K.moved hW.alike hK⟩⟩ rfl hn hsize hst (lv_room hW) hdg hf) (fun r' hr => by subst hr; exact kk)
theorem kQiV {r : Int32} {q0 ci N : Nat} {T : u_T} {fs : List Value} (S : CallFix p m c cc nL s args Ts own) (hM : mQi l y wd lv D k (.ref b :: As) ws r ws') (cw : CallW R s args own C index y bytes maxL ret wd (xRm lv) 0 0 n) (hK : va_K D vwCl (xTys k) s) (hP : va_P D vwCl ws H) (hD : va_D A ws) (hS : va_S A H0 H locs) (hA : ∀ q, H0.size ≤ q → A q) (he : ws[q0]? = some (b, .inr (ci, fs))) (hc : vwCl[ci]? = some (C, T, N)) (hn : As.length = n) (hsize : ls.size = nL) (hst : st0 = As.reverse ++ .ref b :: rest) (hW : (rest.map fun v => v.category).sum ≤ 8) (hdg : decode cc pc = .ok (.invokevirtual index, 3)) (hf : cells ≤ R.cells ∧ slots ≤ R.slots)
    (kk : ∀ (H1 : Heap) (locs1 : List Loc), va_P D vwCl ws' H1 → va_D A ws' → va_S A H0 H1 locs1 → W p l e R s m args below meth c H1 locs1 cells slots Q (F0 m (pc + 3) ls (.int r :: rest))) : W p l e R s m args below meth c H locs cells slots Q (F0 m pc ls st0) :=
  va_calli (va_runV S (hM H.size) cw ⟨xBlind, va_recv hK hP hc he, fun U hU hW => ⟨rfl, by rw [hU], by rw [hU]; exact hP, va_K.moved hW.alike hK, hD.weaken (fun _ _ _ _ => trivial)⟩⟩ rfl hn hsize hst (lv_room hW) hdg hf) hS (fun q _ h => xFree hD hS hA q h) (xFree hD hS hA) (fun r' u t H1 locs1 ht _ hw hB _ _ hS1 => by
    obtain ⟨rfl, rfl⟩ := hw
    exact kk H1 locs1 (by rw [← ht]; exact hB.1) (hB.2.2.weaken (fun _ q _ h => xFree hD hS hA q.1 h)) hS1)
theorem kQlV {r : Int64} {q0 ci N : Nat} {T : u_T} {fs : List Value} (S : CallFix p m c cc nL s args Ts own) (hM : mQl l y wd lv D k (.ref b :: As) ws r ws') (cw : CallW R s args own C index y bytes maxL ret wd (xRm lv) 0 0 n) (hK : va_K D vwCl (xTys k) s) (hP : va_P D vwCl ws H) (hD : va_D A ws) (hS : va_S A H0 H locs) (hA : ∀ q, H0.size ≤ q → A q) (he : ws[q0]? = some (b, .inr (ci, fs))) (hc : vwCl[ci]? = some (C, T, N)) (hn : As.length = n) (hsize : ls.size = nL) (hst : st0 = As.reverse ++ .ref b :: rest) (hW : (rest.map fun v => v.category).sum ≤ 8) (hdg : decode cc pc = .ok (.invokevirtual index, 3)) (hf : cells ≤ R.cells ∧ slots ≤ R.slots)
    (kk : ∀ (H1 : Heap) (locs1 : List Loc), va_P D vwCl ws' H1 → va_D A ws' → va_S A H0 H1 locs1 → W p l e R s m args below meth c H1 locs1 cells slots Q (F0 m (pc + 3) ls (.long r :: rest))) : W p l e R s m args below meth c H locs cells slots Q (F0 m pc ls st0) :=
  va_calll (va_runV S (hM H.size) cw ⟨xBlind, va_recv hK hP hc he, fun U hU hW => ⟨rfl, by rw [hU], by rw [hU]; exact hP, va_K.moved hW.alike hK, hD.weaken (fun _ _ _ _ => trivial)⟩⟩ rfl hn hsize hst (lv_room hW) hdg hf) hS (fun q _ h => xFree hD hS hA q h) (xFree hD hS hA) (fun r' u t H1 locs1 ht _ hw hB _ _ hS1 => by
    obtain ⟨rfl, rfl⟩ := hw
    exact kk H1 locs1 (by rw [← ht]; exact hB.1) (hB.2.2.weaken (fun _ q _ h => xFree hD hS hA q.1 h)) hS1)
theorem kQvV {q0 ci N : Nat} {T : u_T} {fs : List Value} (S : CallFix p m c cc nL s args Ts own) (hM : mQv l y wd lv D k (.ref b :: As) ws ws') (cw : CallW R s args own C index y bytes maxL ret wd (xRm lv) 0 0 n) (hK : va_K D vwCl (xTys k) s) (hP : va_P D vwCl ws H) (hD : va_D A ws) (hS : va_S A H0 H locs) (hA : ∀ q, H0.size ≤ q → A q) (he : ws[q0]? = some (b, .inr (ci, fs))) (hc : vwCl[ci]? = some (C, T, N)) (hn : As.length = n) (hsize : ls.size = nL) (hst : st0 = As.reverse ++ .ref b :: rest) (hW : (rest.map fun v => v.category).sum ≤ 8) (hdg : decode cc pc = .ok (.invokevirtual index, 3)) (hf : cells ≤ R.cells ∧ slots ≤ R.slots)
    (kk : ∀ (H1 : Heap) (locs1 : List Loc), va_P D vwCl ws' H1 → va_D A ws' → va_S A H0 H1 locs1 → W p l e R s m args below meth c H1 locs1 cells slots Q (F0 m (pc + 3) ls rest)) : W p l e R s m args below meth c H locs cells slots Q (F0 m pc ls st0) :=
  va_callv (va_runV S (hM H.size) cw ⟨xBlind, va_recv hK hP hc he, fun U hU hW => ⟨rfl, by rw [hU], by rw [hU]; exact hP, va_K.moved hW.alike hK, hD.weaken (fun _ _ _ _ => trivial)⟩⟩ rfl hn hsize hst (lv_room hW) hdg hf) hS (fun q _ h => xFree hD hS hA q h) (xFree hD hS hA) (fun u t H1 locs1 ht _ hw hB _ _ hS1 => by
    subst hw
    exact kk H1 locs1 (by rw [← ht]; exact hB.1) (hB.2.2.weaken (fun _ q _ h => xFree hD hS hA q.1 h)) hS1)
end XK
/-! guards of the pure pictures -/
def gIn {α : Type} (i : Int32) (n : Nat) (k : Option α) : Option α := if i < 0 ∨ n ≤ i.toNatClampNeg then none else k
theorem gIn_some {α : Type} {i : Int32} {n : Nat} {k : Option α} {o : α} (h : gIn i n k = some o) : vp_in i n ∧ k = some o := by
  unfold gIn at h
  by_cases q : i < 0 ∨ n ≤ i.toNatClampNeg
  · rw [if_pos q] at h; cases h
  · rw [if_neg q] at h; exact ⟨q, h⟩
theorem gIn_of {α : Type} {i : Int32} {n : Nat} {k : Option α} (h : vp_in i n) : gIn i n k = k := if_neg h
def gNe {α : Type} (i : Int32) (k : Option α) : Option α := if i = 0 then none else k
theorem gNe_some {α : Type} {i : Int32} {k : Option α} {o : α} (h : gNe i k = some o) : ¬ i = 0 ∧ k = some o := by
  unfold gNe at h
  by_cases q : i = 0
  · rw [if_pos q] at h; cases h
  · rw [if_neg q] at h; exact ⟨q, h⟩
theorem gNe_of {α : Type} {i : Int32} {k : Option α} (h : ¬ i = 0) : gNe i k = k := if_neg h
def gNeL {α : Type} (i : Int64) (k : Option α) : Option α := if i = 0 then none else k
theorem gNeL_some {α : Type} {i : Int64} {k : Option α} {o : α} (h : gNeL i k = some o) : ¬ i = 0 ∧ k = some o := by
  unfold gNeL at h
  by_cases q : i = 0
  · rw [if_pos q] at h; cases h
  · rw [if_neg q] at h; exact ⟨q, h⟩
theorem gNeL_of {α : Type} {i : Int64} {k : Option α} (h : ¬ i = 0) : gNeL i k = k := if_neg h
def gZ {α : Type} (i : Int32) (k : Option α) : Option α := if i = 0 ∨ i = 1 then k else none
theorem gZ_some {α : Type} {i : Int32} {k : Option α} {o : α} (h : gZ i k = some o) : narrow .boolean (.int i) = .int i ∧ k = some o := by
  unfold gZ at h
  by_cases q : i = 0 ∨ i = 1
  · rw [if_pos q] at h
    refine ⟨?_, h⟩
    rcases q with rfl | rfl <;> rfl
  · rw [if_neg q] at h; cases h
theorem gZ_of {α : Type} {i : Int32} {k : Option α} (h : i = 0 ∨ i = 1) : gZ i k = k := if_pos h
def gLt {α : Type} (e n : Nat) (k : Option α) : Option α := if e < n then k else none
theorem gLt_some {α : Type} {e n : Nat} {k : Option α} {o : α} (h : gLt e n k = some o) : e < n ∧ k = some o := by
  unfold gLt at h
  by_cases q : e < n
  · rw [if_pos q] at h; exact ⟨q, h⟩
  · rw [if_neg q] at h; cases h
theorem gLt_of {α : Type} {e n : Nat} {k : Option α} (h : e < n) : gLt e n k = k := if_pos h
def bnd {α β : Type} (x : Option α) (k : α → Option β) : Option β := match x with
  | none => none
  | some a => k a
theorem bnd_some {α β : Type} {x : Option α} {k : α → Option β} {o : β} (h : bnd x k = some o) : ∃ a, x = some a ∧ k a = some o := by
  cases x with
  | none => cases h
  | some a => exact ⟨a, rfl, h⟩
theorem bnd_of {α β : Type} {x : Option α} {k : α → Option β} {a : α} (h : x = some a) : bnd x k = k a := by rw [h]; rfl
theorem vp_in_lt {i : Int32} {n : Nat} (h : vp_in i n) : i.toNatClampNeg < n := Nat.lt_of_not_le (fun q => h (Or.inr q))
/-! goals of the walks -/
abbrev gRi (p : Program) (l : Launch) (e : Env) (wd : List Cond) (lv : Nat) (s : State) (m : MethodId) (args : Array Value) (below : List Frame) (meth : Method) (c : Code) (r : Int32) (g : JFrame) : Prop := W p l e (headSpec wd (xRm lv)).room s m args below meth c s.heap [] 0 0 (MQ below (vp_Si (fun r' => r' = r)) args s 0 0 (fun _ => False)) g
abbrev gRl (p : Program) (l : Launch) (e : Env) (wd : List Cond) (lv : Nat) (s : State) (m : MethodId) (args : Array Value) (below : List Frame) (meth : Method) (c : Code) (r : Int64) (g : JFrame) : Prop := W p l e (headSpec wd (xRm lv)).room s m args below meth c s.heap [] 0 0 (MQ below (vp_Sl (fun r' => r' = r)) args s 0 0 (fun _ => False)) g
abbrev gQi (p : Program) (l : Launch) (e : Env) (wd : List Cond) (lv : Nat) (s : State) (m : MethodId) (args : Array Value) (below : List Frame) (meth : Method) (c : Code) (D : va_G) (k : Nat → ClassId) (A : Nat → Prop) (r : Int32) (ws' : va_W) (H : Heap) (locs : List Loc) (g : JFrame) : Prop := W p l e (headSpec wd (xRm lv)).room s m args below meth c H locs 0 0 (MQ below (va_Qi (fun (r' : Int32) (w' : va_W) => r' = r ∧ w' = ws') (xAt D k A) A) args s 0 0 A) g
abbrev gQl (p : Program) (l : Launch) (e : Env) (wd : List Cond) (lv : Nat) (s : State) (m : MethodId) (args : Array Value) (below : List Frame) (meth : Method) (c : Code) (D : va_G) (k : Nat → ClassId) (A : Nat → Prop) (r : Int64) (ws' : va_W) (H : Heap) (locs : List Loc) (g : JFrame) : Prop := W p l e (headSpec wd (xRm lv)).room s m args below meth c H locs 0 0 (MQ below (va_Ql (fun (r' : Int64) (w' : va_W) => r' = r ∧ w' = ws') (xAt D k A) A) args s 0 0 A) g
abbrev gQv (p : Program) (l : Launch) (e : Env) (wd : List Cond) (lv : Nat) (s : State) (m : MethodId) (args : Array Value) (below : List Frame) (meth : Method) (c : Code) (D : va_G) (k : Nat → ClassId) (A : Nat → Prop) (ws' : va_W) (H : Heap) (locs : List Loc) (g : JFrame) : Prop := W p l e (headSpec wd (xRm lv)).room s m args below meth c H locs 0 0 (MQ below (va_Qv (fun (w' : va_W) => w' = ws') (xAt D k A) A) args s 0 0 A) g
/-! a callee's words, all words being those of wsL_law -/
theorem gAin {x w : Cond} (h : w ∈ wsL_law) : w ∈ x :: wsL_law ∧ ((w.onTables && w.keeps) = true ∨ ∃ ty, w = .arrayClass ty) := ⟨List.mem_cons_of_mem _ h, good_of_word (List.all_eq_true.mp wAll_good w h)⟩
theorem gAS {x : Cond} {own : String} {idx : Nat} {y : MethodName} {cc : ByteArray} {n : Nat} {r : Option FieldType} (h1 : Cond.methodLink own idx y ∈ wsL_law) (h2 : Cond.static y ∈ wsL_law) (h3 : Cond.initialized y.cls ∈ wsL_law) (h4 : Cond.code y cc n r ∈ wsL_law) : GoodIn (x :: wsL_law) (va_wsS own idx y (Cond.code y cc n r :: wsL_law)) := by
  intro w hw
  unfold va_wsS at hw
  rcases List.mem_append.mp hw with h | h
  · rcases List.mem_cons.mp h with rfl | h
    · exact gAin h1
    · rcases List.mem_cons.mp h with rfl | h
      · exact gAin h2
      · rcases List.mem_cons.mp h with rfl | h
        · exact gAin h3
        · cases h
  · rcases List.mem_cons.mp h with rfl | h
    · exact gAin h4
    · exact gAin h
theorem gAV {x : Cond} {own C : String} {idx : Nat} {y : MethodName} {cc : ByteArray} {n : Nat} {r : Option FieldType} (h1 : Cond.methodLink own idx y ∈ wsL_law) (h2 : Cond.instanceMethod y ∈ wsL_law) (h3 : Cond.selects C y y ∈ wsL_law) (h5 : Cond.initialized C ∈ wsL_law) (h4 : Cond.code y cc n r ∈ wsL_law) : GoodIn (x :: wsL_law) (wsV own idx C y (Cond.code y cc n r :: wsL_law)) := by
  intro w hw
  unfold wsV at hw
  rcases List.mem_append.mp hw with h | h
  · rcases List.mem_cons.mp h with rfl | h
    · exact gAin h1
    · rcases List.mem_cons.mp h with rfl | h
      · exact gAin h2
      · rcases List.mem_cons.mp h with rfl | h
        · exact gAin h3
        · rcases List.mem_cons.mp h with rfl | h
          · exact gAin h5
          · cases h
  · rcases List.mem_cons.mp h with rfl | h
    · exact gAin h4
    · exact gAin h
