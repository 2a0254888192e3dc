/-! a constructor's contract: its cell, then with those that it makes; a call of it -/
def xOv (U : State) : Prop := va_AO "RowsOfTwo$Row" U ∧ va_AO "RowsOfTwo$Sheet" U ∧ va_AOA .int U ∧ va_Nw (.methodLinkNest RX10 15 yX5_init "RowsOfTwo") U
theorem xOv.warm {s U : State} (hW : s.WarmedH U.vm) (h : xOv s) : xOv U := ⟨h.1.moved hW.alike, h.2.1.moved hW.alike, h.2.2.1.moved hW.alike, h.2.2.2.warmM hW⟩
theorem xOv.same {u U : State} (hv : u.vm = U.vm) (h : xOv u) : xOv U := by
  have ha : u.vm.Alike U.vm := by rw [hv]; exact Vm.Alike.refl _
  exact ⟨h.1.moved ha, h.2.1.moved ha, h.2.2.1.moved ha, va_Nw.same rfl hv h.2.2.2⟩
abbrev gRm (n c sl : Nat) : Room := { frames := n, cells := c, slots := sl, locals := 34 * n }
abbrev mG (l : Launch) (y : MethodName) (wd : List Cond) (n : Nat) (D : va_G) (k : Nat → ClassId) (as : List Value) (ws : va_W) (mc ms : Nat) (B : va_W → Prop) : Prop := ∀ sz : Nat, Met l y wd (gRm n mc ms) (va_Pc as (fun U => xPre D k ws sz U ∧ xOv U)) (va_Qv B (xAt D k (va_A ws sz)) (va_A ws sz)) mc ms (va_A ws sz)
theorem gBlind {D : va_G} {k : Nat → ClassId} {as : List Value} {ws : va_W} {sz : Nat} : FrameBlind (va_Pc as (fun U => xPre D k ws sz U ∧ xOv U)) := fun a U g mk q => ⟨q.1, ⟨q.2.1.1, q.2.1.2.1, va_K.moved (u := U) (U := U.calling g mk a) (Vm.Alike.refl U.vm) q.2.1.2.2.1, q.2.1.2.2.2⟩, xOv.same (u := U) (U := U.calling g mk a) rfl q.2.2⟩
theorem P_pick {D : va_G} {cl : List vw_C} {ws wc : va_W} {H : Heap} (hP : va_P D cl ws H) (isC : List Nat) (hC : isC.map (fun i => ws[i]?) = wc.map some) : va_P D cl wc H := fun k9 q hq => by
  have h1 : (isC.map (fun i => ws[i]?))[k9]? = some (some q) := by rw [hC, List.getElem?_map, hq]; rfl
  rw [List.getElem?_map] at h1
  cases hi : isC[k9]? with
  | none => rw [hi] at h1; cases h1
  | some i => rw [hi] at h1; exact hP i q (Option.some.inj h1)
section XKG
variable {p : Program} {l : Launch} {e : Env} {R : Room} {s : State} {m : MethodId} {args : Array Value} {below : List Frame} {meth : Method} {c : Code} {H : Heap} {locs : List Loc} {Q : State → Prop}
variable {Ts wd : List Cond} {cc bytes : ByteArray} {nL maxL index n lv cells slots mc ms : Nat} {own host : String} {y : MethodName} {As rest st0 : List Value} {pc : Nat} {ls : Array Slot} {D : va_G} {k : Nat → ClassId} {ws wc wr : va_W} {A : Nat → Prop} {H0 : Heap} {b : Nat} {B : va_W → Prop}
theorem kG (S : CallFix p m c cc nL s args Ts own) (hM : mG l y wd lv D k (.ref b :: As) wc mc ms B) (cw : CallB R s args own index y bytes maxL none wd (gRm lv mc ms) mc ms n ∧ y.name = "<init>" ∧ (Cond.instanceMethod y).before args s = true) (hK : va_K D vwCl (xTys k) s) (hO : xOv s) (hP : va_P D vwCl ws H) (hD : va_D A ws) (hS : va_S A H0 H locs) (hA : ∀ q, H0.size ≤ q → A q) (isC isR : List Nat) (hC : isC.map (fun i => ws[i]?) = wc.map some) (hR : isR.map (fun i => ws[i]?) = wr.map some) (hn1 : va_nd isR = true) (hn2 : va_nd isC = true) (hdis : ∀ i ∈ isR, i ∉ isC) (hn : As.length = n) (hsize : ls.size = nL) (hst : st0 = As.reverse ++ .ref b :: rest) (hW : (rest.map fun v => v.category).sum ≤ 8) (hdg : decode cc pc = .ok (.invokespecial index, 3)) (hf : cells + mc ≤ R.cells ∧ slots + ms ≤ R.slots)
    (kk : ∀ (w' : va_W) (H1 : Heap) (locs1 : List Loc), B w' → va_P D vwCl (wr ++ w') H1 → va_D A (wr ++ w') → va_S A H0 H1 locs1 → W p l e R s m args below meth c H1 locs1 (cells + mc) (slots + ms) Q (F0 m (pc + 3) ls rest)) : W p l e R s m args below meth c H locs cells slots Q (F0 m pc ls st0) := by
  have hF : ∀ q, va_A wc H.size q → A q := va_free hD hS hA isC hC
  have hDc : va_D A wc := hD.sub isC hn2 hC
  have hPc : va_P D vwCl wc H := P_pick hP isC hC
  refine va_callv (va_runI S (hM H.size) cw ⟨gBlind, fun U hU hW => ⟨rfl, ⟨by rw [hU], by rw [hU]; exact hPc, va_K.moved hW.alike hK, hDc.weaken (fun _ _ _ _ => trivial)⟩, xOv.warm hW hO⟩⟩ rfl hn hsize hst (lv_room hW) hdg hf) hS (fun q _ h => hF q h) hF (fun w' t H1 locs1 ht hvm hw hB hz1 hk1 hS1 => ?_)
  obtain ⟨hP1, -, hD1⟩ := hB
  rw [ht] at hP1
  obtain ⟨hP2, hD2⟩ := va_join hP hD isC isR hC hR hn1 hdis hk1 hF hP1 hD1
  exact kk w' H1 locs1 hw hP2 hD2 hS1
theorem kGN (S : CallFix p m c cc nL s args Ts own) (hM : mG l y wd lv D k (.ref b :: As) wc mc ms B) (cw : va_CN R s args own index y host bytes maxL none wd (gRm lv mc ms) mc ms n ∧ y.name = "<init>" ∧ (Cond.instanceMethod y).before args s = true) (hK : va_K D vwCl (xTys k) s) (hO : xOv s) (hP : va_P D vwCl ws H) (hD : va_D A ws) (hS : va_S A H0 H locs) (hA : ∀ q, H0.size ≤ q → A q) (isC isR : List Nat) (hC : isC.map (fun i => ws[i]?) = wc.map some) (hR : isR.map (fun i => ws[i]?) = wr.map some) (hn1 : va_nd isR = true) (hn2 : va_nd isC = true) (hdis : ∀ i ∈ isR, i ∉ isC) (hn : As.length = n) (hsize : ls.size = nL) (hst : st0 = As.reverse ++ .ref b :: rest) (hW : (rest.map fun v => v.category).sum ≤ 8) (hdg : decode cc pc = .ok (.invokespecial index, 3)) (hf : cells + mc ≤ R.cells ∧ slots + ms ≤ R.slots)
    (kk : ∀ (w' : va_W) (H1 : Heap) (locs1 : List Loc), B w' → va_P D vwCl (wr ++ w') H1 → va_D A (wr ++ w') → va_S A H0 H1 locs1 → W p l e R s m args below meth c H1 locs1 (cells + mc) (slots + ms) Q (F0 m (pc + 3) ls rest)) : W p l e R s m args below meth c H locs cells slots Q (F0 m pc ls st0) := by
  have hF : ∀ q, va_A wc H.size q → A q := va_free hD hS hA isC hC
  have hDc : va_D A wc := hD.sub isC hn2 hC
  have hPc : va_P D vwCl wc H := P_pick hP isC hC
  refine va_callv (va_runIN S (hM H.size) cw ⟨gBlind, fun U hU hW => ⟨rfl, ⟨by rw [hU], by rw [hU]; exact hPc, va_K.moved hW.alike hK, hDc.weaken (fun _ _ _ _ => trivial)⟩, xOv.warm hW hO⟩⟩ rfl hn hsize hst (lv_room hW) hdg hf) hS (fun q _ h => hF q h) hF (fun w' t H1 locs1 ht hvm hw hB hz1 hk1 hS1 => ?_)
  obtain ⟨hP1, -, hD1⟩ := hB
  rw [ht] at hP1
  obtain ⟨hP2, hD2⟩ := va_join hP hD isC isR hC hR hn1 hdis hk1 hF hP1 hD1
  exact kk w' H1 locs1 hw hP2 hD2 hS1
end XKG
theorem mem_wo {c w : Cond} (hc : c ∈ wsL_law) (h : w ∈ c :: wsL_law) : w ∈ wsL_law := by
  rcases List.mem_cons.mp h with rfl | h
  · exact hc
  · exact h
def pick : List Nat → Nat → Nat
  | [], _ => 0
  | x :: _, 0 => x
  | _ :: xs, n + 1 => pick xs n
theorem arr_eq {c : ClassId} {n : Nat} {f g : Nat → Option Nat} (h : ∀ j, j < n → f j = g j) : vp_cell c (n, .inr (.inr (.inr (.inr f)))) = vp_cell c (n, .inr (.inr (.inr (.inr g)))) := by
  rw [vp_cell_q, vp_cell_q]
  unfold arrV
  have e : (fun j : Fin n => va_rf (f j.val)) = (fun j : Fin n => va_rf (g j.val)) := funext fun j => by rw [h j.val j.isLt]
  rw [e]
theorem P_q {D : va_G} {cl : List vw_C} {ws : va_W} {H : Heap} {i a n : Nat} {cA : ClassId} {f g : Nat → Option Nat} (hP : va_P D cl ws H) (hi : ws[i]? = some (a, .inl (cA, n, .inr (.inr (.inr (.inr f)))))) (h : ∀ j, j < n → f j = g j) : va_P D cl (ws.set i (a, .inl (cA, n, .inr (.inr (.inr (.inr g)))))) H := fun k9 q hq => by
  by_cases e : i = k9
  · subst e
    rw [List.getElem?_set_self (List.getElem?_eq_some_iff.mp hi).1] at hq
    cases hq
    have := hP i _ hi
    show H[a]? = some (vp_cell _ _)
    rw [← arr_eq h]
    exact this
  · rw [List.getElem?_set_ne e] at hq
    exact hP k9 q hq
theorem D_q {A : Nat → Prop} {ws : va_W} {i a n : Nat} {cA : ClassId} {f g : Nat → Option Nat} (hD : va_D A ws) (hi : ws[i]? = some (a, .inl (cA, n, .inr (.inr (.inr (.inr f)))))) : va_D A (ws.set i (a, .inl (cA, n, .inr (.inr (.inr (.inr g)))))) := hD.set hi
