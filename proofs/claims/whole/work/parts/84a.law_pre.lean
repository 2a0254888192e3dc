/-! the law's cases (printed by gen/law.py) -/
def lwNext (p : Program) (l : Launch) (e : Env) (s : State) (m : MethodId) (below : List Frame) (meth : Method) (c : Code) (b : Nat) (D : va_G) (k : Nat → ClassId) (ax am : Nat → Nat) (i : Nat) : Prop := ∀ (WX WM : va_W) (H : Heap) (locs : List Loc) (ls : Array Slot), RW k ax am WX WM → va_P D vwCl (WX ++ WM) H → va_D (fun q : Nat => s.heap.size ≤ q) (WX ++ WM) → va_S (fun q : Nat => s.heap.size ≤ q) s.heap H locs → lv_has ls 4 [(0, .ref b), (1, .ref (ax 0)), (2, .ref (am 0)), (3, .int (nI i))] → W p l e room_1 s m #[Value.ref b] below meth c H locs 600000 7302250 (lw_Z below #[Value.ref b] s) (F0 m 1282 ls [])
theorem lw_in {i L : Nat} (j : Nat) (hi : i + 6 ≤ L) (hL : L ≤ 3072) (hj : j < 6) : vp_in (nI i + nI j) L := by rw [nI_add]; exact vp_in_nI (by omega) (by omega)
theorem gLin {w : Cond} (h : w ∈ wsL_law) : w ∈ lw_tbl ∧ ((w.onTables && w.keeps) = true ∨ ∃ ty, w = .arrayClass ty) := ⟨wsL_law_in w h, good_of_word (List.all_eq_true.mp wAll_good w h)⟩
theorem gLV {own C : String} {idx : Nat} {y : MethodName} {cc : ByteArray} {n : Nat} {r : Option FieldType} (h1 : Cond.methodLink own idx y ∈ wsL_law) (h2 : Cond.instanceMethod y ∈ wsL_law) (h3 : Cond.selects C y y ∈ wsL_law) (h5 : Cond.initialized C ∈ wsL_law) (h4 : Cond.code y cc n r ∈ wsL_law) : GoodIn lw_tbl (wsV own idx C y (Cond.code y cc n r :: wsL_law)) := by
  intro w hw
  unfold wsV at hw
  rcases List.mem_append.mp hw with h | h
  · rcases List.mem_cons.mp h with rfl | h
    · exact gLin h1
    · rcases List.mem_cons.mp h with rfl | h
      · exact gLin h2
      · rcases List.mem_cons.mp h with rfl | h
        · exact gLin h3
        · rcases List.mem_cons.mp h with rfl | h
          · exact gLin h5
          · cases h
  · rcases List.mem_cons.mp h with rfl | h
    · exact gLin h4
    · exact gLin h
section LWC
variable {p : Program} {l : Launch} {e : Env} {R : Room} {s : State} {m : MethodId} {args : Array Value} {below : List Frame} {meth : Method} {c : Code} {H : Heap} {locs : List Loc} {cells slots : Nat} {Q : State → Prop} {cc : ByteArray} {pc : Nat} {ls : Array Slot} {rest : List Value}
theorem lw_lc (hx : p.tables.exec = Jvm.exec) (hb : c.code = cc) {r : Int64} (hdg : decode cc pc = .ok (.lcmp, 1)) (kk : W p l e R s m args below meth c H locs cells slots Q (F0 m (pc + 1) ls (.int 0 :: rest))) : W p l e R s m args below meth c H locs cells slots Q (F0 m pc ls (.long r :: .long r :: rest)) := by
  refine W.lcmp hx hb hdg ?_
  have h0 : lg_cmp r r = 0 := (lg_cmp_eq r r).mpr rfl
  rw [h0]
  exact kk
end LWC
