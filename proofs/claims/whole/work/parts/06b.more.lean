theorem xNe {x : Int32} {n : Int} (h : ¬ x = Int32.ofInt n) : ¬ n = x.toInt := fun e => h (by rw [e]; exact (Int32.ofInt_toInt x).symm)
theorem xLk_X7_store {x : Int32} (h1 : ¬ x = 0) (h2 : ¬ x = 1) : Op.lookupswitch.offset (#[((0 : Int), (28 : Int)), (1, 39)]).toList 50 x.toInt = 50 := by
  have e1 : ¬ (0 : Int) = x.toInt := xNe (n := 0) h1
  have e2 : ¬ (1 : Int) = x.toInt := xNe (n := 1) h2
  show (if (0 : Int) = x.toInt then (28 : Int) else if (1 : Int) = x.toInt then 39 else 50) = 50
  rw [if_neg e1, if_neg e2]
theorem xLk_X6_isDone {x : Int32} (h1 : ¬ x = 60) (h2 : ¬ x = 62) : Op.lookupswitch.offset (#[((60 : Int), (26 : Int)), (62, 42)]).toList 58 x.toInt = 58 := by
  have e1 : ¬ (60 : Int) = x.toInt := xNe (n := 60) h1
  have e2 : ¬ (62 : Int) = x.toInt := xNe (n := 62) h2
  show (if (60 : Int) = x.toInt then (26 : Int) else if (62 : Int) = x.toInt then 42 else 58) = 58
  rw [if_neg e1, if_neg e2]
section XAL
variable {p : Program} {l : Launch} {e : Env} {R : Room} {s : State} {m : MethodId} {args : Array Value} {below : List Frame} {meth : Method} {c : Code} {H : Heap} {locs : List Loc} {cells slots : Nat} {Q : State → Prop}
variable {cc : ByteArray} {pc : Nat} {ls : Array Slot} {rest : List Value} {D : va_G} {cl : List vw_C} {a : Nat} {tys : List (ClassId × FieldType)} {ws : va_W}
/-- a place of an array of arrays -/
theorem xa_aldA (hexec : p.tables.exec = Jvm.exec) (hb : c.code = cc) (hK : va_K D cl tys s) (hP : va_P D cl ws H) (q0 t0 : Nat) {cA : ClassId} {ty : FieldType} {n : Nat} {f : Nat → Option Nat} (ha : ws[q0]? = some (a, .inl (cA, n, .inr (.inr (.inr (.inr f)))))) (ht : tys[t0]? = some (cA, .array ty)) {i : Int32} (hin : vp_in i n) (hdg : decode cc pc = .ok (.aaload, 1))
    (kk : W p l e R s m args below meth c H locs cells slots Q (F0 m (pc + 1) ls (va_rf (f i.toNatClampNeg) :: rest))) : W p l e R s m args below meth c H locs cells slots Q (F0 m pc ls (.int i :: .ref a :: rest)) := by
  have hlt : i.toNatClampNeg < n := Nat.not_le.mp fun q => hin (Or.inr q)
  exact W.aald (v := va_rf (f i.toNatClampNeg)) (ty := .array ty) hexec hb (hP q0 _ ha) ((hK.2 t0 _ ht).1 n (fun j => va_rf (f j))) rfl (fun q => by cases q) (by show ¬ (i < 0 ∨ (arrV _ _ _).slots.size ≤ _); rw [arrV_size]; exact hin) (by show (arrV _ _ _).slots[_]? = _; rw [arrV_read _ _ hlt]) rfl rfl hdg kk
end XAL
/-- the guard of a copy of 40 items' rows -/
def gCp {α : Type} (sp dp n : Int32) (k : Option α) : Option α := if ¬ sp < 0 ∧ ¬ dp < 0 ∧ ¬ n < 0 ∧ sp.toNatClampNeg + n.toNatClampNeg ≤ 40 ∧ dp.toNatClampNeg + n.toNatClampNeg ≤ 40 then k else none
theorem gCp_some {α : Type} {sp dp n : Int32} {k : Option α} {o : α} (h : gCp sp dp n k = some o) : (¬ sp < 0 ∧ ¬ dp < 0 ∧ ¬ n < 0 ∧ sp.toNatClampNeg + n.toNatClampNeg ≤ 40 ∧ dp.toNatClampNeg + n.toNatClampNeg ≤ 40) ∧ k = some o := by
  unfold gCp at h
  by_cases q : ¬ sp < 0 ∧ ¬ dp < 0 ∧ ¬ n < 0 ∧ sp.toNatClampNeg + n.toNatClampNeg ≤ 40 ∧ dp.toNatClampNeg + n.toNatClampNeg ≤ 40
  · rw [if_pos q] at h; exact ⟨q, h⟩
  · rw [if_neg q] at h; cases h
theorem gCp_of {α : Type} {sp dp n : Int32} {k : Option α} (q : ¬ sp < 0 ∧ ¬ dp < 0 ∧ ¬ n < 0 ∧ sp.toNatClampNeg + n.toNatClampNeg ≤ 40 ∧ dp.toNatClampNeg + n.toNatClampNeg ≤ 40) : gCp sp dp n k = k := if_pos q
