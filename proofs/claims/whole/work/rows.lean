section
-- ===== PART A: goes FIRST, ahead of the names: the tables' words, and 'selects' of the private methods out of them =====
/-- a private method of a class that the tables say can be made, by its rows of tables_1 -/
def lw_okq (q : MethodName × Nat) : Prop := (q.1.cls ≠ "java/lang/invoke/MethodHandle" ∧ q.1.cls ≠ "java/lang/invoke/VarHandle") ∧ Cond.instantiable q.1.cls q.2 ∈ tables_1 ∧ Cond.privateMethod q.1 ∈ tables_1 ∧ Cond.instanceMethod q.1 ∈ tables_1
theorem lw_p0 : lw_okq (⟨"RowsOfTwo", "found", "(I)I"⟩, 8) := ⟨⟨by decide +kernel, by decide +kernel⟩, List.mem_of_getElem? (i := 22) (by decide +kernel), List.mem_of_getElem? (i := 201) (by decide +kernel), List.mem_of_getElem? (i := 202) (by decide +kernel)⟩
theorem lw_p1 : lw_okq (⟨"RowsOfTwo", "numberOf", "(LRowsOfTwo$Row;I)I"⟩, 8) := ⟨⟨by decide +kernel, by decide +kernel⟩, List.mem_of_getElem? (i := 22) (by decide +kernel), List.mem_of_getElem? (i := 240) (by decide +kernel), List.mem_of_getElem? (i := 241) (by decide +kernel)⟩
theorem lw_p2 : lw_okq (⟨"RowsOfTwo$Sentences", "goesOn", "(I)Z"⟩, 9) := ⟨⟨by decide +kernel, by decide +kernel⟩, List.mem_of_getElem? (i := 80) (by decide +kernel), List.mem_of_getElem? (i := 280) (by decide +kernel), List.mem_of_getElem? (i := 281) (by decide +kernel)⟩
theorem lw_p3 : lw_okq (⟨"RowsOfTwo$Sentences", "takesLetter", "(I)Z"⟩, 9) := ⟨⟨by decide +kernel, by decide +kernel⟩, List.mem_of_getElem? (i := 80) (by decide +kernel), List.mem_of_getElem? (i := 284) (by decide +kernel), List.mem_of_getElem? (i := 285) (by decide +kernel)⟩
theorem lw_p4 : lw_okq (⟨"RowsOfTwo$Sentences", "takesRelation", "(I)Z"⟩, 9) := ⟨⟨by decide +kernel, by decide +kernel⟩, List.mem_of_getElem? (i := 80) (by decide +kernel), List.mem_of_getElem? (i := 373) (by decide +kernel), List.mem_of_getElem? (i := 374) (by decide +kernel)⟩
theorem lw_p5 : lw_okq (⟨"RowsOfTwo$Sentences", "takesFigure", "(I)Z"⟩, 9) := ⟨⟨by decide +kernel, by decide +kernel⟩, List.mem_of_getElem? (i := 80) (by decide +kernel), List.mem_of_getElem? (i := 377) (by decide +kernel), List.mem_of_getElem? (i := 378) (by decide +kernel)⟩
theorem lw_p6 : lw_okq (⟨"RowsOfTwo$Sentences", "takesSecondFigure", "(I)Z"⟩, 9) := ⟨⟨by decide +kernel, by decide +kernel⟩, List.mem_of_getElem? (i := 80) (by decide +kernel), List.mem_of_getElem? (i := 381) (by decide +kernel), List.mem_of_getElem? (i := 382) (by decide +kernel)⟩
theorem lw_p7 : lw_okq (⟨"RowsOfTwo$Sentences", "takesJoint", "(I)Z"⟩, 9) := ⟨⟨by decide +kernel, by decide +kernel⟩, List.mem_of_getElem? (i := 80) (by decide +kernel), List.mem_of_getElem? (i := 385) (by decide +kernel), List.mem_of_getElem? (i := 386) (by decide +kernel)⟩
theorem lw_p8 : lw_okq (⟨"RowsOfTwo$Sentences", "isDone", "(I)Z"⟩, 9) := ⟨⟨by decide +kernel, by decide +kernel⟩, List.mem_of_getElem? (i := 80) (by decide +kernel), List.mem_of_getElem? (i := 420) (by decide +kernel), List.mem_of_getElem? (i := 421) (by decide +kernel)⟩
theorem lw_p9 : lw_okq (⟨"RowsOfTwo", "dealtAsFar", "(LRowsOfTwo$Row;IZ)I"⟩, 8) := ⟨⟨by decide +kernel, by decide +kernel⟩, List.mem_of_getElem? (i := 22) (by decide +kernel), List.mem_of_getElem? (i := 491) (by decide +kernel), List.mem_of_getElem? (i := 492) (by decide +kernel)⟩
theorem lw_p10 : lw_okq (⟨"RowsOfTwo", "refusesItem", "(III)I"⟩, 8) := ⟨⟨by decide +kernel, by decide +kernel⟩, List.mem_of_getElem? (i := 22) (by decide +kernel), List.mem_of_getElem? (i := 597) (by decide +kernel), List.mem_of_getElem? (i := 598) (by decide +kernel)⟩
theorem lw_p11 : lw_okq (⟨"RowsOfTwo", "wholeRows", "()I"⟩, 8) := ⟨⟨by decide +kernel, by decide +kernel⟩, List.mem_of_getElem? (i := 22) (by decide +kernel), List.mem_of_getElem? (i := 630) (by decide +kernel), List.mem_of_getElem? (i := 631) (by decide +kernel)⟩
theorem lw_p12 : lw_okq (⟨"RowsOfTwoModel", "puts", "(II)I"⟩, 24) := ⟨⟨by decide +kernel, by decide +kernel⟩, List.mem_of_getElem? (i := 646) (by decide +kernel), List.mem_of_getElem? (i := 729) (by decide +kernel), List.mem_of_getElem? (i := 730) (by decide +kernel)⟩
theorem lw_p13 : lw_okq (⟨"RowsOfTwoModel", "meets", "(I)I"⟩, 24) := ⟨⟨by decide +kernel, by decide +kernel⟩, List.mem_of_getElem? (i := 646) (by decide +kernel), List.mem_of_getElem? (i := 746) (by decide +kernel), List.mem_of_getElem? (i := 747) (by decide +kernel)⟩
theorem lw_p14 : lw_okq (⟨"RowsOfTwoModel", "showsNow", "(II)I"⟩, 24) := ⟨⟨by decide +kernel, by decide +kernel⟩, List.mem_of_getElem? (i := 646) (by decide +kernel), List.mem_of_getElem? (i := 766) (by decide +kernel), List.mem_of_getElem? (i := 767) (by decide +kernel)⟩
theorem lw_p15 : lw_okq (⟨"RowsOfTwoModel", "isWhole", "(I)Z"⟩, 24) := ⟨⟨by decide +kernel, by decide +kernel⟩, List.mem_of_getElem? (i := 646) (by decide +kernel), List.mem_of_getElem? (i := 770) (by decide +kernel), List.mem_of_getElem? (i := 771) (by decide +kernel)⟩
def lw_privs_1 : List (MethodName × Nat) := [(⟨"RowsOfTwo", "found", "(I)I"⟩, 8), (⟨"RowsOfTwo", "numberOf", "(LRowsOfTwo$Row;I)I"⟩, 8), (⟨"RowsOfTwo$Sentences", "goesOn", "(I)Z"⟩, 9), (⟨"RowsOfTwo$Sentences", "takesLetter", "(I)Z"⟩, 9), (⟨"RowsOfTwo$Sentences", "takesRelation", "(I)Z"⟩, 9), (⟨"RowsOfTwo$Sentences", "takesFigure", "(I)Z"⟩, 9), (⟨"RowsOfTwo$Sentences", "takesSecondFigure", "(I)Z"⟩, 9), (⟨"RowsOfTwo$Sentences", "takesJoint", "(I)Z"⟩, 9), (⟨"RowsOfTwo$Sentences", "isDone", "(I)Z"⟩, 9), (⟨"RowsOfTwo", "dealtAsFar", "(LRowsOfTwo$Row;IZ)I"⟩, 8), (⟨"RowsOfTwo", "refusesItem", "(III)I"⟩, 8), (⟨"RowsOfTwo", "wholeRows", "()I"⟩, 8), (⟨"RowsOfTwoModel", "puts", "(II)I"⟩, 24), (⟨"RowsOfTwoModel", "meets", "(I)I"⟩, 24), (⟨"RowsOfTwoModel", "showsNow", "(II)I"⟩, 24), (⟨"RowsOfTwoModel", "isWhole", "(I)Z"⟩, 24)]
theorem lw_r1 : ∀ q ∈ lw_privs_1, lw_okq q := List.forall_mem_cons.mpr ⟨lw_p0, List.forall_mem_cons.mpr ⟨lw_p1, List.forall_mem_cons.mpr ⟨lw_p2, List.forall_mem_cons.mpr ⟨lw_p3, List.forall_mem_cons.mpr ⟨lw_p4, List.forall_mem_cons.mpr ⟨lw_p5, List.forall_mem_cons.mpr ⟨lw_p6, List.forall_mem_cons.mpr ⟨lw_p7, List.forall_mem_cons.mpr ⟨lw_p8, List.forall_mem_cons.mpr ⟨lw_p9, List.forall_mem_cons.mpr ⟨lw_p10, List.forall_mem_cons.mpr ⟨lw_p11, List.forall_mem_cons.mpr ⟨lw_p12, List.forall_mem_cons.mpr ⟨lw_p13, List.forall_mem_cons.mpr ⟨lw_p14, List.forall_mem_cons.mpr ⟨lw_p15, fun _ h => absurd h List.not_mem_nil⟩⟩⟩⟩⟩⟩⟩⟩⟩⟩⟩⟩⟩⟩⟩⟩
theorem lw_p16 : lw_okq (⟨"RowsOfTwoModel", "bitsOf", "(I)I"⟩, 24) := ⟨⟨by decide +kernel, by decide +kernel⟩, List.mem_of_getElem? (i := 646) (by decide +kernel), List.mem_of_getElem? (i := 774) (by decide +kernel), List.mem_of_getElem? (i := 775) (by decide +kernel)⟩
theorem lw_p17 : lw_okq (⟨"RowsOfTwoModel", "numberOf", "(III)I"⟩, 24) := ⟨⟨by decide +kernel, by decide +kernel⟩, List.mem_of_getElem? (i := 646) (by decide +kernel), List.mem_of_getElem? (i := 778) (by decide +kernel), List.mem_of_getElem? (i := 779) (by decide +kernel)⟩
theorem lw_p18 : lw_okq (⟨"RowsOfTwoModel", "standing", "(II)I"⟩, 24) := ⟨⟨by decide +kernel, by decide +kernel⟩, List.mem_of_getElem? (i := 646) (by decide +kernel), List.mem_of_getElem? (i := 785) (by decide +kernel), List.mem_of_getElem? (i := 786) (by decide +kernel)⟩
theorem lw_p19 : lw_okq (⟨"RowsOfTwoModel", "faultNow", "()I"⟩, 24) := ⟨⟨by decide +kernel, by decide +kernel⟩, List.mem_of_getElem? (i := 646) (by decide +kernel), List.mem_of_getElem? (i := 804) (by decide +kernel), List.mem_of_getElem? (i := 805) (by decide +kernel)⟩
theorem lw_p20 : lw_okq (⟨"RowsOfTwoModel", "test", "(Z)V"⟩, 24) := ⟨⟨by decide +kernel, by decide +kernel⟩, List.mem_of_getElem? (i := 646) (by decide +kernel), List.mem_of_getElem? (i := 808) (by decide +kernel), List.mem_of_getElem? (i := 809) (by decide +kernel)⟩
theorem lw_p21 : lw_okq (⟨"RowsOfTwoModel", "byteNow", "()I"⟩, 24) := ⟨⟨by decide +kernel, by decide +kernel⟩, List.mem_of_getElem? (i := 646) (by decide +kernel), List.mem_of_getElem? (i := 812) (by decide +kernel), List.mem_of_getElem? (i := 813) (by decide +kernel)⟩
theorem lw_p22 : lw_okq (⟨"RowsOfTwoModel", "does", "(II)Z"⟩, 24) := ⟨⟨by decide +kernel, by decide +kernel⟩, List.mem_of_getElem? (i := 646) (by decide +kernel), List.mem_of_getElem? (i := 823) (by decide +kernel), List.mem_of_getElem? (i := 824) (by decide +kernel)⟩
theorem lw_p23 : lw_okq (⟨"RowsOfTwoModel", "shownNow", "(II)I"⟩, 24) := ⟨⟨by decide +kernel, by decide +kernel⟩, List.mem_of_getElem? (i := 646) (by decide +kernel), List.mem_of_getElem? (i := 831) (by decide +kernel), List.mem_of_getElem? (i := 832) (by decide +kernel)⟩
theorem lw_p24 : lw_okq (⟨"RowsOfTwoModel", "gathers", "(I)V"⟩, 24) := ⟨⟨by decide +kernel, by decide +kernel⟩, List.mem_of_getElem? (i := 646) (by decide +kernel), List.mem_of_getElem? (i := 858) (by decide +kernel), List.mem_of_getElem? (i := 859) (by decide +kernel)⟩
theorem lw_p25 : lw_okq (⟨"RowsOfTwoModel", "fill", "(II)I"⟩, 24) := ⟨⟨by decide +kernel, by decide +kernel⟩, List.mem_of_getElem? (i := 646) (by decide +kernel), List.mem_of_getElem? (i := 862) (by decide +kernel), List.mem_of_getElem? (i := 863) (by decide +kernel)⟩
theorem lw_p26 : lw_okq (⟨"RowsOfTwoModel", "dealtMany", "(IIZ)I"⟩, 24) := ⟨⟨by decide +kernel, by decide +kernel⟩, List.mem_of_getElem? (i := 646) (by decide +kernel), List.mem_of_getElem? (i := 879) (by decide +kernel), List.mem_of_getElem? (i := 880) (by decide +kernel)⟩
theorem lw_p27 : lw_okq (⟨"RowsOfTwoModel", "dealtAll", "(I)J"⟩, 24) := ⟨⟨by decide +kernel, by decide +kernel⟩, List.mem_of_getElem? (i := 646) (by decide +kernel), List.mem_of_getElem? (i := 883) (by decide +kernel), List.mem_of_getElem? (i := 884) (by decide +kernel)⟩
theorem lw_p28 : lw_okq (⟨"RowsOfTwoModel", "behind", "(III)V"⟩, 24) := ⟨⟨by decide +kernel, by decide +kernel⟩, List.mem_of_getElem? (i := 646) (by decide +kernel), List.mem_of_getElem? (i := 898) (by decide +kernel), List.mem_of_getElem? (i := 899) (by decide +kernel)⟩
theorem lw_p29 : lw_okq (⟨"RowsOfTwoModel", "waitsNow", "(I)J"⟩, 24) := ⟨⟨by decide +kernel, by decide +kernel⟩, List.mem_of_getElem? (i := 646) (by decide +kernel), List.mem_of_getElem? (i := 911) (by decide +kernel), List.mem_of_getElem? (i := 912) (by decide +kernel)⟩
theorem lw_p30 : lw_okq (⟨"RowsOfTwoModel", "lead", "(II)J"⟩, 24) := ⟨⟨by decide +kernel, by decide +kernel⟩, List.mem_of_getElem? (i := 646) (by decide +kernel), List.mem_of_getElem? (i := 915) (by decide +kernel), List.mem_of_getElem? (i := 916) (by decide +kernel)⟩
theorem lw_p31 : lw_okq (⟨"RowsOfTwoModel", "oddsOf", "(II)J"⟩, 24) := ⟨⟨by decide +kernel, by decide +kernel⟩, List.mem_of_getElem? (i := 646) (by decide +kernel), List.mem_of_getElem? (i := 922) (by decide +kernel), List.mem_of_getElem? (i := 923) (by decide +kernel)⟩
def lw_privs_2 : List (MethodName × Nat) := [(⟨"RowsOfTwoModel", "bitsOf", "(I)I"⟩, 24), (⟨"RowsOfTwoModel", "numberOf", "(III)I"⟩, 24), (⟨"RowsOfTwoModel", "standing", "(II)I"⟩, 24), (⟨"RowsOfTwoModel", "faultNow", "()I"⟩, 24), (⟨"RowsOfTwoModel", "test", "(Z)V"⟩, 24), (⟨"RowsOfTwoModel", "byteNow", "()I"⟩, 24), (⟨"RowsOfTwoModel", "does", "(II)Z"⟩, 24), (⟨"RowsOfTwoModel", "shownNow", "(II)I"⟩, 24), (⟨"RowsOfTwoModel", "gathers", "(I)V"⟩, 24), (⟨"RowsOfTwoModel", "fill", "(II)I"⟩, 24), (⟨"RowsOfTwoModel", "dealtMany", "(IIZ)I"⟩, 24), (⟨"RowsOfTwoModel", "dealtAll", "(I)J"⟩, 24), (⟨"RowsOfTwoModel", "behind", "(III)V"⟩, 24), (⟨"RowsOfTwoModel", "waitsNow", "(I)J"⟩, 24), (⟨"RowsOfTwoModel", "lead", "(II)J"⟩, 24), (⟨"RowsOfTwoModel", "oddsOf", "(II)J"⟩, 24)]
theorem lw_r2 : ∀ q ∈ lw_privs_2, lw_okq q := List.forall_mem_cons.mpr ⟨lw_p16, List.forall_mem_cons.mpr ⟨lw_p17, List.forall_mem_cons.mpr ⟨lw_p18, List.forall_mem_cons.mpr ⟨lw_p19, List.forall_mem_cons.mpr ⟨lw_p20, List.forall_mem_cons.mpr ⟨lw_p21, List.forall_mem_cons.mpr ⟨lw_p22, List.forall_mem_cons.mpr ⟨lw_p23, List.forall_mem_cons.mpr ⟨lw_p24, List.forall_mem_cons.mpr ⟨lw_p25, List.forall_mem_cons.mpr ⟨lw_p26, List.forall_mem_cons.mpr ⟨lw_p27, List.forall_mem_cons.mpr ⟨lw_p28, List.forall_mem_cons.mpr ⟨lw_p29, List.forall_mem_cons.mpr ⟨lw_p30, List.forall_mem_cons.mpr ⟨lw_p31, fun _ h => absurd h List.not_mem_nil⟩⟩⟩⟩⟩⟩⟩⟩⟩⟩⟩⟩⟩⟩⟩⟩
theorem lw_p32 : lw_okq (⟨"RowsOfTwoModel", "lacks", "(III)I"⟩, 24) := ⟨⟨by decide +kernel, by decide +kernel⟩, List.mem_of_getElem? (i := 646) (by decide +kernel), List.mem_of_getElem? (i := 958) (by decide +kernel), List.mem_of_getElem? (i := 959) (by decide +kernel)⟩
theorem lw_p33 : lw_okq (⟨"RowsOfTwoModel", "keep", "(III)V"⟩, 24) := ⟨⟨by decide +kernel, by decide +kernel⟩, List.mem_of_getElem? (i := 646) (by decide +kernel), List.mem_of_getElem? (i := 962) (by decide +kernel), List.mem_of_getElem? (i := 963) (by decide +kernel)⟩
theorem lw_p34 : lw_okq (⟨"RowsOfTwoModel", "wholeOnes", "()I"⟩, 24) := ⟨⟨by decide +kernel, by decide +kernel⟩, List.mem_of_getElem? (i := 646) (by decide +kernel), List.mem_of_getElem? (i := 983) (by decide +kernel), List.mem_of_getElem? (i := 984) (by decide +kernel)⟩
def lw_privs_3 : List (MethodName × Nat) := [(⟨"RowsOfTwoModel", "lacks", "(III)I"⟩, 24), (⟨"RowsOfTwoModel", "keep", "(III)V"⟩, 24), (⟨"RowsOfTwoModel", "wholeOnes", "()I"⟩, 24)]
theorem lw_r3 : ∀ q ∈ lw_privs_3, lw_okq q := List.forall_mem_cons.mpr ⟨lw_p32, List.forall_mem_cons.mpr ⟨lw_p33, List.forall_mem_cons.mpr ⟨lw_p34, fun _ h => absurd h List.not_mem_nil⟩⟩⟩
def lw_privs : List (MethodName × Nat) := lw_privs_1 ++ (lw_privs_2 ++ (lw_privs_3))
def lw_tbl : List Cond := k2_sels lw_privs ++ tables_1
theorem lw_privs_ok : ∀ q ∈ lw_privs, lw_okq q := by
  show ∀ q ∈ lw_privs_1 ++ (lw_privs_2 ++ (lw_privs_3)), lw_okq q
  exact List.forall_mem_append.mpr ⟨lw_r1, List.forall_mem_append.mpr ⟨lw_r2, lw_r3⟩⟩
-- ===== end of PART A; then your names; then what follows =====
end
section
/-! ===== BEGIN words of one list among another's, by their places ===== -/
theorem goodIn_r {big : List Cond} (ws : List Cond) (ps : List Nat) (hp : ws = ps.filterMap (fun i => big[i]?)) (h : ws.all goodWord = true) : GoodIn big ws := by
  intro w hw
  have h1 := List.all_eq_true.mp h w hw
  rw [hp] at hw
  obtain ⟨i, -, hi⟩ := List.mem_filterMap.mp hw
  have hm : w ∈ big := by first | exact List.mem_of_getElem? hi | exact List.getElem?_mem hi
  exact ⟨hm, good_of_word h1⟩
theorem goodIn_app {big a b : List Cond} (ha : GoodIn big a) (hb : GoodIn big b) : GoodIn big (a ++ b) := fun w h => (List.mem_append.mp h).elim (ha w) (hb w)
theorem goodIn_ca {big a b : List Cond} {c : Cond} (ha : GoodIn big (c :: a)) (hb : GoodIn big b) : GoodIn big (c :: (a ++ b)) := fun w h => (List.mem_cons.mp h).elim (fun e => ha w (List.mem_cons.mpr (Or.inl e))) (fun h => (List.mem_append.mp h).elim (fun h => ha w (List.mem_cons.mpr (Or.inr h))) (hb w))
theorem goodIn_sub {big ws : List Cond} (hm : ∀ w ∈ ws, w ∈ big) (h : ws.all goodWord = true) : GoodIn big ws := fun w hw => ⟨hm w hw, good_of_word (List.all_eq_true.mp h w hw)⟩
/-! ===== END ===== -/

/-! ===== BEGIN new T[n][m]: the outer array a place, the inner ones among the pooled ===== -/
/-- f, but v at every address of l -/
def vr_up {α : Type} (f : Nat → α) (l : List Nat) (v : α) : Nat → α := fun a => if a ∈ l then v else f a
theorem vr_up_in {α : Type} {f : Nat → α} {l : List Nat} {v : α} {a : Nat} (h : a ∈ l) : vr_up f l v a = v := if_pos h
theorem vr_up_ne {α : Type} {f : Nat → α} {l : List Nat} {v : α} {a : Nat} (h : a ∉ l) : vr_up f l v a = f a := if_neg h
theorem vr_rows {L l : List Nat} {f : Nat → va_E} {e : va_E} (h : ∀ a, a ∈ l → a ∉ L) : va_pl L f ++ l.map (fun a => (a, e)) = va_pl (L ++ l) (vr_up f l e) := by
  unfold va_pl
  rw [List.map_append]
  congr 1
  · apply List.map_congr_left
    intro a ha
    rw [vr_up_ne (fun q => h a q ha)]
  · apply List.map_congr_left
    intro a ha
    rw [vr_up_in ha]
theorem vr_lay {X rows : va_W} {x : Nat × va_E} {pl : va_W} {D : va_G} {cl : List vw_C} {H : Heap} (hP : va_P D cl (((X ++ pl) ++ [x]) ++ rows) H) : va_P D cl ((X ++ [x]) ++ (pl ++ rows)) H := by
  rw [List.append_assoc (X ++ pl)] at hP
  have h := va_P.swap hP
  rw [← List.append_assoc X] at h
  have h2 := va_P.swap h
  rw [List.append_assoc (X ++ [x])] at h2
  exact h2
theorem vr_layD {X rows : va_W} {x : Nat × va_E} {pl : va_W} {A : Nat → Prop} (hD : va_D A (((X ++ pl) ++ [x]) ++ rows)) : va_D A ((X ++ [x]) ++ (pl ++ rows)) := by
  rw [List.append_assoc (X ++ pl)] at hD
  have h := va_D.swap hD
  rw [← List.append_assoc X] at h
  have h2 := va_D.swap h
  rw [List.append_assoc (X ++ [x])] at h2
  exact h2
theorem vr_outer (c : ClassId) (N h0 : Nat) : ∀ i : Nat, Jvm.Free.Multi.outerC c N h0 i = arrV c N (fun j => va_rf (if j < i then some (h0 + 1 + j) else none))
  | 0 => by
    show ({ cls := c, slots := Array.replicate N .null, vm := .none } : Cell) = _
    rw [arrV_new]
    refine congrArg (arrV c N) (funext fun j => ?_)
    simp [va_rf]
  | i + 1 => by
    show (Jvm.Free.Multi.outerC c N h0 i).setSlot i (.ref (h0 + 1 + i)) = _
    rw [vr_outer c N h0 i, arrV_store]
    refine congrArg (arrV c N) (funext fun j => ?_)
    by_cases e : j = i
    · subst e
      simp [updV, va_rf]
    · by_cases h : j < i
      · simp [updV, e, h, Nat.lt_succ_of_lt h]
      · simp [updV, e, h, show ¬ j < i + 1 by omega]
section VGM
variable {p : Program} {l : Launch} {e : Env} {R : Room} {s : State} {m : MethodId} {args : Array Value} {below : List Frame} {meth : Method} {c : Code} {H : Heap} {locs : List Loc} {cells slots : Nat} {Q : State → Prop}
variable {cc : ByteArray} {pc : Nat} {ls : Array Slot} {rest : List Value} {D : va_G} {cl : List vw_C} {A : Nat → Prop} {a : Nat} {tys : List (ClassId × FieldType)} {ws : va_W} {H0 : Heap}
theorem va_mna {X : va_W} {L : List Nat} {f : Nat → va_E} {cc : ByteArray} (hexec : p.tables.exec = Jvm.exec) (hb : c.code = cc) {own : String} {index : Nat} {ty : FieldType} {cy : ClassId} (hown : s.vm.findClass own = some m.cls) (hclink : (Cond.classLink own index ("[" ++ (FieldType.array ty).toString)).before args s = true) (hover : va_AOA ty s) (harr : (Cond.arrayClass ty).before args s = true) (hcy : s.vm.findClass (FieldType.array ty).toString = some cy)
    (hK : va_K D cl tys s) (hP : va_P D cl (X ++ va_pl L f) H) (hD : va_D A (X ++ va_pl L f)) (hS : va_S A H0 H locs) (hA : ∀ q, H0.size ≤ q → A q) {n k : Int32} {N' K' : Nat} {z : vp_A} (hn : ¬ n < 0) (hk : ¬ k < 0) (hN : n.toNatClampNeg = N') (hM : k.toNatClampNeg = K')
    (hb1 : N' * 4 ≤ 536870912) (hb2 : K' * componentBytes ty ≤ 536870912) (hb3 : K' ≤ 536870912) (hdf : fits ty (defaultValue ty) = true) (hdd : (defaultValue ty).isDefault = true) (hcells : cells + (1 + N') ≤ R.cells) (hslots : slots + (N' + N' * K') ≤ R.slots) (hz : ∀ c : ClassId, Jvm.Free.Multi.innerC c K' (defaultValue ty) = vp_cell c z) (hdg : decode cc pc = .ok (.multianewarray index 2, 4))
    (kk : ∀ (q : Nat) (r : Nat → Nat) (cA : ClassId) (H1 : Heap), (∀ i j : Nat, i < N' → j < N' → r i = r j → i = j) → (∀ i : Nat, i < N' → r i ∉ L) → va_K D cl (tys ++ [(cA, .array ty)]) s →
      va_P D cl ((X ++ [(q, .inl (cA, N', .inr (.inr (.inr (.inr (fun i => if i < N' then some (r i) else none))))))]) ++ va_pl (L ++ (List.range N').map r) (vr_up f ((List.range N').map r) (.inl (cy, z)))) H1 → va_D A ((X ++ [(q, .inl (cA, N', .inr (.inr (.inr (.inr (fun i => if i < N' then some (r i) else none))))))]) ++ va_pl (L ++ (List.range N').map r) (vr_up f ((List.range N').map r) (.inl (cy, z)))) → va_S A H0 H1 locs →
      W p l e R s m args below meth c H1 locs (cells + 1 + N') (slots + N' + N' * K') Q (F0 m (pc + 4) ls (.ref q :: rest))) : W p l e R s m args below meth c H locs cells slots Q (F0 m pc ls (.int k :: .int n :: rest)) := by
  subst hN
  subst hM
  intro T hT Xs
  obtain ⟨vm₁, cA, comp, -, fA, fC, hO, -, X', step⟩ := Xs.multianewarray2F hexec hown hclink (va_AOA.use hover) harr (g := F0 m pc ls (.int k :: .int n :: rest)) rfl (by rw [hb]; exact hdg) rfl hn hk hb1 hb2 hb3 hdf hdd hcells hslots
  have ec : some cy = some comp := hcy.symm.trans fC
  cases ec
  generalize hF : Jvm.Free.Multi.fill (T.setVm vm₁) cA cy n.toNatClampNeg k.toNatClampNeg (defaultValue ty) n.toNatClampNeg = F at X' step
  have hTh : (T.setVm vm₁).heap = H := hT
  obtain ⟨f1, f2, -, -⟩ := Jvm.Free.Multi.fill_facts (T.setVm vm₁) cA cy n.toNatClampNeg k.toNatClampNeg (defaultValue ty) n.toNatClampNeg
  rw [hF, hTh] at f1 f2
  have hold : ∀ x : Nat, x < H.size → F.heap[x]? = H[x]? := fun x hx => by
    have := Jvm.Free.Multi.fill_old (T.setVm vm₁) cA cy n.toNatClampNeg k.toNatClampNeg (defaultValue ty) (a := x) (by rw [hTh]; exact hx) n.toNatClampNeg
    rw [hF, hTh] at this
    exact this
  have hrow : ∀ j : Nat, j < n.toNatClampNeg → F.heap[H.size + 1 + j]? = some (vp_cell cy z) := fun j hj => by
    have := Jvm.Free.Multi.fill_inner (T.setVm vm₁) cA cy n.toNatClampNeg k.toNatClampNeg (defaultValue ty) n.toNatClampNeg j hj
    rw [hF, hTh, hz] at this
    exact this
  have hout : Jvm.Free.Multi.outerC cA n.toNatClampNeg H.size n.toNatClampNeg = vp_cell cA (n.toNatClampNeg, .inr (.inr (.inr (.inr (fun i => if i < n.toNatClampNeg then some (H.size + 1 + i) else none))))) := by
    rw [vp_cell_q]
    exact vr_outer cA n.toNatClampNeg H.size n.toNatClampNeg
  rw [hout] at f2
  have hlt : ∀ a, a ∈ L → a < H.size := fun a ha => by
    obtain ⟨k9, hk9⟩ := va_pl_get (X := X) (f := f) ha
    exact (hP k9 _ hk9).lt
  have hnl : ∀ i : Nat, i < n.toNatClampNeg → H.size + 1 + i ∉ L := fun i _ h => by
    have := hlt _ h
    omega
  have hnm : ∀ a, a ∈ (List.range n.toNatClampNeg).map (fun i => H.size + 1 + i) → a ∉ L := fun a ha h => by
    obtain ⟨i, -, rfl⟩ := List.mem_map.mp ha
    have := hlt _ h
    omega
  have hP0 : va_P D cl (X ++ va_pl L f) F.heap := hP.kept (fun k9 x hx => hold x.1 ((hP k9 x hx).lt))
  have hP1 : va_P D cl ((X ++ va_pl L f) ++ [(H.size, .inl (cA, n.toNatClampNeg, .inr (.inr (.inr (.inr (fun i => if i < n.toNatClampNeg then some (H.size + 1 + i) else none))))))]) F.heap := hP0.app (fun k9 x hx => by
    have h0 : k9 < 1 := (List.getElem?_eq_some_iff.mp hx).1
    rw [show k9 = 0 by omega] at hx
    cases hx
    exact f2)
  have hP2 : va_P D cl (((X ++ va_pl L f) ++ [(H.size, .inl (cA, n.toNatClampNeg, .inr (.inr (.inr (.inr (fun i => if i < n.toNatClampNeg then some (H.size + 1 + i) else none))))))]) ++ ((List.range n.toNatClampNeg).map (fun i => H.size + 1 + i)).map (fun a => (a, .inl (cy, z)))) F.heap := hP1.app (fun k9 x hx => by
    obtain ⟨a, ha, rfl⟩ := List.mem_map.mp (List.mem_of_getElem? hx)
    obtain ⟨i, hi, rfl⟩ := List.mem_map.mp ha
    exact hrow i (List.mem_range.mp hi))
  have hD2 : va_D A (((X ++ va_pl L f) ++ [(H.size, .inl (cA, n.toNatClampNeg, .inr (.inr (.inr (.inr (fun i => if i < n.toNatClampNeg then some (H.size + 1 + i) else none))))))]) ++ ((List.range n.toNatClampNeg).map (fun i => H.size + 1 + i)).map (fun a => (a, .inl (cy, z)))) := by
    have hD1 := hD.push (e := .inl (cA, n.toNatClampNeg, .inr (.inr (.inr (.inr (fun i => if i < n.toNatClampNeg then some (H.size + 1 + i) else none)))))) hP rfl (hA _ hS.1)
    generalize hW1 : (X ++ va_pl L f) ++ [(H.size, .inl (cA, n.toNatClampNeg, .inr (.inr (.inr (.inr (fun i => if i < n.toNatClampNeg then some (H.size + 1 + i) else none))))))] = W1 at hD1 hP1 ⊢
    have hle : ∀ (k9 : Nat) (x : Nat × va_E), W1[k9]? = some x → x.1 ≤ H.size := fun k9 x hx => by
      rw [← hW1] at hx
      by_cases hl : k9 < (X ++ va_pl L f).length
      · rw [List.getElem?_append_left hl] at hx
        exact Nat.le_of_lt ((hP k9 x hx).lt)
      · rw [List.getElem?_append_right (by omega)] at hx
        have h0 : k9 - (X ++ va_pl L f).length < 1 := (List.getElem?_eq_some_iff.mp hx).1
        rw [show k9 - (X ++ va_pl L f).length = 0 by omega] at hx
        cases hx
        exact Nat.le_refl _
    have hr : ∀ (k9 : Nat) (x : Nat × va_E), (((List.range n.toNatClampNeg).map (fun i => H.size + 1 + i)).map (fun a => ((a, .inl (cy, z)) : Nat × va_E)))[k9]? = some x → x.1 = H.size + 1 + k9 := fun k9 x hx => by
      rw [List.getElem?_map, List.getElem?_map] at hx
      by_cases h9 : k9 < n.toNatClampNeg
      · rw [List.getElem?_range h9] at hx
        cases hx
        rfl
      · have hn0 : (List.range n.toNatClampNeg)[k9]? = none := List.getElem?_eq_none (by rw [List.length_range]; omega)
        rw [hn0] at hx
        cases hx
    refine ⟨fun i j x y hi hj hxy => ?_, fun k9 x hx => ?_⟩
    · by_cases h1 : i < W1.length <;> by_cases h2 : j < W1.length
      · rw [List.getElem?_append_left h1] at hi
        rw [List.getElem?_append_left h2] at hj
        exact hD1.1 i j x y hi hj hxy
      · rw [List.getElem?_append_left h1] at hi
        rw [List.getElem?_append_right (by omega)] at hj
        have := hle _ _ hi
        have := hr _ _ hj
        omega
      · rw [List.getElem?_append_right (by omega)] at hi
        rw [List.getElem?_append_left h2] at hj
        have := hle _ _ hj
        have := hr _ _ hi
        omega
      · rw [List.getElem?_append_right (by omega)] at hi hj
        have := hr _ _ hi
        have := hr _ _ hj
        omega
    · by_cases h1 : k9 < W1.length
      · rw [List.getElem?_append_left h1] at hx
        exact hD1.2 k9 x hx
      · rw [List.getElem?_append_right (by omega)] at hx
        have := hr _ _ hx
        exact hA _ (by have := hS.1; omega)
  have hAr : ArrOfT s cA (.array ty) := fun N9 z9 => by
    obtain ⟨-, k9, hk9, cm9, hkk9⟩ := (hO 0 0 0).1
    exact ⟨(fun q hq => by cases hq), k9, hk9, cm9, hkk9⟩
  have hK2 : va_K D cl (tys ++ [(cA, .array ty)]) s := ⟨hK.1, fun k9 x hx => by
    by_cases hl : k9 < tys.length
    · rw [List.getElem?_append_left hl] at hx
      exact hK.2 k9 x hx
    · rw [List.getElem?_append_right (by omega)] at hx
      have h0 : k9 - tys.length < 1 := (List.getElem?_eq_some_iff.mp hx).1
      rw [show k9 - tys.length = 0 by omega] at hx
      cases hx
      exact ⟨hAr, fA⟩⟩
  obtain ⟨t, a1, b1⟩ := kk H.size (fun i => H.size + 1 + i) cA F.heap (fun i j _ _ h => by have h9 : H.size + 1 + i = H.size + 1 + j := h; omega) hnl hK2 (by rw [← vr_rows hnm]; exact vr_lay hP2) (by rw [← vr_rows hnm]; exact vr_layD hD2) ⟨by rw [f1]; have := hS.1; omega, fun x h1 h2 => (hold x (Nat.lt_of_lt_of_le h1 hS.1)).trans (hS.2.1 x h1 h2), hS.2.2⟩ F rfl X'
  refine ⟨t, step t ?_, b1⟩
  have e : T.heap.size = H.size := by rw [hT]
  rw [e]
  exact a1
end VGM
/-! ===== END ===== -/

/-! ===== BEGIN printed: names, fields, word lists, decode rows ===== -/
def RX0 : String := "RowsOfTwo$Fills"
def TX0 : u_T := fun k => match k with
  | 0 => ("RowsOfTwo$Fills", "tally", "[I", true)
  | 1 => ("RowsOfTwo$Fills", "alwaysHit", "I", false)
  | _ => ("RowsOfTwo$Fills", "everHit", "I", false)
def tyX0 : Nat → FieldType := fun k => match k with
  | 0 => .array .int
  | 1 => .int
  | _ => .int
abbrev wsX00 : List Cond := u_ws RX0 TX0 3
theorem nmX0 : ∀ a, a < 3 → ∀ b, b < 3 → a ≠ b → (TX0 a).2.1 ≠ (TX0 b).2.1 := by decide +kernel
theorem tyX0_ok : ∀ k, k < 3 → parseFieldDescriptor (TX0 k).2.2.1 = some (tyX0 k) := by decide +kernel
abbrev cX0_init : ByteArray := prog_2_method_1_code
def yX0_init : MethodName := ⟨RX0, "<init>", "()V"⟩
abbrev cX0_learn : ByteArray := prog_2_method_2_code
def yX0_learn : MethodName := ⟨RX0, "learn", "(LRowsOfTwo$Row;LRowsOfTwo$Sentences;I)V"⟩
def RX1 : String := "RowsOfTwo$Fractions"
def TX1 : u_T := fun k => match k with
  | _ => ("", "", "", false)
def tyX1 : Nat → FieldType := fun k => match k with
  | _ => .int
abbrev wsX10 : List Cond := u_ws RX1 TX1 0
theorem nmX1 : ∀ a, a < 0 → ∀ b, b < 0 → a ≠ b → (TX1 a).2.1 ≠ (TX1 b).2.1 := by decide +kernel
theorem tyX1_ok : ∀ k, k < 0 → parseFieldDescriptor (TX1 k).2.2.1 = some (tyX1 k) := by decide +kernel
abbrev cX1_part : ByteArray := prog_3_method_2_code
def yX1_part : MethodName := ⟨RX1, "part", "(JJI)J"⟩
abbrev cX1_power : ByteArray := prog_3_method_3_code
def yX1_power : MethodName := ⟨RX1, "power", "(JI)J"⟩
abbrev cX1_commonDivisor : ByteArray := prog_3_method_4_code
def yX1_commonDivisor : MethodName := ⟨RX1, "commonDivisor", "(JJ)J"⟩
def RX2 : String := "RowsOfTwo$Lots"
def TX2 : u_T := fun k => match k with
  | _ => ("", "", "", false)
def tyX2 : Nat → FieldType := fun k => match k with
  | _ => .int
abbrev wsX20 : List Cond := u_ws RX2 TX2 0
theorem nmX2 : ∀ a, a < 0 → ∀ b, b < 0 → a ≠ b → (TX2 a).2.1 ≠ (TX2 b).2.1 := by decide +kernel
theorem tyX2_ok : ∀ k, k < 0 → parseFieldDescriptor (TX2 k).2.2.1 = some (tyX2 k) := by decide +kernel
abbrev cX2_howMany : ByteArray := prog_4_method_2_code
def yX2_howMany : MethodName := ⟨RX2, "howMany", "(LRowsOfTwo$Row;)I"⟩
abbrev cX2_lowest : ByteArray := prog_4_method_3_code
def yX2_lowest : MethodName := ⟨RX2, "lowest", "(LRowsOfTwo$Row;)I"⟩
abbrev cX2_after : ByteArray := prog_4_method_4_code
def yX2_after : MethodName := ⟨RX2, "after", "(I)I"⟩
abbrev cX2_behindHits : ByteArray := prog_4_method_5_code
def yX2_behindHits : MethodName := ⟨RX2, "behindHits", "(II)I"⟩
abbrev cX2_heat : ByteArray := prog_4_method_6_code
def yX2_heat : MethodName := ⟨RX2, "heat", "(II)J"⟩
def RX3 : String := "RowsOfTwo$Numbers"
def TX3 : u_T := fun k => match k with
  | _ => ("", "", "", false)
def tyX3 : Nat → FieldType := fun k => match k with
  | _ => .int
abbrev wsX30 : List Cond := u_ws RX3 TX3 0
theorem nmX3 : ∀ a, a < 0 → ∀ b, b < 0 → a ≠ b → (TX3 a).2.1 ≠ (TX3 b).2.1 := by decide +kernel
theorem tyX3_ok : ∀ k, k < 0 → parseFieldDescriptor (TX3 k).2.2.1 = some (tyX3 k) := by decide +kernel
abbrev cX3_measure : ByteArray := prog_5_method_2_code
def yX3_measure : MethodName := ⟨RX3, "measure", "(IIII)I"⟩
abbrev cX3_runs : ByteArray := prog_5_method_3_code
def yX3_runs : MethodName := ⟨RX3, "runs", "(II)I"⟩
abbrev cX3_longestRun : ByteArray := prog_5_method_4_code
def yX3_longestRun : MethodName := ⟨RX3, "longestRun", "(I)I"⟩
abbrev cX3_firstHit : ByteArray := prog_5_method_5_code
def yX3_firstHit : MethodName := ⟨RX3, "firstHit", "(II)I"⟩
def RX4 : String := "RowsOfTwo$Patterns"
def TX4 : u_T := fun k => match k with
  | _ => ("", "", "", false)
def tyX4 : Nat → FieldType := fun k => match k with
  | _ => .int
abbrev wsX40 : List Cond := u_ws RX4 TX4 0
theorem nmX4 : ∀ a, a < 0 → ∀ b, b < 0 → a ≠ b → (TX4 a).2.1 ≠ (TX4 b).2.1 := by decide +kernel
theorem tyX4_ok : ∀ k, k < 0 → parseFieldDescriptor (TX4 k).2.2.1 = some (tyX4 k) := by decide +kernel
abbrev cX4_lengthOf : ByteArray := prog_6_method_2_code
def yX4_lengthOf : MethodName := ⟨RX4, "lengthOf", "(I)I"⟩
abbrev cX4_timesIn : ByteArray := prog_6_method_3_code
def yX4_timesIn : MethodName := ⟨RX4, "timesIn", "(III)I"⟩
abbrev cX4_standsIn : ByteArray := prog_6_method_4_code
def yX4_standsIn : MethodName := ⟨RX4, "standsIn", "(II)Z"⟩
abbrev cX4_lead : ByteArray := prog_6_method_5_code
def yX4_lead : MethodName := ⟨RX4, "lead", "(III)J"⟩
abbrev cX4_leadUnit : ByteArray := prog_6_method_6_code
def yX4_leadUnit : MethodName := ⟨RX4, "leadUnit", "(I)J"⟩
abbrev cX4_chanceParts : ByteArray := prog_6_method_7_code
def yX4_chanceParts : MethodName := ⟨RX4, "chanceParts", "(III)J"⟩
def RX5 : String := "RowsOfTwo$Row"
def TX5 : u_T := fun k => match k with
  | 0 => ("RowsOfTwo$Row", "length", "I", false)
  | 1 => ("RowsOfTwo$Row", "hits", "I", false)
  | _ => ("RowsOfTwo$Row", "unseen", "I", false)
def tyX5 : Nat → FieldType := fun k => match k with
  | 0 => .int
  | 1 => .int
  | _ => .int
abbrev wsX50 : List Cond := u_ws RX5 TX5 3
theorem nmX5 : ∀ a, a < 3 → ∀ b, b < 3 → a ≠ b → (TX5 a).2.1 ≠ (TX5 b).2.1 := by decide +kernel
theorem tyX5_ok : ∀ k, k < 3 → parseFieldDescriptor (TX5 k).2.2.1 = some (tyX5 k) := by decide +kernel
abbrev cX5_init : ByteArray := prog_7_method_1_code
def yX5_init : MethodName := ⟨RX5, "<init>", "()V"⟩
abbrev cX5_maySee : ByteArray := prog_7_method_2_code
def yX5_maySee : MethodName := ⟨RX5, "maySee", "(I)Z"⟩
abbrev cX5_isFull : ByteArray := prog_7_method_3_code
def yX5_isFull : MethodName := ⟨RX5, "isFull", "()Z"⟩
abbrev cX5_isWhole : ByteArray := prog_7_method_4_code
def yX5_isWhole : MethodName := ⟨RX5, "isWhole", "()Z"⟩
abbrev cX5_empty : ByteArray := prog_7_method_5_code
def yX5_empty : MethodName := ⟨RX5, "empty", "()V"⟩
abbrev cX5_append : ByteArray := prog_7_method_6_code
def yX5_append : MethodName := ⟨RX5, "append", "(I)V"⟩
abbrev cX5_signAt : ByteArray := prog_7_method_7_code
def yX5_signAt : MethodName := ⟨RX5, "signAt", "(I)I"⟩
abbrev cX5_isBehindItsEnd : ByteArray := prog_7_method_8_code
def yX5_isBehindItsEnd : MethodName := ⟨RX5, "isBehindItsEnd", "(II)Z"⟩
def RX6 : String := "RowsOfTwo$Sentences"
def TX6 : u_T := fun k => match k with
  | 0 => ("RowsOfTwo$Sentences", "letters", "[I", true)
  | 1 => ("RowsOfTwo$Sentences", "relations", "[I", true)
  | 2 => ("RowsOfTwo$Sentences", "limits", "[I", true)
  | 3 => ("RowsOfTwo$Sentences", "opensAlternative", "[Z", true)
  | 4 => ("RowsOfTwo$Sentences", "measured", "[I", true)
  | 5 => ("RowsOfTwo$Sentences", "length", "I", false)
  | 6 => ("RowsOfTwo$Sentences", "tests", "I", false)
  | 7 => ("RowsOfTwo$Sentences", "due", "I", false)
  | _ => ("RowsOfTwo$Sentences", "stuckAt", "I", false)
def tyX6 : Nat → FieldType := fun k => match k with
  | 0 => .array .int
  | 1 => .array .int
  | 2 => .array .int
  | 3 => .array .boolean
  | 4 => .array .int
  | 5 => .int
  | 6 => .int
  | 7 => .int
  | _ => .int
abbrev wsX60 : List Cond := u_ws RX6 TX6 9
theorem nmX6 : ∀ a, a < 9 → ∀ b, b < 9 → a ≠ b → (TX6 a).2.1 ≠ (TX6 b).2.1 := by decide +kernel
theorem tyX6_ok : ∀ k, k < 9 → parseFieldDescriptor (TX6 k).2.2.1 = some (tyX6 k) := by decide +kernel
abbrev cX6_init : ByteArray := prog_8_method_1_code
def yX6_init : MethodName := ⟨RX6, "<init>", "()V"⟩
abbrev cX6_empty : ByteArray := prog_8_method_2_code
def yX6_empty : MethodName := ⟨RX6, "empty", "()V"⟩
abbrev cX6_append : ByteArray := prog_8_method_3_code
def yX6_append : MethodName := ⟨RX6, "append", "(I)V"⟩
abbrev cX6_faultPlace : ByteArray := prog_8_method_4_code
def yX6_faultPlace : MethodName := ⟨RX6, "faultPlace", "()I"⟩
abbrev cX6_isFaulty : ByteArray := prog_8_method_5_code
def yX6_isFaulty : MethodName := ⟨RX6, "isFaulty", "()Z"⟩
abbrev cX6_goesOn : ByteArray := prog_8_method_6_code
def yX6_goesOn : MethodName := ⟨RX6, "goesOn", "(I)Z"⟩
abbrev cX6_takesLetter : ByteArray := prog_8_method_7_code
def yX6_takesLetter : MethodName := ⟨RX6, "takesLetter", "(I)Z"⟩
abbrev cX6_takesRelation : ByteArray := prog_8_method_8_code
def yX6_takesRelation : MethodName := ⟨RX6, "takesRelation", "(I)Z"⟩
abbrev cX6_takesFigure : ByteArray := prog_8_method_9_code
def yX6_takesFigure : MethodName := ⟨RX6, "takesFigure", "(I)Z"⟩
abbrev cX6_takesSecondFigure : ByteArray := prog_8_method_10_code
def yX6_takesSecondFigure : MethodName := ⟨RX6, "takesSecondFigure", "(I)Z"⟩
abbrev cX6_takesJoint : ByteArray := prog_8_method_11_code
def yX6_takesJoint : MethodName := ⟨RX6, "takesJoint", "(I)Z"⟩
abbrev cX6_hold : ByteArray := prog_8_method_12_code
def yX6_hold : MethodName := ⟨RX6, "hold", "(III)Z"⟩
abbrev cX6_isDone : ByteArray := prog_8_method_13_code
def yX6_isDone : MethodName := ⟨RX6, "isDone", "(I)Z"⟩
def RX7 : String := "RowsOfTwo$Sheet"
def TX7 : u_T := fun k => match k with
  | 0 => ("RowsOfTwo$Sheet", "items", "[I", true)
  | 1 => ("RowsOfTwo$Sheet", "lost", "Z", false)
  | 2 => ("RowsOfTwo$Sheet", "kind", "I", false)
  | _ => ("RowsOfTwo$Sheet", "size", "I", false)
def tyX7 : Nat → FieldType := fun k => match k with
  | 0 => .array .int
  | 1 => .boolean
  | 2 => .int
  | _ => .int
abbrev wsX70 : List Cond := u_ws RX7 TX7 4
theorem nmX7 : ∀ a, a < 4 → ∀ b, b < 4 → a ≠ b → (TX7 a).2.1 ≠ (TX7 b).2.1 := by decide +kernel
theorem tyX7_ok : ∀ k, k < 4 → parseFieldDescriptor (TX7 k).2.2.1 = some (tyX7 k) := by decide +kernel
abbrev cX7_init : ByteArray := prog_9_method_1_code
def yX7_init : MethodName := ⟨RX7, "<init>", "()V"⟩
abbrev cX7_renew : ByteArray := prog_9_method_2_code
def yX7_renew : MethodName := ⟨RX7, "renew", "(II)V"⟩
abbrev cX7_store : ByteArray := prog_9_method_3_code
def yX7_store : MethodName := ⟨RX7, "store", "(II)V"⟩
abbrev cX7_hasSpan : ByteArray := prog_9_method_4_code
def yX7_hasSpan : MethodName := ⟨RX7, "hasSpan", "(II)Z"⟩
def RX8 : String := "RowsOfTwo$Shown"
def TX8 : u_T := fun k => match k with
  | 0 => ("RowsOfTwo$Shown", "tallies", "[[I", true)
  | _ => ("RowsOfTwo$Shown", "known", "[Z", true)
def tyX8 : Nat → FieldType := fun k => match k with
  | 0 => .array (.array .int)
  | _ => .array .boolean
abbrev wsX80 : List Cond := u_ws RX8 TX8 2
theorem nmX8 : ∀ a, a < 2 → ∀ b, b < 2 → a ≠ b → (TX8 a).2.1 ≠ (TX8 b).2.1 := by decide +kernel
theorem tyX8_ok : ∀ k, k < 2 → parseFieldDescriptor (TX8 k).2.2.1 = some (tyX8 k) := by decide +kernel
abbrev cX8_init : ByteArray := prog_10_method_1_code
def yX8_init : MethodName := ⟨RX8, "<init>", "()V"⟩
abbrev cX8_forget : ByteArray := prog_10_method_2_code
def yX8_forget : MethodName := ⟨RX8, "forget", "()V"⟩
abbrev cX8_learn : ByteArray := prog_10_method_3_code
def yX8_learn : MethodName := ⟨RX8, "learn", "(ILRowsOfTwo$Sentences;I)V"⟩
def RX9 : String := "RowsOfTwo$Tallies"
def TX9 : u_T := fun k => match k with
  | _ => ("", "", "", false)
def tyX9 : Nat → FieldType := fun k => match k with
  | _ => .int
abbrev wsX90 : List Cond := u_ws RX9 TX9 0
theorem nmX9 : ∀ a, a < 0 → ∀ b, b < 0 → a ≠ b → (TX9 a).2.1 ≠ (TX9 b).2.1 := by decide +kernel
theorem tyX9_ok : ∀ k, k < 0 → parseFieldDescriptor (TX9 k).2.2.1 = some (tyX9 k) := by decide +kernel
abbrev cX9_sum : ByteArray := prog_11_method_2_code
def yX9_sum : MethodName := ⟨RX9, "sum", "([I)I"⟩
abbrev cX9_sharePart : ByteArray := prog_11_method_3_code
def yX9_sharePart : MethodName := ⟨RX9, "sharePart", "([IIII)J"⟩
def RX10 : String := "RowsOfTwo"
def TX10 : u_T := fun k => match k with
  | 0 => ("RowsOfTwo", "rows", "[LRowsOfTwo$Row;", true)
  | 1 => ("RowsOfTwo", "sheets", "[LRowsOfTwo$Sheet;", true)
  | 2 => ("RowsOfTwo", "sentences", "LRowsOfTwo$Sentences;", true)
  | 3 => ("RowsOfTwo", "shownRows", "LRowsOfTwo$Shown;", true)
  | 4 => ("RowsOfTwo", "heldFills", "LRowsOfTwo$Fills;", true)
  | 5 => ("RowsOfTwo", "odds", "I", false)
  | 6 => ("RowsOfTwo", "pattern", "I", false)
  | _ => ("RowsOfTwo", "finding", "I", false)
def tyX10 : Nat → FieldType := fun k => match k with
  | 0 => .array (.object "RowsOfTwo$Row")
  | 1 => .array (.object "RowsOfTwo$Sheet")
  | 2 => .object "RowsOfTwo$Sentences"
  | 3 => .object "RowsOfTwo$Shown"
  | 4 => .object "RowsOfTwo$Fills"
  | 5 => .int
  | 6 => .int
  | _ => .int
abbrev wsX100 : List Cond := u_ws RX10 TX10 8
theorem nmX10 : ∀ a, a < 8 → ∀ b, b < 8 → a ≠ b → (TX10 a).2.1 ≠ (TX10 b).2.1 := by decide +kernel
theorem tyX10_ok : ∀ k, k < 8 → parseFieldDescriptor (TX10 k).2.2.1 = some (tyX10 k) := by decide +kernel
abbrev cX10_init : ByteArray := prog_1_method_1_code
def yX10_init : MethodName := ⟨RX10, "<init>", "()V"⟩
abbrev cX10_sign : ByteArray := prog_1_method_2_code
def yX10_sign : MethodName := ⟨RX10, "sign", "(II)I"⟩
abbrev cX10_read : ByteArray := prog_1_method_3_code
def yX10_read : MethodName := ⟨RX10, "read", "(II)I"⟩
abbrev cX10_clear : ByteArray := prog_1_method_4_code
def yX10_clear : MethodName := ⟨RX10, "clear", "(I)I"⟩
abbrev cX10_at : ByteArray := prog_1_method_5_code
def yX10_at : MethodName := ⟨RX10, "at", "(II)I"⟩
abbrev cX10_set : ByteArray := prog_1_method_6_code
def yX10_set : MethodName := ⟨RX10, "set", "(II)I"⟩
abbrev cX10_shows : ByteArray := prog_1_method_7_code
def yX10_shows : MethodName := ⟨RX10, "shows", "(II)I"⟩
abbrev cX10_type : ByteArray := prog_1_method_8_code
def yX10_type : MethodName := ⟨RX10, "type", "(I)I"⟩
abbrev cX10_wipe : ByteArray := prog_1_method_9_code
def yX10_wipe : MethodName := ⟨RX10, "wipe", "()I"⟩
abbrev cX10_fault : ByteArray := prog_1_method_10_code
def yX10_fault : MethodName := ⟨RX10, "fault", "()I"⟩
abbrev cX10_holds : ByteArray := prog_1_method_11_code
def yX10_holds : MethodName := ⟨RX10, "holds", "(I)I"⟩
abbrev cX10_shown : ByteArray := prog_1_method_12_code
def yX10_shown : MethodName := ⟨RX10, "shown", "(II)I"⟩
abbrev cX10_nth : ByteArray := prog_1_method_13_code
def yX10_nth : MethodName := ⟨RX10, "nth", "(II)I"⟩
abbrev cX10_share : ByteArray := prog_1_method_14_code
def yX10_share : MethodName := ⟨RX10, "share", "(II)J"⟩
abbrev cX10_fills : ByteArray := prog_1_method_15_code
def yX10_fills : MethodName := ⟨RX10, "fills", "(II)I"⟩
abbrev cX10_filled : ByteArray := prog_1_method_16_code
def yX10_filled : MethodName := ⟨RX10, "filled", "(II)J"⟩
abbrev cX10_sure : ByteArray := prog_1_method_17_code
def yX10_sure : MethodName := ⟨RX10, "sure", "(II)I"⟩
abbrev cX10_dealt : ByteArray := prog_1_method_18_code
def yX10_dealt : MethodName := ⟨RX10, "dealt", "(IIZ)I"⟩
abbrev cX10_strangest : ByteArray := prog_1_method_19_code
def yX10_strangest : MethodName := ⟨RX10, "strangest", "(I)I"⟩
abbrev cX10_hot : ByteArray := prog_1_method_20_code
def yX10_hot : MethodName := ⟨RX10, "hot", "(III)J"⟩
abbrev cX10_already : ByteArray := prog_1_method_21_code
def yX10_already : MethodName := ⟨RX10, "already", "(III)J"⟩
abbrev cX10_waits : ByteArray := prog_1_method_22_code
def yX10_waits : MethodName := ⟨RX10, "waits", "(I)J"⟩
abbrev cX10_first : ByteArray := prog_1_method_23_code
def yX10_first : MethodName := ⟨RX10, "first", "(III)J"⟩
abbrev cX10_agree : ByteArray := prog_1_method_24_code
def yX10_agree : MethodName := ⟨RX10, "agree", "(III)I"⟩
abbrev cX10_twice : ByteArray := prog_1_method_25_code
def yX10_twice : MethodName := ⟨RX10, "twice", "(I)I"⟩
abbrev cX10_next : ByteArray := prog_1_method_26_code
def yX10_next : MethodName := ⟨RX10, "next", "(III)I"⟩
abbrev cX10_sheet : ByteArray := prog_1_method_27_code
def yX10_sheet : MethodName := ⟨RX10, "sheet", "(III)I"⟩
abbrev cX10_lose : ByteArray := prog_1_method_28_code
def yX10_lose : MethodName := ⟨RX10, "lose", "(I)I"⟩
abbrev cX10_put : ByteArray := prog_1_method_29_code
def yX10_put : MethodName := ⟨RX10, "put", "(IIII)I"⟩
abbrev cX10_get : ByteArray := prog_1_method_30_code
def yX10_get : MethodName := ⟨RX10, "get", "(III)I"⟩
abbrev cX10_copy : ByteArray := prog_1_method_31_code
def yX10_copy : MethodName := ⟨RX10, "copy", "(IIIII)I"⟩
abbrev cX10_write : ByteArray := prog_1_method_32_code
def yX10_write : MethodName := ⟨RX10, "write", "(II)I"⟩
abbrev cX10_count : ByteArray := prog_1_method_33_code
def yX10_count : MethodName := ⟨RX10, "count", "(I)I"⟩
abbrev cX10_digest : ByteArray := prog_1_method_34_code
def yX10_digest : MethodName := ⟨RX10, "digest", "()J"⟩
abbrev cX10_isRow : ByteArray := prog_1_method_35_code
def yX10_isRow : MethodName := ⟨RX10, "isRow", "(I)Z"⟩
abbrev cX10_isSheet : ByteArray := prog_1_method_36_code
def yX10_isSheet : MethodName := ⟨RX10, "isSheet", "(I)Z"⟩
abbrev cX10_isType : ByteArray := prog_1_method_37_code
def yX10_isType : MethodName := ⟨RX10, "isType", "(I)Z"⟩
abbrev cX10_isNumber : ByteArray := prog_1_method_38_code
def yX10_isNumber : MethodName := ⟨RX10, "isNumber", "(I)Z"⟩
abbrev cX10_isLength : ByteArray := prog_1_method_39_code
def yX10_isLength : MethodName := ⟨RX10, "isLength", "(I)Z"⟩
abbrev cX10_isPart : ByteArray := prog_1_method_40_code
def yX10_isPart : MethodName := ⟨RX10, "isPart", "(I)Z"⟩
abbrev cX10_isBehind : ByteArray := prog_1_method_41_code
def yX10_isBehind : MethodName := ⟨RX10, "isBehind", "(I)Z"⟩
abbrev cX10_isFirstTold : ByteArray := prog_1_method_42_code
def yX10_isFirstTold : MethodName := ⟨RX10, "isFirstTold", "(I)Z"⟩
abbrev cX10_refusal : ByteArray := prog_1_method_43_code
def yX10_refusal : MethodName := ⟨RX10, "refusal", "(I)J"⟩
abbrev cX10_found : ByteArray := prog_1_method_44_code
def yX10_found : MethodName := ⟨RX10, "found", "(I)I"⟩
abbrev cX10_refusesItem : ByteArray := prog_1_method_45_code
def yX10_refusesItem : MethodName := ⟨RX10, "refusesItem", "(III)I"⟩
abbrev cX10_numberOf : ByteArray := prog_1_method_46_code
def yX10_numberOf : MethodName := ⟨RX10, "numberOf", "(LRowsOfTwo$Row;I)I"⟩
abbrev cX10_dealtAsFar : ByteArray := prog_1_method_47_code
def yX10_dealtAsFar : MethodName := ⟨RX10, "dealtAsFar", "(LRowsOfTwo$Row;IZ)I"⟩
abbrev cX10_millionths : ByteArray := prog_1_method_48_code
def yX10_millionths : MethodName := ⟨RX10, "millionths", "(II)I"⟩
abbrev cX10_backwards : ByteArray := prog_1_method_49_code
def yX10_backwards : MethodName := ⟨RX10, "backwards", "(II)I"⟩
abbrev cX10_wholeRows : ByteArray := prog_1_method_50_code
def yX10_wholeRows : MethodName := ⟨RX10, "wholeRows", "()I"⟩
def RX11 : String := "RowsOfTwoModel"
def TX11 : u_T := fun k => match k with
  | 0 => ("RowsOfTwoModel", "sizes", "[I", true)
  | 1 => ("RowsOfTwoModel", "signs", "[I", true)
  | 2 => ("RowsOfTwoModel", "odds", "I", false)
  | 3 => ("RowsOfTwoModel", "pattern", "I", false)
  | 4 => ("RowsOfTwoModel", "typed", "I", false)
  | 5 => ("RowsOfTwoModel", "text", "[I", true)
  | 6 => ("RowsOfTwoModel", "at", "I", false)
  | 7 => ("RowsOfTwoModel", "fault", "I", false)
  | 8 => ("RowsOfTwoModel", "tests", "I", false)
  | 9 => ("RowsOfTwoModel", "testNumber", "[I", true)
  | 10 => ("RowsOfTwoModel", "testSign", "[I", true)
  | 11 => ("RowsOfTwoModel", "testValue", "[I", true)
  | 12 => ("RowsOfTwoModel", "testBegins", "[Z", true)
  | 13 => ("RowsOfTwoModel", "isRead", "Z", false)
  | 14 => ("RowsOfTwoModel", "unseen", "[I", true)
  | 15 => ("RowsOfTwoModel", "unseenMany", "I", false)
  | 16 => ("RowsOfTwoModel", "behindAll", "I", false)
  | 17 => ("RowsOfTwoModel", "behindHits", "I", false)
  | 18 => ("RowsOfTwoModel", "isThere", "[Z", true)
  | 19 => ("RowsOfTwoModel", "types", "[I", true)
  | 20 => ("RowsOfTwoModel", "held", "[I", true)
  | 21 => ("RowsOfTwoModel", "items", "[I", true)
  | 22 => ("RowsOfTwoModel", "moved", "[I", true)
  | _ => ("RowsOfTwoModel", "finding", "I", false)
def tyX11 : Nat → FieldType := fun k => match k with
  | 0 => .array .int
  | 1 => .array .int
  | 2 => .int
  | 3 => .int
  | 4 => .int
  | 5 => .array .int
  | 6 => .int
  | 7 => .int
  | 8 => .int
  | 9 => .array .int
  | 10 => .array .int
  | 11 => .array .int
  | 12 => .array .boolean
  | 13 => .boolean
  | 14 => .array .int
  | 15 => .int
  | 16 => .int
  | 17 => .int
  | 18 => .array .boolean
  | 19 => .array .int
  | 20 => .array .int
  | 21 => .array .int
  | 22 => .array .int
  | _ => .int
abbrev wsX110 : List Cond := u_ws RX11 TX11 24
theorem nmX11 : ∀ a, a < 24 → ∀ b, b < 24 → a ≠ b → (TX11 a).2.1 ≠ (TX11 b).2.1 := by decide +kernel
theorem tyX11_ok : ∀ k, k < 24 → parseFieldDescriptor (TX11 k).2.2.1 = some (tyX11 k) := by decide +kernel
abbrev cX11_init : ByteArray := prog_13_method_1_code
def yX11_init : MethodName := ⟨RX11, "<init>", "()V"⟩
abbrev cX11_in : ByteArray := prog_13_method_3_code
def yX11_in : MethodName := ⟨RX11, "in", "(III)Z"⟩
abbrev cX11_no : ByteArray := prog_13_method_4_code
def yX11_no : MethodName := ⟨RX11, "no", "(I)J"⟩
abbrev cX11_lowest : ByteArray := prog_13_method_5_code
def yX11_lowest : MethodName := ⟨RX11, "lowest", "(JJI)J"⟩
abbrev cX11_power : ByteArray := prog_13_method_6_code
def yX11_power : MethodName := ⟨RX11, "power", "(JI)J"⟩
abbrev cX11_ones : ByteArray := prog_13_method_7_code
def yX11_ones : MethodName := ⟨RX11, "ones", "(I)I"⟩
abbrev cX11_isRow : ByteArray := prog_13_method_8_code
def yX11_isRow : MethodName := ⟨RX11, "isRow", "(I)Z"⟩
abbrev cX11_puts : ByteArray := prog_13_method_9_code
def yX11_puts : MethodName := ⟨RX11, "puts", "(II)I"⟩
abbrev cX11_sign : ByteArray := prog_13_method_10_code
def yX11_sign : MethodName := ⟨RX11, "sign", "(II)I"⟩
abbrev cX11_read : ByteArray := prog_13_method_11_code
def yX11_read : MethodName := ⟨RX11, "read", "(II)I"⟩
abbrev cX11_clear : ByteArray := prog_13_method_12_code
def yX11_clear : MethodName := ⟨RX11, "clear", "(I)I"⟩
abbrev cX11_at : ByteArray := prog_13_method_13_code
def yX11_at : MethodName := ⟨RX11, "at", "(II)I"⟩
abbrev cX11_set : ByteArray := prog_13_method_14_code
def yX11_set : MethodName := ⟨RX11, "set", "(II)I"⟩
abbrev cX11_isWhole : ByteArray := prog_13_method_15_code
def yX11_isWhole : MethodName := ⟨RX11, "isWhole", "(I)Z"⟩
abbrev cX11_bitsOf : ByteArray := prog_13_method_16_code
def yX11_bitsOf : MethodName := ⟨RX11, "bitsOf", "(I)I"⟩
abbrev cX11_lengthOf : ByteArray := prog_13_method_17_code
def yX11_lengthOf : MethodName := ⟨RX11, "lengthOf", "(I)I"⟩
abbrev cX11_standing : ByteArray := prog_13_method_18_code
def yX11_standing : MethodName := ⟨RX11, "standing", "(II)I"⟩
abbrev cX11_numberOf : ByteArray := prog_13_method_19_code
def yX11_numberOf : MethodName := ⟨RX11, "numberOf", "(III)I"⟩
abbrev cX11_showsNow : ByteArray := prog_13_method_20_code
def yX11_showsNow : MethodName := ⟨RX11, "showsNow", "(II)I"⟩
abbrev cX11_shows : ByteArray := prog_13_method_21_code
def yX11_shows : MethodName := ⟨RX11, "shows", "(II)I"⟩
abbrev cX11_type : ByteArray := prog_13_method_22_code
def yX11_type : MethodName := ⟨RX11, "type", "(I)I"⟩
abbrev cX11_wipe : ByteArray := prog_13_method_23_code
def yX11_wipe : MethodName := ⟨RX11, "wipe", "()I"⟩
abbrev cX11_byteNow : ByteArray := prog_13_method_24_code
def yX11_byteNow : MethodName := ⟨RX11, "byteNow", "()I"⟩
abbrev cX11_numberBy : ByteArray := prog_13_method_25_code
def yX11_numberBy : MethodName := ⟨RX11, "numberBy", "(I)I"⟩
abbrev cX11_test : ByteArray := prog_13_method_26_code
def yX11_test : MethodName := ⟨RX11, "test", "(Z)V"⟩
abbrev cX11_faultNow : ByteArray := prog_13_method_27_code
def yX11_faultNow : MethodName := ⟨RX11, "faultNow", "()I"⟩
abbrev cX11_fault : ByteArray := prog_13_method_28_code
def yX11_fault : MethodName := ⟨RX11, "fault", "()I"⟩
abbrev cX11_does : ByteArray := prog_13_method_29_code
def yX11_does : MethodName := ⟨RX11, "does", "(II)Z"⟩
abbrev cX11_holds : ByteArray := prog_13_method_30_code
def yX11_holds : MethodName := ⟨RX11, "holds", "(I)I"⟩
abbrev cX11_shownNow : ByteArray := prog_13_method_31_code
def yX11_shownNow : MethodName := ⟨RX11, "shownNow", "(II)I"⟩
abbrev cX11_shown : ByteArray := prog_13_method_32_code
def yX11_shown : MethodName := ⟨RX11, "shown", "(II)I"⟩
abbrev cX11_nth : ByteArray := prog_13_method_33_code
def yX11_nth : MethodName := ⟨RX11, "nth", "(II)I"⟩
abbrev cX11_share : ByteArray := prog_13_method_34_code
def yX11_share : MethodName := ⟨RX11, "share", "(II)J"⟩
abbrev cX11_gathers : ByteArray := prog_13_method_35_code
def yX11_gathers : MethodName := ⟨RX11, "gathers", "(I)V"⟩
abbrev cX11_fill : ByteArray := prog_13_method_36_code
def yX11_fill : MethodName := ⟨RX11, "fill", "(II)I"⟩
abbrev cX11_fills : ByteArray := prog_13_method_37_code
def yX11_fills : MethodName := ⟨RX11, "fills", "(II)I"⟩
abbrev cX11_filled : ByteArray := prog_13_method_38_code
def yX11_filled : MethodName := ⟨RX11, "filled", "(II)J"⟩
abbrev cX11_sure : ByteArray := prog_13_method_39_code
def yX11_sure : MethodName := ⟨RX11, "sure", "(II)I"⟩
abbrev cX11_dealtMany : ByteArray := prog_13_method_40_code
def yX11_dealtMany : MethodName := ⟨RX11, "dealtMany", "(IIZ)I"⟩
abbrev cX11_choose : ByteArray := prog_13_method_41_code
def yX11_choose : MethodName := ⟨RX11, "choose", "(II)J"⟩
abbrev cX11_dealtAll : ByteArray := prog_13_method_42_code
def yX11_dealtAll : MethodName := ⟨RX11, "dealtAll", "(I)J"⟩
abbrev cX11_dealt : ByteArray := prog_13_method_43_code
def yX11_dealt : MethodName := ⟨RX11, "dealt", "(IIZ)I"⟩
abbrev cX11_strangest : ByteArray := prog_13_method_44_code
def yX11_strangest : MethodName := ⟨RX11, "strangest", "(I)I"⟩
abbrev cX11_behind : ByteArray := prog_13_method_45_code
def yX11_behind : MethodName := ⟨RX11, "behind", "(III)V"⟩
abbrev cX11_hot : ByteArray := prog_13_method_46_code
def yX11_hot : MethodName := ⟨RX11, "hot", "(III)J"⟩
abbrev cX11_already : ByteArray := prog_13_method_47_code
def yX11_already : MethodName := ⟨RX11, "already", "(III)J"⟩
abbrev cX11_oddsOf : ByteArray := prog_13_method_48_code
def yX11_oddsOf : MethodName := ⟨RX11, "oddsOf", "(II)J"⟩
abbrev cX11_overlaps : ByteArray := prog_13_method_49_code
def yX11_overlaps : MethodName := ⟨RX11, "overlaps", "(III)Z"⟩
abbrev cX11_lead : ByteArray := prog_13_method_50_code
def yX11_lead : MethodName := ⟨RX11, "lead", "(II)J"⟩
abbrev cX11_waitsNow : ByteArray := prog_13_method_51_code
def yX11_waitsNow : MethodName := ⟨RX11, "waitsNow", "(I)J"⟩
abbrev cX11_waits : ByteArray := prog_13_method_52_code
def yX11_waits : MethodName := ⟨RX11, "waits", "(I)J"⟩
abbrev cX11_stands : ByteArray := prog_13_method_53_code
def yX11_stands : MethodName := ⟨RX11, "stands", "(II)Z"⟩
abbrev cX11_first : ByteArray := prog_13_method_54_code
def yX11_first : MethodName := ⟨RX11, "first", "(III)J"⟩
abbrev cX11_agree : ByteArray := prog_13_method_55_code
def yX11_agree : MethodName := ⟨RX11, "agree", "(III)I"⟩
abbrev cX11_twice : ByteArray := prog_13_method_56_code
def yX11_twice : MethodName := ⟨RX11, "twice", "(I)I"⟩
abbrev cX11_next : ByteArray := prog_13_method_57_code
def yX11_next : MethodName := ⟨RX11, "next", "(III)I"⟩
abbrev cX11_meets : ByteArray := prog_13_method_58_code
def yX11_meets : MethodName := ⟨RX11, "meets", "(I)I"⟩
abbrev cX11_isSheet : ByteArray := prog_13_method_59_code
def yX11_isSheet : MethodName := ⟨RX11, "isSheet", "(I)Z"⟩
abbrev cX11_sheet : ByteArray := prog_13_method_60_code
def yX11_sheet : MethodName := ⟨RX11, "sheet", "(III)I"⟩
abbrev cX11_lose : ByteArray := prog_13_method_61_code
def yX11_lose : MethodName := ⟨RX11, "lose", "(I)I"⟩
abbrev cX11_lacks : ByteArray := prog_13_method_62_code
def yX11_lacks : MethodName := ⟨RX11, "lacks", "(III)I"⟩
abbrev cX11_keep : ByteArray := prog_13_method_63_code
def yX11_keep : MethodName := ⟨RX11, "keep", "(III)V"⟩
abbrev cX11_put : ByteArray := prog_13_method_64_code
def yX11_put : MethodName := ⟨RX11, "put", "(IIII)I"⟩
abbrev cX11_get : ByteArray := prog_13_method_65_code
def yX11_get : MethodName := ⟨RX11, "get", "(III)I"⟩
abbrev cX11_copy : ByteArray := prog_13_method_66_code
def yX11_copy : MethodName := ⟨RX11, "copy", "(IIIII)I"⟩
abbrev cX11_write : ByteArray := prog_13_method_67_code
def yX11_write : MethodName := ⟨RX11, "write", "(II)I"⟩
abbrev cX11_wholeOnes : ByteArray := prog_13_method_68_code
def yX11_wholeOnes : MethodName := ⟨RX11, "wholeOnes", "()I"⟩
abbrev cX11_count : ByteArray := prog_13_method_69_code
def yX11_count : MethodName := ⟨RX11, "count", "(I)I"⟩
abbrev cX11_digest : ByteArray := prog_13_method_70_code
def yX11_digest : MethodName := ⟨RX11, "digest", "()J"⟩
def RJ11 : String := "java/lang/Character"
def TJ11 : u_T := fun k => match k with
  | _ => ("", "", "", false)
def tyJ11 : Nat → FieldType := fun k => match k with
  | _ => .int
abbrev wsJ110 : List Cond := u_ws RJ11 TJ11 0
theorem nmJ11 : ∀ a, a < 0 → ∀ b, b < 0 → a ≠ b → (TJ11 a).2.1 ≠ (TJ11 b).2.1 := by decide +kernel
theorem tyJ11_ok : ∀ k, k < 0 → parseFieldDescriptor (TJ11 k).2.2.1 = some (tyJ11 k) := by decide +kernel
abbrev cJ11_isValidCodePoint_9a6ad : ByteArray := prog_14_method_11_code
def yJ11_isValidCodePoint_9a6ad : MethodName := ⟨RJ11, "isValidCodePoint", "(I)Z"⟩
abbrev cJ11_highSurrogate_5068e : ByteArray := prog_14_method_28_code
def yJ11_highSurrogate_5068e : MethodName := ⟨RJ11, "highSurrogate", "(I)C"⟩
abbrev cJ11_lowSurrogate_5068e : ByteArray := prog_14_method_29_code
def yJ11_lowSurrogate_5068e : MethodName := ⟨RJ11, "lowSurrogate", "(I)C"⟩
def RJ6 : String := "java/lang/Integer"
def TJ6 : u_T := fun k => match k with
  | _ => ("", "", "", false)
def tyJ6 : Nat → FieldType := fun k => match k with
  | _ => .int
abbrev wsJ60 : List Cond := u_ws RJ6 TJ6 0
theorem nmJ6 : ∀ a, a < 0 → ∀ b, b < 0 → a ≠ b → (TJ6 a).2.1 ≠ (TJ6 b).2.1 := by decide +kernel
theorem tyJ6_ok : ∀ k, k < 0 → parseFieldDescriptor (TJ6 k).2.2.1 = some (tyJ6 k) := by decide +kernel
abbrev cJ6_bitCount_0f7a4 : ByteArray := prog_15_method_49_code
def yJ6_bitCount_0f7a4 : MethodName := ⟨RJ6, "bitCount", "(I)I"⟩
def RJ9 : String := "java/lang/Math"
def TJ9 : u_T := fun k => match k with
  | _ => ("", "", "", false)
def tyJ9 : Nat → FieldType := fun k => match k with
  | _ => .int
abbrev wsJ90 : List Cond := u_ws RJ9 TJ9 0
theorem nmJ9 : ∀ a, a < 0 → ∀ b, b < 0 → a ≠ b → (TJ9 a).2.1 ≠ (TJ9 b).2.1 := by decide +kernel
theorem tyJ9_ok : ∀ k, k < 0 → parseFieldDescriptor (TJ9 k).2.2.1 = some (tyJ9 k) := by decide +kernel
abbrev cJ9_max_7cf53 : ByteArray := prog_16_method_65_code
def yJ9_max_7cf53 : MethodName := ⟨RJ9, "max", "(II)I"⟩
abbrev cJ9_min_7cf53 : ByteArray := prog_16_method_69_code
def yJ9_min_7cf53 : MethodName := ⟨RJ9, "min", "(II)I"⟩
def RJ0 : String := "java/lang/String"
def TJ0 : u_T := fun k => match k with
  | _ => ("", "", "", false)
def tyJ0 : Nat → FieldType := fun k => match k with
  | _ => .int
abbrev wsJ00 : List Cond := u_ws RJ0 TJ0 0
theorem nmJ0 : ∀ a, a < 0 → ∀ b, b < 0 → a ≠ b → (TJ0 a).2.1 ≠ (TJ0 b).2.1 := by decide +kernel
theorem tyJ0_ok : ∀ k, k < 0 → parseFieldDescriptor (TJ0 k).2.2.1 = some (tyJ0 k) := by decide +kernel
abbrev cJ0_length_8abf5 : ByteArray := prog_17_method_54_code
def yJ0_length_8abf5 : MethodName := ⟨RJ0, "length", "()I"⟩
abbrev cJ0_indexOf_0f7a4 : ByteArray := prog_17_method_79_code
def yJ0_indexOf_0f7a4 : MethodName := ⟨RJ0, "indexOf", "(I)I"⟩
abbrev cJ0_indexOf_7cf53 : ByteArray := prog_17_method_80_code
def yJ0_indexOf_7cf53 : MethodName := ⟨RJ0, "indexOf", "(II)I"⟩
abbrev cJ0_coder_7d493 : ByteArray := prog_17_method_152_code
def yJ0_coder_7d493 : MethodName := ⟨RJ0, "coder", "()B"⟩
abbrev cJ0_isLatin1_aae02 : ByteArray := prog_17_method_154_code
def yJ0_isLatin1_aae02 : MethodName := ⟨RJ0, "isLatin1", "()Z"⟩
abbrev cJ0_checkBoundsBeginEnd_23922 : ByteArray := prog_17_method_158_code
def yJ0_checkBoundsBeginEnd_23922 : MethodName := ⟨RJ0, "checkBoundsBeginEnd", "(III)V"⟩
def RJ1 : String := "java/lang/StringLatin1"
def TJ1 : u_T := fun k => match k with
  | _ => ("", "", "", false)
def tyJ1 : Nat → FieldType := fun k => match k with
  | _ => .int
abbrev wsJ10 : List Cond := u_ws RJ1 TJ1 0
theorem nmJ1 : ∀ a, a < 0 → ∀ b, b < 0 → a ≠ b → (TJ1 a).2.1 ≠ (TJ1 b).2.1 := by decide +kernel
theorem tyJ1_ok : ∀ k, k < 0 → parseFieldDescriptor (TJ1 k).2.2.1 = some (tyJ1 k) := by decide +kernel
abbrev cJ1_canEncode_9a6ad : ByteArray := prog_18_method_4_code
def yJ1_canEncode_9a6ad : MethodName := ⟨RJ1, "canEncode", "(I)Z"⟩
abbrev cJ1_indexOf_4cfef : ByteArray := prog_18_method_22_code
def yJ1_indexOf_4cfef : MethodName := ⟨RJ1, "indexOf", "([BIII)I"⟩
abbrev cJ1_indexOfChar_4cfef : ByteArray := prog_18_method_23_code
def yJ1_indexOfChar_4cfef : MethodName := ⟨RJ1, "indexOfChar", "([BIII)I"⟩
def RJ2 : String := "java/lang/StringUTF16"
def TJ2 : u_T := fun k => match k with
  | _ => ("", "", "", false)
def tyJ2 : Nat → FieldType := fun k => match k with
  | _ => .int
abbrev wsJ20 : List Cond := u_ws RJ2 TJ2 0
theorem nmJ2 : ∀ a, a < 0 → ∀ b, b < 0 → a ≠ b → (TJ2 a).2.1 ≠ (TJ2 b).2.1 := by decide +kernel
theorem tyJ2_ok : ∀ k, k < 0 → parseFieldDescriptor (TJ2 k).2.2.1 = some (tyJ2 k) := by decide +kernel
abbrev cJ2_getChar_3b067 : ByteArray := prog_19_method_5_code
def yJ2_getChar_3b067 : MethodName := ⟨RJ2, "getChar", "([BI)C"⟩
abbrev cJ2_length_9d52b : ByteArray := prog_19_method_6_code
def yJ2_length_9d52b : MethodName := ⟨RJ2, "length", "([B)I"⟩
abbrev cJ2_indexOf_4cfef : ByteArray := prog_19_method_40_code
def yJ2_indexOf_4cfef : MethodName := ⟨RJ2, "indexOf", "([BIII)I"⟩
abbrev cJ2_indexOfChar_4cfef : ByteArray := prog_19_method_47_code
def yJ2_indexOfChar_4cfef : MethodName := ⟨RJ2, "indexOfChar", "([BIII)I"⟩
abbrev cJ2_indexOfCharUnsafe_4cfef : ByteArray := prog_19_method_48_code
def yJ2_indexOfCharUnsafe_4cfef : MethodName := ⟨RJ2, "indexOfCharUnsafe", "([BIII)I"⟩
abbrev cJ2_indexOfSupplementary_4cfef : ByteArray := prog_19_method_49_code
def yJ2_indexOfSupplementary_4cfef : MethodName := ⟨RJ2, "indexOfSupplementary", "([BIII)I"⟩
abbrev cJ2_checkBoundsBeginEnd_d044e : ByteArray := prog_19_method_93_code
def yJ2_checkBoundsBeginEnd_d044e : MethodName := ⟨RJ2, "checkBoundsBeginEnd", "(II[B)V"⟩
def RJ10 : String := "java/lang/System"
def TJ10 : u_T := fun k => match k with
  | _ => ("", "", "", false)
def tyJ10 : Nat → FieldType := fun k => match k with
  | _ => .int
abbrev wsJ100 : List Cond := u_ws RJ10 TJ10 0
theorem nmJ10 : ∀ a, a < 0 → ∀ b, b < 0 → a ≠ b → (TJ10 a).2.1 ≠ (TJ10 b).2.1 := by decide +kernel
theorem tyJ10_ok : ∀ k, k < 0 → parseFieldDescriptor (TJ10 k).2.2.1 = some (tyJ10 k) := by decide +kernel
def RJ3 : String := "jdk/internal/util/Preconditions"
def TJ3 : u_T := fun k => match k with
  | _ => ("", "", "", false)
def tyJ3 : Nat → FieldType := fun k => match k with
  | _ => .int
abbrev wsJ30 : List Cond := u_ws RJ3 TJ3 0
theorem nmJ3 : ∀ a, a < 0 → ∀ b, b < 0 → a ≠ b → (TJ3 a).2.1 ≠ (TJ3 b).2.1 := by decide +kernel
theorem tyJ3_ok : ∀ k, k < 0 → parseFieldDescriptor (TJ3 k).2.2.1 = some (tyJ3 k) := by decide +kernel
abbrev cJ3_checkFromToIndex_8c36e : ByteArray := prog_21_method_12_code
def yJ3_checkFromToIndex_8c36e : MethodName := ⟨RJ3, "checkFromToIndex", "(IIILjava/util/function/BiFunction;)I"⟩
def RL : String := "RowsOfTwoLaw"
abbrev cL_law : ByteArray := code
def yL_law : MethodName := ⟨RL, "law", "([I)Z"⟩
def wsX0_init : List Cond := .code yX0_init cX0_init 1 none :: ([.methodLink RX0 3 objectInit, .instanceMethod objectInit, .code objectInit ⟨#[0xb1]⟩ 1 none, .arrayClass .int, .fieldLink RX0 9 "RowsOfTwo$Fills" "tally" "[I"] ++ wsX00)
def wsJ6_bitCount_0f7a4 : List Cond := .code yJ6_bitCount_0f7a4 cJ6_bitCount_0f7a4 1 (some .int) :: ([.constant RJ6 265 (1431655765), .constant RJ6 266 (858993459), .constant RJ6 267 (252645135)])
def wsX3_runs : List Cond := .code yX3_runs cX3_runs 3 (some .int) :: ([.methodLink RX3 9 yJ6_bitCount_0f7a4, .static yJ6_bitCount_0f7a4, .initialized RJ6, .code yJ6_bitCount_0f7a4 cJ6_bitCount_0f7a4 1 (some .int), .constant RJ6 265 (1431655765), .constant RJ6 266 (858993459), .constant RJ6 267 (252645135)])
def wsX3_longestRun : List Cond := .code yX3_longestRun cX3_longestRun 3 (some .int) :: ([])
def wsX3_firstHit : List Cond := .code yX3_firstHit cX3_firstHit 3 (some .int) :: ([])
def wsX4_lengthOf : List Cond := .code yX4_lengthOf cX4_lengthOf 2 (some .int) :: ([])
def wsX4_timesIn : List Cond := .code yX4_timesIn cX4_timesIn 7 (some .int) :: ([.methodLink RX4 11 yX4_lengthOf, .static yX4_lengthOf, .initialized RX4, .code yX4_lengthOf cX4_lengthOf 2 (some .int), .methodLink RX4 15 yJ6_bitCount_0f7a4, .static yJ6_bitCount_0f7a4, .initialized RJ6, .code yJ6_bitCount_0f7a4 cJ6_bitCount_0f7a4 1 (some .int), .constant RJ6 265 (1431655765), .constant RJ6 266 (858993459), .constant RJ6 267 (252645135)])
def wsX3_measure_r1 : List Cond := [Cond.methodLink RX3 24 Lib.Math.max.name, Cond.static Lib.Math.max.name, Cond.initialized "java/lang/Math", Cond.code Lib.Math.max.name Lib.Math.max.code 2 (some .int), Cond.methodLink RX3 9 yJ6_bitCount_0f7a4, Cond.static yJ6_bitCount_0f7a4, Cond.initialized RJ6, Cond.code yJ6_bitCount_0f7a4 cJ6_bitCount_0f7a4 1 (some .int), Cond.constant RJ6 265 (1431655765), Cond.constant RJ6 266 (858993459), Cond.constant RJ6 267 (252645135), Cond.methodLink RX3 15 yX3_runs, Cond.static yX3_runs, Cond.initialized RX3, Cond.code yX3_runs cX3_runs 3 (some .int), Cond.methodLink RX3 21 yX3_longestRun, Cond.static yX3_longestRun, Cond.code yX3_longestRun cX3_longestRun 3 (some .int), Cond.methodLink RX3 29 yX3_firstHit, Cond.static yX3_firstHit, Cond.code yX3_firstHit cX3_firstHit 3 (some .int), Cond.methodLink RX3 32 yX4_timesIn, Cond.static yX4_timesIn, Cond.initialized RX4]
def wsX3_measure_r2 : List Cond := [Cond.code yX4_timesIn cX4_timesIn 7 (some .int), Cond.methodLink RX4 11 yX4_lengthOf, Cond.static yX4_lengthOf, Cond.code yX4_lengthOf cX4_lengthOf 2 (some .int), Cond.methodLink RX4 15 yJ6_bitCount_0f7a4]
def wsX3_measure : List Cond := .code yX3_measure cX3_measure 4 (some .int) :: ((wsX3_measure_r1 ++ wsX3_measure_r2))
def wsX6_isDone : List Cond := .code yX6_isDone cX6_isDone 3 (some .boolean) :: ([.fieldLink RX6 25 "RowsOfTwo$Sentences" "measured" "[I", .fieldLink RX6 11 "RowsOfTwo$Sentences" "letters" "[I", .fieldLink RX6 15 "RowsOfTwo$Sentences" "relations" "[I", .fieldLink RX6 18 "RowsOfTwo$Sentences" "limits" "[I"] ++ wsX60)
def wsX6_hold_r1 : List Cond := [Cond.fieldLink RX6 35 "RowsOfTwo$Sentences" "tests" "I", Cond.fieldLink RX6 21 "RowsOfTwo$Sentences" "opensAlternative" "[Z", Cond.fieldLink RX6 11 "RowsOfTwo$Sentences" "letters" "[I", Cond.fieldLink RX6 25 "RowsOfTwo$Sentences" "measured" "[I", Cond.methodLink RX6 72 yX3_measure, Cond.static yX3_measure, Cond.initialized RX3, Cond.code yX3_measure cX3_measure 4 (some .int), Cond.methodLink RX3 24 Lib.Math.max.name, Cond.static Lib.Math.max.name, Cond.initialized "java/lang/Math", Cond.code Lib.Math.max.name Lib.Math.max.code 2 (some .int), Cond.methodLink RX3 9 yJ6_bitCount_0f7a4, Cond.static yJ6_bitCount_0f7a4, Cond.initialized RJ6, Cond.code yJ6_bitCount_0f7a4 cJ6_bitCount_0f7a4 1 (some .int), Cond.constant RJ6 265 (1431655765), Cond.constant RJ6 266 (858993459), Cond.constant RJ6 267 (252645135), Cond.methodLink RX3 15 yX3_runs, Cond.static yX3_runs, Cond.code yX3_runs cX3_runs 3 (some .int), Cond.methodLink RX3 21 yX3_longestRun, Cond.static yX3_longestRun]
def wsX6_hold_r2 : List Cond := [Cond.code yX3_longestRun cX3_longestRun 3 (some .int), Cond.methodLink RX3 29 yX3_firstHit, Cond.static yX3_firstHit, Cond.code yX3_firstHit cX3_firstHit 3 (some .int), Cond.methodLink RX3 32 yX4_timesIn, Cond.static yX4_timesIn, Cond.initialized RX4, Cond.code yX4_timesIn cX4_timesIn 7 (some .int), Cond.methodLink RX4 11 yX4_lengthOf, Cond.static yX4_lengthOf, Cond.code yX4_lengthOf cX4_lengthOf 2 (some .int), Cond.methodLink RX4 15 yJ6_bitCount_0f7a4, Cond.methodLink RX6 78 yX6_isDone, Cond.instanceMethod yX6_isDone, Cond.selects RX6 yX6_isDone yX6_isDone, Cond.initialized RX6, Cond.code yX6_isDone cX6_isDone 3 (some .boolean), Cond.fieldLink RX6 15 "RowsOfTwo$Sentences" "relations" "[I", Cond.fieldLink RX6 18 "RowsOfTwo$Sentences" "limits" "[I"]
def wsX6_hold : List Cond := .code yX6_hold cX6_hold 8 (some .boolean) :: ((wsX6_hold_r1 ++ wsX6_hold_r2) ++ wsX60)
def wsX0_learn_r1 : List Cond := [Cond.fieldLink RX0 9 "RowsOfTwo$Fills" "tally" "[I", Cond.fieldLink RX0 15 "RowsOfTwo$Fills" "alwaysHit" "I", Cond.fieldLink RX0 19 "RowsOfTwo$Fills" "everHit" "I", Cond.fieldLink RX0 22 "RowsOfTwo$Row" "unseen" "I", Cond.fieldLink RX0 33 "RowsOfTwo$Row" "hits" "I", Cond.fieldLink RX0 36 "RowsOfTwo$Row" "length" "I", Cond.methodLink RX0 27 yJ6_bitCount_0f7a4, Cond.static yJ6_bitCount_0f7a4, Cond.initialized RJ6, Cond.code yJ6_bitCount_0f7a4 cJ6_bitCount_0f7a4 1 (some .int), Cond.constant RJ6 265 (1431655765), Cond.constant RJ6 266 (858993459), Cond.constant RJ6 267 (252645135), Cond.methodLink RX0 39 yX6_hold, Cond.instanceMethod yX6_hold, Cond.selects RX6 yX6_hold yX6_hold, Cond.initialized RX6, Cond.code yX6_hold cX6_hold 8 (some .boolean), Cond.fieldLink RX6 35 "RowsOfTwo$Sentences" "tests" "I", Cond.fieldLink RX6 21 "RowsOfTwo$Sentences" "opensAlternative" "[Z", Cond.fieldLink RX6 11 "RowsOfTwo$Sentences" "letters" "[I", Cond.fieldLink RX6 25 "RowsOfTwo$Sentences" "measured" "[I", Cond.methodLink RX6 72 yX3_measure, Cond.static yX3_measure]
def wsX0_learn_r2 : List Cond := [Cond.initialized RX3, Cond.code yX3_measure cX3_measure 4 (some .int), Cond.methodLink RX3 24 Lib.Math.max.name, Cond.static Lib.Math.max.name, Cond.initialized "java/lang/Math", Cond.code Lib.Math.max.name Lib.Math.max.code 2 (some .int), Cond.methodLink RX3 9 yJ6_bitCount_0f7a4, Cond.methodLink RX3 15 yX3_runs, Cond.static yX3_runs, Cond.code yX3_runs cX3_runs 3 (some .int), Cond.methodLink RX3 21 yX3_longestRun, Cond.static yX3_longestRun, Cond.code yX3_longestRun cX3_longestRun 3 (some .int), Cond.methodLink RX3 29 yX3_firstHit, Cond.static yX3_firstHit, Cond.code yX3_firstHit cX3_firstHit 3 (some .int), Cond.methodLink RX3 32 yX4_timesIn, Cond.static yX4_timesIn, Cond.initialized RX4, Cond.code yX4_timesIn cX4_timesIn 7 (some .int), Cond.methodLink RX4 11 yX4_lengthOf, Cond.static yX4_lengthOf, Cond.code yX4_lengthOf cX4_lengthOf 2 (some .int), Cond.methodLink RX4 15 yJ6_bitCount_0f7a4]
def wsX0_learn_r3 : List Cond := [Cond.methodLink RX6 78 yX6_isDone, Cond.instanceMethod yX6_isDone, Cond.selects RX6 yX6_isDone yX6_isDone, Cond.code yX6_isDone cX6_isDone 3 (some .boolean), Cond.fieldLink RX6 15 "RowsOfTwo$Sentences" "relations" "[I", Cond.fieldLink RX6 18 "RowsOfTwo$Sentences" "limits" "[I"]
def wsX0_learn : List Cond := .code yX0_learn cX0_learn 8 none :: ((wsX0_learn_r1 ++ (wsX0_learn_r2 ++ wsX0_learn_r3)) ++ wsX00 ++ wsX50 ++ wsX60)
def wsX1_commonDivisor : List Cond := .code yX1_commonDivisor cX1_commonDivisor 11 (some .long) :: ([])
def wsX1_part : List Cond := .code yX1_part cX1_part 7 (some .long) :: ([.methodLink RX1 7 yX1_commonDivisor, .static yX1_commonDivisor, .initialized RX1, .code yX1_commonDivisor cX1_commonDivisor 11 (some .long)])
def wsX1_power : List Cond := .code yX1_power cX1_power 6 (some .long) :: ([])
def wsX2_howMany : List Cond := .code yX2_howMany cX2_howMany 4 (some .int) :: ([.fieldLink RX2 7 "RowsOfTwo$Row" "hits" "I", .fieldLink RX2 19 "RowsOfTwo$Row" "length" "I", .methodLink RX2 13 yJ6_bitCount_0f7a4, .static yJ6_bitCount_0f7a4, .initialized RJ6, .code yJ6_bitCount_0f7a4 cJ6_bitCount_0f7a4 1 (some .int), .constant RJ6 265 (1431655765), .constant RJ6 266 (858993459), .constant RJ6 267 (252645135)] ++ wsX50)
def wsX2_lowest : List Cond := .code yX2_lowest cX2_lowest 1 (some .int) :: ([.fieldLink RX2 7 "RowsOfTwo$Row" "hits" "I", .methodLink RX2 13 yJ6_bitCount_0f7a4, .static yJ6_bitCount_0f7a4, .initialized RJ6, .code yJ6_bitCount_0f7a4 cJ6_bitCount_0f7a4 1 (some .int), .constant RJ6 265 (1431655765), .constant RJ6 266 (858993459), .constant RJ6 267 (252645135)] ++ wsX50)
def wsX2_after : List Cond := .code yX2_after cX2_after 3 (some .int) :: ([])
def wsX2_behindHits : List Cond := .code yX2_behindHits cX2_behindHits 4 (some .int) :: ([])
def wsX2_heat : List Cond := .code yX2_heat cX2_heat 3 (some .long) :: ([.constantLong RX2 24 (360360), .methodLink RX2 13 yJ6_bitCount_0f7a4, .static yJ6_bitCount_0f7a4, .initialized RJ6, .code yJ6_bitCount_0f7a4 cJ6_bitCount_0f7a4 1 (some .int), .constant RJ6 265 (1431655765), .constant RJ6 266 (858993459), .constant RJ6 267 (252645135)])
def wsX4_standsIn : List Cond := .code yX4_standsIn cX4_standsIn 3 (some .boolean) :: ([.methodLink RX4 11 yX4_lengthOf, .static yX4_lengthOf, .initialized RX4, .code yX4_lengthOf cX4_lengthOf 2 (some .int), .methodLink RX4 20 yX4_timesIn, .static yX4_timesIn, .code yX4_timesIn cX4_timesIn 7 (some .int), .methodLink RX4 15 yJ6_bitCount_0f7a4, .static yJ6_bitCount_0f7a4, .initialized RJ6, .code yJ6_bitCount_0f7a4 cJ6_bitCount_0f7a4 1 (some .int), .constant RJ6 265 (1431655765), .constant RJ6 266 (858993459), .constant RJ6 267 (252645135)])
def wsX4_chanceParts : List Cond := .code yX4_chanceParts cX4_chanceParts 3 (some .long) :: ([.methodLink RX4 30 yX1_power, .static yX1_power, .initialized RX1, .code yX1_power cX1_power 6 (some .long)])
def wsX4_lead : List Cond := .code yX4_lead cX4_lead 14 (some .long) :: ([.constantLong RX4 28 (16), .methodLink RX4 11 yX4_lengthOf, .static yX4_lengthOf, .initialized RX4, .code yX4_lengthOf cX4_lengthOf 2 (some .int), .methodLink RX4 15 yJ6_bitCount_0f7a4, .static yJ6_bitCount_0f7a4, .initialized RJ6, .code yJ6_bitCount_0f7a4 cJ6_bitCount_0f7a4 1 (some .int), .constant RJ6 265 (1431655765), .constant RJ6 266 (858993459), .constant RJ6 267 (252645135), .methodLink RX4 24 yX4_chanceParts, .static yX4_chanceParts, .code yX4_chanceParts cX4_chanceParts 3 (some .long), .methodLink RX4 30 yX1_power, .static yX1_power, .initialized RX1, .code yX1_power cX1_power 6 (some .long)])
def wsX4_leadUnit : List Cond := .code yX4_leadUnit cX4_leadUnit 1 (some .long) :: ([.methodLink RX4 24 yX4_chanceParts, .static yX4_chanceParts, .initialized RX4, .code yX4_chanceParts cX4_chanceParts 3 (some .long), .methodLink RX4 30 yX1_power, .static yX1_power, .initialized RX1, .code yX1_power cX1_power 6 (some .long)])
def wsX5_init : List Cond := .code yX5_init cX5_init 1 none :: ([.methodLink RX5 3 objectInit, .instanceMethod objectInit, .code objectInit ⟨#[0xb1]⟩ 1 none])
def wsX5_maySee : List Cond := .code yX5_maySee cX5_maySee 1 (some .boolean) :: ([])
def wsX5_isFull : List Cond := .code yX5_isFull cX5_isFull 1 (some .boolean) :: ([.fieldLink RX5 9 "RowsOfTwo$Row" "length" "I"] ++ wsX50)
def wsX5_isWhole : List Cond := .code yX5_isWhole cX5_isWhole 1 (some .boolean) :: ([.fieldLink RX5 15 "RowsOfTwo$Row" "unseen" "I"] ++ wsX50)
def wsX5_empty : List Cond := .code yX5_empty cX5_empty 1 none :: ([.fieldLink RX5 9 "RowsOfTwo$Row" "length" "I", .fieldLink RX5 18 "RowsOfTwo$Row" "hits" "I", .fieldLink RX5 15 "RowsOfTwo$Row" "unseen" "I"] ++ wsX50)
def wsX5_append : List Cond := .code yX5_append cX5_append 2 none :: ([.fieldLink RX5 18 "RowsOfTwo$Row" "hits" "I", .fieldLink RX5 15 "RowsOfTwo$Row" "unseen" "I", .fieldLink RX5 9 "RowsOfTwo$Row" "length" "I"] ++ wsX50)
def wsX5_signAt : List Cond := .code yX5_signAt cX5_signAt 3 (some .int) :: ([.fieldLink RX5 9 "RowsOfTwo$Row" "length" "I", .fieldLink RX5 15 "RowsOfTwo$Row" "unseen" "I", .fieldLink RX5 18 "RowsOfTwo$Row" "hits" "I"] ++ wsX50)
def wsX5_isBehindItsEnd : List Cond := .code yX5_isBehindItsEnd cX5_isBehindItsEnd 6 (some .boolean) :: ([.fieldLink RX5 9 "RowsOfTwo$Row" "length" "I", .fieldLink RX5 15 "RowsOfTwo$Row" "unseen" "I", .fieldLink RX5 18 "RowsOfTwo$Row" "hits" "I"] ++ wsX50)
def wsX6_init : List Cond := .code yX6_init cX6_init 1 none :: ([.methodLink RX6 3 objectInit, .instanceMethod objectInit, .code objectInit ⟨#[0xb1]⟩ 1 none, .arrayClass .int, .fieldLink RX6 11 "RowsOfTwo$Sentences" "letters" "[I", .fieldLink RX6 15 "RowsOfTwo$Sentences" "relations" "[I", .fieldLink RX6 18 "RowsOfTwo$Sentences" "limits" "[I", .arrayClass .boolean, .fieldLink RX6 21 "RowsOfTwo$Sentences" "opensAlternative" "[Z", .fieldLink RX6 25 "RowsOfTwo$Sentences" "measured" "[I", .fieldLink RX6 28 "RowsOfTwo$Sentences" "stuckAt" "I"] ++ wsX60)
def wsX6_empty : List Cond := .code yX6_empty cX6_empty 1 none :: ([.fieldLink RX6 32 "RowsOfTwo$Sentences" "length" "I", .fieldLink RX6 35 "RowsOfTwo$Sentences" "tests" "I", .fieldLink RX6 38 "RowsOfTwo$Sentences" "due" "I", .fieldLink RX6 28 "RowsOfTwo$Sentences" "stuckAt" "I"] ++ wsX60)
def wsJ0_isLatin1_aae02 : List Cond := .code yJ0_isLatin1_aae02 cJ0_isLatin1_aae02 1 (some .boolean) :: ([.fieldLink RJ0 38 "java/lang/String" "COMPACT_STRINGS" "Z", .fieldLink RJ0 15 "java/lang/String" "coder" "B"])
def wsJ0_coder_7d493 : List Cond := .code yJ0_coder_7d493 cJ0_coder_7d493 1 (some .byte) :: ([.fieldLink RJ0 38 "java/lang/String" "COMPACT_STRINGS" "Z", .fieldLink RJ0 15 "java/lang/String" "coder" "B"])
def wsJ0_length_8abf5 : List Cond := .code yJ0_length_8abf5 cJ0_length_8abf5 1 (some .int) :: ([.fieldLink RJ0 9 "java/lang/String" "value" "[B", .methodLink RJ0 335 yJ0_coder_7d493, .instanceMethod yJ0_coder_7d493, .selects RJ0 yJ0_coder_7d493 yJ0_coder_7d493, .initialized RJ0, .code yJ0_coder_7d493 cJ0_coder_7d493 1 (some .byte), .fieldLink RJ0 38 "java/lang/String" "COMPACT_STRINGS" "Z", .fieldLink RJ0 15 "java/lang/String" "coder" "B"])
def wsJ1_canEncode_9a6ad : List Cond := .code yJ1_canEncode_9a6ad cJ1_canEncode_9a6ad 1 (some .boolean) :: ([])
def wsJ1_indexOfChar_4cfef : List Cond := .code yJ1_indexOfChar_4cfef cJ1_indexOfChar_4cfef 6 (some .int) :: ([])
def wsJ1_indexOf_4cfef : List Cond := .code yJ1_indexOf_4cfef cJ1_indexOf_4cfef 4 (some .int) :: ([.methodLink RJ1 92 Lib.Math.max.name, .static Lib.Math.max.name, .initialized "java/lang/Math", .code Lib.Math.max.name Lib.Math.max.code 2 (some .int), .methodLink RJ1 38 Lib.Math.min.name, .static Lib.Math.min.name, .code Lib.Math.min.name Lib.Math.min.code 2 (some .int), .methodLink RJ1 88 yJ1_canEncode_9a6ad, .static yJ1_canEncode_9a6ad, .initialized RJ1, .code yJ1_canEncode_9a6ad cJ1_canEncode_9a6ad 1 (some .boolean), .methodLink RJ1 95 yJ1_indexOfChar_4cfef, .static yJ1_indexOfChar_4cfef, .code yJ1_indexOfChar_4cfef cJ1_indexOfChar_4cfef 6 (some .int)])
def wsJ2_length_9d52b : List Cond := .code yJ2_length_9d52b cJ2_length_9d52b 1 (some .int) :: ([])
def wsJ3_checkFromToIndex_8c36e : List Cond := .code yJ3_checkFromToIndex_8c36e cJ3_checkFromToIndex_8c36e 4 (some .int) :: ([])
def wsJ0_checkBoundsBeginEnd_23922 : List Cond := .code yJ0_checkBoundsBeginEnd_23922 cJ0_checkBoundsBeginEnd_23922 3 none :: ([.fieldLink RJ0 1053 "jdk/internal/util/Preconditions" "SIOOBE_FORMATTER" "Ljava/util/function/BiFunction;", .methodLink RJ0 1062 yJ3_checkFromToIndex_8c36e, .static yJ3_checkFromToIndex_8c36e, .initialized RJ3, .code yJ3_checkFromToIndex_8c36e cJ3_checkFromToIndex_8c36e 4 (some .int)])
def wsJ2_checkBoundsBeginEnd_d044e : List Cond := .code yJ2_checkBoundsBeginEnd_d044e cJ2_checkBoundsBeginEnd_d044e 3 none :: ([.methodLink RJ2 48 yJ2_length_9d52b, .static yJ2_length_9d52b, .initialized RJ2, .code yJ2_length_9d52b cJ2_length_9d52b 1 (some .int), .methodLink RJ2 241 yJ0_checkBoundsBeginEnd_23922, .static yJ0_checkBoundsBeginEnd_23922, .initialized RJ0, .code yJ0_checkBoundsBeginEnd_23922 cJ0_checkBoundsBeginEnd_23922 3 none, .fieldLink RJ0 1053 "jdk/internal/util/Preconditions" "SIOOBE_FORMATTER" "Ljava/util/function/BiFunction;", .methodLink RJ0 1062 yJ3_checkFromToIndex_8c36e, .static yJ3_checkFromToIndex_8c36e, .initialized RJ3, .code yJ3_checkFromToIndex_8c36e cJ3_checkFromToIndex_8c36e 4 (some .int)])
def wsJ2_getChar_3b067 : List Cond := .code yJ2_getChar_3b067 cJ2_getChar_3b067 2 (some .char) :: ([.fieldLink RJ2 44 "java/lang/StringUTF16" "$assertionsDisabled" "Z", .fieldLink RJ2 59 "java/lang/StringUTF16" "HI_BYTE_SHIFT" "I", .fieldLink RJ2 63 "java/lang/StringUTF16" "LO_BYTE_SHIFT" "I", .methodLink RJ2 48 yJ2_length_9d52b, .static yJ2_length_9d52b, .initialized RJ2, .code yJ2_length_9d52b cJ2_length_9d52b 1 (some .int)])
def wsJ2_indexOfCharUnsafe_4cfef : List Cond := .code yJ2_indexOfCharUnsafe_4cfef cJ2_indexOfCharUnsafe_4cfef 5 (some .int) :: ([.methodLink RJ2 71 yJ2_getChar_3b067, .static yJ2_getChar_3b067, .initialized RJ2, .code yJ2_getChar_3b067 cJ2_getChar_3b067 2 (some .char), .fieldLink RJ2 44 "java/lang/StringUTF16" "$assertionsDisabled" "Z", .fieldLink RJ2 59 "java/lang/StringUTF16" "HI_BYTE_SHIFT" "I", .fieldLink RJ2 63 "java/lang/StringUTF16" "LO_BYTE_SHIFT" "I", .methodLink RJ2 48 yJ2_length_9d52b, .static yJ2_length_9d52b, .code yJ2_length_9d52b cJ2_length_9d52b 1 (some .int)])
def wsJ2_indexOfChar_4cfef_r1 : List Cond := [Cond.methodLink RJ2 96 yJ2_checkBoundsBeginEnd_d044e, Cond.static yJ2_checkBoundsBeginEnd_d044e, Cond.initialized RJ2, Cond.code yJ2_checkBoundsBeginEnd_d044e cJ2_checkBoundsBeginEnd_d044e 3 none, Cond.methodLink RJ2 48 yJ2_length_9d52b, Cond.static yJ2_length_9d52b, Cond.code yJ2_length_9d52b cJ2_length_9d52b 1 (some .int), Cond.methodLink RJ2 241 yJ0_checkBoundsBeginEnd_23922, Cond.static yJ0_checkBoundsBeginEnd_23922, Cond.initialized RJ0, Cond.code yJ0_checkBoundsBeginEnd_23922 cJ0_checkBoundsBeginEnd_23922 3 none, Cond.fieldLink RJ0 1053 "jdk/internal/util/Preconditions" "SIOOBE_FORMATTER" "Ljava/util/function/BiFunction;", Cond.methodLink RJ0 1062 yJ3_checkFromToIndex_8c36e, Cond.static yJ3_checkFromToIndex_8c36e, Cond.initialized RJ3, Cond.code yJ3_checkFromToIndex_8c36e cJ3_checkFromToIndex_8c36e 4 (some .int), Cond.methodLink RJ2 244 yJ2_indexOfCharUnsafe_4cfef, Cond.static yJ2_indexOfCharUnsafe_4cfef, Cond.code yJ2_indexOfCharUnsafe_4cfef cJ2_indexOfCharUnsafe_4cfef 5 (some .int), Cond.methodLink RJ2 71 yJ2_getChar_3b067, Cond.static yJ2_getChar_3b067, Cond.code yJ2_getChar_3b067 cJ2_getChar_3b067 2 (some .char), Cond.fieldLink RJ2 44 "java/lang/StringUTF16" "$assertionsDisabled" "Z", Cond.fieldLink RJ2 59 "java/lang/StringUTF16" "HI_BYTE_SHIFT" "I"]
def wsJ2_indexOfChar_4cfef_r2 : List Cond := [Cond.fieldLink RJ2 63 "java/lang/StringUTF16" "LO_BYTE_SHIFT" "I"]
def wsJ2_indexOfChar_4cfef : List Cond := .code yJ2_indexOfChar_4cfef cJ2_indexOfChar_4cfef 4 (some .int) :: ((wsJ2_indexOfChar_4cfef_r1 ++ wsJ2_indexOfChar_4cfef_r2))
def wsJ11_isValidCodePoint_9a6ad : List Cond := .code yJ11_isValidCodePoint_9a6ad cJ11_isValidCodePoint_9a6ad 2 (some .boolean) :: ([])
def wsJ11_highSurrogate_5068e : List Cond := .code yJ11_highSurrogate_5068e cJ11_highSurrogate_5068e 1 (some .char) :: ([.constant RJ11 110 (55232)])
def wsJ11_lowSurrogate_5068e : List Cond := .code yJ11_lowSurrogate_5068e cJ11_lowSurrogate_5068e 1 (some .char) :: ([.constant RJ11 76 (56320)])
def wsJ2_indexOfSupplementary_4cfef_r1 : List Cond := [Cond.methodLink RJ2 164 yJ11_isValidCodePoint_9a6ad, Cond.static yJ11_isValidCodePoint_9a6ad, Cond.initialized RJ11, Cond.code yJ11_isValidCodePoint_9a6ad cJ11_isValidCodePoint_9a6ad 2 (some .boolean), Cond.methodLink RJ2 157 yJ11_highSurrogate_5068e, Cond.static yJ11_highSurrogate_5068e, Cond.code yJ11_highSurrogate_5068e cJ11_highSurrogate_5068e 1 (some .char), Cond.constant RJ11 110 (55232), Cond.methodLink RJ2 161 yJ11_lowSurrogate_5068e, Cond.static yJ11_lowSurrogate_5068e, Cond.code yJ11_lowSurrogate_5068e cJ11_lowSurrogate_5068e 1 (some .char), Cond.constant RJ11 76 (56320), Cond.methodLink RJ2 96 yJ2_checkBoundsBeginEnd_d044e, Cond.static yJ2_checkBoundsBeginEnd_d044e, Cond.initialized RJ2, Cond.code yJ2_checkBoundsBeginEnd_d044e cJ2_checkBoundsBeginEnd_d044e 3 none, Cond.methodLink RJ2 48 yJ2_length_9d52b, Cond.static yJ2_length_9d52b, Cond.code yJ2_length_9d52b cJ2_length_9d52b 1 (some .int), Cond.methodLink RJ2 241 yJ0_checkBoundsBeginEnd_23922, Cond.static yJ0_checkBoundsBeginEnd_23922, Cond.initialized RJ0, Cond.code yJ0_checkBoundsBeginEnd_23922 cJ0_checkBoundsBeginEnd_23922 3 none, Cond.fieldLink RJ0 1053 "jdk/internal/util/Preconditions" "SIOOBE_FORMATTER" "Ljava/util/function/BiFunction;"]
def wsJ2_indexOfSupplementary_4cfef_r2 : List Cond := [Cond.methodLink RJ0 1062 yJ3_checkFromToIndex_8c36e, Cond.static yJ3_checkFromToIndex_8c36e, Cond.initialized RJ3, Cond.code yJ3_checkFromToIndex_8c36e cJ3_checkFromToIndex_8c36e 4 (some .int), Cond.methodLink RJ2 71 yJ2_getChar_3b067, Cond.static yJ2_getChar_3b067, Cond.code yJ2_getChar_3b067 cJ2_getChar_3b067 2 (some .char), Cond.fieldLink RJ2 44 "java/lang/StringUTF16" "$assertionsDisabled" "Z", Cond.fieldLink RJ2 59 "java/lang/StringUTF16" "HI_BYTE_SHIFT" "I", Cond.fieldLink RJ2 63 "java/lang/StringUTF16" "LO_BYTE_SHIFT" "I"]
def wsJ2_indexOfSupplementary_4cfef : List Cond := .code yJ2_indexOfSupplementary_4cfef cJ2_indexOfSupplementary_4cfef 7 (some .int) :: ((wsJ2_indexOfSupplementary_4cfef_r1 ++ wsJ2_indexOfSupplementary_4cfef_r2))
def wsJ2_indexOf_4cfef_r1 : List Cond := [Cond.methodLink RJ2 224 Lib.Math.max.name, Cond.static Lib.Math.max.name, Cond.initialized "java/lang/Math", Cond.code Lib.Math.max.name Lib.Math.max.code 2 (some .int), Cond.methodLink RJ2 183 Lib.Math.min.name, Cond.static Lib.Math.min.name, Cond.code Lib.Math.min.name Lib.Math.min.code 2 (some .int), Cond.constant RJ2 227 (65536), Cond.methodLink RJ2 228 yJ2_indexOfChar_4cfef, Cond.static yJ2_indexOfChar_4cfef, Cond.initialized RJ2, Cond.code yJ2_indexOfChar_4cfef cJ2_indexOfChar_4cfef 4 (some .int), Cond.methodLink RJ2 96 yJ2_checkBoundsBeginEnd_d044e, Cond.static yJ2_checkBoundsBeginEnd_d044e, Cond.code yJ2_checkBoundsBeginEnd_d044e cJ2_checkBoundsBeginEnd_d044e 3 none, Cond.methodLink RJ2 48 yJ2_length_9d52b, Cond.static yJ2_length_9d52b, Cond.code yJ2_length_9d52b cJ2_length_9d52b 1 (some .int), Cond.methodLink RJ2 241 yJ0_checkBoundsBeginEnd_23922, Cond.static yJ0_checkBoundsBeginEnd_23922, Cond.initialized RJ0, Cond.code yJ0_checkBoundsBeginEnd_23922 cJ0_checkBoundsBeginEnd_23922 3 none, Cond.fieldLink RJ0 1053 "jdk/internal/util/Preconditions" "SIOOBE_FORMATTER" "Ljava/util/function/BiFunction;", Cond.methodLink RJ0 1062 yJ3_checkFromToIndex_8c36e]
def wsJ2_indexOf_4cfef_r2 : List Cond := [Cond.static yJ3_checkFromToIndex_8c36e, Cond.initialized RJ3, Cond.code yJ3_checkFromToIndex_8c36e cJ3_checkFromToIndex_8c36e 4 (some .int), Cond.methodLink RJ2 244 yJ2_indexOfCharUnsafe_4cfef, Cond.static yJ2_indexOfCharUnsafe_4cfef, Cond.code yJ2_indexOfCharUnsafe_4cfef cJ2_indexOfCharUnsafe_4cfef 5 (some .int), Cond.methodLink RJ2 71 yJ2_getChar_3b067, Cond.static yJ2_getChar_3b067, Cond.code yJ2_getChar_3b067 cJ2_getChar_3b067 2 (some .char), Cond.fieldLink RJ2 44 "java/lang/StringUTF16" "$assertionsDisabled" "Z", Cond.fieldLink RJ2 59 "java/lang/StringUTF16" "HI_BYTE_SHIFT" "I", Cond.fieldLink RJ2 63 "java/lang/StringUTF16" "LO_BYTE_SHIFT" "I", Cond.methodLink RJ2 232 yJ2_indexOfSupplementary_4cfef, Cond.static yJ2_indexOfSupplementary_4cfef, Cond.code yJ2_indexOfSupplementary_4cfef cJ2_indexOfSupplementary_4cfef 7 (some .int), Cond.methodLink RJ2 164 yJ11_isValidCodePoint_9a6ad, Cond.static yJ11_isValidCodePoint_9a6ad, Cond.initialized RJ11, Cond.code yJ11_isValidCodePoint_9a6ad cJ11_isValidCodePoint_9a6ad 2 (some .boolean), Cond.methodLink RJ2 157 yJ11_highSurrogate_5068e, Cond.static yJ11_highSurrogate_5068e, Cond.code yJ11_highSurrogate_5068e cJ11_highSurrogate_5068e 1 (some .char), Cond.constant RJ11 110 (55232), Cond.methodLink RJ2 161 yJ11_lowSurrogate_5068e]
def wsJ2_indexOf_4cfef_r3 : List Cond := [Cond.static yJ11_lowSurrogate_5068e, Cond.code yJ11_lowSurrogate_5068e cJ11_lowSurrogate_5068e 1 (some .char), Cond.constant RJ11 76 (56320)]
def wsJ2_indexOf_4cfef : List Cond := .code yJ2_indexOf_4cfef cJ2_indexOf_4cfef 4 (some .int) :: ((wsJ2_indexOf_4cfef_r1 ++ (wsJ2_indexOf_4cfef_r2 ++ wsJ2_indexOf_4cfef_r3)))
def wsJ0_indexOf_7cf53_r1 : List Cond := [Cond.fieldLink RJ0 9 "java/lang/String" "value" "[B", Cond.methodLink RJ0 492 yJ0_isLatin1_aae02, Cond.instanceMethod yJ0_isLatin1_aae02, Cond.selects RJ0 yJ0_isLatin1_aae02 yJ0_isLatin1_aae02, Cond.initialized RJ0, Cond.code yJ0_isLatin1_aae02 cJ0_isLatin1_aae02 1 (some .boolean), Cond.fieldLink RJ0 38 "java/lang/String" "COMPACT_STRINGS" "Z", Cond.fieldLink RJ0 15 "java/lang/String" "coder" "B", Cond.methodLink RJ0 505 yJ0_length_8abf5, Cond.instanceMethod yJ0_length_8abf5, Cond.selects RJ0 yJ0_length_8abf5 yJ0_length_8abf5, Cond.code yJ0_length_8abf5 cJ0_length_8abf5 1 (some .int), Cond.methodLink RJ0 335 yJ0_coder_7d493, Cond.instanceMethod yJ0_coder_7d493, Cond.selects RJ0 yJ0_coder_7d493 yJ0_coder_7d493, Cond.code yJ0_coder_7d493 cJ0_coder_7d493 1 (some .byte), Cond.methodLink RJ0 637 yJ1_indexOf_4cfef, Cond.static yJ1_indexOf_4cfef, Cond.initialized RJ1, Cond.code yJ1_indexOf_4cfef cJ1_indexOf_4cfef 4 (some .int), Cond.methodLink RJ1 92 Lib.Math.max.name, Cond.static Lib.Math.max.name, Cond.initialized "java/lang/Math", Cond.code Lib.Math.max.name Lib.Math.max.code 2 (some .int)]
def wsJ0_indexOf_7cf53_r2 : List Cond := [Cond.methodLink RJ1 38 Lib.Math.min.name, Cond.static Lib.Math.min.name, Cond.code Lib.Math.min.name Lib.Math.min.code 2 (some .int), Cond.methodLink RJ1 88 yJ1_canEncode_9a6ad, Cond.static yJ1_canEncode_9a6ad, Cond.code yJ1_canEncode_9a6ad cJ1_canEncode_9a6ad 1 (some .boolean), Cond.methodLink RJ1 95 yJ1_indexOfChar_4cfef, Cond.static yJ1_indexOfChar_4cfef, Cond.code yJ1_indexOfChar_4cfef cJ1_indexOfChar_4cfef 6 (some .int), Cond.methodLink RJ0 640 yJ2_indexOf_4cfef, Cond.static yJ2_indexOf_4cfef, Cond.initialized RJ2, Cond.code yJ2_indexOf_4cfef cJ2_indexOf_4cfef 4 (some .int), Cond.methodLink RJ2 224 Lib.Math.max.name, Cond.methodLink RJ2 183 Lib.Math.min.name, Cond.constant RJ2 227 (65536), Cond.methodLink RJ2 228 yJ2_indexOfChar_4cfef, Cond.static yJ2_indexOfChar_4cfef, Cond.code yJ2_indexOfChar_4cfef cJ2_indexOfChar_4cfef 4 (some .int), Cond.methodLink RJ2 96 yJ2_checkBoundsBeginEnd_d044e, Cond.static yJ2_checkBoundsBeginEnd_d044e, Cond.code yJ2_checkBoundsBeginEnd_d044e cJ2_checkBoundsBeginEnd_d044e 3 none, Cond.methodLink RJ2 48 yJ2_length_9d52b, Cond.static yJ2_length_9d52b]
def wsJ0_indexOf_7cf53_r3 : List Cond := [Cond.code yJ2_length_9d52b cJ2_length_9d52b 1 (some .int), Cond.methodLink RJ2 241 yJ0_checkBoundsBeginEnd_23922, Cond.static yJ0_checkBoundsBeginEnd_23922, Cond.code yJ0_checkBoundsBeginEnd_23922 cJ0_checkBoundsBeginEnd_23922 3 none, Cond.fieldLink RJ0 1053 "jdk/internal/util/Preconditions" "SIOOBE_FORMATTER" "Ljava/util/function/BiFunction;", Cond.methodLink RJ0 1062 yJ3_checkFromToIndex_8c36e, Cond.static yJ3_checkFromToIndex_8c36e, Cond.initialized RJ3, Cond.code yJ3_checkFromToIndex_8c36e cJ3_checkFromToIndex_8c36e 4 (some .int), Cond.methodLink RJ2 244 yJ2_indexOfCharUnsafe_4cfef, Cond.static yJ2_indexOfCharUnsafe_4cfef, Cond.code yJ2_indexOfCharUnsafe_4cfef cJ2_indexOfCharUnsafe_4cfef 5 (some .int), Cond.methodLink RJ2 71 yJ2_getChar_3b067, Cond.static yJ2_getChar_3b067, Cond.code yJ2_getChar_3b067 cJ2_getChar_3b067 2 (some .char), Cond.fieldLink RJ2 44 "java/lang/StringUTF16" "$assertionsDisabled" "Z", Cond.fieldLink RJ2 59 "java/lang/StringUTF16" "HI_BYTE_SHIFT" "I", Cond.fieldLink RJ2 63 "java/lang/StringUTF16" "LO_BYTE_SHIFT" "I", Cond.methodLink RJ2 232 yJ2_indexOfSupplementary_4cfef, Cond.static yJ2_indexOfSupplementary_4cfef, Cond.code yJ2_indexOfSupplementary_4cfef cJ2_indexOfSupplementary_4cfef 7 (some .int), Cond.methodLink RJ2 164 yJ11_isValidCodePoint_9a6ad, Cond.static yJ11_isValidCodePoint_9a6ad, Cond.initialized RJ11]
def wsJ0_indexOf_7cf53_r4 : List Cond := [Cond.code yJ11_isValidCodePoint_9a6ad cJ11_isValidCodePoint_9a6ad 2 (some .boolean), Cond.methodLink RJ2 157 yJ11_highSurrogate_5068e, Cond.static yJ11_highSurrogate_5068e, Cond.code yJ11_highSurrogate_5068e cJ11_highSurrogate_5068e 1 (some .char), Cond.constant RJ11 110 (55232), Cond.methodLink RJ2 161 yJ11_lowSurrogate_5068e, Cond.static yJ11_lowSurrogate_5068e, Cond.code yJ11_lowSurrogate_5068e cJ11_lowSurrogate_5068e 1 (some .char), Cond.constant RJ11 76 (56320)]
def wsJ0_indexOf_7cf53 : List Cond := .code yJ0_indexOf_7cf53 cJ0_indexOf_7cf53 3 (some .int) :: ((wsJ0_indexOf_7cf53_r1 ++ (wsJ0_indexOf_7cf53_r2 ++ (wsJ0_indexOf_7cf53_r3 ++ wsJ0_indexOf_7cf53_r4))))
def wsJ0_indexOf_0f7a4_r1 : List Cond := [Cond.methodLink RJ0 633 yJ0_indexOf_7cf53, Cond.instanceMethod yJ0_indexOf_7cf53, Cond.selects RJ0 yJ0_indexOf_7cf53 yJ0_indexOf_7cf53, Cond.initialized RJ0, Cond.code yJ0_indexOf_7cf53 cJ0_indexOf_7cf53 3 (some .int), Cond.fieldLink RJ0 9 "java/lang/String" "value" "[B", Cond.methodLink RJ0 492 yJ0_isLatin1_aae02, Cond.instanceMethod yJ0_isLatin1_aae02, Cond.selects RJ0 yJ0_isLatin1_aae02 yJ0_isLatin1_aae02, Cond.code yJ0_isLatin1_aae02 cJ0_isLatin1_aae02 1 (some .boolean), Cond.fieldLink RJ0 38 "java/lang/String" "COMPACT_STRINGS" "Z", Cond.fieldLink RJ0 15 "java/lang/String" "coder" "B", Cond.methodLink RJ0 505 yJ0_length_8abf5, Cond.instanceMethod yJ0_length_8abf5, Cond.selects RJ0 yJ0_length_8abf5 yJ0_length_8abf5, Cond.code yJ0_length_8abf5 cJ0_length_8abf5 1 (some .int), Cond.methodLink RJ0 335 yJ0_coder_7d493, Cond.instanceMethod yJ0_coder_7d493, Cond.selects RJ0 yJ0_coder_7d493 yJ0_coder_7d493, Cond.code yJ0_coder_7d493 cJ0_coder_7d493 1 (some .byte), Cond.methodLink RJ0 637 yJ1_indexOf_4cfef, Cond.static yJ1_indexOf_4cfef, Cond.initialized RJ1, Cond.code yJ1_indexOf_4cfef cJ1_indexOf_4cfef 4 (some .int)]
def wsJ0_indexOf_0f7a4_r2 : List Cond := [Cond.methodLink RJ1 92 Lib.Math.max.name, Cond.static Lib.Math.max.name, Cond.initialized "java/lang/Math", Cond.code Lib.Math.max.name Lib.Math.max.code 2 (some .int), Cond.methodLink RJ1 38 Lib.Math.min.name, Cond.static Lib.Math.min.name, Cond.code Lib.Math.min.name Lib.Math.min.code 2 (some .int), Cond.methodLink RJ1 88 yJ1_canEncode_9a6ad, Cond.static yJ1_canEncode_9a6ad, Cond.code yJ1_canEncode_9a6ad cJ1_canEncode_9a6ad 1 (some .boolean), Cond.methodLink RJ1 95 yJ1_indexOfChar_4cfef, Cond.static yJ1_indexOfChar_4cfef, Cond.code yJ1_indexOfChar_4cfef cJ1_indexOfChar_4cfef 6 (some .int), Cond.methodLink RJ0 640 yJ2_indexOf_4cfef, Cond.static yJ2_indexOf_4cfef, Cond.initialized RJ2, Cond.code yJ2_indexOf_4cfef cJ2_indexOf_4cfef 4 (some .int), Cond.methodLink RJ2 224 Lib.Math.max.name, Cond.methodLink RJ2 183 Lib.Math.min.name, Cond.constant RJ2 227 (65536), Cond.methodLink RJ2 228 yJ2_indexOfChar_4cfef, Cond.static yJ2_indexOfChar_4cfef, Cond.code yJ2_indexOfChar_4cfef cJ2_indexOfChar_4cfef 4 (some .int), Cond.methodLink RJ2 96 yJ2_checkBoundsBeginEnd_d044e]
def wsJ0_indexOf_0f7a4_r3 : List Cond := [Cond.static yJ2_checkBoundsBeginEnd_d044e, Cond.code yJ2_checkBoundsBeginEnd_d044e cJ2_checkBoundsBeginEnd_d044e 3 none, Cond.methodLink RJ2 48 yJ2_length_9d52b, Cond.static yJ2_length_9d52b, Cond.code yJ2_length_9d52b cJ2_length_9d52b 1 (some .int), Cond.methodLink RJ2 241 yJ0_checkBoundsBeginEnd_23922, Cond.static yJ0_checkBoundsBeginEnd_23922, Cond.code yJ0_checkBoundsBeginEnd_23922 cJ0_checkBoundsBeginEnd_23922 3 none, Cond.fieldLink RJ0 1053 "jdk/internal/util/Preconditions" "SIOOBE_FORMATTER" "Ljava/util/function/BiFunction;", Cond.methodLink RJ0 1062 yJ3_checkFromToIndex_8c36e, Cond.static yJ3_checkFromToIndex_8c36e, Cond.initialized RJ3, Cond.code yJ3_checkFromToIndex_8c36e cJ3_checkFromToIndex_8c36e 4 (some .int), Cond.methodLink RJ2 244 yJ2_indexOfCharUnsafe_4cfef, Cond.static yJ2_indexOfCharUnsafe_4cfef, Cond.code yJ2_indexOfCharUnsafe_4cfef cJ2_indexOfCharUnsafe_4cfef 5 (some .int), Cond.methodLink RJ2 71 yJ2_getChar_3b067, Cond.static yJ2_getChar_3b067, Cond.code yJ2_getChar_3b067 cJ2_getChar_3b067 2 (some .char), Cond.fieldLink RJ2 44 "java/lang/StringUTF16" "$assertionsDisabled" "Z", Cond.fieldLink RJ2 59 "java/lang/StringUTF16" "HI_BYTE_SHIFT" "I", Cond.fieldLink RJ2 63 "java/lang/StringUTF16" "LO_BYTE_SHIFT" "I", Cond.methodLink RJ2 232 yJ2_indexOfSupplementary_4cfef, Cond.static yJ2_indexOfSupplementary_4cfef]
def wsJ0_indexOf_0f7a4_r4 : List Cond := [Cond.code yJ2_indexOfSupplementary_4cfef cJ2_indexOfSupplementary_4cfef 7 (some .int), Cond.methodLink RJ2 164 yJ11_isValidCodePoint_9a6ad, Cond.static yJ11_isValidCodePoint_9a6ad, Cond.initialized RJ11, Cond.code yJ11_isValidCodePoint_9a6ad cJ11_isValidCodePoint_9a6ad 2 (some .boolean), Cond.methodLink RJ2 157 yJ11_highSurrogate_5068e, Cond.static yJ11_highSurrogate_5068e, Cond.code yJ11_highSurrogate_5068e cJ11_highSurrogate_5068e 1 (some .char), Cond.constant RJ11 110 (55232), Cond.methodLink RJ2 161 yJ11_lowSurrogate_5068e, Cond.static yJ11_lowSurrogate_5068e, Cond.code yJ11_lowSurrogate_5068e cJ11_lowSurrogate_5068e 1 (some .char), Cond.constant RJ11 76 (56320)]
def wsJ0_indexOf_0f7a4 : List Cond := .code yJ0_indexOf_0f7a4 cJ0_indexOf_0f7a4 2 (some .int) :: ((wsJ0_indexOf_0f7a4_r1 ++ (wsJ0_indexOf_0f7a4_r2 ++ (wsJ0_indexOf_0f7a4_r3 ++ wsJ0_indexOf_0f7a4_r4))))
def wsX6_takesLetter_r1 : List Cond := [Cond.fieldLink RX6 35 "RowsOfTwo$Sentences" "tests" "I", Cond.fieldLink RX6 11 "RowsOfTwo$Sentences" "letters" "[I", Cond.fieldLink RX6 38 "RowsOfTwo$Sentences" "due" "I", Cond.methodLink RX6 66 yJ0_indexOf_0f7a4, Cond.instanceMethod yJ0_indexOf_0f7a4, Cond.selects RJ0 yJ0_indexOf_0f7a4 yJ0_indexOf_0f7a4, Cond.initialized RJ0, Cond.code yJ0_indexOf_0f7a4 cJ0_indexOf_0f7a4 2 (some .int), Cond.methodLink RJ0 633 yJ0_indexOf_7cf53, Cond.instanceMethod yJ0_indexOf_7cf53, Cond.selects RJ0 yJ0_indexOf_7cf53 yJ0_indexOf_7cf53, Cond.code yJ0_indexOf_7cf53 cJ0_indexOf_7cf53 3 (some .int), Cond.fieldLink RJ0 9 "java/lang/String" "value" "[B", Cond.methodLink RJ0 492 yJ0_isLatin1_aae02, Cond.instanceMethod yJ0_isLatin1_aae02, Cond.selects RJ0 yJ0_isLatin1_aae02 yJ0_isLatin1_aae02, Cond.code yJ0_isLatin1_aae02 cJ0_isLatin1_aae02 1 (some .boolean), Cond.fieldLink RJ0 38 "java/lang/String" "COMPACT_STRINGS" "Z", Cond.fieldLink RJ0 15 "java/lang/String" "coder" "B", Cond.methodLink RJ0 505 yJ0_length_8abf5, Cond.instanceMethod yJ0_length_8abf5, Cond.selects RJ0 yJ0_length_8abf5 yJ0_length_8abf5, Cond.code yJ0_length_8abf5 cJ0_length_8abf5 1 (some .int), Cond.methodLink RJ0 335 yJ0_coder_7d493]
def wsX6_takesLetter_r2 : List Cond := [Cond.instanceMethod yJ0_coder_7d493, Cond.selects RJ0 yJ0_coder_7d493 yJ0_coder_7d493, Cond.code yJ0_coder_7d493 cJ0_coder_7d493 1 (some .byte), Cond.methodLink RJ0 637 yJ1_indexOf_4cfef, Cond.static yJ1_indexOf_4cfef, Cond.initialized RJ1, Cond.code yJ1_indexOf_4cfef cJ1_indexOf_4cfef 4 (some .int), Cond.methodLink RJ1 92 Lib.Math.max.name, Cond.static Lib.Math.max.name, Cond.initialized "java/lang/Math", Cond.code Lib.Math.max.name Lib.Math.max.code 2 (some .int), Cond.methodLink RJ1 38 Lib.Math.min.name, Cond.static Lib.Math.min.name, Cond.code Lib.Math.min.name Lib.Math.min.code 2 (some .int), Cond.methodLink RJ1 88 yJ1_canEncode_9a6ad, Cond.static yJ1_canEncode_9a6ad, Cond.code yJ1_canEncode_9a6ad cJ1_canEncode_9a6ad 1 (some .boolean), Cond.methodLink RJ1 95 yJ1_indexOfChar_4cfef, Cond.static yJ1_indexOfChar_4cfef, Cond.code yJ1_indexOfChar_4cfef cJ1_indexOfChar_4cfef 6 (some .int), Cond.methodLink RJ0 640 yJ2_indexOf_4cfef, Cond.static yJ2_indexOf_4cfef, Cond.initialized RJ2, Cond.code yJ2_indexOf_4cfef cJ2_indexOf_4cfef 4 (some .int)]
def wsX6_takesLetter_r3 : List Cond := [Cond.methodLink RJ2 224 Lib.Math.max.name, Cond.methodLink RJ2 183 Lib.Math.min.name, Cond.constant RJ2 227 (65536), Cond.methodLink RJ2 228 yJ2_indexOfChar_4cfef, Cond.static yJ2_indexOfChar_4cfef, Cond.code yJ2_indexOfChar_4cfef cJ2_indexOfChar_4cfef 4 (some .int), Cond.methodLink RJ2 96 yJ2_checkBoundsBeginEnd_d044e, Cond.static yJ2_checkBoundsBeginEnd_d044e, Cond.code yJ2_checkBoundsBeginEnd_d044e cJ2_checkBoundsBeginEnd_d044e 3 none, Cond.methodLink RJ2 48 yJ2_length_9d52b, Cond.static yJ2_length_9d52b, Cond.code yJ2_length_9d52b cJ2_length_9d52b 1 (some .int), Cond.methodLink RJ2 241 yJ0_checkBoundsBeginEnd_23922, Cond.static yJ0_checkBoundsBeginEnd_23922, Cond.code yJ0_checkBoundsBeginEnd_23922 cJ0_checkBoundsBeginEnd_23922 3 none, Cond.fieldLink RJ0 1053 "jdk/internal/util/Preconditions" "SIOOBE_FORMATTER" "Ljava/util/function/BiFunction;", Cond.methodLink RJ0 1062 yJ3_checkFromToIndex_8c36e, Cond.static yJ3_checkFromToIndex_8c36e, Cond.initialized RJ3, Cond.code yJ3_checkFromToIndex_8c36e cJ3_checkFromToIndex_8c36e 4 (some .int), Cond.methodLink RJ2 244 yJ2_indexOfCharUnsafe_4cfef, Cond.static yJ2_indexOfCharUnsafe_4cfef, Cond.code yJ2_indexOfCharUnsafe_4cfef cJ2_indexOfCharUnsafe_4cfef 5 (some .int), Cond.methodLink RJ2 71 yJ2_getChar_3b067]
def wsX6_takesLetter_r4 : List Cond := [Cond.static yJ2_getChar_3b067, Cond.code yJ2_getChar_3b067 cJ2_getChar_3b067 2 (some .char), Cond.fieldLink RJ2 44 "java/lang/StringUTF16" "$assertionsDisabled" "Z", Cond.fieldLink RJ2 59 "java/lang/StringUTF16" "HI_BYTE_SHIFT" "I", Cond.fieldLink RJ2 63 "java/lang/StringUTF16" "LO_BYTE_SHIFT" "I", Cond.methodLink RJ2 232 yJ2_indexOfSupplementary_4cfef, Cond.static yJ2_indexOfSupplementary_4cfef, Cond.code yJ2_indexOfSupplementary_4cfef cJ2_indexOfSupplementary_4cfef 7 (some .int), Cond.methodLink RJ2 164 yJ11_isValidCodePoint_9a6ad, Cond.static yJ11_isValidCodePoint_9a6ad, Cond.initialized RJ11, Cond.code yJ11_isValidCodePoint_9a6ad cJ11_isValidCodePoint_9a6ad 2 (some .boolean), Cond.methodLink RJ2 157 yJ11_highSurrogate_5068e, Cond.static yJ11_highSurrogate_5068e, Cond.code yJ11_highSurrogate_5068e cJ11_highSurrogate_5068e 1 (some .char), Cond.constant RJ11 110 (55232), Cond.methodLink RJ2 161 yJ11_lowSurrogate_5068e, Cond.static yJ11_lowSurrogate_5068e, Cond.code yJ11_lowSurrogate_5068e cJ11_lowSurrogate_5068e 1 (some .char), Cond.constant RJ11 76 (56320)]
def wsX6_takesLetter : List Cond := .code yX6_takesLetter cX6_takesLetter 3 (some .boolean) :: ((wsX6_takesLetter_r1 ++ (wsX6_takesLetter_r2 ++ (wsX6_takesLetter_r3 ++ wsX6_takesLetter_r4))) ++ wsX60)
def wsX6_takesRelation : List Cond := .code yX6_takesRelation cX6_takesRelation 2 (some .boolean) :: ([.fieldLink RX6 35 "RowsOfTwo$Sentences" "tests" "I", .fieldLink RX6 15 "RowsOfTwo$Sentences" "relations" "[I", .fieldLink RX6 38 "RowsOfTwo$Sentences" "due" "I"] ++ wsX60)
def wsX6_takesFigure : List Cond := .code yX6_takesFigure cX6_takesFigure 2 (some .boolean) :: ([.fieldLink RX6 35 "RowsOfTwo$Sentences" "tests" "I", .fieldLink RX6 18 "RowsOfTwo$Sentences" "limits" "[I", .fieldLink RX6 38 "RowsOfTwo$Sentences" "due" "I"] ++ wsX60)
def wsX6_takesSecondFigure : List Cond := .code yX6_takesSecondFigure cX6_takesSecondFigure 2 (some .boolean) :: ([.fieldLink RX6 35 "RowsOfTwo$Sentences" "tests" "I", .fieldLink RX6 18 "RowsOfTwo$Sentences" "limits" "[I", .fieldLink RX6 38 "RowsOfTwo$Sentences" "due" "I"] ++ wsX60)
def wsX6_takesJoint : List Cond := .code yX6_takesJoint cX6_takesJoint 2 (some .boolean) :: ([.fieldLink RX6 35 "RowsOfTwo$Sentences" "tests" "I", .fieldLink RX6 21 "RowsOfTwo$Sentences" "opensAlternative" "[Z", .fieldLink RX6 38 "RowsOfTwo$Sentences" "due" "I"] ++ wsX60)
def wsX6_goesOn_r1 : List Cond := [Cond.fieldLink RX6 38 "RowsOfTwo$Sentences" "due" "I", Cond.methodLink RX6 49 yX6_takesLetter, Cond.instanceMethod yX6_takesLetter, Cond.selects RX6 yX6_takesLetter yX6_takesLetter, Cond.initialized RX6, Cond.code yX6_takesLetter cX6_takesLetter 3 (some .boolean), Cond.fieldLink RX6 35 "RowsOfTwo$Sentences" "tests" "I", Cond.fieldLink RX6 11 "RowsOfTwo$Sentences" "letters" "[I", Cond.methodLink RX6 66 yJ0_indexOf_0f7a4, Cond.instanceMethod yJ0_indexOf_0f7a4, Cond.selects RJ0 yJ0_indexOf_0f7a4 yJ0_indexOf_0f7a4, Cond.initialized RJ0, Cond.code yJ0_indexOf_0f7a4 cJ0_indexOf_0f7a4 2 (some .int), Cond.methodLink RJ0 633 yJ0_indexOf_7cf53, Cond.instanceMethod yJ0_indexOf_7cf53, Cond.selects RJ0 yJ0_indexOf_7cf53 yJ0_indexOf_7cf53, Cond.code yJ0_indexOf_7cf53 cJ0_indexOf_7cf53 3 (some .int), Cond.fieldLink RJ0 9 "java/lang/String" "value" "[B", Cond.methodLink RJ0 492 yJ0_isLatin1_aae02, Cond.instanceMethod yJ0_isLatin1_aae02, Cond.selects RJ0 yJ0_isLatin1_aae02 yJ0_isLatin1_aae02, Cond.code yJ0_isLatin1_aae02 cJ0_isLatin1_aae02 1 (some .boolean), Cond.fieldLink RJ0 38 "java/lang/String" "COMPACT_STRINGS" "Z", Cond.fieldLink RJ0 15 "java/lang/String" "coder" "B"]
def wsX6_goesOn_r2 : List Cond := [Cond.methodLink RJ0 505 yJ0_length_8abf5, Cond.instanceMethod yJ0_length_8abf5, Cond.selects RJ0 yJ0_length_8abf5 yJ0_length_8abf5, Cond.code yJ0_length_8abf5 cJ0_length_8abf5 1 (some .int), Cond.methodLink RJ0 335 yJ0_coder_7d493, Cond.instanceMethod yJ0_coder_7d493, Cond.selects RJ0 yJ0_coder_7d493 yJ0_coder_7d493, Cond.code yJ0_coder_7d493 cJ0_coder_7d493 1 (some .byte), Cond.methodLink RJ0 637 yJ1_indexOf_4cfef, Cond.static yJ1_indexOf_4cfef, Cond.initialized RJ1, Cond.code yJ1_indexOf_4cfef cJ1_indexOf_4cfef 4 (some .int), Cond.methodLink RJ1 92 Lib.Math.max.name, Cond.static Lib.Math.max.name, Cond.initialized "java/lang/Math", Cond.code Lib.Math.max.name Lib.Math.max.code 2 (some .int), Cond.methodLink RJ1 38 Lib.Math.min.name, Cond.static Lib.Math.min.name, Cond.code Lib.Math.min.name Lib.Math.min.code 2 (some .int), Cond.methodLink RJ1 88 yJ1_canEncode_9a6ad, Cond.static yJ1_canEncode_9a6ad, Cond.code yJ1_canEncode_9a6ad cJ1_canEncode_9a6ad 1 (some .boolean), Cond.methodLink RJ1 95 yJ1_indexOfChar_4cfef, Cond.static yJ1_indexOfChar_4cfef]
def wsX6_goesOn_r3 : List Cond := [Cond.code yJ1_indexOfChar_4cfef cJ1_indexOfChar_4cfef 6 (some .int), Cond.methodLink RJ0 640 yJ2_indexOf_4cfef, Cond.static yJ2_indexOf_4cfef, Cond.initialized RJ2, Cond.code yJ2_indexOf_4cfef cJ2_indexOf_4cfef 4 (some .int), Cond.methodLink RJ2 224 Lib.Math.max.name, Cond.methodLink RJ2 183 Lib.Math.min.name, Cond.constant RJ2 227 (65536), Cond.methodLink RJ2 228 yJ2_indexOfChar_4cfef, Cond.static yJ2_indexOfChar_4cfef, Cond.code yJ2_indexOfChar_4cfef cJ2_indexOfChar_4cfef 4 (some .int), Cond.methodLink RJ2 96 yJ2_checkBoundsBeginEnd_d044e, Cond.static yJ2_checkBoundsBeginEnd_d044e, Cond.code yJ2_checkBoundsBeginEnd_d044e cJ2_checkBoundsBeginEnd_d044e 3 none, Cond.methodLink RJ2 48 yJ2_length_9d52b, Cond.static yJ2_length_9d52b, Cond.code yJ2_length_9d52b cJ2_length_9d52b 1 (some .int), Cond.methodLink RJ2 241 yJ0_checkBoundsBeginEnd_23922, Cond.static yJ0_checkBoundsBeginEnd_23922, Cond.code yJ0_checkBoundsBeginEnd_23922 cJ0_checkBoundsBeginEnd_23922 3 none, Cond.fieldLink RJ0 1053 "jdk/internal/util/Preconditions" "SIOOBE_FORMATTER" "Ljava/util/function/BiFunction;", Cond.methodLink RJ0 1062 yJ3_checkFromToIndex_8c36e, Cond.static yJ3_checkFromToIndex_8c36e, Cond.initialized RJ3]
def wsX6_goesOn_r4 : List Cond := [Cond.code yJ3_checkFromToIndex_8c36e cJ3_checkFromToIndex_8c36e 4 (some .int), Cond.methodLink RJ2 244 yJ2_indexOfCharUnsafe_4cfef, Cond.static yJ2_indexOfCharUnsafe_4cfef, Cond.code yJ2_indexOfCharUnsafe_4cfef cJ2_indexOfCharUnsafe_4cfef 5 (some .int), Cond.methodLink RJ2 71 yJ2_getChar_3b067, Cond.static yJ2_getChar_3b067, Cond.code yJ2_getChar_3b067 cJ2_getChar_3b067 2 (some .char), Cond.fieldLink RJ2 44 "java/lang/StringUTF16" "$assertionsDisabled" "Z", Cond.fieldLink RJ2 59 "java/lang/StringUTF16" "HI_BYTE_SHIFT" "I", Cond.fieldLink RJ2 63 "java/lang/StringUTF16" "LO_BYTE_SHIFT" "I", Cond.methodLink RJ2 232 yJ2_indexOfSupplementary_4cfef, Cond.static yJ2_indexOfSupplementary_4cfef, Cond.code yJ2_indexOfSupplementary_4cfef cJ2_indexOfSupplementary_4cfef 7 (some .int), Cond.methodLink RJ2 164 yJ11_isValidCodePoint_9a6ad, Cond.static yJ11_isValidCodePoint_9a6ad, Cond.initialized RJ11, Cond.code yJ11_isValidCodePoint_9a6ad cJ11_isValidCodePoint_9a6ad 2 (some .boolean), Cond.methodLink RJ2 157 yJ11_highSurrogate_5068e, Cond.static yJ11_highSurrogate_5068e, Cond.code yJ11_highSurrogate_5068e cJ11_highSurrogate_5068e 1 (some .char), Cond.constant RJ11 110 (55232), Cond.methodLink RJ2 161 yJ11_lowSurrogate_5068e, Cond.static yJ11_lowSurrogate_5068e, Cond.code yJ11_lowSurrogate_5068e cJ11_lowSurrogate_5068e 1 (some .char)]
def wsX6_goesOn_r5 : List Cond := [Cond.constant RJ11 76 (56320), Cond.methodLink RX6 52 yX6_takesRelation, Cond.instanceMethod yX6_takesRelation, Cond.selects RX6 yX6_takesRelation yX6_takesRelation, Cond.code yX6_takesRelation cX6_takesRelation 2 (some .boolean), Cond.fieldLink RX6 15 "RowsOfTwo$Sentences" "relations" "[I", Cond.methodLink RX6 55 yX6_takesFigure, Cond.instanceMethod yX6_takesFigure, Cond.selects RX6 yX6_takesFigure yX6_takesFigure, Cond.code yX6_takesFigure cX6_takesFigure 2 (some .boolean), Cond.fieldLink RX6 18 "RowsOfTwo$Sentences" "limits" "[I", Cond.methodLink RX6 58 yX6_takesSecondFigure, Cond.instanceMethod yX6_takesSecondFigure, Cond.selects RX6 yX6_takesSecondFigure yX6_takesSecondFigure, Cond.code yX6_takesSecondFigure cX6_takesSecondFigure 2 (some .boolean), Cond.methodLink RX6 61 yX6_takesJoint, Cond.instanceMethod yX6_takesJoint, Cond.selects RX6 yX6_takesJoint yX6_takesJoint, Cond.code yX6_takesJoint cX6_takesJoint 2 (some .boolean), Cond.fieldLink RX6 21 "RowsOfTwo$Sentences" "opensAlternative" "[Z"]
def wsX6_goesOn : List Cond := .code yX6_goesOn cX6_goesOn 2 (some .boolean) :: ((wsX6_goesOn_r1 ++ (wsX6_goesOn_r2 ++ (wsX6_goesOn_r3 ++ (wsX6_goesOn_r4 ++ wsX6_goesOn_r5)))) ++ wsX60)
def wsX6_append_r1 : List Cond := [Cond.fieldLink RX6 28 "RowsOfTwo$Sentences" "stuckAt" "I", Cond.fieldLink RX6 32 "RowsOfTwo$Sentences" "length" "I", Cond.methodLink RX6 41 yX6_goesOn, Cond.instanceMethod yX6_goesOn, Cond.selects RX6 yX6_goesOn yX6_goesOn, Cond.initialized RX6, Cond.code yX6_goesOn cX6_goesOn 2 (some .boolean), Cond.fieldLink RX6 38 "RowsOfTwo$Sentences" "due" "I", Cond.methodLink RX6 49 yX6_takesLetter, Cond.instanceMethod yX6_takesLetter, Cond.selects RX6 yX6_takesLetter yX6_takesLetter, Cond.code yX6_takesLetter cX6_takesLetter 3 (some .boolean), Cond.fieldLink RX6 35 "RowsOfTwo$Sentences" "tests" "I", Cond.fieldLink RX6 11 "RowsOfTwo$Sentences" "letters" "[I", Cond.methodLink RX6 66 yJ0_indexOf_0f7a4, Cond.instanceMethod yJ0_indexOf_0f7a4, Cond.selects RJ0 yJ0_indexOf_0f7a4 yJ0_indexOf_0f7a4, Cond.initialized RJ0, Cond.code yJ0_indexOf_0f7a4 cJ0_indexOf_0f7a4 2 (some .int), Cond.methodLink RJ0 633 yJ0_indexOf_7cf53, Cond.instanceMethod yJ0_indexOf_7cf53, Cond.selects RJ0 yJ0_indexOf_7cf53 yJ0_indexOf_7cf53, Cond.code yJ0_indexOf_7cf53 cJ0_indexOf_7cf53 3 (some .int), Cond.fieldLink RJ0 9 "java/lang/String" "value" "[B"]
def wsX6_append_r2 : List Cond := [Cond.methodLink RJ0 492 yJ0_isLatin1_aae02, Cond.instanceMethod yJ0_isLatin1_aae02, Cond.selects RJ0 yJ0_isLatin1_aae02 yJ0_isLatin1_aae02, Cond.code yJ0_isLatin1_aae02 cJ0_isLatin1_aae02 1 (some .boolean), Cond.fieldLink RJ0 38 "java/lang/String" "COMPACT_STRINGS" "Z", Cond.fieldLink RJ0 15 "java/lang/String" "coder" "B", Cond.methodLink RJ0 505 yJ0_length_8abf5, Cond.instanceMethod yJ0_length_8abf5, Cond.selects RJ0 yJ0_length_8abf5 yJ0_length_8abf5, Cond.code yJ0_length_8abf5 cJ0_length_8abf5 1 (some .int), Cond.methodLink RJ0 335 yJ0_coder_7d493, Cond.instanceMethod yJ0_coder_7d493, Cond.selects RJ0 yJ0_coder_7d493 yJ0_coder_7d493, Cond.code yJ0_coder_7d493 cJ0_coder_7d493 1 (some .byte), Cond.methodLink RJ0 637 yJ1_indexOf_4cfef, Cond.static yJ1_indexOf_4cfef, Cond.initialized RJ1, Cond.code yJ1_indexOf_4cfef cJ1_indexOf_4cfef 4 (some .int), Cond.methodLink RJ1 92 Lib.Math.max.name, Cond.static Lib.Math.max.name, Cond.initialized "java/lang/Math", Cond.code Lib.Math.max.name Lib.Math.max.code 2 (some .int), Cond.methodLink RJ1 38 Lib.Math.min.name, Cond.static Lib.Math.min.name]
def wsX6_append_r3 : List Cond := [Cond.code Lib.Math.min.name Lib.Math.min.code 2 (some .int), Cond.methodLink RJ1 88 yJ1_canEncode_9a6ad, Cond.static yJ1_canEncode_9a6ad, Cond.code yJ1_canEncode_9a6ad cJ1_canEncode_9a6ad 1 (some .boolean), Cond.methodLink RJ1 95 yJ1_indexOfChar_4cfef, Cond.static yJ1_indexOfChar_4cfef, Cond.code yJ1_indexOfChar_4cfef cJ1_indexOfChar_4cfef 6 (some .int), Cond.methodLink RJ0 640 yJ2_indexOf_4cfef, Cond.static yJ2_indexOf_4cfef, Cond.initialized RJ2, Cond.code yJ2_indexOf_4cfef cJ2_indexOf_4cfef 4 (some .int), Cond.methodLink RJ2 224 Lib.Math.max.name, Cond.methodLink RJ2 183 Lib.Math.min.name, Cond.constant RJ2 227 (65536), Cond.methodLink RJ2 228 yJ2_indexOfChar_4cfef, Cond.static yJ2_indexOfChar_4cfef, Cond.code yJ2_indexOfChar_4cfef cJ2_indexOfChar_4cfef 4 (some .int), Cond.methodLink RJ2 96 yJ2_checkBoundsBeginEnd_d044e, Cond.static yJ2_checkBoundsBeginEnd_d044e, Cond.code yJ2_checkBoundsBeginEnd_d044e cJ2_checkBoundsBeginEnd_d044e 3 none, Cond.methodLink RJ2 48 yJ2_length_9d52b, Cond.static yJ2_length_9d52b, Cond.code yJ2_length_9d52b cJ2_length_9d52b 1 (some .int), Cond.methodLink RJ2 241 yJ0_checkBoundsBeginEnd_23922]
def wsX6_append_r4 : List Cond := [Cond.static yJ0_checkBoundsBeginEnd_23922, Cond.code yJ0_checkBoundsBeginEnd_23922 cJ0_checkBoundsBeginEnd_23922 3 none, Cond.fieldLink RJ0 1053 "jdk/internal/util/Preconditions" "SIOOBE_FORMATTER" "Ljava/util/function/BiFunction;", Cond.methodLink RJ0 1062 yJ3_checkFromToIndex_8c36e, Cond.static yJ3_checkFromToIndex_8c36e, Cond.initialized RJ3, Cond.code yJ3_checkFromToIndex_8c36e cJ3_checkFromToIndex_8c36e 4 (some .int), Cond.methodLink RJ2 244 yJ2_indexOfCharUnsafe_4cfef, Cond.static yJ2_indexOfCharUnsafe_4cfef, Cond.code yJ2_indexOfCharUnsafe_4cfef cJ2_indexOfCharUnsafe_4cfef 5 (some .int), Cond.methodLink RJ2 71 yJ2_getChar_3b067, Cond.static yJ2_getChar_3b067, Cond.code yJ2_getChar_3b067 cJ2_getChar_3b067 2 (some .char), Cond.fieldLink RJ2 44 "java/lang/StringUTF16" "$assertionsDisabled" "Z", Cond.fieldLink RJ2 59 "java/lang/StringUTF16" "HI_BYTE_SHIFT" "I", Cond.fieldLink RJ2 63 "java/lang/StringUTF16" "LO_BYTE_SHIFT" "I", Cond.methodLink RJ2 232 yJ2_indexOfSupplementary_4cfef, Cond.static yJ2_indexOfSupplementary_4cfef, Cond.code yJ2_indexOfSupplementary_4cfef cJ2_indexOfSupplementary_4cfef 7 (some .int), Cond.methodLink RJ2 164 yJ11_isValidCodePoint_9a6ad, Cond.static yJ11_isValidCodePoint_9a6ad, Cond.initialized RJ11, Cond.code yJ11_isValidCodePoint_9a6ad cJ11_isValidCodePoint_9a6ad 2 (some .boolean), Cond.methodLink RJ2 157 yJ11_highSurrogate_5068e]
def wsX6_append_r5 : List Cond := [Cond.static yJ11_highSurrogate_5068e, Cond.code yJ11_highSurrogate_5068e cJ11_highSurrogate_5068e 1 (some .char), Cond.constant RJ11 110 (55232), Cond.methodLink RJ2 161 yJ11_lowSurrogate_5068e, Cond.static yJ11_lowSurrogate_5068e, Cond.code yJ11_lowSurrogate_5068e cJ11_lowSurrogate_5068e 1 (some .char), Cond.constant RJ11 76 (56320), Cond.methodLink RX6 52 yX6_takesRelation, Cond.instanceMethod yX6_takesRelation, Cond.selects RX6 yX6_takesRelation yX6_takesRelation, Cond.code yX6_takesRelation cX6_takesRelation 2 (some .boolean), Cond.fieldLink RX6 15 "RowsOfTwo$Sentences" "relations" "[I", Cond.methodLink RX6 55 yX6_takesFigure, Cond.instanceMethod yX6_takesFigure, Cond.selects RX6 yX6_takesFigure yX6_takesFigure, Cond.code yX6_takesFigure cX6_takesFigure 2 (some .boolean), Cond.fieldLink RX6 18 "RowsOfTwo$Sentences" "limits" "[I", Cond.methodLink RX6 58 yX6_takesSecondFigure, Cond.instanceMethod yX6_takesSecondFigure, Cond.selects RX6 yX6_takesSecondFigure yX6_takesSecondFigure, Cond.code yX6_takesSecondFigure cX6_takesSecondFigure 2 (some .boolean), Cond.methodLink RX6 61 yX6_takesJoint, Cond.instanceMethod yX6_takesJoint, Cond.selects RX6 yX6_takesJoint yX6_takesJoint]
def wsX6_append_r6 : List Cond := [Cond.code yX6_takesJoint cX6_takesJoint 2 (some .boolean), Cond.fieldLink RX6 21 "RowsOfTwo$Sentences" "opensAlternative" "[Z"]
def wsX6_append : List Cond := .code yX6_append cX6_append 2 none :: ((wsX6_append_r1 ++ (wsX6_append_r2 ++ (wsX6_append_r3 ++ (wsX6_append_r4 ++ (wsX6_append_r5 ++ wsX6_append_r6))))) ++ wsX60)
def wsX6_faultPlace : List Cond := .code yX6_faultPlace cX6_faultPlace 1 (some .int) :: ([.fieldLink RX6 28 "RowsOfTwo$Sentences" "stuckAt" "I", .fieldLink RX6 38 "RowsOfTwo$Sentences" "due" "I", .fieldLink RX6 32 "RowsOfTwo$Sentences" "length" "I"] ++ wsX60)
def wsX6_isFaulty : List Cond := .code yX6_isFaulty cX6_isFaulty 1 (some .boolean) :: ([.methodLink RX6 45 yX6_faultPlace, .instanceMethod yX6_faultPlace, .selects RX6 yX6_faultPlace yX6_faultPlace, .initialized RX6, .code yX6_faultPlace cX6_faultPlace 1 (some .int), .fieldLink RX6 28 "RowsOfTwo$Sentences" "stuckAt" "I", .fieldLink RX6 38 "RowsOfTwo$Sentences" "due" "I", .fieldLink RX6 32 "RowsOfTwo$Sentences" "length" "I"] ++ wsX60)
def wsX7_init : List Cond := .code yX7_init cX7_init 1 none :: ([.methodLink RX7 3 objectInit, .instanceMethod objectInit, .code objectInit ⟨#[0xb1]⟩ 1 none, .arrayClass .int, .fieldLink RX7 9 "RowsOfTwo$Sheet" "items" "[I", .fieldLink RX7 15 "RowsOfTwo$Sheet" "lost" "Z"] ++ wsX70)
def wsX7_renew : List Cond := .code yX7_renew cX7_renew 4 none :: ([.fieldLink RX7 9 "RowsOfTwo$Sheet" "items" "[I", .fieldLink RX7 15 "RowsOfTwo$Sheet" "lost" "Z", .fieldLink RX7 19 "RowsOfTwo$Sheet" "kind" "I", .fieldLink RX7 23 "RowsOfTwo$Sheet" "size" "I"] ++ wsX70)
def wsX7_store : List Cond := .code yX7_store cX7_store 3 none :: ([.fieldLink RX7 19 "RowsOfTwo$Sheet" "kind" "I", .fieldLink RX7 9 "RowsOfTwo$Sheet" "items" "[I"] ++ wsX70)
def wsX7_hasSpan : List Cond := .code yX7_hasSpan cX7_hasSpan 3 (some .boolean) :: ([.fieldLink RX7 23 "RowsOfTwo$Sheet" "size" "I"] ++ wsX70)
def wsX8_init : List Cond := .code yX8_init cX8_init 1 none :: ([.methodLink RX8 3 objectInit, .instanceMethod objectInit, .code objectInit ⟨#[0xb1]⟩ 1 none, .classLink RX8 9 "[[I", .arrayClass .int, .fieldLink RX8 11 "RowsOfTwo$Shown" "tallies" "[[I", .arrayClass .boolean, .fieldLink RX8 16 "RowsOfTwo$Shown" "known" "[Z"] ++ wsX80)
def wsX8_forget : List Cond := .code yX8_forget cX8_forget 2 none :: ([.fieldLink RX8 16 "RowsOfTwo$Shown" "known" "[Z"] ++ wsX80)
def wsX8_learn_r1 : List Cond := [Cond.fieldLink RX8 16 "RowsOfTwo$Shown" "known" "[Z", Cond.fieldLink RX8 11 "RowsOfTwo$Shown" "tallies" "[[I", Cond.methodLink RX8 20 yX6_hold, Cond.instanceMethod yX6_hold, Cond.selects RX6 yX6_hold yX6_hold, Cond.initialized RX6, Cond.code yX6_hold cX6_hold 8 (some .boolean), Cond.fieldLink RX6 35 "RowsOfTwo$Sentences" "tests" "I", Cond.fieldLink RX6 21 "RowsOfTwo$Sentences" "opensAlternative" "[Z", Cond.fieldLink RX6 11 "RowsOfTwo$Sentences" "letters" "[I", Cond.fieldLink RX6 25 "RowsOfTwo$Sentences" "measured" "[I", Cond.methodLink RX6 72 yX3_measure, Cond.static yX3_measure, Cond.initialized RX3, Cond.code yX3_measure cX3_measure 4 (some .int), Cond.methodLink RX3 24 Lib.Math.max.name, Cond.static Lib.Math.max.name, Cond.initialized "java/lang/Math", Cond.code Lib.Math.max.name Lib.Math.max.code 2 (some .int), Cond.methodLink RX3 9 yJ6_bitCount_0f7a4, Cond.static yJ6_bitCount_0f7a4, Cond.initialized RJ6, Cond.code yJ6_bitCount_0f7a4 cJ6_bitCount_0f7a4 1 (some .int), Cond.constant RJ6 265 (1431655765)]
def wsX8_learn_r2 : List Cond := [Cond.constant RJ6 266 (858993459), Cond.constant RJ6 267 (252645135), Cond.methodLink RX3 15 yX3_runs, Cond.static yX3_runs, Cond.code yX3_runs cX3_runs 3 (some .int), Cond.methodLink RX3 21 yX3_longestRun, Cond.static yX3_longestRun, Cond.code yX3_longestRun cX3_longestRun 3 (some .int), Cond.methodLink RX3 29 yX3_firstHit, Cond.static yX3_firstHit, Cond.code yX3_firstHit cX3_firstHit 3 (some .int), Cond.methodLink RX3 32 yX4_timesIn, Cond.static yX4_timesIn, Cond.initialized RX4, Cond.code yX4_timesIn cX4_timesIn 7 (some .int), Cond.methodLink RX4 11 yX4_lengthOf, Cond.static yX4_lengthOf, Cond.code yX4_lengthOf cX4_lengthOf 2 (some .int), Cond.methodLink RX4 15 yJ6_bitCount_0f7a4, Cond.methodLink RX6 78 yX6_isDone, Cond.instanceMethod yX6_isDone, Cond.selects RX6 yX6_isDone yX6_isDone, Cond.code yX6_isDone cX6_isDone 3 (some .boolean), Cond.fieldLink RX6 15 "RowsOfTwo$Sentences" "relations" "[I"]
def wsX8_learn_r3 : List Cond := [Cond.fieldLink RX6 18 "RowsOfTwo$Sentences" "limits" "[I", Cond.methodLink RX8 26 yJ6_bitCount_0f7a4]
def wsX8_learn : List Cond := .code yX8_learn cX8_learn 6 none :: ((wsX8_learn_r1 ++ (wsX8_learn_r2 ++ wsX8_learn_r3)) ++ wsX80 ++ wsX60)
def wsX9_sum : List Cond := .code yX9_sum cX9_sum 6 (some .int) :: ([])
def wsX9_sharePart : List Cond := .code yX9_sharePart cX9_sharePart 9 (some .long) :: ([.constantLong RX9 15 (16), .methodLink RX9 9 yX1_power, .static yX1_power, .initialized RX1, .code yX1_power cX1_power 6 (some .long), .methodLink RX9 17 yX1_part, .static yX1_part, .code yX1_part cX1_part 7 (some .long), .methodLink RX1 7 yX1_commonDivisor, .static yX1_commonDivisor, .code yX1_commonDivisor cX1_commonDivisor 11 (some .long)])
def wsX10_init_r1 : List Cond := [Cond.methodLink RX10 1 objectInit, Cond.instanceMethod objectInit, Cond.code objectInit ⟨#[0xb1]⟩ 1 none, Cond.classLink RX10 9 RX5, Cond.fieldLink RX10 11 "RowsOfTwo" "rows" "[LRowsOfTwo$Row;", Cond.instantiable RX5 3, Cond.initialized RX5, Cond.classLink RX10 16 RX7, Cond.fieldLink RX10 18 "RowsOfTwo" "sheets" "[LRowsOfTwo$Sheet;", Cond.instantiable RX7 4, Cond.initialized RX7, Cond.classLink RX10 23 RX6, Cond.instantiable RX6 9, Cond.initialized RX6, Cond.fieldLink RX10 26 "RowsOfTwo" "sentences" "LRowsOfTwo$Sentences;", Cond.classLink RX10 30 RX8, Cond.instantiable RX8 2, Cond.initialized RX8, Cond.fieldLink RX10 33 "RowsOfTwo" "shownRows" "LRowsOfTwo$Shown;", Cond.classLink RX10 37 RX0, Cond.instantiable RX0 3, Cond.initialized RX0, Cond.fieldLink RX10 40 "RowsOfTwo" "heldFills" "LRowsOfTwo$Fills;", Cond.fieldLink RX10 44 "RowsOfTwo" "odds" "I"]
def wsX10_init_r2 : List Cond := [Cond.fieldLink RX10 48 "RowsOfTwo" "pattern" "I", Cond.fieldLink RX10 51 "RowsOfTwo" "finding" "I", Cond.instanceMethod yX5_init, Cond.code yX5_init cX5_init 1 none, Cond.methodLink RX5 3 objectInit, Cond.methodLink RX10 22 yX7_init, Cond.instanceMethod yX7_init, Cond.code yX7_init cX7_init 1 none, Cond.methodLink RX7 3 objectInit, Cond.arrayClass .int, Cond.fieldLink RX7 9 "RowsOfTwo$Sheet" "items" "[I", Cond.fieldLink RX7 15 "RowsOfTwo$Sheet" "lost" "Z", Cond.methodLink RX10 25 yX6_init, Cond.instanceMethod yX6_init, Cond.code yX6_init cX6_init 1 none, Cond.methodLink RX6 3 objectInit, Cond.fieldLink RX6 11 "RowsOfTwo$Sentences" "letters" "[I", Cond.fieldLink RX6 15 "RowsOfTwo$Sentences" "relations" "[I", Cond.fieldLink RX6 18 "RowsOfTwo$Sentences" "limits" "[I", Cond.arrayClass .boolean, Cond.fieldLink RX6 21 "RowsOfTwo$Sentences" "opensAlternative" "[Z", Cond.fieldLink RX6 25 "RowsOfTwo$Sentences" "measured" "[I", Cond.fieldLink RX6 28 "RowsOfTwo$Sentences" "stuckAt" "I", Cond.methodLink RX10 32 yX8_init]
def wsX10_init_r3 : List Cond := [Cond.instanceMethod yX8_init, Cond.code yX8_init cX8_init 1 none, Cond.methodLink RX8 3 objectInit, Cond.classLink RX8 9 "[[I", Cond.fieldLink RX8 11 "RowsOfTwo$Shown" "tallies" "[[I", Cond.fieldLink RX8 16 "RowsOfTwo$Shown" "known" "[Z", Cond.methodLink RX10 39 yX0_init, Cond.instanceMethod yX0_init, Cond.code yX0_init cX0_init 1 none, Cond.methodLink RX0 3 objectInit, Cond.fieldLink RX0 9 "RowsOfTwo$Fills" "tally" "[I"]
def wsX10_init : List Cond := .code yX10_init cX10_init 2 none :: ((wsX10_init_r1 ++ (wsX10_init_r2 ++ wsX10_init_r3)) ++ wsX100 ++ wsX50 ++ wsX70 ++ wsX60 ++ wsX80 ++ wsX00)
def wsX10_isRow : List Cond := .code yX10_isRow cX10_isRow 1 (some .boolean) :: ([])
def wsX10_sign : List Cond := .code yX10_sign cX10_sign 4 (some .int) :: ([.fieldLink RX10 11 "RowsOfTwo" "rows" "[LRowsOfTwo$Row;", .fieldLink RX10 69 "RowsOfTwo$Row" "length" "I", .methodLink RX10 54 yX10_isRow, .static yX10_isRow, .initialized RX10, .code yX10_isRow cX10_isRow 1 (some .boolean), .methodLink RX10 58 yX5_maySee, .static yX5_maySee, .initialized RX5, .code yX5_maySee cX5_maySee 1 (some .boolean), .methodLink RX10 61 yX5_isFull, .instanceMethod yX5_isFull, .selects RX5 yX5_isFull yX5_isFull, .code yX5_isFull cX5_isFull 1 (some .boolean), .fieldLink RX5 9 "RowsOfTwo$Row" "length" "I", .methodLink RX10 65 yX5_append, .instanceMethod yX5_append, .selects RX5 yX5_append yX5_append, .code yX5_append cX5_append 2 none, .fieldLink RX5 18 "RowsOfTwo$Row" "hits" "I", .fieldLink RX5 15 "RowsOfTwo$Row" "unseen" "I"] ++ wsX100 ++ wsX50)
def wsX10_isSheet : List Cond := .code yX10_isSheet cX10_isSheet 1 (some .boolean) :: ([])
def wsX10_found : List Cond := .code yX10_found cX10_found 2 (some .int) :: ([.fieldLink RX10 51 "RowsOfTwo" "finding" "I"] ++ wsX100)
def wsX10_read_r1 : List Cond := [Cond.fieldLink RX10 18 "RowsOfTwo" "sheets" "[LRowsOfTwo$Sheet;", Cond.fieldLink RX10 75 "RowsOfTwo$Sheet" "lost" "Z", Cond.fieldLink RX10 11 "RowsOfTwo" "rows" "[LRowsOfTwo$Row;", Cond.fieldLink RX10 83 "RowsOfTwo$Sheet" "size" "I", Cond.fieldLink RX10 86 "RowsOfTwo$Sheet" "items" "[I", Cond.methodLink RX10 72 yX10_isSheet, Cond.static yX10_isSheet, Cond.initialized RX10, Cond.code yX10_isSheet cX10_isSheet 1 (some .boolean), Cond.methodLink RX10 54 yX10_isRow, Cond.static yX10_isRow, Cond.code yX10_isRow cX10_isRow 1 (some .boolean), Cond.methodLink RX10 79 yX10_found, Cond.instanceMethod yX10_found, Cond.selects RX10 yX10_found yX10_found, Cond.code yX10_found cX10_found 2 (some .int), Cond.fieldLink RX10 51 "RowsOfTwo" "finding" "I", Cond.methodLink RX10 61 yX5_isFull, Cond.instanceMethod yX5_isFull, Cond.selects RX5 yX5_isFull yX5_isFull, Cond.initialized RX5, Cond.code yX5_isFull cX5_isFull 1 (some .boolean), Cond.fieldLink RX5 9 "RowsOfTwo$Row" "length" "I", Cond.methodLink RX10 58 yX5_maySee]
def wsX10_read_r2 : List Cond := [Cond.static yX5_maySee, Cond.code yX5_maySee cX5_maySee 1 (some .boolean), Cond.methodLink RX10 65 yX5_append, Cond.instanceMethod yX5_append, Cond.selects RX5 yX5_append yX5_append, Cond.code yX5_append cX5_append 2 none, Cond.fieldLink RX5 18 "RowsOfTwo$Row" "hits" "I", Cond.fieldLink RX5 15 "RowsOfTwo$Row" "unseen" "I"]
def wsX10_read : List Cond := .code yX10_read cX10_read 6 (some .int) :: ((wsX10_read_r1 ++ wsX10_read_r2) ++ wsX100 ++ wsX70 ++ wsX50)
def wsX10_clear : List Cond := .code yX10_clear cX10_clear 3 (some .int) :: ([.fieldLink RX10 11 "RowsOfTwo" "rows" "[LRowsOfTwo$Row;", .fieldLink RX10 69 "RowsOfTwo$Row" "length" "I", .methodLink RX10 54 yX10_isRow, .static yX10_isRow, .initialized RX10, .code yX10_isRow cX10_isRow 1 (some .boolean), .methodLink RX10 90 yX5_empty, .instanceMethod yX5_empty, .selects RX5 yX5_empty yX5_empty, .initialized RX5, .code yX5_empty cX5_empty 1 none, .fieldLink RX5 9 "RowsOfTwo$Row" "length" "I", .fieldLink RX5 18 "RowsOfTwo$Row" "hits" "I", .fieldLink RX5 15 "RowsOfTwo$Row" "unseen" "I"] ++ wsX100 ++ wsX50)
def wsX10_at : List Cond := .code yX10_at cX10_at 3 (some .int) :: ([.fieldLink RX10 11 "RowsOfTwo" "rows" "[LRowsOfTwo$Row;", .fieldLink RX10 69 "RowsOfTwo$Row" "length" "I", .methodLink RX10 54 yX10_isRow, .static yX10_isRow, .initialized RX10, .code yX10_isRow cX10_isRow 1 (some .boolean), .methodLink RX10 93 yX5_signAt, .instanceMethod yX5_signAt, .selects RX5 yX5_signAt yX5_signAt, .initialized RX5, .code yX5_signAt cX5_signAt 3 (some .int), .fieldLink RX5 9 "RowsOfTwo$Row" "length" "I", .fieldLink RX5 15 "RowsOfTwo$Row" "unseen" "I", .fieldLink RX5 18 "RowsOfTwo$Row" "hits" "I"] ++ wsX100 ++ wsX50)
def wsX10_set : List Cond := .code yX10_set cX10_set 4 (some .int) :: ([.fieldLink RX10 44 "RowsOfTwo" "odds" "I", .fieldLink RX10 48 "RowsOfTwo" "pattern" "I", .fieldLink RX10 33 "RowsOfTwo" "shownRows" "LRowsOfTwo$Shown;", .methodLink RX10 96 yX8_forget, .instanceMethod yX8_forget, .selects RX8 yX8_forget yX8_forget, .initialized RX8, .code yX8_forget cX8_forget 2 none, .fieldLink RX8 16 "RowsOfTwo$Shown" "known" "[Z"] ++ wsX100 ++ wsX80)
def wsX10_isNumber : List Cond := .code yX10_isNumber cX10_isNumber 1 (some .boolean) :: ([])
def wsX10_numberOf_r1 : List Cond := [Cond.fieldLink RX10 69 "RowsOfTwo$Row" "length" "I", Cond.fieldLink RX10 119 "RowsOfTwo$Row" "hits" "I", Cond.fieldLink RX10 48 "RowsOfTwo" "pattern" "I", Cond.methodLink RX10 297 yX3_measure, Cond.static yX3_measure, Cond.initialized RX3, Cond.code yX3_measure cX3_measure 4 (some .int), Cond.methodLink RX3 24 Lib.Math.max.name, Cond.static Lib.Math.max.name, Cond.initialized "java/lang/Math", Cond.code Lib.Math.max.name Lib.Math.max.code 2 (some .int), Cond.methodLink RX3 9 yJ6_bitCount_0f7a4, Cond.static yJ6_bitCount_0f7a4, Cond.initialized RJ6, Cond.code yJ6_bitCount_0f7a4 cJ6_bitCount_0f7a4 1 (some .int), Cond.constant RJ6 265 (1431655765), Cond.constant RJ6 266 (858993459), Cond.constant RJ6 267 (252645135), Cond.methodLink RX3 15 yX3_runs, Cond.static yX3_runs, Cond.code yX3_runs cX3_runs 3 (some .int), Cond.methodLink RX3 21 yX3_longestRun, Cond.static yX3_longestRun, Cond.code yX3_longestRun cX3_longestRun 3 (some .int)]
def wsX10_numberOf_r2 : List Cond := [Cond.methodLink RX3 29 yX3_firstHit, Cond.static yX3_firstHit, Cond.code yX3_firstHit cX3_firstHit 3 (some .int), Cond.methodLink RX3 32 yX4_timesIn, Cond.static yX4_timesIn, Cond.initialized RX4, Cond.code yX4_timesIn cX4_timesIn 7 (some .int), Cond.methodLink RX4 11 yX4_lengthOf, Cond.static yX4_lengthOf, Cond.code yX4_lengthOf cX4_lengthOf 2 (some .int), Cond.methodLink RX4 15 yJ6_bitCount_0f7a4]
def wsX10_numberOf : List Cond := .code yX10_numberOf cX10_numberOf 3 (some .int) :: ((wsX10_numberOf_r1 ++ wsX10_numberOf_r2) ++ wsX50 ++ wsX100)
def wsX10_shows_r1 : List Cond := [Cond.fieldLink RX10 11 "RowsOfTwo" "rows" "[LRowsOfTwo$Row;", Cond.methodLink RX10 54 yX10_isRow, Cond.static yX10_isRow, Cond.initialized RX10, Cond.code yX10_isRow cX10_isRow 1 (some .boolean), Cond.methodLink RX10 99 yX10_isNumber, Cond.static yX10_isNumber, Cond.code yX10_isNumber cX10_isNumber 1 (some .boolean), Cond.methodLink RX10 102 yX5_isWhole, Cond.instanceMethod yX5_isWhole, Cond.selects RX5 yX5_isWhole yX5_isWhole, Cond.initialized RX5, Cond.code yX5_isWhole cX5_isWhole 1 (some .boolean), Cond.fieldLink RX5 15 "RowsOfTwo$Row" "unseen" "I", Cond.methodLink RX10 105 yX10_numberOf, Cond.instanceMethod yX10_numberOf, Cond.selects RX10 yX10_numberOf yX10_numberOf, Cond.code yX10_numberOf cX10_numberOf 3 (some .int), Cond.fieldLink RX10 69 "RowsOfTwo$Row" "length" "I", Cond.fieldLink RX10 119 "RowsOfTwo$Row" "hits" "I", Cond.fieldLink RX10 48 "RowsOfTwo" "pattern" "I", Cond.methodLink RX10 297 yX3_measure, Cond.static yX3_measure, Cond.initialized RX3]
def wsX10_shows_r2 : List Cond := [Cond.code yX3_measure cX3_measure 4 (some .int), Cond.methodLink RX3 24 Lib.Math.max.name, Cond.static Lib.Math.max.name, Cond.initialized "java/lang/Math", Cond.code Lib.Math.max.name Lib.Math.max.code 2 (some .int), Cond.methodLink RX3 9 yJ6_bitCount_0f7a4, Cond.static yJ6_bitCount_0f7a4, Cond.initialized RJ6, Cond.code yJ6_bitCount_0f7a4 cJ6_bitCount_0f7a4 1 (some .int), Cond.constant RJ6 265 (1431655765), Cond.constant RJ6 266 (858993459), Cond.constant RJ6 267 (252645135), Cond.methodLink RX3 15 yX3_runs, Cond.static yX3_runs, Cond.code yX3_runs cX3_runs 3 (some .int), Cond.methodLink RX3 21 yX3_longestRun, Cond.static yX3_longestRun, Cond.code yX3_longestRun cX3_longestRun 3 (some .int), Cond.methodLink RX3 29 yX3_firstHit, Cond.static yX3_firstHit, Cond.code yX3_firstHit cX3_firstHit 3 (some .int), Cond.methodLink RX3 32 yX4_timesIn, Cond.static yX4_timesIn, Cond.initialized RX4]
def wsX10_shows_r3 : List Cond := [Cond.code yX4_timesIn cX4_timesIn 7 (some .int), Cond.methodLink RX4 11 yX4_lengthOf, Cond.static yX4_lengthOf, Cond.code yX4_lengthOf cX4_lengthOf 2 (some .int), Cond.methodLink RX4 15 yJ6_bitCount_0f7a4]
def wsX10_shows : List Cond := .code yX10_shows cX10_shows 3 (some .int) :: ((wsX10_shows_r1 ++ (wsX10_shows_r2 ++ wsX10_shows_r3)) ++ wsX100 ++ wsX50)
def wsX10_type_r1 : List Cond := [Cond.fieldLink RX10 26 "RowsOfTwo" "sentences" "LRowsOfTwo$Sentences;", Cond.fieldLink RX10 109 "RowsOfTwo$Sentences" "length" "I", Cond.fieldLink RX10 33 "RowsOfTwo" "shownRows" "LRowsOfTwo$Shown;", Cond.methodLink RX10 110 yX6_append, Cond.instanceMethod yX6_append, Cond.selects RX6 yX6_append yX6_append, Cond.initialized RX6, Cond.code yX6_append cX6_append 2 none, Cond.fieldLink RX6 28 "RowsOfTwo$Sentences" "stuckAt" "I", Cond.fieldLink RX6 32 "RowsOfTwo$Sentences" "length" "I", Cond.methodLink RX6 41 yX6_goesOn, Cond.instanceMethod yX6_goesOn, Cond.selects RX6 yX6_goesOn yX6_goesOn, Cond.code yX6_goesOn cX6_goesOn 2 (some .boolean), Cond.fieldLink RX6 38 "RowsOfTwo$Sentences" "due" "I", Cond.methodLink RX6 49 yX6_takesLetter, Cond.instanceMethod yX6_takesLetter, Cond.selects RX6 yX6_takesLetter yX6_takesLetter, Cond.code yX6_takesLetter cX6_takesLetter 3 (some .boolean), Cond.fieldLink RX6 35 "RowsOfTwo$Sentences" "tests" "I", Cond.fieldLink RX6 11 "RowsOfTwo$Sentences" "letters" "[I", Cond.methodLink RX6 66 yJ0_indexOf_0f7a4, Cond.instanceMethod yJ0_indexOf_0f7a4, Cond.selects RJ0 yJ0_indexOf_0f7a4 yJ0_indexOf_0f7a4]
def wsX10_type_r2 : List Cond := [Cond.initialized RJ0, Cond.code yJ0_indexOf_0f7a4 cJ0_indexOf_0f7a4 2 (some .int), Cond.methodLink RJ0 633 yJ0_indexOf_7cf53, Cond.instanceMethod yJ0_indexOf_7cf53, Cond.selects RJ0 yJ0_indexOf_7cf53 yJ0_indexOf_7cf53, Cond.code yJ0_indexOf_7cf53 cJ0_indexOf_7cf53 3 (some .int), Cond.fieldLink RJ0 9 "java/lang/String" "value" "[B", Cond.methodLink RJ0 492 yJ0_isLatin1_aae02, Cond.instanceMethod yJ0_isLatin1_aae02, Cond.selects RJ0 yJ0_isLatin1_aae02 yJ0_isLatin1_aae02, Cond.code yJ0_isLatin1_aae02 cJ0_isLatin1_aae02 1 (some .boolean), Cond.fieldLink RJ0 38 "java/lang/String" "COMPACT_STRINGS" "Z", Cond.fieldLink RJ0 15 "java/lang/String" "coder" "B", Cond.methodLink RJ0 505 yJ0_length_8abf5, Cond.instanceMethod yJ0_length_8abf5, Cond.selects RJ0 yJ0_length_8abf5 yJ0_length_8abf5, Cond.code yJ0_length_8abf5 cJ0_length_8abf5 1 (some .int), Cond.methodLink RJ0 335 yJ0_coder_7d493, Cond.instanceMethod yJ0_coder_7d493, Cond.selects RJ0 yJ0_coder_7d493 yJ0_coder_7d493, Cond.code yJ0_coder_7d493 cJ0_coder_7d493 1 (some .byte), Cond.methodLink RJ0 637 yJ1_indexOf_4cfef, Cond.static yJ1_indexOf_4cfef, Cond.initialized RJ1]
def wsX10_type_r3 : List Cond := [Cond.code yJ1_indexOf_4cfef cJ1_indexOf_4cfef 4 (some .int), Cond.methodLink RJ1 92 Lib.Math.max.name, Cond.static Lib.Math.max.name, Cond.initialized "java/lang/Math", Cond.code Lib.Math.max.name Lib.Math.max.code 2 (some .int), Cond.methodLink RJ1 38 Lib.Math.min.name, Cond.static Lib.Math.min.name, Cond.code Lib.Math.min.name Lib.Math.min.code 2 (some .int), Cond.methodLink RJ1 88 yJ1_canEncode_9a6ad, Cond.static yJ1_canEncode_9a6ad, Cond.code yJ1_canEncode_9a6ad cJ1_canEncode_9a6ad 1 (some .boolean), Cond.methodLink RJ1 95 yJ1_indexOfChar_4cfef, Cond.static yJ1_indexOfChar_4cfef, Cond.code yJ1_indexOfChar_4cfef cJ1_indexOfChar_4cfef 6 (some .int), Cond.methodLink RJ0 640 yJ2_indexOf_4cfef, Cond.static yJ2_indexOf_4cfef, Cond.initialized RJ2, Cond.code yJ2_indexOf_4cfef cJ2_indexOf_4cfef 4 (some .int), Cond.methodLink RJ2 224 Lib.Math.max.name, Cond.methodLink RJ2 183 Lib.Math.min.name, Cond.constant RJ2 227 (65536), Cond.methodLink RJ2 228 yJ2_indexOfChar_4cfef, Cond.static yJ2_indexOfChar_4cfef, Cond.code yJ2_indexOfChar_4cfef cJ2_indexOfChar_4cfef 4 (some .int)]
def wsX10_type_r4 : List Cond := [Cond.methodLink RJ2 96 yJ2_checkBoundsBeginEnd_d044e, Cond.static yJ2_checkBoundsBeginEnd_d044e, Cond.code yJ2_checkBoundsBeginEnd_d044e cJ2_checkBoundsBeginEnd_d044e 3 none, Cond.methodLink RJ2 48 yJ2_length_9d52b, Cond.static yJ2_length_9d52b, Cond.code yJ2_length_9d52b cJ2_length_9d52b 1 (some .int), Cond.methodLink RJ2 241 yJ0_checkBoundsBeginEnd_23922, Cond.static yJ0_checkBoundsBeginEnd_23922, Cond.code yJ0_checkBoundsBeginEnd_23922 cJ0_checkBoundsBeginEnd_23922 3 none, Cond.fieldLink RJ0 1053 "jdk/internal/util/Preconditions" "SIOOBE_FORMATTER" "Ljava/util/function/BiFunction;", Cond.methodLink RJ0 1062 yJ3_checkFromToIndex_8c36e, Cond.static yJ3_checkFromToIndex_8c36e, Cond.initialized RJ3, Cond.code yJ3_checkFromToIndex_8c36e cJ3_checkFromToIndex_8c36e 4 (some .int), Cond.methodLink RJ2 244 yJ2_indexOfCharUnsafe_4cfef, Cond.static yJ2_indexOfCharUnsafe_4cfef, Cond.code yJ2_indexOfCharUnsafe_4cfef cJ2_indexOfCharUnsafe_4cfef 5 (some .int), Cond.methodLink RJ2 71 yJ2_getChar_3b067, Cond.static yJ2_getChar_3b067, Cond.code yJ2_getChar_3b067 cJ2_getChar_3b067 2 (some .char), Cond.fieldLink RJ2 44 "java/lang/StringUTF16" "$assertionsDisabled" "Z", Cond.fieldLink RJ2 59 "java/lang/StringUTF16" "HI_BYTE_SHIFT" "I", Cond.fieldLink RJ2 63 "java/lang/StringUTF16" "LO_BYTE_SHIFT" "I", Cond.methodLink RJ2 232 yJ2_indexOfSupplementary_4cfef]
def wsX10_type_r5 : List Cond := [Cond.static yJ2_indexOfSupplementary_4cfef, Cond.code yJ2_indexOfSupplementary_4cfef cJ2_indexOfSupplementary_4cfef 7 (some .int), Cond.methodLink RJ2 164 yJ11_isValidCodePoint_9a6ad, Cond.static yJ11_isValidCodePoint_9a6ad, Cond.initialized RJ11, Cond.code yJ11_isValidCodePoint_9a6ad cJ11_isValidCodePoint_9a6ad 2 (some .boolean), Cond.methodLink RJ2 157 yJ11_highSurrogate_5068e, Cond.static yJ11_highSurrogate_5068e, Cond.code yJ11_highSurrogate_5068e cJ11_highSurrogate_5068e 1 (some .char), Cond.constant RJ11 110 (55232), Cond.methodLink RJ2 161 yJ11_lowSurrogate_5068e, Cond.static yJ11_lowSurrogate_5068e, Cond.code yJ11_lowSurrogate_5068e cJ11_lowSurrogate_5068e 1 (some .char), Cond.constant RJ11 76 (56320), Cond.methodLink RX6 52 yX6_takesRelation, Cond.instanceMethod yX6_takesRelation, Cond.selects RX6 yX6_takesRelation yX6_takesRelation, Cond.code yX6_takesRelation cX6_takesRelation 2 (some .boolean), Cond.fieldLink RX6 15 "RowsOfTwo$Sentences" "relations" "[I", Cond.methodLink RX6 55 yX6_takesFigure, Cond.instanceMethod yX6_takesFigure, Cond.selects RX6 yX6_takesFigure yX6_takesFigure, Cond.code yX6_takesFigure cX6_takesFigure 2 (some .boolean), Cond.fieldLink RX6 18 "RowsOfTwo$Sentences" "limits" "[I"]
def wsX10_type_r6 : List Cond := [Cond.methodLink RX6 58 yX6_takesSecondFigure, Cond.instanceMethod yX6_takesSecondFigure, Cond.selects RX6 yX6_takesSecondFigure yX6_takesSecondFigure, Cond.code yX6_takesSecondFigure cX6_takesSecondFigure 2 (some .boolean), Cond.methodLink RX6 61 yX6_takesJoint, Cond.instanceMethod yX6_takesJoint, Cond.selects RX6 yX6_takesJoint yX6_takesJoint, Cond.code yX6_takesJoint cX6_takesJoint 2 (some .boolean), Cond.fieldLink RX6 21 "RowsOfTwo$Sentences" "opensAlternative" "[Z", Cond.methodLink RX10 96 yX8_forget, Cond.instanceMethod yX8_forget, Cond.selects RX8 yX8_forget yX8_forget, Cond.initialized RX8, Cond.code yX8_forget cX8_forget 2 none, Cond.fieldLink RX8 16 "RowsOfTwo$Shown" "known" "[Z"]
def wsX10_type : List Cond := .code yX10_type cX10_type 2 (some .int) :: ((wsX10_type_r1 ++ (wsX10_type_r2 ++ (wsX10_type_r3 ++ (wsX10_type_r4 ++ (wsX10_type_r5 ++ wsX10_type_r6))))) ++ wsX100 ++ wsX60 ++ wsX80)
def wsX10_wipe : List Cond := .code yX10_wipe cX10_wipe 2 (some .int) :: ([.fieldLink RX10 26 "RowsOfTwo" "sentences" "LRowsOfTwo$Sentences;", .fieldLink RX10 109 "RowsOfTwo$Sentences" "length" "I", .fieldLink RX10 33 "RowsOfTwo" "shownRows" "LRowsOfTwo$Shown;", .methodLink RX10 111 yX6_empty, .instanceMethod yX6_empty, .selects RX6 yX6_empty yX6_empty, .initialized RX6, .code yX6_empty cX6_empty 1 none, .fieldLink RX6 32 "RowsOfTwo$Sentences" "length" "I", .fieldLink RX6 35 "RowsOfTwo$Sentences" "tests" "I", .fieldLink RX6 38 "RowsOfTwo$Sentences" "due" "I", .fieldLink RX6 28 "RowsOfTwo$Sentences" "stuckAt" "I", .methodLink RX10 96 yX8_forget, .instanceMethod yX8_forget, .selects RX8 yX8_forget yX8_forget, .initialized RX8, .code yX8_forget cX8_forget 2 none, .fieldLink RX8 16 "RowsOfTwo$Shown" "known" "[Z"] ++ wsX100 ++ wsX60 ++ wsX80)
def wsX10_fault : List Cond := .code yX10_fault cX10_fault 1 (some .int) :: ([.fieldLink RX10 26 "RowsOfTwo" "sentences" "LRowsOfTwo$Sentences;", .methodLink RX10 112 yX6_faultPlace, .instanceMethod yX6_faultPlace, .selects RX6 yX6_faultPlace yX6_faultPlace, .initialized RX6, .code yX6_faultPlace cX6_faultPlace 1 (some .int), .fieldLink RX6 28 "RowsOfTwo$Sentences" "stuckAt" "I", .fieldLink RX6 38 "RowsOfTwo$Sentences" "due" "I", .fieldLink RX6 32 "RowsOfTwo$Sentences" "length" "I"] ++ wsX100 ++ wsX60)
def wsX10_holds_r1 : List Cond := [Cond.fieldLink RX10 11 "RowsOfTwo" "rows" "[LRowsOfTwo$Row;", Cond.fieldLink RX10 26 "RowsOfTwo" "sentences" "LRowsOfTwo$Sentences;", Cond.fieldLink RX10 69 "RowsOfTwo$Row" "length" "I", Cond.fieldLink RX10 119 "RowsOfTwo$Row" "hits" "I", Cond.fieldLink RX10 48 "RowsOfTwo" "pattern" "I", Cond.methodLink RX10 54 yX10_isRow, Cond.static yX10_isRow, Cond.initialized RX10, Cond.code yX10_isRow cX10_isRow 1 (some .boolean), Cond.methodLink RX10 102 yX5_isWhole, Cond.instanceMethod yX5_isWhole, Cond.selects RX5 yX5_isWhole yX5_isWhole, Cond.initialized RX5, Cond.code yX5_isWhole cX5_isWhole 1 (some .boolean), Cond.fieldLink RX5 15 "RowsOfTwo$Row" "unseen" "I", Cond.methodLink RX10 116 yX6_isFaulty, Cond.instanceMethod yX6_isFaulty, Cond.selects RX6 yX6_isFaulty yX6_isFaulty, Cond.initialized RX6, Cond.code yX6_isFaulty cX6_isFaulty 1 (some .boolean), Cond.methodLink RX6 45 yX6_faultPlace, Cond.instanceMethod yX6_faultPlace, Cond.selects RX6 yX6_faultPlace yX6_faultPlace, Cond.code yX6_faultPlace cX6_faultPlace 1 (some .int)]
def wsX10_holds_r2 : List Cond := [Cond.fieldLink RX6 28 "RowsOfTwo$Sentences" "stuckAt" "I", Cond.fieldLink RX6 38 "RowsOfTwo$Sentences" "due" "I", Cond.fieldLink RX6 32 "RowsOfTwo$Sentences" "length" "I", Cond.methodLink RX10 122 yX6_hold, Cond.instanceMethod yX6_hold, Cond.selects RX6 yX6_hold yX6_hold, Cond.code yX6_hold cX6_hold 8 (some .boolean), Cond.fieldLink RX6 35 "RowsOfTwo$Sentences" "tests" "I", Cond.fieldLink RX6 21 "RowsOfTwo$Sentences" "opensAlternative" "[Z", Cond.fieldLink RX6 11 "RowsOfTwo$Sentences" "letters" "[I", Cond.fieldLink RX6 25 "RowsOfTwo$Sentences" "measured" "[I", Cond.methodLink RX6 72 yX3_measure, Cond.static yX3_measure, Cond.initialized RX3, Cond.code yX3_measure cX3_measure 4 (some .int), Cond.methodLink RX3 24 Lib.Math.max.name, Cond.static Lib.Math.max.name, Cond.initialized "java/lang/Math", Cond.code Lib.Math.max.name Lib.Math.max.code 2 (some .int), Cond.methodLink RX3 9 yJ6_bitCount_0f7a4, Cond.static yJ6_bitCount_0f7a4, Cond.initialized RJ6, Cond.code yJ6_bitCount_0f7a4 cJ6_bitCount_0f7a4 1 (some .int), Cond.constant RJ6 265 (1431655765)]
def wsX10_holds_r3 : List Cond := [Cond.constant RJ6 266 (858993459), Cond.constant RJ6 267 (252645135), Cond.methodLink RX3 15 yX3_runs, Cond.static yX3_runs, Cond.code yX3_runs cX3_runs 3 (some .int), Cond.methodLink RX3 21 yX3_longestRun, Cond.static yX3_longestRun, Cond.code yX3_longestRun cX3_longestRun 3 (some .int), Cond.methodLink RX3 29 yX3_firstHit, Cond.static yX3_firstHit, Cond.code yX3_firstHit cX3_firstHit 3 (some .int), Cond.methodLink RX3 32 yX4_timesIn, Cond.static yX4_timesIn, Cond.initialized RX4, Cond.code yX4_timesIn cX4_timesIn 7 (some .int), Cond.methodLink RX4 11 yX4_lengthOf, Cond.static yX4_lengthOf, Cond.code yX4_lengthOf cX4_lengthOf 2 (some .int), Cond.methodLink RX4 15 yJ6_bitCount_0f7a4, Cond.methodLink RX6 78 yX6_isDone, Cond.instanceMethod yX6_isDone, Cond.selects RX6 yX6_isDone yX6_isDone, Cond.code yX6_isDone cX6_isDone 3 (some .boolean), Cond.fieldLink RX6 15 "RowsOfTwo$Sentences" "relations" "[I"]
def wsX10_holds_r4 : List Cond := [Cond.fieldLink RX6 18 "RowsOfTwo$Sentences" "limits" "[I"]
def wsX10_holds : List Cond := .code yX10_holds cX10_holds 3 (some .int) :: ((wsX10_holds_r1 ++ (wsX10_holds_r2 ++ (wsX10_holds_r3 ++ wsX10_holds_r4))) ++ wsX100 ++ wsX50 ++ wsX60)
def wsX10_isLength : List Cond := .code yX10_isLength cX10_isLength 1 (some .boolean) :: ([])
def wsX10_shown_r1 : List Cond := [Cond.fieldLink RX10 26 "RowsOfTwo" "sentences" "LRowsOfTwo$Sentences;", Cond.fieldLink RX10 33 "RowsOfTwo" "shownRows" "LRowsOfTwo$Shown;", Cond.fieldLink RX10 48 "RowsOfTwo" "pattern" "I", Cond.fieldLink RX10 133 "RowsOfTwo$Shown" "tallies" "[[I", Cond.methodLink RX10 126 yX10_isLength, Cond.static yX10_isLength, Cond.initialized RX10, Cond.code yX10_isLength cX10_isLength 1 (some .boolean), Cond.methodLink RX10 116 yX6_isFaulty, Cond.instanceMethod yX6_isFaulty, Cond.selects RX6 yX6_isFaulty yX6_isFaulty, Cond.initialized RX6, Cond.code yX6_isFaulty cX6_isFaulty 1 (some .boolean), Cond.methodLink RX6 45 yX6_faultPlace, Cond.instanceMethod yX6_faultPlace, Cond.selects RX6 yX6_faultPlace yX6_faultPlace, Cond.code yX6_faultPlace cX6_faultPlace 1 (some .int), Cond.fieldLink RX6 28 "RowsOfTwo$Sentences" "stuckAt" "I", Cond.fieldLink RX6 38 "RowsOfTwo$Sentences" "due" "I", Cond.fieldLink RX6 32 "RowsOfTwo$Sentences" "length" "I", Cond.methodLink RX10 129 yX8_learn, Cond.instanceMethod yX8_learn, Cond.selects RX8 yX8_learn yX8_learn, Cond.initialized RX8]
def wsX10_shown_r2 : List Cond := [Cond.code yX8_learn cX8_learn 6 none, Cond.fieldLink RX8 16 "RowsOfTwo$Shown" "known" "[Z", Cond.fieldLink RX8 11 "RowsOfTwo$Shown" "tallies" "[[I", Cond.methodLink RX8 20 yX6_hold, Cond.instanceMethod yX6_hold, Cond.selects RX6 yX6_hold yX6_hold, Cond.code yX6_hold cX6_hold 8 (some .boolean), Cond.fieldLink RX6 35 "RowsOfTwo$Sentences" "tests" "I", Cond.fieldLink RX6 21 "RowsOfTwo$Sentences" "opensAlternative" "[Z", Cond.fieldLink RX6 11 "RowsOfTwo$Sentences" "letters" "[I", Cond.fieldLink RX6 25 "RowsOfTwo$Sentences" "measured" "[I", Cond.methodLink RX6 72 yX3_measure, Cond.static yX3_measure, Cond.initialized RX3, Cond.code yX3_measure cX3_measure 4 (some .int), Cond.methodLink RX3 24 Lib.Math.max.name, Cond.static Lib.Math.max.name, Cond.initialized "java/lang/Math", Cond.code Lib.Math.max.name Lib.Math.max.code 2 (some .int), Cond.methodLink RX3 9 yJ6_bitCount_0f7a4, Cond.static yJ6_bitCount_0f7a4, Cond.initialized RJ6, Cond.code yJ6_bitCount_0f7a4 cJ6_bitCount_0f7a4 1 (some .int), Cond.constant RJ6 265 (1431655765)]
def wsX10_shown_r3 : List Cond := [Cond.constant RJ6 266 (858993459), Cond.constant RJ6 267 (252645135), Cond.methodLink RX3 15 yX3_runs, Cond.static yX3_runs, Cond.code yX3_runs cX3_runs 3 (some .int), Cond.methodLink RX3 21 yX3_longestRun, Cond.static yX3_longestRun, Cond.code yX3_longestRun cX3_longestRun 3 (some .int), Cond.methodLink RX3 29 yX3_firstHit, Cond.static yX3_firstHit, Cond.code yX3_firstHit cX3_firstHit 3 (some .int), Cond.methodLink RX3 32 yX4_timesIn, Cond.static yX4_timesIn, Cond.initialized RX4, Cond.code yX4_timesIn cX4_timesIn 7 (some .int), Cond.methodLink RX4 11 yX4_lengthOf, Cond.static yX4_lengthOf, Cond.code yX4_lengthOf cX4_lengthOf 2 (some .int), Cond.methodLink RX4 15 yJ6_bitCount_0f7a4, Cond.methodLink RX6 78 yX6_isDone, Cond.instanceMethod yX6_isDone, Cond.selects RX6 yX6_isDone yX6_isDone, Cond.code yX6_isDone cX6_isDone 3 (some .boolean), Cond.fieldLink RX6 15 "RowsOfTwo$Sentences" "relations" "[I"]
def wsX10_shown_r4 : List Cond := [Cond.fieldLink RX6 18 "RowsOfTwo$Sentences" "limits" "[I", Cond.methodLink RX8 26 yJ6_bitCount_0f7a4, Cond.methodLink RX10 137 yX9_sum, Cond.static yX9_sum, Cond.initialized RX9, Cond.code yX9_sum cX9_sum 6 (some .int)]
def wsX10_shown : List Cond := .code yX10_shown cX10_shown 3 (some .int) :: ((wsX10_shown_r1 ++ (wsX10_shown_r2 ++ (wsX10_shown_r3 ++ wsX10_shown_r4))) ++ wsX100 ++ wsX80 ++ wsX60)
def wsX10_nth_r1 : List Cond := [Cond.fieldLink RX10 26 "RowsOfTwo" "sentences" "LRowsOfTwo$Sentences;", Cond.fieldLink RX10 48 "RowsOfTwo" "pattern" "I", Cond.methodLink RX10 126 yX10_isLength, Cond.static yX10_isLength, Cond.initialized RX10, Cond.code yX10_isLength cX10_isLength 1 (some .boolean), Cond.methodLink RX10 116 yX6_isFaulty, Cond.instanceMethod yX6_isFaulty, Cond.selects RX6 yX6_isFaulty yX6_isFaulty, Cond.initialized RX6, Cond.code yX6_isFaulty cX6_isFaulty 1 (some .boolean), Cond.methodLink RX6 45 yX6_faultPlace, Cond.instanceMethod yX6_faultPlace, Cond.selects RX6 yX6_faultPlace yX6_faultPlace, Cond.code yX6_faultPlace cX6_faultPlace 1 (some .int), Cond.fieldLink RX6 28 "RowsOfTwo$Sentences" "stuckAt" "I", Cond.fieldLink RX6 38 "RowsOfTwo$Sentences" "due" "I", Cond.fieldLink RX6 32 "RowsOfTwo$Sentences" "length" "I", Cond.methodLink RX10 122 yX6_hold, Cond.instanceMethod yX6_hold, Cond.selects RX6 yX6_hold yX6_hold, Cond.code yX6_hold cX6_hold 8 (some .boolean), Cond.fieldLink RX6 35 "RowsOfTwo$Sentences" "tests" "I", Cond.fieldLink RX6 21 "RowsOfTwo$Sentences" "opensAlternative" "[Z"]
def wsX10_nth_r2 : List Cond := [Cond.fieldLink RX6 11 "RowsOfTwo$Sentences" "letters" "[I", Cond.fieldLink RX6 25 "RowsOfTwo$Sentences" "measured" "[I", Cond.methodLink RX6 72 yX3_measure, Cond.static yX3_measure, Cond.initialized RX3, Cond.code yX3_measure cX3_measure 4 (some .int), Cond.methodLink RX3 24 Lib.Math.max.name, Cond.static Lib.Math.max.name, Cond.initialized "java/lang/Math", Cond.code Lib.Math.max.name Lib.Math.max.code 2 (some .int), Cond.methodLink RX3 9 yJ6_bitCount_0f7a4, Cond.static yJ6_bitCount_0f7a4, Cond.initialized RJ6, Cond.code yJ6_bitCount_0f7a4 cJ6_bitCount_0f7a4 1 (some .int), Cond.constant RJ6 265 (1431655765), Cond.constant RJ6 266 (858993459), Cond.constant RJ6 267 (252645135), Cond.methodLink RX3 15 yX3_runs, Cond.static yX3_runs, Cond.code yX3_runs cX3_runs 3 (some .int), Cond.methodLink RX3 21 yX3_longestRun, Cond.static yX3_longestRun, Cond.code yX3_longestRun cX3_longestRun 3 (some .int), Cond.methodLink RX3 29 yX3_firstHit]
def wsX10_nth_r3 : List Cond := [Cond.static yX3_firstHit, Cond.code yX3_firstHit cX3_firstHit 3 (some .int), Cond.methodLink RX3 32 yX4_timesIn, Cond.static yX4_timesIn, Cond.initialized RX4, Cond.code yX4_timesIn cX4_timesIn 7 (some .int), Cond.methodLink RX4 11 yX4_lengthOf, Cond.static yX4_lengthOf, Cond.code yX4_lengthOf cX4_lengthOf 2 (some .int), Cond.methodLink RX4 15 yJ6_bitCount_0f7a4, Cond.methodLink RX6 78 yX6_isDone, Cond.instanceMethod yX6_isDone, Cond.selects RX6 yX6_isDone yX6_isDone, Cond.code yX6_isDone cX6_isDone 3 (some .boolean), Cond.fieldLink RX6 15 "RowsOfTwo$Sentences" "relations" "[I", Cond.fieldLink RX6 18 "RowsOfTwo$Sentences" "limits" "[I"]
def wsX10_nth : List Cond := .code yX10_nth cX10_nth 5 (some .int) :: ((wsX10_nth_r1 ++ (wsX10_nth_r2 ++ wsX10_nth_r3)) ++ wsX100 ++ wsX60)
def wsX10_isPart : List Cond := .code yX10_isPart cX10_isPart 1 (some .boolean) :: ([])
def wsX10_refusal : List Cond := .code yX10_refusal cX10_refusal 1 (some .long) :: ([.constantLong RX10 295 (-9223372036854775808)])
def wsX10_share_r1 : List Cond := [Cond.fieldLink RX10 26 "RowsOfTwo" "sentences" "LRowsOfTwo$Sentences;", Cond.fieldLink RX10 33 "RowsOfTwo" "shownRows" "LRowsOfTwo$Shown;", Cond.fieldLink RX10 48 "RowsOfTwo" "pattern" "I", Cond.fieldLink RX10 133 "RowsOfTwo$Shown" "tallies" "[[I", Cond.fieldLink RX10 44 "RowsOfTwo" "odds" "I", Cond.methodLink RX10 126 yX10_isLength, Cond.static yX10_isLength, Cond.initialized RX10, Cond.code yX10_isLength cX10_isLength 1 (some .boolean), Cond.methodLink RX10 143 yX10_isPart, Cond.static yX10_isPart, Cond.code yX10_isPart cX10_isPart 1 (some .boolean), Cond.methodLink RX10 146 yX10_refusal, Cond.static yX10_refusal, Cond.code yX10_refusal cX10_refusal 1 (some .long), Cond.constantLong RX10 295 (-9223372036854775808), Cond.methodLink RX10 116 yX6_isFaulty, Cond.instanceMethod yX6_isFaulty, Cond.selects RX6 yX6_isFaulty yX6_isFaulty, Cond.initialized RX6, Cond.code yX6_isFaulty cX6_isFaulty 1 (some .boolean), Cond.methodLink RX6 45 yX6_faultPlace, Cond.instanceMethod yX6_faultPlace, Cond.selects RX6 yX6_faultPlace yX6_faultPlace]
def wsX10_share_r2 : List Cond := [Cond.code yX6_faultPlace cX6_faultPlace 1 (some .int), Cond.fieldLink RX6 28 "RowsOfTwo$Sentences" "stuckAt" "I", Cond.fieldLink RX6 38 "RowsOfTwo$Sentences" "due" "I", Cond.fieldLink RX6 32 "RowsOfTwo$Sentences" "length" "I", Cond.methodLink RX10 129 yX8_learn, Cond.instanceMethod yX8_learn, Cond.selects RX8 yX8_learn yX8_learn, Cond.initialized RX8, Cond.code yX8_learn cX8_learn 6 none, Cond.fieldLink RX8 16 "RowsOfTwo$Shown" "known" "[Z", Cond.fieldLink RX8 11 "RowsOfTwo$Shown" "tallies" "[[I", Cond.methodLink RX8 20 yX6_hold, Cond.instanceMethod yX6_hold, Cond.selects RX6 yX6_hold yX6_hold, Cond.code yX6_hold cX6_hold 8 (some .boolean), Cond.fieldLink RX6 35 "RowsOfTwo$Sentences" "tests" "I", Cond.fieldLink RX6 21 "RowsOfTwo$Sentences" "opensAlternative" "[Z", Cond.fieldLink RX6 11 "RowsOfTwo$Sentences" "letters" "[I", Cond.fieldLink RX6 25 "RowsOfTwo$Sentences" "measured" "[I", Cond.methodLink RX6 72 yX3_measure, Cond.static yX3_measure, Cond.initialized RX3, Cond.code yX3_measure cX3_measure 4 (some .int), Cond.methodLink RX3 24 Lib.Math.max.name]
def wsX10_share_r3 : List Cond := [Cond.static Lib.Math.max.name, Cond.initialized "java/lang/Math", Cond.code Lib.Math.max.name Lib.Math.max.code 2 (some .int), Cond.methodLink RX3 9 yJ6_bitCount_0f7a4, Cond.static yJ6_bitCount_0f7a4, Cond.initialized RJ6, Cond.code yJ6_bitCount_0f7a4 cJ6_bitCount_0f7a4 1 (some .int), Cond.constant RJ6 265 (1431655765), Cond.constant RJ6 266 (858993459), Cond.constant RJ6 267 (252645135), Cond.methodLink RX3 15 yX3_runs, Cond.static yX3_runs, Cond.code yX3_runs cX3_runs 3 (some .int), Cond.methodLink RX3 21 yX3_longestRun, Cond.static yX3_longestRun, Cond.code yX3_longestRun cX3_longestRun 3 (some .int), Cond.methodLink RX3 29 yX3_firstHit, Cond.static yX3_firstHit, Cond.code yX3_firstHit cX3_firstHit 3 (some .int), Cond.methodLink RX3 32 yX4_timesIn, Cond.static yX4_timesIn, Cond.initialized RX4, Cond.code yX4_timesIn cX4_timesIn 7 (some .int), Cond.methodLink RX4 11 yX4_lengthOf]
def wsX10_share_r4 : List Cond := [Cond.static yX4_lengthOf, Cond.code yX4_lengthOf cX4_lengthOf 2 (some .int), Cond.methodLink RX4 15 yJ6_bitCount_0f7a4, Cond.methodLink RX6 78 yX6_isDone, Cond.instanceMethod yX6_isDone, Cond.selects RX6 yX6_isDone yX6_isDone, Cond.code yX6_isDone cX6_isDone 3 (some .boolean), Cond.fieldLink RX6 15 "RowsOfTwo$Sentences" "relations" "[I", Cond.fieldLink RX6 18 "RowsOfTwo$Sentences" "limits" "[I", Cond.methodLink RX8 26 yJ6_bitCount_0f7a4, Cond.methodLink RX10 150 yX9_sharePart, Cond.static yX9_sharePart, Cond.initialized RX9, Cond.code yX9_sharePart cX9_sharePart 9 (some .long), Cond.constantLong RX9 15 (16), Cond.methodLink RX9 9 yX1_power, Cond.static yX1_power, Cond.initialized RX1, Cond.code yX1_power cX1_power 6 (some .long), Cond.methodLink RX9 17 yX1_part, Cond.static yX1_part, Cond.code yX1_part cX1_part 7 (some .long), Cond.methodLink RX1 7 yX1_commonDivisor, Cond.static yX1_commonDivisor]
def wsX10_share_r5 : List Cond := [Cond.code yX1_commonDivisor cX1_commonDivisor 11 (some .long)]
def wsX10_share : List Cond := .code yX10_share cX10_share 3 (some .long) :: ((wsX10_share_r1 ++ (wsX10_share_r2 ++ (wsX10_share_r3 ++ (wsX10_share_r4 ++ wsX10_share_r5)))) ++ wsX100 ++ wsX80 ++ wsX60)
def wsX10_fills_r1 : List Cond := [Cond.fieldLink RX10 11 "RowsOfTwo" "rows" "[LRowsOfTwo$Row;", Cond.fieldLink RX10 154 "RowsOfTwo$Row" "unseen" "I", Cond.fieldLink RX10 26 "RowsOfTwo" "sentences" "LRowsOfTwo$Sentences;", Cond.fieldLink RX10 40 "RowsOfTwo" "heldFills" "LRowsOfTwo$Fills;", Cond.fieldLink RX10 48 "RowsOfTwo" "pattern" "I", Cond.fieldLink RX10 165 "RowsOfTwo$Fills" "tally" "[I", Cond.methodLink RX10 54 yX10_isRow, Cond.static yX10_isRow, Cond.initialized RX10, Cond.code yX10_isRow cX10_isRow 1 (some .boolean), Cond.methodLink RX10 143 yX10_isPart, Cond.static yX10_isPart, Cond.code yX10_isPart cX10_isPart 1 (some .boolean), Cond.methodLink RX10 157 yJ6_bitCount_0f7a4, Cond.static yJ6_bitCount_0f7a4, Cond.initialized RJ6, Cond.code yJ6_bitCount_0f7a4 cJ6_bitCount_0f7a4 1 (some .int), Cond.constant RJ6 265 (1431655765), Cond.constant RJ6 266 (858993459), Cond.constant RJ6 267 (252645135), Cond.methodLink RX10 116 yX6_isFaulty, Cond.instanceMethod yX6_isFaulty, Cond.selects RX6 yX6_isFaulty yX6_isFaulty, Cond.initialized RX6]
def wsX10_fills_r2 : List Cond := [Cond.code yX6_isFaulty cX6_isFaulty 1 (some .boolean), Cond.methodLink RX6 45 yX6_faultPlace, Cond.instanceMethod yX6_faultPlace, Cond.selects RX6 yX6_faultPlace yX6_faultPlace, Cond.code yX6_faultPlace cX6_faultPlace 1 (some .int), Cond.fieldLink RX6 28 "RowsOfTwo$Sentences" "stuckAt" "I", Cond.fieldLink RX6 38 "RowsOfTwo$Sentences" "due" "I", Cond.fieldLink RX6 32 "RowsOfTwo$Sentences" "length" "I", Cond.methodLink RX10 162 yX0_learn, Cond.instanceMethod yX0_learn, Cond.selects RX0 yX0_learn yX0_learn, Cond.initialized RX0, Cond.code yX0_learn cX0_learn 8 none, Cond.fieldLink RX0 9 "RowsOfTwo$Fills" "tally" "[I", Cond.fieldLink RX0 15 "RowsOfTwo$Fills" "alwaysHit" "I", Cond.fieldLink RX0 19 "RowsOfTwo$Fills" "everHit" "I", Cond.fieldLink RX0 22 "RowsOfTwo$Row" "unseen" "I", Cond.fieldLink RX0 33 "RowsOfTwo$Row" "hits" "I", Cond.fieldLink RX0 36 "RowsOfTwo$Row" "length" "I", Cond.methodLink RX0 27 yJ6_bitCount_0f7a4, Cond.methodLink RX0 39 yX6_hold, Cond.instanceMethod yX6_hold, Cond.selects RX6 yX6_hold yX6_hold, Cond.code yX6_hold cX6_hold 8 (some .boolean)]
def wsX10_fills_r3 : List Cond := [Cond.fieldLink RX6 35 "RowsOfTwo$Sentences" "tests" "I", Cond.fieldLink RX6 21 "RowsOfTwo$Sentences" "opensAlternative" "[Z", Cond.fieldLink RX6 11 "RowsOfTwo$Sentences" "letters" "[I", Cond.fieldLink RX6 25 "RowsOfTwo$Sentences" "measured" "[I", Cond.methodLink RX6 72 yX3_measure, Cond.static yX3_measure, Cond.initialized RX3, Cond.code yX3_measure cX3_measure 4 (some .int), Cond.methodLink RX3 24 Lib.Math.max.name, Cond.static Lib.Math.max.name, Cond.initialized "java/lang/Math", Cond.code Lib.Math.max.name Lib.Math.max.code 2 (some .int), Cond.methodLink RX3 9 yJ6_bitCount_0f7a4, Cond.methodLink RX3 15 yX3_runs, Cond.static yX3_runs, Cond.code yX3_runs cX3_runs 3 (some .int), Cond.methodLink RX3 21 yX3_longestRun, Cond.static yX3_longestRun, Cond.code yX3_longestRun cX3_longestRun 3 (some .int), Cond.methodLink RX3 29 yX3_firstHit, Cond.static yX3_firstHit, Cond.code yX3_firstHit cX3_firstHit 3 (some .int), Cond.methodLink RX3 32 yX4_timesIn, Cond.static yX4_timesIn]
def wsX10_fills_r4 : List Cond := [Cond.initialized RX4, Cond.code yX4_timesIn cX4_timesIn 7 (some .int), Cond.methodLink RX4 11 yX4_lengthOf, Cond.static yX4_lengthOf, Cond.code yX4_lengthOf cX4_lengthOf 2 (some .int), Cond.methodLink RX4 15 yJ6_bitCount_0f7a4, Cond.methodLink RX6 78 yX6_isDone, Cond.instanceMethod yX6_isDone, Cond.selects RX6 yX6_isDone yX6_isDone, Cond.code yX6_isDone cX6_isDone 3 (some .boolean), Cond.fieldLink RX6 15 "RowsOfTwo$Sentences" "relations" "[I", Cond.fieldLink RX6 18 "RowsOfTwo$Sentences" "limits" "[I", Cond.methodLink RX10 137 yX9_sum, Cond.static yX9_sum, Cond.initialized RX9, Cond.code yX9_sum cX9_sum 6 (some .int)]
def wsX10_fills : List Cond := .code yX10_fills cX10_fills 3 (some .int) :: ((wsX10_fills_r1 ++ (wsX10_fills_r2 ++ (wsX10_fills_r3 ++ wsX10_fills_r4))) ++ wsX100 ++ wsX50 ++ wsX00 ++ wsX60)
def wsX10_filled_r1 : List Cond := [Cond.fieldLink RX10 26 "RowsOfTwo" "sentences" "LRowsOfTwo$Sentences;", Cond.fieldLink RX10 40 "RowsOfTwo" "heldFills" "LRowsOfTwo$Fills;", Cond.fieldLink RX10 11 "RowsOfTwo" "rows" "[LRowsOfTwo$Row;", Cond.fieldLink RX10 48 "RowsOfTwo" "pattern" "I", Cond.fieldLink RX10 165 "RowsOfTwo$Fills" "tally" "[I", Cond.fieldLink RX10 154 "RowsOfTwo$Row" "unseen" "I", Cond.fieldLink RX10 44 "RowsOfTwo" "odds" "I", Cond.methodLink RX10 54 yX10_isRow, Cond.static yX10_isRow, Cond.initialized RX10, Cond.code yX10_isRow cX10_isRow 1 (some .boolean), Cond.methodLink RX10 143 yX10_isPart, Cond.static yX10_isPart, Cond.code yX10_isPart cX10_isPart 1 (some .boolean), Cond.methodLink RX10 146 yX10_refusal, Cond.static yX10_refusal, Cond.code yX10_refusal cX10_refusal 1 (some .long), Cond.constantLong RX10 295 (-9223372036854775808), Cond.methodLink RX10 116 yX6_isFaulty, Cond.instanceMethod yX6_isFaulty, Cond.selects RX6 yX6_isFaulty yX6_isFaulty, Cond.initialized RX6, Cond.code yX6_isFaulty cX6_isFaulty 1 (some .boolean), Cond.methodLink RX6 45 yX6_faultPlace]
def wsX10_filled_r2 : List Cond := [Cond.instanceMethod yX6_faultPlace, Cond.selects RX6 yX6_faultPlace yX6_faultPlace, Cond.code yX6_faultPlace cX6_faultPlace 1 (some .int), Cond.fieldLink RX6 28 "RowsOfTwo$Sentences" "stuckAt" "I", Cond.fieldLink RX6 38 "RowsOfTwo$Sentences" "due" "I", Cond.fieldLink RX6 32 "RowsOfTwo$Sentences" "length" "I", Cond.methodLink RX10 162 yX0_learn, Cond.instanceMethod yX0_learn, Cond.selects RX0 yX0_learn yX0_learn, Cond.initialized RX0, Cond.code yX0_learn cX0_learn 8 none, Cond.fieldLink RX0 9 "RowsOfTwo$Fills" "tally" "[I", Cond.fieldLink RX0 15 "RowsOfTwo$Fills" "alwaysHit" "I", Cond.fieldLink RX0 19 "RowsOfTwo$Fills" "everHit" "I", Cond.fieldLink RX0 22 "RowsOfTwo$Row" "unseen" "I", Cond.fieldLink RX0 33 "RowsOfTwo$Row" "hits" "I", Cond.fieldLink RX0 36 "RowsOfTwo$Row" "length" "I", Cond.methodLink RX0 27 yJ6_bitCount_0f7a4, Cond.static yJ6_bitCount_0f7a4, Cond.initialized RJ6, Cond.code yJ6_bitCount_0f7a4 cJ6_bitCount_0f7a4 1 (some .int), Cond.constant RJ6 265 (1431655765), Cond.constant RJ6 266 (858993459), Cond.constant RJ6 267 (252645135)]
def wsX10_filled_r3 : List Cond := [Cond.methodLink RX0 39 yX6_hold, Cond.instanceMethod yX6_hold, Cond.selects RX6 yX6_hold yX6_hold, Cond.code yX6_hold cX6_hold 8 (some .boolean), Cond.fieldLink RX6 35 "RowsOfTwo$Sentences" "tests" "I", Cond.fieldLink RX6 21 "RowsOfTwo$Sentences" "opensAlternative" "[Z", Cond.fieldLink RX6 11 "RowsOfTwo$Sentences" "letters" "[I", Cond.fieldLink RX6 25 "RowsOfTwo$Sentences" "measured" "[I", Cond.methodLink RX6 72 yX3_measure, Cond.static yX3_measure, Cond.initialized RX3, Cond.code yX3_measure cX3_measure 4 (some .int), Cond.methodLink RX3 24 Lib.Math.max.name, Cond.static Lib.Math.max.name, Cond.initialized "java/lang/Math", Cond.code Lib.Math.max.name Lib.Math.max.code 2 (some .int), Cond.methodLink RX3 9 yJ6_bitCount_0f7a4, Cond.methodLink RX3 15 yX3_runs, Cond.static yX3_runs, Cond.code yX3_runs cX3_runs 3 (some .int), Cond.methodLink RX3 21 yX3_longestRun, Cond.static yX3_longestRun, Cond.code yX3_longestRun cX3_longestRun 3 (some .int), Cond.methodLink RX3 29 yX3_firstHit]
def wsX10_filled_r4 : List Cond := [Cond.static yX3_firstHit, Cond.code yX3_firstHit cX3_firstHit 3 (some .int), Cond.methodLink RX3 32 yX4_timesIn, Cond.static yX4_timesIn, Cond.initialized RX4, Cond.code yX4_timesIn cX4_timesIn 7 (some .int), Cond.methodLink RX4 11 yX4_lengthOf, Cond.static yX4_lengthOf, Cond.code yX4_lengthOf cX4_lengthOf 2 (some .int), Cond.methodLink RX4 15 yJ6_bitCount_0f7a4, Cond.methodLink RX6 78 yX6_isDone, Cond.instanceMethod yX6_isDone, Cond.selects RX6 yX6_isDone yX6_isDone, Cond.code yX6_isDone cX6_isDone 3 (some .boolean), Cond.fieldLink RX6 15 "RowsOfTwo$Sentences" "relations" "[I", Cond.fieldLink RX6 18 "RowsOfTwo$Sentences" "limits" "[I", Cond.methodLink RX10 157 yJ6_bitCount_0f7a4, Cond.methodLink RX10 150 yX9_sharePart, Cond.static yX9_sharePart, Cond.initialized RX9, Cond.code yX9_sharePart cX9_sharePart 9 (some .long), Cond.constantLong RX9 15 (16), Cond.methodLink RX9 9 yX1_power, Cond.static yX1_power]
def wsX10_filled_r5 : List Cond := [Cond.initialized RX1, Cond.code yX1_power cX1_power 6 (some .long), Cond.methodLink RX9 17 yX1_part, Cond.static yX1_part, Cond.code yX1_part cX1_part 7 (some .long), Cond.methodLink RX1 7 yX1_commonDivisor, Cond.static yX1_commonDivisor, Cond.code yX1_commonDivisor cX1_commonDivisor 11 (some .long)]
def wsX10_filled : List Cond := .code yX10_filled cX10_filled 3 (some .long) :: ((wsX10_filled_r1 ++ (wsX10_filled_r2 ++ (wsX10_filled_r3 ++ (wsX10_filled_r4 ++ wsX10_filled_r5)))) ++ wsX100 ++ wsX00 ++ wsX50 ++ wsX60)
def wsX10_sure_r1 : List Cond := [Cond.fieldLink RX10 11 "RowsOfTwo" "rows" "[LRowsOfTwo$Row;", Cond.fieldLink RX10 26 "RowsOfTwo" "sentences" "LRowsOfTwo$Sentences;", Cond.fieldLink RX10 69 "RowsOfTwo$Row" "length" "I", Cond.fieldLink RX10 40 "RowsOfTwo" "heldFills" "LRowsOfTwo$Fills;", Cond.fieldLink RX10 48 "RowsOfTwo" "pattern" "I", Cond.fieldLink RX10 165 "RowsOfTwo$Fills" "tally" "[I", Cond.fieldLink RX10 168 "RowsOfTwo$Fills" "alwaysHit" "I", Cond.fieldLink RX10 171 "RowsOfTwo$Fills" "everHit" "I", Cond.methodLink RX10 54 yX10_isRow, Cond.static yX10_isRow, Cond.initialized RX10, Cond.code yX10_isRow cX10_isRow 1 (some .boolean), Cond.methodLink RX10 116 yX6_isFaulty, Cond.instanceMethod yX6_isFaulty, Cond.selects RX6 yX6_isFaulty yX6_isFaulty, Cond.initialized RX6, Cond.code yX6_isFaulty cX6_isFaulty 1 (some .boolean), Cond.methodLink RX6 45 yX6_faultPlace, Cond.instanceMethod yX6_faultPlace, Cond.selects RX6 yX6_faultPlace yX6_faultPlace, Cond.code yX6_faultPlace cX6_faultPlace 1 (some .int), Cond.fieldLink RX6 28 "RowsOfTwo$Sentences" "stuckAt" "I", Cond.fieldLink RX6 38 "RowsOfTwo$Sentences" "due" "I", Cond.fieldLink RX6 32 "RowsOfTwo$Sentences" "length" "I"]
def wsX10_sure_r2 : List Cond := [Cond.methodLink RX10 162 yX0_learn, Cond.instanceMethod yX0_learn, Cond.selects RX0 yX0_learn yX0_learn, Cond.initialized RX0, Cond.code yX0_learn cX0_learn 8 none, Cond.fieldLink RX0 9 "RowsOfTwo$Fills" "tally" "[I", Cond.fieldLink RX0 15 "RowsOfTwo$Fills" "alwaysHit" "I", Cond.fieldLink RX0 19 "RowsOfTwo$Fills" "everHit" "I", Cond.fieldLink RX0 22 "RowsOfTwo$Row" "unseen" "I", Cond.fieldLink RX0 33 "RowsOfTwo$Row" "hits" "I", Cond.fieldLink RX0 36 "RowsOfTwo$Row" "length" "I", Cond.methodLink RX0 27 yJ6_bitCount_0f7a4, Cond.static yJ6_bitCount_0f7a4, Cond.initialized RJ6, Cond.code yJ6_bitCount_0f7a4 cJ6_bitCount_0f7a4 1 (some .int), Cond.constant RJ6 265 (1431655765), Cond.constant RJ6 266 (858993459), Cond.constant RJ6 267 (252645135), Cond.methodLink RX0 39 yX6_hold, Cond.instanceMethod yX6_hold, Cond.selects RX6 yX6_hold yX6_hold, Cond.code yX6_hold cX6_hold 8 (some .boolean), Cond.fieldLink RX6 35 "RowsOfTwo$Sentences" "tests" "I", Cond.fieldLink RX6 21 "RowsOfTwo$Sentences" "opensAlternative" "[Z"]
def wsX10_sure_r3 : List Cond := [Cond.fieldLink RX6 11 "RowsOfTwo$Sentences" "letters" "[I", Cond.fieldLink RX6 25 "RowsOfTwo$Sentences" "measured" "[I", Cond.methodLink RX6 72 yX3_measure, Cond.static yX3_measure, Cond.initialized RX3, Cond.code yX3_measure cX3_measure 4 (some .int), Cond.methodLink RX3 24 Lib.Math.max.name, Cond.static Lib.Math.max.name, Cond.initialized "java/lang/Math", Cond.code Lib.Math.max.name Lib.Math.max.code 2 (some .int), Cond.methodLink RX3 9 yJ6_bitCount_0f7a4, Cond.methodLink RX3 15 yX3_runs, Cond.static yX3_runs, Cond.code yX3_runs cX3_runs 3 (some .int), Cond.methodLink RX3 21 yX3_longestRun, Cond.static yX3_longestRun, Cond.code yX3_longestRun cX3_longestRun 3 (some .int), Cond.methodLink RX3 29 yX3_firstHit, Cond.static yX3_firstHit, Cond.code yX3_firstHit cX3_firstHit 3 (some .int), Cond.methodLink RX3 32 yX4_timesIn, Cond.static yX4_timesIn, Cond.initialized RX4, Cond.code yX4_timesIn cX4_timesIn 7 (some .int)]
def wsX10_sure_r4 : List Cond := [Cond.methodLink RX4 11 yX4_lengthOf, Cond.static yX4_lengthOf, Cond.code yX4_lengthOf cX4_lengthOf 2 (some .int), Cond.methodLink RX4 15 yJ6_bitCount_0f7a4, Cond.methodLink RX6 78 yX6_isDone, Cond.instanceMethod yX6_isDone, Cond.selects RX6 yX6_isDone yX6_isDone, Cond.code yX6_isDone cX6_isDone 3 (some .boolean), Cond.fieldLink RX6 15 "RowsOfTwo$Sentences" "relations" "[I", Cond.fieldLink RX6 18 "RowsOfTwo$Sentences" "limits" "[I", Cond.methodLink RX10 137 yX9_sum, Cond.static yX9_sum, Cond.initialized RX9, Cond.code yX9_sum cX9_sum 6 (some .int)]
def wsX10_sure : List Cond := .code yX10_sure cX10_sure 5 (some .int) :: ((wsX10_sure_r1 ++ (wsX10_sure_r2 ++ (wsX10_sure_r3 ++ wsX10_sure_r4))) ++ wsX100 ++ wsX50 ++ wsX00 ++ wsX60)
def wsX10_dealtAsFar_r1 : List Cond := [Cond.fieldLink RX10 69 "RowsOfTwo$Row" "length" "I", Cond.fieldLink RX10 48 "RowsOfTwo" "pattern" "I", Cond.methodLink RX10 105 yX10_numberOf, Cond.instanceMethod yX10_numberOf, Cond.selects RX10 yX10_numberOf yX10_numberOf, Cond.initialized RX10, Cond.code yX10_numberOf cX10_numberOf 3 (some .int), Cond.fieldLink RX10 119 "RowsOfTwo$Row" "hits" "I", Cond.methodLink RX10 297 yX3_measure, Cond.static yX3_measure, Cond.initialized RX3, Cond.code yX3_measure cX3_measure 4 (some .int), Cond.methodLink RX3 24 Lib.Math.max.name, Cond.static Lib.Math.max.name, Cond.initialized "java/lang/Math", Cond.code Lib.Math.max.name Lib.Math.max.code 2 (some .int), Cond.methodLink RX3 9 yJ6_bitCount_0f7a4, Cond.static yJ6_bitCount_0f7a4, Cond.initialized RJ6, Cond.code yJ6_bitCount_0f7a4 cJ6_bitCount_0f7a4 1 (some .int), Cond.constant RJ6 265 (1431655765), Cond.constant RJ6 266 (858993459), Cond.constant RJ6 267 (252645135), Cond.methodLink RX3 15 yX3_runs]
def wsX10_dealtAsFar_r2 : List Cond := [Cond.static yX3_runs, Cond.code yX3_runs cX3_runs 3 (some .int), Cond.methodLink RX3 21 yX3_longestRun, Cond.static yX3_longestRun, Cond.code yX3_longestRun cX3_longestRun 3 (some .int), Cond.methodLink RX3 29 yX3_firstHit, Cond.static yX3_firstHit, Cond.code yX3_firstHit cX3_firstHit 3 (some .int), Cond.methodLink RX3 32 yX4_timesIn, Cond.static yX4_timesIn, Cond.initialized RX4, Cond.code yX4_timesIn cX4_timesIn 7 (some .int), Cond.methodLink RX4 11 yX4_lengthOf, Cond.static yX4_lengthOf, Cond.code yX4_lengthOf cX4_lengthOf 2 (some .int), Cond.methodLink RX4 15 yJ6_bitCount_0f7a4, Cond.methodLink RX10 178 yX2_howMany, Cond.static yX2_howMany, Cond.initialized RX2, Cond.code yX2_howMany cX2_howMany 4 (some .int), Cond.fieldLink RX2 7 "RowsOfTwo$Row" "hits" "I", Cond.fieldLink RX2 19 "RowsOfTwo$Row" "length" "I", Cond.methodLink RX2 13 yJ6_bitCount_0f7a4, Cond.methodLink RX10 202 yX2_lowest]
def wsX10_dealtAsFar_r3 : List Cond := [Cond.static yX2_lowest, Cond.code yX2_lowest cX2_lowest 1 (some .int), Cond.methodLink RX10 209 yX2_after, Cond.static yX2_after, Cond.code yX2_after cX2_after 3 (some .int)]
def wsX10_dealtAsFar : List Cond := .code yX10_dealtAsFar cX10_dealtAsFar 10 (some .int) :: ((wsX10_dealtAsFar_r1 ++ (wsX10_dealtAsFar_r2 ++ wsX10_dealtAsFar_r3)) ++ wsX50 ++ wsX100)
def wsX10_millionths : List Cond := .code yX10_millionths cX10_millionths 2 (some .int) :: ([.constantLong RX10 301 (1000000)])
def wsX10_dealt_r1 : List Cond := [Cond.fieldLink RX10 11 "RowsOfTwo" "rows" "[LRowsOfTwo$Row;", Cond.methodLink RX10 54 yX10_isRow, Cond.static yX10_isRow, Cond.initialized RX10, Cond.code yX10_isRow cX10_isRow 1 (some .boolean), Cond.methodLink RX10 99 yX10_isNumber, Cond.static yX10_isNumber, Cond.code yX10_isNumber cX10_isNumber 1 (some .boolean), Cond.methodLink RX10 102 yX5_isWhole, Cond.instanceMethod yX5_isWhole, Cond.selects RX5 yX5_isWhole yX5_isWhole, Cond.initialized RX5, Cond.code yX5_isWhole cX5_isWhole 1 (some .boolean), Cond.fieldLink RX5 15 "RowsOfTwo$Row" "unseen" "I", Cond.methodLink RX10 174 yX10_dealtAsFar, Cond.instanceMethod yX10_dealtAsFar, Cond.selects RX10 yX10_dealtAsFar yX10_dealtAsFar, Cond.code yX10_dealtAsFar cX10_dealtAsFar 10 (some .int), Cond.fieldLink RX10 69 "RowsOfTwo$Row" "length" "I", Cond.fieldLink RX10 48 "RowsOfTwo" "pattern" "I", Cond.methodLink RX10 105 yX10_numberOf, Cond.instanceMethod yX10_numberOf, Cond.selects RX10 yX10_numberOf yX10_numberOf, Cond.code yX10_numberOf cX10_numberOf 3 (some .int)]
def wsX10_dealt_r2 : List Cond := [Cond.fieldLink RX10 119 "RowsOfTwo$Row" "hits" "I", Cond.methodLink RX10 297 yX3_measure, Cond.static yX3_measure, Cond.initialized RX3, Cond.code yX3_measure cX3_measure 4 (some .int), Cond.methodLink RX3 24 Lib.Math.max.name, Cond.static Lib.Math.max.name, Cond.initialized "java/lang/Math", Cond.code Lib.Math.max.name Lib.Math.max.code 2 (some .int), Cond.methodLink RX3 9 yJ6_bitCount_0f7a4, Cond.static yJ6_bitCount_0f7a4, Cond.initialized RJ6, Cond.code yJ6_bitCount_0f7a4 cJ6_bitCount_0f7a4 1 (some .int), Cond.constant RJ6 265 (1431655765), Cond.constant RJ6 266 (858993459), Cond.constant RJ6 267 (252645135), Cond.methodLink RX3 15 yX3_runs, Cond.static yX3_runs, Cond.code yX3_runs cX3_runs 3 (some .int), Cond.methodLink RX3 21 yX3_longestRun, Cond.static yX3_longestRun, Cond.code yX3_longestRun cX3_longestRun 3 (some .int), Cond.methodLink RX3 29 yX3_firstHit, Cond.static yX3_firstHit]
def wsX10_dealt_r3 : List Cond := [Cond.code yX3_firstHit cX3_firstHit 3 (some .int), Cond.methodLink RX3 32 yX4_timesIn, Cond.static yX4_timesIn, Cond.initialized RX4, Cond.code yX4_timesIn cX4_timesIn 7 (some .int), Cond.methodLink RX4 11 yX4_lengthOf, Cond.static yX4_lengthOf, Cond.code yX4_lengthOf cX4_lengthOf 2 (some .int), Cond.methodLink RX4 15 yJ6_bitCount_0f7a4, Cond.methodLink RX10 178 yX2_howMany, Cond.static yX2_howMany, Cond.initialized RX2, Cond.code yX2_howMany cX2_howMany 4 (some .int), Cond.fieldLink RX2 7 "RowsOfTwo$Row" "hits" "I", Cond.fieldLink RX2 19 "RowsOfTwo$Row" "length" "I", Cond.methodLink RX2 13 yJ6_bitCount_0f7a4, Cond.methodLink RX10 202 yX2_lowest, Cond.static yX2_lowest, Cond.code yX2_lowest cX2_lowest 1 (some .int), Cond.methodLink RX10 209 yX2_after, Cond.static yX2_after, Cond.code yX2_after cX2_after 3 (some .int), Cond.methodLink RX10 184 yX10_millionths, Cond.static yX10_millionths]
def wsX10_dealt_r4 : List Cond := [Cond.code yX10_millionths cX10_millionths 2 (some .int), Cond.constantLong RX10 301 (1000000)]
def wsX10_dealt : List Cond := .code yX10_dealt cX10_dealt 5 (some .int) :: ((wsX10_dealt_r1 ++ (wsX10_dealt_r2 ++ (wsX10_dealt_r3 ++ wsX10_dealt_r4))) ++ wsX100 ++ wsX50)
def wsX10_strangest_r1 : List Cond := [Cond.fieldLink RX10 11 "RowsOfTwo" "rows" "[LRowsOfTwo$Row;", Cond.fieldLink RX10 69 "RowsOfTwo$Row" "length" "I", Cond.methodLink RX10 54 yX10_isRow, Cond.static yX10_isRow, Cond.initialized RX10, Cond.code yX10_isRow cX10_isRow 1 (some .boolean), Cond.methodLink RX10 102 yX5_isWhole, Cond.instanceMethod yX5_isWhole, Cond.selects RX5 yX5_isWhole yX5_isWhole, Cond.initialized RX5, Cond.code yX5_isWhole cX5_isWhole 1 (some .boolean), Cond.fieldLink RX5 15 "RowsOfTwo$Row" "unseen" "I", Cond.methodLink RX10 174 yX10_dealtAsFar, Cond.instanceMethod yX10_dealtAsFar, Cond.selects RX10 yX10_dealtAsFar yX10_dealtAsFar, Cond.code yX10_dealtAsFar cX10_dealtAsFar 10 (some .int), Cond.fieldLink RX10 48 "RowsOfTwo" "pattern" "I", Cond.methodLink RX10 105 yX10_numberOf, Cond.instanceMethod yX10_numberOf, Cond.selects RX10 yX10_numberOf yX10_numberOf, Cond.code yX10_numberOf cX10_numberOf 3 (some .int), Cond.fieldLink RX10 119 "RowsOfTwo$Row" "hits" "I", Cond.methodLink RX10 297 yX3_measure, Cond.static yX3_measure]
def wsX10_strangest_r2 : List Cond := [Cond.initialized RX3, Cond.code yX3_measure cX3_measure 4 (some .int), Cond.methodLink RX3 24 Lib.Math.max.name, Cond.static Lib.Math.max.name, Cond.initialized "java/lang/Math", Cond.code Lib.Math.max.name Lib.Math.max.code 2 (some .int), Cond.methodLink RX3 9 yJ6_bitCount_0f7a4, Cond.static yJ6_bitCount_0f7a4, Cond.initialized RJ6, Cond.code yJ6_bitCount_0f7a4 cJ6_bitCount_0f7a4 1 (some .int), Cond.constant RJ6 265 (1431655765), Cond.constant RJ6 266 (858993459), Cond.constant RJ6 267 (252645135), Cond.methodLink RX3 15 yX3_runs, Cond.static yX3_runs, Cond.code yX3_runs cX3_runs 3 (some .int), Cond.methodLink RX3 21 yX3_longestRun, Cond.static yX3_longestRun, Cond.code yX3_longestRun cX3_longestRun 3 (some .int), Cond.methodLink RX3 29 yX3_firstHit, Cond.static yX3_firstHit, Cond.code yX3_firstHit cX3_firstHit 3 (some .int), Cond.methodLink RX3 32 yX4_timesIn, Cond.static yX4_timesIn]
def wsX10_strangest_r3 : List Cond := [Cond.initialized RX4, Cond.code yX4_timesIn cX4_timesIn 7 (some .int), Cond.methodLink RX4 11 yX4_lengthOf, Cond.static yX4_lengthOf, Cond.code yX4_lengthOf cX4_lengthOf 2 (some .int), Cond.methodLink RX4 15 yJ6_bitCount_0f7a4, Cond.methodLink RX10 178 yX2_howMany, Cond.static yX2_howMany, Cond.initialized RX2, Cond.code yX2_howMany cX2_howMany 4 (some .int), Cond.fieldLink RX2 7 "RowsOfTwo$Row" "hits" "I", Cond.fieldLink RX2 19 "RowsOfTwo$Row" "length" "I", Cond.methodLink RX2 13 yJ6_bitCount_0f7a4, Cond.methodLink RX10 202 yX2_lowest, Cond.static yX2_lowest, Cond.code yX2_lowest cX2_lowest 1 (some .int), Cond.methodLink RX10 209 yX2_after, Cond.static yX2_after, Cond.code yX2_after cX2_after 3 (some .int)]
def wsX10_strangest : List Cond := .code yX10_strangest cX10_strangest 8 (some .int) :: ((wsX10_strangest_r1 ++ (wsX10_strangest_r2 ++ wsX10_strangest_r3)) ++ wsX100 ++ wsX50)
def wsX10_isBehind : List Cond := .code yX10_isBehind cX10_isBehind 1 (some .boolean) :: ([])
def wsX10_hot_r1 : List Cond := [Cond.fieldLink RX10 11 "RowsOfTwo" "rows" "[LRowsOfTwo$Row;", Cond.fieldLink RX10 119 "RowsOfTwo$Row" "hits" "I", Cond.methodLink RX10 54 yX10_isRow, Cond.static yX10_isRow, Cond.initialized RX10, Cond.code yX10_isRow cX10_isRow 1 (some .boolean), Cond.methodLink RX10 190 yX10_isBehind, Cond.static yX10_isBehind, Cond.code yX10_isBehind cX10_isBehind 1 (some .boolean), Cond.methodLink RX10 143 yX10_isPart, Cond.static yX10_isPart, Cond.code yX10_isPart cX10_isPart 1 (some .boolean), Cond.methodLink RX10 146 yX10_refusal, Cond.static yX10_refusal, Cond.code yX10_refusal cX10_refusal 1 (some .long), Cond.constantLong RX10 295 (-9223372036854775808), Cond.methodLink RX10 102 yX5_isWhole, Cond.instanceMethod yX5_isWhole, Cond.selects RX5 yX5_isWhole yX5_isWhole, Cond.initialized RX5, Cond.code yX5_isWhole cX5_isWhole 1 (some .boolean), Cond.fieldLink RX5 15 "RowsOfTwo$Row" "unseen" "I", Cond.methodLink RX10 193 yX2_behindHits, Cond.static yX2_behindHits]
def wsX10_hot_r2 : List Cond := [Cond.initialized RX2, Cond.code yX2_behindHits cX2_behindHits 4 (some .int), Cond.methodLink RX10 157 yJ6_bitCount_0f7a4, Cond.static yJ6_bitCount_0f7a4, Cond.initialized RJ6, Cond.code yJ6_bitCount_0f7a4 cJ6_bitCount_0f7a4 1 (some .int), Cond.constant RJ6 265 (1431655765), Cond.constant RJ6 266 (858993459), Cond.constant RJ6 267 (252645135), Cond.methodLink RX10 196 yX1_part, Cond.static yX1_part, Cond.initialized RX1, Cond.code yX1_part cX1_part 7 (some .long), Cond.methodLink RX1 7 yX1_commonDivisor, Cond.static yX1_commonDivisor, Cond.code yX1_commonDivisor cX1_commonDivisor 11 (some .long)]
def wsX10_hot : List Cond := .code yX10_hot cX10_hot 7 (some .long) :: ((wsX10_hot_r1 ++ wsX10_hot_r2) ++ wsX100 ++ wsX50)
def wsX10_already_r1 : List Cond := [Cond.fieldLink RX10 11 "RowsOfTwo" "rows" "[LRowsOfTwo$Row;", Cond.constantLong RX10 212 (360360), Cond.methodLink RX10 54 yX10_isRow, Cond.static yX10_isRow, Cond.initialized RX10, Cond.code yX10_isRow cX10_isRow 1 (some .boolean), Cond.methodLink RX10 190 yX10_isBehind, Cond.static yX10_isBehind, Cond.code yX10_isBehind cX10_isBehind 1 (some .boolean), Cond.methodLink RX10 143 yX10_isPart, Cond.static yX10_isPart, Cond.code yX10_isPart cX10_isPart 1 (some .boolean), Cond.methodLink RX10 146 yX10_refusal, Cond.static yX10_refusal, Cond.code yX10_refusal cX10_refusal 1 (some .long), Cond.constantLong RX10 295 (-9223372036854775808), Cond.methodLink RX10 102 yX5_isWhole, Cond.instanceMethod yX5_isWhole, Cond.selects RX5 yX5_isWhole yX5_isWhole, Cond.initialized RX5, Cond.code yX5_isWhole cX5_isWhole 1 (some .boolean), Cond.fieldLink RX5 15 "RowsOfTwo$Row" "unseen" "I", Cond.methodLink RX10 178 yX2_howMany, Cond.static yX2_howMany]
def wsX10_already_r2 : List Cond := [Cond.initialized RX2, Cond.code yX2_howMany cX2_howMany 4 (some .int), Cond.fieldLink RX2 7 "RowsOfTwo$Row" "hits" "I", Cond.fieldLink RX2 19 "RowsOfTwo$Row" "length" "I", Cond.methodLink RX2 13 yJ6_bitCount_0f7a4, Cond.static yJ6_bitCount_0f7a4, Cond.initialized RJ6, Cond.code yJ6_bitCount_0f7a4 cJ6_bitCount_0f7a4 1 (some .int), Cond.constant RJ6 265 (1431655765), Cond.constant RJ6 266 (858993459), Cond.constant RJ6 267 (252645135), Cond.methodLink RX10 202 yX2_lowest, Cond.static yX2_lowest, Cond.code yX2_lowest cX2_lowest 1 (some .int), Cond.methodLink RX10 193 yX2_behindHits, Cond.static yX2_behindHits, Cond.code yX2_behindHits cX2_behindHits 4 (some .int), Cond.methodLink RX10 205 yX2_heat, Cond.static yX2_heat, Cond.code yX2_heat cX2_heat 3 (some .long), Cond.constantLong RX2 24 (360360), Cond.methodLink RX10 209 yX2_after, Cond.static yX2_after, Cond.code yX2_after cX2_after 3 (some .int)]
def wsX10_already_r3 : List Cond := [Cond.methodLink RX10 196 yX1_part, Cond.static yX1_part, Cond.initialized RX1, Cond.code yX1_part cX1_part 7 (some .long), Cond.methodLink RX1 7 yX1_commonDivisor, Cond.static yX1_commonDivisor, Cond.code yX1_commonDivisor cX1_commonDivisor 11 (some .long)]
def wsX10_already : List Cond := .code yX10_already cX10_already 12 (some .long) :: ((wsX10_already_r1 ++ (wsX10_already_r2 ++ wsX10_already_r3)) ++ wsX100 ++ wsX50)
def wsX10_waits_r1 : List Cond := [Cond.fieldLink RX10 48 "RowsOfTwo" "pattern" "I", Cond.fieldLink RX10 44 "RowsOfTwo" "odds" "I", Cond.methodLink RX10 143 yX10_isPart, Cond.static yX10_isPart, Cond.initialized RX10, Cond.code yX10_isPart cX10_isPart 1 (some .boolean), Cond.methodLink RX10 146 yX10_refusal, Cond.static yX10_refusal, Cond.code yX10_refusal cX10_refusal 1 (some .long), Cond.constantLong RX10 295 (-9223372036854775808), Cond.methodLink RX10 214 yX4_lead, Cond.static yX4_lead, Cond.initialized RX4, Cond.code yX4_lead cX4_lead 14 (some .long), Cond.constantLong RX4 28 (16), Cond.methodLink RX4 11 yX4_lengthOf, Cond.static yX4_lengthOf, Cond.code yX4_lengthOf cX4_lengthOf 2 (some .int), Cond.methodLink RX4 15 yJ6_bitCount_0f7a4, Cond.static yJ6_bitCount_0f7a4, Cond.initialized RJ6, Cond.code yJ6_bitCount_0f7a4 cJ6_bitCount_0f7a4 1 (some .int), Cond.constant RJ6 265 (1431655765), Cond.constant RJ6 266 (858993459)]
def wsX10_waits_r2 : List Cond := [Cond.constant RJ6 267 (252645135), Cond.methodLink RX4 24 yX4_chanceParts, Cond.static yX4_chanceParts, Cond.code yX4_chanceParts cX4_chanceParts 3 (some .long), Cond.methodLink RX4 30 yX1_power, Cond.static yX1_power, Cond.initialized RX1, Cond.code yX1_power cX1_power 6 (some .long), Cond.methodLink RX10 220 yX4_leadUnit, Cond.static yX4_leadUnit, Cond.code yX4_leadUnit cX4_leadUnit 1 (some .long), Cond.methodLink RX10 196 yX1_part, Cond.static yX1_part, Cond.code yX1_part cX1_part 7 (some .long), Cond.methodLink RX1 7 yX1_commonDivisor, Cond.static yX1_commonDivisor, Cond.code yX1_commonDivisor cX1_commonDivisor 11 (some .long)]
def wsX10_waits : List Cond := .code yX10_waits cX10_waits 2 (some .long) :: ((wsX10_waits_r1 ++ wsX10_waits_r2) ++ wsX100)
def wsX10_isFirstTold : List Cond := .code yX10_isFirstTold cX10_isFirstTold 1 (some .boolean) :: ([])
def wsX10_first_r1 : List Cond := [Cond.fieldLink RX10 44 "RowsOfTwo" "odds" "I", Cond.methodLink RX10 223 yX10_isFirstTold, Cond.static yX10_isFirstTold, Cond.initialized RX10, Cond.code yX10_isFirstTold cX10_isFirstTold 1 (some .boolean), Cond.methodLink RX10 143 yX10_isPart, Cond.static yX10_isPart, Cond.code yX10_isPart cX10_isPart 1 (some .boolean), Cond.methodLink RX10 146 yX10_refusal, Cond.static yX10_refusal, Cond.code yX10_refusal cX10_refusal 1 (some .long), Cond.constantLong RX10 295 (-9223372036854775808), Cond.methodLink RX10 226 yX4_standsIn, Cond.static yX4_standsIn, Cond.initialized RX4, Cond.code yX4_standsIn cX4_standsIn 3 (some .boolean), Cond.methodLink RX4 11 yX4_lengthOf, Cond.static yX4_lengthOf, Cond.code yX4_lengthOf cX4_lengthOf 2 (some .int), Cond.methodLink RX4 20 yX4_timesIn, Cond.static yX4_timesIn, Cond.code yX4_timesIn cX4_timesIn 7 (some .int), Cond.methodLink RX4 15 yJ6_bitCount_0f7a4, Cond.static yJ6_bitCount_0f7a4]
def wsX10_first_r2 : List Cond := [Cond.initialized RJ6, Cond.code yJ6_bitCount_0f7a4 cJ6_bitCount_0f7a4 1 (some .int), Cond.constant RJ6 265 (1431655765), Cond.constant RJ6 266 (858993459), Cond.constant RJ6 267 (252645135), Cond.methodLink RX10 214 yX4_lead, Cond.static yX4_lead, Cond.code yX4_lead cX4_lead 14 (some .long), Cond.constantLong RX4 28 (16), Cond.methodLink RX4 24 yX4_chanceParts, Cond.static yX4_chanceParts, Cond.code yX4_chanceParts cX4_chanceParts 3 (some .long), Cond.methodLink RX4 30 yX1_power, Cond.static yX1_power, Cond.initialized RX1, Cond.code yX1_power cX1_power 6 (some .long), Cond.methodLink RX10 196 yX1_part, Cond.static yX1_part, Cond.code yX1_part cX1_part 7 (some .long), Cond.methodLink RX1 7 yX1_commonDivisor, Cond.static yX1_commonDivisor, Cond.code yX1_commonDivisor cX1_commonDivisor 11 (some .long)]
def wsX10_first : List Cond := .code yX10_first cX10_first 8 (some .long) :: ((wsX10_first_r1 ++ wsX10_first_r2) ++ wsX100)
def wsX10_agree_r1 : List Cond := [Cond.fieldLink RX10 11 "RowsOfTwo" "rows" "[LRowsOfTwo$Row;", Cond.fieldLink RX10 69 "RowsOfTwo$Row" "length" "I", Cond.fieldLink RX10 119 "RowsOfTwo$Row" "hits" "I", Cond.methodLink RX10 54 yX10_isRow, Cond.static yX10_isRow, Cond.initialized RX10, Cond.code yX10_isRow cX10_isRow 1 (some .boolean), Cond.methodLink RX10 143 yX10_isPart, Cond.static yX10_isPart, Cond.code yX10_isPart cX10_isPart 1 (some .boolean), Cond.methodLink RX10 102 yX5_isWhole, Cond.instanceMethod yX5_isWhole, Cond.selects RX5 yX5_isWhole yX5_isWhole, Cond.initialized RX5, Cond.code yX5_isWhole cX5_isWhole 1 (some .boolean), Cond.fieldLink RX5 15 "RowsOfTwo$Row" "unseen" "I", Cond.methodLink RX10 157 yJ6_bitCount_0f7a4, Cond.static yJ6_bitCount_0f7a4, Cond.initialized RJ6, Cond.code yJ6_bitCount_0f7a4 cJ6_bitCount_0f7a4 1 (some .int), Cond.constant RJ6 265 (1431655765), Cond.constant RJ6 266 (858993459), Cond.constant RJ6 267 (252645135), Cond.methodLink RX10 178 yX2_howMany]
def wsX10_agree_r2 : List Cond := [Cond.static yX2_howMany, Cond.initialized RX2, Cond.code yX2_howMany cX2_howMany 4 (some .int), Cond.fieldLink RX2 7 "RowsOfTwo$Row" "hits" "I", Cond.fieldLink RX2 19 "RowsOfTwo$Row" "length" "I", Cond.methodLink RX2 13 yJ6_bitCount_0f7a4, Cond.methodLink RX10 202 yX2_lowest, Cond.static yX2_lowest, Cond.code yX2_lowest cX2_lowest 1 (some .int), Cond.methodLink RX10 209 yX2_after, Cond.static yX2_after, Cond.code yX2_after cX2_after 3 (some .int), Cond.methodLink RX10 184 yX10_millionths, Cond.static yX10_millionths, Cond.code yX10_millionths cX10_millionths 2 (some .int), Cond.constantLong RX10 301 (1000000)]
def wsX10_agree : List Cond := .code yX10_agree cX10_agree 11 (some .int) :: ((wsX10_agree_r1 ++ wsX10_agree_r2) ++ wsX100 ++ wsX50)
def wsX10_backwards : List Cond := .code yX10_backwards cX10_backwards 4 (some .int) :: ([])
def wsX10_twice : List Cond := .code yX10_twice cX10_twice 7 (some .int) :: ([.fieldLink RX10 11 "RowsOfTwo" "rows" "[LRowsOfTwo$Row;", .fieldLink RX10 69 "RowsOfTwo$Row" "length" "I", .fieldLink RX10 119 "RowsOfTwo$Row" "hits" "I", .methodLink RX10 54 yX10_isRow, .static yX10_isRow, .initialized RX10, .code yX10_isRow cX10_isRow 1 (some .boolean), .methodLink RX10 102 yX5_isWhole, .instanceMethod yX5_isWhole, .selects RX5 yX5_isWhole yX5_isWhole, .initialized RX5, .code yX5_isWhole cX5_isWhole 1 (some .boolean), .fieldLink RX5 15 "RowsOfTwo$Row" "unseen" "I", .methodLink RX10 230 yX10_backwards, .static yX10_backwards, .code yX10_backwards cX10_backwards 4 (some .int)] ++ wsX100 ++ wsX50)
def wsX10_next_r1 : List Cond := [Cond.fieldLink RX10 11 "RowsOfTwo" "rows" "[LRowsOfTwo$Row;", Cond.fieldLink RX10 69 "RowsOfTwo$Row" "length" "I", Cond.fieldLink RX10 154 "RowsOfTwo$Row" "unseen" "I", Cond.methodLink RX10 54 yX10_isRow, Cond.static yX10_isRow, Cond.initialized RX10, Cond.code yX10_isRow cX10_isRow 1 (some .boolean), Cond.methodLink RX10 233 yX5_isBehindItsEnd, Cond.instanceMethod yX5_isBehindItsEnd, Cond.selects RX5 yX5_isBehindItsEnd yX5_isBehindItsEnd, Cond.initialized RX5, Cond.code yX5_isBehindItsEnd cX5_isBehindItsEnd 6 (some .boolean), Cond.fieldLink RX5 9 "RowsOfTwo$Row" "length" "I", Cond.fieldLink RX5 15 "RowsOfTwo$Row" "unseen" "I", Cond.fieldLink RX5 18 "RowsOfTwo$Row" "hits" "I", Cond.methodLink RX10 93 yX5_signAt, Cond.instanceMethod yX5_signAt, Cond.selects RX5 yX5_signAt yX5_signAt, Cond.code yX5_signAt cX5_signAt 3 (some .int), Cond.methodLink RX10 196 yX1_part, Cond.static yX1_part, Cond.initialized RX1, Cond.code yX1_part cX1_part 7 (some .long), Cond.methodLink RX1 7 yX1_commonDivisor]
def wsX10_next_r2 : List Cond := [Cond.static yX1_commonDivisor, Cond.code yX1_commonDivisor cX1_commonDivisor 11 (some .long)]
def wsX10_next : List Cond := .code yX10_next cX10_next 9 (some .int) :: ((wsX10_next_r1 ++ wsX10_next_r2) ++ wsX100 ++ wsX50)
def wsX10_isType : List Cond := .code yX10_isType cX10_isType 1 (some .boolean) :: ([])
def wsX10_sheet : List Cond := .code yX10_sheet cX10_sheet 4 (some .int) :: ([.fieldLink RX10 18 "RowsOfTwo" "sheets" "[LRowsOfTwo$Sheet;", .methodLink RX10 72 yX10_isSheet, .static yX10_isSheet, .initialized RX10, .code yX10_isSheet cX10_isSheet 1 (some .boolean), .methodLink RX10 236 yX10_isType, .static yX10_isType, .code yX10_isType cX10_isType 1 (some .boolean), .methodLink RX10 79 yX10_found, .instanceMethod yX10_found, .selects RX10 yX10_found yX10_found, .code yX10_found cX10_found 2 (some .int), .fieldLink RX10 51 "RowsOfTwo" "finding" "I", .methodLink RX10 239 yX7_renew, .instanceMethod yX7_renew, .selects RX7 yX7_renew yX7_renew, .initialized RX7, .code yX7_renew cX7_renew 4 none, .fieldLink RX7 9 "RowsOfTwo$Sheet" "items" "[I", .fieldLink RX7 15 "RowsOfTwo$Sheet" "lost" "Z", .fieldLink RX7 19 "RowsOfTwo$Sheet" "kind" "I", .fieldLink RX7 23 "RowsOfTwo$Sheet" "size" "I"] ++ wsX100 ++ wsX70)
def wsX10_lose : List Cond := .code yX10_lose cX10_lose 2 (some .int) :: ([.fieldLink RX10 18 "RowsOfTwo" "sheets" "[LRowsOfTwo$Sheet;", .fieldLink RX10 75 "RowsOfTwo$Sheet" "lost" "Z", .fieldLink RX10 83 "RowsOfTwo$Sheet" "size" "I", .methodLink RX10 72 yX10_isSheet, .static yX10_isSheet, .initialized RX10, .code yX10_isSheet cX10_isSheet 1 (some .boolean), .methodLink RX10 79 yX10_found, .instanceMethod yX10_found, .selects RX10 yX10_found yX10_found, .code yX10_found cX10_found 2 (some .int), .fieldLink RX10 51 "RowsOfTwo" "finding" "I"] ++ wsX100 ++ wsX70)
def wsX10_refusesItem : List Cond := .code yX10_refusesItem cX10_refusesItem 4 (some .int) :: ([.fieldLink RX10 18 "RowsOfTwo" "sheets" "[LRowsOfTwo$Sheet;", .fieldLink RX10 75 "RowsOfTwo$Sheet" "lost" "Z", .fieldLink RX10 251 "RowsOfTwo$Sheet" "kind" "I", .fieldLink RX10 83 "RowsOfTwo$Sheet" "size" "I", .methodLink RX10 72 yX10_isSheet, .static yX10_isSheet, .initialized RX10, .code yX10_isSheet cX10_isSheet 1 (some .boolean), .methodLink RX10 236 yX10_isType, .static yX10_isType, .code yX10_isType cX10_isType 1 (some .boolean), .methodLink RX10 79 yX10_found, .instanceMethod yX10_found, .selects RX10 yX10_found yX10_found, .code yX10_found cX10_found 2 (some .int), .fieldLink RX10 51 "RowsOfTwo" "finding" "I"] ++ wsX100 ++ wsX70)
def wsX10_put_r1 : List Cond := [Cond.fieldLink RX10 18 "RowsOfTwo" "sheets" "[LRowsOfTwo$Sheet;", Cond.methodLink RX10 243 yX10_refusesItem, Cond.instanceMethod yX10_refusesItem, Cond.selects RX10 yX10_refusesItem yX10_refusesItem, Cond.initialized RX10, Cond.code yX10_refusesItem cX10_refusesItem 4 (some .int), Cond.fieldLink RX10 75 "RowsOfTwo$Sheet" "lost" "Z", Cond.fieldLink RX10 251 "RowsOfTwo$Sheet" "kind" "I", Cond.fieldLink RX10 83 "RowsOfTwo$Sheet" "size" "I", Cond.methodLink RX10 72 yX10_isSheet, Cond.static yX10_isSheet, Cond.code yX10_isSheet cX10_isSheet 1 (some .boolean), Cond.methodLink RX10 236 yX10_isType, Cond.static yX10_isType, Cond.code yX10_isType cX10_isType 1 (some .boolean), Cond.methodLink RX10 79 yX10_found, Cond.instanceMethod yX10_found, Cond.selects RX10 yX10_found yX10_found, Cond.code yX10_found cX10_found 2 (some .int), Cond.fieldLink RX10 51 "RowsOfTwo" "finding" "I", Cond.methodLink RX10 247 yX7_store, Cond.instanceMethod yX7_store, Cond.selects RX7 yX7_store yX7_store, Cond.initialized RX7]
def wsX10_put_r2 : List Cond := [Cond.code yX7_store cX7_store 3 none, Cond.fieldLink RX7 19 "RowsOfTwo$Sheet" "kind" "I", Cond.fieldLink RX7 9 "RowsOfTwo$Sheet" "items" "[I"]
def wsX10_put : List Cond := .code yX10_put cX10_put 6 (some .int) :: ((wsX10_put_r1 ++ wsX10_put_r2) ++ wsX100 ++ wsX70)
def wsX10_get : List Cond := .code yX10_get cX10_get 4 (some .int) :: ([.constant RX10 250 (-2147483648), .fieldLink RX10 18 "RowsOfTwo" "sheets" "[LRowsOfTwo$Sheet;", .fieldLink RX10 86 "RowsOfTwo$Sheet" "items" "[I", .methodLink RX10 243 yX10_refusesItem, .instanceMethod yX10_refusesItem, .selects RX10 yX10_refusesItem yX10_refusesItem, .initialized RX10, .code yX10_refusesItem cX10_refusesItem 4 (some .int), .fieldLink RX10 75 "RowsOfTwo$Sheet" "lost" "Z", .fieldLink RX10 251 "RowsOfTwo$Sheet" "kind" "I", .fieldLink RX10 83 "RowsOfTwo$Sheet" "size" "I", .methodLink RX10 72 yX10_isSheet, .static yX10_isSheet, .code yX10_isSheet cX10_isSheet 1 (some .boolean), .methodLink RX10 236 yX10_isType, .static yX10_isType, .code yX10_isType cX10_isType 1 (some .boolean), .methodLink RX10 79 yX10_found, .instanceMethod yX10_found, .selects RX10 yX10_found yX10_found, .code yX10_found cX10_found 2 (some .int), .fieldLink RX10 51 "RowsOfTwo" "finding" "I"] ++ wsX100 ++ wsX70)
def wsX10_copy : List Cond := .code yX10_copy cX10_copy 8 (some .int) :: ([.fieldLink RX10 18 "RowsOfTwo" "sheets" "[LRowsOfTwo$Sheet;", .fieldLink RX10 75 "RowsOfTwo$Sheet" "lost" "Z", .fieldLink RX10 251 "RowsOfTwo$Sheet" "kind" "I", .fieldLink RX10 86 "RowsOfTwo$Sheet" "items" "[I", .methodLink RX10 257 arraycopyName, .native arraycopyName, .static arraycopyName, .initialized "java/lang/System", .methodLink RX10 72 yX10_isSheet, .static yX10_isSheet, .initialized RX10, .code yX10_isSheet cX10_isSheet 1 (some .boolean), .methodLink RX10 79 yX10_found, .instanceMethod yX10_found, .selects RX10 yX10_found yX10_found, .code yX10_found cX10_found 2 (some .int), .fieldLink RX10 51 "RowsOfTwo" "finding" "I", .methodLink RX10 254 yX7_hasSpan, .instanceMethod yX7_hasSpan, .selects RX7 yX7_hasSpan yX7_hasSpan, .initialized RX7, .code yX7_hasSpan cX7_hasSpan 3 (some .boolean), .fieldLink RX7 23 "RowsOfTwo$Sheet" "size" "I"] ++ wsX100 ++ wsX70)
def wsX10_write_r1 : List Cond := [Cond.fieldLink RX10 18 "RowsOfTwo" "sheets" "[LRowsOfTwo$Sheet;", Cond.fieldLink RX10 75 "RowsOfTwo$Sheet" "lost" "Z", Cond.fieldLink RX10 83 "RowsOfTwo$Sheet" "size" "I", Cond.fieldLink RX10 11 "RowsOfTwo" "rows" "[LRowsOfTwo$Row;", Cond.fieldLink RX10 69 "RowsOfTwo$Row" "length" "I", Cond.methodLink RX10 263 Lib.Math.min.name, Cond.static Lib.Math.min.name, Cond.initialized "java/lang/Math", Cond.code Lib.Math.min.name Lib.Math.min.code 2 (some .int), Cond.methodLink RX10 54 yX10_isRow, Cond.static yX10_isRow, Cond.initialized RX10, Cond.code yX10_isRow cX10_isRow 1 (some .boolean), Cond.methodLink RX10 72 yX10_isSheet, Cond.static yX10_isSheet, Cond.code yX10_isSheet cX10_isSheet 1 (some .boolean), Cond.methodLink RX10 79 yX10_found, Cond.instanceMethod yX10_found, Cond.selects RX10 yX10_found yX10_found, Cond.code yX10_found cX10_found 2 (some .int), Cond.fieldLink RX10 51 "RowsOfTwo" "finding" "I", Cond.methodLink RX10 93 yX5_signAt, Cond.instanceMethod yX5_signAt, Cond.selects RX5 yX5_signAt yX5_signAt]
def wsX10_write_r2 : List Cond := [Cond.initialized RX5, Cond.code yX5_signAt cX5_signAt 3 (some .int), Cond.fieldLink RX5 9 "RowsOfTwo$Row" "length" "I", Cond.fieldLink RX5 15 "RowsOfTwo$Row" "unseen" "I", Cond.fieldLink RX5 18 "RowsOfTwo$Row" "hits" "I", Cond.methodLink RX10 247 yX7_store, Cond.instanceMethod yX7_store, Cond.selects RX7 yX7_store yX7_store, Cond.initialized RX7, Cond.code yX7_store cX7_store 3 none, Cond.fieldLink RX7 19 "RowsOfTwo$Sheet" "kind" "I", Cond.fieldLink RX7 9 "RowsOfTwo$Sheet" "items" "[I"]
def wsX10_write : List Cond := .code yX10_write cX10_write 6 (some .int) :: ((wsX10_write_r1 ++ wsX10_write_r2) ++ wsX100 ++ wsX70 ++ wsX50)
def wsX10_wholeRows : List Cond := .code yX10_wholeRows cX10_wholeRows 3 (some .int) :: ([.fieldLink RX10 11 "RowsOfTwo" "rows" "[LRowsOfTwo$Row;", .methodLink RX10 102 yX5_isWhole, .instanceMethod yX5_isWhole, .selects RX5 yX5_isWhole yX5_isWhole, .initialized RX5, .code yX5_isWhole cX5_isWhole 1 (some .boolean), .fieldLink RX5 15 "RowsOfTwo$Row" "unseen" "I"] ++ wsX100 ++ wsX50)
def wsX10_count : List Cond := .code yX10_count cX10_count 2 (some .int) :: ([.fieldLink RX10 11 "RowsOfTwo" "rows" "[LRowsOfTwo$Row;", .fieldLink RX10 69 "RowsOfTwo$Row" "length" "I", .fieldLink RX10 26 "RowsOfTwo" "sentences" "LRowsOfTwo$Sentences;", .fieldLink RX10 109 "RowsOfTwo$Sentences" "length" "I", .fieldLink RX10 44 "RowsOfTwo" "odds" "I", .fieldLink RX10 48 "RowsOfTwo" "pattern" "I", .fieldLink RX10 51 "RowsOfTwo" "finding" "I", .methodLink RX10 54 yX10_isRow, .static yX10_isRow, .initialized RX10, .code yX10_isRow cX10_isRow 1 (some .boolean), .methodLink RX10 268 yX10_wholeRows, .instanceMethod yX10_wholeRows, .selects RX10 yX10_wholeRows yX10_wholeRows, .code yX10_wholeRows cX10_wholeRows 3 (some .int), .methodLink RX10 102 yX5_isWhole, .instanceMethod yX5_isWhole, .selects RX5 yX5_isWhole yX5_isWhole, .initialized RX5, .code yX5_isWhole cX5_isWhole 1 (some .boolean), .fieldLink RX5 15 "RowsOfTwo$Row" "unseen" "I"] ++ wsX100 ++ wsX50 ++ wsX60)
def wsX10_digest_r1 : List Cond := [Cond.constantLong RX10 271 (17), Cond.constantLong RX10 273 (31), Cond.fieldLink RX10 11 "RowsOfTwo" "rows" "[LRowsOfTwo$Row;", Cond.fieldLink RX10 69 "RowsOfTwo$Row" "length" "I", Cond.methodLink RX10 275 yX10_count, Cond.instanceMethod yX10_count, Cond.selects RX10 yX10_count yX10_count, Cond.initialized RX10, Cond.code yX10_count cX10_count 2 (some .int), Cond.fieldLink RX10 26 "RowsOfTwo" "sentences" "LRowsOfTwo$Sentences;", Cond.fieldLink RX10 109 "RowsOfTwo$Sentences" "length" "I", Cond.fieldLink RX10 44 "RowsOfTwo" "odds" "I", Cond.fieldLink RX10 48 "RowsOfTwo" "pattern" "I", Cond.fieldLink RX10 51 "RowsOfTwo" "finding" "I", Cond.methodLink RX10 54 yX10_isRow, Cond.static yX10_isRow, Cond.code yX10_isRow cX10_isRow 1 (some .boolean), Cond.methodLink RX10 268 yX10_wholeRows, Cond.instanceMethod yX10_wholeRows, Cond.selects RX10 yX10_wholeRows yX10_wholeRows, Cond.code yX10_wholeRows cX10_wholeRows 3 (some .int), Cond.methodLink RX10 102 yX5_isWhole, Cond.instanceMethod yX5_isWhole, Cond.selects RX5 yX5_isWhole yX5_isWhole]
def wsX10_digest_r2 : List Cond := [Cond.initialized RX5, Cond.code yX5_isWhole cX5_isWhole 1 (some .boolean), Cond.fieldLink RX5 15 "RowsOfTwo$Row" "unseen" "I", Cond.methodLink RX10 93 yX5_signAt, Cond.instanceMethod yX5_signAt, Cond.selects RX5 yX5_signAt yX5_signAt, Cond.code yX5_signAt cX5_signAt 3 (some .int), Cond.fieldLink RX5 9 "RowsOfTwo$Row" "length" "I", Cond.fieldLink RX5 18 "RowsOfTwo$Row" "hits" "I", Cond.methodLink RX10 278 yX10_shows, Cond.instanceMethod yX10_shows, Cond.selects RX10 yX10_shows yX10_shows, Cond.code yX10_shows cX10_shows 3 (some .int), Cond.methodLink RX10 99 yX10_isNumber, Cond.static yX10_isNumber, Cond.code yX10_isNumber cX10_isNumber 1 (some .boolean), Cond.methodLink RX10 105 yX10_numberOf, Cond.instanceMethod yX10_numberOf, Cond.selects RX10 yX10_numberOf yX10_numberOf, Cond.code yX10_numberOf cX10_numberOf 3 (some .int), Cond.fieldLink RX10 119 "RowsOfTwo$Row" "hits" "I", Cond.methodLink RX10 297 yX3_measure, Cond.static yX3_measure, Cond.initialized RX3]
def wsX10_digest_r3 : List Cond := [Cond.code yX3_measure cX3_measure 4 (some .int), Cond.methodLink RX3 24 Lib.Math.max.name, Cond.static Lib.Math.max.name, Cond.initialized "java/lang/Math", Cond.code Lib.Math.max.name Lib.Math.max.code 2 (some .int), Cond.methodLink RX3 9 yJ6_bitCount_0f7a4, Cond.static yJ6_bitCount_0f7a4, Cond.initialized RJ6, Cond.code yJ6_bitCount_0f7a4 cJ6_bitCount_0f7a4 1 (some .int), Cond.constant RJ6 265 (1431655765), Cond.constant RJ6 266 (858993459), Cond.constant RJ6 267 (252645135), Cond.methodLink RX3 15 yX3_runs, Cond.static yX3_runs, Cond.code yX3_runs cX3_runs 3 (some .int), Cond.methodLink RX3 21 yX3_longestRun, Cond.static yX3_longestRun, Cond.code yX3_longestRun cX3_longestRun 3 (some .int), Cond.methodLink RX3 29 yX3_firstHit, Cond.static yX3_firstHit, Cond.code yX3_firstHit cX3_firstHit 3 (some .int), Cond.methodLink RX3 32 yX4_timesIn, Cond.static yX4_timesIn, Cond.initialized RX4]
def wsX10_digest_r4 : List Cond := [Cond.code yX4_timesIn cX4_timesIn 7 (some .int), Cond.methodLink RX4 11 yX4_lengthOf, Cond.static yX4_lengthOf, Cond.code yX4_lengthOf cX4_lengthOf 2 (some .int), Cond.methodLink RX4 15 yJ6_bitCount_0f7a4, Cond.methodLink RX10 281 yX10_fault, Cond.instanceMethod yX10_fault, Cond.selects RX10 yX10_fault yX10_fault, Cond.code yX10_fault cX10_fault 1 (some .int), Cond.methodLink RX10 112 yX6_faultPlace, Cond.instanceMethod yX6_faultPlace, Cond.selects RX6 yX6_faultPlace yX6_faultPlace, Cond.initialized RX6, Cond.code yX6_faultPlace cX6_faultPlace 1 (some .int), Cond.fieldLink RX6 28 "RowsOfTwo$Sentences" "stuckAt" "I", Cond.fieldLink RX6 38 "RowsOfTwo$Sentences" "due" "I", Cond.fieldLink RX6 32 "RowsOfTwo$Sentences" "length" "I", Cond.methodLink RX10 284 yX10_shown, Cond.instanceMethod yX10_shown, Cond.selects RX10 yX10_shown yX10_shown, Cond.code yX10_shown cX10_shown 3 (some .int), Cond.fieldLink RX10 33 "RowsOfTwo" "shownRows" "LRowsOfTwo$Shown;", Cond.fieldLink RX10 133 "RowsOfTwo$Shown" "tallies" "[[I", Cond.methodLink RX10 126 yX10_isLength]
def wsX10_digest_r5 : List Cond := [Cond.static yX10_isLength, Cond.code yX10_isLength cX10_isLength 1 (some .boolean), Cond.methodLink RX10 116 yX6_isFaulty, Cond.instanceMethod yX6_isFaulty, Cond.selects RX6 yX6_isFaulty yX6_isFaulty, Cond.code yX6_isFaulty cX6_isFaulty 1 (some .boolean), Cond.methodLink RX6 45 yX6_faultPlace, Cond.methodLink RX10 129 yX8_learn, Cond.instanceMethod yX8_learn, Cond.selects RX8 yX8_learn yX8_learn, Cond.initialized RX8, Cond.code yX8_learn cX8_learn 6 none, Cond.fieldLink RX8 16 "RowsOfTwo$Shown" "known" "[Z", Cond.fieldLink RX8 11 "RowsOfTwo$Shown" "tallies" "[[I", Cond.methodLink RX8 20 yX6_hold, Cond.instanceMethod yX6_hold, Cond.selects RX6 yX6_hold yX6_hold, Cond.code yX6_hold cX6_hold 8 (some .boolean), Cond.fieldLink RX6 35 "RowsOfTwo$Sentences" "tests" "I", Cond.fieldLink RX6 21 "RowsOfTwo$Sentences" "opensAlternative" "[Z", Cond.fieldLink RX6 11 "RowsOfTwo$Sentences" "letters" "[I", Cond.fieldLink RX6 25 "RowsOfTwo$Sentences" "measured" "[I", Cond.methodLink RX6 72 yX3_measure, Cond.methodLink RX6 78 yX6_isDone]
def wsX10_digest_r6 : List Cond := [Cond.instanceMethod yX6_isDone, Cond.selects RX6 yX6_isDone yX6_isDone, Cond.code yX6_isDone cX6_isDone 3 (some .boolean), Cond.fieldLink RX6 15 "RowsOfTwo$Sentences" "relations" "[I", Cond.fieldLink RX6 18 "RowsOfTwo$Sentences" "limits" "[I", Cond.methodLink RX8 26 yJ6_bitCount_0f7a4, Cond.methodLink RX10 137 yX9_sum, Cond.static yX9_sum, Cond.initialized RX9, Cond.code yX9_sum cX9_sum 6 (some .int), Cond.methodLink RX10 287 yX10_waits, Cond.instanceMethod yX10_waits, Cond.selects RX10 yX10_waits yX10_waits, Cond.code yX10_waits cX10_waits 2 (some .long), Cond.methodLink RX10 143 yX10_isPart, Cond.static yX10_isPart, Cond.code yX10_isPart cX10_isPart 1 (some .boolean), Cond.methodLink RX10 146 yX10_refusal, Cond.static yX10_refusal, Cond.code yX10_refusal cX10_refusal 1 (some .long), Cond.constantLong RX10 295 (-9223372036854775808), Cond.methodLink RX10 214 yX4_lead, Cond.static yX4_lead, Cond.code yX4_lead cX4_lead 14 (some .long)]
def wsX10_digest_r7 : List Cond := [Cond.constantLong RX4 28 (16), Cond.methodLink RX4 24 yX4_chanceParts, Cond.static yX4_chanceParts, Cond.code yX4_chanceParts cX4_chanceParts 3 (some .long), Cond.methodLink RX4 30 yX1_power, Cond.static yX1_power, Cond.initialized RX1, Cond.code yX1_power cX1_power 6 (some .long), Cond.methodLink RX10 220 yX4_leadUnit, Cond.static yX4_leadUnit, Cond.code yX4_leadUnit cX4_leadUnit 1 (some .long), Cond.methodLink RX10 196 yX1_part, Cond.static yX1_part, Cond.code yX1_part cX1_part 7 (some .long), Cond.methodLink RX1 7 yX1_commonDivisor, Cond.static yX1_commonDivisor, Cond.code yX1_commonDivisor cX1_commonDivisor 11 (some .long), Cond.methodLink RX10 290 yX10_fills, Cond.instanceMethod yX10_fills, Cond.selects RX10 yX10_fills yX10_fills, Cond.code yX10_fills cX10_fills 3 (some .int), Cond.fieldLink RX10 154 "RowsOfTwo$Row" "unseen" "I", Cond.fieldLink RX10 40 "RowsOfTwo" "heldFills" "LRowsOfTwo$Fills;", Cond.fieldLink RX10 165 "RowsOfTwo$Fills" "tally" "[I"]
def wsX10_digest_r8 : List Cond := [Cond.methodLink RX10 157 yJ6_bitCount_0f7a4, Cond.methodLink RX10 162 yX0_learn, Cond.instanceMethod yX0_learn, Cond.selects RX0 yX0_learn yX0_learn, Cond.initialized RX0, Cond.code yX0_learn cX0_learn 8 none, Cond.fieldLink RX0 9 "RowsOfTwo$Fills" "tally" "[I", Cond.fieldLink RX0 15 "RowsOfTwo$Fills" "alwaysHit" "I", Cond.fieldLink RX0 19 "RowsOfTwo$Fills" "everHit" "I", Cond.fieldLink RX0 22 "RowsOfTwo$Row" "unseen" "I", Cond.fieldLink RX0 33 "RowsOfTwo$Row" "hits" "I", Cond.fieldLink RX0 36 "RowsOfTwo$Row" "length" "I", Cond.methodLink RX0 27 yJ6_bitCount_0f7a4, Cond.methodLink RX0 39 yX6_hold]
def wsX10_digest : List Cond := .code yX10_digest cX10_digest 5 (some .long) :: ((wsX10_digest_r1 ++ (wsX10_digest_r2 ++ (wsX10_digest_r3 ++ (wsX10_digest_r4 ++ (wsX10_digest_r5 ++ (wsX10_digest_r6 ++ (wsX10_digest_r7 ++ wsX10_digest_r8))))))) ++ wsX100 ++ wsX50 ++ wsX60 ++ wsX80 ++ wsX00)
def wsX11_init : List Cond := .code yX11_init cX11_init 1 none :: ([.methodLink RX11 1 objectInit, .instanceMethod objectInit, .code objectInit ⟨#[0xb1]⟩ 1 none, .arrayClass .int, .fieldLink RX11 7 "RowsOfTwoModel" "sizes" "[I", .fieldLink RX11 13 "RowsOfTwoModel" "signs" "[I", .fieldLink RX11 16 "RowsOfTwoModel" "odds" "I", .fieldLink RX11 20 "RowsOfTwoModel" "pattern" "I", .fieldLink RX11 23 "RowsOfTwoModel" "text" "[I", .fieldLink RX11 26 "RowsOfTwoModel" "testNumber" "[I", .fieldLink RX11 29 "RowsOfTwoModel" "testSign" "[I", .fieldLink RX11 32 "RowsOfTwoModel" "testValue" "[I", .arrayClass .boolean, .fieldLink RX11 35 "RowsOfTwoModel" "testBegins" "[Z", .fieldLink RX11 39 "RowsOfTwoModel" "unseen" "[I", .fieldLink RX11 42 "RowsOfTwoModel" "isThere" "[Z", .fieldLink RX11 45 "RowsOfTwoModel" "types" "[I", .fieldLink RX11 48 "RowsOfTwoModel" "held" "[I", .fieldLink RX11 51 "RowsOfTwoModel" "items" "[I", .fieldLink RX11 54 "RowsOfTwoModel" "moved" "[I"] ++ wsX110)
def wsX11_in : List Cond := .code yX11_in cX11_in 3 (some .boolean) :: ([])
def wsX11_no : List Cond := .code yX11_no cX11_no 1 (some .long) :: ([.constantLong RX11 57 (-9223372036854775808)])
def wsX11_lowest : List Cond := .code yX11_lowest cX11_lowest 11 (some .long) :: ([])
def wsX11_power : List Cond := .code yX11_power cX11_power 6 (some .long) :: ([])
def wsX11_ones : List Cond := .code yX11_ones cX11_ones 3 (some .int) :: ([])
def wsX11_isRow : List Cond := .code yX11_isRow cX11_isRow 1 (some .boolean) :: ([.methodLink RX11 59 yX11_in, .static yX11_in, .initialized RX11, .code yX11_in cX11_in 3 (some .boolean)])
def wsX11_puts : List Cond := .code yX11_puts cX11_puts 3 (some .int) :: ([.fieldLink RX11 7 "RowsOfTwoModel" "sizes" "[I", .fieldLink RX11 13 "RowsOfTwoModel" "signs" "[I", .methodLink RX11 63 yX11_isRow, .static yX11_isRow, .initialized RX11, .code yX11_isRow cX11_isRow 1 (some .boolean), .methodLink RX11 59 yX11_in, .static yX11_in, .code yX11_in cX11_in 3 (some .boolean)] ++ wsX110)
def wsX11_sign : List Cond := .code yX11_sign cX11_sign 3 (some .int) :: ([.methodLink RX11 67 yX11_puts, .instanceMethod yX11_puts, .selects RX11 yX11_puts yX11_puts, .initialized RX11, .code yX11_puts cX11_puts 3 (some .int), .fieldLink RX11 7 "RowsOfTwoModel" "sizes" "[I", .fieldLink RX11 13 "RowsOfTwoModel" "signs" "[I", .methodLink RX11 63 yX11_isRow, .static yX11_isRow, .code yX11_isRow cX11_isRow 1 (some .boolean), .methodLink RX11 59 yX11_in, .static yX11_in, .code yX11_in cX11_in 3 (some .boolean)] ++ wsX110)
def wsX11_isSheet : List Cond := .code yX11_isSheet cX11_isSheet 1 (some .boolean) :: ([.methodLink RX11 59 yX11_in, .static yX11_in, .initialized RX11, .code yX11_in cX11_in 3 (some .boolean)])
def wsX11_meets : List Cond := .code yX11_meets cX11_meets 2 (some .int) :: ([.fieldLink RX11 203 "RowsOfTwoModel" "finding" "I"] ++ wsX110)
def wsX11_read : List Cond := .code yX11_read cX11_read 4 (some .int) :: ([.fieldLink RX11 42 "RowsOfTwoModel" "isThere" "[Z", .fieldLink RX11 48 "RowsOfTwoModel" "held" "[I", .fieldLink RX11 51 "RowsOfTwoModel" "items" "[I", .methodLink RX11 71 yX11_isSheet, .static yX11_isSheet, .initialized RX11, .code yX11_isSheet cX11_isSheet 1 (some .boolean), .methodLink RX11 59 yX11_in, .static yX11_in, .code yX11_in cX11_in 3 (some .boolean), .methodLink RX11 63 yX11_isRow, .static yX11_isRow, .code yX11_isRow cX11_isRow 1 (some .boolean), .methodLink RX11 74 yX11_meets, .instanceMethod yX11_meets, .selects RX11 yX11_meets yX11_meets, .code yX11_meets cX11_meets 2 (some .int), .fieldLink RX11 203 "RowsOfTwoModel" "finding" "I", .methodLink RX11 67 yX11_puts, .instanceMethod yX11_puts, .selects RX11 yX11_puts yX11_puts, .code yX11_puts cX11_puts 3 (some .int), .fieldLink RX11 7 "RowsOfTwoModel" "sizes" "[I", .fieldLink RX11 13 "RowsOfTwoModel" "signs" "[I"] ++ wsX110)
def wsX11_clear : List Cond := .code yX11_clear cX11_clear 3 (some .int) :: ([.fieldLink RX11 7 "RowsOfTwoModel" "sizes" "[I", .methodLink RX11 63 yX11_isRow, .static yX11_isRow, .initialized RX11, .code yX11_isRow cX11_isRow 1 (some .boolean), .methodLink RX11 59 yX11_in, .static yX11_in, .code yX11_in cX11_in 3 (some .boolean)] ++ wsX110)
def wsX11_at : List Cond := .code yX11_at cX11_at 3 (some .int) :: ([.fieldLink RX11 7 "RowsOfTwoModel" "sizes" "[I", .fieldLink RX11 13 "RowsOfTwoModel" "signs" "[I", .methodLink RX11 63 yX11_isRow, .static yX11_isRow, .initialized RX11, .code yX11_isRow cX11_isRow 1 (some .boolean), .methodLink RX11 59 yX11_in, .static yX11_in, .code yX11_in cX11_in 3 (some .boolean)] ++ wsX110)
def wsX11_set : List Cond := .code yX11_set cX11_set 4 (some .int) :: ([.fieldLink RX11 16 "RowsOfTwoModel" "odds" "I", .fieldLink RX11 20 "RowsOfTwoModel" "pattern" "I", .methodLink RX11 59 yX11_in, .static yX11_in, .initialized RX11, .code yX11_in cX11_in 3 (some .boolean)] ++ wsX110)
def wsX11_isWhole : List Cond := .code yX11_isWhole cX11_isWhole 3 (some .boolean) :: ([.fieldLink RX11 7 "RowsOfTwoModel" "sizes" "[I", .fieldLink RX11 13 "RowsOfTwoModel" "signs" "[I"] ++ wsX110)
def wsX11_bitsOf : List Cond := .code yX11_bitsOf cX11_bitsOf 4 (some .int) :: ([.fieldLink RX11 7 "RowsOfTwoModel" "sizes" "[I", .fieldLink RX11 13 "RowsOfTwoModel" "signs" "[I"] ++ wsX110)
def wsX11_lengthOf : List Cond := .code yX11_lengthOf cX11_lengthOf 2 (some .int) :: ([])
def wsX11_standing : List Cond := .code yX11_standing cX11_standing 7 (some .int) :: ([.fieldLink RX11 20 "RowsOfTwoModel" "pattern" "I", .methodLink RX11 78 yX11_lengthOf, .static yX11_lengthOf, .initialized RX11, .code yX11_lengthOf cX11_lengthOf 2 (some .int)] ++ wsX110)
def wsX11_numberOf : List Cond := .code yX11_numberOf cX11_numberOf 13 (some .int) :: ([.methodLink RX11 81 yX11_ones, .static yX11_ones, .initialized RX11, .code yX11_ones cX11_ones 3 (some .int), .methodLink RX11 84 yX11_standing, .instanceMethod yX11_standing, .selects RX11 yX11_standing yX11_standing, .code yX11_standing cX11_standing 7 (some .int), .fieldLink RX11 20 "RowsOfTwoModel" "pattern" "I", .methodLink RX11 78 yX11_lengthOf, .static yX11_lengthOf, .code yX11_lengthOf cX11_lengthOf 2 (some .int)] ++ wsX110)
def wsX11_showsNow_r1 : List Cond := [Cond.fieldLink RX11 7 "RowsOfTwoModel" "sizes" "[I", Cond.methodLink RX11 87 yX11_isWhole, Cond.instanceMethod yX11_isWhole, Cond.selects RX11 yX11_isWhole yX11_isWhole, Cond.initialized RX11, Cond.code yX11_isWhole cX11_isWhole 3 (some .boolean), Cond.fieldLink RX11 13 "RowsOfTwoModel" "signs" "[I", Cond.methodLink RX11 90 yX11_bitsOf, Cond.instanceMethod yX11_bitsOf, Cond.selects RX11 yX11_bitsOf yX11_bitsOf, Cond.code yX11_bitsOf cX11_bitsOf 4 (some .int), Cond.methodLink RX11 93 yX11_numberOf, Cond.instanceMethod yX11_numberOf, Cond.selects RX11 yX11_numberOf yX11_numberOf, Cond.code yX11_numberOf cX11_numberOf 13 (some .int), Cond.methodLink RX11 81 yX11_ones, Cond.static yX11_ones, Cond.code yX11_ones cX11_ones 3 (some .int), Cond.methodLink RX11 84 yX11_standing, Cond.instanceMethod yX11_standing, Cond.selects RX11 yX11_standing yX11_standing, Cond.code yX11_standing cX11_standing 7 (some .int), Cond.fieldLink RX11 20 "RowsOfTwoModel" "pattern" "I", Cond.methodLink RX11 78 yX11_lengthOf]
def wsX11_showsNow_r2 : List Cond := [Cond.static yX11_lengthOf, Cond.code yX11_lengthOf cX11_lengthOf 2 (some .int)]
def wsX11_showsNow : List Cond := .code yX11_showsNow cX11_showsNow 3 (some .int) :: ((wsX11_showsNow_r1 ++ wsX11_showsNow_r2) ++ wsX110)
def wsX11_shows_r1 : List Cond := [Cond.methodLink RX11 63 yX11_isRow, Cond.static yX11_isRow, Cond.initialized RX11, Cond.code yX11_isRow cX11_isRow 1 (some .boolean), Cond.methodLink RX11 59 yX11_in, Cond.static yX11_in, Cond.code yX11_in cX11_in 3 (some .boolean), Cond.methodLink RX11 97 yX11_showsNow, Cond.instanceMethod yX11_showsNow, Cond.selects RX11 yX11_showsNow yX11_showsNow, Cond.code yX11_showsNow cX11_showsNow 3 (some .int), Cond.fieldLink RX11 7 "RowsOfTwoModel" "sizes" "[I", Cond.methodLink RX11 87 yX11_isWhole, Cond.instanceMethod yX11_isWhole, Cond.selects RX11 yX11_isWhole yX11_isWhole, Cond.code yX11_isWhole cX11_isWhole 3 (some .boolean), Cond.fieldLink RX11 13 "RowsOfTwoModel" "signs" "[I", Cond.methodLink RX11 90 yX11_bitsOf, Cond.instanceMethod yX11_bitsOf, Cond.selects RX11 yX11_bitsOf yX11_bitsOf, Cond.code yX11_bitsOf cX11_bitsOf 4 (some .int), Cond.methodLink RX11 93 yX11_numberOf, Cond.instanceMethod yX11_numberOf, Cond.selects RX11 yX11_numberOf yX11_numberOf]
def wsX11_shows_r2 : List Cond := [Cond.code yX11_numberOf cX11_numberOf 13 (some .int), Cond.methodLink RX11 81 yX11_ones, Cond.static yX11_ones, Cond.code yX11_ones cX11_ones 3 (some .int), Cond.methodLink RX11 84 yX11_standing, Cond.instanceMethod yX11_standing, Cond.selects RX11 yX11_standing yX11_standing, Cond.code yX11_standing cX11_standing 7 (some .int), Cond.fieldLink RX11 20 "RowsOfTwoModel" "pattern" "I", Cond.methodLink RX11 78 yX11_lengthOf, Cond.static yX11_lengthOf, Cond.code yX11_lengthOf cX11_lengthOf 2 (some .int)]
def wsX11_shows : List Cond := .code yX11_shows cX11_shows 3 (some .int) :: ((wsX11_shows_r1 ++ wsX11_shows_r2) ++ wsX110)
def wsX11_type : List Cond := .code yX11_type cX11_type 2 (some .int) :: ([.fieldLink RX11 100 "RowsOfTwoModel" "typed" "I", .fieldLink RX11 23 "RowsOfTwoModel" "text" "[I", .fieldLink RX11 103 "RowsOfTwoModel" "isRead" "Z", .methodLink RX11 59 yX11_in, .static yX11_in, .initialized RX11, .code yX11_in cX11_in 3 (some .boolean)] ++ wsX110)
def wsX11_wipe : List Cond := .code yX11_wipe cX11_wipe 2 (some .int) :: ([.fieldLink RX11 100 "RowsOfTwoModel" "typed" "I", .fieldLink RX11 103 "RowsOfTwoModel" "isRead" "Z"] ++ wsX110)
def wsX11_byteNow : List Cond := .code yX11_byteNow cX11_byteNow 1 (some .int) :: ([.fieldLink RX11 107 "RowsOfTwoModel" "at" "I", .fieldLink RX11 100 "RowsOfTwoModel" "typed" "I", .fieldLink RX11 23 "RowsOfTwoModel" "text" "[I"] ++ wsX110)
def wsX11_numberBy : List Cond := .code yX11_numberBy cX11_numberBy 1 (some .int) :: ([])
def wsX11_test : List Cond := .code yX11_test cX11_test 6 none :: ([.fieldLink RX11 107 "RowsOfTwoModel" "at" "I", .fieldLink RX11 117 "RowsOfTwoModel" "fault" "I", .fieldLink RX11 26 "RowsOfTwoModel" "testNumber" "[I", .fieldLink RX11 120 "RowsOfTwoModel" "tests" "I", .fieldLink RX11 29 "RowsOfTwoModel" "testSign" "[I", .fieldLink RX11 32 "RowsOfTwoModel" "testValue" "[I", .fieldLink RX11 35 "RowsOfTwoModel" "testBegins" "[Z", .methodLink RX11 110 yX11_byteNow, .instanceMethod yX11_byteNow, .selects RX11 yX11_byteNow yX11_byteNow, .initialized RX11, .code yX11_byteNow cX11_byteNow 1 (some .int), .fieldLink RX11 100 "RowsOfTwoModel" "typed" "I", .fieldLink RX11 23 "RowsOfTwoModel" "text" "[I", .methodLink RX11 114 yX11_numberBy, .static yX11_numberBy, .code yX11_numberBy cX11_numberBy 1 (some .int), .methodLink RX11 59 yX11_in, .static yX11_in, .code yX11_in cX11_in 3 (some .boolean)] ++ wsX110)
def wsX11_faultNow_r1 : List Cond := [Cond.fieldLink RX11 103 "RowsOfTwoModel" "isRead" "Z", Cond.fieldLink RX11 117 "RowsOfTwoModel" "fault" "I", Cond.fieldLink RX11 107 "RowsOfTwoModel" "at" "I", Cond.fieldLink RX11 120 "RowsOfTwoModel" "tests" "I", Cond.fieldLink RX11 100 "RowsOfTwoModel" "typed" "I", Cond.methodLink RX11 123 yX11_test, Cond.instanceMethod yX11_test, Cond.selects RX11 yX11_test yX11_test, Cond.initialized RX11, Cond.code yX11_test cX11_test 6 none, Cond.fieldLink RX11 26 "RowsOfTwoModel" "testNumber" "[I", Cond.fieldLink RX11 29 "RowsOfTwoModel" "testSign" "[I", Cond.fieldLink RX11 32 "RowsOfTwoModel" "testValue" "[I", Cond.fieldLink RX11 35 "RowsOfTwoModel" "testBegins" "[Z", Cond.methodLink RX11 110 yX11_byteNow, Cond.instanceMethod yX11_byteNow, Cond.selects RX11 yX11_byteNow yX11_byteNow, Cond.code yX11_byteNow cX11_byteNow 1 (some .int), Cond.fieldLink RX11 23 "RowsOfTwoModel" "text" "[I", Cond.methodLink RX11 114 yX11_numberBy, Cond.static yX11_numberBy, Cond.code yX11_numberBy cX11_numberBy 1 (some .int), Cond.methodLink RX11 59 yX11_in, Cond.static yX11_in]
def wsX11_faultNow_r2 : List Cond := [Cond.code yX11_in cX11_in 3 (some .boolean)]
def wsX11_faultNow : List Cond := .code yX11_faultNow cX11_faultNow 2 (some .int) :: ((wsX11_faultNow_r1 ++ wsX11_faultNow_r2) ++ wsX110)
def wsX11_fault_r1 : List Cond := [Cond.methodLink RX11 127 yX11_faultNow, Cond.instanceMethod yX11_faultNow, Cond.selects RX11 yX11_faultNow yX11_faultNow, Cond.initialized RX11, Cond.code yX11_faultNow cX11_faultNow 2 (some .int), Cond.fieldLink RX11 103 "RowsOfTwoModel" "isRead" "Z", Cond.fieldLink RX11 117 "RowsOfTwoModel" "fault" "I", Cond.fieldLink RX11 107 "RowsOfTwoModel" "at" "I", Cond.fieldLink RX11 120 "RowsOfTwoModel" "tests" "I", Cond.fieldLink RX11 100 "RowsOfTwoModel" "typed" "I", Cond.methodLink RX11 123 yX11_test, Cond.instanceMethod yX11_test, Cond.selects RX11 yX11_test yX11_test, Cond.code yX11_test cX11_test 6 none, Cond.fieldLink RX11 26 "RowsOfTwoModel" "testNumber" "[I", Cond.fieldLink RX11 29 "RowsOfTwoModel" "testSign" "[I", Cond.fieldLink RX11 32 "RowsOfTwoModel" "testValue" "[I", Cond.fieldLink RX11 35 "RowsOfTwoModel" "testBegins" "[Z", Cond.methodLink RX11 110 yX11_byteNow, Cond.instanceMethod yX11_byteNow, Cond.selects RX11 yX11_byteNow yX11_byteNow, Cond.code yX11_byteNow cX11_byteNow 1 (some .int), Cond.fieldLink RX11 23 "RowsOfTwoModel" "text" "[I", Cond.methodLink RX11 114 yX11_numberBy]
def wsX11_fault_r2 : List Cond := [Cond.static yX11_numberBy, Cond.code yX11_numberBy cX11_numberBy 1 (some .int), Cond.methodLink RX11 59 yX11_in, Cond.static yX11_in, Cond.code yX11_in cX11_in 3 (some .boolean)]
def wsX11_fault : List Cond := .code yX11_fault cX11_fault 1 (some .int) :: ((wsX11_fault_r1 ++ wsX11_fault_r2) ++ wsX110)
def wsX11_does : List Cond := .code yX11_does cX11_does 6 (some .boolean) :: ([.fieldLink RX11 120 "RowsOfTwoModel" "tests" "I", .fieldLink RX11 35 "RowsOfTwoModel" "testBegins" "[Z", .fieldLink RX11 26 "RowsOfTwoModel" "testNumber" "[I", .fieldLink RX11 29 "RowsOfTwoModel" "testSign" "[I", .fieldLink RX11 32 "RowsOfTwoModel" "testValue" "[I", .methodLink RX11 93 yX11_numberOf, .instanceMethod yX11_numberOf, .selects RX11 yX11_numberOf yX11_numberOf, .initialized RX11, .code yX11_numberOf cX11_numberOf 13 (some .int), .methodLink RX11 81 yX11_ones, .static yX11_ones, .code yX11_ones cX11_ones 3 (some .int), .methodLink RX11 84 yX11_standing, .instanceMethod yX11_standing, .selects RX11 yX11_standing yX11_standing, .code yX11_standing cX11_standing 7 (some .int), .fieldLink RX11 20 "RowsOfTwoModel" "pattern" "I", .methodLink RX11 78 yX11_lengthOf, .static yX11_lengthOf, .code yX11_lengthOf cX11_lengthOf 2 (some .int)] ++ wsX110)
def wsX11_holds_r1 : List Cond := [Cond.fieldLink RX11 7 "RowsOfTwoModel" "sizes" "[I", Cond.methodLink RX11 63 yX11_isRow, Cond.static yX11_isRow, Cond.initialized RX11, Cond.code yX11_isRow cX11_isRow 1 (some .boolean), Cond.methodLink RX11 59 yX11_in, Cond.static yX11_in, Cond.code yX11_in cX11_in 3 (some .boolean), Cond.methodLink RX11 87 yX11_isWhole, Cond.instanceMethod yX11_isWhole, Cond.selects RX11 yX11_isWhole yX11_isWhole, Cond.code yX11_isWhole cX11_isWhole 3 (some .boolean), Cond.fieldLink RX11 13 "RowsOfTwoModel" "signs" "[I", Cond.methodLink RX11 127 yX11_faultNow, Cond.instanceMethod yX11_faultNow, Cond.selects RX11 yX11_faultNow yX11_faultNow, Cond.code yX11_faultNow cX11_faultNow 2 (some .int), Cond.fieldLink RX11 103 "RowsOfTwoModel" "isRead" "Z", Cond.fieldLink RX11 117 "RowsOfTwoModel" "fault" "I", Cond.fieldLink RX11 107 "RowsOfTwoModel" "at" "I", Cond.fieldLink RX11 120 "RowsOfTwoModel" "tests" "I", Cond.fieldLink RX11 100 "RowsOfTwoModel" "typed" "I", Cond.methodLink RX11 123 yX11_test, Cond.instanceMethod yX11_test]
def wsX11_holds_r2 : List Cond := [Cond.selects RX11 yX11_test yX11_test, Cond.code yX11_test cX11_test 6 none, Cond.fieldLink RX11 26 "RowsOfTwoModel" "testNumber" "[I", Cond.fieldLink RX11 29 "RowsOfTwoModel" "testSign" "[I", Cond.fieldLink RX11 32 "RowsOfTwoModel" "testValue" "[I", Cond.fieldLink RX11 35 "RowsOfTwoModel" "testBegins" "[Z", Cond.methodLink RX11 110 yX11_byteNow, Cond.instanceMethod yX11_byteNow, Cond.selects RX11 yX11_byteNow yX11_byteNow, Cond.code yX11_byteNow cX11_byteNow 1 (some .int), Cond.fieldLink RX11 23 "RowsOfTwoModel" "text" "[I", Cond.methodLink RX11 114 yX11_numberBy, Cond.static yX11_numberBy, Cond.code yX11_numberBy cX11_numberBy 1 (some .int), Cond.methodLink RX11 90 yX11_bitsOf, Cond.instanceMethod yX11_bitsOf, Cond.selects RX11 yX11_bitsOf yX11_bitsOf, Cond.code yX11_bitsOf cX11_bitsOf 4 (some .int), Cond.methodLink RX11 130 yX11_does, Cond.instanceMethod yX11_does, Cond.selects RX11 yX11_does yX11_does, Cond.code yX11_does cX11_does 6 (some .boolean), Cond.methodLink RX11 93 yX11_numberOf, Cond.instanceMethod yX11_numberOf]
def wsX11_holds_r3 : List Cond := [Cond.selects RX11 yX11_numberOf yX11_numberOf, Cond.code yX11_numberOf cX11_numberOf 13 (some .int), Cond.methodLink RX11 81 yX11_ones, Cond.static yX11_ones, Cond.code yX11_ones cX11_ones 3 (some .int), Cond.methodLink RX11 84 yX11_standing, Cond.instanceMethod yX11_standing, Cond.selects RX11 yX11_standing yX11_standing, Cond.code yX11_standing cX11_standing 7 (some .int), Cond.fieldLink RX11 20 "RowsOfTwoModel" "pattern" "I", Cond.methodLink RX11 78 yX11_lengthOf, Cond.static yX11_lengthOf, Cond.code yX11_lengthOf cX11_lengthOf 2 (some .int)]
def wsX11_holds : List Cond := .code yX11_holds cX11_holds 2 (some .int) :: ((wsX11_holds_r1 ++ (wsX11_holds_r2 ++ wsX11_holds_r3)) ++ wsX110)
def wsX11_shownNow_r1 : List Cond := [Cond.methodLink RX11 127 yX11_faultNow, Cond.instanceMethod yX11_faultNow, Cond.selects RX11 yX11_faultNow yX11_faultNow, Cond.initialized RX11, Cond.code yX11_faultNow cX11_faultNow 2 (some .int), Cond.fieldLink RX11 103 "RowsOfTwoModel" "isRead" "Z", Cond.fieldLink RX11 117 "RowsOfTwoModel" "fault" "I", Cond.fieldLink RX11 107 "RowsOfTwoModel" "at" "I", Cond.fieldLink RX11 120 "RowsOfTwoModel" "tests" "I", Cond.fieldLink RX11 100 "RowsOfTwoModel" "typed" "I", Cond.methodLink RX11 123 yX11_test, Cond.instanceMethod yX11_test, Cond.selects RX11 yX11_test yX11_test, Cond.code yX11_test cX11_test 6 none, Cond.fieldLink RX11 26 "RowsOfTwoModel" "testNumber" "[I", Cond.fieldLink RX11 29 "RowsOfTwoModel" "testSign" "[I", Cond.fieldLink RX11 32 "RowsOfTwoModel" "testValue" "[I", Cond.fieldLink RX11 35 "RowsOfTwoModel" "testBegins" "[Z", Cond.methodLink RX11 110 yX11_byteNow, Cond.instanceMethod yX11_byteNow, Cond.selects RX11 yX11_byteNow yX11_byteNow, Cond.code yX11_byteNow cX11_byteNow 1 (some .int), Cond.fieldLink RX11 23 "RowsOfTwoModel" "text" "[I", Cond.methodLink RX11 114 yX11_numberBy]
def wsX11_shownNow_r2 : List Cond := [Cond.static yX11_numberBy, Cond.code yX11_numberBy cX11_numberBy 1 (some .int), Cond.methodLink RX11 59 yX11_in, Cond.static yX11_in, Cond.code yX11_in cX11_in 3 (some .boolean), Cond.methodLink RX11 81 yX11_ones, Cond.static yX11_ones, Cond.code yX11_ones cX11_ones 3 (some .int), Cond.methodLink RX11 130 yX11_does, Cond.instanceMethod yX11_does, Cond.selects RX11 yX11_does yX11_does, Cond.code yX11_does cX11_does 6 (some .boolean), Cond.methodLink RX11 93 yX11_numberOf, Cond.instanceMethod yX11_numberOf, Cond.selects RX11 yX11_numberOf yX11_numberOf, Cond.code yX11_numberOf cX11_numberOf 13 (some .int), Cond.methodLink RX11 84 yX11_standing, Cond.instanceMethod yX11_standing, Cond.selects RX11 yX11_standing yX11_standing, Cond.code yX11_standing cX11_standing 7 (some .int), Cond.fieldLink RX11 20 "RowsOfTwoModel" "pattern" "I", Cond.methodLink RX11 78 yX11_lengthOf, Cond.static yX11_lengthOf, Cond.code yX11_lengthOf cX11_lengthOf 2 (some .int)]
def wsX11_shownNow : List Cond := .code yX11_shownNow cX11_shownNow 5 (some .int) :: ((wsX11_shownNow_r1 ++ wsX11_shownNow_r2) ++ wsX110)
def wsX11_shown_r1 : List Cond := [Cond.methodLink RX11 59 yX11_in, Cond.static yX11_in, Cond.initialized RX11, Cond.code yX11_in cX11_in 3 (some .boolean), Cond.methodLink RX11 134 yX11_shownNow, Cond.instanceMethod yX11_shownNow, Cond.selects RX11 yX11_shownNow yX11_shownNow, Cond.code yX11_shownNow cX11_shownNow 5 (some .int), Cond.methodLink RX11 127 yX11_faultNow, Cond.instanceMethod yX11_faultNow, Cond.selects RX11 yX11_faultNow yX11_faultNow, Cond.code yX11_faultNow cX11_faultNow 2 (some .int), Cond.fieldLink RX11 103 "RowsOfTwoModel" "isRead" "Z", Cond.fieldLink RX11 117 "RowsOfTwoModel" "fault" "I", Cond.fieldLink RX11 107 "RowsOfTwoModel" "at" "I", Cond.fieldLink RX11 120 "RowsOfTwoModel" "tests" "I", Cond.fieldLink RX11 100 "RowsOfTwoModel" "typed" "I", Cond.methodLink RX11 123 yX11_test, Cond.instanceMethod yX11_test, Cond.selects RX11 yX11_test yX11_test, Cond.code yX11_test cX11_test 6 none, Cond.fieldLink RX11 26 "RowsOfTwoModel" "testNumber" "[I", Cond.fieldLink RX11 29 "RowsOfTwoModel" "testSign" "[I", Cond.fieldLink RX11 32 "RowsOfTwoModel" "testValue" "[I"]
def wsX11_shown_r2 : List Cond := [Cond.fieldLink RX11 35 "RowsOfTwoModel" "testBegins" "[Z", Cond.methodLink RX11 110 yX11_byteNow, Cond.instanceMethod yX11_byteNow, Cond.selects RX11 yX11_byteNow yX11_byteNow, Cond.code yX11_byteNow cX11_byteNow 1 (some .int), Cond.fieldLink RX11 23 "RowsOfTwoModel" "text" "[I", Cond.methodLink RX11 114 yX11_numberBy, Cond.static yX11_numberBy, Cond.code yX11_numberBy cX11_numberBy 1 (some .int), Cond.methodLink RX11 81 yX11_ones, Cond.static yX11_ones, Cond.code yX11_ones cX11_ones 3 (some .int), Cond.methodLink RX11 130 yX11_does, Cond.instanceMethod yX11_does, Cond.selects RX11 yX11_does yX11_does, Cond.code yX11_does cX11_does 6 (some .boolean), Cond.methodLink RX11 93 yX11_numberOf, Cond.instanceMethod yX11_numberOf, Cond.selects RX11 yX11_numberOf yX11_numberOf, Cond.code yX11_numberOf cX11_numberOf 13 (some .int), Cond.methodLink RX11 84 yX11_standing, Cond.instanceMethod yX11_standing, Cond.selects RX11 yX11_standing yX11_standing, Cond.code yX11_standing cX11_standing 7 (some .int)]
def wsX11_shown_r3 : List Cond := [Cond.fieldLink RX11 20 "RowsOfTwoModel" "pattern" "I", Cond.methodLink RX11 78 yX11_lengthOf, Cond.static yX11_lengthOf, Cond.code yX11_lengthOf cX11_lengthOf 2 (some .int)]
def wsX11_shown : List Cond := .code yX11_shown cX11_shown 3 (some .int) :: ((wsX11_shown_r1 ++ (wsX11_shown_r2 ++ wsX11_shown_r3)) ++ wsX110)
def wsX11_nth_r1 : List Cond := [Cond.methodLink RX11 59 yX11_in, Cond.static yX11_in, Cond.initialized RX11, Cond.code yX11_in cX11_in 3 (some .boolean), Cond.methodLink RX11 127 yX11_faultNow, Cond.instanceMethod yX11_faultNow, Cond.selects RX11 yX11_faultNow yX11_faultNow, Cond.code yX11_faultNow cX11_faultNow 2 (some .int), Cond.fieldLink RX11 103 "RowsOfTwoModel" "isRead" "Z", Cond.fieldLink RX11 117 "RowsOfTwoModel" "fault" "I", Cond.fieldLink RX11 107 "RowsOfTwoModel" "at" "I", Cond.fieldLink RX11 120 "RowsOfTwoModel" "tests" "I", Cond.fieldLink RX11 100 "RowsOfTwoModel" "typed" "I", Cond.methodLink RX11 123 yX11_test, Cond.instanceMethod yX11_test, Cond.selects RX11 yX11_test yX11_test, Cond.code yX11_test cX11_test 6 none, Cond.fieldLink RX11 26 "RowsOfTwoModel" "testNumber" "[I", Cond.fieldLink RX11 29 "RowsOfTwoModel" "testSign" "[I", Cond.fieldLink RX11 32 "RowsOfTwoModel" "testValue" "[I", Cond.fieldLink RX11 35 "RowsOfTwoModel" "testBegins" "[Z", Cond.methodLink RX11 110 yX11_byteNow, Cond.instanceMethod yX11_byteNow, Cond.selects RX11 yX11_byteNow yX11_byteNow]
def wsX11_nth_r2 : List Cond := [Cond.code yX11_byteNow cX11_byteNow 1 (some .int), Cond.fieldLink RX11 23 "RowsOfTwoModel" "text" "[I", Cond.methodLink RX11 114 yX11_numberBy, Cond.static yX11_numberBy, Cond.code yX11_numberBy cX11_numberBy 1 (some .int), Cond.methodLink RX11 130 yX11_does, Cond.instanceMethod yX11_does, Cond.selects RX11 yX11_does yX11_does, Cond.code yX11_does cX11_does 6 (some .boolean), Cond.methodLink RX11 93 yX11_numberOf, Cond.instanceMethod yX11_numberOf, Cond.selects RX11 yX11_numberOf yX11_numberOf, Cond.code yX11_numberOf cX11_numberOf 13 (some .int), Cond.methodLink RX11 81 yX11_ones, Cond.static yX11_ones, Cond.code yX11_ones cX11_ones 3 (some .int), Cond.methodLink RX11 84 yX11_standing, Cond.instanceMethod yX11_standing, Cond.selects RX11 yX11_standing yX11_standing, Cond.code yX11_standing cX11_standing 7 (some .int), Cond.fieldLink RX11 20 "RowsOfTwoModel" "pattern" "I", Cond.methodLink RX11 78 yX11_lengthOf, Cond.static yX11_lengthOf, Cond.code yX11_lengthOf cX11_lengthOf 2 (some .int)]
def wsX11_nth : List Cond := .code yX11_nth cX11_nth 5 (some .int) :: ((wsX11_nth_r1 ++ wsX11_nth_r2) ++ wsX110)
def wsX11_share_r1 : List Cond := [Cond.fieldLink RX11 16 "RowsOfTwoModel" "odds" "I", Cond.constantLong RX11 145 (16), Cond.methodLink RX11 59 yX11_in, Cond.static yX11_in, Cond.initialized RX11, Cond.code yX11_in cX11_in 3 (some .boolean), Cond.methodLink RX11 137 yX11_no, Cond.static yX11_no, Cond.code yX11_no cX11_no 1 (some .long), Cond.constantLong RX11 57 (-9223372036854775808), Cond.methodLink RX11 127 yX11_faultNow, Cond.instanceMethod yX11_faultNow, Cond.selects RX11 yX11_faultNow yX11_faultNow, Cond.code yX11_faultNow cX11_faultNow 2 (some .int), Cond.fieldLink RX11 103 "RowsOfTwoModel" "isRead" "Z", Cond.fieldLink RX11 117 "RowsOfTwoModel" "fault" "I", Cond.fieldLink RX11 107 "RowsOfTwoModel" "at" "I", Cond.fieldLink RX11 120 "RowsOfTwoModel" "tests" "I", Cond.fieldLink RX11 100 "RowsOfTwoModel" "typed" "I", Cond.methodLink RX11 123 yX11_test, Cond.instanceMethod yX11_test, Cond.selects RX11 yX11_test yX11_test, Cond.code yX11_test cX11_test 6 none, Cond.fieldLink RX11 26 "RowsOfTwoModel" "testNumber" "[I"]
def wsX11_share_r2 : List Cond := [Cond.fieldLink RX11 29 "RowsOfTwoModel" "testSign" "[I", Cond.fieldLink RX11 32 "RowsOfTwoModel" "testValue" "[I", Cond.fieldLink RX11 35 "RowsOfTwoModel" "testBegins" "[Z", Cond.methodLink RX11 110 yX11_byteNow, Cond.instanceMethod yX11_byteNow, Cond.selects RX11 yX11_byteNow yX11_byteNow, Cond.code yX11_byteNow cX11_byteNow 1 (some .int), Cond.fieldLink RX11 23 "RowsOfTwoModel" "text" "[I", Cond.methodLink RX11 114 yX11_numberBy, Cond.static yX11_numberBy, Cond.code yX11_numberBy cX11_numberBy 1 (some .int), Cond.methodLink RX11 130 yX11_does, Cond.instanceMethod yX11_does, Cond.selects RX11 yX11_does yX11_does, Cond.code yX11_does cX11_does 6 (some .boolean), Cond.methodLink RX11 93 yX11_numberOf, Cond.instanceMethod yX11_numberOf, Cond.selects RX11 yX11_numberOf yX11_numberOf, Cond.code yX11_numberOf cX11_numberOf 13 (some .int), Cond.methodLink RX11 81 yX11_ones, Cond.static yX11_ones, Cond.code yX11_ones cX11_ones 3 (some .int), Cond.methodLink RX11 84 yX11_standing, Cond.instanceMethod yX11_standing]
def wsX11_share_r3 : List Cond := [Cond.selects RX11 yX11_standing yX11_standing, Cond.code yX11_standing cX11_standing 7 (some .int), Cond.fieldLink RX11 20 "RowsOfTwoModel" "pattern" "I", Cond.methodLink RX11 78 yX11_lengthOf, Cond.static yX11_lengthOf, Cond.code yX11_lengthOf cX11_lengthOf 2 (some .int), Cond.methodLink RX11 141 yX11_power, Cond.static yX11_power, Cond.code yX11_power cX11_power 6 (some .long), Cond.methodLink RX11 147 yX11_lowest, Cond.static yX11_lowest, Cond.code yX11_lowest cX11_lowest 11 (some .long)]
def wsX11_share : List Cond := .code yX11_share cX11_share 6 (some .long) :: ((wsX11_share_r1 ++ (wsX11_share_r2 ++ wsX11_share_r3)) ++ wsX110)
def wsX11_gathers : List Cond := .code yX11_gathers cX11_gathers 3 none :: ([.fieldLink RX11 151 "RowsOfTwoModel" "unseenMany" "I", .fieldLink RX11 7 "RowsOfTwoModel" "sizes" "[I", .fieldLink RX11 13 "RowsOfTwoModel" "signs" "[I", .fieldLink RX11 39 "RowsOfTwoModel" "unseen" "[I"] ++ wsX110)
def wsX11_fill : List Cond := .code yX11_fill cX11_fill 5 (some .int) :: ([.fieldLink RX11 151 "RowsOfTwoModel" "unseenMany" "I", .fieldLink RX11 39 "RowsOfTwoModel" "unseen" "[I", .methodLink RX11 90 yX11_bitsOf, .instanceMethod yX11_bitsOf, .selects RX11 yX11_bitsOf yX11_bitsOf, .initialized RX11, .code yX11_bitsOf cX11_bitsOf 4 (some .int), .fieldLink RX11 7 "RowsOfTwoModel" "sizes" "[I", .fieldLink RX11 13 "RowsOfTwoModel" "signs" "[I"] ++ wsX110)
def wsX11_fills_r1 : List Cond := [Cond.fieldLink RX11 151 "RowsOfTwoModel" "unseenMany" "I", Cond.fieldLink RX11 7 "RowsOfTwoModel" "sizes" "[I", Cond.methodLink RX11 63 yX11_isRow, Cond.static yX11_isRow, Cond.initialized RX11, Cond.code yX11_isRow cX11_isRow 1 (some .boolean), Cond.methodLink RX11 59 yX11_in, Cond.static yX11_in, Cond.code yX11_in cX11_in 3 (some .boolean), Cond.methodLink RX11 154 yX11_gathers, Cond.instanceMethod yX11_gathers, Cond.selects RX11 yX11_gathers yX11_gathers, Cond.code yX11_gathers cX11_gathers 3 none, Cond.fieldLink RX11 13 "RowsOfTwoModel" "signs" "[I", Cond.fieldLink RX11 39 "RowsOfTwoModel" "unseen" "[I", Cond.methodLink RX11 127 yX11_faultNow, Cond.instanceMethod yX11_faultNow, Cond.selects RX11 yX11_faultNow yX11_faultNow, Cond.code yX11_faultNow cX11_faultNow 2 (some .int), Cond.fieldLink RX11 103 "RowsOfTwoModel" "isRead" "Z", Cond.fieldLink RX11 117 "RowsOfTwoModel" "fault" "I", Cond.fieldLink RX11 107 "RowsOfTwoModel" "at" "I", Cond.fieldLink RX11 120 "RowsOfTwoModel" "tests" "I", Cond.fieldLink RX11 100 "RowsOfTwoModel" "typed" "I"]
def wsX11_fills_r2 : List Cond := [Cond.methodLink RX11 123 yX11_test, Cond.instanceMethod yX11_test, Cond.selects RX11 yX11_test yX11_test, Cond.code yX11_test cX11_test 6 none, Cond.fieldLink RX11 26 "RowsOfTwoModel" "testNumber" "[I", Cond.fieldLink RX11 29 "RowsOfTwoModel" "testSign" "[I", Cond.fieldLink RX11 32 "RowsOfTwoModel" "testValue" "[I", Cond.fieldLink RX11 35 "RowsOfTwoModel" "testBegins" "[Z", Cond.methodLink RX11 110 yX11_byteNow, Cond.instanceMethod yX11_byteNow, Cond.selects RX11 yX11_byteNow yX11_byteNow, Cond.code yX11_byteNow cX11_byteNow 1 (some .int), Cond.fieldLink RX11 23 "RowsOfTwoModel" "text" "[I", Cond.methodLink RX11 114 yX11_numberBy, Cond.static yX11_numberBy, Cond.code yX11_numberBy cX11_numberBy 1 (some .int), Cond.methodLink RX11 158 yX11_fill, Cond.instanceMethod yX11_fill, Cond.selects RX11 yX11_fill yX11_fill, Cond.code yX11_fill cX11_fill 5 (some .int), Cond.methodLink RX11 90 yX11_bitsOf, Cond.instanceMethod yX11_bitsOf, Cond.selects RX11 yX11_bitsOf yX11_bitsOf, Cond.code yX11_bitsOf cX11_bitsOf 4 (some .int)]
def wsX11_fills_r3 : List Cond := [Cond.methodLink RX11 130 yX11_does, Cond.instanceMethod yX11_does, Cond.selects RX11 yX11_does yX11_does, Cond.code yX11_does cX11_does 6 (some .boolean), Cond.methodLink RX11 93 yX11_numberOf, Cond.instanceMethod yX11_numberOf, Cond.selects RX11 yX11_numberOf yX11_numberOf, Cond.code yX11_numberOf cX11_numberOf 13 (some .int), Cond.methodLink RX11 81 yX11_ones, Cond.static yX11_ones, Cond.code yX11_ones cX11_ones 3 (some .int), Cond.methodLink RX11 84 yX11_standing, Cond.instanceMethod yX11_standing, Cond.selects RX11 yX11_standing yX11_standing, Cond.code yX11_standing cX11_standing 7 (some .int), Cond.fieldLink RX11 20 "RowsOfTwoModel" "pattern" "I", Cond.methodLink RX11 78 yX11_lengthOf, Cond.static yX11_lengthOf, Cond.code yX11_lengthOf cX11_lengthOf 2 (some .int)]
def wsX11_fills : List Cond := .code yX11_fills cX11_fills 5 (some .int) :: ((wsX11_fills_r1 ++ (wsX11_fills_r2 ++ wsX11_fills_r3)) ++ wsX110)
def wsX11_filled_r1 : List Cond := [Cond.fieldLink RX11 151 "RowsOfTwoModel" "unseenMany" "I", Cond.fieldLink RX11 7 "RowsOfTwoModel" "sizes" "[I", Cond.fieldLink RX11 16 "RowsOfTwoModel" "odds" "I", Cond.constantLong RX11 145 (16), Cond.methodLink RX11 63 yX11_isRow, Cond.static yX11_isRow, Cond.initialized RX11, Cond.code yX11_isRow cX11_isRow 1 (some .boolean), Cond.methodLink RX11 59 yX11_in, Cond.static yX11_in, Cond.code yX11_in cX11_in 3 (some .boolean), Cond.methodLink RX11 137 yX11_no, Cond.static yX11_no, Cond.code yX11_no cX11_no 1 (some .long), Cond.constantLong RX11 57 (-9223372036854775808), Cond.methodLink RX11 127 yX11_faultNow, Cond.instanceMethod yX11_faultNow, Cond.selects RX11 yX11_faultNow yX11_faultNow, Cond.code yX11_faultNow cX11_faultNow 2 (some .int), Cond.fieldLink RX11 103 "RowsOfTwoModel" "isRead" "Z", Cond.fieldLink RX11 117 "RowsOfTwoModel" "fault" "I", Cond.fieldLink RX11 107 "RowsOfTwoModel" "at" "I", Cond.fieldLink RX11 120 "RowsOfTwoModel" "tests" "I", Cond.fieldLink RX11 100 "RowsOfTwoModel" "typed" "I"]
def wsX11_filled_r2 : List Cond := [Cond.methodLink RX11 123 yX11_test, Cond.instanceMethod yX11_test, Cond.selects RX11 yX11_test yX11_test, Cond.code yX11_test cX11_test 6 none, Cond.fieldLink RX11 26 "RowsOfTwoModel" "testNumber" "[I", Cond.fieldLink RX11 29 "RowsOfTwoModel" "testSign" "[I", Cond.fieldLink RX11 32 "RowsOfTwoModel" "testValue" "[I", Cond.fieldLink RX11 35 "RowsOfTwoModel" "testBegins" "[Z", Cond.methodLink RX11 110 yX11_byteNow, Cond.instanceMethod yX11_byteNow, Cond.selects RX11 yX11_byteNow yX11_byteNow, Cond.code yX11_byteNow cX11_byteNow 1 (some .int), Cond.fieldLink RX11 23 "RowsOfTwoModel" "text" "[I", Cond.methodLink RX11 114 yX11_numberBy, Cond.static yX11_numberBy, Cond.code yX11_numberBy cX11_numberBy 1 (some .int), Cond.methodLink RX11 154 yX11_gathers, Cond.instanceMethod yX11_gathers, Cond.selects RX11 yX11_gathers yX11_gathers, Cond.code yX11_gathers cX11_gathers 3 none, Cond.fieldLink RX11 13 "RowsOfTwoModel" "signs" "[I", Cond.fieldLink RX11 39 "RowsOfTwoModel" "unseen" "[I", Cond.methodLink RX11 158 yX11_fill, Cond.instanceMethod yX11_fill]
def wsX11_filled_r3 : List Cond := [Cond.selects RX11 yX11_fill yX11_fill, Cond.code yX11_fill cX11_fill 5 (some .int), Cond.methodLink RX11 90 yX11_bitsOf, Cond.instanceMethod yX11_bitsOf, Cond.selects RX11 yX11_bitsOf yX11_bitsOf, Cond.code yX11_bitsOf cX11_bitsOf 4 (some .int), Cond.methodLink RX11 130 yX11_does, Cond.instanceMethod yX11_does, Cond.selects RX11 yX11_does yX11_does, Cond.code yX11_does cX11_does 6 (some .boolean), Cond.methodLink RX11 93 yX11_numberOf, Cond.instanceMethod yX11_numberOf, Cond.selects RX11 yX11_numberOf yX11_numberOf, Cond.code yX11_numberOf cX11_numberOf 13 (some .int), Cond.methodLink RX11 81 yX11_ones, Cond.static yX11_ones, Cond.code yX11_ones cX11_ones 3 (some .int), Cond.methodLink RX11 84 yX11_standing, Cond.instanceMethod yX11_standing, Cond.selects RX11 yX11_standing yX11_standing, Cond.code yX11_standing cX11_standing 7 (some .int), Cond.fieldLink RX11 20 "RowsOfTwoModel" "pattern" "I", Cond.methodLink RX11 78 yX11_lengthOf, Cond.static yX11_lengthOf]
def wsX11_filled_r4 : List Cond := [Cond.code yX11_lengthOf cX11_lengthOf 2 (some .int), Cond.methodLink RX11 141 yX11_power, Cond.static yX11_power, Cond.code yX11_power cX11_power 6 (some .long), Cond.methodLink RX11 147 yX11_lowest, Cond.static yX11_lowest, Cond.code yX11_lowest cX11_lowest 11 (some .long)]
def wsX11_filled : List Cond := .code yX11_filled cX11_filled 6 (some .long) :: ((wsX11_filled_r1 ++ (wsX11_filled_r2 ++ (wsX11_filled_r3 ++ wsX11_filled_r4))) ++ wsX110)
def wsX11_sure_r1 : List Cond := [Cond.fieldLink RX11 7 "RowsOfTwoModel" "sizes" "[I", Cond.fieldLink RX11 151 "RowsOfTwoModel" "unseenMany" "I", Cond.methodLink RX11 63 yX11_isRow, Cond.static yX11_isRow, Cond.initialized RX11, Cond.code yX11_isRow cX11_isRow 1 (some .boolean), Cond.methodLink RX11 59 yX11_in, Cond.static yX11_in, Cond.code yX11_in cX11_in 3 (some .boolean), Cond.methodLink RX11 127 yX11_faultNow, Cond.instanceMethod yX11_faultNow, Cond.selects RX11 yX11_faultNow yX11_faultNow, Cond.code yX11_faultNow cX11_faultNow 2 (some .int), Cond.fieldLink RX11 103 "RowsOfTwoModel" "isRead" "Z", Cond.fieldLink RX11 117 "RowsOfTwoModel" "fault" "I", Cond.fieldLink RX11 107 "RowsOfTwoModel" "at" "I", Cond.fieldLink RX11 120 "RowsOfTwoModel" "tests" "I", Cond.fieldLink RX11 100 "RowsOfTwoModel" "typed" "I", Cond.methodLink RX11 123 yX11_test, Cond.instanceMethod yX11_test, Cond.selects RX11 yX11_test yX11_test, Cond.code yX11_test cX11_test 6 none, Cond.fieldLink RX11 26 "RowsOfTwoModel" "testNumber" "[I", Cond.fieldLink RX11 29 "RowsOfTwoModel" "testSign" "[I"]
def wsX11_sure_r2 : List Cond := [Cond.fieldLink RX11 32 "RowsOfTwoModel" "testValue" "[I", Cond.fieldLink RX11 35 "RowsOfTwoModel" "testBegins" "[Z", Cond.methodLink RX11 110 yX11_byteNow, Cond.instanceMethod yX11_byteNow, Cond.selects RX11 yX11_byteNow yX11_byteNow, Cond.code yX11_byteNow cX11_byteNow 1 (some .int), Cond.fieldLink RX11 23 "RowsOfTwoModel" "text" "[I", Cond.methodLink RX11 114 yX11_numberBy, Cond.static yX11_numberBy, Cond.code yX11_numberBy cX11_numberBy 1 (some .int), Cond.methodLink RX11 154 yX11_gathers, Cond.instanceMethod yX11_gathers, Cond.selects RX11 yX11_gathers yX11_gathers, Cond.code yX11_gathers cX11_gathers 3 none, Cond.fieldLink RX11 13 "RowsOfTwoModel" "signs" "[I", Cond.fieldLink RX11 39 "RowsOfTwoModel" "unseen" "[I", Cond.methodLink RX11 158 yX11_fill, Cond.instanceMethod yX11_fill, Cond.selects RX11 yX11_fill yX11_fill, Cond.code yX11_fill cX11_fill 5 (some .int), Cond.methodLink RX11 90 yX11_bitsOf, Cond.instanceMethod yX11_bitsOf, Cond.selects RX11 yX11_bitsOf yX11_bitsOf, Cond.code yX11_bitsOf cX11_bitsOf 4 (some .int)]
def wsX11_sure_r3 : List Cond := [Cond.methodLink RX11 130 yX11_does, Cond.instanceMethod yX11_does, Cond.selects RX11 yX11_does yX11_does, Cond.code yX11_does cX11_does 6 (some .boolean), Cond.methodLink RX11 93 yX11_numberOf, Cond.instanceMethod yX11_numberOf, Cond.selects RX11 yX11_numberOf yX11_numberOf, Cond.code yX11_numberOf cX11_numberOf 13 (some .int), Cond.methodLink RX11 81 yX11_ones, Cond.static yX11_ones, Cond.code yX11_ones cX11_ones 3 (some .int), Cond.methodLink RX11 84 yX11_standing, Cond.instanceMethod yX11_standing, Cond.selects RX11 yX11_standing yX11_standing, Cond.code yX11_standing cX11_standing 7 (some .int), Cond.fieldLink RX11 20 "RowsOfTwoModel" "pattern" "I", Cond.methodLink RX11 78 yX11_lengthOf, Cond.static yX11_lengthOf, Cond.code yX11_lengthOf cX11_lengthOf 2 (some .int)]
def wsX11_sure : List Cond := .code yX11_sure cX11_sure 8 (some .int) :: ((wsX11_sure_r1 ++ (wsX11_sure_r2 ++ wsX11_sure_r3)) ++ wsX110)
def wsX11_dealtMany : List Cond := .code yX11_dealtMany cX11_dealtMany 11 (some .int) :: ([.fieldLink RX11 7 "RowsOfTwoModel" "sizes" "[I", .methodLink RX11 90 yX11_bitsOf, .instanceMethod yX11_bitsOf, .selects RX11 yX11_bitsOf yX11_bitsOf, .initialized RX11, .code yX11_bitsOf cX11_bitsOf 4 (some .int), .fieldLink RX11 13 "RowsOfTwoModel" "signs" "[I", .methodLink RX11 81 yX11_ones, .static yX11_ones, .code yX11_ones cX11_ones 3 (some .int), .methodLink RX11 93 yX11_numberOf, .instanceMethod yX11_numberOf, .selects RX11 yX11_numberOf yX11_numberOf, .code yX11_numberOf cX11_numberOf 13 (some .int), .methodLink RX11 84 yX11_standing, .instanceMethod yX11_standing, .selects RX11 yX11_standing yX11_standing, .code yX11_standing cX11_standing 7 (some .int), .fieldLink RX11 20 "RowsOfTwoModel" "pattern" "I", .methodLink RX11 78 yX11_lengthOf, .static yX11_lengthOf, .code yX11_lengthOf cX11_lengthOf 2 (some .int)] ++ wsX110)
def wsX11_choose : List Cond := .code yX11_choose cX11_choose 5 (some .long) :: ([])
def wsX11_dealtAll : List Cond := .code yX11_dealtAll cX11_dealtAll 2 (some .long) :: ([.fieldLink RX11 7 "RowsOfTwoModel" "sizes" "[I", .methodLink RX11 90 yX11_bitsOf, .instanceMethod yX11_bitsOf, .selects RX11 yX11_bitsOf yX11_bitsOf, .initialized RX11, .code yX11_bitsOf cX11_bitsOf 4 (some .int), .fieldLink RX11 13 "RowsOfTwoModel" "signs" "[I", .methodLink RX11 81 yX11_ones, .static yX11_ones, .code yX11_ones cX11_ones 3 (some .int), .methodLink RX11 161 yX11_choose, .static yX11_choose, .code yX11_choose cX11_choose 5 (some .long)] ++ wsX110)
def wsX11_dealt_r1 : List Cond := [Cond.constantLong RX11 165 (1000000), Cond.methodLink RX11 63 yX11_isRow, Cond.static yX11_isRow, Cond.initialized RX11, Cond.code yX11_isRow cX11_isRow 1 (some .boolean), Cond.methodLink RX11 59 yX11_in, Cond.static yX11_in, Cond.code yX11_in cX11_in 3 (some .boolean), Cond.methodLink RX11 87 yX11_isWhole, Cond.instanceMethod yX11_isWhole, Cond.selects RX11 yX11_isWhole yX11_isWhole, Cond.code yX11_isWhole cX11_isWhole 3 (some .boolean), Cond.fieldLink RX11 7 "RowsOfTwoModel" "sizes" "[I", Cond.fieldLink RX11 13 "RowsOfTwoModel" "signs" "[I", Cond.methodLink RX11 167 yX11_dealtMany, Cond.instanceMethod yX11_dealtMany, Cond.selects RX11 yX11_dealtMany yX11_dealtMany, Cond.code yX11_dealtMany cX11_dealtMany 11 (some .int), Cond.methodLink RX11 90 yX11_bitsOf, Cond.instanceMethod yX11_bitsOf, Cond.selects RX11 yX11_bitsOf yX11_bitsOf, Cond.code yX11_bitsOf cX11_bitsOf 4 (some .int), Cond.methodLink RX11 81 yX11_ones, Cond.static yX11_ones]
def wsX11_dealt_r2 : List Cond := [Cond.code yX11_ones cX11_ones 3 (some .int), Cond.methodLink RX11 93 yX11_numberOf, Cond.instanceMethod yX11_numberOf, Cond.selects RX11 yX11_numberOf yX11_numberOf, Cond.code yX11_numberOf cX11_numberOf 13 (some .int), Cond.methodLink RX11 84 yX11_standing, Cond.instanceMethod yX11_standing, Cond.selects RX11 yX11_standing yX11_standing, Cond.code yX11_standing cX11_standing 7 (some .int), Cond.fieldLink RX11 20 "RowsOfTwoModel" "pattern" "I", Cond.methodLink RX11 78 yX11_lengthOf, Cond.static yX11_lengthOf, Cond.code yX11_lengthOf cX11_lengthOf 2 (some .int), Cond.methodLink RX11 171 yX11_dealtAll, Cond.instanceMethod yX11_dealtAll, Cond.selects RX11 yX11_dealtAll yX11_dealtAll, Cond.code yX11_dealtAll cX11_dealtAll 2 (some .long), Cond.methodLink RX11 161 yX11_choose, Cond.static yX11_choose, Cond.code yX11_choose cX11_choose 5 (some .long)]
def wsX11_dealt : List Cond := .code yX11_dealt cX11_dealt 4 (some .int) :: ((wsX11_dealt_r1 ++ wsX11_dealt_r2) ++ wsX110)
def wsX11_strangest_r1 : List Cond := [Cond.fieldLink RX11 7 "RowsOfTwoModel" "sizes" "[I", Cond.methodLink RX11 63 yX11_isRow, Cond.static yX11_isRow, Cond.initialized RX11, Cond.code yX11_isRow cX11_isRow 1 (some .boolean), Cond.methodLink RX11 59 yX11_in, Cond.static yX11_in, Cond.code yX11_in cX11_in 3 (some .boolean), Cond.methodLink RX11 87 yX11_isWhole, Cond.instanceMethod yX11_isWhole, Cond.selects RX11 yX11_isWhole yX11_isWhole, Cond.code yX11_isWhole cX11_isWhole 3 (some .boolean), Cond.fieldLink RX11 13 "RowsOfTwoModel" "signs" "[I", Cond.methodLink RX11 167 yX11_dealtMany, Cond.instanceMethod yX11_dealtMany, Cond.selects RX11 yX11_dealtMany yX11_dealtMany, Cond.code yX11_dealtMany cX11_dealtMany 11 (some .int), Cond.methodLink RX11 90 yX11_bitsOf, Cond.instanceMethod yX11_bitsOf, Cond.selects RX11 yX11_bitsOf yX11_bitsOf, Cond.code yX11_bitsOf cX11_bitsOf 4 (some .int), Cond.methodLink RX11 81 yX11_ones, Cond.static yX11_ones, Cond.code yX11_ones cX11_ones 3 (some .int)]
def wsX11_strangest_r2 : List Cond := [Cond.methodLink RX11 93 yX11_numberOf, Cond.instanceMethod yX11_numberOf, Cond.selects RX11 yX11_numberOf yX11_numberOf, Cond.code yX11_numberOf cX11_numberOf 13 (some .int), Cond.methodLink RX11 84 yX11_standing, Cond.instanceMethod yX11_standing, Cond.selects RX11 yX11_standing yX11_standing, Cond.code yX11_standing cX11_standing 7 (some .int), Cond.fieldLink RX11 20 "RowsOfTwoModel" "pattern" "I", Cond.methodLink RX11 78 yX11_lengthOf, Cond.static yX11_lengthOf, Cond.code yX11_lengthOf cX11_lengthOf 2 (some .int)]
def wsX11_strangest : List Cond := .code yX11_strangest cX11_strangest 7 (some .int) :: ((wsX11_strangest_r1 ++ wsX11_strangest_r2) ++ wsX110)
def wsX11_behind : List Cond := .code yX11_behind cX11_behind 6 none :: ([.fieldLink RX11 174 "RowsOfTwoModel" "behindAll" "I", .fieldLink RX11 177 "RowsOfTwoModel" "behindHits" "I"] ++ wsX110)
def wsX11_hot_r1 : List Cond := [Cond.fieldLink RX11 7 "RowsOfTwoModel" "sizes" "[I", Cond.fieldLink RX11 174 "RowsOfTwoModel" "behindAll" "I", Cond.fieldLink RX11 177 "RowsOfTwoModel" "behindHits" "I", Cond.methodLink RX11 63 yX11_isRow, Cond.static yX11_isRow, Cond.initialized RX11, Cond.code yX11_isRow cX11_isRow 1 (some .boolean), Cond.methodLink RX11 59 yX11_in, Cond.static yX11_in, Cond.code yX11_in cX11_in 3 (some .boolean), Cond.methodLink RX11 137 yX11_no, Cond.static yX11_no, Cond.code yX11_no cX11_no 1 (some .long), Cond.constantLong RX11 57 (-9223372036854775808), Cond.methodLink RX11 87 yX11_isWhole, Cond.instanceMethod yX11_isWhole, Cond.selects RX11 yX11_isWhole yX11_isWhole, Cond.code yX11_isWhole cX11_isWhole 3 (some .boolean), Cond.fieldLink RX11 13 "RowsOfTwoModel" "signs" "[I", Cond.methodLink RX11 90 yX11_bitsOf, Cond.instanceMethod yX11_bitsOf, Cond.selects RX11 yX11_bitsOf yX11_bitsOf, Cond.code yX11_bitsOf cX11_bitsOf 4 (some .int), Cond.methodLink RX11 180 yX11_behind]
def wsX11_hot_r2 : List Cond := [Cond.instanceMethod yX11_behind, Cond.selects RX11 yX11_behind yX11_behind, Cond.code yX11_behind cX11_behind 6 none, Cond.methodLink RX11 147 yX11_lowest, Cond.static yX11_lowest, Cond.code yX11_lowest cX11_lowest 11 (some .long)]
def wsX11_hot : List Cond := .code yX11_hot cX11_hot 4 (some .long) :: ((wsX11_hot_r1 ++ wsX11_hot_r2) ++ wsX110)
def wsX11_already_r1 : List Cond := [Cond.fieldLink RX11 7 "RowsOfTwoModel" "sizes" "[I", Cond.fieldLink RX11 174 "RowsOfTwoModel" "behindAll" "I", Cond.fieldLink RX11 177 "RowsOfTwoModel" "behindHits" "I", Cond.constantLong RX11 184 (360360), Cond.methodLink RX11 63 yX11_isRow, Cond.static yX11_isRow, Cond.initialized RX11, Cond.code yX11_isRow cX11_isRow 1 (some .boolean), Cond.methodLink RX11 59 yX11_in, Cond.static yX11_in, Cond.code yX11_in cX11_in 3 (some .boolean), Cond.methodLink RX11 137 yX11_no, Cond.static yX11_no, Cond.code yX11_no cX11_no 1 (some .long), Cond.constantLong RX11 57 (-9223372036854775808), Cond.methodLink RX11 87 yX11_isWhole, Cond.instanceMethod yX11_isWhole, Cond.selects RX11 yX11_isWhole yX11_isWhole, Cond.code yX11_isWhole cX11_isWhole 3 (some .boolean), Cond.fieldLink RX11 13 "RowsOfTwoModel" "signs" "[I", Cond.methodLink RX11 90 yX11_bitsOf, Cond.instanceMethod yX11_bitsOf, Cond.selects RX11 yX11_bitsOf yX11_bitsOf, Cond.code yX11_bitsOf cX11_bitsOf 4 (some .int)]
def wsX11_already_r2 : List Cond := [Cond.methodLink RX11 81 yX11_ones, Cond.static yX11_ones, Cond.code yX11_ones cX11_ones 3 (some .int), Cond.methodLink RX11 180 yX11_behind, Cond.instanceMethod yX11_behind, Cond.selects RX11 yX11_behind yX11_behind, Cond.code yX11_behind cX11_behind 6 none, Cond.methodLink RX11 147 yX11_lowest, Cond.static yX11_lowest, Cond.code yX11_lowest cX11_lowest 11 (some .long)]
def wsX11_already : List Cond := .code yX11_already cX11_already 10 (some .long) :: ((wsX11_already_r1 ++ wsX11_already_r2) ++ wsX110)
def wsX11_oddsOf : List Cond := .code yX11_oddsOf cX11_oddsOf 7 (some .long) :: ([.fieldLink RX11 16 "RowsOfTwoModel" "odds" "I", .methodLink RX11 78 yX11_lengthOf, .static yX11_lengthOf, .initialized RX11, .code yX11_lengthOf cX11_lengthOf 2 (some .int)] ++ wsX110)
def wsX11_overlaps : List Cond := .code yX11_overlaps cX11_overlaps 4 (some .boolean) :: ([.methodLink RX11 78 yX11_lengthOf, .static yX11_lengthOf, .initialized RX11, .code yX11_lengthOf cX11_lengthOf 2 (some .int)])
def wsX11_lead : List Cond := .code yX11_lead cX11_lead 7 (some .long) :: ([.constantLong RX11 145 (16), .methodLink RX11 78 yX11_lengthOf, .static yX11_lengthOf, .initialized RX11, .code yX11_lengthOf cX11_lengthOf 2 (some .int), .methodLink RX11 186 yX11_overlaps, .static yX11_overlaps, .code yX11_overlaps cX11_overlaps 4 (some .boolean), .methodLink RX11 141 yX11_power, .static yX11_power, .code yX11_power cX11_power 6 (some .long), .methodLink RX11 189 yX11_oddsOf, .instanceMethod yX11_oddsOf, .selects RX11 yX11_oddsOf yX11_oddsOf, .code yX11_oddsOf cX11_oddsOf 7 (some .long), .fieldLink RX11 16 "RowsOfTwoModel" "odds" "I"] ++ wsX110)
def wsX11_waitsNow : List Cond := .code yX11_waitsNow cX11_waitsNow 2 (some .long) :: ([.fieldLink RX11 20 "RowsOfTwoModel" "pattern" "I", .methodLink RX11 192 yX11_lead, .instanceMethod yX11_lead, .selects RX11 yX11_lead yX11_lead, .initialized RX11, .code yX11_lead cX11_lead 7 (some .long), .constantLong RX11 145 (16), .methodLink RX11 78 yX11_lengthOf, .static yX11_lengthOf, .code yX11_lengthOf cX11_lengthOf 2 (some .int), .methodLink RX11 186 yX11_overlaps, .static yX11_overlaps, .code yX11_overlaps cX11_overlaps 4 (some .boolean), .methodLink RX11 141 yX11_power, .static yX11_power, .code yX11_power cX11_power 6 (some .long), .methodLink RX11 189 yX11_oddsOf, .instanceMethod yX11_oddsOf, .selects RX11 yX11_oddsOf yX11_oddsOf, .code yX11_oddsOf cX11_oddsOf 7 (some .long), .fieldLink RX11 16 "RowsOfTwoModel" "odds" "I", .methodLink RX11 147 yX11_lowest, .static yX11_lowest, .code yX11_lowest cX11_lowest 11 (some .long)] ++ wsX110)
def wsX11_waits_r1 : List Cond := [Cond.methodLink RX11 59 yX11_in, Cond.static yX11_in, Cond.initialized RX11, Cond.code yX11_in cX11_in 3 (some .boolean), Cond.methodLink RX11 195 yX11_waitsNow, Cond.instanceMethod yX11_waitsNow, Cond.selects RX11 yX11_waitsNow yX11_waitsNow, Cond.code yX11_waitsNow cX11_waitsNow 2 (some .long), Cond.fieldLink RX11 20 "RowsOfTwoModel" "pattern" "I", Cond.methodLink RX11 192 yX11_lead, Cond.instanceMethod yX11_lead, Cond.selects RX11 yX11_lead yX11_lead, Cond.code yX11_lead cX11_lead 7 (some .long), Cond.constantLong RX11 145 (16), Cond.methodLink RX11 78 yX11_lengthOf, Cond.static yX11_lengthOf, Cond.code yX11_lengthOf cX11_lengthOf 2 (some .int), Cond.methodLink RX11 186 yX11_overlaps, Cond.static yX11_overlaps, Cond.code yX11_overlaps cX11_overlaps 4 (some .boolean), Cond.methodLink RX11 141 yX11_power, Cond.static yX11_power, Cond.code yX11_power cX11_power 6 (some .long), Cond.methodLink RX11 189 yX11_oddsOf]
def wsX11_waits_r2 : List Cond := [Cond.instanceMethod yX11_oddsOf, Cond.selects RX11 yX11_oddsOf yX11_oddsOf, Cond.code yX11_oddsOf cX11_oddsOf 7 (some .long), Cond.fieldLink RX11 16 "RowsOfTwoModel" "odds" "I", Cond.methodLink RX11 147 yX11_lowest, Cond.static yX11_lowest, Cond.code yX11_lowest cX11_lowest 11 (some .long), Cond.methodLink RX11 137 yX11_no, Cond.static yX11_no, Cond.code yX11_no cX11_no 1 (some .long), Cond.constantLong RX11 57 (-9223372036854775808)]
def wsX11_waits : List Cond := .code yX11_waits cX11_waits 2 (some .long) :: ((wsX11_waits_r1 ++ wsX11_waits_r2) ++ wsX110)
def wsX11_stands : List Cond := .code yX11_stands cX11_stands 5 (some .boolean) :: ([.methodLink RX11 78 yX11_lengthOf, .static yX11_lengthOf, .initialized RX11, .code yX11_lengthOf cX11_lengthOf 2 (some .int)])
def wsX11_first_r1 : List Cond := [Cond.methodLink RX11 59 yX11_in, Cond.static yX11_in, Cond.initialized RX11, Cond.code yX11_in cX11_in 3 (some .boolean), Cond.methodLink RX11 137 yX11_no, Cond.static yX11_no, Cond.code yX11_no cX11_no 1 (some .long), Cond.constantLong RX11 57 (-9223372036854775808), Cond.methodLink RX11 198 yX11_stands, Cond.static yX11_stands, Cond.code yX11_stands cX11_stands 5 (some .boolean), Cond.methodLink RX11 78 yX11_lengthOf, Cond.static yX11_lengthOf, Cond.code yX11_lengthOf cX11_lengthOf 2 (some .int), Cond.methodLink RX11 189 yX11_oddsOf, Cond.instanceMethod yX11_oddsOf, Cond.selects RX11 yX11_oddsOf yX11_oddsOf, Cond.code yX11_oddsOf cX11_oddsOf 7 (some .long), Cond.fieldLink RX11 16 "RowsOfTwoModel" "odds" "I", Cond.methodLink RX11 192 yX11_lead, Cond.instanceMethod yX11_lead, Cond.selects RX11 yX11_lead yX11_lead, Cond.code yX11_lead cX11_lead 7 (some .long), Cond.constantLong RX11 145 (16)]
def wsX11_first_r2 : List Cond := [Cond.methodLink RX11 186 yX11_overlaps, Cond.static yX11_overlaps, Cond.code yX11_overlaps cX11_overlaps 4 (some .boolean), Cond.methodLink RX11 141 yX11_power, Cond.static yX11_power, Cond.code yX11_power cX11_power 6 (some .long), Cond.methodLink RX11 147 yX11_lowest, Cond.static yX11_lowest, Cond.code yX11_lowest cX11_lowest 11 (some .long)]
def wsX11_first : List Cond := .code yX11_first cX11_first 12 (some .long) :: ((wsX11_first_r1 ++ wsX11_first_r2) ++ wsX110)
def wsX11_agree_r1 : List Cond := [Cond.fieldLink RX11 7 "RowsOfTwoModel" "sizes" "[I", Cond.constantLong RX11 165 (1000000), Cond.methodLink RX11 63 yX11_isRow, Cond.static yX11_isRow, Cond.initialized RX11, Cond.code yX11_isRow cX11_isRow 1 (some .boolean), Cond.methodLink RX11 59 yX11_in, Cond.static yX11_in, Cond.code yX11_in cX11_in 3 (some .boolean), Cond.methodLink RX11 87 yX11_isWhole, Cond.instanceMethod yX11_isWhole, Cond.selects RX11 yX11_isWhole yX11_isWhole, Cond.code yX11_isWhole cX11_isWhole 3 (some .boolean), Cond.fieldLink RX11 13 "RowsOfTwoModel" "signs" "[I", Cond.methodLink RX11 90 yX11_bitsOf, Cond.instanceMethod yX11_bitsOf, Cond.selects RX11 yX11_bitsOf yX11_bitsOf, Cond.code yX11_bitsOf cX11_bitsOf 4 (some .int), Cond.methodLink RX11 81 yX11_ones, Cond.static yX11_ones, Cond.code yX11_ones cX11_ones 3 (some .int), Cond.methodLink RX11 171 yX11_dealtAll, Cond.instanceMethod yX11_dealtAll, Cond.selects RX11 yX11_dealtAll yX11_dealtAll]
def wsX11_agree_r2 : List Cond := [Cond.code yX11_dealtAll cX11_dealtAll 2 (some .long), Cond.methodLink RX11 161 yX11_choose, Cond.static yX11_choose, Cond.code yX11_choose cX11_choose 5 (some .long)]
def wsX11_agree : List Cond := .code yX11_agree cX11_agree 10 (some .int) :: ((wsX11_agree_r1 ++ wsX11_agree_r2) ++ wsX110)
def wsX11_twice : List Cond := .code yX11_twice cX11_twice 8 (some .int) :: ([.fieldLink RX11 7 "RowsOfTwoModel" "sizes" "[I", .fieldLink RX11 13 "RowsOfTwoModel" "signs" "[I", .methodLink RX11 63 yX11_isRow, .static yX11_isRow, .initialized RX11, .code yX11_isRow cX11_isRow 1 (some .boolean), .methodLink RX11 59 yX11_in, .static yX11_in, .code yX11_in cX11_in 3 (some .boolean), .methodLink RX11 87 yX11_isWhole, .instanceMethod yX11_isWhole, .selects RX11 yX11_isWhole yX11_isWhole, .code yX11_isWhole cX11_isWhole 3 (some .boolean)] ++ wsX110)
def wsX11_next : List Cond := .code yX11_next cX11_next 11 (some .int) :: ([.fieldLink RX11 7 "RowsOfTwoModel" "sizes" "[I", .fieldLink RX11 13 "RowsOfTwoModel" "signs" "[I", .constantLong RX11 201 (2), .methodLink RX11 63 yX11_isRow, .static yX11_isRow, .initialized RX11, .code yX11_isRow cX11_isRow 1 (some .boolean), .methodLink RX11 59 yX11_in, .static yX11_in, .code yX11_in cX11_in 3 (some .boolean), .methodLink RX11 147 yX11_lowest, .static yX11_lowest, .code yX11_lowest cX11_lowest 11 (some .long)] ++ wsX110)
def wsX11_sheet : List Cond := .code yX11_sheet cX11_sheet 5 (some .int) :: ([.fieldLink RX11 42 "RowsOfTwoModel" "isThere" "[Z", .fieldLink RX11 45 "RowsOfTwoModel" "types" "[I", .fieldLink RX11 48 "RowsOfTwoModel" "held" "[I", .fieldLink RX11 51 "RowsOfTwoModel" "items" "[I", .methodLink RX11 71 yX11_isSheet, .static yX11_isSheet, .initialized RX11, .code yX11_isSheet cX11_isSheet 1 (some .boolean), .methodLink RX11 59 yX11_in, .static yX11_in, .code yX11_in cX11_in 3 (some .boolean), .methodLink RX11 74 yX11_meets, .instanceMethod yX11_meets, .selects RX11 yX11_meets yX11_meets, .code yX11_meets cX11_meets 2 (some .int), .fieldLink RX11 203 "RowsOfTwoModel" "finding" "I"] ++ wsX110)
def wsX11_lose : List Cond := .code yX11_lose cX11_lose 2 (some .int) :: ([.fieldLink RX11 42 "RowsOfTwoModel" "isThere" "[Z", .fieldLink RX11 48 "RowsOfTwoModel" "held" "[I", .methodLink RX11 71 yX11_isSheet, .static yX11_isSheet, .initialized RX11, .code yX11_isSheet cX11_isSheet 1 (some .boolean), .methodLink RX11 59 yX11_in, .static yX11_in, .code yX11_in cX11_in 3 (some .boolean), .methodLink RX11 74 yX11_meets, .instanceMethod yX11_meets, .selects RX11 yX11_meets yX11_meets, .code yX11_meets cX11_meets 2 (some .int), .fieldLink RX11 203 "RowsOfTwoModel" "finding" "I"] ++ wsX110)
def wsX11_lacks : List Cond := .code yX11_lacks cX11_lacks 4 (some .int) :: ([.fieldLink RX11 42 "RowsOfTwoModel" "isThere" "[Z", .fieldLink RX11 45 "RowsOfTwoModel" "types" "[I", .fieldLink RX11 48 "RowsOfTwoModel" "held" "[I", .methodLink RX11 59 yX11_in, .static yX11_in, .initialized RX11, .code yX11_in cX11_in 3 (some .boolean)] ++ wsX110)
def wsX11_keep : List Cond := .code yX11_keep cX11_keep 4 none :: ([.fieldLink RX11 51 "RowsOfTwoModel" "items" "[I", .fieldLink RX11 45 "RowsOfTwoModel" "types" "[I"] ++ wsX110)
def wsX11_put : List Cond := .code yX11_put cX11_put 6 (some .int) :: ([.methodLink RX11 71 yX11_isSheet, .static yX11_isSheet, .initialized RX11, .code yX11_isSheet cX11_isSheet 1 (some .boolean), .methodLink RX11 59 yX11_in, .static yX11_in, .code yX11_in cX11_in 3 (some .boolean), .methodLink RX11 206 yX11_lacks, .instanceMethod yX11_lacks, .selects RX11 yX11_lacks yX11_lacks, .code yX11_lacks cX11_lacks 4 (some .int), .fieldLink RX11 42 "RowsOfTwoModel" "isThere" "[Z", .fieldLink RX11 45 "RowsOfTwoModel" "types" "[I", .fieldLink RX11 48 "RowsOfTwoModel" "held" "[I", .methodLink RX11 74 yX11_meets, .instanceMethod yX11_meets, .selects RX11 yX11_meets yX11_meets, .code yX11_meets cX11_meets 2 (some .int), .fieldLink RX11 203 "RowsOfTwoModel" "finding" "I", .methodLink RX11 209 yX11_keep, .instanceMethod yX11_keep, .selects RX11 yX11_keep yX11_keep, .code yX11_keep cX11_keep 4 none, .fieldLink RX11 51 "RowsOfTwoModel" "items" "[I"] ++ wsX110)
def wsX11_get : List Cond := .code yX11_get cX11_get 5 (some .int) :: ([.constant RX11 212 (-2147483648), .fieldLink RX11 203 "RowsOfTwoModel" "finding" "I", .fieldLink RX11 51 "RowsOfTwoModel" "items" "[I", .methodLink RX11 71 yX11_isSheet, .static yX11_isSheet, .initialized RX11, .code yX11_isSheet cX11_isSheet 1 (some .boolean), .methodLink RX11 59 yX11_in, .static yX11_in, .code yX11_in cX11_in 3 (some .boolean), .methodLink RX11 206 yX11_lacks, .instanceMethod yX11_lacks, .selects RX11 yX11_lacks yX11_lacks, .code yX11_lacks cX11_lacks 4 (some .int), .fieldLink RX11 42 "RowsOfTwoModel" "isThere" "[Z", .fieldLink RX11 45 "RowsOfTwoModel" "types" "[I", .fieldLink RX11 48 "RowsOfTwoModel" "held" "[I"] ++ wsX110)
def wsX11_copy : List Cond := .code yX11_copy cX11_copy 7 (some .int) :: ([.fieldLink RX11 42 "RowsOfTwoModel" "isThere" "[Z", .fieldLink RX11 45 "RowsOfTwoModel" "types" "[I", .fieldLink RX11 48 "RowsOfTwoModel" "held" "[I", .fieldLink RX11 54 "RowsOfTwoModel" "moved" "[I", .fieldLink RX11 51 "RowsOfTwoModel" "items" "[I", .methodLink RX11 71 yX11_isSheet, .static yX11_isSheet, .initialized RX11, .code yX11_isSheet cX11_isSheet 1 (some .boolean), .methodLink RX11 59 yX11_in, .static yX11_in, .code yX11_in cX11_in 3 (some .boolean), .methodLink RX11 74 yX11_meets, .instanceMethod yX11_meets, .selects RX11 yX11_meets yX11_meets, .code yX11_meets cX11_meets 2 (some .int), .fieldLink RX11 203 "RowsOfTwoModel" "finding" "I"] ++ wsX110)
def wsX11_write_r1 : List Cond := [Cond.fieldLink RX11 42 "RowsOfTwoModel" "isThere" "[Z", Cond.fieldLink RX11 7 "RowsOfTwoModel" "sizes" "[I", Cond.fieldLink RX11 48 "RowsOfTwoModel" "held" "[I", Cond.fieldLink RX11 13 "RowsOfTwoModel" "signs" "[I", Cond.methodLink RX11 63 yX11_isRow, Cond.static yX11_isRow, Cond.initialized RX11, Cond.code yX11_isRow cX11_isRow 1 (some .boolean), Cond.methodLink RX11 59 yX11_in, Cond.static yX11_in, Cond.code yX11_in cX11_in 3 (some .boolean), Cond.methodLink RX11 71 yX11_isSheet, Cond.static yX11_isSheet, Cond.code yX11_isSheet cX11_isSheet 1 (some .boolean), Cond.methodLink RX11 74 yX11_meets, Cond.instanceMethod yX11_meets, Cond.selects RX11 yX11_meets yX11_meets, Cond.code yX11_meets cX11_meets 2 (some .int), Cond.fieldLink RX11 203 "RowsOfTwoModel" "finding" "I", Cond.methodLink RX11 209 yX11_keep, Cond.instanceMethod yX11_keep, Cond.selects RX11 yX11_keep yX11_keep, Cond.code yX11_keep cX11_keep 4 none, Cond.fieldLink RX11 51 "RowsOfTwoModel" "items" "[I"]
def wsX11_write_r2 : List Cond := [Cond.fieldLink RX11 45 "RowsOfTwoModel" "types" "[I"]
def wsX11_write : List Cond := .code yX11_write cX11_write 4 (some .int) :: ((wsX11_write_r1 ++ wsX11_write_r2) ++ wsX110)
def wsX11_wholeOnes : List Cond := .code yX11_wholeOnes cX11_wholeOnes 3 (some .int) :: ([.methodLink RX11 87 yX11_isWhole, .instanceMethod yX11_isWhole, .selects RX11 yX11_isWhole yX11_isWhole, .initialized RX11, .code yX11_isWhole cX11_isWhole 3 (some .boolean), .fieldLink RX11 7 "RowsOfTwoModel" "sizes" "[I", .fieldLink RX11 13 "RowsOfTwoModel" "signs" "[I"] ++ wsX110)
def wsX11_count : List Cond := .code yX11_count cX11_count 2 (some .int) :: ([.fieldLink RX11 7 "RowsOfTwoModel" "sizes" "[I", .fieldLink RX11 100 "RowsOfTwoModel" "typed" "I", .fieldLink RX11 16 "RowsOfTwoModel" "odds" "I", .fieldLink RX11 20 "RowsOfTwoModel" "pattern" "I", .fieldLink RX11 203 "RowsOfTwoModel" "finding" "I", .methodLink RX11 213 yX11_wholeOnes, .instanceMethod yX11_wholeOnes, .selects RX11 yX11_wholeOnes yX11_wholeOnes, .initialized RX11, .code yX11_wholeOnes cX11_wholeOnes 3 (some .int), .methodLink RX11 87 yX11_isWhole, .instanceMethod yX11_isWhole, .selects RX11 yX11_isWhole yX11_isWhole, .code yX11_isWhole cX11_isWhole 3 (some .boolean), .fieldLink RX11 13 "RowsOfTwoModel" "signs" "[I"] ++ wsX110)
def wsX11_digest_r1 : List Cond := [Cond.constantLong RX11 216 (17), Cond.constantLong RX11 218 (31), Cond.fieldLink RX11 7 "RowsOfTwoModel" "sizes" "[I", Cond.fieldLink RX11 13 "RowsOfTwoModel" "signs" "[I", Cond.fieldLink RX11 151 "RowsOfTwoModel" "unseenMany" "I", Cond.methodLink RX11 220 yX11_count, Cond.instanceMethod yX11_count, Cond.selects RX11 yX11_count yX11_count, Cond.initialized RX11, Cond.code yX11_count cX11_count 2 (some .int), Cond.fieldLink RX11 100 "RowsOfTwoModel" "typed" "I", Cond.fieldLink RX11 16 "RowsOfTwoModel" "odds" "I", Cond.fieldLink RX11 20 "RowsOfTwoModel" "pattern" "I", Cond.fieldLink RX11 203 "RowsOfTwoModel" "finding" "I", Cond.methodLink RX11 213 yX11_wholeOnes, Cond.instanceMethod yX11_wholeOnes, Cond.selects RX11 yX11_wholeOnes yX11_wholeOnes, Cond.code yX11_wholeOnes cX11_wholeOnes 3 (some .int), Cond.methodLink RX11 87 yX11_isWhole, Cond.instanceMethod yX11_isWhole, Cond.selects RX11 yX11_isWhole yX11_isWhole, Cond.code yX11_isWhole cX11_isWhole 3 (some .boolean), Cond.methodLink RX11 97 yX11_showsNow, Cond.instanceMethod yX11_showsNow]
def wsX11_digest_r2 : List Cond := [Cond.selects RX11 yX11_showsNow yX11_showsNow, Cond.code yX11_showsNow cX11_showsNow 3 (some .int), Cond.methodLink RX11 90 yX11_bitsOf, Cond.instanceMethod yX11_bitsOf, Cond.selects RX11 yX11_bitsOf yX11_bitsOf, Cond.code yX11_bitsOf cX11_bitsOf 4 (some .int), Cond.methodLink RX11 93 yX11_numberOf, Cond.instanceMethod yX11_numberOf, Cond.selects RX11 yX11_numberOf yX11_numberOf, Cond.code yX11_numberOf cX11_numberOf 13 (some .int), Cond.methodLink RX11 81 yX11_ones, Cond.static yX11_ones, Cond.code yX11_ones cX11_ones 3 (some .int), Cond.methodLink RX11 84 yX11_standing, Cond.instanceMethod yX11_standing, Cond.selects RX11 yX11_standing yX11_standing, Cond.code yX11_standing cX11_standing 7 (some .int), Cond.methodLink RX11 78 yX11_lengthOf, Cond.static yX11_lengthOf, Cond.code yX11_lengthOf cX11_lengthOf 2 (some .int), Cond.methodLink RX11 127 yX11_faultNow, Cond.instanceMethod yX11_faultNow, Cond.selects RX11 yX11_faultNow yX11_faultNow, Cond.code yX11_faultNow cX11_faultNow 2 (some .int)]
def wsX11_digest_r3 : List Cond := [Cond.fieldLink RX11 103 "RowsOfTwoModel" "isRead" "Z", Cond.fieldLink RX11 117 "RowsOfTwoModel" "fault" "I", Cond.fieldLink RX11 107 "RowsOfTwoModel" "at" "I", Cond.fieldLink RX11 120 "RowsOfTwoModel" "tests" "I", Cond.methodLink RX11 123 yX11_test, Cond.instanceMethod yX11_test, Cond.selects RX11 yX11_test yX11_test, Cond.code yX11_test cX11_test 6 none, Cond.fieldLink RX11 26 "RowsOfTwoModel" "testNumber" "[I", Cond.fieldLink RX11 29 "RowsOfTwoModel" "testSign" "[I", Cond.fieldLink RX11 32 "RowsOfTwoModel" "testValue" "[I", Cond.fieldLink RX11 35 "RowsOfTwoModel" "testBegins" "[Z", Cond.methodLink RX11 110 yX11_byteNow, Cond.instanceMethod yX11_byteNow, Cond.selects RX11 yX11_byteNow yX11_byteNow, Cond.code yX11_byteNow cX11_byteNow 1 (some .int), Cond.fieldLink RX11 23 "RowsOfTwoModel" "text" "[I", Cond.methodLink RX11 114 yX11_numberBy, Cond.static yX11_numberBy, Cond.code yX11_numberBy cX11_numberBy 1 (some .int), Cond.methodLink RX11 59 yX11_in, Cond.static yX11_in, Cond.code yX11_in cX11_in 3 (some .boolean), Cond.methodLink RX11 134 yX11_shownNow]
def wsX11_digest_r4 : List Cond := [Cond.instanceMethod yX11_shownNow, Cond.selects RX11 yX11_shownNow yX11_shownNow, Cond.code yX11_shownNow cX11_shownNow 5 (some .int), Cond.methodLink RX11 130 yX11_does, Cond.instanceMethod yX11_does, Cond.selects RX11 yX11_does yX11_does, Cond.code yX11_does cX11_does 6 (some .boolean), Cond.methodLink RX11 195 yX11_waitsNow, Cond.instanceMethod yX11_waitsNow, Cond.selects RX11 yX11_waitsNow yX11_waitsNow, Cond.code yX11_waitsNow cX11_waitsNow 2 (some .long), Cond.methodLink RX11 192 yX11_lead, Cond.instanceMethod yX11_lead, Cond.selects RX11 yX11_lead yX11_lead, Cond.code yX11_lead cX11_lead 7 (some .long), Cond.constantLong RX11 145 (16), Cond.methodLink RX11 186 yX11_overlaps, Cond.static yX11_overlaps, Cond.code yX11_overlaps cX11_overlaps 4 (some .boolean), Cond.methodLink RX11 141 yX11_power, Cond.static yX11_power, Cond.code yX11_power cX11_power 6 (some .long), Cond.methodLink RX11 189 yX11_oddsOf, Cond.instanceMethod yX11_oddsOf]
def wsX11_digest_r5 : List Cond := [Cond.selects RX11 yX11_oddsOf yX11_oddsOf, Cond.code yX11_oddsOf cX11_oddsOf 7 (some .long), Cond.methodLink RX11 147 yX11_lowest, Cond.static yX11_lowest, Cond.code yX11_lowest cX11_lowest 11 (some .long), Cond.methodLink RX11 154 yX11_gathers, Cond.instanceMethod yX11_gathers, Cond.selects RX11 yX11_gathers yX11_gathers, Cond.code yX11_gathers cX11_gathers 3 none, Cond.fieldLink RX11 39 "RowsOfTwoModel" "unseen" "[I"]
def wsX11_digest : List Cond := .code yX11_digest cX11_digest 5 (some .long) :: ((wsX11_digest_r1 ++ (wsX11_digest_r2 ++ (wsX11_digest_r3 ++ (wsX11_digest_r4 ++ wsX11_digest_r5)))) ++ wsX110)
def wsJ9_max_7cf53 : List Cond := .code yJ9_max_7cf53 cJ9_max_7cf53 2 (some .int) :: ([])
def wsJ9_min_7cf53 : List Cond := .code yJ9_min_7cf53 cJ9_min_7cf53 2 (some .int) :: ([])
abbrev vwCl : List vw_C := [(RX0, TX0, 3), (RX5, TX5, 3), (RX6, TX6, 9), (RX7, TX7, 4), (RX8, TX8, 2), (RX10, TX10, 8), (RX11, TX11, 24)]
end
section
theorem dX0_init_0 : decode cX0_init 0 = .ok (.aload_n 0, 1) := by decide +kernel
theorem dX0_init_1 : decode cX0_init 1 = .ok (.invokespecial 3, 3) := by decide +kernel
theorem dX0_init_4 : decode cX0_init 4 = .ok (.aload_n 0, 1) := by decide +kernel
theorem dX0_init_5 : decode cX0_init 5 = .ok (.bipush 16, 2) := by decide +kernel
theorem dX0_init_7 : decode cX0_init 7 = .ok (.newarray .int, 2) := by decide +kernel
theorem dX0_init_9 : decode cX0_init 9 = .ok (.putfield 9, 3) := by decide +kernel
theorem dX0_init_12 : decode cX0_init 12 = .ok (.return_, 1) := by decide +kernel
theorem dX0_learn_0 : decode cX0_learn 0 = .ok (.iconst 0, 1) := by decide +kernel
theorem dX0_learn_1 : decode cX0_learn 1 = .ok (.istore 4, 2) := by decide +kernel
theorem dX0_learn_3 : decode cX0_learn 3 = .ok (.iload 4, 2) := by decide +kernel
theorem dX0_learn_5 : decode cX0_learn 5 = .ok (.bipush 15, 2) := by decide +kernel
theorem dX0_learn_7 : decode cX0_learn 7 = .ok (.if_icmp .gt 17, 3) := by decide +kernel
theorem dX0_learn_10 : decode cX0_learn 10 = .ok (.aload_n 0, 1) := by decide +kernel
theorem dX0_learn_11 : decode cX0_learn 11 = .ok (.getfield 9, 3) := by decide +kernel
theorem dX0_learn_14 : decode cX0_learn 14 = .ok (.iload 4, 2) := by decide +kernel
theorem dX0_learn_16 : decode cX0_learn 16 = .ok (.iconst 0, 1) := by decide +kernel
theorem dX0_learn_17 : decode cX0_learn 17 = .ok (.iastore, 1) := by decide +kernel
theorem dX0_learn_18 : decode cX0_learn 18 = .ok (.iinc 4 1, 3) := by decide +kernel
theorem dX0_learn_21 : decode cX0_learn 21 = .ok (.goto (-18), 3) := by decide +kernel
theorem dX0_learn_24 : decode cX0_learn 24 = .ok (.aload_n 0, 1) := by decide +kernel
theorem dX0_learn_25 : decode cX0_learn 25 = .ok (.iconst (-1), 1) := by decide +kernel
theorem dX0_learn_26 : decode cX0_learn 26 = .ok (.putfield 15, 3) := by decide +kernel
theorem dX0_learn_29 : decode cX0_learn 29 = .ok (.aload_n 0, 1) := by decide +kernel
theorem dX0_learn_30 : decode cX0_learn 30 = .ok (.iconst 0, 1) := by decide +kernel
theorem dX0_learn_31 : decode cX0_learn 31 = .ok (.putfield 19, 3) := by decide +kernel
theorem dX0_learn_34 : decode cX0_learn 34 = .ok (.iconst 1, 1) := by decide +kernel
theorem dX0_learn_35 : decode cX0_learn 35 = .ok (.aload_n 1, 1) := by decide +kernel
theorem dX0_learn_36 : decode cX0_learn 36 = .ok (.getfield 22, 3) := by decide +kernel
theorem dX0_learn_39 : decode cX0_learn 39 = .ok (.invokestatic 27, 3) := by decide +kernel
theorem dX0_learn_42 : decode cX0_learn 42 = .ok (.ishl, 1) := by decide +kernel
theorem dX0_learn_43 : decode cX0_learn 43 = .ok (.istore 4, 2) := by decide +kernel
theorem dX0_learn_45 : decode cX0_learn 45 = .ok (.iconst 0, 1) := by decide +kernel
theorem dX0_learn_46 : decode cX0_learn 46 = .ok (.istore 5, 2) := by decide +kernel
theorem dX0_learn_48 : decode cX0_learn 48 = .ok (.iconst 0, 1) := by decide +kernel
theorem dX0_learn_49 : decode cX0_learn 49 = .ok (.istore 6, 2) := by decide +kernel
theorem dX0_learn_51 : decode cX0_learn 51 = .ok (.iload 6, 2) := by decide +kernel
theorem dX0_learn_53 : decode cX0_learn 53 = .ok (.iload 4, 2) := by decide +kernel
theorem dX0_learn_55 : decode cX0_learn 55 = .ok (.if_icmp .ge 82, 3) := by decide +kernel
theorem dX0_learn_58 : decode cX0_learn 58 = .ok (.aload_n 1, 1) := by decide +kernel
theorem dX0_learn_59 : decode cX0_learn 59 = .ok (.getfield 33, 3) := by decide +kernel
theorem dX0_learn_62 : decode cX0_learn 62 = .ok (.iload 5, 2) := by decide +kernel
theorem dX0_learn_64 : decode cX0_learn 64 = .ok (.ior, 1) := by decide +kernel
theorem dX0_learn_65 : decode cX0_learn 65 = .ok (.istore 7, 2) := by decide +kernel
theorem dX0_learn_67 : decode cX0_learn 67 = .ok (.aload_n 2, 1) := by decide +kernel
theorem dX0_learn_68 : decode cX0_learn 68 = .ok (.aload_n 1, 1) := by decide +kernel
theorem dX0_learn_69 : decode cX0_learn 69 = .ok (.getfield 36, 3) := by decide +kernel
theorem dX0_learn_72 : decode cX0_learn 72 = .ok (.iload 7, 2) := by decide +kernel
theorem dX0_learn_74 : decode cX0_learn 74 = .ok (.iload_n 3, 1) := by decide +kernel
theorem dX0_learn_75 : decode cX0_learn 75 = .ok (.invokevirtual 39, 3) := by decide +kernel
theorem dX0_learn_78 : decode cX0_learn 78 = .ok (.ifCond .eq 39, 3) := by decide +kernel
theorem dX0_learn_81 : decode cX0_learn 81 = .ok (.aload_n 0, 1) := by decide +kernel
theorem dX0_learn_82 : decode cX0_learn 82 = .ok (.getfield 9, 3) := by decide +kernel
theorem dX0_learn_85 : decode cX0_learn 85 = .ok (.iload 5, 2) := by decide +kernel
theorem dX0_learn_87 : decode cX0_learn 87 = .ok (.invokestatic 27, 3) := by decide +kernel
theorem dX0_learn_90 : decode cX0_learn 90 = .ok (.dup2, 1) := by decide +kernel
theorem dX0_learn_91 : decode cX0_learn 91 = .ok (.iaload, 1) := by decide +kernel
theorem dX0_learn_92 : decode cX0_learn 92 = .ok (.iconst 1, 1) := by decide +kernel
theorem dX0_learn_93 : decode cX0_learn 93 = .ok (.iadd, 1) := by decide +kernel
theorem dX0_learn_94 : decode cX0_learn 94 = .ok (.iastore, 1) := by decide +kernel
theorem dX0_learn_95 : decode cX0_learn 95 = .ok (.aload_n 0, 1) := by decide +kernel
theorem dX0_learn_96 : decode cX0_learn 96 = .ok (.dup, 1) := by decide +kernel
theorem dX0_learn_97 : decode cX0_learn 97 = .ok (.getfield 15, 3) := by decide +kernel
theorem dX0_learn_100 : decode cX0_learn 100 = .ok (.iload 7, 2) := by decide +kernel
theorem dX0_learn_102 : decode cX0_learn 102 = .ok (.iand, 1) := by decide +kernel
theorem dX0_learn_103 : decode cX0_learn 103 = .ok (.putfield 15, 3) := by decide +kernel
theorem dX0_learn_106 : decode cX0_learn 106 = .ok (.aload_n 0, 1) := by decide +kernel
theorem dX0_learn_107 : decode cX0_learn 107 = .ok (.dup, 1) := by decide +kernel
theorem dX0_learn_108 : decode cX0_learn 108 = .ok (.getfield 19, 3) := by decide +kernel
theorem dX0_learn_111 : decode cX0_learn 111 = .ok (.iload 7, 2) := by decide +kernel
theorem dX0_learn_113 : decode cX0_learn 113 = .ok (.ior, 1) := by decide +kernel
theorem dX0_learn_114 : decode cX0_learn 114 = .ok (.putfield 19, 3) := by decide +kernel
theorem dX0_learn_117 : decode cX0_learn 117 = .ok (.iload 5, 2) := by decide +kernel
theorem dX0_learn_119 : decode cX0_learn 119 = .ok (.aload_n 1, 1) := by decide +kernel
theorem dX0_learn_120 : decode cX0_learn 120 = .ok (.getfield 22, 3) := by decide +kernel
theorem dX0_learn_123 : decode cX0_learn 123 = .ok (.isub, 1) := by decide +kernel
theorem dX0_learn_124 : decode cX0_learn 124 = .ok (.aload_n 1, 1) := by decide +kernel
theorem dX0_learn_125 : decode cX0_learn 125 = .ok (.getfield 22, 3) := by decide +kernel
theorem dX0_learn_128 : decode cX0_learn 128 = .ok (.iand, 1) := by decide +kernel
theorem dX0_learn_129 : decode cX0_learn 129 = .ok (.istore 5, 2) := by decide +kernel
theorem dX0_learn_131 : decode cX0_learn 131 = .ok (.iinc 6 1, 3) := by decide +kernel
theorem dX0_learn_134 : decode cX0_learn 134 = .ok (.goto (-83), 3) := by decide +kernel
theorem dX0_learn_137 : decode cX0_learn 137 = .ok (.return_, 1) := by decide +kernel
theorem dX1_part_0 : decode cX1_part 0 = .ok (.lload_n 0, 1) := by decide +kernel
theorem dX1_part_1 : decode cX1_part 1 = .ok (.lload_n 2, 1) := by decide +kernel
theorem dX1_part_2 : decode cX1_part 2 = .ok (.invokestatic 7, 3) := by decide +kernel
theorem dX1_part_5 : decode cX1_part 5 = .ok (.lstore 5, 2) := by decide +kernel
theorem dX1_part_7 : decode cX1_part 7 = .ok (.lload 5, 2) := by decide +kernel
theorem dX1_part_9 : decode cX1_part 9 = .ok (.lconst 0, 1) := by decide +kernel
theorem dX1_part_10 : decode cX1_part 10 = .ok (.lcmp, 1) := by decide +kernel
theorem dX1_part_11 : decode cX1_part 11 = .ok (.ifCond .ne 5, 3) := by decide +kernel
theorem dX1_part_14 : decode cX1_part 14 = .ok (.lconst 0, 1) := by decide +kernel
theorem dX1_part_15 : decode cX1_part 15 = .ok (.lreturn, 1) := by decide +kernel
theorem dX1_part_16 : decode cX1_part 16 = .ok (.iload 4, 2) := by decide +kernel
theorem dX1_part_18 : decode cX1_part 18 = .ok (.ifCond .ne 7, 3) := by decide +kernel
theorem dX1_part_21 : decode cX1_part 21 = .ok (.lload_n 0, 1) := by decide +kernel
theorem dX1_part_22 : decode cX1_part 22 = .ok (.goto 4, 3) := by decide +kernel
theorem dX1_part_25 : decode cX1_part 25 = .ok (.lload_n 2, 1) := by decide +kernel
theorem dX1_part_26 : decode cX1_part 26 = .ok (.lload 5, 2) := by decide +kernel
theorem dX1_part_28 : decode cX1_part 28 = .ok (.ldiv, 1) := by decide +kernel
theorem dX1_part_29 : decode cX1_part 29 = .ok (.lreturn, 1) := by decide +kernel
theorem dX1_power_0 : decode cX1_power 0 = .ok (.lconst 1, 1) := by decide +kernel
theorem dX1_power_1 : decode cX1_power 1 = .ok (.lstore_n 3, 1) := by decide +kernel
theorem dX1_power_2 : decode cX1_power 2 = .ok (.iconst 0, 1) := by decide +kernel
theorem dX1_power_3 : decode cX1_power 3 = .ok (.istore 5, 2) := by decide +kernel
theorem dX1_power_5 : decode cX1_power 5 = .ok (.iload 5, 2) := by decide +kernel
theorem dX1_power_7 : decode cX1_power 7 = .ok (.iload_n 2, 1) := by decide +kernel
theorem dX1_power_8 : decode cX1_power 8 = .ok (.if_icmp .ge 13, 3) := by decide +kernel
theorem dX1_power_11 : decode cX1_power 11 = .ok (.lload_n 3, 1) := by decide +kernel
theorem dX1_power_12 : decode cX1_power 12 = .ok (.lload_n 0, 1) := by decide +kernel
theorem dX1_power_13 : decode cX1_power 13 = .ok (.lmul, 1) := by decide +kernel
theorem dX1_power_14 : decode cX1_power 14 = .ok (.lstore_n 3, 1) := by decide +kernel
theorem dX1_power_15 : decode cX1_power 15 = .ok (.iinc 5 1, 3) := by decide +kernel
theorem dX1_power_18 : decode cX1_power 18 = .ok (.goto (-13), 3) := by decide +kernel
theorem dX1_power_21 : decode cX1_power 21 = .ok (.lload_n 3, 1) := by decide +kernel
theorem dX1_power_22 : decode cX1_power 22 = .ok (.lreturn, 1) := by decide +kernel
theorem dX1_commonDivisor_0 : decode cX1_commonDivisor 0 = .ok (.lload_n 0, 1) := by decide +kernel
theorem dX1_commonDivisor_1 : decode cX1_commonDivisor 1 = .ok (.lstore 4, 2) := by decide +kernel
theorem dX1_commonDivisor_3 : decode cX1_commonDivisor 3 = .ok (.lload_n 2, 1) := by decide +kernel
theorem dX1_commonDivisor_4 : decode cX1_commonDivisor 4 = .ok (.lstore 6, 2) := by decide +kernel
theorem dX1_commonDivisor_6 : decode cX1_commonDivisor 6 = .ok (.iconst 0, 1) := by decide +kernel
theorem dX1_commonDivisor_7 : decode cX1_commonDivisor 7 = .ok (.istore 8, 2) := by decide +kernel
theorem dX1_commonDivisor_9 : decode cX1_commonDivisor 9 = .ok (.lload 6, 2) := by decide +kernel
theorem dX1_commonDivisor_11 : decode cX1_commonDivisor 11 = .ok (.lconst 0, 1) := by decide +kernel
theorem dX1_commonDivisor_12 : decode cX1_commonDivisor 12 = .ok (.lcmp, 1) := by decide +kernel
theorem dX1_commonDivisor_13 : decode cX1_commonDivisor 13 = .ok (.ifCond .eq 32, 3) := by decide +kernel
theorem dX1_commonDivisor_16 : decode cX1_commonDivisor 16 = .ok (.iload 8, 2) := by decide +kernel
theorem dX1_commonDivisor_18 : decode cX1_commonDivisor 18 = .ok (.sipush 200, 3) := by decide +kernel
theorem dX1_commonDivisor_21 : decode cX1_commonDivisor 21 = .ok (.if_icmp .ge 24, 3) := by decide +kernel
theorem dX1_commonDivisor_24 : decode cX1_commonDivisor 24 = .ok (.lload 4, 2) := by decide +kernel
theorem dX1_commonDivisor_26 : decode cX1_commonDivisor 26 = .ok (.lload 6, 2) := by decide +kernel
theorem dX1_commonDivisor_28 : decode cX1_commonDivisor 28 = .ok (.lrem, 1) := by decide +kernel
theorem dX1_commonDivisor_29 : decode cX1_commonDivisor 29 = .ok (.lstore 9, 2) := by decide +kernel
theorem dX1_commonDivisor_31 : decode cX1_commonDivisor 31 = .ok (.lload 6, 2) := by decide +kernel
theorem dX1_commonDivisor_33 : decode cX1_commonDivisor 33 = .ok (.lstore 4, 2) := by decide +kernel
theorem dX1_commonDivisor_35 : decode cX1_commonDivisor 35 = .ok (.lload 9, 2) := by decide +kernel
theorem dX1_commonDivisor_37 : decode cX1_commonDivisor 37 = .ok (.lstore 6, 2) := by decide +kernel
theorem dX1_commonDivisor_39 : decode cX1_commonDivisor 39 = .ok (.iinc 8 1, 3) := by decide +kernel
theorem dX1_commonDivisor_42 : decode cX1_commonDivisor 42 = .ok (.goto (-33), 3) := by decide +kernel
theorem dX1_commonDivisor_45 : decode cX1_commonDivisor 45 = .ok (.lload 4, 2) := by decide +kernel
theorem dX1_commonDivisor_47 : decode cX1_commonDivisor 47 = .ok (.lreturn, 1) := by decide +kernel
theorem dX2_howMany_0 : decode cX2_howMany 0 = .ok (.aload_n 0, 1) := by decide +kernel
theorem dX2_howMany_1 : decode cX2_howMany 1 = .ok (.getfield 7, 3) := by decide +kernel
theorem dX2_howMany_4 : decode cX2_howMany 4 = .ok (.invokestatic 13, 3) := by decide +kernel
theorem dX2_howMany_7 : decode cX2_howMany 7 = .ok (.istore_n 1, 1) := by decide +kernel
theorem dX2_howMany_8 : decode cX2_howMany 8 = .ok (.iconst 1, 1) := by decide +kernel
theorem dX2_howMany_9 : decode cX2_howMany 9 = .ok (.istore_n 2, 1) := by decide +kernel
theorem dX2_howMany_10 : decode cX2_howMany 10 = .ok (.iconst 1, 1) := by decide +kernel
theorem dX2_howMany_11 : decode cX2_howMany 11 = .ok (.istore_n 3, 1) := by decide +kernel
theorem dX2_howMany_12 : decode cX2_howMany 12 = .ok (.iload_n 3, 1) := by decide +kernel
theorem dX2_howMany_13 : decode cX2_howMany 13 = .ok (.iload_n 1, 1) := by decide +kernel
theorem dX2_howMany_14 : decode cX2_howMany 14 = .ok (.if_icmp .gt 22, 3) := by decide +kernel
theorem dX2_howMany_17 : decode cX2_howMany 17 = .ok (.iload_n 2, 1) := by decide +kernel
theorem dX2_howMany_18 : decode cX2_howMany 18 = .ok (.aload_n 0, 1) := by decide +kernel
theorem dX2_howMany_19 : decode cX2_howMany 19 = .ok (.getfield 19, 3) := by decide +kernel
theorem dX2_howMany_22 : decode cX2_howMany 22 = .ok (.iload_n 1, 1) := by decide +kernel
theorem dX2_howMany_23 : decode cX2_howMany 23 = .ok (.isub, 1) := by decide +kernel
theorem dX2_howMany_24 : decode cX2_howMany 24 = .ok (.iload_n 3, 1) := by decide +kernel
theorem dX2_howMany_25 : decode cX2_howMany 25 = .ok (.iadd, 1) := by decide +kernel
theorem dX2_howMany_26 : decode cX2_howMany 26 = .ok (.imul, 1) := by decide +kernel
theorem dX2_howMany_27 : decode cX2_howMany 27 = .ok (.iload_n 3, 1) := by decide +kernel
theorem dX2_howMany_28 : decode cX2_howMany 28 = .ok (.idiv, 1) := by decide +kernel
theorem dX2_howMany_29 : decode cX2_howMany 29 = .ok (.istore_n 2, 1) := by decide +kernel
theorem dX2_howMany_30 : decode cX2_howMany 30 = .ok (.iinc 3 1, 3) := by decide +kernel
theorem dX2_howMany_33 : decode cX2_howMany 33 = .ok (.goto (-21), 3) := by decide +kernel
theorem dX2_howMany_36 : decode cX2_howMany 36 = .ok (.iload_n 2, 1) := by decide +kernel
theorem dX2_howMany_37 : decode cX2_howMany 37 = .ok (.ireturn, 1) := by decide +kernel
theorem dX2_lowest_0 : decode cX2_lowest 0 = .ok (.iconst 1, 1) := by decide +kernel
theorem dX2_lowest_1 : decode cX2_lowest 1 = .ok (.aload_n 0, 1) := by decide +kernel
theorem dX2_lowest_2 : decode cX2_lowest 2 = .ok (.getfield 7, 3) := by decide +kernel
theorem dX2_lowest_5 : decode cX2_lowest 5 = .ok (.invokestatic 13, 3) := by decide +kernel
theorem dX2_lowest_8 : decode cX2_lowest 8 = .ok (.ishl, 1) := by decide +kernel
theorem dX2_lowest_9 : decode cX2_lowest 9 = .ok (.iconst 1, 1) := by decide +kernel
theorem dX2_lowest_10 : decode cX2_lowest 10 = .ok (.isub, 1) := by decide +kernel
theorem dX2_lowest_11 : decode cX2_lowest 11 = .ok (.ireturn, 1) := by decide +kernel
theorem dX2_after_0 : decode cX2_after 0 = .ok (.iload_n 0, 1) := by decide +kernel
theorem dX2_after_1 : decode cX2_after 1 = .ok (.iload_n 0, 1) := by decide +kernel
theorem dX2_after_2 : decode cX2_after 2 = .ok (.ineg, 1) := by decide +kernel
theorem dX2_after_3 : decode cX2_after 3 = .ok (.iand, 1) := by decide +kernel
theorem dX2_after_4 : decode cX2_after 4 = .ok (.istore_n 1, 1) := by decide +kernel
theorem dX2_after_5 : decode cX2_after 5 = .ok (.iload_n 1, 1) := by decide +kernel
theorem dX2_after_6 : decode cX2_after 6 = .ok (.ifCond .ne 5, 3) := by decide +kernel
theorem dX2_after_9 : decode cX2_after 9 = .ok (.iload_n 0, 1) := by decide +kernel
theorem dX2_after_10 : decode cX2_after 10 = .ok (.ireturn, 1) := by decide +kernel
theorem dX2_after_11 : decode cX2_after 11 = .ok (.iload_n 0, 1) := by decide +kernel
theorem dX2_after_12 : decode cX2_after 12 = .ok (.iload_n 1, 1) := by decide +kernel
theorem dX2_after_13 : decode cX2_after 13 = .ok (.iadd, 1) := by decide +kernel
theorem dX2_after_14 : decode cX2_after 14 = .ok (.istore_n 2, 1) := by decide +kernel
theorem dX2_after_15 : decode cX2_after 15 = .ok (.iload_n 2, 1) := by decide +kernel
theorem dX2_after_16 : decode cX2_after 16 = .ok (.iload_n 0, 1) := by decide +kernel
theorem dX2_after_17 : decode cX2_after 17 = .ok (.iload_n 2, 1) := by decide +kernel
theorem dX2_after_18 : decode cX2_after 18 = .ok (.ixor, 1) := by decide +kernel
theorem dX2_after_19 : decode cX2_after 19 = .ok (.iload_n 1, 1) := by decide +kernel
theorem dX2_after_20 : decode cX2_after 20 = .ok (.idiv, 1) := by decide +kernel
theorem dX2_after_21 : decode cX2_after 21 = .ok (.iconst 2, 1) := by decide +kernel
theorem dX2_after_22 : decode cX2_after 22 = .ok (.ishr, 1) := by decide +kernel
theorem dX2_after_23 : decode cX2_after 23 = .ok (.ior, 1) := by decide +kernel
theorem dX2_after_24 : decode cX2_after 24 = .ok (.ireturn, 1) := by decide +kernel
theorem dX2_behindHits_0 : decode cX2_behindHits 0 = .ok (.iload_n 0, 1) := by decide +kernel
theorem dX2_behindHits_1 : decode cX2_behindHits 1 = .ok (.iconst 1, 1) := by decide +kernel
theorem dX2_behindHits_2 : decode cX2_behindHits 2 = .ok (.ishr, 1) := by decide +kernel
theorem dX2_behindHits_3 : decode cX2_behindHits 3 = .ok (.istore_n 2, 1) := by decide +kernel
theorem dX2_behindHits_4 : decode cX2_behindHits 4 = .ok (.iconst 2, 1) := by decide +kernel
theorem dX2_behindHits_5 : decode cX2_behindHits 5 = .ok (.istore_n 3, 1) := by decide +kernel
theorem dX2_behindHits_6 : decode cX2_behindHits 6 = .ok (.iload_n 3, 1) := by decide +kernel
theorem dX2_behindHits_7 : decode cX2_behindHits 7 = .ok (.iload_n 1, 1) := by decide +kernel
theorem dX2_behindHits_8 : decode cX2_behindHits 8 = .ok (.if_icmp .gt 15, 3) := by decide +kernel
theorem dX2_behindHits_11 : decode cX2_behindHits 11 = .ok (.iload_n 2, 1) := by decide +kernel
theorem dX2_behindHits_12 : decode cX2_behindHits 12 = .ok (.iload_n 0, 1) := by decide +kernel
theorem dX2_behindHits_13 : decode cX2_behindHits 13 = .ok (.iload_n 3, 1) := by decide +kernel
theorem dX2_behindHits_14 : decode cX2_behindHits 14 = .ok (.ishr, 1) := by decide +kernel
theorem dX2_behindHits_15 : decode cX2_behindHits 15 = .ok (.iand, 1) := by decide +kernel
theorem dX2_behindHits_16 : decode cX2_behindHits 16 = .ok (.istore_n 2, 1) := by decide +kernel
theorem dX2_behindHits_17 : decode cX2_behindHits 17 = .ok (.iinc 3 1, 3) := by decide +kernel
theorem dX2_behindHits_20 : decode cX2_behindHits 20 = .ok (.goto (-14), 3) := by decide +kernel
theorem dX2_behindHits_23 : decode cX2_behindHits 23 = .ok (.iload_n 2, 1) := by decide +kernel
theorem dX2_behindHits_24 : decode cX2_behindHits 24 = .ok (.ireturn, 1) := by decide +kernel
theorem dX2_heat_0 : decode cX2_heat 0 = .ok (.iload_n 1, 1) := by decide +kernel
theorem dX2_heat_1 : decode cX2_heat 1 = .ok (.invokestatic 13, 3) := by decide +kernel
theorem dX2_heat_4 : decode cX2_heat 4 = .ok (.istore_n 2, 1) := by decide +kernel
theorem dX2_heat_5 : decode cX2_heat 5 = .ok (.iload_n 2, 1) := by decide +kernel
theorem dX2_heat_6 : decode cX2_heat 6 = .ok (.ifCond .ne 7, 3) := by decide +kernel
theorem dX2_heat_9 : decode cX2_heat 9 = .ok (.lconst 0, 1) := by decide +kernel
theorem dX2_heat_10 : decode cX2_heat 10 = .ok (.goto 17, 3) := by decide +kernel
theorem dX2_heat_13 : decode cX2_heat 13 = .ok (.iload_n 1, 1) := by decide +kernel
theorem dX2_heat_14 : decode cX2_heat 14 = .ok (.iload_n 0, 1) := by decide +kernel
theorem dX2_heat_15 : decode cX2_heat 15 = .ok (.iand, 1) := by decide +kernel
theorem dX2_heat_16 : decode cX2_heat 16 = .ok (.invokestatic 13, 3) := by decide +kernel
theorem dX2_heat_19 : decode cX2_heat 19 = .ok (.i2l, 1) := by decide +kernel
theorem dX2_heat_20 : decode cX2_heat 20 = .ok (.ldc2_w 24, 3) := by decide +kernel
theorem dX2_heat_23 : decode cX2_heat 23 = .ok (.iload_n 2, 1) := by decide +kernel
theorem dX2_heat_24 : decode cX2_heat 24 = .ok (.i2l, 1) := by decide +kernel
theorem dX2_heat_25 : decode cX2_heat 25 = .ok (.ldiv, 1) := by decide +kernel
theorem dX2_heat_26 : decode cX2_heat 26 = .ok (.lmul, 1) := by decide +kernel
theorem dX2_heat_27 : decode cX2_heat 27 = .ok (.lreturn, 1) := by decide +kernel
theorem dX3_measure_0 : decode cX3_measure 0 = .ok (.iload_n 0, 1) := by decide +kernel
theorem dX3_measure_1 : decode cX3_measure 1 = .ok (.tableswitch 90 0 5 #[39, 44, 50, 70, 75, 84], 39) := by decide +kernel
theorem dX3_measure_40 : decode cX3_measure 40 = .ok (.iload_n 2, 1) := by decide +kernel
theorem dX3_measure_41 : decode cX3_measure 41 = .ok (.invokestatic 9, 3) := by decide +kernel
theorem dX3_measure_44 : decode cX3_measure 44 = .ok (.ireturn, 1) := by decide +kernel
theorem dX3_measure_45 : decode cX3_measure 45 = .ok (.iload_n 1, 1) := by decide +kernel
theorem dX3_measure_46 : decode cX3_measure 46 = .ok (.iload_n 2, 1) := by decide +kernel
theorem dX3_measure_47 : decode cX3_measure 47 = .ok (.invokestatic 15, 3) := by decide +kernel
theorem dX3_measure_50 : decode cX3_measure 50 = .ok (.ireturn, 1) := by decide +kernel
theorem dX3_measure_51 : decode cX3_measure 51 = .ok (.iload_n 2, 1) := by decide +kernel
theorem dX3_measure_52 : decode cX3_measure 52 = .ok (.invokestatic 21, 3) := by decide +kernel
theorem dX3_measure_55 : decode cX3_measure 55 = .ok (.iload_n 2, 1) := by decide +kernel
theorem dX3_measure_56 : decode cX3_measure 56 = .ok (.iconst (-1), 1) := by decide +kernel
theorem dX3_measure_57 : decode cX3_measure 57 = .ok (.ixor, 1) := by decide +kernel
theorem dX3_measure_58 : decode cX3_measure 58 = .ok (.iconst 1, 1) := by decide +kernel
theorem dX3_measure_59 : decode cX3_measure 59 = .ok (.iload_n 1, 1) := by decide +kernel
theorem dX3_measure_60 : decode cX3_measure 60 = .ok (.ishl, 1) := by decide +kernel
theorem dX3_measure_61 : decode cX3_measure 61 = .ok (.iconst 1, 1) := by decide +kernel
theorem dX3_measure_62 : decode cX3_measure 62 = .ok (.isub, 1) := by decide +kernel
theorem dX3_measure_63 : decode cX3_measure 63 = .ok (.iand, 1) := by decide +kernel
theorem dX3_measure_64 : decode cX3_measure 64 = .ok (.invokestatic 21, 3) := by decide +kernel
theorem dX3_measure_67 : decode cX3_measure 67 = .ok (.invokestatic 24, 3) := by decide +kernel
theorem dX3_measure_70 : decode cX3_measure 70 = .ok (.ireturn, 1) := by decide +kernel
theorem dX3_measure_71 : decode cX3_measure 71 = .ok (.iload_n 2, 1) := by decide +kernel
theorem dX3_measure_72 : decode cX3_measure 72 = .ok (.invokestatic 21, 3) := by decide +kernel
theorem dX3_measure_75 : decode cX3_measure 75 = .ok (.ireturn, 1) := by decide +kernel
theorem dX3_measure_76 : decode cX3_measure 76 = .ok (.iload_n 2, 1) := by decide +kernel
theorem dX3_measure_77 : decode cX3_measure 77 = .ok (.iload_n 2, 1) := by decide +kernel
theorem dX3_measure_78 : decode cX3_measure 78 = .ok (.iconst 1, 1) := by decide +kernel
theorem dX3_measure_79 : decode cX3_measure 79 = .ok (.ishr, 1) := by decide +kernel
theorem dX3_measure_80 : decode cX3_measure 80 = .ok (.iand, 1) := by decide +kernel
theorem dX3_measure_81 : decode cX3_measure 81 = .ok (.invokestatic 9, 3) := by decide +kernel
theorem dX3_measure_84 : decode cX3_measure 84 = .ok (.ireturn, 1) := by decide +kernel
theorem dX3_measure_85 : decode cX3_measure 85 = .ok (.iload_n 1, 1) := by decide +kernel
theorem dX3_measure_86 : decode cX3_measure 86 = .ok (.iload_n 2, 1) := by decide +kernel
theorem dX3_measure_87 : decode cX3_measure 87 = .ok (.invokestatic 29, 3) := by decide +kernel
theorem dX3_measure_90 : decode cX3_measure 90 = .ok (.ireturn, 1) := by decide +kernel
theorem dX3_measure_91 : decode cX3_measure 91 = .ok (.iload_n 3, 1) := by decide +kernel
theorem dX3_measure_92 : decode cX3_measure 92 = .ok (.iload_n 1, 1) := by decide +kernel
theorem dX3_measure_93 : decode cX3_measure 93 = .ok (.iload_n 2, 1) := by decide +kernel
theorem dX3_measure_94 : decode cX3_measure 94 = .ok (.invokestatic 32, 3) := by decide +kernel
theorem dX3_measure_97 : decode cX3_measure 97 = .ok (.ireturn, 1) := by decide +kernel
theorem dX3_runs_0 : decode cX3_runs 0 = .ok (.iload_n 0, 1) := by decide +kernel
theorem dX3_runs_1 : decode cX3_runs 1 = .ok (.ifCond .ne 5, 3) := by decide +kernel
theorem dX3_runs_4 : decode cX3_runs 4 = .ok (.iconst 0, 1) := by decide +kernel
theorem dX3_runs_5 : decode cX3_runs 5 = .ok (.ireturn, 1) := by decide +kernel
theorem dX3_runs_6 : decode cX3_runs 6 = .ok (.iload_n 1, 1) := by decide +kernel
theorem dX3_runs_7 : decode cX3_runs 7 = .ok (.iload_n 1, 1) := by decide +kernel
theorem dX3_runs_8 : decode cX3_runs 8 = .ok (.iconst 1, 1) := by decide +kernel
theorem dX3_runs_9 : decode cX3_runs 9 = .ok (.ishr, 1) := by decide +kernel
theorem dX3_runs_10 : decode cX3_runs 10 = .ok (.ixor, 1) := by decide +kernel
theorem dX3_runs_11 : decode cX3_runs 11 = .ok (.iconst 1, 1) := by decide +kernel
theorem dX3_runs_12 : decode cX3_runs 12 = .ok (.iload_n 0, 1) := by decide +kernel
theorem dX3_runs_13 : decode cX3_runs 13 = .ok (.iconst 1, 1) := by decide +kernel
theorem dX3_runs_14 : decode cX3_runs 14 = .ok (.isub, 1) := by decide +kernel
theorem dX3_runs_15 : decode cX3_runs 15 = .ok (.ishl, 1) := by decide +kernel
theorem dX3_runs_16 : decode cX3_runs 16 = .ok (.iconst 1, 1) := by decide +kernel
theorem dX3_runs_17 : decode cX3_runs 17 = .ok (.isub, 1) := by decide +kernel
theorem dX3_runs_18 : decode cX3_runs 18 = .ok (.iand, 1) := by decide +kernel
theorem dX3_runs_19 : decode cX3_runs 19 = .ok (.istore_n 2, 1) := by decide +kernel
theorem dX3_runs_20 : decode cX3_runs 20 = .ok (.iconst 1, 1) := by decide +kernel
theorem dX3_runs_21 : decode cX3_runs 21 = .ok (.iload_n 2, 1) := by decide +kernel
theorem dX3_runs_22 : decode cX3_runs 22 = .ok (.invokestatic 9, 3) := by decide +kernel
theorem dX3_runs_25 : decode cX3_runs 25 = .ok (.iadd, 1) := by decide +kernel
theorem dX3_runs_26 : decode cX3_runs 26 = .ok (.ireturn, 1) := by decide +kernel
theorem dX3_longestRun_0 : decode cX3_longestRun 0 = .ok (.iload_n 0, 1) := by decide +kernel
theorem dX3_longestRun_1 : decode cX3_longestRun 1 = .ok (.istore_n 1, 1) := by decide +kernel
theorem dX3_longestRun_2 : decode cX3_longestRun 2 = .ok (.iconst 0, 1) := by decide +kernel
theorem dX3_longestRun_3 : decode cX3_longestRun 3 = .ok (.istore_n 2, 1) := by decide +kernel
theorem dX3_longestRun_4 : decode cX3_longestRun 4 = .ok (.iload_n 1, 1) := by decide +kernel
theorem dX3_longestRun_5 : decode cX3_longestRun 5 = .ok (.ifCond .eq 21, 3) := by decide +kernel
theorem dX3_longestRun_8 : decode cX3_longestRun 8 = .ok (.iload_n 2, 1) := by decide +kernel
theorem dX3_longestRun_9 : decode cX3_longestRun 9 = .ok (.bipush 15, 2) := by decide +kernel
theorem dX3_longestRun_11 : decode cX3_longestRun 11 = .ok (.if_icmp .ge 15, 3) := by decide +kernel
theorem dX3_longestRun_14 : decode cX3_longestRun 14 = .ok (.iload_n 1, 1) := by decide +kernel
theorem dX3_longestRun_15 : decode cX3_longestRun 15 = .ok (.iload_n 1, 1) := by decide +kernel
theorem dX3_longestRun_16 : decode cX3_longestRun 16 = .ok (.iconst 1, 1) := by decide +kernel
theorem dX3_longestRun_17 : decode cX3_longestRun 17 = .ok (.ishr, 1) := by decide +kernel
theorem dX3_longestRun_18 : decode cX3_longestRun 18 = .ok (.iand, 1) := by decide +kernel
theorem dX3_longestRun_19 : decode cX3_longestRun 19 = .ok (.istore_n 1, 1) := by decide +kernel
theorem dX3_longestRun_20 : decode cX3_longestRun 20 = .ok (.iinc 2 1, 3) := by decide +kernel
theorem dX3_longestRun_23 : decode cX3_longestRun 23 = .ok (.goto (-19), 3) := by decide +kernel
theorem dX3_longestRun_26 : decode cX3_longestRun 26 = .ok (.iload_n 2, 1) := by decide +kernel
theorem dX3_longestRun_27 : decode cX3_longestRun 27 = .ok (.ireturn, 1) := by decide +kernel
theorem dX3_firstHit_0 : decode cX3_firstHit 0 = .ok (.iconst 0, 1) := by decide +kernel
theorem dX3_firstHit_1 : decode cX3_firstHit 1 = .ok (.istore_n 2, 1) := by decide +kernel
theorem dX3_firstHit_2 : decode cX3_firstHit 2 = .ok (.iload_n 2, 1) := by decide +kernel
theorem dX3_firstHit_3 : decode cX3_firstHit 3 = .ok (.iload_n 0, 1) := by decide +kernel
theorem dX3_firstHit_4 : decode cX3_firstHit 4 = .ok (.if_icmp .ge 24, 3) := by decide +kernel
theorem dX3_firstHit_7 : decode cX3_firstHit 7 = .ok (.iload_n 1, 1) := by decide +kernel
theorem dX3_firstHit_8 : decode cX3_firstHit 8 = .ok (.iload_n 0, 1) := by decide +kernel
theorem dX3_firstHit_9 : decode cX3_firstHit 9 = .ok (.iconst 1, 1) := by decide +kernel
theorem dX3_firstHit_10 : decode cX3_firstHit 10 = .ok (.isub, 1) := by decide +kernel
theorem dX3_firstHit_11 : decode cX3_firstHit 11 = .ok (.iload_n 2, 1) := by decide +kernel
theorem dX3_firstHit_12 : decode cX3_firstHit 12 = .ok (.isub, 1) := by decide +kernel
theorem dX3_firstHit_13 : decode cX3_firstHit 13 = .ok (.ishr, 1) := by decide +kernel
theorem dX3_firstHit_14 : decode cX3_firstHit 14 = .ok (.iconst 1, 1) := by decide +kernel
theorem dX3_firstHit_15 : decode cX3_firstHit 15 = .ok (.iand, 1) := by decide +kernel
theorem dX3_firstHit_16 : decode cX3_firstHit 16 = .ok (.iconst 1, 1) := by decide +kernel
theorem dX3_firstHit_17 : decode cX3_firstHit 17 = .ok (.if_icmp .ne 5, 3) := by decide +kernel
theorem dX3_firstHit_20 : decode cX3_firstHit 20 = .ok (.iload_n 2, 1) := by decide +kernel
theorem dX3_firstHit_21 : decode cX3_firstHit 21 = .ok (.ireturn, 1) := by decide +kernel
theorem dX3_firstHit_22 : decode cX3_firstHit 22 = .ok (.iinc 2 1, 3) := by decide +kernel
theorem dX3_firstHit_25 : decode cX3_firstHit 25 = .ok (.goto (-23), 3) := by decide +kernel
theorem dX3_firstHit_28 : decode cX3_firstHit 28 = .ok (.bipush 15, 2) := by decide +kernel
theorem dX3_firstHit_30 : decode cX3_firstHit 30 = .ok (.ireturn, 1) := by decide +kernel
theorem dX4_lengthOf_0 : decode cX4_lengthOf 0 = .ok (.iconst 0, 1) := by decide +kernel
theorem dX4_lengthOf_1 : decode cX4_lengthOf 1 = .ok (.istore_n 1, 1) := by decide +kernel
theorem dX4_lengthOf_2 : decode cX4_lengthOf 2 = .ok (.iload_n 1, 1) := by decide +kernel
theorem dX4_lengthOf_3 : decode cX4_lengthOf 3 = .ok (.bipush 6, 2) := by decide +kernel
theorem dX4_lengthOf_5 : decode cX4_lengthOf 5 = .ok (.if_icmp .ge 17, 3) := by decide +kernel
theorem dX4_lengthOf_8 : decode cX4_lengthOf 8 = .ok (.iload_n 0, 1) := by decide +kernel
theorem dX4_lengthOf_9 : decode cX4_lengthOf 9 = .ok (.iload_n 1, 1) := by decide +kernel
theorem dX4_lengthOf_10 : decode cX4_lengthOf 10 = .ok (.iconst 1, 1) := by decide +kernel
theorem dX4_lengthOf_11 : decode cX4_lengthOf 11 = .ok (.iadd, 1) := by decide +kernel
theorem dX4_lengthOf_12 : decode cX4_lengthOf 12 = .ok (.ishr, 1) := by decide +kernel
theorem dX4_lengthOf_13 : decode cX4_lengthOf 13 = .ok (.ifCond .eq 9, 3) := by decide +kernel
theorem dX4_lengthOf_16 : decode cX4_lengthOf 16 = .ok (.iinc 1 1, 3) := by decide +kernel
theorem dX4_lengthOf_19 : decode cX4_lengthOf 19 = .ok (.goto (-17), 3) := by decide +kernel
theorem dX4_lengthOf_22 : decode cX4_lengthOf 22 = .ok (.iload_n 1, 1) := by decide +kernel
theorem dX4_lengthOf_23 : decode cX4_lengthOf 23 = .ok (.ireturn, 1) := by decide +kernel
theorem dX4_timesIn_0 : decode cX4_timesIn 0 = .ok (.iload_n 0, 1) := by decide +kernel
theorem dX4_timesIn_1 : decode cX4_timesIn 1 = .ok (.invokestatic 11, 3) := by decide +kernel
theorem dX4_timesIn_4 : decode cX4_timesIn 4 = .ok (.istore_n 3, 1) := by decide +kernel
theorem dX4_timesIn_5 : decode cX4_timesIn 5 = .ok (.iload_n 3, 1) := by decide +kernel
theorem dX4_timesIn_6 : decode cX4_timesIn 6 = .ok (.iload_n 1, 1) := by decide +kernel
theorem dX4_timesIn_7 : decode cX4_timesIn 7 = .ok (.if_icmp .le 5, 3) := by decide +kernel
theorem dX4_timesIn_10 : decode cX4_timesIn 10 = .ok (.iconst 0, 1) := by decide +kernel
theorem dX4_timesIn_11 : decode cX4_timesIn 11 = .ok (.ireturn, 1) := by decide +kernel
theorem dX4_timesIn_12 : decode cX4_timesIn 12 = .ok (.iconst 1, 1) := by decide +kernel
theorem dX4_timesIn_13 : decode cX4_timesIn 13 = .ok (.iload_n 1, 1) := by decide +kernel
theorem dX4_timesIn_14 : decode cX4_timesIn 14 = .ok (.iload_n 3, 1) := by decide +kernel
theorem dX4_timesIn_15 : decode cX4_timesIn 15 = .ok (.isub, 1) := by decide +kernel
theorem dX4_timesIn_16 : decode cX4_timesIn 16 = .ok (.iconst 1, 1) := by decide +kernel
theorem dX4_timesIn_17 : decode cX4_timesIn 17 = .ok (.iadd, 1) := by decide +kernel
theorem dX4_timesIn_18 : decode cX4_timesIn 18 = .ok (.ishl, 1) := by decide +kernel
theorem dX4_timesIn_19 : decode cX4_timesIn 19 = .ok (.iconst 1, 1) := by decide +kernel
theorem dX4_timesIn_20 : decode cX4_timesIn 20 = .ok (.isub, 1) := by decide +kernel
theorem dX4_timesIn_21 : decode cX4_timesIn 21 = .ok (.istore 4, 2) := by decide +kernel
theorem dX4_timesIn_23 : decode cX4_timesIn 23 = .ok (.iconst 0, 1) := by decide +kernel
theorem dX4_timesIn_24 : decode cX4_timesIn 24 = .ok (.istore 5, 2) := by decide +kernel
theorem dX4_timesIn_26 : decode cX4_timesIn 26 = .ok (.iload 5, 2) := by decide +kernel
theorem dX4_timesIn_28 : decode cX4_timesIn 28 = .ok (.iload_n 3, 1) := by decide +kernel
theorem dX4_timesIn_29 : decode cX4_timesIn 29 = .ok (.if_icmp .ge 39, 3) := by decide +kernel
theorem dX4_timesIn_32 : decode cX4_timesIn 32 = .ok (.iload_n 2, 1) := by decide +kernel
theorem dX4_timesIn_33 : decode cX4_timesIn 33 = .ok (.iload 5, 2) := by decide +kernel
theorem dX4_timesIn_35 : decode cX4_timesIn 35 = .ok (.ishr, 1) := by decide +kernel
theorem dX4_timesIn_36 : decode cX4_timesIn 36 = .ok (.istore 6, 2) := by decide +kernel
theorem dX4_timesIn_38 : decode cX4_timesIn 38 = .ok (.iload 4, 2) := by decide +kernel
theorem dX4_timesIn_40 : decode cX4_timesIn 40 = .ok (.iload_n 0, 1) := by decide +kernel
theorem dX4_timesIn_41 : decode cX4_timesIn 41 = .ok (.iload 5, 2) := by decide +kernel
theorem dX4_timesIn_43 : decode cX4_timesIn 43 = .ok (.ishr, 1) := by decide +kernel
theorem dX4_timesIn_44 : decode cX4_timesIn 44 = .ok (.iconst 1, 1) := by decide +kernel
theorem dX4_timesIn_45 : decode cX4_timesIn 45 = .ok (.iand, 1) := by decide +kernel
theorem dX4_timesIn_46 : decode cX4_timesIn 46 = .ok (.iconst 1, 1) := by decide +kernel
theorem dX4_timesIn_47 : decode cX4_timesIn 47 = .ok (.if_icmp .ne 8, 3) := by decide +kernel
theorem dX4_timesIn_50 : decode cX4_timesIn 50 = .ok (.iload 6, 2) := by decide +kernel
theorem dX4_timesIn_52 : decode cX4_timesIn 52 = .ok (.goto 7, 3) := by decide +kernel
theorem dX4_timesIn_55 : decode cX4_timesIn 55 = .ok (.iload 6, 2) := by decide +kernel
theorem dX4_timesIn_57 : decode cX4_timesIn 57 = .ok (.iconst (-1), 1) := by decide +kernel
theorem dX4_timesIn_58 : decode cX4_timesIn 58 = .ok (.ixor, 1) := by decide +kernel
theorem dX4_timesIn_59 : decode cX4_timesIn 59 = .ok (.iand, 1) := by decide +kernel
theorem dX4_timesIn_60 : decode cX4_timesIn 60 = .ok (.istore 4, 2) := by decide +kernel
theorem dX4_timesIn_62 : decode cX4_timesIn 62 = .ok (.iinc 5 1, 3) := by decide +kernel
theorem dX4_timesIn_65 : decode cX4_timesIn 65 = .ok (.goto (-39), 3) := by decide +kernel
theorem dX4_timesIn_68 : decode cX4_timesIn 68 = .ok (.iload 4, 2) := by decide +kernel
theorem dX4_timesIn_70 : decode cX4_timesIn 70 = .ok (.invokestatic 15, 3) := by decide +kernel
theorem dX4_timesIn_73 : decode cX4_timesIn 73 = .ok (.ireturn, 1) := by decide +kernel
theorem dX4_standsIn_0 : decode cX4_standsIn 0 = .ok (.iload_n 1, 1) := by decide +kernel
theorem dX4_standsIn_1 : decode cX4_standsIn 1 = .ok (.invokestatic 11, 3) := by decide +kernel
theorem dX4_standsIn_4 : decode cX4_standsIn 4 = .ok (.istore_n 2, 1) := by decide +kernel
theorem dX4_standsIn_5 : decode cX4_standsIn 5 = .ok (.iload_n 0, 1) := by decide +kernel
theorem dX4_standsIn_6 : decode cX4_standsIn 6 = .ok (.iload_n 2, 1) := by decide +kernel
theorem dX4_standsIn_7 : decode cX4_standsIn 7 = .ok (.iload_n 1, 1) := by decide +kernel
theorem dX4_standsIn_8 : decode cX4_standsIn 8 = .ok (.iconst 1, 1) := by decide +kernel
theorem dX4_standsIn_9 : decode cX4_standsIn 9 = .ok (.iload_n 2, 1) := by decide +kernel
theorem dX4_standsIn_10 : decode cX4_standsIn 10 = .ok (.ishl, 1) := by decide +kernel
theorem dX4_standsIn_11 : decode cX4_standsIn 11 = .ok (.iconst 1, 1) := by decide +kernel
theorem dX4_standsIn_12 : decode cX4_standsIn 12 = .ok (.isub, 1) := by decide +kernel
theorem dX4_standsIn_13 : decode cX4_standsIn 13 = .ok (.iand, 1) := by decide +kernel
theorem dX4_standsIn_14 : decode cX4_standsIn 14 = .ok (.invokestatic 20, 3) := by decide +kernel
theorem dX4_standsIn_17 : decode cX4_standsIn 17 = .ok (.ifCond .le 7, 3) := by decide +kernel
theorem dX4_standsIn_20 : decode cX4_standsIn 20 = .ok (.iconst 1, 1) := by decide +kernel
theorem dX4_standsIn_21 : decode cX4_standsIn 21 = .ok (.goto 4, 3) := by decide +kernel
theorem dX4_standsIn_24 : decode cX4_standsIn 24 = .ok (.iconst 0, 1) := by decide +kernel
theorem dX4_standsIn_25 : decode cX4_standsIn 25 = .ok (.ireturn, 1) := by decide +kernel
theorem dX4_lead_0 : decode cX4_lead 0 = .ok (.iload_n 0, 1) := by decide +kernel
theorem dX4_lead_1 : decode cX4_lead 1 = .ok (.invokestatic 11, 3) := by decide +kernel
theorem dX4_lead_4 : decode cX4_lead 4 = .ok (.istore_n 3, 1) := by decide +kernel
theorem dX4_lead_5 : decode cX4_lead 5 = .ok (.iload_n 1, 1) := by decide +kernel
theorem dX4_lead_6 : decode cX4_lead 6 = .ok (.invokestatic 11, 3) := by decide +kernel
theorem dX4_lead_9 : decode cX4_lead 9 = .ok (.istore 4, 2) := by decide +kernel
theorem dX4_lead_11 : decode cX4_lead 11 = .ok (.lconst 0, 1) := by decide +kernel
theorem dX4_lead_12 : decode cX4_lead 12 = .ok (.lstore 5, 2) := by decide +kernel
theorem dX4_lead_14 : decode cX4_lead 14 = .ok (.iconst 1, 1) := by decide +kernel
theorem dX4_lead_15 : decode cX4_lead 15 = .ok (.istore 7, 2) := by decide +kernel
theorem dX4_lead_17 : decode cX4_lead 17 = .ok (.iload 7, 2) := by decide +kernel
theorem dX4_lead_19 : decode cX4_lead 19 = .ok (.iload_n 3, 1) := by decide +kernel
theorem dX4_lead_20 : decode cX4_lead 20 = .ok (.if_icmp .gt 95, 3) := by decide +kernel
theorem dX4_lead_23 : decode cX4_lead 23 = .ok (.iload 7, 2) := by decide +kernel
theorem dX4_lead_25 : decode cX4_lead 25 = .ok (.iload 4, 2) := by decide +kernel
theorem dX4_lead_27 : decode cX4_lead 27 = .ok (.if_icmp .gt 88, 3) := by decide +kernel
theorem dX4_lead_30 : decode cX4_lead 30 = .ok (.iconst 1, 1) := by decide +kernel
theorem dX4_lead_31 : decode cX4_lead 31 = .ok (.iload 7, 2) := by decide +kernel
theorem dX4_lead_33 : decode cX4_lead 33 = .ok (.ishl, 1) := by decide +kernel
theorem dX4_lead_34 : decode cX4_lead 34 = .ok (.iload_n 0, 1) := by decide +kernel
theorem dX4_lead_35 : decode cX4_lead 35 = .ok (.iconst 1, 1) := by decide +kernel
theorem dX4_lead_36 : decode cX4_lead 36 = .ok (.iload 7, 2) := by decide +kernel
theorem dX4_lead_38 : decode cX4_lead 38 = .ok (.ishl, 1) := by decide +kernel
theorem dX4_lead_39 : decode cX4_lead 39 = .ok (.iconst 1, 1) := by decide +kernel
theorem dX4_lead_40 : decode cX4_lead 40 = .ok (.isub, 1) := by decide +kernel
theorem dX4_lead_41 : decode cX4_lead 41 = .ok (.iand, 1) := by decide +kernel
theorem dX4_lead_42 : decode cX4_lead 42 = .ok (.ior, 1) := by decide +kernel
theorem dX4_lead_43 : decode cX4_lead 43 = .ok (.istore 8, 2) := by decide +kernel
theorem dX4_lead_45 : decode cX4_lead 45 = .ok (.iload_n 1, 1) := by decide +kernel
theorem dX4_lead_46 : decode cX4_lead 46 = .ok (.iload 4, 2) := by decide +kernel
theorem dX4_lead_48 : decode cX4_lead 48 = .ok (.iload 7, 2) := by decide +kernel
theorem dX4_lead_50 : decode cX4_lead 50 = .ok (.isub, 1) := by decide +kernel
theorem dX4_lead_51 : decode cX4_lead 51 = .ok (.ishr, 1) := by decide +kernel
theorem dX4_lead_52 : decode cX4_lead 52 = .ok (.istore 9, 2) := by decide +kernel
theorem dX4_lead_54 : decode cX4_lead 54 = .ok (.iload 8, 2) := by decide +kernel
theorem dX4_lead_56 : decode cX4_lead 56 = .ok (.iload 9, 2) := by decide +kernel
theorem dX4_lead_58 : decode cX4_lead 58 = .ok (.if_icmp .ne 51, 3) := by decide +kernel
theorem dX4_lead_61 : decode cX4_lead 61 = .ok (.iload 9, 2) := by decide +kernel
theorem dX4_lead_63 : decode cX4_lead 63 = .ok (.invokestatic 15, 3) := by decide +kernel
theorem dX4_lead_66 : decode cX4_lead 66 = .ok (.iconst 1, 1) := by decide +kernel
theorem dX4_lead_67 : decode cX4_lead 67 = .ok (.isub, 1) := by decide +kernel
theorem dX4_lead_68 : decode cX4_lead 68 = .ok (.istore 10, 2) := by decide +kernel
theorem dX4_lead_70 : decode cX4_lead 70 = .ok (.iload 7, 2) := by decide +kernel
theorem dX4_lead_72 : decode cX4_lead 72 = .ok (.iload 10, 2) := by decide +kernel
theorem dX4_lead_74 : decode cX4_lead 74 = .ok (.isub, 1) := by decide +kernel
theorem dX4_lead_75 : decode cX4_lead 75 = .ok (.istore 11, 2) := by decide +kernel
theorem dX4_lead_77 : decode cX4_lead 77 = .ok (.iload_n 2, 1) := by decide +kernel
theorem dX4_lead_78 : decode cX4_lead 78 = .ok (.bipush 6, 2) := by decide +kernel
theorem dX4_lead_80 : decode cX4_lead 80 = .ok (.iload 10, 2) := by decide +kernel
theorem dX4_lead_82 : decode cX4_lead 82 = .ok (.isub, 1) := by decide +kernel
theorem dX4_lead_83 : decode cX4_lead 83 = .ok (.bipush 6, 2) := by decide +kernel
theorem dX4_lead_85 : decode cX4_lead 85 = .ok (.iload 11, 2) := by decide +kernel
theorem dX4_lead_87 : decode cX4_lead 87 = .ok (.isub, 1) := by decide +kernel
theorem dX4_lead_88 : decode cX4_lead 88 = .ok (.invokestatic 24, 3) := by decide +kernel
theorem dX4_lead_91 : decode cX4_lead 91 = .ok (.lstore 12, 2) := by decide +kernel
theorem dX4_lead_93 : decode cX4_lead 93 = .ok (.lload 5, 2) := by decide +kernel
theorem dX4_lead_95 : decode cX4_lead 95 = .ok (.ldc2_w 28, 3) := by decide +kernel
theorem dX4_lead_98 : decode cX4_lead 98 = .ok (.iload 7, 2) := by decide +kernel
theorem dX4_lead_100 : decode cX4_lead 100 = .ok (.invokestatic 30, 3) := by decide +kernel
theorem dX4_lead_103 : decode cX4_lead 103 = .ok (.lload 12, 2) := by decide +kernel
theorem dX4_lead_105 : decode cX4_lead 105 = .ok (.lmul, 1) := by decide +kernel
theorem dX4_lead_106 : decode cX4_lead 106 = .ok (.ladd, 1) := by decide +kernel
theorem dX4_lead_107 : decode cX4_lead 107 = .ok (.lstore 5, 2) := by decide +kernel
theorem dX4_lead_109 : decode cX4_lead 109 = .ok (.iinc 7 1, 3) := by decide +kernel
theorem dX4_lead_112 : decode cX4_lead 112 = .ok (.goto (-95), 3) := by decide +kernel
theorem dX4_lead_115 : decode cX4_lead 115 = .ok (.lload 5, 2) := by decide +kernel
theorem dX4_lead_117 : decode cX4_lead 117 = .ok (.lreturn, 1) := by decide +kernel
theorem dX4_leadUnit_0 : decode cX4_leadUnit 0 = .ok (.iload_n 0, 1) := by decide +kernel
theorem dX4_leadUnit_1 : decode cX4_leadUnit 1 = .ok (.bipush 6, 2) := by decide +kernel
theorem dX4_leadUnit_3 : decode cX4_leadUnit 3 = .ok (.bipush 6, 2) := by decide +kernel
theorem dX4_leadUnit_5 : decode cX4_leadUnit 5 = .ok (.invokestatic 24, 3) := by decide +kernel
theorem dX4_leadUnit_8 : decode cX4_leadUnit 8 = .ok (.lreturn, 1) := by decide +kernel
theorem dX4_chanceParts_0 : decode cX4_chanceParts 0 = .ok (.iload_n 0, 1) := by decide +kernel
theorem dX4_chanceParts_1 : decode cX4_chanceParts 1 = .ok (.i2l, 1) := by decide +kernel
theorem dX4_chanceParts_2 : decode cX4_chanceParts 2 = .ok (.iload_n 1, 1) := by decide +kernel
theorem dX4_chanceParts_3 : decode cX4_chanceParts 3 = .ok (.invokestatic 30, 3) := by decide +kernel
theorem dX4_chanceParts_6 : decode cX4_chanceParts 6 = .ok (.bipush 16, 2) := by decide +kernel
theorem dX4_chanceParts_8 : decode cX4_chanceParts 8 = .ok (.iload_n 0, 1) := by decide +kernel
theorem dX4_chanceParts_9 : decode cX4_chanceParts 9 = .ok (.isub, 1) := by decide +kernel
theorem dX4_chanceParts_10 : decode cX4_chanceParts 10 = .ok (.i2l, 1) := by decide +kernel
theorem dX4_chanceParts_11 : decode cX4_chanceParts 11 = .ok (.iload_n 2, 1) := by decide +kernel
theorem dX4_chanceParts_12 : decode cX4_chanceParts 12 = .ok (.invokestatic 30, 3) := by decide +kernel
theorem dX4_chanceParts_15 : decode cX4_chanceParts 15 = .ok (.lmul, 1) := by decide +kernel
theorem dX4_chanceParts_16 : decode cX4_chanceParts 16 = .ok (.lreturn, 1) := by decide +kernel
theorem dX5_init_0 : decode cX5_init 0 = .ok (.aload_n 0, 1) := by decide +kernel
theorem dX5_init_1 : decode cX5_init 1 = .ok (.invokespecial 3, 3) := by decide +kernel
theorem dX5_init_4 : decode cX5_init 4 = .ok (.return_, 1) := by decide +kernel
theorem dX5_maySee_0 : decode cX5_maySee 0 = .ok (.iload_n 0, 1) := by decide +kernel
theorem dX5_maySee_1 : decode cX5_maySee 1 = .ok (.iconst 1, 1) := by decide +kernel
theorem dX5_maySee_2 : decode cX5_maySee 2 = .ok (.if_icmp .eq 12, 3) := by decide +kernel
theorem dX5_maySee_5 : decode cX5_maySee 5 = .ok (.iload_n 0, 1) := by decide +kernel
theorem dX5_maySee_6 : decode cX5_maySee 6 = .ok (.ifCond .eq 8, 3) := by decide +kernel
theorem dX5_maySee_9 : decode cX5_maySee 9 = .ok (.iload_n 0, 1) := by decide +kernel
theorem dX5_maySee_10 : decode cX5_maySee 10 = .ok (.iconst (-1), 1) := by decide +kernel
theorem dX5_maySee_11 : decode cX5_maySee 11 = .ok (.if_icmp .ne 7, 3) := by decide +kernel
theorem dX5_maySee_14 : decode cX5_maySee 14 = .ok (.iconst 1, 1) := by decide +kernel
theorem dX5_maySee_15 : decode cX5_maySee 15 = .ok (.goto 4, 3) := by decide +kernel
theorem dX5_maySee_18 : decode cX5_maySee 18 = .ok (.iconst 0, 1) := by decide +kernel
theorem dX5_maySee_19 : decode cX5_maySee 19 = .ok (.ireturn, 1) := by decide +kernel
theorem dX5_isFull_0 : decode cX5_isFull 0 = .ok (.aload_n 0, 1) := by decide +kernel
theorem dX5_isFull_1 : decode cX5_isFull 1 = .ok (.getfield 9, 3) := by decide +kernel
theorem dX5_isFull_4 : decode cX5_isFull 4 = .ok (.bipush 15, 2) := by decide +kernel
theorem dX5_isFull_6 : decode cX5_isFull 6 = .ok (.if_icmp .lt 7, 3) := by decide +kernel
theorem dX5_isFull_9 : decode cX5_isFull 9 = .ok (.iconst 1, 1) := by decide +kernel
theorem dX5_isFull_10 : decode cX5_isFull 10 = .ok (.goto 4, 3) := by decide +kernel
theorem dX5_isFull_13 : decode cX5_isFull 13 = .ok (.iconst 0, 1) := by decide +kernel
theorem dX5_isFull_14 : decode cX5_isFull 14 = .ok (.ireturn, 1) := by decide +kernel
theorem dX5_isWhole_0 : decode cX5_isWhole 0 = .ok (.aload_n 0, 1) := by decide +kernel
theorem dX5_isWhole_1 : decode cX5_isWhole 1 = .ok (.getfield 15, 3) := by decide +kernel
theorem dX5_isWhole_4 : decode cX5_isWhole 4 = .ok (.ifCond .ne 7, 3) := by decide +kernel
theorem dX5_isWhole_7 : decode cX5_isWhole 7 = .ok (.iconst 1, 1) := by decide +kernel
theorem dX5_isWhole_8 : decode cX5_isWhole 8 = .ok (.goto 4, 3) := by decide +kernel
theorem dX5_isWhole_11 : decode cX5_isWhole 11 = .ok (.iconst 0, 1) := by decide +kernel
theorem dX5_isWhole_12 : decode cX5_isWhole 12 = .ok (.ireturn, 1) := by decide +kernel
theorem dX5_empty_0 : decode cX5_empty 0 = .ok (.aload_n 0, 1) := by decide +kernel
theorem dX5_empty_1 : decode cX5_empty 1 = .ok (.iconst 0, 1) := by decide +kernel
theorem dX5_empty_2 : decode cX5_empty 2 = .ok (.putfield 9, 3) := by decide +kernel
theorem dX5_empty_5 : decode cX5_empty 5 = .ok (.aload_n 0, 1) := by decide +kernel
theorem dX5_empty_6 : decode cX5_empty 6 = .ok (.iconst 0, 1) := by decide +kernel
theorem dX5_empty_7 : decode cX5_empty 7 = .ok (.putfield 18, 3) := by decide +kernel
theorem dX5_empty_10 : decode cX5_empty 10 = .ok (.aload_n 0, 1) := by decide +kernel
theorem dX5_empty_11 : decode cX5_empty 11 = .ok (.iconst 0, 1) := by decide +kernel
theorem dX5_empty_12 : decode cX5_empty 12 = .ok (.putfield 15, 3) := by decide +kernel
theorem dX5_empty_15 : decode cX5_empty 15 = .ok (.return_, 1) := by decide +kernel
theorem dX5_append_0 : decode cX5_append 0 = .ok (.aload_n 0, 1) := by decide +kernel
theorem dX5_append_1 : decode cX5_append 1 = .ok (.aload_n 0, 1) := by decide +kernel
theorem dX5_append_2 : decode cX5_append 2 = .ok (.getfield 18, 3) := by decide +kernel
theorem dX5_append_5 : decode cX5_append 5 = .ok (.iconst 1, 1) := by decide +kernel
theorem dX5_append_6 : decode cX5_append 6 = .ok (.ishl, 1) := by decide +kernel
theorem dX5_append_7 : decode cX5_append 7 = .ok (.iload_n 1, 1) := by decide +kernel
theorem dX5_append_8 : decode cX5_append 8 = .ok (.iconst 1, 1) := by decide +kernel
theorem dX5_append_9 : decode cX5_append 9 = .ok (.if_icmp .ne 7, 3) := by decide +kernel
theorem dX5_append_12 : decode cX5_append 12 = .ok (.iconst 1, 1) := by decide +kernel
theorem dX5_append_13 : decode cX5_append 13 = .ok (.goto 4, 3) := by decide +kernel
theorem dX5_append_16 : decode cX5_append 16 = .ok (.iconst 0, 1) := by decide +kernel
theorem dX5_append_17 : decode cX5_append 17 = .ok (.ior, 1) := by decide +kernel
theorem dX5_append_18 : decode cX5_append 18 = .ok (.putfield 18, 3) := by decide +kernel
theorem dX5_append_21 : decode cX5_append 21 = .ok (.aload_n 0, 1) := by decide +kernel
theorem dX5_append_22 : decode cX5_append 22 = .ok (.aload_n 0, 1) := by decide +kernel
theorem dX5_append_23 : decode cX5_append 23 = .ok (.getfield 15, 3) := by decide +kernel
theorem dX5_append_26 : decode cX5_append 26 = .ok (.iconst 1, 1) := by decide +kernel
theorem dX5_append_27 : decode cX5_append 27 = .ok (.ishl, 1) := by decide +kernel
theorem dX5_append_28 : decode cX5_append 28 = .ok (.iload_n 1, 1) := by decide +kernel
theorem dX5_append_29 : decode cX5_append 29 = .ok (.iconst (-1), 1) := by decide +kernel
theorem dX5_append_30 : decode cX5_append 30 = .ok (.if_icmp .ne 7, 3) := by decide +kernel
theorem dX5_append_33 : decode cX5_append 33 = .ok (.iconst 1, 1) := by decide +kernel
theorem dX5_append_34 : decode cX5_append 34 = .ok (.goto 4, 3) := by decide +kernel
theorem dX5_append_37 : decode cX5_append 37 = .ok (.iconst 0, 1) := by decide +kernel
theorem dX5_append_38 : decode cX5_append 38 = .ok (.ior, 1) := by decide +kernel
theorem dX5_append_39 : decode cX5_append 39 = .ok (.putfield 15, 3) := by decide +kernel
theorem dX5_append_42 : decode cX5_append 42 = .ok (.aload_n 0, 1) := by decide +kernel
theorem dX5_append_43 : decode cX5_append 43 = .ok (.dup, 1) := by decide +kernel
theorem dX5_append_44 : decode cX5_append 44 = .ok (.getfield 9, 3) := by decide +kernel
theorem dX5_append_47 : decode cX5_append 47 = .ok (.iconst 1, 1) := by decide +kernel
theorem dX5_append_48 : decode cX5_append 48 = .ok (.iadd, 1) := by decide +kernel
theorem dX5_append_49 : decode cX5_append 49 = .ok (.putfield 9, 3) := by decide +kernel
theorem dX5_append_52 : decode cX5_append 52 = .ok (.return_, 1) := by decide +kernel
theorem dX5_signAt_0 : decode cX5_signAt 0 = .ok (.aload_n 0, 1) := by decide +kernel
theorem dX5_signAt_1 : decode cX5_signAt 1 = .ok (.getfield 9, 3) := by decide +kernel
theorem dX5_signAt_4 : decode cX5_signAt 4 = .ok (.iconst 1, 1) := by decide +kernel
theorem dX5_signAt_5 : decode cX5_signAt 5 = .ok (.isub, 1) := by decide +kernel
theorem dX5_signAt_6 : decode cX5_signAt 6 = .ok (.iload_n 1, 1) := by decide +kernel
theorem dX5_signAt_7 : decode cX5_signAt 7 = .ok (.isub, 1) := by decide +kernel
theorem dX5_signAt_8 : decode cX5_signAt 8 = .ok (.istore_n 2, 1) := by decide +kernel
theorem dX5_signAt_9 : decode cX5_signAt 9 = .ok (.aload_n 0, 1) := by decide +kernel
theorem dX5_signAt_10 : decode cX5_signAt 10 = .ok (.getfield 15, 3) := by decide +kernel
theorem dX5_signAt_13 : decode cX5_signAt 13 = .ok (.iload_n 2, 1) := by decide +kernel
theorem dX5_signAt_14 : decode cX5_signAt 14 = .ok (.ishr, 1) := by decide +kernel
theorem dX5_signAt_15 : decode cX5_signAt 15 = .ok (.iconst 1, 1) := by decide +kernel
theorem dX5_signAt_16 : decode cX5_signAt 16 = .ok (.iand, 1) := by decide +kernel
theorem dX5_signAt_17 : decode cX5_signAt 17 = .ok (.iconst 1, 1) := by decide +kernel
theorem dX5_signAt_18 : decode cX5_signAt 18 = .ok (.if_icmp .ne 5, 3) := by decide +kernel
theorem dX5_signAt_21 : decode cX5_signAt 21 = .ok (.iconst (-1), 1) := by decide +kernel
theorem dX5_signAt_22 : decode cX5_signAt 22 = .ok (.ireturn, 1) := by decide +kernel
theorem dX5_signAt_23 : decode cX5_signAt 23 = .ok (.aload_n 0, 1) := by decide +kernel
theorem dX5_signAt_24 : decode cX5_signAt 24 = .ok (.getfield 18, 3) := by decide +kernel
theorem dX5_signAt_27 : decode cX5_signAt 27 = .ok (.iload_n 2, 1) := by decide +kernel
theorem dX5_signAt_28 : decode cX5_signAt 28 = .ok (.ishr, 1) := by decide +kernel
theorem dX5_signAt_29 : decode cX5_signAt 29 = .ok (.iconst 1, 1) := by decide +kernel
theorem dX5_signAt_30 : decode cX5_signAt 30 = .ok (.iand, 1) := by decide +kernel
theorem dX5_signAt_31 : decode cX5_signAt 31 = .ok (.ireturn, 1) := by decide +kernel
theorem dX5_isBehindItsEnd_0 : decode cX5_isBehindItsEnd 0 = .ok (.aload_n 0, 1) := by decide +kernel
theorem dX5_isBehindItsEnd_1 : decode cX5_isBehindItsEnd 1 = .ok (.getfield 9, 3) := by decide +kernel
theorem dX5_isBehindItsEnd_4 : decode cX5_isBehindItsEnd 4 = .ok (.iconst 1, 1) := by decide +kernel
theorem dX5_isBehindItsEnd_5 : decode cX5_isBehindItsEnd 5 = .ok (.isub, 1) := by decide +kernel
theorem dX5_isBehindItsEnd_6 : decode cX5_isBehindItsEnd 6 = .ok (.iload_n 1, 1) := by decide +kernel
theorem dX5_isBehindItsEnd_7 : decode cX5_isBehindItsEnd 7 = .ok (.isub, 1) := by decide +kernel
theorem dX5_isBehindItsEnd_8 : decode cX5_isBehindItsEnd 8 = .ok (.istore_n 3, 1) := by decide +kernel
theorem dX5_isBehindItsEnd_9 : decode cX5_isBehindItsEnd 9 = .ok (.iconst 1, 1) := by decide +kernel
theorem dX5_isBehindItsEnd_10 : decode cX5_isBehindItsEnd 10 = .ok (.iload_n 2, 1) := by decide +kernel
theorem dX5_isBehindItsEnd_11 : decode cX5_isBehindItsEnd 11 = .ok (.ishl, 1) := by decide +kernel
theorem dX5_isBehindItsEnd_12 : decode cX5_isBehindItsEnd 12 = .ok (.iconst 1, 1) := by decide +kernel
theorem dX5_isBehindItsEnd_13 : decode cX5_isBehindItsEnd 13 = .ok (.isub, 1) := by decide +kernel
theorem dX5_isBehindItsEnd_14 : decode cX5_isBehindItsEnd 14 = .ok (.istore 4, 2) := by decide +kernel
theorem dX5_isBehindItsEnd_16 : decode cX5_isBehindItsEnd 16 = .ok (.aload_n 0, 1) := by decide +kernel
theorem dX5_isBehindItsEnd_17 : decode cX5_isBehindItsEnd 17 = .ok (.getfield 15, 3) := by decide +kernel
theorem dX5_isBehindItsEnd_20 : decode cX5_isBehindItsEnd 20 = .ok (.iload_n 3, 1) := by decide +kernel
theorem dX5_isBehindItsEnd_21 : decode cX5_isBehindItsEnd 21 = .ok (.ishr, 1) := by decide +kernel
theorem dX5_isBehindItsEnd_22 : decode cX5_isBehindItsEnd 22 = .ok (.iconst 1, 1) := by decide +kernel
theorem dX5_isBehindItsEnd_23 : decode cX5_isBehindItsEnd 23 = .ok (.iload_n 2, 1) := by decide +kernel
theorem dX5_isBehindItsEnd_24 : decode cX5_isBehindItsEnd 24 = .ok (.iconst 1, 1) := by decide +kernel
theorem dX5_isBehindItsEnd_25 : decode cX5_isBehindItsEnd 25 = .ok (.iadd, 1) := by decide +kernel
theorem dX5_isBehindItsEnd_26 : decode cX5_isBehindItsEnd 26 = .ok (.ishl, 1) := by decide +kernel
theorem dX5_isBehindItsEnd_27 : decode cX5_isBehindItsEnd 27 = .ok (.iconst 1, 1) := by decide +kernel
theorem dX5_isBehindItsEnd_28 : decode cX5_isBehindItsEnd 28 = .ok (.isub, 1) := by decide +kernel
theorem dX5_isBehindItsEnd_29 : decode cX5_isBehindItsEnd 29 = .ok (.iand, 1) := by decide +kernel
theorem dX5_isBehindItsEnd_30 : decode cX5_isBehindItsEnd 30 = .ok (.ifCond .ne 7, 3) := by decide +kernel
theorem dX5_isBehindItsEnd_33 : decode cX5_isBehindItsEnd 33 = .ok (.iconst 1, 1) := by decide +kernel
theorem dX5_isBehindItsEnd_34 : decode cX5_isBehindItsEnd 34 = .ok (.goto 4, 3) := by decide +kernel
theorem dX5_isBehindItsEnd_37 : decode cX5_isBehindItsEnd 37 = .ok (.iconst 0, 1) := by decide +kernel
theorem dX5_isBehindItsEnd_38 : decode cX5_isBehindItsEnd 38 = .ok (.istore 5, 2) := by decide +kernel
theorem dX5_isBehindItsEnd_40 : decode cX5_isBehindItsEnd 40 = .ok (.iload 5, 2) := by decide +kernel
theorem dX5_isBehindItsEnd_42 : decode cX5_isBehindItsEnd 42 = .ok (.ifCond .eq 28, 3) := by decide +kernel
theorem dX5_isBehindItsEnd_45 : decode cX5_isBehindItsEnd 45 = .ok (.aload_n 0, 1) := by decide +kernel
theorem dX5_isBehindItsEnd_46 : decode cX5_isBehindItsEnd 46 = .ok (.getfield 18, 3) := by decide +kernel
theorem dX5_isBehindItsEnd_49 : decode cX5_isBehindItsEnd 49 = .ok (.iload_n 3, 1) := by decide +kernel
theorem dX5_isBehindItsEnd_50 : decode cX5_isBehindItsEnd 50 = .ok (.iconst 1, 1) := by decide +kernel
theorem dX5_isBehindItsEnd_51 : decode cX5_isBehindItsEnd 51 = .ok (.iadd, 1) := by decide +kernel
theorem dX5_isBehindItsEnd_52 : decode cX5_isBehindItsEnd 52 = .ok (.ishr, 1) := by decide +kernel
theorem dX5_isBehindItsEnd_53 : decode cX5_isBehindItsEnd 53 = .ok (.iload 4, 2) := by decide +kernel
theorem dX5_isBehindItsEnd_55 : decode cX5_isBehindItsEnd 55 = .ok (.iand, 1) := by decide +kernel
theorem dX5_isBehindItsEnd_56 : decode cX5_isBehindItsEnd 56 = .ok (.aload_n 0, 1) := by decide +kernel
theorem dX5_isBehindItsEnd_57 : decode cX5_isBehindItsEnd 57 = .ok (.getfield 18, 3) := by decide +kernel
theorem dX5_isBehindItsEnd_60 : decode cX5_isBehindItsEnd 60 = .ok (.iload 4, 2) := by decide +kernel
theorem dX5_isBehindItsEnd_62 : decode cX5_isBehindItsEnd 62 = .ok (.iand, 1) := by decide +kernel
theorem dX5_isBehindItsEnd_63 : decode cX5_isBehindItsEnd 63 = .ok (.if_icmp .ne 7, 3) := by decide +kernel
theorem dX5_isBehindItsEnd_66 : decode cX5_isBehindItsEnd 66 = .ok (.iconst 1, 1) := by decide +kernel
theorem dX5_isBehindItsEnd_67 : decode cX5_isBehindItsEnd 67 = .ok (.goto 4, 3) := by decide +kernel
theorem dX5_isBehindItsEnd_70 : decode cX5_isBehindItsEnd 70 = .ok (.iconst 0, 1) := by decide +kernel
theorem dX5_isBehindItsEnd_71 : decode cX5_isBehindItsEnd 71 = .ok (.ireturn, 1) := by decide +kernel
theorem dX6_init_0 : decode cX6_init 0 = .ok (.aload_n 0, 1) := by decide +kernel
theorem dX6_init_1 : decode cX6_init 1 = .ok (.invokespecial 3, 3) := by decide +kernel
theorem dX6_init_4 : decode cX6_init 4 = .ok (.aload_n 0, 1) := by decide +kernel
theorem dX6_init_5 : decode cX6_init 5 = .ok (.bipush 16, 2) := by decide +kernel
theorem dX6_init_7 : decode cX6_init 7 = .ok (.newarray .int, 2) := by decide +kernel
theorem dX6_init_9 : decode cX6_init 9 = .ok (.putfield 11, 3) := by decide +kernel
theorem dX6_init_12 : decode cX6_init 12 = .ok (.aload_n 0, 1) := by decide +kernel
theorem dX6_init_13 : decode cX6_init 13 = .ok (.bipush 16, 2) := by decide +kernel
theorem dX6_init_15 : decode cX6_init 15 = .ok (.newarray .int, 2) := by decide +kernel
theorem dX6_init_17 : decode cX6_init 17 = .ok (.putfield 15, 3) := by decide +kernel
theorem dX6_init_20 : decode cX6_init 20 = .ok (.aload_n 0, 1) := by decide +kernel
theorem dX6_init_21 : decode cX6_init 21 = .ok (.bipush 16, 2) := by decide +kernel
theorem dX6_init_23 : decode cX6_init 23 = .ok (.newarray .int, 2) := by decide +kernel
theorem dX6_init_25 : decode cX6_init 25 = .ok (.putfield 18, 3) := by decide +kernel
theorem dX6_init_28 : decode cX6_init 28 = .ok (.aload_n 0, 1) := by decide +kernel
theorem dX6_init_29 : decode cX6_init 29 = .ok (.bipush 16, 2) := by decide +kernel
theorem dX6_init_31 : decode cX6_init 31 = .ok (.newarray .boolean, 2) := by decide +kernel
theorem dX6_init_33 : decode cX6_init 33 = .ok (.putfield 21, 3) := by decide +kernel
theorem dX6_init_36 : decode cX6_init 36 = .ok (.aload_n 0, 1) := by decide +kernel
theorem dX6_init_37 : decode cX6_init 37 = .ok (.bipush 7, 2) := by decide +kernel
theorem dX6_init_39 : decode cX6_init 39 = .ok (.newarray .int, 2) := by decide +kernel
theorem dX6_init_41 : decode cX6_init 41 = .ok (.putfield 25, 3) := by decide +kernel
theorem dX6_init_44 : decode cX6_init 44 = .ok (.aload_n 0, 1) := by decide +kernel
theorem dX6_init_45 : decode cX6_init 45 = .ok (.iconst (-1), 1) := by decide +kernel
theorem dX6_init_46 : decode cX6_init 46 = .ok (.putfield 28, 3) := by decide +kernel
theorem dX6_init_49 : decode cX6_init 49 = .ok (.return_, 1) := by decide +kernel
theorem dX6_empty_0 : decode cX6_empty 0 = .ok (.aload_n 0, 1) := by decide +kernel
theorem dX6_empty_1 : decode cX6_empty 1 = .ok (.iconst 0, 1) := by decide +kernel
theorem dX6_empty_2 : decode cX6_empty 2 = .ok (.putfield 32, 3) := by decide +kernel
theorem dX6_empty_5 : decode cX6_empty 5 = .ok (.aload_n 0, 1) := by decide +kernel
theorem dX6_empty_6 : decode cX6_empty 6 = .ok (.iconst 0, 1) := by decide +kernel
theorem dX6_empty_7 : decode cX6_empty 7 = .ok (.putfield 35, 3) := by decide +kernel
theorem dX6_empty_10 : decode cX6_empty 10 = .ok (.aload_n 0, 1) := by decide +kernel
theorem dX6_empty_11 : decode cX6_empty 11 = .ok (.iconst 0, 1) := by decide +kernel
theorem dX6_empty_12 : decode cX6_empty 12 = .ok (.putfield 38, 3) := by decide +kernel
theorem dX6_empty_15 : decode cX6_empty 15 = .ok (.aload_n 0, 1) := by decide +kernel
theorem dX6_empty_16 : decode cX6_empty 16 = .ok (.iconst (-1), 1) := by decide +kernel
theorem dX6_empty_17 : decode cX6_empty 17 = .ok (.putfield 28, 3) := by decide +kernel
theorem dX6_empty_20 : decode cX6_empty 20 = .ok (.return_, 1) := by decide +kernel
theorem dX6_append_0 : decode cX6_append 0 = .ok (.aload_n 0, 1) := by decide +kernel
theorem dX6_append_1 : decode cX6_append 1 = .ok (.getfield 28, 3) := by decide +kernel
theorem dX6_append_4 : decode cX6_append 4 = .ok (.iconst (-1), 1) := by decide +kernel
theorem dX6_append_5 : decode cX6_append 5 = .ok (.if_icmp .ne 19, 3) := by decide +kernel
theorem dX6_append_8 : decode cX6_append 8 = .ok (.aload_n 0, 1) := by decide +kernel
theorem dX6_append_9 : decode cX6_append 9 = .ok (.iload_n 1, 1) := by decide +kernel
theorem dX6_append_10 : decode cX6_append 10 = .ok (.invokevirtual 41, 3) := by decide +kernel
theorem dX6_append_13 : decode cX6_append 13 = .ok (.ifCond .ne 11, 3) := by decide +kernel
theorem dX6_append_16 : decode cX6_append 16 = .ok (.aload_n 0, 1) := by decide +kernel
theorem dX6_append_17 : decode cX6_append 17 = .ok (.aload_n 0, 1) := by decide +kernel
theorem dX6_append_18 : decode cX6_append 18 = .ok (.getfield 32, 3) := by decide +kernel
theorem dX6_append_21 : decode cX6_append 21 = .ok (.putfield 28, 3) := by decide +kernel
theorem dX6_append_24 : decode cX6_append 24 = .ok (.aload_n 0, 1) := by decide +kernel
theorem dX6_append_25 : decode cX6_append 25 = .ok (.dup, 1) := by decide +kernel
theorem dX6_append_26 : decode cX6_append 26 = .ok (.getfield 32, 3) := by decide +kernel
theorem dX6_append_29 : decode cX6_append 29 = .ok (.iconst 1, 1) := by decide +kernel
theorem dX6_append_30 : decode cX6_append 30 = .ok (.iadd, 1) := by decide +kernel
theorem dX6_append_31 : decode cX6_append 31 = .ok (.putfield 32, 3) := by decide +kernel
theorem dX6_append_34 : decode cX6_append 34 = .ok (.return_, 1) := by decide +kernel
theorem dX6_faultPlace_0 : decode cX6_faultPlace 0 = .ok (.aload_n 0, 1) := by decide +kernel
theorem dX6_faultPlace_1 : decode cX6_faultPlace 1 = .ok (.getfield 28, 3) := by decide +kernel
theorem dX6_faultPlace_4 : decode cX6_faultPlace 4 = .ok (.iconst (-1), 1) := by decide +kernel
theorem dX6_faultPlace_5 : decode cX6_faultPlace 5 = .ok (.if_icmp .eq 8, 3) := by decide +kernel
theorem dX6_faultPlace_8 : decode cX6_faultPlace 8 = .ok (.aload_n 0, 1) := by decide +kernel
theorem dX6_faultPlace_9 : decode cX6_faultPlace 9 = .ok (.getfield 28, 3) := by decide +kernel
theorem dX6_faultPlace_12 : decode cX6_faultPlace 12 = .ok (.ireturn, 1) := by decide +kernel
theorem dX6_faultPlace_13 : decode cX6_faultPlace 13 = .ok (.aload_n 0, 1) := by decide +kernel
theorem dX6_faultPlace_14 : decode cX6_faultPlace 14 = .ok (.getfield 38, 3) := by decide +kernel
theorem dX6_faultPlace_17 : decode cX6_faultPlace 17 = .ok (.iconst 3, 1) := by decide +kernel
theorem dX6_faultPlace_18 : decode cX6_faultPlace 18 = .ok (.if_icmp .eq 11, 3) := by decide +kernel
theorem dX6_faultPlace_21 : decode cX6_faultPlace 21 = .ok (.aload_n 0, 1) := by decide +kernel
theorem dX6_faultPlace_22 : decode cX6_faultPlace 22 = .ok (.getfield 38, 3) := by decide +kernel
theorem dX6_faultPlace_25 : decode cX6_faultPlace 25 = .ok (.iconst 4, 1) := by decide +kernel
theorem dX6_faultPlace_26 : decode cX6_faultPlace 26 = .ok (.if_icmp .ne 7, 3) := by decide +kernel
theorem dX6_faultPlace_29 : decode cX6_faultPlace 29 = .ok (.iconst (-1), 1) := by decide +kernel
theorem dX6_faultPlace_30 : decode cX6_faultPlace 30 = .ok (.goto 7, 3) := by decide +kernel
theorem dX6_faultPlace_33 : decode cX6_faultPlace 33 = .ok (.aload_n 0, 1) := by decide +kernel
theorem dX6_faultPlace_34 : decode cX6_faultPlace 34 = .ok (.getfield 32, 3) := by decide +kernel
theorem dX6_faultPlace_37 : decode cX6_faultPlace 37 = .ok (.ireturn, 1) := by decide +kernel
theorem dX6_isFaulty_0 : decode cX6_isFaulty 0 = .ok (.aload_n 0, 1) := by decide +kernel
theorem dX6_isFaulty_1 : decode cX6_isFaulty 1 = .ok (.invokevirtual 45, 3) := by decide +kernel
theorem dX6_isFaulty_4 : decode cX6_isFaulty 4 = .ok (.iconst (-1), 1) := by decide +kernel
theorem dX6_isFaulty_5 : decode cX6_isFaulty 5 = .ok (.if_icmp .eq 7, 3) := by decide +kernel
theorem dX6_isFaulty_8 : decode cX6_isFaulty 8 = .ok (.iconst 1, 1) := by decide +kernel
theorem dX6_isFaulty_9 : decode cX6_isFaulty 9 = .ok (.goto 4, 3) := by decide +kernel
theorem dX6_isFaulty_12 : decode cX6_isFaulty 12 = .ok (.iconst 0, 1) := by decide +kernel
theorem dX6_isFaulty_13 : decode cX6_isFaulty 13 = .ok (.ireturn, 1) := by decide +kernel
theorem dX6_goesOn_0 : decode cX6_goesOn 0 = .ok (.aload_n 0, 1) := by decide +kernel
theorem dX6_goesOn_1 : decode cX6_goesOn 1 = .ok (.getfield 38, 3) := by decide +kernel
theorem dX6_goesOn_4 : decode cX6_goesOn 4 = .ok (.tableswitch 72 0 3 #[32, 38, 44, 50], 32) := by decide +kernel
theorem dX6_goesOn_36 : decode cX6_goesOn 36 = .ok (.aload_n 0, 1) := by decide +kernel
theorem dX6_goesOn_37 : decode cX6_goesOn 37 = .ok (.iload_n 1, 1) := by decide +kernel
theorem dX6_goesOn_38 : decode cX6_goesOn 38 = .ok (.invokevirtual 49, 3) := by decide +kernel
theorem dX6_goesOn_41 : decode cX6_goesOn 41 = .ok (.ireturn, 1) := by decide +kernel
theorem dX6_goesOn_42 : decode cX6_goesOn 42 = .ok (.aload_n 0, 1) := by decide +kernel
theorem dX6_goesOn_43 : decode cX6_goesOn 43 = .ok (.iload_n 1, 1) := by decide +kernel
theorem dX6_goesOn_44 : decode cX6_goesOn 44 = .ok (.invokevirtual 52, 3) := by decide +kernel
theorem dX6_goesOn_47 : decode cX6_goesOn 47 = .ok (.ireturn, 1) := by decide +kernel
theorem dX6_goesOn_48 : decode cX6_goesOn 48 = .ok (.aload_n 0, 1) := by decide +kernel
theorem dX6_goesOn_49 : decode cX6_goesOn 49 = .ok (.iload_n 1, 1) := by decide +kernel
theorem dX6_goesOn_50 : decode cX6_goesOn 50 = .ok (.invokevirtual 55, 3) := by decide +kernel
theorem dX6_goesOn_53 : decode cX6_goesOn 53 = .ok (.ireturn, 1) := by decide +kernel
theorem dX6_goesOn_54 : decode cX6_goesOn 54 = .ok (.aload_n 0, 1) := by decide +kernel
theorem dX6_goesOn_55 : decode cX6_goesOn 55 = .ok (.iload_n 1, 1) := by decide +kernel
theorem dX6_goesOn_56 : decode cX6_goesOn 56 = .ok (.invokevirtual 58, 3) := by decide +kernel
theorem dX6_goesOn_59 : decode cX6_goesOn 59 = .ok (.ifCond .ne 11, 3) := by decide +kernel
theorem dX6_goesOn_62 : decode cX6_goesOn 62 = .ok (.aload_n 0, 1) := by decide +kernel
theorem dX6_goesOn_63 : decode cX6_goesOn 63 = .ok (.iload_n 1, 1) := by decide +kernel
theorem dX6_goesOn_64 : decode cX6_goesOn 64 = .ok (.invokevirtual 61, 3) := by decide +kernel
theorem dX6_goesOn_67 : decode cX6_goesOn 67 = .ok (.ifCond .eq 7, 3) := by decide +kernel
theorem dX6_goesOn_70 : decode cX6_goesOn 70 = .ok (.iconst 1, 1) := by decide +kernel
theorem dX6_goesOn_71 : decode cX6_goesOn 71 = .ok (.goto 4, 3) := by decide +kernel
theorem dX6_goesOn_74 : decode cX6_goesOn 74 = .ok (.iconst 0, 1) := by decide +kernel
theorem dX6_goesOn_75 : decode cX6_goesOn 75 = .ok (.ireturn, 1) := by decide +kernel
theorem dX6_goesOn_76 : decode cX6_goesOn 76 = .ok (.aload_n 0, 1) := by decide +kernel
theorem dX6_goesOn_77 : decode cX6_goesOn 77 = .ok (.iload_n 1, 1) := by decide +kernel
theorem dX6_goesOn_78 : decode cX6_goesOn 78 = .ok (.invokevirtual 61, 3) := by decide +kernel
theorem dX6_goesOn_81 : decode cX6_goesOn 81 = .ok (.ireturn, 1) := by decide +kernel
theorem dX6_takesLetter_0 : decode cX6_takesLetter 0 = .ok (.ldc 64, 2) := by decide +kernel
theorem dX6_takesLetter_2 : decode cX6_takesLetter 2 = .ok (.iload_n 1, 1) := by decide +kernel
theorem dX6_takesLetter_3 : decode cX6_takesLetter 3 = .ok (.i2c, 1) := by decide +kernel
theorem dX6_takesLetter_4 : decode cX6_takesLetter 4 = .ok (.invokevirtual 66, 3) := by decide +kernel
theorem dX6_takesLetter_7 : decode cX6_takesLetter 7 = .ok (.istore_n 2, 1) := by decide +kernel
theorem dX6_takesLetter_8 : decode cX6_takesLetter 8 = .ok (.iload_n 2, 1) := by decide +kernel
theorem dX6_takesLetter_9 : decode cX6_takesLetter 9 = .ok (.ifCond .lt 12, 3) := by decide +kernel
theorem dX6_takesLetter_12 : decode cX6_takesLetter 12 = .ok (.aload_n 0, 1) := by decide +kernel
theorem dX6_takesLetter_13 : decode cX6_takesLetter 13 = .ok (.getfield 35, 3) := by decide +kernel
theorem dX6_takesLetter_16 : decode cX6_takesLetter 16 = .ok (.bipush 16, 2) := by decide +kernel
theorem dX6_takesLetter_18 : decode cX6_takesLetter 18 = .ok (.if_icmp .lt 5, 3) := by decide +kernel
theorem dX6_takesLetter_21 : decode cX6_takesLetter 21 = .ok (.iconst 0, 1) := by decide +kernel
theorem dX6_takesLetter_22 : decode cX6_takesLetter 22 = .ok (.ireturn, 1) := by decide +kernel
theorem dX6_takesLetter_23 : decode cX6_takesLetter 23 = .ok (.aload_n 0, 1) := by decide +kernel
theorem dX6_takesLetter_24 : decode cX6_takesLetter 24 = .ok (.getfield 11, 3) := by decide +kernel
theorem dX6_takesLetter_27 : decode cX6_takesLetter 27 = .ok (.aload_n 0, 1) := by decide +kernel
theorem dX6_takesLetter_28 : decode cX6_takesLetter 28 = .ok (.getfield 35, 3) := by decide +kernel
theorem dX6_takesLetter_31 : decode cX6_takesLetter 31 = .ok (.iload_n 2, 1) := by decide +kernel
theorem dX6_takesLetter_32 : decode cX6_takesLetter 32 = .ok (.iastore, 1) := by decide +kernel
theorem dX6_takesLetter_33 : decode cX6_takesLetter 33 = .ok (.aload_n 0, 1) := by decide +kernel
theorem dX6_takesLetter_34 : decode cX6_takesLetter 34 = .ok (.iconst 1, 1) := by decide +kernel
theorem dX6_takesLetter_35 : decode cX6_takesLetter 35 = .ok (.putfield 38, 3) := by decide +kernel
theorem dX6_takesLetter_38 : decode cX6_takesLetter 38 = .ok (.iconst 1, 1) := by decide +kernel
theorem dX6_takesLetter_39 : decode cX6_takesLetter 39 = .ok (.ireturn, 1) := by decide +kernel
theorem dX6_takesRelation_0 : decode cX6_takesRelation 0 = .ok (.iload_n 1, 1) := by decide +kernel
theorem dX6_takesRelation_1 : decode cX6_takesRelation 1 = .ok (.bipush 60, 2) := by decide +kernel
theorem dX6_takesRelation_3 : decode cX6_takesRelation 3 = .ok (.if_icmp .eq 15, 3) := by decide +kernel
theorem dX6_takesRelation_6 : decode cX6_takesRelation 6 = .ok (.iload_n 1, 1) := by decide +kernel
theorem dX6_takesRelation_7 : decode cX6_takesRelation 7 = .ok (.bipush 61, 2) := by decide +kernel
theorem dX6_takesRelation_9 : decode cX6_takesRelation 9 = .ok (.if_icmp .eq 9, 3) := by decide +kernel
theorem dX6_takesRelation_12 : decode cX6_takesRelation 12 = .ok (.iload_n 1, 1) := by decide +kernel
theorem dX6_takesRelation_13 : decode cX6_takesRelation 13 = .ok (.bipush 62, 2) := by decide +kernel
theorem dX6_takesRelation_15 : decode cX6_takesRelation 15 = .ok (.if_icmp .ne 12, 3) := by decide +kernel
theorem dX6_takesRelation_18 : decode cX6_takesRelation 18 = .ok (.aload_n 0, 1) := by decide +kernel
theorem dX6_takesRelation_19 : decode cX6_takesRelation 19 = .ok (.getfield 35, 3) := by decide +kernel
theorem dX6_takesRelation_22 : decode cX6_takesRelation 22 = .ok (.bipush 16, 2) := by decide +kernel
theorem dX6_takesRelation_24 : decode cX6_takesRelation 24 = .ok (.if_icmp .lt 5, 3) := by decide +kernel
theorem dX6_takesRelation_27 : decode cX6_takesRelation 27 = .ok (.iconst 0, 1) := by decide +kernel
theorem dX6_takesRelation_28 : decode cX6_takesRelation 28 = .ok (.ireturn, 1) := by decide +kernel
theorem dX6_takesRelation_29 : decode cX6_takesRelation 29 = .ok (.aload_n 0, 1) := by decide +kernel
theorem dX6_takesRelation_30 : decode cX6_takesRelation 30 = .ok (.getfield 15, 3) := by decide +kernel
theorem dX6_takesRelation_33 : decode cX6_takesRelation 33 = .ok (.aload_n 0, 1) := by decide +kernel
theorem dX6_takesRelation_34 : decode cX6_takesRelation 34 = .ok (.getfield 35, 3) := by decide +kernel
theorem dX6_takesRelation_37 : decode cX6_takesRelation 37 = .ok (.iload_n 1, 1) := by decide +kernel
theorem dX6_takesRelation_38 : decode cX6_takesRelation 38 = .ok (.iastore, 1) := by decide +kernel
theorem dX6_takesRelation_39 : decode cX6_takesRelation 39 = .ok (.aload_n 0, 1) := by decide +kernel
theorem dX6_takesRelation_40 : decode cX6_takesRelation 40 = .ok (.iconst 2, 1) := by decide +kernel
theorem dX6_takesRelation_41 : decode cX6_takesRelation 41 = .ok (.putfield 38, 3) := by decide +kernel
theorem dX6_takesRelation_44 : decode cX6_takesRelation 44 = .ok (.iconst 1, 1) := by decide +kernel
theorem dX6_takesRelation_45 : decode cX6_takesRelation 45 = .ok (.ireturn, 1) := by decide +kernel
theorem dX6_takesFigure_0 : decode cX6_takesFigure 0 = .ok (.iload_n 1, 1) := by decide +kernel
theorem dX6_takesFigure_1 : decode cX6_takesFigure 1 = .ok (.bipush 48, 2) := by decide +kernel
theorem dX6_takesFigure_3 : decode cX6_takesFigure 3 = .ok (.if_icmp .lt 18, 3) := by decide +kernel
theorem dX6_takesFigure_6 : decode cX6_takesFigure 6 = .ok (.iload_n 1, 1) := by decide +kernel
theorem dX6_takesFigure_7 : decode cX6_takesFigure 7 = .ok (.bipush 57, 2) := by decide +kernel
theorem dX6_takesFigure_9 : decode cX6_takesFigure 9 = .ok (.if_icmp .gt 12, 3) := by decide +kernel
theorem dX6_takesFigure_12 : decode cX6_takesFigure 12 = .ok (.aload_n 0, 1) := by decide +kernel
theorem dX6_takesFigure_13 : decode cX6_takesFigure 13 = .ok (.getfield 35, 3) := by decide +kernel
theorem dX6_takesFigure_16 : decode cX6_takesFigure 16 = .ok (.bipush 16, 2) := by decide +kernel
theorem dX6_takesFigure_18 : decode cX6_takesFigure 18 = .ok (.if_icmp .lt 5, 3) := by decide +kernel
theorem dX6_takesFigure_21 : decode cX6_takesFigure 21 = .ok (.iconst 0, 1) := by decide +kernel
theorem dX6_takesFigure_22 : decode cX6_takesFigure 22 = .ok (.ireturn, 1) := by decide +kernel
theorem dX6_takesFigure_23 : decode cX6_takesFigure 23 = .ok (.aload_n 0, 1) := by decide +kernel
theorem dX6_takesFigure_24 : decode cX6_takesFigure 24 = .ok (.getfield 18, 3) := by decide +kernel
theorem dX6_takesFigure_27 : decode cX6_takesFigure 27 = .ok (.aload_n 0, 1) := by decide +kernel
theorem dX6_takesFigure_28 : decode cX6_takesFigure 28 = .ok (.getfield 35, 3) := by decide +kernel
theorem dX6_takesFigure_31 : decode cX6_takesFigure 31 = .ok (.iload_n 1, 1) := by decide +kernel
theorem dX6_takesFigure_32 : decode cX6_takesFigure 32 = .ok (.bipush 48, 2) := by decide +kernel
theorem dX6_takesFigure_34 : decode cX6_takesFigure 34 = .ok (.isub, 1) := by decide +kernel
theorem dX6_takesFigure_35 : decode cX6_takesFigure 35 = .ok (.iastore, 1) := by decide +kernel
theorem dX6_takesFigure_36 : decode cX6_takesFigure 36 = .ok (.aload_n 0, 1) := by decide +kernel
theorem dX6_takesFigure_37 : decode cX6_takesFigure 37 = .ok (.dup, 1) := by decide +kernel
theorem dX6_takesFigure_38 : decode cX6_takesFigure 38 = .ok (.getfield 35, 3) := by decide +kernel
theorem dX6_takesFigure_41 : decode cX6_takesFigure 41 = .ok (.iconst 1, 1) := by decide +kernel
theorem dX6_takesFigure_42 : decode cX6_takesFigure 42 = .ok (.iadd, 1) := by decide +kernel
theorem dX6_takesFigure_43 : decode cX6_takesFigure 43 = .ok (.putfield 35, 3) := by decide +kernel
theorem dX6_takesFigure_46 : decode cX6_takesFigure 46 = .ok (.aload_n 0, 1) := by decide +kernel
theorem dX6_takesFigure_47 : decode cX6_takesFigure 47 = .ok (.iconst 3, 1) := by decide +kernel
theorem dX6_takesFigure_48 : decode cX6_takesFigure 48 = .ok (.putfield 38, 3) := by decide +kernel
theorem dX6_takesFigure_51 : decode cX6_takesFigure 51 = .ok (.iconst 1, 1) := by decide +kernel
theorem dX6_takesFigure_52 : decode cX6_takesFigure 52 = .ok (.ireturn, 1) := by decide +kernel
theorem dX6_takesSecondFigure_0 : decode cX6_takesSecondFigure 0 = .ok (.iload_n 1, 1) := by decide +kernel
theorem dX6_takesSecondFigure_1 : decode cX6_takesSecondFigure 1 = .ok (.bipush 48, 2) := by decide +kernel
theorem dX6_takesSecondFigure_3 : decode cX6_takesSecondFigure 3 = .ok (.if_icmp .lt 17, 3) := by decide +kernel
theorem dX6_takesSecondFigure_6 : decode cX6_takesSecondFigure 6 = .ok (.iload_n 1, 1) := by decide +kernel
theorem dX6_takesSecondFigure_7 : decode cX6_takesSecondFigure 7 = .ok (.bipush 57, 2) := by decide +kernel
theorem dX6_takesSecondFigure_9 : decode cX6_takesSecondFigure 9 = .ok (.if_icmp .gt 11, 3) := by decide +kernel
theorem dX6_takesSecondFigure_12 : decode cX6_takesSecondFigure 12 = .ok (.aload_n 0, 1) := by decide +kernel
theorem dX6_takesSecondFigure_13 : decode cX6_takesSecondFigure 13 = .ok (.getfield 35, 3) := by decide +kernel
theorem dX6_takesSecondFigure_16 : decode cX6_takesSecondFigure 16 = .ok (.iconst 1, 1) := by decide +kernel
theorem dX6_takesSecondFigure_17 : decode cX6_takesSecondFigure 17 = .ok (.if_icmp .ge 5, 3) := by decide +kernel
theorem dX6_takesSecondFigure_20 : decode cX6_takesSecondFigure 20 = .ok (.iconst 0, 1) := by decide +kernel
theorem dX6_takesSecondFigure_21 : decode cX6_takesSecondFigure 21 = .ok (.ireturn, 1) := by decide +kernel
theorem dX6_takesSecondFigure_22 : decode cX6_takesSecondFigure 22 = .ok (.aload_n 0, 1) := by decide +kernel
theorem dX6_takesSecondFigure_23 : decode cX6_takesSecondFigure 23 = .ok (.getfield 18, 3) := by decide +kernel
theorem dX6_takesSecondFigure_26 : decode cX6_takesSecondFigure 26 = .ok (.aload_n 0, 1) := by decide +kernel
theorem dX6_takesSecondFigure_27 : decode cX6_takesSecondFigure 27 = .ok (.getfield 35, 3) := by decide +kernel
theorem dX6_takesSecondFigure_30 : decode cX6_takesSecondFigure 30 = .ok (.iconst 1, 1) := by decide +kernel
theorem dX6_takesSecondFigure_31 : decode cX6_takesSecondFigure 31 = .ok (.isub, 1) := by decide +kernel
theorem dX6_takesSecondFigure_32 : decode cX6_takesSecondFigure 32 = .ok (.bipush 10, 2) := by decide +kernel
theorem dX6_takesSecondFigure_34 : decode cX6_takesSecondFigure 34 = .ok (.aload_n 0, 1) := by decide +kernel
theorem dX6_takesSecondFigure_35 : decode cX6_takesSecondFigure 35 = .ok (.getfield 18, 3) := by decide +kernel
theorem dX6_takesSecondFigure_38 : decode cX6_takesSecondFigure 38 = .ok (.aload_n 0, 1) := by decide +kernel
theorem dX6_takesSecondFigure_39 : decode cX6_takesSecondFigure 39 = .ok (.getfield 35, 3) := by decide +kernel
theorem dX6_takesSecondFigure_42 : decode cX6_takesSecondFigure 42 = .ok (.iconst 1, 1) := by decide +kernel
theorem dX6_takesSecondFigure_43 : decode cX6_takesSecondFigure 43 = .ok (.isub, 1) := by decide +kernel
theorem dX6_takesSecondFigure_44 : decode cX6_takesSecondFigure 44 = .ok (.iaload, 1) := by decide +kernel
theorem dX6_takesSecondFigure_45 : decode cX6_takesSecondFigure 45 = .ok (.imul, 1) := by decide +kernel
theorem dX6_takesSecondFigure_46 : decode cX6_takesSecondFigure 46 = .ok (.iload_n 1, 1) := by decide +kernel
theorem dX6_takesSecondFigure_47 : decode cX6_takesSecondFigure 47 = .ok (.iadd, 1) := by decide +kernel
theorem dX6_takesSecondFigure_48 : decode cX6_takesSecondFigure 48 = .ok (.bipush 48, 2) := by decide +kernel
theorem dX6_takesSecondFigure_50 : decode cX6_takesSecondFigure 50 = .ok (.isub, 1) := by decide +kernel
theorem dX6_takesSecondFigure_51 : decode cX6_takesSecondFigure 51 = .ok (.iastore, 1) := by decide +kernel
theorem dX6_takesSecondFigure_52 : decode cX6_takesSecondFigure 52 = .ok (.aload_n 0, 1) := by decide +kernel
theorem dX6_takesSecondFigure_53 : decode cX6_takesSecondFigure 53 = .ok (.iconst 4, 1) := by decide +kernel
theorem dX6_takesSecondFigure_54 : decode cX6_takesSecondFigure 54 = .ok (.putfield 38, 3) := by decide +kernel
theorem dX6_takesSecondFigure_57 : decode cX6_takesSecondFigure 57 = .ok (.iconst 1, 1) := by decide +kernel
theorem dX6_takesSecondFigure_58 : decode cX6_takesSecondFigure 58 = .ok (.ireturn, 1) := by decide +kernel
theorem dX6_takesJoint_0 : decode cX6_takesJoint 0 = .ok (.iload_n 1, 1) := by decide +kernel
theorem dX6_takesJoint_1 : decode cX6_takesJoint 1 = .ok (.bipush 43, 2) := by decide +kernel
theorem dX6_takesJoint_3 : decode cX6_takesJoint 3 = .ok (.if_icmp .eq 9, 3) := by decide +kernel
theorem dX6_takesJoint_6 : decode cX6_takesJoint 6 = .ok (.iload_n 1, 1) := by decide +kernel
theorem dX6_takesJoint_7 : decode cX6_takesJoint 7 = .ok (.bipush 124, 2) := by decide +kernel
theorem dX6_takesJoint_9 : decode cX6_takesJoint 9 = .ok (.if_icmp .ne 12, 3) := by decide +kernel
theorem dX6_takesJoint_12 : decode cX6_takesJoint 12 = .ok (.aload_n 0, 1) := by decide +kernel
theorem dX6_takesJoint_13 : decode cX6_takesJoint 13 = .ok (.getfield 35, 3) := by decide +kernel
theorem dX6_takesJoint_16 : decode cX6_takesJoint 16 = .ok (.bipush 16, 2) := by decide +kernel
theorem dX6_takesJoint_18 : decode cX6_takesJoint 18 = .ok (.if_icmp .lt 5, 3) := by decide +kernel
theorem dX6_takesJoint_21 : decode cX6_takesJoint 21 = .ok (.iconst 0, 1) := by decide +kernel
theorem dX6_takesJoint_22 : decode cX6_takesJoint 22 = .ok (.ireturn, 1) := by decide +kernel
theorem dX6_takesJoint_23 : decode cX6_takesJoint 23 = .ok (.aload_n 0, 1) := by decide +kernel
theorem dX6_takesJoint_24 : decode cX6_takesJoint 24 = .ok (.getfield 21, 3) := by decide +kernel
theorem dX6_takesJoint_27 : decode cX6_takesJoint 27 = .ok (.aload_n 0, 1) := by decide +kernel
theorem dX6_takesJoint_28 : decode cX6_takesJoint 28 = .ok (.getfield 35, 3) := by decide +kernel
theorem dX6_takesJoint_31 : decode cX6_takesJoint 31 = .ok (.iload_n 1, 1) := by decide +kernel
theorem dX6_takesJoint_32 : decode cX6_takesJoint 32 = .ok (.bipush 124, 2) := by decide +kernel
theorem dX6_takesJoint_34 : decode cX6_takesJoint 34 = .ok (.if_icmp .ne 7, 3) := by decide +kernel
theorem dX6_takesJoint_37 : decode cX6_takesJoint 37 = .ok (.iconst 1, 1) := by decide +kernel
theorem dX6_takesJoint_38 : decode cX6_takesJoint 38 = .ok (.goto 4, 3) := by decide +kernel
theorem dX6_takesJoint_41 : decode cX6_takesJoint 41 = .ok (.iconst 0, 1) := by decide +kernel
theorem dX6_takesJoint_42 : decode cX6_takesJoint 42 = .ok (.bastore, 1) := by decide +kernel
theorem dX6_takesJoint_43 : decode cX6_takesJoint 43 = .ok (.aload_n 0, 1) := by decide +kernel
theorem dX6_takesJoint_44 : decode cX6_takesJoint 44 = .ok (.iconst 0, 1) := by decide +kernel
theorem dX6_takesJoint_45 : decode cX6_takesJoint 45 = .ok (.putfield 38, 3) := by decide +kernel
theorem dX6_takesJoint_48 : decode cX6_takesJoint 48 = .ok (.iconst 1, 1) := by decide +kernel
theorem dX6_takesJoint_49 : decode cX6_takesJoint 49 = .ok (.ireturn, 1) := by decide +kernel
theorem dX6_hold_0 : decode cX6_hold 0 = .ok (.iconst 1, 1) := by decide +kernel
theorem dX6_hold_1 : decode cX6_hold 1 = .ok (.istore 4, 2) := by decide +kernel
theorem dX6_hold_3 : decode cX6_hold 3 = .ok (.iconst 0, 1) := by decide +kernel
theorem dX6_hold_4 : decode cX6_hold 4 = .ok (.istore 5, 2) := by decide +kernel
theorem dX6_hold_6 : decode cX6_hold 6 = .ok (.iconst 0, 1) := by decide +kernel
theorem dX6_hold_7 : decode cX6_hold 7 = .ok (.istore 6, 2) := by decide +kernel
theorem dX6_hold_9 : decode cX6_hold 9 = .ok (.iload 6, 2) := by decide +kernel
theorem dX6_hold_11 : decode cX6_hold 11 = .ok (.aload_n 0, 1) := by decide +kernel
theorem dX6_hold_12 : decode cX6_hold 12 = .ok (.getfield 35, 3) := by decide +kernel
theorem dX6_hold_15 : decode cX6_hold 15 = .ok (.if_icmp .ge 85, 3) := by decide +kernel
theorem dX6_hold_18 : decode cX6_hold 18 = .ok (.aload_n 0, 1) := by decide +kernel
theorem dX6_hold_19 : decode cX6_hold 19 = .ok (.getfield 21, 3) := by decide +kernel
theorem dX6_hold_22 : decode cX6_hold 22 = .ok (.iload 6, 2) := by decide +kernel
theorem dX6_hold_24 : decode cX6_hold 24 = .ok (.baload, 1) := by decide +kernel
theorem dX6_hold_25 : decode cX6_hold 25 = .ok (.ifCond .eq 13, 3) := by decide +kernel
theorem dX6_hold_28 : decode cX6_hold 28 = .ok (.iload 4, 2) := by decide +kernel
theorem dX6_hold_30 : decode cX6_hold 30 = .ok (.ifCond .eq 5, 3) := by decide +kernel
theorem dX6_hold_33 : decode cX6_hold 33 = .ok (.iconst 1, 1) := by decide +kernel
theorem dX6_hold_34 : decode cX6_hold 34 = .ok (.ireturn, 1) := by decide +kernel
theorem dX6_hold_35 : decode cX6_hold 35 = .ok (.iconst 1, 1) := by decide +kernel
theorem dX6_hold_36 : decode cX6_hold 36 = .ok (.istore 4, 2) := by decide +kernel
theorem dX6_hold_38 : decode cX6_hold 38 = .ok (.iload 4, 2) := by decide +kernel
theorem dX6_hold_40 : decode cX6_hold 40 = .ok (.ifCond .eq 54, 3) := by decide +kernel
theorem dX6_hold_43 : decode cX6_hold 43 = .ok (.aload_n 0, 1) := by decide +kernel
theorem dX6_hold_44 : decode cX6_hold 44 = .ok (.getfield 11, 3) := by decide +kernel
theorem dX6_hold_47 : decode cX6_hold 47 = .ok (.iload 6, 2) := by decide +kernel
theorem dX6_hold_49 : decode cX6_hold 49 = .ok (.iaload, 1) := by decide +kernel
theorem dX6_hold_50 : decode cX6_hold 50 = .ok (.istore 7, 2) := by decide +kernel
theorem dX6_hold_52 : decode cX6_hold 52 = .ok (.iload 5, 2) := by decide +kernel
theorem dX6_hold_54 : decode cX6_hold 54 = .ok (.iload 7, 2) := by decide +kernel
theorem dX6_hold_56 : decode cX6_hold 56 = .ok (.ishr, 1) := by decide +kernel
theorem dX6_hold_57 : decode cX6_hold 57 = .ok (.iconst 1, 1) := by decide +kernel
theorem dX6_hold_58 : decode cX6_hold 58 = .ok (.iand, 1) := by decide +kernel
theorem dX6_hold_59 : decode cX6_hold 59 = .ok (.ifCond .ne 27, 3) := by decide +kernel
theorem dX6_hold_62 : decode cX6_hold 62 = .ok (.aload_n 0, 1) := by decide +kernel
theorem dX6_hold_63 : decode cX6_hold 63 = .ok (.getfield 25, 3) := by decide +kernel
theorem dX6_hold_66 : decode cX6_hold 66 = .ok (.iload 7, 2) := by decide +kernel
theorem dX6_hold_68 : decode cX6_hold 68 = .ok (.iload 7, 2) := by decide +kernel
theorem dX6_hold_70 : decode cX6_hold 70 = .ok (.iload_n 1, 1) := by decide +kernel
theorem dX6_hold_71 : decode cX6_hold 71 = .ok (.iload_n 2, 1) := by decide +kernel
theorem dX6_hold_72 : decode cX6_hold 72 = .ok (.iload_n 3, 1) := by decide +kernel
theorem dX6_hold_73 : decode cX6_hold 73 = .ok (.invokestatic 72, 3) := by decide +kernel
theorem dX6_hold_76 : decode cX6_hold 76 = .ok (.iastore, 1) := by decide +kernel
theorem dX6_hold_77 : decode cX6_hold 77 = .ok (.iload 5, 2) := by decide +kernel
theorem dX6_hold_79 : decode cX6_hold 79 = .ok (.iconst 1, 1) := by decide +kernel
theorem dX6_hold_80 : decode cX6_hold 80 = .ok (.iload 7, 2) := by decide +kernel
theorem dX6_hold_82 : decode cX6_hold 82 = .ok (.ishl, 1) := by decide +kernel
theorem dX6_hold_83 : decode cX6_hold 83 = .ok (.ior, 1) := by decide +kernel
theorem dX6_hold_84 : decode cX6_hold 84 = .ok (.istore 5, 2) := by decide +kernel
theorem dX6_hold_86 : decode cX6_hold 86 = .ok (.aload_n 0, 1) := by decide +kernel
theorem dX6_hold_87 : decode cX6_hold 87 = .ok (.iload 6, 2) := by decide +kernel
theorem dX6_hold_89 : decode cX6_hold 89 = .ok (.invokevirtual 78, 3) := by decide +kernel
theorem dX6_hold_92 : decode cX6_hold 92 = .ok (.istore 4, 2) := by decide +kernel
theorem dX6_hold_94 : decode cX6_hold 94 = .ok (.iinc 6 1, 3) := by decide +kernel
theorem dX6_hold_97 : decode cX6_hold 97 = .ok (.goto (-88), 3) := by decide +kernel
theorem dX6_hold_100 : decode cX6_hold 100 = .ok (.iload 4, 2) := by decide +kernel
theorem dX6_hold_102 : decode cX6_hold 102 = .ok (.ireturn, 1) := by decide +kernel
theorem dX6_isDone_0 : decode cX6_isDone 0 = .ok (.aload_n 0, 1) := by decide +kernel
theorem dX6_isDone_1 : decode cX6_isDone 1 = .ok (.getfield 25, 3) := by decide +kernel
theorem dX6_isDone_4 : decode cX6_isDone 4 = .ok (.aload_n 0, 1) := by decide +kernel
theorem dX6_isDone_5 : decode cX6_isDone 5 = .ok (.getfield 11, 3) := by decide +kernel
theorem dX6_isDone_8 : decode cX6_isDone 8 = .ok (.iload_n 1, 1) := by decide +kernel
theorem dX6_isDone_9 : decode cX6_isDone 9 = .ok (.iaload, 1) := by decide +kernel
theorem dX6_isDone_10 : decode cX6_isDone 10 = .ok (.iaload, 1) := by decide +kernel
theorem dX6_isDone_11 : decode cX6_isDone 11 = .ok (.istore_n 2, 1) := by decide +kernel
theorem dX6_isDone_12 : decode cX6_isDone 12 = .ok (.aload_n 0, 1) := by decide +kernel
theorem dX6_isDone_13 : decode cX6_isDone 13 = .ok (.getfield 15, 3) := by decide +kernel
theorem dX6_isDone_16 : decode cX6_isDone 16 = .ok (.iload_n 1, 1) := by decide +kernel
theorem dX6_isDone_17 : decode cX6_isDone 17 = .ok (.iaload, 1) := by decide +kernel
theorem dX6_isDone_18 : decode cX6_isDone 18 = .ok (.lookupswitch 58 #[(60, 26), (62, 42)], 26) := by decide +kernel
theorem dX6_isDone_44 : decode cX6_isDone 44 = .ok (.iload_n 2, 1) := by decide +kernel
theorem dX6_isDone_45 : decode cX6_isDone 45 = .ok (.aload_n 0, 1) := by decide +kernel
theorem dX6_isDone_46 : decode cX6_isDone 46 = .ok (.getfield 18, 3) := by decide +kernel
theorem dX6_isDone_49 : decode cX6_isDone 49 = .ok (.iload_n 1, 1) := by decide +kernel
theorem dX6_isDone_50 : decode cX6_isDone 50 = .ok (.iaload, 1) := by decide +kernel
theorem dX6_isDone_51 : decode cX6_isDone 51 = .ok (.if_icmp .ge 7, 3) := by decide +kernel
theorem dX6_isDone_54 : decode cX6_isDone 54 = .ok (.iconst 1, 1) := by decide +kernel
theorem dX6_isDone_55 : decode cX6_isDone 55 = .ok (.goto 4, 3) := by decide +kernel
theorem dX6_isDone_58 : decode cX6_isDone 58 = .ok (.iconst 0, 1) := by decide +kernel
theorem dX6_isDone_59 : decode cX6_isDone 59 = .ok (.ireturn, 1) := by decide +kernel
theorem dX6_isDone_60 : decode cX6_isDone 60 = .ok (.iload_n 2, 1) := by decide +kernel
theorem dX6_isDone_61 : decode cX6_isDone 61 = .ok (.aload_n 0, 1) := by decide +kernel
theorem dX6_isDone_62 : decode cX6_isDone 62 = .ok (.getfield 18, 3) := by decide +kernel
theorem dX6_isDone_65 : decode cX6_isDone 65 = .ok (.iload_n 1, 1) := by decide +kernel
theorem dX6_isDone_66 : decode cX6_isDone 66 = .ok (.iaload, 1) := by decide +kernel
theorem dX6_isDone_67 : decode cX6_isDone 67 = .ok (.if_icmp .le 7, 3) := by decide +kernel
theorem dX6_isDone_70 : decode cX6_isDone 70 = .ok (.iconst 1, 1) := by decide +kernel
theorem dX6_isDone_71 : decode cX6_isDone 71 = .ok (.goto 4, 3) := by decide +kernel
theorem dX6_isDone_74 : decode cX6_isDone 74 = .ok (.iconst 0, 1) := by decide +kernel
theorem dX6_isDone_75 : decode cX6_isDone 75 = .ok (.ireturn, 1) := by decide +kernel
theorem dX6_isDone_76 : decode cX6_isDone 76 = .ok (.iload_n 2, 1) := by decide +kernel
theorem dX6_isDone_77 : decode cX6_isDone 77 = .ok (.aload_n 0, 1) := by decide +kernel
theorem dX6_isDone_78 : decode cX6_isDone 78 = .ok (.getfield 18, 3) := by decide +kernel
theorem dX6_isDone_81 : decode cX6_isDone 81 = .ok (.iload_n 1, 1) := by decide +kernel
theorem dX6_isDone_82 : decode cX6_isDone 82 = .ok (.iaload, 1) := by decide +kernel
theorem dX6_isDone_83 : decode cX6_isDone 83 = .ok (.if_icmp .ne 7, 3) := by decide +kernel
theorem dX6_isDone_86 : decode cX6_isDone 86 = .ok (.iconst 1, 1) := by decide +kernel
theorem dX6_isDone_87 : decode cX6_isDone 87 = .ok (.goto 4, 3) := by decide +kernel
theorem dX6_isDone_90 : decode cX6_isDone 90 = .ok (.iconst 0, 1) := by decide +kernel
theorem dX6_isDone_91 : decode cX6_isDone 91 = .ok (.ireturn, 1) := by decide +kernel
theorem dX7_init_0 : decode cX7_init 0 = .ok (.aload_n 0, 1) := by decide +kernel
theorem dX7_init_1 : decode cX7_init 1 = .ok (.invokespecial 3, 3) := by decide +kernel
theorem dX7_init_4 : decode cX7_init 4 = .ok (.aload_n 0, 1) := by decide +kernel
theorem dX7_init_5 : decode cX7_init 5 = .ok (.bipush 40, 2) := by decide +kernel
theorem dX7_init_7 : decode cX7_init 7 = .ok (.newarray .int, 2) := by decide +kernel
theorem dX7_init_9 : decode cX7_init 9 = .ok (.putfield 9, 3) := by decide +kernel
theorem dX7_init_12 : decode cX7_init 12 = .ok (.aload_n 0, 1) := by decide +kernel
theorem dX7_init_13 : decode cX7_init 13 = .ok (.iconst 1, 1) := by decide +kernel
theorem dX7_init_14 : decode cX7_init 14 = .ok (.putfield 15, 3) := by decide +kernel
theorem dX7_init_17 : decode cX7_init 17 = .ok (.return_, 1) := by decide +kernel
theorem dX7_renew_0 : decode cX7_renew 0 = .ok (.iconst 0, 1) := by decide +kernel
theorem dX7_renew_1 : decode cX7_renew 1 = .ok (.istore_n 3, 1) := by decide +kernel
theorem dX7_renew_2 : decode cX7_renew 2 = .ok (.iload_n 3, 1) := by decide +kernel
theorem dX7_renew_3 : decode cX7_renew 3 = .ok (.bipush 40, 2) := by decide +kernel
theorem dX7_renew_5 : decode cX7_renew 5 = .ok (.if_icmp .ge 16, 3) := by decide +kernel
theorem dX7_renew_8 : decode cX7_renew 8 = .ok (.aload_n 0, 1) := by decide +kernel
theorem dX7_renew_9 : decode cX7_renew 9 = .ok (.getfield 9, 3) := by decide +kernel
theorem dX7_renew_12 : decode cX7_renew 12 = .ok (.iload_n 3, 1) := by decide +kernel
theorem dX7_renew_13 : decode cX7_renew 13 = .ok (.iconst 0, 1) := by decide +kernel
theorem dX7_renew_14 : decode cX7_renew 14 = .ok (.iastore, 1) := by decide +kernel
theorem dX7_renew_15 : decode cX7_renew 15 = .ok (.iinc 3 1, 3) := by decide +kernel
theorem dX7_renew_18 : decode cX7_renew 18 = .ok (.goto (-16), 3) := by decide +kernel
theorem dX7_renew_21 : decode cX7_renew 21 = .ok (.aload_n 0, 1) := by decide +kernel
theorem dX7_renew_22 : decode cX7_renew 22 = .ok (.iconst 0, 1) := by decide +kernel
theorem dX7_renew_23 : decode cX7_renew 23 = .ok (.putfield 15, 3) := by decide +kernel
theorem dX7_renew_26 : decode cX7_renew 26 = .ok (.aload_n 0, 1) := by decide +kernel
theorem dX7_renew_27 : decode cX7_renew 27 = .ok (.iload_n 1, 1) := by decide +kernel
theorem dX7_renew_28 : decode cX7_renew 28 = .ok (.putfield 19, 3) := by decide +kernel
theorem dX7_renew_31 : decode cX7_renew 31 = .ok (.aload_n 0, 1) := by decide +kernel
theorem dX7_renew_32 : decode cX7_renew 32 = .ok (.iload_n 2, 1) := by decide +kernel
theorem dX7_renew_33 : decode cX7_renew 33 = .ok (.putfield 23, 3) := by decide +kernel
theorem dX7_renew_36 : decode cX7_renew 36 = .ok (.return_, 1) := by decide +kernel
theorem dX7_store_0 : decode cX7_store 0 = .ok (.aload_n 0, 1) := by decide +kernel
theorem dX7_store_1 : decode cX7_store 1 = .ok (.getfield 19, 3) := by decide +kernel
theorem dX7_store_4 : decode cX7_store 4 = .ok (.lookupswitch 50 #[(0, 28), (1, 39)], 28) := by decide +kernel
theorem dX7_store_32 : decode cX7_store 32 = .ok (.aload_n 0, 1) := by decide +kernel
theorem dX7_store_33 : decode cX7_store 33 = .ok (.getfield 9, 3) := by decide +kernel
theorem dX7_store_36 : decode cX7_store 36 = .ok (.iload_n 1, 1) := by decide +kernel
theorem dX7_store_37 : decode cX7_store 37 = .ok (.iload_n 2, 1) := by decide +kernel
theorem dX7_store_38 : decode cX7_store 38 = .ok (.i2b, 1) := by decide +kernel
theorem dX7_store_39 : decode cX7_store 39 = .ok (.iastore, 1) := by decide +kernel
theorem dX7_store_40 : decode cX7_store 40 = .ok (.goto 21, 3) := by decide +kernel
theorem dX7_store_43 : decode cX7_store 43 = .ok (.aload_n 0, 1) := by decide +kernel
theorem dX7_store_44 : decode cX7_store 44 = .ok (.getfield 9, 3) := by decide +kernel
theorem dX7_store_47 : decode cX7_store 47 = .ok (.iload_n 1, 1) := by decide +kernel
theorem dX7_store_48 : decode cX7_store 48 = .ok (.iload_n 2, 1) := by decide +kernel
theorem dX7_store_49 : decode cX7_store 49 = .ok (.i2s, 1) := by decide +kernel
theorem dX7_store_50 : decode cX7_store 50 = .ok (.iastore, 1) := by decide +kernel
theorem dX7_store_51 : decode cX7_store 51 = .ok (.goto 10, 3) := by decide +kernel
theorem dX7_store_54 : decode cX7_store 54 = .ok (.aload_n 0, 1) := by decide +kernel
theorem dX7_store_55 : decode cX7_store 55 = .ok (.getfield 9, 3) := by decide +kernel
theorem dX7_store_58 : decode cX7_store 58 = .ok (.iload_n 1, 1) := by decide +kernel
theorem dX7_store_59 : decode cX7_store 59 = .ok (.iload_n 2, 1) := by decide +kernel
theorem dX7_store_60 : decode cX7_store 60 = .ok (.iastore, 1) := by decide +kernel
theorem dX7_store_61 : decode cX7_store 61 = .ok (.return_, 1) := by decide +kernel
theorem dX7_hasSpan_0 : decode cX7_hasSpan 0 = .ok (.iload_n 1, 1) := by decide +kernel
theorem dX7_hasSpan_1 : decode cX7_hasSpan 1 = .ok (.ifCond .lt 21, 3) := by decide +kernel
theorem dX7_hasSpan_4 : decode cX7_hasSpan 4 = .ok (.iload_n 2, 1) := by decide +kernel
theorem dX7_hasSpan_5 : decode cX7_hasSpan 5 = .ok (.ifCond .lt 17, 3) := by decide +kernel
theorem dX7_hasSpan_8 : decode cX7_hasSpan 8 = .ok (.iload_n 2, 1) := by decide +kernel
theorem dX7_hasSpan_9 : decode cX7_hasSpan 9 = .ok (.aload_n 0, 1) := by decide +kernel
theorem dX7_hasSpan_10 : decode cX7_hasSpan 10 = .ok (.getfield 23, 3) := by decide +kernel
theorem dX7_hasSpan_13 : decode cX7_hasSpan 13 = .ok (.iload_n 1, 1) := by decide +kernel
theorem dX7_hasSpan_14 : decode cX7_hasSpan 14 = .ok (.isub, 1) := by decide +kernel
theorem dX7_hasSpan_15 : decode cX7_hasSpan 15 = .ok (.if_icmp .gt 7, 3) := by decide +kernel
theorem dX7_hasSpan_18 : decode cX7_hasSpan 18 = .ok (.iconst 1, 1) := by decide +kernel
theorem dX7_hasSpan_19 : decode cX7_hasSpan 19 = .ok (.goto 4, 3) := by decide +kernel
theorem dX7_hasSpan_22 : decode cX7_hasSpan 22 = .ok (.iconst 0, 1) := by decide +kernel
theorem dX7_hasSpan_23 : decode cX7_hasSpan 23 = .ok (.ireturn, 1) := by decide +kernel
theorem dX8_init_0 : decode cX8_init 0 = .ok (.aload_n 0, 1) := by decide +kernel
theorem dX8_init_1 : decode cX8_init 1 = .ok (.invokespecial 3, 3) := by decide +kernel
theorem dX8_init_4 : decode cX8_init 4 = .ok (.aload_n 0, 1) := by decide +kernel
theorem dX8_init_5 : decode cX8_init 5 = .ok (.bipush 16, 2) := by decide +kernel
theorem dX8_init_7 : decode cX8_init 7 = .ok (.bipush 16, 2) := by decide +kernel
theorem dX8_init_9 : decode cX8_init 9 = .ok (.multianewarray 9 2, 4) := by decide +kernel
theorem dX8_init_13 : decode cX8_init 13 = .ok (.putfield 11, 3) := by decide +kernel
theorem dX8_init_16 : decode cX8_init 16 = .ok (.aload_n 0, 1) := by decide +kernel
theorem dX8_init_17 : decode cX8_init 17 = .ok (.bipush 16, 2) := by decide +kernel
theorem dX8_init_19 : decode cX8_init 19 = .ok (.newarray .boolean, 2) := by decide +kernel
theorem dX8_init_21 : decode cX8_init 21 = .ok (.putfield 16, 3) := by decide +kernel
theorem dX8_init_24 : decode cX8_init 24 = .ok (.return_, 1) := by decide +kernel
theorem dX8_forget_0 : decode cX8_forget 0 = .ok (.iconst 0, 1) := by decide +kernel
theorem dX8_forget_1 : decode cX8_forget 1 = .ok (.istore_n 1, 1) := by decide +kernel
theorem dX8_forget_2 : decode cX8_forget 2 = .ok (.iload_n 1, 1) := by decide +kernel
theorem dX8_forget_3 : decode cX8_forget 3 = .ok (.bipush 15, 2) := by decide +kernel
theorem dX8_forget_5 : decode cX8_forget 5 = .ok (.if_icmp .gt 16, 3) := by decide +kernel
theorem dX8_forget_8 : decode cX8_forget 8 = .ok (.aload_n 0, 1) := by decide +kernel
theorem dX8_forget_9 : decode cX8_forget 9 = .ok (.getfield 16, 3) := by decide +kernel
theorem dX8_forget_12 : decode cX8_forget 12 = .ok (.iload_n 1, 1) := by decide +kernel
theorem dX8_forget_13 : decode cX8_forget 13 = .ok (.iconst 0, 1) := by decide +kernel
theorem dX8_forget_14 : decode cX8_forget 14 = .ok (.bastore, 1) := by decide +kernel
theorem dX8_forget_15 : decode cX8_forget 15 = .ok (.iinc 1 1, 3) := by decide +kernel
theorem dX8_forget_18 : decode cX8_forget 18 = .ok (.goto (-16), 3) := by decide +kernel
theorem dX8_forget_21 : decode cX8_forget 21 = .ok (.return_, 1) := by decide +kernel
theorem dX8_learn_0 : decode cX8_learn 0 = .ok (.aload_n 0, 1) := by decide +kernel
theorem dX8_learn_1 : decode cX8_learn 1 = .ok (.getfield 16, 3) := by decide +kernel
theorem dX8_learn_4 : decode cX8_learn 4 = .ok (.iload_n 1, 1) := by decide +kernel
theorem dX8_learn_5 : decode cX8_learn 5 = .ok (.baload, 1) := by decide +kernel
theorem dX8_learn_6 : decode cX8_learn 6 = .ok (.ifCond .eq 4, 3) := by decide +kernel
theorem dX8_learn_9 : decode cX8_learn 9 = .ok (.return_, 1) := by decide +kernel
theorem dX8_learn_10 : decode cX8_learn 10 = .ok (.aload_n 0, 1) := by decide +kernel
theorem dX8_learn_11 : decode cX8_learn 11 = .ok (.getfield 11, 3) := by decide +kernel
theorem dX8_learn_14 : decode cX8_learn 14 = .ok (.iload_n 1, 1) := by decide +kernel
theorem dX8_learn_15 : decode cX8_learn 15 = .ok (.aaload, 1) := by decide +kernel
theorem dX8_learn_16 : decode cX8_learn 16 = .ok (.astore 4, 2) := by decide +kernel
theorem dX8_learn_18 : decode cX8_learn 18 = .ok (.iconst 0, 1) := by decide +kernel
theorem dX8_learn_19 : decode cX8_learn 19 = .ok (.istore 5, 2) := by decide +kernel
theorem dX8_learn_21 : decode cX8_learn 21 = .ok (.iload 5, 2) := by decide +kernel
theorem dX8_learn_23 : decode cX8_learn 23 = .ok (.bipush 15, 2) := by decide +kernel
theorem dX8_learn_25 : decode cX8_learn 25 = .ok (.if_icmp .gt 15, 3) := by decide +kernel
theorem dX8_learn_28 : decode cX8_learn 28 = .ok (.aload 4, 2) := by decide +kernel
theorem dX8_learn_30 : decode cX8_learn 30 = .ok (.iload 5, 2) := by decide +kernel
theorem dX8_learn_32 : decode cX8_learn 32 = .ok (.iconst 0, 1) := by decide +kernel
theorem dX8_learn_33 : decode cX8_learn 33 = .ok (.iastore, 1) := by decide +kernel
theorem dX8_learn_34 : decode cX8_learn 34 = .ok (.iinc 5 1, 3) := by decide +kernel
theorem dX8_learn_37 : decode cX8_learn 37 = .ok (.goto (-16), 3) := by decide +kernel
theorem dX8_learn_40 : decode cX8_learn 40 = .ok (.iconst 0, 1) := by decide +kernel
theorem dX8_learn_41 : decode cX8_learn 41 = .ok (.istore 5, 2) := by decide +kernel
theorem dX8_learn_43 : decode cX8_learn 43 = .ok (.iload 5, 2) := by decide +kernel
theorem dX8_learn_45 : decode cX8_learn 45 = .ok (.iconst 1, 1) := by decide +kernel
theorem dX8_learn_46 : decode cX8_learn 46 = .ok (.iload_n 1, 1) := by decide +kernel
theorem dX8_learn_47 : decode cX8_learn 47 = .ok (.ishl, 1) := by decide +kernel
theorem dX8_learn_48 : decode cX8_learn 48 = .ok (.if_icmp .ge 32, 3) := by decide +kernel
theorem dX8_learn_51 : decode cX8_learn 51 = .ok (.aload_n 2, 1) := by decide +kernel
theorem dX8_learn_52 : decode cX8_learn 52 = .ok (.iload_n 1, 1) := by decide +kernel
theorem dX8_learn_53 : decode cX8_learn 53 = .ok (.iload 5, 2) := by decide +kernel
theorem dX8_learn_55 : decode cX8_learn 55 = .ok (.iload_n 3, 1) := by decide +kernel
theorem dX8_learn_56 : decode cX8_learn 56 = .ok (.invokevirtual 20, 3) := by decide +kernel
theorem dX8_learn_59 : decode cX8_learn 59 = .ok (.ifCond .eq 15, 3) := by decide +kernel
theorem dX8_learn_62 : decode cX8_learn 62 = .ok (.aload 4, 2) := by decide +kernel
theorem dX8_learn_64 : decode cX8_learn 64 = .ok (.iload 5, 2) := by decide +kernel
theorem dX8_learn_66 : decode cX8_learn 66 = .ok (.invokestatic 26, 3) := by decide +kernel
theorem dX8_learn_69 : decode cX8_learn 69 = .ok (.dup2, 1) := by decide +kernel
theorem dX8_learn_70 : decode cX8_learn 70 = .ok (.iaload, 1) := by decide +kernel
theorem dX8_learn_71 : decode cX8_learn 71 = .ok (.iconst 1, 1) := by decide +kernel
theorem dX8_learn_72 : decode cX8_learn 72 = .ok (.iadd, 1) := by decide +kernel
theorem dX8_learn_73 : decode cX8_learn 73 = .ok (.iastore, 1) := by decide +kernel
theorem dX8_learn_74 : decode cX8_learn 74 = .ok (.iinc 5 1, 3) := by decide +kernel
theorem dX8_learn_77 : decode cX8_learn 77 = .ok (.goto (-34), 3) := by decide +kernel
theorem dX8_learn_80 : decode cX8_learn 80 = .ok (.aload_n 0, 1) := by decide +kernel
theorem dX8_learn_81 : decode cX8_learn 81 = .ok (.getfield 16, 3) := by decide +kernel
theorem dX8_learn_84 : decode cX8_learn 84 = .ok (.iload_n 1, 1) := by decide +kernel
theorem dX8_learn_85 : decode cX8_learn 85 = .ok (.iconst 1, 1) := by decide +kernel
theorem dX8_learn_86 : decode cX8_learn 86 = .ok (.bastore, 1) := by decide +kernel
theorem dX8_learn_87 : decode cX8_learn 87 = .ok (.return_, 1) := by decide +kernel
theorem dX9_sum_0 : decode cX9_sum 0 = .ok (.iconst 0, 1) := by decide +kernel
theorem dX9_sum_1 : decode cX9_sum 1 = .ok (.istore_n 1, 1) := by decide +kernel
theorem dX9_sum_2 : decode cX9_sum 2 = .ok (.aload_n 0, 1) := by decide +kernel
theorem dX9_sum_3 : decode cX9_sum 3 = .ok (.astore_n 2, 1) := by decide +kernel
theorem dX9_sum_4 : decode cX9_sum 4 = .ok (.aload_n 2, 1) := by decide +kernel
theorem dX9_sum_5 : decode cX9_sum 5 = .ok (.arraylength, 1) := by decide +kernel
theorem dX9_sum_6 : decode cX9_sum 6 = .ok (.istore_n 3, 1) := by decide +kernel
theorem dX9_sum_7 : decode cX9_sum 7 = .ok (.iconst 0, 1) := by decide +kernel
theorem dX9_sum_8 : decode cX9_sum 8 = .ok (.istore 4, 2) := by decide +kernel
theorem dX9_sum_10 : decode cX9_sum 10 = .ok (.iload 4, 2) := by decide +kernel
theorem dX9_sum_12 : decode cX9_sum 12 = .ok (.iload_n 3, 1) := by decide +kernel
theorem dX9_sum_13 : decode cX9_sum 13 = .ok (.if_icmp .ge 20, 3) := by decide +kernel
theorem dX9_sum_16 : decode cX9_sum 16 = .ok (.aload_n 2, 1) := by decide +kernel
theorem dX9_sum_17 : decode cX9_sum 17 = .ok (.iload 4, 2) := by decide +kernel
theorem dX9_sum_19 : decode cX9_sum 19 = .ok (.iaload, 1) := by decide +kernel
theorem dX9_sum_20 : decode cX9_sum 20 = .ok (.istore 5, 2) := by decide +kernel
theorem dX9_sum_22 : decode cX9_sum 22 = .ok (.iload_n 1, 1) := by decide +kernel
theorem dX9_sum_23 : decode cX9_sum 23 = .ok (.iload 5, 2) := by decide +kernel
theorem dX9_sum_25 : decode cX9_sum 25 = .ok (.iadd, 1) := by decide +kernel
theorem dX9_sum_26 : decode cX9_sum 26 = .ok (.istore_n 1, 1) := by decide +kernel
theorem dX9_sum_27 : decode cX9_sum 27 = .ok (.iinc 4 1, 3) := by decide +kernel
theorem dX9_sum_30 : decode cX9_sum 30 = .ok (.goto (-20), 3) := by decide +kernel
theorem dX9_sum_33 : decode cX9_sum 33 = .ok (.iload_n 1, 1) := by decide +kernel
theorem dX9_sum_34 : decode cX9_sum 34 = .ok (.ireturn, 1) := by decide +kernel
theorem dX9_sharePart_0 : decode cX9_sharePart 0 = .ok (.lconst 0, 1) := by decide +kernel
theorem dX9_sharePart_1 : decode cX9_sharePart 1 = .ok (.lstore 4, 2) := by decide +kernel
theorem dX9_sharePart_3 : decode cX9_sharePart 3 = .ok (.iconst 0, 1) := by decide +kernel
theorem dX9_sharePart_4 : decode cX9_sharePart 4 = .ok (.istore 6, 2) := by decide +kernel
theorem dX9_sharePart_6 : decode cX9_sharePart 6 = .ok (.iload 6, 2) := by decide +kernel
theorem dX9_sharePart_8 : decode cX9_sharePart 8 = .ok (.iload_n 1, 1) := by decide +kernel
theorem dX9_sharePart_9 : decode cX9_sharePart 9 = .ok (.if_icmp .gt 51, 3) := by decide +kernel
theorem dX9_sharePart_12 : decode cX9_sharePart 12 = .ok (.iload 6, 2) := by decide +kernel
theorem dX9_sharePart_14 : decode cX9_sharePart 14 = .ok (.aload_n 0, 1) := by decide +kernel
theorem dX9_sharePart_15 : decode cX9_sharePart 15 = .ok (.arraylength, 1) := by decide +kernel
theorem dX9_sharePart_16 : decode cX9_sharePart 16 = .ok (.if_icmp .ge 44, 3) := by decide +kernel
theorem dX9_sharePart_19 : decode cX9_sharePart 19 = .ok (.iload_n 2, 1) := by decide +kernel
theorem dX9_sharePart_20 : decode cX9_sharePart 20 = .ok (.i2l, 1) := by decide +kernel
theorem dX9_sharePart_21 : decode cX9_sharePart 21 = .ok (.iload 6, 2) := by decide +kernel
theorem dX9_sharePart_23 : decode cX9_sharePart 23 = .ok (.invokestatic 9, 3) := by decide +kernel
theorem dX9_sharePart_26 : decode cX9_sharePart 26 = .ok (.bipush 16, 2) := by decide +kernel
theorem dX9_sharePart_28 : decode cX9_sharePart 28 = .ok (.iload_n 2, 1) := by decide +kernel
theorem dX9_sharePart_29 : decode cX9_sharePart 29 = .ok (.isub, 1) := by decide +kernel
theorem dX9_sharePart_30 : decode cX9_sharePart 30 = .ok (.i2l, 1) := by decide +kernel
theorem dX9_sharePart_31 : decode cX9_sharePart 31 = .ok (.iload_n 1, 1) := by decide +kernel
theorem dX9_sharePart_32 : decode cX9_sharePart 32 = .ok (.iload 6, 2) := by decide +kernel
theorem dX9_sharePart_34 : decode cX9_sharePart 34 = .ok (.isub, 1) := by decide +kernel
theorem dX9_sharePart_35 : decode cX9_sharePart 35 = .ok (.invokestatic 9, 3) := by decide +kernel
theorem dX9_sharePart_38 : decode cX9_sharePart 38 = .ok (.lmul, 1) := by decide +kernel
theorem dX9_sharePart_39 : decode cX9_sharePart 39 = .ok (.lstore 7, 2) := by decide +kernel
theorem dX9_sharePart_41 : decode cX9_sharePart 41 = .ok (.lload 4, 2) := by decide +kernel
theorem dX9_sharePart_43 : decode cX9_sharePart 43 = .ok (.aload_n 0, 1) := by decide +kernel
theorem dX9_sharePart_44 : decode cX9_sharePart 44 = .ok (.iload 6, 2) := by decide +kernel
theorem dX9_sharePart_46 : decode cX9_sharePart 46 = .ok (.iaload, 1) := by decide +kernel
theorem dX9_sharePart_47 : decode cX9_sharePart 47 = .ok (.i2l, 1) := by decide +kernel
theorem dX9_sharePart_48 : decode cX9_sharePart 48 = .ok (.lload 7, 2) := by decide +kernel
theorem dX9_sharePart_50 : decode cX9_sharePart 50 = .ok (.lmul, 1) := by decide +kernel
theorem dX9_sharePart_51 : decode cX9_sharePart 51 = .ok (.ladd, 1) := by decide +kernel
theorem dX9_sharePart_52 : decode cX9_sharePart 52 = .ok (.lstore 4, 2) := by decide +kernel
theorem dX9_sharePart_54 : decode cX9_sharePart 54 = .ok (.iinc 6 1, 3) := by decide +kernel
theorem dX9_sharePart_57 : decode cX9_sharePart 57 = .ok (.goto (-51), 3) := by decide +kernel
theorem dX9_sharePart_60 : decode cX9_sharePart 60 = .ok (.lload 4, 2) := by decide +kernel
theorem dX9_sharePart_62 : decode cX9_sharePart 62 = .ok (.ldc2_w 15, 3) := by decide +kernel
theorem dX9_sharePart_65 : decode cX9_sharePart 65 = .ok (.iload_n 1, 1) := by decide +kernel
theorem dX9_sharePart_66 : decode cX9_sharePart 66 = .ok (.invokestatic 9, 3) := by decide +kernel
theorem dX9_sharePart_69 : decode cX9_sharePart 69 = .ok (.iload_n 3, 1) := by decide +kernel
theorem dX9_sharePart_70 : decode cX9_sharePart 70 = .ok (.invokestatic 17, 3) := by decide +kernel
theorem dX9_sharePart_73 : decode cX9_sharePart 73 = .ok (.lreturn, 1) := by decide +kernel
theorem dJ11_isValidCodePoint_9a6ad_0 : decode cJ11_isValidCodePoint_9a6ad 0 = .ok (.iload_n 0, 1) := by decide +kernel
theorem dJ11_isValidCodePoint_9a6ad_1 : decode cJ11_isValidCodePoint_9a6ad 1 = .ok (.bipush 16, 2) := by decide +kernel
theorem dJ11_isValidCodePoint_9a6ad_3 : decode cJ11_isValidCodePoint_9a6ad 3 = .ok (.iushr, 1) := by decide +kernel
theorem dJ11_isValidCodePoint_9a6ad_4 : decode cJ11_isValidCodePoint_9a6ad 4 = .ok (.istore_n 1, 1) := by decide +kernel
theorem dJ11_isValidCodePoint_9a6ad_5 : decode cJ11_isValidCodePoint_9a6ad 5 = .ok (.iload_n 1, 1) := by decide +kernel
theorem dJ11_isValidCodePoint_9a6ad_6 : decode cJ11_isValidCodePoint_9a6ad 6 = .ok (.bipush 17, 2) := by decide +kernel
theorem dJ11_isValidCodePoint_9a6ad_8 : decode cJ11_isValidCodePoint_9a6ad 8 = .ok (.if_icmp .ge 7, 3) := by decide +kernel
theorem dJ11_isValidCodePoint_9a6ad_11 : decode cJ11_isValidCodePoint_9a6ad 11 = .ok (.iconst 1, 1) := by decide +kernel
theorem dJ11_isValidCodePoint_9a6ad_12 : decode cJ11_isValidCodePoint_9a6ad 12 = .ok (.goto 4, 3) := by decide +kernel
theorem dJ11_isValidCodePoint_9a6ad_15 : decode cJ11_isValidCodePoint_9a6ad 15 = .ok (.iconst 0, 1) := by decide +kernel
theorem dJ11_isValidCodePoint_9a6ad_16 : decode cJ11_isValidCodePoint_9a6ad 16 = .ok (.ireturn, 1) := by decide +kernel
theorem dJ11_highSurrogate_5068e_0 : decode cJ11_highSurrogate_5068e 0 = .ok (.iload_n 0, 1) := by decide +kernel
theorem dJ11_highSurrogate_5068e_1 : decode cJ11_highSurrogate_5068e 1 = .ok (.bipush 10, 2) := by decide +kernel
theorem dJ11_highSurrogate_5068e_3 : decode cJ11_highSurrogate_5068e 3 = .ok (.iushr, 1) := by decide +kernel
theorem dJ11_highSurrogate_5068e_4 : decode cJ11_highSurrogate_5068e 4 = .ok (.ldc 110, 2) := by decide +kernel
theorem dJ11_highSurrogate_5068e_6 : decode cJ11_highSurrogate_5068e 6 = .ok (.iadd, 1) := by decide +kernel
theorem dJ11_highSurrogate_5068e_7 : decode cJ11_highSurrogate_5068e 7 = .ok (.i2c, 1) := by decide +kernel
theorem dJ11_highSurrogate_5068e_8 : decode cJ11_highSurrogate_5068e 8 = .ok (.ireturn, 1) := by decide +kernel
theorem dJ11_lowSurrogate_5068e_0 : decode cJ11_lowSurrogate_5068e 0 = .ok (.iload_n 0, 1) := by decide +kernel
theorem dJ11_lowSurrogate_5068e_1 : decode cJ11_lowSurrogate_5068e 1 = .ok (.sipush 1023, 3) := by decide +kernel
theorem dJ11_lowSurrogate_5068e_4 : decode cJ11_lowSurrogate_5068e 4 = .ok (.iand, 1) := by decide +kernel
theorem dJ11_lowSurrogate_5068e_5 : decode cJ11_lowSurrogate_5068e 5 = .ok (.ldc 76, 2) := by decide +kernel
theorem dJ11_lowSurrogate_5068e_7 : decode cJ11_lowSurrogate_5068e 7 = .ok (.iadd, 1) := by decide +kernel
theorem dJ11_lowSurrogate_5068e_8 : decode cJ11_lowSurrogate_5068e 8 = .ok (.i2c, 1) := by decide +kernel
theorem dJ11_lowSurrogate_5068e_9 : decode cJ11_lowSurrogate_5068e 9 = .ok (.ireturn, 1) := by decide +kernel
theorem dJ6_bitCount_0f7a4_0 : decode cJ6_bitCount_0f7a4 0 = .ok (.iload_n 0, 1) := by decide +kernel
theorem dJ6_bitCount_0f7a4_1 : decode cJ6_bitCount_0f7a4 1 = .ok (.iload_n 0, 1) := by decide +kernel
theorem dJ6_bitCount_0f7a4_2 : decode cJ6_bitCount_0f7a4 2 = .ok (.iconst 1, 1) := by decide +kernel
theorem dJ6_bitCount_0f7a4_3 : decode cJ6_bitCount_0f7a4 3 = .ok (.iushr, 1) := by decide +kernel
theorem dJ6_bitCount_0f7a4_4 : decode cJ6_bitCount_0f7a4 4 = .ok (.ldc_w 265, 3) := by decide +kernel
theorem dJ6_bitCount_0f7a4_7 : decode cJ6_bitCount_0f7a4 7 = .ok (.iand, 1) := by decide +kernel
theorem dJ6_bitCount_0f7a4_8 : decode cJ6_bitCount_0f7a4 8 = .ok (.isub, 1) := by decide +kernel
theorem dJ6_bitCount_0f7a4_9 : decode cJ6_bitCount_0f7a4 9 = .ok (.istore_n 0, 1) := by decide +kernel
theorem dJ6_bitCount_0f7a4_10 : decode cJ6_bitCount_0f7a4 10 = .ok (.iload_n 0, 1) := by decide +kernel
theorem dJ6_bitCount_0f7a4_11 : decode cJ6_bitCount_0f7a4 11 = .ok (.ldc_w 266, 3) := by decide +kernel
theorem dJ6_bitCount_0f7a4_14 : decode cJ6_bitCount_0f7a4 14 = .ok (.iand, 1) := by decide +kernel
theorem dJ6_bitCount_0f7a4_15 : decode cJ6_bitCount_0f7a4 15 = .ok (.iload_n 0, 1) := by decide +kernel
theorem dJ6_bitCount_0f7a4_16 : decode cJ6_bitCount_0f7a4 16 = .ok (.iconst 2, 1) := by decide +kernel
theorem dJ6_bitCount_0f7a4_17 : decode cJ6_bitCount_0f7a4 17 = .ok (.iushr, 1) := by decide +kernel
theorem dJ6_bitCount_0f7a4_18 : decode cJ6_bitCount_0f7a4 18 = .ok (.ldc_w 266, 3) := by decide +kernel
theorem dJ6_bitCount_0f7a4_21 : decode cJ6_bitCount_0f7a4 21 = .ok (.iand, 1) := by decide +kernel
theorem dJ6_bitCount_0f7a4_22 : decode cJ6_bitCount_0f7a4 22 = .ok (.iadd, 1) := by decide +kernel
theorem dJ6_bitCount_0f7a4_23 : decode cJ6_bitCount_0f7a4 23 = .ok (.istore_n 0, 1) := by decide +kernel
theorem dJ6_bitCount_0f7a4_24 : decode cJ6_bitCount_0f7a4 24 = .ok (.iload_n 0, 1) := by decide +kernel
theorem dJ6_bitCount_0f7a4_25 : decode cJ6_bitCount_0f7a4 25 = .ok (.iload_n 0, 1) := by decide +kernel
theorem dJ6_bitCount_0f7a4_26 : decode cJ6_bitCount_0f7a4 26 = .ok (.iconst 4, 1) := by decide +kernel
theorem dJ6_bitCount_0f7a4_27 : decode cJ6_bitCount_0f7a4 27 = .ok (.iushr, 1) := by decide +kernel
theorem dJ6_bitCount_0f7a4_28 : decode cJ6_bitCount_0f7a4 28 = .ok (.iadd, 1) := by decide +kernel
theorem dJ6_bitCount_0f7a4_29 : decode cJ6_bitCount_0f7a4 29 = .ok (.ldc_w 267, 3) := by decide +kernel
theorem dJ6_bitCount_0f7a4_32 : decode cJ6_bitCount_0f7a4 32 = .ok (.iand, 1) := by decide +kernel
theorem dJ6_bitCount_0f7a4_33 : decode cJ6_bitCount_0f7a4 33 = .ok (.istore_n 0, 1) := by decide +kernel
theorem dJ6_bitCount_0f7a4_34 : decode cJ6_bitCount_0f7a4 34 = .ok (.iload_n 0, 1) := by decide +kernel
theorem dJ6_bitCount_0f7a4_35 : decode cJ6_bitCount_0f7a4 35 = .ok (.iload_n 0, 1) := by decide +kernel
theorem dJ6_bitCount_0f7a4_36 : decode cJ6_bitCount_0f7a4 36 = .ok (.bipush 8, 2) := by decide +kernel
theorem dJ6_bitCount_0f7a4_38 : decode cJ6_bitCount_0f7a4 38 = .ok (.iushr, 1) := by decide +kernel
theorem dJ6_bitCount_0f7a4_39 : decode cJ6_bitCount_0f7a4 39 = .ok (.iadd, 1) := by decide +kernel
theorem dJ6_bitCount_0f7a4_40 : decode cJ6_bitCount_0f7a4 40 = .ok (.istore_n 0, 1) := by decide +kernel
theorem dJ6_bitCount_0f7a4_41 : decode cJ6_bitCount_0f7a4 41 = .ok (.iload_n 0, 1) := by decide +kernel
theorem dJ6_bitCount_0f7a4_42 : decode cJ6_bitCount_0f7a4 42 = .ok (.iload_n 0, 1) := by decide +kernel
theorem dJ6_bitCount_0f7a4_43 : decode cJ6_bitCount_0f7a4 43 = .ok (.bipush 16, 2) := by decide +kernel
theorem dJ6_bitCount_0f7a4_45 : decode cJ6_bitCount_0f7a4 45 = .ok (.iushr, 1) := by decide +kernel
theorem dJ6_bitCount_0f7a4_46 : decode cJ6_bitCount_0f7a4 46 = .ok (.iadd, 1) := by decide +kernel
theorem dJ6_bitCount_0f7a4_47 : decode cJ6_bitCount_0f7a4 47 = .ok (.istore_n 0, 1) := by decide +kernel
theorem dJ6_bitCount_0f7a4_48 : decode cJ6_bitCount_0f7a4 48 = .ok (.iload_n 0, 1) := by decide +kernel
theorem dJ6_bitCount_0f7a4_49 : decode cJ6_bitCount_0f7a4 49 = .ok (.bipush 63, 2) := by decide +kernel
theorem dJ6_bitCount_0f7a4_51 : decode cJ6_bitCount_0f7a4 51 = .ok (.iand, 1) := by decide +kernel
theorem dJ6_bitCount_0f7a4_52 : decode cJ6_bitCount_0f7a4 52 = .ok (.ireturn, 1) := by decide +kernel
theorem dJ9_max_7cf53_0 : decode cJ9_max_7cf53 0 = .ok (.iload_n 0, 1) := by decide +kernel
theorem dJ9_max_7cf53_1 : decode cJ9_max_7cf53 1 = .ok (.iload_n 1, 1) := by decide +kernel
theorem dJ9_max_7cf53_2 : decode cJ9_max_7cf53 2 = .ok (.if_icmp .lt 7, 3) := by decide +kernel
theorem dJ9_max_7cf53_5 : decode cJ9_max_7cf53 5 = .ok (.iload_n 0, 1) := by decide +kernel
theorem dJ9_max_7cf53_6 : decode cJ9_max_7cf53 6 = .ok (.goto 4, 3) := by decide +kernel
theorem dJ9_max_7cf53_9 : decode cJ9_max_7cf53 9 = .ok (.iload_n 1, 1) := by decide +kernel
theorem dJ9_max_7cf53_10 : decode cJ9_max_7cf53 10 = .ok (.ireturn, 1) := by decide +kernel
theorem dJ9_min_7cf53_0 : decode cJ9_min_7cf53 0 = .ok (.iload_n 0, 1) := by decide +kernel
theorem dJ9_min_7cf53_1 : decode cJ9_min_7cf53 1 = .ok (.iload_n 1, 1) := by decide +kernel
theorem dJ9_min_7cf53_2 : decode cJ9_min_7cf53 2 = .ok (.if_icmp .gt 7, 3) := by decide +kernel
theorem dJ9_min_7cf53_5 : decode cJ9_min_7cf53 5 = .ok (.iload_n 0, 1) := by decide +kernel
theorem dJ9_min_7cf53_6 : decode cJ9_min_7cf53 6 = .ok (.goto 4, 3) := by decide +kernel
theorem dJ9_min_7cf53_9 : decode cJ9_min_7cf53 9 = .ok (.iload_n 1, 1) := by decide +kernel
theorem dJ9_min_7cf53_10 : decode cJ9_min_7cf53 10 = .ok (.ireturn, 1) := by decide +kernel
theorem dJ0_length_8abf5_0 : decode cJ0_length_8abf5 0 = .ok (.aload_n 0, 1) := by decide +kernel
theorem dJ0_length_8abf5_1 : decode cJ0_length_8abf5 1 = .ok (.getfield 9, 3) := by decide +kernel
theorem dJ0_length_8abf5_4 : decode cJ0_length_8abf5 4 = .ok (.arraylength, 1) := by decide +kernel
theorem dJ0_length_8abf5_5 : decode cJ0_length_8abf5 5 = .ok (.aload_n 0, 1) := by decide +kernel
theorem dJ0_length_8abf5_6 : decode cJ0_length_8abf5 6 = .ok (.invokevirtual 335, 3) := by decide +kernel
theorem dJ0_length_8abf5_9 : decode cJ0_length_8abf5 9 = .ok (.ishr, 1) := by decide +kernel
theorem dJ0_length_8abf5_10 : decode cJ0_length_8abf5 10 = .ok (.ireturn, 1) := by decide +kernel
theorem dJ0_indexOf_0f7a4_0 : decode cJ0_indexOf_0f7a4 0 = .ok (.aload_n 0, 1) := by decide +kernel
theorem dJ0_indexOf_0f7a4_1 : decode cJ0_indexOf_0f7a4 1 = .ok (.iload_n 1, 1) := by decide +kernel
theorem dJ0_indexOf_0f7a4_2 : decode cJ0_indexOf_0f7a4 2 = .ok (.iconst 0, 1) := by decide +kernel
theorem dJ0_indexOf_0f7a4_3 : decode cJ0_indexOf_0f7a4 3 = .ok (.invokevirtual 633, 3) := by decide +kernel
theorem dJ0_indexOf_0f7a4_6 : decode cJ0_indexOf_0f7a4 6 = .ok (.ireturn, 1) := by decide +kernel
theorem dJ0_indexOf_7cf53_0 : decode cJ0_indexOf_7cf53 0 = .ok (.aload_n 0, 1) := by decide +kernel
theorem dJ0_indexOf_7cf53_1 : decode cJ0_indexOf_7cf53 1 = .ok (.invokevirtual 492, 3) := by decide +kernel
theorem dJ0_indexOf_7cf53_4 : decode cJ0_indexOf_7cf53 4 = .ok (.ifCond .eq 19, 3) := by decide +kernel
theorem dJ0_indexOf_7cf53_7 : decode cJ0_indexOf_7cf53 7 = .ok (.aload_n 0, 1) := by decide +kernel
theorem dJ0_indexOf_7cf53_8 : decode cJ0_indexOf_7cf53 8 = .ok (.getfield 9, 3) := by decide +kernel
theorem dJ0_indexOf_7cf53_11 : decode cJ0_indexOf_7cf53 11 = .ok (.iload_n 1, 1) := by decide +kernel
theorem dJ0_indexOf_7cf53_12 : decode cJ0_indexOf_7cf53 12 = .ok (.iload_n 2, 1) := by decide +kernel
theorem dJ0_indexOf_7cf53_13 : decode cJ0_indexOf_7cf53 13 = .ok (.aload_n 0, 1) := by decide +kernel
theorem dJ0_indexOf_7cf53_14 : decode cJ0_indexOf_7cf53 14 = .ok (.invokevirtual 505, 3) := by decide +kernel
theorem dJ0_indexOf_7cf53_17 : decode cJ0_indexOf_7cf53 17 = .ok (.invokestatic 637, 3) := by decide +kernel
theorem dJ0_indexOf_7cf53_20 : decode cJ0_indexOf_7cf53 20 = .ok (.goto 16, 3) := by decide +kernel
theorem dJ0_indexOf_7cf53_23 : decode cJ0_indexOf_7cf53 23 = .ok (.aload_n 0, 1) := by decide +kernel
theorem dJ0_indexOf_7cf53_24 : decode cJ0_indexOf_7cf53 24 = .ok (.getfield 9, 3) := by decide +kernel
theorem dJ0_indexOf_7cf53_27 : decode cJ0_indexOf_7cf53 27 = .ok (.iload_n 1, 1) := by decide +kernel
theorem dJ0_indexOf_7cf53_28 : decode cJ0_indexOf_7cf53 28 = .ok (.iload_n 2, 1) := by decide +kernel
theorem dJ0_indexOf_7cf53_29 : decode cJ0_indexOf_7cf53 29 = .ok (.aload_n 0, 1) := by decide +kernel
theorem dJ0_indexOf_7cf53_30 : decode cJ0_indexOf_7cf53 30 = .ok (.invokevirtual 505, 3) := by decide +kernel
theorem dJ0_indexOf_7cf53_33 : decode cJ0_indexOf_7cf53 33 = .ok (.invokestatic 640, 3) := by decide +kernel
theorem dJ0_indexOf_7cf53_36 : decode cJ0_indexOf_7cf53 36 = .ok (.ireturn, 1) := by decide +kernel
theorem dJ0_coder_7d493_0 : decode cJ0_coder_7d493 0 = .ok (.getstatic 38, 3) := by decide +kernel
theorem dJ0_coder_7d493_3 : decode cJ0_coder_7d493 3 = .ok (.ifCond .eq 10, 3) := by decide +kernel
theorem dJ0_coder_7d493_6 : decode cJ0_coder_7d493 6 = .ok (.aload_n 0, 1) := by decide +kernel
theorem dJ0_coder_7d493_7 : decode cJ0_coder_7d493 7 = .ok (.getfield 15, 3) := by decide +kernel
theorem dJ0_coder_7d493_10 : decode cJ0_coder_7d493 10 = .ok (.goto 4, 3) := by decide +kernel
theorem dJ0_coder_7d493_13 : decode cJ0_coder_7d493 13 = .ok (.iconst 1, 1) := by decide +kernel
theorem dJ0_coder_7d493_14 : decode cJ0_coder_7d493 14 = .ok (.ireturn, 1) := by decide +kernel
theorem dJ0_isLatin1_aae02_0 : decode cJ0_isLatin1_aae02 0 = .ok (.getstatic 38, 3) := by decide +kernel
theorem dJ0_isLatin1_aae02_3 : decode cJ0_isLatin1_aae02 3 = .ok (.ifCond .eq 14, 3) := by decide +kernel
theorem dJ0_isLatin1_aae02_6 : decode cJ0_isLatin1_aae02 6 = .ok (.aload_n 0, 1) := by decide +kernel
theorem dJ0_isLatin1_aae02_7 : decode cJ0_isLatin1_aae02 7 = .ok (.getfield 15, 3) := by decide +kernel
theorem dJ0_isLatin1_aae02_10 : decode cJ0_isLatin1_aae02 10 = .ok (.ifCond .ne 7, 3) := by decide +kernel
theorem dJ0_isLatin1_aae02_13 : decode cJ0_isLatin1_aae02 13 = .ok (.iconst 1, 1) := by decide +kernel
theorem dJ0_isLatin1_aae02_14 : decode cJ0_isLatin1_aae02 14 = .ok (.goto 4, 3) := by decide +kernel
theorem dJ0_isLatin1_aae02_17 : decode cJ0_isLatin1_aae02 17 = .ok (.iconst 0, 1) := by decide +kernel
theorem dJ0_isLatin1_aae02_18 : decode cJ0_isLatin1_aae02 18 = .ok (.ireturn, 1) := by decide +kernel
theorem dJ0_checkBoundsBeginEnd_23922_0 : decode cJ0_checkBoundsBeginEnd_23922 0 = .ok (.iload_n 0, 1) := by decide +kernel
theorem dJ0_checkBoundsBeginEnd_23922_1 : decode cJ0_checkBoundsBeginEnd_23922 1 = .ok (.iload_n 1, 1) := by decide +kernel
theorem dJ0_checkBoundsBeginEnd_23922_2 : decode cJ0_checkBoundsBeginEnd_23922 2 = .ok (.iload_n 2, 1) := by decide +kernel
theorem dJ0_checkBoundsBeginEnd_23922_3 : decode cJ0_checkBoundsBeginEnd_23922 3 = .ok (.getstatic 1053, 3) := by decide +kernel
theorem dJ0_checkBoundsBeginEnd_23922_6 : decode cJ0_checkBoundsBeginEnd_23922 6 = .ok (.invokestatic 1062, 3) := by decide +kernel
theorem dJ0_checkBoundsBeginEnd_23922_9 : decode cJ0_checkBoundsBeginEnd_23922 9 = .ok (.pop, 1) := by decide +kernel
theorem dJ0_checkBoundsBeginEnd_23922_10 : decode cJ0_checkBoundsBeginEnd_23922 10 = .ok (.return_, 1) := by decide +kernel
theorem dJ1_canEncode_9a6ad_0 : decode cJ1_canEncode_9a6ad 0 = .ok (.iload_n 0, 1) := by decide +kernel
theorem dJ1_canEncode_9a6ad_1 : decode cJ1_canEncode_9a6ad 1 = .ok (.ifCond .lt 14, 3) := by decide +kernel
theorem dJ1_canEncode_9a6ad_4 : decode cJ1_canEncode_9a6ad 4 = .ok (.iload_n 0, 1) := by decide +kernel
theorem dJ1_canEncode_9a6ad_5 : decode cJ1_canEncode_9a6ad 5 = .ok (.sipush 255, 3) := by decide +kernel
theorem dJ1_canEncode_9a6ad_8 : decode cJ1_canEncode_9a6ad 8 = .ok (.if_icmp .gt 7, 3) := by decide +kernel
theorem dJ1_canEncode_9a6ad_11 : decode cJ1_canEncode_9a6ad 11 = .ok (.iconst 1, 1) := by decide +kernel
theorem dJ1_canEncode_9a6ad_12 : decode cJ1_canEncode_9a6ad 12 = .ok (.goto 4, 3) := by decide +kernel
theorem dJ1_canEncode_9a6ad_15 : decode cJ1_canEncode_9a6ad 15 = .ok (.iconst 0, 1) := by decide +kernel
theorem dJ1_canEncode_9a6ad_16 : decode cJ1_canEncode_9a6ad 16 = .ok (.ireturn, 1) := by decide +kernel
theorem dJ1_indexOf_4cfef_0 : decode cJ1_indexOf_4cfef 0 = .ok (.iload_n 1, 1) := by decide +kernel
theorem dJ1_indexOf_4cfef_1 : decode cJ1_indexOf_4cfef 1 = .ok (.invokestatic 88, 3) := by decide +kernel
theorem dJ1_indexOf_4cfef_4 : decode cJ1_indexOf_4cfef 4 = .ok (.ifCond .ne 5, 3) := by decide +kernel
theorem dJ1_indexOf_4cfef_7 : decode cJ1_indexOf_4cfef 7 = .ok (.iconst (-1), 1) := by decide +kernel
theorem dJ1_indexOf_4cfef_8 : decode cJ1_indexOf_4cfef 8 = .ok (.ireturn, 1) := by decide +kernel
theorem dJ1_indexOf_4cfef_9 : decode cJ1_indexOf_4cfef 9 = .ok (.iload_n 2, 1) := by decide +kernel
theorem dJ1_indexOf_4cfef_10 : decode cJ1_indexOf_4cfef 10 = .ok (.iconst 0, 1) := by decide +kernel
theorem dJ1_indexOf_4cfef_11 : decode cJ1_indexOf_4cfef 11 = .ok (.invokestatic 92, 3) := by decide +kernel
theorem dJ1_indexOf_4cfef_14 : decode cJ1_indexOf_4cfef 14 = .ok (.istore_n 2, 1) := by decide +kernel
theorem dJ1_indexOf_4cfef_15 : decode cJ1_indexOf_4cfef 15 = .ok (.iload_n 3, 1) := by decide +kernel
theorem dJ1_indexOf_4cfef_16 : decode cJ1_indexOf_4cfef 16 = .ok (.aload_n 0, 1) := by decide +kernel
theorem dJ1_indexOf_4cfef_17 : decode cJ1_indexOf_4cfef 17 = .ok (.arraylength, 1) := by decide +kernel
theorem dJ1_indexOf_4cfef_18 : decode cJ1_indexOf_4cfef 18 = .ok (.invokestatic 38, 3) := by decide +kernel
theorem dJ1_indexOf_4cfef_21 : decode cJ1_indexOf_4cfef 21 = .ok (.istore_n 3, 1) := by decide +kernel
theorem dJ1_indexOf_4cfef_22 : decode cJ1_indexOf_4cfef 22 = .ok (.iload_n 2, 1) := by decide +kernel
theorem dJ1_indexOf_4cfef_23 : decode cJ1_indexOf_4cfef 23 = .ok (.iload_n 3, 1) := by decide +kernel
theorem dJ1_indexOf_4cfef_24 : decode cJ1_indexOf_4cfef 24 = .ok (.if_icmp .lt 5, 3) := by decide +kernel
theorem dJ1_indexOf_4cfef_27 : decode cJ1_indexOf_4cfef 27 = .ok (.iconst (-1), 1) := by decide +kernel
theorem dJ1_indexOf_4cfef_28 : decode cJ1_indexOf_4cfef 28 = .ok (.ireturn, 1) := by decide +kernel
theorem dJ1_indexOf_4cfef_29 : decode cJ1_indexOf_4cfef 29 = .ok (.aload_n 0, 1) := by decide +kernel
theorem dJ1_indexOf_4cfef_30 : decode cJ1_indexOf_4cfef 30 = .ok (.iload_n 1, 1) := by decide +kernel
theorem dJ1_indexOf_4cfef_31 : decode cJ1_indexOf_4cfef 31 = .ok (.iload_n 2, 1) := by decide +kernel
theorem dJ1_indexOf_4cfef_32 : decode cJ1_indexOf_4cfef 32 = .ok (.iload_n 3, 1) := by decide +kernel
theorem dJ1_indexOf_4cfef_33 : decode cJ1_indexOf_4cfef 33 = .ok (.invokestatic 95, 3) := by decide +kernel
theorem dJ1_indexOf_4cfef_36 : decode cJ1_indexOf_4cfef 36 = .ok (.ireturn, 1) := by decide +kernel
theorem dJ1_indexOfChar_4cfef_0 : decode cJ1_indexOfChar_4cfef 0 = .ok (.iload_n 1, 1) := by decide +kernel
theorem dJ1_indexOfChar_4cfef_1 : decode cJ1_indexOfChar_4cfef 1 = .ok (.i2b, 1) := by decide +kernel
theorem dJ1_indexOfChar_4cfef_2 : decode cJ1_indexOfChar_4cfef 2 = .ok (.istore 4, 2) := by decide +kernel
theorem dJ1_indexOfChar_4cfef_4 : decode cJ1_indexOfChar_4cfef 4 = .ok (.iload_n 2, 1) := by decide +kernel
theorem dJ1_indexOfChar_4cfef_5 : decode cJ1_indexOfChar_4cfef 5 = .ok (.istore 5, 2) := by decide +kernel
theorem dJ1_indexOfChar_4cfef_7 : decode cJ1_indexOfChar_4cfef 7 = .ok (.iload 5, 2) := by decide +kernel
theorem dJ1_indexOfChar_4cfef_9 : decode cJ1_indexOfChar_4cfef 9 = .ok (.iload_n 3, 1) := by decide +kernel
theorem dJ1_indexOfChar_4cfef_10 : decode cJ1_indexOfChar_4cfef 10 = .ok (.if_icmp .ge 21, 3) := by decide +kernel
theorem dJ1_indexOfChar_4cfef_13 : decode cJ1_indexOfChar_4cfef 13 = .ok (.aload_n 0, 1) := by decide +kernel
theorem dJ1_indexOfChar_4cfef_14 : decode cJ1_indexOfChar_4cfef 14 = .ok (.iload 5, 2) := by decide +kernel
theorem dJ1_indexOfChar_4cfef_16 : decode cJ1_indexOfChar_4cfef 16 = .ok (.baload, 1) := by decide +kernel
theorem dJ1_indexOfChar_4cfef_17 : decode cJ1_indexOfChar_4cfef 17 = .ok (.iload 4, 2) := by decide +kernel
theorem dJ1_indexOfChar_4cfef_19 : decode cJ1_indexOfChar_4cfef 19 = .ok (.if_icmp .ne 6, 3) := by decide +kernel
theorem dJ1_indexOfChar_4cfef_22 : decode cJ1_indexOfChar_4cfef 22 = .ok (.iload 5, 2) := by decide +kernel
theorem dJ1_indexOfChar_4cfef_24 : decode cJ1_indexOfChar_4cfef 24 = .ok (.ireturn, 1) := by decide +kernel
theorem dJ1_indexOfChar_4cfef_25 : decode cJ1_indexOfChar_4cfef 25 = .ok (.iinc 5 1, 3) := by decide +kernel
theorem dJ1_indexOfChar_4cfef_28 : decode cJ1_indexOfChar_4cfef 28 = .ok (.goto (-21), 3) := by decide +kernel
theorem dJ1_indexOfChar_4cfef_31 : decode cJ1_indexOfChar_4cfef 31 = .ok (.iconst (-1), 1) := by decide +kernel
theorem dJ1_indexOfChar_4cfef_32 : decode cJ1_indexOfChar_4cfef 32 = .ok (.ireturn, 1) := by decide +kernel
theorem dJ2_getChar_3b067_0 : decode cJ2_getChar_3b067 0 = .ok (.getstatic 44, 3) := by decide +kernel
theorem dJ2_getChar_3b067_3 : decode cJ2_getChar_3b067 3 = .ok (.ifCond .ne 25, 3) := by decide +kernel
theorem dJ2_getChar_3b067_6 : decode cJ2_getChar_3b067 6 = .ok (.iload_n 1, 1) := by decide +kernel
theorem dJ2_getChar_3b067_7 : decode cJ2_getChar_3b067 7 = .ok (.ifCond .lt 11, 3) := by decide +kernel
theorem dJ2_getChar_3b067_10 : decode cJ2_getChar_3b067 10 = .ok (.iload_n 1, 1) := by decide +kernel
theorem dJ2_getChar_3b067_11 : decode cJ2_getChar_3b067 11 = .ok (.aload_n 0, 1) := by decide +kernel
theorem dJ2_getChar_3b067_12 : decode cJ2_getChar_3b067 12 = .ok (.invokestatic 48, 3) := by decide +kernel
theorem dJ2_getChar_3b067_15 : decode cJ2_getChar_3b067 15 = .ok (.if_icmp .lt 13, 3) := by decide +kernel
theorem dJ2_getChar_3b067_18 : decode cJ2_getChar_3b067 18 = .ok (.new 52, 3) := by decide +kernel
theorem dJ2_getChar_3b067_21 : decode cJ2_getChar_3b067 21 = .ok (.dup, 1) := by decide +kernel
theorem dJ2_getChar_3b067_22 : decode cJ2_getChar_3b067 22 = .ok (.ldc 54, 2) := by decide +kernel
theorem dJ2_getChar_3b067_24 : decode cJ2_getChar_3b067 24 = .ok (.invokespecial 56, 3) := by decide +kernel
theorem dJ2_getChar_3b067_27 : decode cJ2_getChar_3b067 27 = .ok (.athrow, 1) := by decide +kernel
theorem dJ2_getChar_3b067_28 : decode cJ2_getChar_3b067 28 = .ok (.iload_n 1, 1) := by decide +kernel
theorem dJ2_getChar_3b067_29 : decode cJ2_getChar_3b067 29 = .ok (.iconst 1, 1) := by decide +kernel
theorem dJ2_getChar_3b067_30 : decode cJ2_getChar_3b067 30 = .ok (.ishl, 1) := by decide +kernel
theorem dJ2_getChar_3b067_31 : decode cJ2_getChar_3b067 31 = .ok (.istore_n 1, 1) := by decide +kernel
theorem dJ2_getChar_3b067_32 : decode cJ2_getChar_3b067 32 = .ok (.aload_n 0, 1) := by decide +kernel
theorem dJ2_getChar_3b067_33 : decode cJ2_getChar_3b067 33 = .ok (.iload_n 1, 1) := by decide +kernel
theorem dJ2_getChar_3b067_34 : decode cJ2_getChar_3b067 34 = .ok (.iinc 1 1, 3) := by decide +kernel
theorem dJ2_getChar_3b067_37 : decode cJ2_getChar_3b067 37 = .ok (.baload, 1) := by decide +kernel
theorem dJ2_getChar_3b067_38 : decode cJ2_getChar_3b067 38 = .ok (.sipush 255, 3) := by decide +kernel
theorem dJ2_getChar_3b067_41 : decode cJ2_getChar_3b067 41 = .ok (.iand, 1) := by decide +kernel
theorem dJ2_getChar_3b067_42 : decode cJ2_getChar_3b067 42 = .ok (.getstatic 59, 3) := by decide +kernel
theorem dJ2_getChar_3b067_45 : decode cJ2_getChar_3b067 45 = .ok (.ishl, 1) := by decide +kernel
theorem dJ2_getChar_3b067_46 : decode cJ2_getChar_3b067 46 = .ok (.aload_n 0, 1) := by decide +kernel
theorem dJ2_getChar_3b067_47 : decode cJ2_getChar_3b067 47 = .ok (.iload_n 1, 1) := by decide +kernel
theorem dJ2_getChar_3b067_48 : decode cJ2_getChar_3b067 48 = .ok (.baload, 1) := by decide +kernel
theorem dJ2_getChar_3b067_49 : decode cJ2_getChar_3b067 49 = .ok (.sipush 255, 3) := by decide +kernel
theorem dJ2_getChar_3b067_52 : decode cJ2_getChar_3b067 52 = .ok (.iand, 1) := by decide +kernel
theorem dJ2_getChar_3b067_53 : decode cJ2_getChar_3b067 53 = .ok (.getstatic 63, 3) := by decide +kernel
theorem dJ2_getChar_3b067_56 : decode cJ2_getChar_3b067 56 = .ok (.ishl, 1) := by decide +kernel
theorem dJ2_getChar_3b067_57 : decode cJ2_getChar_3b067 57 = .ok (.ior, 1) := by decide +kernel
theorem dJ2_getChar_3b067_58 : decode cJ2_getChar_3b067 58 = .ok (.i2c, 1) := by decide +kernel
theorem dJ2_getChar_3b067_59 : decode cJ2_getChar_3b067 59 = .ok (.ireturn, 1) := by decide +kernel
theorem dJ2_length_9d52b_0 : decode cJ2_length_9d52b 0 = .ok (.aload_n 0, 1) := by decide +kernel
theorem dJ2_length_9d52b_1 : decode cJ2_length_9d52b 1 = .ok (.arraylength, 1) := by decide +kernel
theorem dJ2_length_9d52b_2 : decode cJ2_length_9d52b 2 = .ok (.iconst 1, 1) := by decide +kernel
theorem dJ2_length_9d52b_3 : decode cJ2_length_9d52b 3 = .ok (.ishr, 1) := by decide +kernel
theorem dJ2_length_9d52b_4 : decode cJ2_length_9d52b 4 = .ok (.ireturn, 1) := by decide +kernel
theorem dJ2_indexOf_4cfef_0 : decode cJ2_indexOf_4cfef 0 = .ok (.iload_n 2, 1) := by decide +kernel
theorem dJ2_indexOf_4cfef_1 : decode cJ2_indexOf_4cfef 1 = .ok (.iconst 0, 1) := by decide +kernel
theorem dJ2_indexOf_4cfef_2 : decode cJ2_indexOf_4cfef 2 = .ok (.invokestatic 224, 3) := by decide +kernel
theorem dJ2_indexOf_4cfef_5 : decode cJ2_indexOf_4cfef 5 = .ok (.istore_n 2, 1) := by decide +kernel
theorem dJ2_indexOf_4cfef_6 : decode cJ2_indexOf_4cfef 6 = .ok (.iload_n 3, 1) := by decide +kernel
theorem dJ2_indexOf_4cfef_7 : decode cJ2_indexOf_4cfef 7 = .ok (.aload_n 0, 1) := by decide +kernel
theorem dJ2_indexOf_4cfef_8 : decode cJ2_indexOf_4cfef 8 = .ok (.arraylength, 1) := by decide +kernel
theorem dJ2_indexOf_4cfef_9 : decode cJ2_indexOf_4cfef 9 = .ok (.iconst 1, 1) := by decide +kernel
theorem dJ2_indexOf_4cfef_10 : decode cJ2_indexOf_4cfef 10 = .ok (.ishr, 1) := by decide +kernel
theorem dJ2_indexOf_4cfef_11 : decode cJ2_indexOf_4cfef 11 = .ok (.invokestatic 183, 3) := by decide +kernel
theorem dJ2_indexOf_4cfef_14 : decode cJ2_indexOf_4cfef 14 = .ok (.istore_n 3, 1) := by decide +kernel
theorem dJ2_indexOf_4cfef_15 : decode cJ2_indexOf_4cfef 15 = .ok (.iload_n 2, 1) := by decide +kernel
theorem dJ2_indexOf_4cfef_16 : decode cJ2_indexOf_4cfef 16 = .ok (.iload_n 3, 1) := by decide +kernel
theorem dJ2_indexOf_4cfef_17 : decode cJ2_indexOf_4cfef 17 = .ok (.if_icmp .lt 5, 3) := by decide +kernel
theorem dJ2_indexOf_4cfef_20 : decode cJ2_indexOf_4cfef 20 = .ok (.iconst (-1), 1) := by decide +kernel
theorem dJ2_indexOf_4cfef_21 : decode cJ2_indexOf_4cfef 21 = .ok (.ireturn, 1) := by decide +kernel
theorem dJ2_indexOf_4cfef_22 : decode cJ2_indexOf_4cfef 22 = .ok (.iload_n 1, 1) := by decide +kernel
theorem dJ2_indexOf_4cfef_23 : decode cJ2_indexOf_4cfef 23 = .ok (.ldc 227, 2) := by decide +kernel
theorem dJ2_indexOf_4cfef_25 : decode cJ2_indexOf_4cfef 25 = .ok (.if_icmp .ge 11, 3) := by decide +kernel
theorem dJ2_indexOf_4cfef_28 : decode cJ2_indexOf_4cfef 28 = .ok (.aload_n 0, 1) := by decide +kernel
theorem dJ2_indexOf_4cfef_29 : decode cJ2_indexOf_4cfef 29 = .ok (.iload_n 1, 1) := by decide +kernel
theorem dJ2_indexOf_4cfef_30 : decode cJ2_indexOf_4cfef 30 = .ok (.iload_n 2, 1) := by decide +kernel
theorem dJ2_indexOf_4cfef_31 : decode cJ2_indexOf_4cfef 31 = .ok (.iload_n 3, 1) := by decide +kernel
theorem dJ2_indexOf_4cfef_32 : decode cJ2_indexOf_4cfef 32 = .ok (.invokestatic 228, 3) := by decide +kernel
theorem dJ2_indexOf_4cfef_35 : decode cJ2_indexOf_4cfef 35 = .ok (.ireturn, 1) := by decide +kernel
theorem dJ2_indexOf_4cfef_36 : decode cJ2_indexOf_4cfef 36 = .ok (.aload_n 0, 1) := by decide +kernel
theorem dJ2_indexOf_4cfef_37 : decode cJ2_indexOf_4cfef 37 = .ok (.iload_n 1, 1) := by decide +kernel
theorem dJ2_indexOf_4cfef_38 : decode cJ2_indexOf_4cfef 38 = .ok (.iload_n 2, 1) := by decide +kernel
theorem dJ2_indexOf_4cfef_39 : decode cJ2_indexOf_4cfef 39 = .ok (.iload_n 3, 1) := by decide +kernel
theorem dJ2_indexOf_4cfef_40 : decode cJ2_indexOf_4cfef 40 = .ok (.invokestatic 232, 3) := by decide +kernel
theorem dJ2_indexOf_4cfef_43 : decode cJ2_indexOf_4cfef 43 = .ok (.ireturn, 1) := by decide +kernel
theorem dJ2_indexOfChar_4cfef_0 : decode cJ2_indexOfChar_4cfef 0 = .ok (.iload_n 2, 1) := by decide +kernel
theorem dJ2_indexOfChar_4cfef_1 : decode cJ2_indexOfChar_4cfef 1 = .ok (.iload_n 3, 1) := by decide +kernel
theorem dJ2_indexOfChar_4cfef_2 : decode cJ2_indexOfChar_4cfef 2 = .ok (.aload_n 0, 1) := by decide +kernel
theorem dJ2_indexOfChar_4cfef_3 : decode cJ2_indexOfChar_4cfef 3 = .ok (.invokestatic 96, 3) := by decide +kernel
theorem dJ2_indexOfChar_4cfef_6 : decode cJ2_indexOfChar_4cfef 6 = .ok (.aload_n 0, 1) := by decide +kernel
theorem dJ2_indexOfChar_4cfef_7 : decode cJ2_indexOfChar_4cfef 7 = .ok (.iload_n 1, 1) := by decide +kernel
theorem dJ2_indexOfChar_4cfef_8 : decode cJ2_indexOfChar_4cfef 8 = .ok (.iload_n 2, 1) := by decide +kernel
theorem dJ2_indexOfChar_4cfef_9 : decode cJ2_indexOfChar_4cfef 9 = .ok (.iload_n 3, 1) := by decide +kernel
theorem dJ2_indexOfChar_4cfef_10 : decode cJ2_indexOfChar_4cfef 10 = .ok (.invokestatic 244, 3) := by decide +kernel
theorem dJ2_indexOfChar_4cfef_13 : decode cJ2_indexOfChar_4cfef 13 = .ok (.ireturn, 1) := by decide +kernel
theorem dJ2_indexOfCharUnsafe_4cfef_0 : decode cJ2_indexOfCharUnsafe_4cfef 0 = .ok (.iload_n 2, 1) := by decide +kernel
theorem dJ2_indexOfCharUnsafe_4cfef_1 : decode cJ2_indexOfCharUnsafe_4cfef 1 = .ok (.istore 4, 2) := by decide +kernel
theorem dJ2_indexOfCharUnsafe_4cfef_3 : decode cJ2_indexOfCharUnsafe_4cfef 3 = .ok (.iload 4, 2) := by decide +kernel
theorem dJ2_indexOfCharUnsafe_4cfef_5 : decode cJ2_indexOfCharUnsafe_4cfef 5 = .ok (.iload_n 3, 1) := by decide +kernel
theorem dJ2_indexOfCharUnsafe_4cfef_6 : decode cJ2_indexOfCharUnsafe_4cfef 6 = .ok (.if_icmp .ge 22, 3) := by decide +kernel
theorem dJ2_indexOfCharUnsafe_4cfef_9 : decode cJ2_indexOfCharUnsafe_4cfef 9 = .ok (.aload_n 0, 1) := by decide +kernel
theorem dJ2_indexOfCharUnsafe_4cfef_10 : decode cJ2_indexOfCharUnsafe_4cfef 10 = .ok (.iload 4, 2) := by decide +kernel
theorem dJ2_indexOfCharUnsafe_4cfef_12 : decode cJ2_indexOfCharUnsafe_4cfef 12 = .ok (.invokestatic 71, 3) := by decide +kernel
theorem dJ2_indexOfCharUnsafe_4cfef_15 : decode cJ2_indexOfCharUnsafe_4cfef 15 = .ok (.iload_n 1, 1) := by decide +kernel
theorem dJ2_indexOfCharUnsafe_4cfef_16 : decode cJ2_indexOfCharUnsafe_4cfef 16 = .ok (.if_icmp .ne 6, 3) := by decide +kernel
theorem dJ2_indexOfCharUnsafe_4cfef_19 : decode cJ2_indexOfCharUnsafe_4cfef 19 = .ok (.iload 4, 2) := by decide +kernel
theorem dJ2_indexOfCharUnsafe_4cfef_21 : decode cJ2_indexOfCharUnsafe_4cfef 21 = .ok (.ireturn, 1) := by decide +kernel
theorem dJ2_indexOfCharUnsafe_4cfef_22 : decode cJ2_indexOfCharUnsafe_4cfef 22 = .ok (.iinc 4 1, 3) := by decide +kernel
theorem dJ2_indexOfCharUnsafe_4cfef_25 : decode cJ2_indexOfCharUnsafe_4cfef 25 = .ok (.goto (-22), 3) := by decide +kernel
theorem dJ2_indexOfCharUnsafe_4cfef_28 : decode cJ2_indexOfCharUnsafe_4cfef 28 = .ok (.iconst (-1), 1) := by decide +kernel
theorem dJ2_indexOfCharUnsafe_4cfef_29 : decode cJ2_indexOfCharUnsafe_4cfef 29 = .ok (.ireturn, 1) := by decide +kernel
theorem dJ2_indexOfSupplementary_4cfef_0 : decode cJ2_indexOfSupplementary_4cfef 0 = .ok (.iload_n 1, 1) := by decide +kernel
theorem dJ2_indexOfSupplementary_4cfef_1 : decode cJ2_indexOfSupplementary_4cfef 1 = .ok (.invokestatic 164, 3) := by decide +kernel
theorem dJ2_indexOfSupplementary_4cfef_4 : decode cJ2_indexOfSupplementary_4cfef 4 = .ok (.ifCond .eq 65, 3) := by decide +kernel
theorem dJ2_indexOfSupplementary_4cfef_7 : decode cJ2_indexOfSupplementary_4cfef 7 = .ok (.iload_n 1, 1) := by decide +kernel
theorem dJ2_indexOfSupplementary_4cfef_8 : decode cJ2_indexOfSupplementary_4cfef 8 = .ok (.invokestatic 157, 3) := by decide +kernel
theorem dJ2_indexOfSupplementary_4cfef_11 : decode cJ2_indexOfSupplementary_4cfef 11 = .ok (.istore 4, 2) := by decide +kernel
theorem dJ2_indexOfSupplementary_4cfef_13 : decode cJ2_indexOfSupplementary_4cfef 13 = .ok (.iload_n 1, 1) := by decide +kernel
theorem dJ2_indexOfSupplementary_4cfef_14 : decode cJ2_indexOfSupplementary_4cfef 14 = .ok (.invokestatic 161, 3) := by decide +kernel
theorem dJ2_indexOfSupplementary_4cfef_17 : decode cJ2_indexOfSupplementary_4cfef 17 = .ok (.istore 5, 2) := by decide +kernel
theorem dJ2_indexOfSupplementary_4cfef_19 : decode cJ2_indexOfSupplementary_4cfef 19 = .ok (.iload_n 2, 1) := by decide +kernel
theorem dJ2_indexOfSupplementary_4cfef_20 : decode cJ2_indexOfSupplementary_4cfef 20 = .ok (.iload_n 3, 1) := by decide +kernel
theorem dJ2_indexOfSupplementary_4cfef_21 : decode cJ2_indexOfSupplementary_4cfef 21 = .ok (.aload_n 0, 1) := by decide +kernel
theorem dJ2_indexOfSupplementary_4cfef_22 : decode cJ2_indexOfSupplementary_4cfef 22 = .ok (.invokestatic 96, 3) := by decide +kernel
theorem dJ2_indexOfSupplementary_4cfef_25 : decode cJ2_indexOfSupplementary_4cfef 25 = .ok (.iload_n 2, 1) := by decide +kernel
theorem dJ2_indexOfSupplementary_4cfef_26 : decode cJ2_indexOfSupplementary_4cfef 26 = .ok (.istore 6, 2) := by decide +kernel
theorem dJ2_indexOfSupplementary_4cfef_28 : decode cJ2_indexOfSupplementary_4cfef 28 = .ok (.iload 6, 2) := by decide +kernel
theorem dJ2_indexOfSupplementary_4cfef_30 : decode cJ2_indexOfSupplementary_4cfef 30 = .ok (.iload_n 3, 1) := by decide +kernel
theorem dJ2_indexOfSupplementary_4cfef_31 : decode cJ2_indexOfSupplementary_4cfef 31 = .ok (.iconst 1, 1) := by decide +kernel
theorem dJ2_indexOfSupplementary_4cfef_32 : decode cJ2_indexOfSupplementary_4cfef 32 = .ok (.isub, 1) := by decide +kernel
theorem dJ2_indexOfSupplementary_4cfef_33 : decode cJ2_indexOfSupplementary_4cfef 33 = .ok (.if_icmp .ge 36, 3) := by decide +kernel
theorem dJ2_indexOfSupplementary_4cfef_36 : decode cJ2_indexOfSupplementary_4cfef 36 = .ok (.aload_n 0, 1) := by decide +kernel
theorem dJ2_indexOfSupplementary_4cfef_37 : decode cJ2_indexOfSupplementary_4cfef 37 = .ok (.iload 6, 2) := by decide +kernel
theorem dJ2_indexOfSupplementary_4cfef_39 : decode cJ2_indexOfSupplementary_4cfef 39 = .ok (.invokestatic 71, 3) := by decide +kernel
theorem dJ2_indexOfSupplementary_4cfef_42 : decode cJ2_indexOfSupplementary_4cfef 42 = .ok (.iload 4, 2) := by decide +kernel
theorem dJ2_indexOfSupplementary_4cfef_44 : decode cJ2_indexOfSupplementary_4cfef 44 = .ok (.if_icmp .ne 19, 3) := by decide +kernel
theorem dJ2_indexOfSupplementary_4cfef_47 : decode cJ2_indexOfSupplementary_4cfef 47 = .ok (.aload_n 0, 1) := by decide +kernel
theorem dJ2_indexOfSupplementary_4cfef_48 : decode cJ2_indexOfSupplementary_4cfef 48 = .ok (.iload 6, 2) := by decide +kernel
theorem dJ2_indexOfSupplementary_4cfef_50 : decode cJ2_indexOfSupplementary_4cfef 50 = .ok (.iconst 1, 1) := by decide +kernel
theorem dJ2_indexOfSupplementary_4cfef_51 : decode cJ2_indexOfSupplementary_4cfef 51 = .ok (.iadd, 1) := by decide +kernel
theorem dJ2_indexOfSupplementary_4cfef_52 : decode cJ2_indexOfSupplementary_4cfef 52 = .ok (.invokestatic 71, 3) := by decide +kernel
theorem dJ2_indexOfSupplementary_4cfef_55 : decode cJ2_indexOfSupplementary_4cfef 55 = .ok (.iload 5, 2) := by decide +kernel
theorem dJ2_indexOfSupplementary_4cfef_57 : decode cJ2_indexOfSupplementary_4cfef 57 = .ok (.if_icmp .ne 6, 3) := by decide +kernel
theorem dJ2_indexOfSupplementary_4cfef_60 : decode cJ2_indexOfSupplementary_4cfef 60 = .ok (.iload 6, 2) := by decide +kernel
theorem dJ2_indexOfSupplementary_4cfef_62 : decode cJ2_indexOfSupplementary_4cfef 62 = .ok (.ireturn, 1) := by decide +kernel
theorem dJ2_indexOfSupplementary_4cfef_63 : decode cJ2_indexOfSupplementary_4cfef 63 = .ok (.iinc 6 1, 3) := by decide +kernel
theorem dJ2_indexOfSupplementary_4cfef_66 : decode cJ2_indexOfSupplementary_4cfef 66 = .ok (.goto (-38), 3) := by decide +kernel
theorem dJ2_indexOfSupplementary_4cfef_69 : decode cJ2_indexOfSupplementary_4cfef 69 = .ok (.iconst (-1), 1) := by decide +kernel
theorem dJ2_indexOfSupplementary_4cfef_70 : decode cJ2_indexOfSupplementary_4cfef 70 = .ok (.ireturn, 1) := by decide +kernel
theorem dJ2_checkBoundsBeginEnd_d044e_0 : decode cJ2_checkBoundsBeginEnd_d044e 0 = .ok (.iload_n 0, 1) := by decide +kernel
theorem dJ2_checkBoundsBeginEnd_d044e_1 : decode cJ2_checkBoundsBeginEnd_d044e 1 = .ok (.iload_n 1, 1) := by decide +kernel
theorem dJ2_checkBoundsBeginEnd_d044e_2 : decode cJ2_checkBoundsBeginEnd_d044e 2 = .ok (.aload_n 2, 1) := by decide +kernel
theorem dJ2_checkBoundsBeginEnd_d044e_3 : decode cJ2_checkBoundsBeginEnd_d044e 3 = .ok (.invokestatic 48, 3) := by decide +kernel
theorem dJ2_checkBoundsBeginEnd_d044e_6 : decode cJ2_checkBoundsBeginEnd_d044e 6 = .ok (.invokestatic 241, 3) := by decide +kernel
theorem dJ2_checkBoundsBeginEnd_d044e_9 : decode cJ2_checkBoundsBeginEnd_d044e 9 = .ok (.return_, 1) := by decide +kernel
theorem dJ3_checkFromToIndex_8c36e_0 : decode cJ3_checkFromToIndex_8c36e 0 = .ok (.iload_n 0, 1) := by decide +kernel
theorem dJ3_checkFromToIndex_8c36e_1 : decode cJ3_checkFromToIndex_8c36e 1 = .ok (.ifCond .lt 13, 3) := by decide +kernel
theorem dJ3_checkFromToIndex_8c36e_4 : decode cJ3_checkFromToIndex_8c36e 4 = .ok (.iload_n 0, 1) := by decide +kernel
theorem dJ3_checkFromToIndex_8c36e_5 : decode cJ3_checkFromToIndex_8c36e 5 = .ok (.iload_n 1, 1) := by decide +kernel
theorem dJ3_checkFromToIndex_8c36e_6 : decode cJ3_checkFromToIndex_8c36e 6 = .ok (.if_icmp .gt 8, 3) := by decide +kernel
theorem dJ3_checkFromToIndex_8c36e_9 : decode cJ3_checkFromToIndex_8c36e 9 = .ok (.iload_n 1, 1) := by decide +kernel
theorem dJ3_checkFromToIndex_8c36e_10 : decode cJ3_checkFromToIndex_8c36e 10 = .ok (.iload_n 2, 1) := by decide +kernel
theorem dJ3_checkFromToIndex_8c36e_11 : decode cJ3_checkFromToIndex_8c36e 11 = .ok (.if_icmp .le 11, 3) := by decide +kernel
theorem dJ3_checkFromToIndex_8c36e_14 : decode cJ3_checkFromToIndex_8c36e 14 = .ok (.aload_n 3, 1) := by decide +kernel
theorem dJ3_checkFromToIndex_8c36e_15 : decode cJ3_checkFromToIndex_8c36e 15 = .ok (.iload_n 0, 1) := by decide +kernel
theorem dJ3_checkFromToIndex_8c36e_16 : decode cJ3_checkFromToIndex_8c36e 16 = .ok (.iload_n 1, 1) := by decide +kernel
theorem dJ3_checkFromToIndex_8c36e_17 : decode cJ3_checkFromToIndex_8c36e 17 = .ok (.iload_n 2, 1) := by decide +kernel
theorem dJ3_checkFromToIndex_8c36e_18 : decode cJ3_checkFromToIndex_8c36e 18 = .ok (.invokestatic 99, 3) := by decide +kernel
theorem dJ3_checkFromToIndex_8c36e_21 : decode cJ3_checkFromToIndex_8c36e 21 = .ok (.athrow, 1) := by decide +kernel
theorem dJ3_checkFromToIndex_8c36e_22 : decode cJ3_checkFromToIndex_8c36e 22 = .ok (.iload_n 0, 1) := by decide +kernel
theorem dJ3_checkFromToIndex_8c36e_23 : decode cJ3_checkFromToIndex_8c36e 23 = .ok (.ireturn, 1) := by decide +kernel
end
section
theorem dX10_init_0 : decode cX10_init 0 = .ok (.aload_n 0, 1) := by decide +kernel
theorem dX10_init_1 : decode cX10_init 1 = .ok (.invokespecial 1, 3) := by decide +kernel
theorem dX10_init_4 : decode cX10_init 4 = .ok (.aload_n 0, 1) := by decide +kernel
theorem dX10_init_5 : decode cX10_init 5 = .ok (.iconst 4, 1) := by decide +kernel
theorem dX10_init_6 : decode cX10_init 6 = .ok (.anewarray 9, 3) := by decide +kernel
theorem dX10_init_9 : decode cX10_init 9 = .ok (.putfield 11, 3) := by decide +kernel
theorem dX10_init_12 : decode cX10_init 12 = .ok (.iconst 0, 1) := by decide +kernel
theorem dX10_init_13 : decode cX10_init 13 = .ok (.istore_n 1, 1) := by decide +kernel
theorem dX10_init_14 : decode cX10_init 14 = .ok (.iload_n 1, 1) := by decide +kernel
theorem dX10_init_15 : decode cX10_init 15 = .ok (.iconst 4, 1) := by decide +kernel
theorem dX10_init_16 : decode cX10_init 16 = .ok (.if_icmp .ge 22, 3) := by decide +kernel
theorem dX10_init_19 : decode cX10_init 19 = .ok (.aload_n 0, 1) := by decide +kernel
theorem dX10_init_20 : decode cX10_init 20 = .ok (.getfield 11, 3) := by decide +kernel
theorem dX10_init_23 : decode cX10_init 23 = .ok (.iload_n 1, 1) := by decide +kernel
theorem dX10_init_24 : decode cX10_init 24 = .ok (.new 9, 3) := by decide +kernel
theorem dX10_init_27 : decode cX10_init 27 = .ok (.dup, 1) := by decide +kernel
theorem dX10_init_28 : decode cX10_init 28 = .ok (.invokespecial 15, 3) := by decide +kernel
theorem dX10_init_31 : decode cX10_init 31 = .ok (.aastore, 1) := by decide +kernel
theorem dX10_init_32 : decode cX10_init 32 = .ok (.iinc 1 1, 3) := by decide +kernel
theorem dX10_init_35 : decode cX10_init 35 = .ok (.goto (-21), 3) := by decide +kernel
theorem dX10_init_38 : decode cX10_init 38 = .ok (.aload_n 0, 1) := by decide +kernel
theorem dX10_init_39 : decode cX10_init 39 = .ok (.iconst 4, 1) := by decide +kernel
theorem dX10_init_40 : decode cX10_init 40 = .ok (.anewarray 16, 3) := by decide +kernel
theorem dX10_init_43 : decode cX10_init 43 = .ok (.putfield 18, 3) := by decide +kernel
theorem dX10_init_46 : decode cX10_init 46 = .ok (.iconst 0, 1) := by decide +kernel
theorem dX10_init_47 : decode cX10_init 47 = .ok (.istore_n 1, 1) := by decide +kernel
theorem dX10_init_48 : decode cX10_init 48 = .ok (.iload_n 1, 1) := by decide +kernel
theorem dX10_init_49 : decode cX10_init 49 = .ok (.iconst 4, 1) := by decide +kernel
theorem dX10_init_50 : decode cX10_init 50 = .ok (.if_icmp .ge 22, 3) := by decide +kernel
theorem dX10_init_53 : decode cX10_init 53 = .ok (.aload_n 0, 1) := by decide +kernel
theorem dX10_init_54 : decode cX10_init 54 = .ok (.getfield 18, 3) := by decide +kernel
theorem dX10_init_57 : decode cX10_init 57 = .ok (.iload_n 1, 1) := by decide +kernel
theorem dX10_init_58 : decode cX10_init 58 = .ok (.new 16, 3) := by decide +kernel
theorem dX10_init_61 : decode cX10_init 61 = .ok (.dup, 1) := by decide +kernel
theorem dX10_init_62 : decode cX10_init 62 = .ok (.invokespecial 22, 3) := by decide +kernel
theorem dX10_init_65 : decode cX10_init 65 = .ok (.aastore, 1) := by decide +kernel
theorem dX10_init_66 : decode cX10_init 66 = .ok (.iinc 1 1, 3) := by decide +kernel
theorem dX10_init_69 : decode cX10_init 69 = .ok (.goto (-21), 3) := by decide +kernel
theorem dX10_init_72 : decode cX10_init 72 = .ok (.aload_n 0, 1) := by decide +kernel
theorem dX10_init_73 : decode cX10_init 73 = .ok (.new 23, 3) := by decide +kernel
theorem dX10_init_76 : decode cX10_init 76 = .ok (.dup, 1) := by decide +kernel
theorem dX10_init_77 : decode cX10_init 77 = .ok (.invokespecial 25, 3) := by decide +kernel
theorem dX10_init_80 : decode cX10_init 80 = .ok (.putfield 26, 3) := by decide +kernel
theorem dX10_init_83 : decode cX10_init 83 = .ok (.aload_n 0, 1) := by decide +kernel
theorem dX10_init_84 : decode cX10_init 84 = .ok (.new 30, 3) := by decide +kernel
theorem dX10_init_87 : decode cX10_init 87 = .ok (.dup, 1) := by decide +kernel
theorem dX10_init_88 : decode cX10_init 88 = .ok (.invokespecial 32, 3) := by decide +kernel
theorem dX10_init_91 : decode cX10_init 91 = .ok (.putfield 33, 3) := by decide +kernel
theorem dX10_init_94 : decode cX10_init 94 = .ok (.aload_n 0, 1) := by decide +kernel
theorem dX10_init_95 : decode cX10_init 95 = .ok (.new 37, 3) := by decide +kernel
theorem dX10_init_98 : decode cX10_init 98 = .ok (.dup, 1) := by decide +kernel
theorem dX10_init_99 : decode cX10_init 99 = .ok (.invokespecial 39, 3) := by decide +kernel
theorem dX10_init_102 : decode cX10_init 102 = .ok (.putfield 40, 3) := by decide +kernel
theorem dX10_init_105 : decode cX10_init 105 = .ok (.aload_n 0, 1) := by decide +kernel
theorem dX10_init_106 : decode cX10_init 106 = .ok (.bipush 8, 2) := by decide +kernel
theorem dX10_init_108 : decode cX10_init 108 = .ok (.putfield 44, 3) := by decide +kernel
theorem dX10_init_111 : decode cX10_init 111 = .ok (.aload_n 0, 1) := by decide +kernel
theorem dX10_init_112 : decode cX10_init 112 = .ok (.iconst 3, 1) := by decide +kernel
theorem dX10_init_113 : decode cX10_init 113 = .ok (.putfield 48, 3) := by decide +kernel
theorem dX10_init_116 : decode cX10_init 116 = .ok (.aload_n 0, 1) := by decide +kernel
theorem dX10_init_117 : decode cX10_init 117 = .ok (.iconst 0, 1) := by decide +kernel
theorem dX10_init_118 : decode cX10_init 118 = .ok (.putfield 51, 3) := by decide +kernel
theorem dX10_init_121 : decode cX10_init 121 = .ok (.return_, 1) := by decide +kernel
theorem dX10_sign_0 : decode cX10_sign 0 = .ok (.iload_n 1, 1) := by decide +kernel
theorem dX10_sign_1 : decode cX10_sign 1 = .ok (.invokestatic 54, 3) := by decide +kernel
theorem dX10_sign_4 : decode cX10_sign 4 = .ok (.ifCond .eq 10, 3) := by decide +kernel
theorem dX10_sign_7 : decode cX10_sign 7 = .ok (.iload_n 2, 1) := by decide +kernel
theorem dX10_sign_8 : decode cX10_sign 8 = .ok (.invokestatic 58, 3) := by decide +kernel
theorem dX10_sign_11 : decode cX10_sign 11 = .ok (.ifCond .ne 6, 3) := by decide +kernel
theorem dX10_sign_14 : decode cX10_sign 14 = .ok (.bipush (-2), 2) := by decide +kernel
theorem dX10_sign_16 : decode cX10_sign 16 = .ok (.ireturn, 1) := by decide +kernel
theorem dX10_sign_17 : decode cX10_sign 17 = .ok (.aload_n 0, 1) := by decide +kernel
theorem dX10_sign_18 : decode cX10_sign 18 = .ok (.getfield 11, 3) := by decide +kernel
theorem dX10_sign_21 : decode cX10_sign 21 = .ok (.iload_n 1, 1) := by decide +kernel
theorem dX10_sign_22 : decode cX10_sign 22 = .ok (.aaload, 1) := by decide +kernel
theorem dX10_sign_23 : decode cX10_sign 23 = .ok (.astore_n 3, 1) := by decide +kernel
theorem dX10_sign_24 : decode cX10_sign 24 = .ok (.aload_n 3, 1) := by decide +kernel
theorem dX10_sign_25 : decode cX10_sign 25 = .ok (.invokevirtual 61, 3) := by decide +kernel
theorem dX10_sign_28 : decode cX10_sign 28 = .ok (.ifCond .eq 6, 3) := by decide +kernel
theorem dX10_sign_31 : decode cX10_sign 31 = .ok (.bipush (-4), 2) := by decide +kernel
theorem dX10_sign_33 : decode cX10_sign 33 = .ok (.ireturn, 1) := by decide +kernel
theorem dX10_sign_34 : decode cX10_sign 34 = .ok (.aload_n 3, 1) := by decide +kernel
theorem dX10_sign_35 : decode cX10_sign 35 = .ok (.iload_n 2, 1) := by decide +kernel
theorem dX10_sign_36 : decode cX10_sign 36 = .ok (.invokevirtual 65, 3) := by decide +kernel
theorem dX10_sign_39 : decode cX10_sign 39 = .ok (.aload_n 3, 1) := by decide +kernel
theorem dX10_sign_40 : decode cX10_sign 40 = .ok (.getfield 69, 3) := by decide +kernel
theorem dX10_sign_43 : decode cX10_sign 43 = .ok (.ireturn, 1) := by decide +kernel
theorem dX10_read_0 : decode cX10_read 0 = .ok (.iload_n 1, 1) := by decide +kernel
theorem dX10_read_1 : decode cX10_read 1 = .ok (.invokestatic 72, 3) := by decide +kernel
theorem dX10_read_4 : decode cX10_read 4 = .ok (.ifCond .eq 10, 3) := by decide +kernel
theorem dX10_read_7 : decode cX10_read 7 = .ok (.iload_n 2, 1) := by decide +kernel
theorem dX10_read_8 : decode cX10_read 8 = .ok (.invokestatic 54, 3) := by decide +kernel
theorem dX10_read_11 : decode cX10_read 11 = .ok (.ifCond .ne 6, 3) := by decide +kernel
theorem dX10_read_14 : decode cX10_read 14 = .ok (.bipush (-2), 2) := by decide +kernel
theorem dX10_read_16 : decode cX10_read 16 = .ok (.ireturn, 1) := by decide +kernel
theorem dX10_read_17 : decode cX10_read 17 = .ok (.aload_n 0, 1) := by decide +kernel
theorem dX10_read_18 : decode cX10_read 18 = .ok (.getfield 18, 3) := by decide +kernel
theorem dX10_read_21 : decode cX10_read 21 = .ok (.iload_n 1, 1) := by decide +kernel
theorem dX10_read_22 : decode cX10_read 22 = .ok (.aaload, 1) := by decide +kernel
theorem dX10_read_23 : decode cX10_read 23 = .ok (.astore_n 3, 1) := by decide +kernel
theorem dX10_read_24 : decode cX10_read 24 = .ok (.aload_n 3, 1) := by decide +kernel
theorem dX10_read_25 : decode cX10_read 25 = .ok (.getfield 75, 3) := by decide +kernel
theorem dX10_read_28 : decode cX10_read 28 = .ok (.ifCond .eq 9, 3) := by decide +kernel
theorem dX10_read_31 : decode cX10_read 31 = .ok (.aload_n 0, 1) := by decide +kernel
theorem dX10_read_32 : decode cX10_read 32 = .ok (.iconst 1, 1) := by decide +kernel
theorem dX10_read_33 : decode cX10_read 33 = .ok (.invokevirtual 79, 3) := by decide +kernel
theorem dX10_read_36 : decode cX10_read 36 = .ok (.ireturn, 1) := by decide +kernel
theorem dX10_read_37 : decode cX10_read 37 = .ok (.aload_n 0, 1) := by decide +kernel
theorem dX10_read_38 : decode cX10_read 38 = .ok (.getfield 11, 3) := by decide +kernel
theorem dX10_read_41 : decode cX10_read 41 = .ok (.iload_n 2, 1) := by decide +kernel
theorem dX10_read_42 : decode cX10_read 42 = .ok (.aaload, 1) := by decide +kernel
theorem dX10_read_43 : decode cX10_read 43 = .ok (.astore 4, 2) := by decide +kernel
theorem dX10_read_45 : decode cX10_read 45 = .ok (.iconst 0, 1) := by decide +kernel
theorem dX10_read_46 : decode cX10_read 46 = .ok (.istore 5, 2) := by decide +kernel
theorem dX10_read_48 : decode cX10_read 48 = .ok (.iload 5, 2) := by decide +kernel
theorem dX10_read_50 : decode cX10_read 50 = .ok (.aload_n 3, 1) := by decide +kernel
theorem dX10_read_51 : decode cX10_read 51 = .ok (.getfield 83, 3) := by decide +kernel
theorem dX10_read_54 : decode cX10_read 54 = .ok (.if_icmp .ge 42, 3) := by decide +kernel
theorem dX10_read_57 : decode cX10_read 57 = .ok (.aload 4, 2) := by decide +kernel
theorem dX10_read_59 : decode cX10_read 59 = .ok (.invokevirtual 61, 3) := by decide +kernel
theorem dX10_read_62 : decode cX10_read 62 = .ok (.ifCond .ne 34, 3) := by decide +kernel
theorem dX10_read_65 : decode cX10_read 65 = .ok (.aload_n 3, 1) := by decide +kernel
theorem dX10_read_66 : decode cX10_read 66 = .ok (.getfield 86, 3) := by decide +kernel
theorem dX10_read_69 : decode cX10_read 69 = .ok (.iload 5, 2) := by decide +kernel
theorem dX10_read_71 : decode cX10_read 71 = .ok (.iaload, 1) := by decide +kernel
theorem dX10_read_72 : decode cX10_read 72 = .ok (.invokestatic 58, 3) := by decide +kernel
theorem dX10_read_75 : decode cX10_read 75 = .ok (.ifCond .eq 21, 3) := by decide +kernel
theorem dX10_read_78 : decode cX10_read 78 = .ok (.aload 4, 2) := by decide +kernel
theorem dX10_read_80 : decode cX10_read 80 = .ok (.aload_n 3, 1) := by decide +kernel
theorem dX10_read_81 : decode cX10_read 81 = .ok (.getfield 86, 3) := by decide +kernel
theorem dX10_read_84 : decode cX10_read 84 = .ok (.iload 5, 2) := by decide +kernel
theorem dX10_read_86 : decode cX10_read 86 = .ok (.iaload, 1) := by decide +kernel
theorem dX10_read_87 : decode cX10_read 87 = .ok (.invokevirtual 65, 3) := by decide +kernel
theorem dX10_read_90 : decode cX10_read 90 = .ok (.iinc 5 1, 3) := by decide +kernel
theorem dX10_read_93 : decode cX10_read 93 = .ok (.goto (-45), 3) := by decide +kernel
theorem dX10_read_96 : decode cX10_read 96 = .ok (.iload 5, 2) := by decide +kernel
theorem dX10_read_98 : decode cX10_read 98 = .ok (.ireturn, 1) := by decide +kernel
theorem dX10_clear_0 : decode cX10_clear 0 = .ok (.iload_n 1, 1) := by decide +kernel
theorem dX10_clear_1 : decode cX10_clear 1 = .ok (.invokestatic 54, 3) := by decide +kernel
theorem dX10_clear_4 : decode cX10_clear 4 = .ok (.ifCond .ne 6, 3) := by decide +kernel
theorem dX10_clear_7 : decode cX10_clear 7 = .ok (.bipush (-2), 2) := by decide +kernel
theorem dX10_clear_9 : decode cX10_clear 9 = .ok (.ireturn, 1) := by decide +kernel
theorem dX10_clear_10 : decode cX10_clear 10 = .ok (.aload_n 0, 1) := by decide +kernel
theorem dX10_clear_11 : decode cX10_clear 11 = .ok (.getfield 11, 3) := by decide +kernel
theorem dX10_clear_14 : decode cX10_clear 14 = .ok (.iload_n 1, 1) := by decide +kernel
theorem dX10_clear_15 : decode cX10_clear 15 = .ok (.aaload, 1) := by decide +kernel
theorem dX10_clear_16 : decode cX10_clear 16 = .ok (.getfield 69, 3) := by decide +kernel
theorem dX10_clear_19 : decode cX10_clear 19 = .ok (.istore_n 2, 1) := by decide +kernel
theorem dX10_clear_20 : decode cX10_clear 20 = .ok (.aload_n 0, 1) := by decide +kernel
theorem dX10_clear_21 : decode cX10_clear 21 = .ok (.getfield 11, 3) := by decide +kernel
theorem dX10_clear_24 : decode cX10_clear 24 = .ok (.iload_n 1, 1) := by decide +kernel
theorem dX10_clear_25 : decode cX10_clear 25 = .ok (.aaload, 1) := by decide +kernel
theorem dX10_clear_26 : decode cX10_clear 26 = .ok (.invokevirtual 90, 3) := by decide +kernel
theorem dX10_clear_29 : decode cX10_clear 29 = .ok (.iload_n 2, 1) := by decide +kernel
theorem dX10_clear_30 : decode cX10_clear 30 = .ok (.ireturn, 1) := by decide +kernel
theorem dX10_at_0 : decode cX10_at 0 = .ok (.iload_n 1, 1) := by decide +kernel
theorem dX10_at_1 : decode cX10_at 1 = .ok (.invokestatic 54, 3) := by decide +kernel
theorem dX10_at_4 : decode cX10_at 4 = .ok (.ifCond .eq 7, 3) := by decide +kernel
theorem dX10_at_7 : decode cX10_at 7 = .ok (.iload_n 2, 1) := by decide +kernel
theorem dX10_at_8 : decode cX10_at 8 = .ok (.ifCond .ge 6, 3) := by decide +kernel
theorem dX10_at_11 : decode cX10_at 11 = .ok (.bipush (-2), 2) := by decide +kernel
theorem dX10_at_13 : decode cX10_at 13 = .ok (.ireturn, 1) := by decide +kernel
theorem dX10_at_14 : decode cX10_at 14 = .ok (.iload_n 2, 1) := by decide +kernel
theorem dX10_at_15 : decode cX10_at 15 = .ok (.aload_n 0, 1) := by decide +kernel
theorem dX10_at_16 : decode cX10_at 16 = .ok (.getfield 11, 3) := by decide +kernel
theorem dX10_at_19 : decode cX10_at 19 = .ok (.iload_n 1, 1) := by decide +kernel
theorem dX10_at_20 : decode cX10_at 20 = .ok (.aaload, 1) := by decide +kernel
theorem dX10_at_21 : decode cX10_at 21 = .ok (.getfield 69, 3) := by decide +kernel
theorem dX10_at_24 : decode cX10_at 24 = .ok (.if_icmp .ge 16, 3) := by decide +kernel
theorem dX10_at_27 : decode cX10_at 27 = .ok (.aload_n 0, 1) := by decide +kernel
theorem dX10_at_28 : decode cX10_at 28 = .ok (.getfield 11, 3) := by decide +kernel
theorem dX10_at_31 : decode cX10_at 31 = .ok (.iload_n 1, 1) := by decide +kernel
theorem dX10_at_32 : decode cX10_at 32 = .ok (.aaload, 1) := by decide +kernel
theorem dX10_at_33 : decode cX10_at 33 = .ok (.iload_n 2, 1) := by decide +kernel
theorem dX10_at_34 : decode cX10_at 34 = .ok (.invokevirtual 93, 3) := by decide +kernel
theorem dX10_at_37 : decode cX10_at 37 = .ok (.goto 5, 3) := by decide +kernel
theorem dX10_at_40 : decode cX10_at 40 = .ok (.bipush (-3), 2) := by decide +kernel
theorem dX10_at_42 : decode cX10_at 42 = .ok (.ireturn, 1) := by decide +kernel
theorem dX10_set_0 : decode cX10_set 0 = .ok (.iload_n 1, 1) := by decide +kernel
theorem dX10_set_1 : decode cX10_set 1 = .ok (.ifCond .ne 26, 3) := by decide +kernel
theorem dX10_set_4 : decode cX10_set 4 = .ok (.iload_n 2, 1) := by decide +kernel
theorem dX10_set_5 : decode cX10_set 5 = .ok (.iconst 1, 1) := by decide +kernel
theorem dX10_set_6 : decode cX10_set 6 = .ok (.if_icmp .lt 21, 3) := by decide +kernel
theorem dX10_set_9 : decode cX10_set 9 = .ok (.iload_n 2, 1) := by decide +kernel
theorem dX10_set_10 : decode cX10_set 10 = .ok (.bipush 16, 2) := by decide +kernel
theorem dX10_set_12 : decode cX10_set 12 = .ok (.if_icmp .ge 15, 3) := by decide +kernel
theorem dX10_set_15 : decode cX10_set 15 = .ok (.aload_n 0, 1) := by decide +kernel
theorem dX10_set_16 : decode cX10_set 16 = .ok (.getfield 44, 3) := by decide +kernel
theorem dX10_set_19 : decode cX10_set 19 = .ok (.istore_n 3, 1) := by decide +kernel
theorem dX10_set_20 : decode cX10_set 20 = .ok (.aload_n 0, 1) := by decide +kernel
theorem dX10_set_21 : decode cX10_set 21 = .ok (.iload_n 2, 1) := by decide +kernel
theorem dX10_set_22 : decode cX10_set 22 = .ok (.putfield 44, 3) := by decide +kernel
theorem dX10_set_25 : decode cX10_set 25 = .ok (.iload_n 3, 1) := by decide +kernel
theorem dX10_set_26 : decode cX10_set 26 = .ok (.ireturn, 1) := by decide +kernel
theorem dX10_set_27 : decode cX10_set 27 = .ok (.iload_n 1, 1) := by decide +kernel
theorem dX10_set_28 : decode cX10_set 28 = .ok (.iconst 1, 1) := by decide +kernel
theorem dX10_set_29 : decode cX10_set 29 = .ok (.if_icmp .ne 33, 3) := by decide +kernel
theorem dX10_set_32 : decode cX10_set 32 = .ok (.iload_n 2, 1) := by decide +kernel
theorem dX10_set_33 : decode cX10_set 33 = .ok (.iconst 2, 1) := by decide +kernel
theorem dX10_set_34 : decode cX10_set 34 = .ok (.if_icmp .lt 28, 3) := by decide +kernel
theorem dX10_set_37 : decode cX10_set 37 = .ok (.iload_n 2, 1) := by decide +kernel
theorem dX10_set_38 : decode cX10_set 38 = .ok (.bipush 127, 2) := by decide +kernel
theorem dX10_set_40 : decode cX10_set 40 = .ok (.if_icmp .gt 22, 3) := by decide +kernel
theorem dX10_set_43 : decode cX10_set 43 = .ok (.aload_n 0, 1) := by decide +kernel
theorem dX10_set_44 : decode cX10_set 44 = .ok (.getfield 48, 3) := by decide +kernel
theorem dX10_set_47 : decode cX10_set 47 = .ok (.istore_n 3, 1) := by decide +kernel
theorem dX10_set_48 : decode cX10_set 48 = .ok (.aload_n 0, 1) := by decide +kernel
theorem dX10_set_49 : decode cX10_set 49 = .ok (.iload_n 2, 1) := by decide +kernel
theorem dX10_set_50 : decode cX10_set 50 = .ok (.putfield 48, 3) := by decide +kernel
theorem dX10_set_53 : decode cX10_set 53 = .ok (.aload_n 0, 1) := by decide +kernel
theorem dX10_set_54 : decode cX10_set 54 = .ok (.getfield 33, 3) := by decide +kernel
theorem dX10_set_57 : decode cX10_set 57 = .ok (.invokevirtual 96, 3) := by decide +kernel
theorem dX10_set_60 : decode cX10_set 60 = .ok (.iload_n 3, 1) := by decide +kernel
theorem dX10_set_61 : decode cX10_set 61 = .ok (.ireturn, 1) := by decide +kernel
theorem dX10_set_62 : decode cX10_set 62 = .ok (.bipush (-2), 2) := by decide +kernel
theorem dX10_set_64 : decode cX10_set 64 = .ok (.ireturn, 1) := by decide +kernel
theorem dX10_shows_0 : decode cX10_shows 0 = .ok (.iload_n 1, 1) := by decide +kernel
theorem dX10_shows_1 : decode cX10_shows 1 = .ok (.invokestatic 54, 3) := by decide +kernel
theorem dX10_shows_4 : decode cX10_shows 4 = .ok (.ifCond .eq 10, 3) := by decide +kernel
theorem dX10_shows_7 : decode cX10_shows 7 = .ok (.iload_n 2, 1) := by decide +kernel
theorem dX10_shows_8 : decode cX10_shows 8 = .ok (.invokestatic 99, 3) := by decide +kernel
theorem dX10_shows_11 : decode cX10_shows 11 = .ok (.ifCond .ne 6, 3) := by decide +kernel
theorem dX10_shows_14 : decode cX10_shows 14 = .ok (.bipush (-2), 2) := by decide +kernel
theorem dX10_shows_16 : decode cX10_shows 16 = .ok (.ireturn, 1) := by decide +kernel
theorem dX10_shows_17 : decode cX10_shows 17 = .ok (.aload_n 0, 1) := by decide +kernel
theorem dX10_shows_18 : decode cX10_shows 18 = .ok (.getfield 11, 3) := by decide +kernel
theorem dX10_shows_21 : decode cX10_shows 21 = .ok (.iload_n 1, 1) := by decide +kernel
theorem dX10_shows_22 : decode cX10_shows 22 = .ok (.aaload, 1) := by decide +kernel
theorem dX10_shows_23 : decode cX10_shows 23 = .ok (.invokevirtual 102, 3) := by decide +kernel
theorem dX10_shows_26 : decode cX10_shows 26 = .ok (.ifCond .eq 17, 3) := by decide +kernel
theorem dX10_shows_29 : decode cX10_shows 29 = .ok (.aload_n 0, 1) := by decide +kernel
theorem dX10_shows_30 : decode cX10_shows 30 = .ok (.aload_n 0, 1) := by decide +kernel
theorem dX10_shows_31 : decode cX10_shows 31 = .ok (.getfield 11, 3) := by decide +kernel
theorem dX10_shows_34 : decode cX10_shows 34 = .ok (.iload_n 1, 1) := by decide +kernel
theorem dX10_shows_35 : decode cX10_shows 35 = .ok (.aaload, 1) := by decide +kernel
theorem dX10_shows_36 : decode cX10_shows 36 = .ok (.iload_n 2, 1) := by decide +kernel
theorem dX10_shows_37 : decode cX10_shows 37 = .ok (.invokevirtual 105, 3) := by decide +kernel
theorem dX10_shows_40 : decode cX10_shows 40 = .ok (.goto 5, 3) := by decide +kernel
theorem dX10_shows_43 : decode cX10_shows 43 = .ok (.bipush (-3), 2) := by decide +kernel
theorem dX10_shows_45 : decode cX10_shows 45 = .ok (.ireturn, 1) := by decide +kernel
theorem dX10_type_0 : decode cX10_type 0 = .ok (.iload_n 1, 1) := by decide +kernel
theorem dX10_type_1 : decode cX10_type 1 = .ok (.ifCond .lt 10, 3) := by decide +kernel
theorem dX10_type_4 : decode cX10_type 4 = .ok (.iload_n 1, 1) := by decide +kernel
theorem dX10_type_5 : decode cX10_type 5 = .ok (.sipush 255, 3) := by decide +kernel
theorem dX10_type_8 : decode cX10_type 8 = .ok (.if_icmp .le 6, 3) := by decide +kernel
theorem dX10_type_11 : decode cX10_type 11 = .ok (.bipush (-2), 2) := by decide +kernel
theorem dX10_type_13 : decode cX10_type 13 = .ok (.ireturn, 1) := by decide +kernel
theorem dX10_type_14 : decode cX10_type 14 = .ok (.aload_n 0, 1) := by decide +kernel
theorem dX10_type_15 : decode cX10_type 15 = .ok (.getfield 26, 3) := by decide +kernel
theorem dX10_type_18 : decode cX10_type 18 = .ok (.getfield 109, 3) := by decide +kernel
theorem dX10_type_21 : decode cX10_type 21 = .ok (.bipush 60, 2) := by decide +kernel
theorem dX10_type_23 : decode cX10_type 23 = .ok (.if_icmp .lt 6, 3) := by decide +kernel
theorem dX10_type_26 : decode cX10_type 26 = .ok (.bipush (-4), 2) := by decide +kernel
theorem dX10_type_28 : decode cX10_type 28 = .ok (.ireturn, 1) := by decide +kernel
theorem dX10_type_29 : decode cX10_type 29 = .ok (.aload_n 0, 1) := by decide +kernel
theorem dX10_type_30 : decode cX10_type 30 = .ok (.getfield 26, 3) := by decide +kernel
theorem dX10_type_33 : decode cX10_type 33 = .ok (.iload_n 1, 1) := by decide +kernel
theorem dX10_type_34 : decode cX10_type 34 = .ok (.invokevirtual 110, 3) := by decide +kernel
theorem dX10_type_37 : decode cX10_type 37 = .ok (.aload_n 0, 1) := by decide +kernel
theorem dX10_type_38 : decode cX10_type 38 = .ok (.getfield 33, 3) := by decide +kernel
theorem dX10_type_41 : decode cX10_type 41 = .ok (.invokevirtual 96, 3) := by decide +kernel
theorem dX10_type_44 : decode cX10_type 44 = .ok (.aload_n 0, 1) := by decide +kernel
theorem dX10_type_45 : decode cX10_type 45 = .ok (.getfield 26, 3) := by decide +kernel
theorem dX10_type_48 : decode cX10_type 48 = .ok (.getfield 109, 3) := by decide +kernel
theorem dX10_type_51 : decode cX10_type 51 = .ok (.ireturn, 1) := by decide +kernel
theorem dX10_wipe_0 : decode cX10_wipe 0 = .ok (.aload_n 0, 1) := by decide +kernel
theorem dX10_wipe_1 : decode cX10_wipe 1 = .ok (.getfield 26, 3) := by decide +kernel
theorem dX10_wipe_4 : decode cX10_wipe 4 = .ok (.getfield 109, 3) := by decide +kernel
theorem dX10_wipe_7 : decode cX10_wipe 7 = .ok (.istore_n 1, 1) := by decide +kernel
theorem dX10_wipe_8 : decode cX10_wipe 8 = .ok (.aload_n 0, 1) := by decide +kernel
theorem dX10_wipe_9 : decode cX10_wipe 9 = .ok (.getfield 26, 3) := by decide +kernel
theorem dX10_wipe_12 : decode cX10_wipe 12 = .ok (.invokevirtual 111, 3) := by decide +kernel
theorem dX10_wipe_15 : decode cX10_wipe 15 = .ok (.aload_n 0, 1) := by decide +kernel
theorem dX10_wipe_16 : decode cX10_wipe 16 = .ok (.getfield 33, 3) := by decide +kernel
theorem dX10_wipe_19 : decode cX10_wipe 19 = .ok (.invokevirtual 96, 3) := by decide +kernel
theorem dX10_wipe_22 : decode cX10_wipe 22 = .ok (.iload_n 1, 1) := by decide +kernel
theorem dX10_wipe_23 : decode cX10_wipe 23 = .ok (.ireturn, 1) := by decide +kernel
theorem dX10_fault_0 : decode cX10_fault 0 = .ok (.aload_n 0, 1) := by decide +kernel
theorem dX10_fault_1 : decode cX10_fault 1 = .ok (.getfield 26, 3) := by decide +kernel
theorem dX10_fault_4 : decode cX10_fault 4 = .ok (.invokevirtual 112, 3) := by decide +kernel
theorem dX10_fault_7 : decode cX10_fault 7 = .ok (.ireturn, 1) := by decide +kernel
theorem dX10_holds_0 : decode cX10_holds 0 = .ok (.iload_n 1, 1) := by decide +kernel
theorem dX10_holds_1 : decode cX10_holds 1 = .ok (.invokestatic 54, 3) := by decide +kernel
theorem dX10_holds_4 : decode cX10_holds 4 = .ok (.ifCond .ne 6, 3) := by decide +kernel
theorem dX10_holds_7 : decode cX10_holds 7 = .ok (.bipush (-2), 2) := by decide +kernel
theorem dX10_holds_9 : decode cX10_holds 9 = .ok (.ireturn, 1) := by decide +kernel
theorem dX10_holds_10 : decode cX10_holds 10 = .ok (.aload_n 0, 1) := by decide +kernel
theorem dX10_holds_11 : decode cX10_holds 11 = .ok (.getfield 11, 3) := by decide +kernel
theorem dX10_holds_14 : decode cX10_holds 14 = .ok (.iload_n 1, 1) := by decide +kernel
theorem dX10_holds_15 : decode cX10_holds 15 = .ok (.aaload, 1) := by decide +kernel
theorem dX10_holds_16 : decode cX10_holds 16 = .ok (.astore_n 2, 1) := by decide +kernel
theorem dX10_holds_17 : decode cX10_holds 17 = .ok (.aload_n 2, 1) := by decide +kernel
theorem dX10_holds_18 : decode cX10_holds 18 = .ok (.invokevirtual 102, 3) := by decide +kernel
theorem dX10_holds_21 : decode cX10_holds 21 = .ok (.ifCond .eq 13, 3) := by decide +kernel
theorem dX10_holds_24 : decode cX10_holds 24 = .ok (.aload_n 0, 1) := by decide +kernel
theorem dX10_holds_25 : decode cX10_holds 25 = .ok (.getfield 26, 3) := by decide +kernel
theorem dX10_holds_28 : decode cX10_holds 28 = .ok (.invokevirtual 116, 3) := by decide +kernel
theorem dX10_holds_31 : decode cX10_holds 31 = .ok (.ifCond .eq 6, 3) := by decide +kernel
theorem dX10_holds_34 : decode cX10_holds 34 = .ok (.bipush (-3), 2) := by decide +kernel
theorem dX10_holds_36 : decode cX10_holds 36 = .ok (.ireturn, 1) := by decide +kernel
theorem dX10_holds_37 : decode cX10_holds 37 = .ok (.aload_n 0, 1) := by decide +kernel
theorem dX10_holds_38 : decode cX10_holds 38 = .ok (.getfield 26, 3) := by decide +kernel
theorem dX10_holds_41 : decode cX10_holds 41 = .ok (.aload_n 2, 1) := by decide +kernel
theorem dX10_holds_42 : decode cX10_holds 42 = .ok (.getfield 69, 3) := by decide +kernel
theorem dX10_holds_45 : decode cX10_holds 45 = .ok (.aload_n 2, 1) := by decide +kernel
theorem dX10_holds_46 : decode cX10_holds 46 = .ok (.getfield 119, 3) := by decide +kernel
theorem dX10_holds_49 : decode cX10_holds 49 = .ok (.aload_n 0, 1) := by decide +kernel
theorem dX10_holds_50 : decode cX10_holds 50 = .ok (.getfield 48, 3) := by decide +kernel
theorem dX10_holds_53 : decode cX10_holds 53 = .ok (.invokevirtual 122, 3) := by decide +kernel
theorem dX10_holds_56 : decode cX10_holds 56 = .ok (.ifCond .eq 7, 3) := by decide +kernel
theorem dX10_holds_59 : decode cX10_holds 59 = .ok (.iconst 1, 1) := by decide +kernel
theorem dX10_holds_60 : decode cX10_holds 60 = .ok (.goto 4, 3) := by decide +kernel
theorem dX10_holds_63 : decode cX10_holds 63 = .ok (.iconst 0, 1) := by decide +kernel
theorem dX10_holds_64 : decode cX10_holds 64 = .ok (.ireturn, 1) := by decide +kernel
theorem dX10_shown_0 : decode cX10_shown 0 = .ok (.iload_n 1, 1) := by decide +kernel
theorem dX10_shown_1 : decode cX10_shown 1 = .ok (.invokestatic 126, 3) := by decide +kernel
theorem dX10_shown_4 : decode cX10_shown 4 = .ok (.ifCond .eq 14, 3) := by decide +kernel
theorem dX10_shown_7 : decode cX10_shown 7 = .ok (.iload_n 2, 1) := by decide +kernel
theorem dX10_shown_8 : decode cX10_shown 8 = .ok (.iconst (-1), 1) := by decide +kernel
theorem dX10_shown_9 : decode cX10_shown 9 = .ok (.if_icmp .lt 9, 3) := by decide +kernel
theorem dX10_shown_12 : decode cX10_shown 12 = .ok (.iload_n 2, 1) := by decide +kernel
theorem dX10_shown_13 : decode cX10_shown 13 = .ok (.bipush 15, 2) := by decide +kernel
theorem dX10_shown_15 : decode cX10_shown 15 = .ok (.if_icmp .le 6, 3) := by decide +kernel
theorem dX10_shown_18 : decode cX10_shown 18 = .ok (.bipush (-2), 2) := by decide +kernel
theorem dX10_shown_20 : decode cX10_shown 20 = .ok (.ireturn, 1) := by decide +kernel
theorem dX10_shown_21 : decode cX10_shown 21 = .ok (.aload_n 0, 1) := by decide +kernel
theorem dX10_shown_22 : decode cX10_shown 22 = .ok (.getfield 26, 3) := by decide +kernel
theorem dX10_shown_25 : decode cX10_shown 25 = .ok (.invokevirtual 116, 3) := by decide +kernel
theorem dX10_shown_28 : decode cX10_shown 28 = .ok (.ifCond .eq 6, 3) := by decide +kernel
theorem dX10_shown_31 : decode cX10_shown 31 = .ok (.bipush (-3), 2) := by decide +kernel
theorem dX10_shown_33 : decode cX10_shown 33 = .ok (.ireturn, 1) := by decide +kernel
theorem dX10_shown_34 : decode cX10_shown 34 = .ok (.aload_n 0, 1) := by decide +kernel
theorem dX10_shown_35 : decode cX10_shown 35 = .ok (.getfield 33, 3) := by decide +kernel
theorem dX10_shown_38 : decode cX10_shown 38 = .ok (.iload_n 1, 1) := by decide +kernel
theorem dX10_shown_39 : decode cX10_shown 39 = .ok (.aload_n 0, 1) := by decide +kernel
theorem dX10_shown_40 : decode cX10_shown 40 = .ok (.getfield 26, 3) := by decide +kernel
theorem dX10_shown_43 : decode cX10_shown 43 = .ok (.aload_n 0, 1) := by decide +kernel
theorem dX10_shown_44 : decode cX10_shown 44 = .ok (.getfield 48, 3) := by decide +kernel
theorem dX10_shown_47 : decode cX10_shown 47 = .ok (.invokevirtual 129, 3) := by decide +kernel
theorem dX10_shown_50 : decode cX10_shown 50 = .ok (.iload_n 2, 1) := by decide +kernel
theorem dX10_shown_51 : decode cX10_shown 51 = .ok (.iconst (-1), 1) := by decide +kernel
theorem dX10_shown_52 : decode cX10_shown 52 = .ok (.if_icmp .ne 18, 3) := by decide +kernel
theorem dX10_shown_55 : decode cX10_shown 55 = .ok (.aload_n 0, 1) := by decide +kernel
theorem dX10_shown_56 : decode cX10_shown 56 = .ok (.getfield 33, 3) := by decide +kernel
theorem dX10_shown_59 : decode cX10_shown 59 = .ok (.getfield 133, 3) := by decide +kernel
theorem dX10_shown_62 : decode cX10_shown 62 = .ok (.iload_n 1, 1) := by decide +kernel
theorem dX10_shown_63 : decode cX10_shown 63 = .ok (.aaload, 1) := by decide +kernel
theorem dX10_shown_64 : decode cX10_shown 64 = .ok (.invokestatic 137, 3) := by decide +kernel
theorem dX10_shown_67 : decode cX10_shown 67 = .ok (.goto 14, 3) := by decide +kernel
theorem dX10_shown_70 : decode cX10_shown 70 = .ok (.aload_n 0, 1) := by decide +kernel
theorem dX10_shown_71 : decode cX10_shown 71 = .ok (.getfield 33, 3) := by decide +kernel
theorem dX10_shown_74 : decode cX10_shown 74 = .ok (.getfield 133, 3) := by decide +kernel
theorem dX10_shown_77 : decode cX10_shown 77 = .ok (.iload_n 1, 1) := by decide +kernel
theorem dX10_shown_78 : decode cX10_shown 78 = .ok (.aaload, 1) := by decide +kernel
theorem dX10_shown_79 : decode cX10_shown 79 = .ok (.iload_n 2, 1) := by decide +kernel
theorem dX10_shown_80 : decode cX10_shown 80 = .ok (.iaload, 1) := by decide +kernel
theorem dX10_shown_81 : decode cX10_shown 81 = .ok (.ireturn, 1) := by decide +kernel
theorem dX10_nth_0 : decode cX10_nth 0 = .ok (.iload_n 1, 1) := by decide +kernel
theorem dX10_nth_1 : decode cX10_nth 1 = .ok (.invokestatic 126, 3) := by decide +kernel
theorem dX10_nth_4 : decode cX10_nth 4 = .ok (.ifCond .eq 7, 3) := by decide +kernel
theorem dX10_nth_7 : decode cX10_nth 7 = .ok (.iload_n 2, 1) := by decide +kernel
theorem dX10_nth_8 : decode cX10_nth 8 = .ok (.ifCond .ge 6, 3) := by decide +kernel
theorem dX10_nth_11 : decode cX10_nth 11 = .ok (.bipush (-2), 2) := by decide +kernel
theorem dX10_nth_13 : decode cX10_nth 13 = .ok (.ireturn, 1) := by decide +kernel
theorem dX10_nth_14 : decode cX10_nth 14 = .ok (.aload_n 0, 1) := by decide +kernel
theorem dX10_nth_15 : decode cX10_nth 15 = .ok (.getfield 26, 3) := by decide +kernel
theorem dX10_nth_18 : decode cX10_nth 18 = .ok (.invokevirtual 116, 3) := by decide +kernel
theorem dX10_nth_21 : decode cX10_nth 21 = .ok (.ifCond .eq 6, 3) := by decide +kernel
theorem dX10_nth_24 : decode cX10_nth 24 = .ok (.bipush (-3), 2) := by decide +kernel
theorem dX10_nth_26 : decode cX10_nth 26 = .ok (.ireturn, 1) := by decide +kernel
theorem dX10_nth_27 : decode cX10_nth 27 = .ok (.iconst 0, 1) := by decide +kernel
theorem dX10_nth_28 : decode cX10_nth 28 = .ok (.istore_n 3, 1) := by decide +kernel
theorem dX10_nth_29 : decode cX10_nth 29 = .ok (.iconst 0, 1) := by decide +kernel
theorem dX10_nth_30 : decode cX10_nth 30 = .ok (.istore 4, 2) := by decide +kernel
theorem dX10_nth_32 : decode cX10_nth 32 = .ok (.iload 4, 2) := by decide +kernel
theorem dX10_nth_34 : decode cX10_nth 34 = .ok (.iconst 1, 1) := by decide +kernel
theorem dX10_nth_35 : decode cX10_nth 35 = .ok (.iload_n 1, 1) := by decide +kernel
theorem dX10_nth_36 : decode cX10_nth 36 = .ok (.ishl, 1) := by decide +kernel
theorem dX10_nth_37 : decode cX10_nth 37 = .ok (.if_icmp .ge 41, 3) := by decide +kernel
theorem dX10_nth_40 : decode cX10_nth 40 = .ok (.aload_n 0, 1) := by decide +kernel
theorem dX10_nth_41 : decode cX10_nth 41 = .ok (.getfield 26, 3) := by decide +kernel
theorem dX10_nth_44 : decode cX10_nth 44 = .ok (.iload_n 1, 1) := by decide +kernel
theorem dX10_nth_45 : decode cX10_nth 45 = .ok (.iload 4, 2) := by decide +kernel
theorem dX10_nth_47 : decode cX10_nth 47 = .ok (.aload_n 0, 1) := by decide +kernel
theorem dX10_nth_48 : decode cX10_nth 48 = .ok (.getfield 48, 3) := by decide +kernel
theorem dX10_nth_51 : decode cX10_nth 51 = .ok (.invokevirtual 122, 3) := by decide +kernel
theorem dX10_nth_54 : decode cX10_nth 54 = .ok (.ifCond .eq 18, 3) := by decide +kernel
theorem dX10_nth_57 : decode cX10_nth 57 = .ok (.iload_n 3, 1) := by decide +kernel
theorem dX10_nth_58 : decode cX10_nth 58 = .ok (.iload_n 2, 1) := by decide +kernel
theorem dX10_nth_59 : decode cX10_nth 59 = .ok (.if_icmp .ne 10, 3) := by decide +kernel
theorem dX10_nth_62 : decode cX10_nth 62 = .ok (.iconst 1, 1) := by decide +kernel
theorem dX10_nth_63 : decode cX10_nth 63 = .ok (.iload_n 1, 1) := by decide +kernel
theorem dX10_nth_64 : decode cX10_nth 64 = .ok (.ishl, 1) := by decide +kernel
theorem dX10_nth_65 : decode cX10_nth 65 = .ok (.iload 4, 2) := by decide +kernel
theorem dX10_nth_67 : decode cX10_nth 67 = .ok (.ior, 1) := by decide +kernel
theorem dX10_nth_68 : decode cX10_nth 68 = .ok (.ireturn, 1) := by decide +kernel
theorem dX10_nth_69 : decode cX10_nth 69 = .ok (.iinc 3 1, 3) := by decide +kernel
theorem dX10_nth_72 : decode cX10_nth 72 = .ok (.iinc 4 1, 3) := by decide +kernel
theorem dX10_nth_75 : decode cX10_nth 75 = .ok (.goto (-43), 3) := by decide +kernel
theorem dX10_nth_78 : decode cX10_nth 78 = .ok (.iconst (-1), 1) := by decide +kernel
theorem dX10_nth_79 : decode cX10_nth 79 = .ok (.ireturn, 1) := by decide +kernel
theorem dX10_share_0 : decode cX10_share 0 = .ok (.iload_n 1, 1) := by decide +kernel
theorem dX10_share_1 : decode cX10_share 1 = .ok (.invokestatic 126, 3) := by decide +kernel
theorem dX10_share_4 : decode cX10_share 4 = .ok (.ifCond .eq 10, 3) := by decide +kernel
theorem dX10_share_7 : decode cX10_share 7 = .ok (.iload_n 2, 1) := by decide +kernel
theorem dX10_share_8 : decode cX10_share 8 = .ok (.invokestatic 143, 3) := by decide +kernel
theorem dX10_share_11 : decode cX10_share 11 = .ok (.ifCond .ne 9, 3) := by decide +kernel
theorem dX10_share_14 : decode cX10_share 14 = .ok (.bipush (-2), 2) := by decide +kernel
theorem dX10_share_16 : decode cX10_share 16 = .ok (.invokestatic 146, 3) := by decide +kernel
theorem dX10_share_19 : decode cX10_share 19 = .ok (.lreturn, 1) := by decide +kernel
theorem dX10_share_20 : decode cX10_share 20 = .ok (.aload_n 0, 1) := by decide +kernel
theorem dX10_share_21 : decode cX10_share 21 = .ok (.getfield 26, 3) := by decide +kernel
theorem dX10_share_24 : decode cX10_share 24 = .ok (.invokevirtual 116, 3) := by decide +kernel
theorem dX10_share_27 : decode cX10_share 27 = .ok (.ifCond .eq 9, 3) := by decide +kernel
theorem dX10_share_30 : decode cX10_share 30 = .ok (.bipush (-3), 2) := by decide +kernel
theorem dX10_share_32 : decode cX10_share 32 = .ok (.invokestatic 146, 3) := by decide +kernel
theorem dX10_share_35 : decode cX10_share 35 = .ok (.lreturn, 1) := by decide +kernel
theorem dX10_share_36 : decode cX10_share 36 = .ok (.aload_n 0, 1) := by decide +kernel
theorem dX10_share_37 : decode cX10_share 37 = .ok (.getfield 33, 3) := by decide +kernel
theorem dX10_share_40 : decode cX10_share 40 = .ok (.iload_n 1, 1) := by decide +kernel
theorem dX10_share_41 : decode cX10_share 41 = .ok (.aload_n 0, 1) := by decide +kernel
theorem dX10_share_42 : decode cX10_share 42 = .ok (.getfield 26, 3) := by decide +kernel
theorem dX10_share_45 : decode cX10_share 45 = .ok (.aload_n 0, 1) := by decide +kernel
theorem dX10_share_46 : decode cX10_share 46 = .ok (.getfield 48, 3) := by decide +kernel
theorem dX10_share_49 : decode cX10_share 49 = .ok (.invokevirtual 129, 3) := by decide +kernel
theorem dX10_share_52 : decode cX10_share 52 = .ok (.aload_n 0, 1) := by decide +kernel
theorem dX10_share_53 : decode cX10_share 53 = .ok (.getfield 33, 3) := by decide +kernel
theorem dX10_share_56 : decode cX10_share 56 = .ok (.getfield 133, 3) := by decide +kernel
theorem dX10_share_59 : decode cX10_share 59 = .ok (.iload_n 1, 1) := by decide +kernel
theorem dX10_share_60 : decode cX10_share 60 = .ok (.aaload, 1) := by decide +kernel
theorem dX10_share_61 : decode cX10_share 61 = .ok (.iload_n 1, 1) := by decide +kernel
theorem dX10_share_62 : decode cX10_share 62 = .ok (.aload_n 0, 1) := by decide +kernel
theorem dX10_share_63 : decode cX10_share 63 = .ok (.getfield 44, 3) := by decide +kernel
theorem dX10_share_66 : decode cX10_share 66 = .ok (.iload_n 2, 1) := by decide +kernel
theorem dX10_share_67 : decode cX10_share 67 = .ok (.invokestatic 150, 3) := by decide +kernel
theorem dX10_share_70 : decode cX10_share 70 = .ok (.lreturn, 1) := by decide +kernel
theorem dX10_fills_0 : decode cX10_fills 0 = .ok (.iload_n 1, 1) := by decide +kernel
theorem dX10_fills_1 : decode cX10_fills 1 = .ok (.invokestatic 54, 3) := by decide +kernel
theorem dX10_fills_4 : decode cX10_fills 4 = .ok (.ifCond .eq 10, 3) := by decide +kernel
theorem dX10_fills_7 : decode cX10_fills 7 = .ok (.iload_n 2, 1) := by decide +kernel
theorem dX10_fills_8 : decode cX10_fills 8 = .ok (.invokestatic 143, 3) := by decide +kernel
theorem dX10_fills_11 : decode cX10_fills 11 = .ok (.ifCond .ne 6, 3) := by decide +kernel
theorem dX10_fills_14 : decode cX10_fills 14 = .ok (.bipush (-2), 2) := by decide +kernel
theorem dX10_fills_16 : decode cX10_fills 16 = .ok (.ireturn, 1) := by decide +kernel
theorem dX10_fills_17 : decode cX10_fills 17 = .ok (.iload_n 2, 1) := by decide +kernel
theorem dX10_fills_18 : decode cX10_fills 18 = .ok (.ifCond .ne 18, 3) := by decide +kernel
theorem dX10_fills_21 : decode cX10_fills 21 = .ok (.iconst 1, 1) := by decide +kernel
theorem dX10_fills_22 : decode cX10_fills 22 = .ok (.aload_n 0, 1) := by decide +kernel
theorem dX10_fills_23 : decode cX10_fills 23 = .ok (.getfield 11, 3) := by decide +kernel
theorem dX10_fills_26 : decode cX10_fills 26 = .ok (.iload_n 1, 1) := by decide +kernel
theorem dX10_fills_27 : decode cX10_fills 27 = .ok (.aaload, 1) := by decide +kernel
theorem dX10_fills_28 : decode cX10_fills 28 = .ok (.getfield 154, 3) := by decide +kernel
theorem dX10_fills_31 : decode cX10_fills 31 = .ok (.invokestatic 157, 3) := by decide +kernel
theorem dX10_fills_34 : decode cX10_fills 34 = .ok (.ishl, 1) := by decide +kernel
theorem dX10_fills_35 : decode cX10_fills 35 = .ok (.ireturn, 1) := by decide +kernel
theorem dX10_fills_36 : decode cX10_fills 36 = .ok (.aload_n 0, 1) := by decide +kernel
theorem dX10_fills_37 : decode cX10_fills 37 = .ok (.getfield 26, 3) := by decide +kernel
theorem dX10_fills_40 : decode cX10_fills 40 = .ok (.invokevirtual 116, 3) := by decide +kernel
theorem dX10_fills_43 : decode cX10_fills 43 = .ok (.ifCond .eq 6, 3) := by decide +kernel
theorem dX10_fills_46 : decode cX10_fills 46 = .ok (.bipush (-3), 2) := by decide +kernel
theorem dX10_fills_48 : decode cX10_fills 48 = .ok (.ireturn, 1) := by decide +kernel
theorem dX10_fills_49 : decode cX10_fills 49 = .ok (.aload_n 0, 1) := by decide +kernel
theorem dX10_fills_50 : decode cX10_fills 50 = .ok (.getfield 40, 3) := by decide +kernel
theorem dX10_fills_53 : decode cX10_fills 53 = .ok (.aload_n 0, 1) := by decide +kernel
theorem dX10_fills_54 : decode cX10_fills 54 = .ok (.getfield 11, 3) := by decide +kernel
theorem dX10_fills_57 : decode cX10_fills 57 = .ok (.iload_n 1, 1) := by decide +kernel
theorem dX10_fills_58 : decode cX10_fills 58 = .ok (.aaload, 1) := by decide +kernel
theorem dX10_fills_59 : decode cX10_fills 59 = .ok (.aload_n 0, 1) := by decide +kernel
theorem dX10_fills_60 : decode cX10_fills 60 = .ok (.getfield 26, 3) := by decide +kernel
theorem dX10_fills_63 : decode cX10_fills 63 = .ok (.aload_n 0, 1) := by decide +kernel
theorem dX10_fills_64 : decode cX10_fills 64 = .ok (.getfield 48, 3) := by decide +kernel
theorem dX10_fills_67 : decode cX10_fills 67 = .ok (.invokevirtual 162, 3) := by decide +kernel
theorem dX10_fills_70 : decode cX10_fills 70 = .ok (.aload_n 0, 1) := by decide +kernel
theorem dX10_fills_71 : decode cX10_fills 71 = .ok (.getfield 40, 3) := by decide +kernel
theorem dX10_fills_74 : decode cX10_fills 74 = .ok (.getfield 165, 3) := by decide +kernel
theorem dX10_fills_77 : decode cX10_fills 77 = .ok (.invokestatic 137, 3) := by decide +kernel
theorem dX10_fills_80 : decode cX10_fills 80 = .ok (.ireturn, 1) := by decide +kernel
theorem dX10_filled_0 : decode cX10_filled 0 = .ok (.iload_n 1, 1) := by decide +kernel
theorem dX10_filled_1 : decode cX10_filled 1 = .ok (.invokestatic 54, 3) := by decide +kernel
theorem dX10_filled_4 : decode cX10_filled 4 = .ok (.ifCond .eq 10, 3) := by decide +kernel
theorem dX10_filled_7 : decode cX10_filled 7 = .ok (.iload_n 2, 1) := by decide +kernel
theorem dX10_filled_8 : decode cX10_filled 8 = .ok (.invokestatic 143, 3) := by decide +kernel
theorem dX10_filled_11 : decode cX10_filled 11 = .ok (.ifCond .ne 9, 3) := by decide +kernel
theorem dX10_filled_14 : decode cX10_filled 14 = .ok (.bipush (-2), 2) := by decide +kernel
theorem dX10_filled_16 : decode cX10_filled 16 = .ok (.invokestatic 146, 3) := by decide +kernel
theorem dX10_filled_19 : decode cX10_filled 19 = .ok (.lreturn, 1) := by decide +kernel
theorem dX10_filled_20 : decode cX10_filled 20 = .ok (.aload_n 0, 1) := by decide +kernel
theorem dX10_filled_21 : decode cX10_filled 21 = .ok (.getfield 26, 3) := by decide +kernel
theorem dX10_filled_24 : decode cX10_filled 24 = .ok (.invokevirtual 116, 3) := by decide +kernel
theorem dX10_filled_27 : decode cX10_filled 27 = .ok (.ifCond .eq 9, 3) := by decide +kernel
theorem dX10_filled_30 : decode cX10_filled 30 = .ok (.bipush (-3), 2) := by decide +kernel
theorem dX10_filled_32 : decode cX10_filled 32 = .ok (.invokestatic 146, 3) := by decide +kernel
theorem dX10_filled_35 : decode cX10_filled 35 = .ok (.lreturn, 1) := by decide +kernel
theorem dX10_filled_36 : decode cX10_filled 36 = .ok (.aload_n 0, 1) := by decide +kernel
theorem dX10_filled_37 : decode cX10_filled 37 = .ok (.getfield 40, 3) := by decide +kernel
theorem dX10_filled_40 : decode cX10_filled 40 = .ok (.aload_n 0, 1) := by decide +kernel
theorem dX10_filled_41 : decode cX10_filled 41 = .ok (.getfield 11, 3) := by decide +kernel
theorem dX10_filled_44 : decode cX10_filled 44 = .ok (.iload_n 1, 1) := by decide +kernel
theorem dX10_filled_45 : decode cX10_filled 45 = .ok (.aaload, 1) := by decide +kernel
theorem dX10_filled_46 : decode cX10_filled 46 = .ok (.aload_n 0, 1) := by decide +kernel
theorem dX10_filled_47 : decode cX10_filled 47 = .ok (.getfield 26, 3) := by decide +kernel
theorem dX10_filled_50 : decode cX10_filled 50 = .ok (.aload_n 0, 1) := by decide +kernel
theorem dX10_filled_51 : decode cX10_filled 51 = .ok (.getfield 48, 3) := by decide +kernel
theorem dX10_filled_54 : decode cX10_filled 54 = .ok (.invokevirtual 162, 3) := by decide +kernel
theorem dX10_filled_57 : decode cX10_filled 57 = .ok (.aload_n 0, 1) := by decide +kernel
theorem dX10_filled_58 : decode cX10_filled 58 = .ok (.getfield 40, 3) := by decide +kernel
theorem dX10_filled_61 : decode cX10_filled 61 = .ok (.getfield 165, 3) := by decide +kernel
theorem dX10_filled_64 : decode cX10_filled 64 = .ok (.aload_n 0, 1) := by decide +kernel
theorem dX10_filled_65 : decode cX10_filled 65 = .ok (.getfield 11, 3) := by decide +kernel
theorem dX10_filled_68 : decode cX10_filled 68 = .ok (.iload_n 1, 1) := by decide +kernel
theorem dX10_filled_69 : decode cX10_filled 69 = .ok (.aaload, 1) := by decide +kernel
theorem dX10_filled_70 : decode cX10_filled 70 = .ok (.getfield 154, 3) := by decide +kernel
theorem dX10_filled_73 : decode cX10_filled 73 = .ok (.invokestatic 157, 3) := by decide +kernel
theorem dX10_filled_76 : decode cX10_filled 76 = .ok (.aload_n 0, 1) := by decide +kernel
theorem dX10_filled_77 : decode cX10_filled 77 = .ok (.getfield 44, 3) := by decide +kernel
theorem dX10_filled_80 : decode cX10_filled 80 = .ok (.iload_n 2, 1) := by decide +kernel
theorem dX10_filled_81 : decode cX10_filled 81 = .ok (.invokestatic 150, 3) := by decide +kernel
theorem dX10_filled_84 : decode cX10_filled 84 = .ok (.lreturn, 1) := by decide +kernel
theorem dX10_sure_0 : decode cX10_sure 0 = .ok (.iload_n 1, 1) := by decide +kernel
theorem dX10_sure_1 : decode cX10_sure 1 = .ok (.invokestatic 54, 3) := by decide +kernel
theorem dX10_sure_4 : decode cX10_sure 4 = .ok (.ifCond .eq 7, 3) := by decide +kernel
theorem dX10_sure_7 : decode cX10_sure 7 = .ok (.iload_n 2, 1) := by decide +kernel
theorem dX10_sure_8 : decode cX10_sure 8 = .ok (.ifCond .ge 6, 3) := by decide +kernel
theorem dX10_sure_11 : decode cX10_sure 11 = .ok (.bipush (-2), 2) := by decide +kernel
theorem dX10_sure_13 : decode cX10_sure 13 = .ok (.ireturn, 1) := by decide +kernel
theorem dX10_sure_14 : decode cX10_sure 14 = .ok (.aload_n 0, 1) := by decide +kernel
theorem dX10_sure_15 : decode cX10_sure 15 = .ok (.getfield 11, 3) := by decide +kernel
theorem dX10_sure_18 : decode cX10_sure 18 = .ok (.iload_n 1, 1) := by decide +kernel
theorem dX10_sure_19 : decode cX10_sure 19 = .ok (.aaload, 1) := by decide +kernel
theorem dX10_sure_20 : decode cX10_sure 20 = .ok (.astore_n 3, 1) := by decide +kernel
theorem dX10_sure_21 : decode cX10_sure 21 = .ok (.aload_n 0, 1) := by decide +kernel
theorem dX10_sure_22 : decode cX10_sure 22 = .ok (.getfield 26, 3) := by decide +kernel
theorem dX10_sure_25 : decode cX10_sure 25 = .ok (.invokevirtual 116, 3) := by decide +kernel
theorem dX10_sure_28 : decode cX10_sure 28 = .ok (.ifCond .ne 11, 3) := by decide +kernel
theorem dX10_sure_31 : decode cX10_sure 31 = .ok (.iload_n 2, 1) := by decide +kernel
theorem dX10_sure_32 : decode cX10_sure 32 = .ok (.aload_n 3, 1) := by decide +kernel
theorem dX10_sure_33 : decode cX10_sure 33 = .ok (.getfield 69, 3) := by decide +kernel
theorem dX10_sure_36 : decode cX10_sure 36 = .ok (.if_icmp .lt 6, 3) := by decide +kernel
theorem dX10_sure_39 : decode cX10_sure 39 = .ok (.bipush (-3), 2) := by decide +kernel
theorem dX10_sure_41 : decode cX10_sure 41 = .ok (.ireturn, 1) := by decide +kernel
theorem dX10_sure_42 : decode cX10_sure 42 = .ok (.aload_n 0, 1) := by decide +kernel
theorem dX10_sure_43 : decode cX10_sure 43 = .ok (.getfield 40, 3) := by decide +kernel
theorem dX10_sure_46 : decode cX10_sure 46 = .ok (.aload_n 3, 1) := by decide +kernel
theorem dX10_sure_47 : decode cX10_sure 47 = .ok (.aload_n 0, 1) := by decide +kernel
theorem dX10_sure_48 : decode cX10_sure 48 = .ok (.getfield 26, 3) := by decide +kernel
theorem dX10_sure_51 : decode cX10_sure 51 = .ok (.aload_n 0, 1) := by decide +kernel
theorem dX10_sure_52 : decode cX10_sure 52 = .ok (.getfield 48, 3) := by decide +kernel
theorem dX10_sure_55 : decode cX10_sure 55 = .ok (.invokevirtual 162, 3) := by decide +kernel
theorem dX10_sure_58 : decode cX10_sure 58 = .ok (.aload_n 0, 1) := by decide +kernel
theorem dX10_sure_59 : decode cX10_sure 59 = .ok (.getfield 40, 3) := by decide +kernel
theorem dX10_sure_62 : decode cX10_sure 62 = .ok (.getfield 165, 3) := by decide +kernel
theorem dX10_sure_65 : decode cX10_sure 65 = .ok (.invokestatic 137, 3) := by decide +kernel
theorem dX10_sure_68 : decode cX10_sure 68 = .ok (.ifCond .ne 6, 3) := by decide +kernel
theorem dX10_sure_71 : decode cX10_sure 71 = .ok (.bipush (-3), 2) := by decide +kernel
theorem dX10_sure_73 : decode cX10_sure 73 = .ok (.ireturn, 1) := by decide +kernel
theorem dX10_sure_74 : decode cX10_sure 74 = .ok (.iconst 1, 1) := by decide +kernel
theorem dX10_sure_75 : decode cX10_sure 75 = .ok (.aload_n 3, 1) := by decide +kernel
theorem dX10_sure_76 : decode cX10_sure 76 = .ok (.getfield 69, 3) := by decide +kernel
theorem dX10_sure_79 : decode cX10_sure 79 = .ok (.iconst 1, 1) := by decide +kernel
theorem dX10_sure_80 : decode cX10_sure 80 = .ok (.isub, 1) := by decide +kernel
theorem dX10_sure_81 : decode cX10_sure 81 = .ok (.iload_n 2, 1) := by decide +kernel
theorem dX10_sure_82 : decode cX10_sure 82 = .ok (.isub, 1) := by decide +kernel
theorem dX10_sure_83 : decode cX10_sure 83 = .ok (.ishl, 1) := by decide +kernel
theorem dX10_sure_84 : decode cX10_sure 84 = .ok (.istore 4, 2) := by decide +kernel
theorem dX10_sure_86 : decode cX10_sure 86 = .ok (.aload_n 0, 1) := by decide +kernel
theorem dX10_sure_87 : decode cX10_sure 87 = .ok (.getfield 40, 3) := by decide +kernel
theorem dX10_sure_90 : decode cX10_sure 90 = .ok (.getfield 168, 3) := by decide +kernel
theorem dX10_sure_93 : decode cX10_sure 93 = .ok (.iload 4, 2) := by decide +kernel
theorem dX10_sure_95 : decode cX10_sure 95 = .ok (.iand, 1) := by decide +kernel
theorem dX10_sure_96 : decode cX10_sure 96 = .ok (.ifCond .eq 5, 3) := by decide +kernel
theorem dX10_sure_99 : decode cX10_sure 99 = .ok (.iconst 1, 1) := by decide +kernel
theorem dX10_sure_100 : decode cX10_sure 100 = .ok (.ireturn, 1) := by decide +kernel
theorem dX10_sure_101 : decode cX10_sure 101 = .ok (.aload_n 0, 1) := by decide +kernel
theorem dX10_sure_102 : decode cX10_sure 102 = .ok (.getfield 40, 3) := by decide +kernel
theorem dX10_sure_105 : decode cX10_sure 105 = .ok (.getfield 171, 3) := by decide +kernel
theorem dX10_sure_108 : decode cX10_sure 108 = .ok (.iload 4, 2) := by decide +kernel
theorem dX10_sure_110 : decode cX10_sure 110 = .ok (.iand, 1) := by decide +kernel
theorem dX10_sure_111 : decode cX10_sure 111 = .ok (.ifCond .ne 7, 3) := by decide +kernel
theorem dX10_sure_114 : decode cX10_sure 114 = .ok (.iconst 0, 1) := by decide +kernel
theorem dX10_sure_115 : decode cX10_sure 115 = .ok (.goto 4, 3) := by decide +kernel
theorem dX10_sure_118 : decode cX10_sure 118 = .ok (.iconst (-1), 1) := by decide +kernel
theorem dX10_sure_119 : decode cX10_sure 119 = .ok (.ireturn, 1) := by decide +kernel
theorem dX10_dealt_0 : decode cX10_dealt 0 = .ok (.iload_n 1, 1) := by decide +kernel
theorem dX10_dealt_1 : decode cX10_dealt 1 = .ok (.invokestatic 54, 3) := by decide +kernel
theorem dX10_dealt_4 : decode cX10_dealt 4 = .ok (.ifCond .eq 10, 3) := by decide +kernel
theorem dX10_dealt_7 : decode cX10_dealt 7 = .ok (.iload_n 2, 1) := by decide +kernel
theorem dX10_dealt_8 : decode cX10_dealt 8 = .ok (.invokestatic 99, 3) := by decide +kernel
theorem dX10_dealt_11 : decode cX10_dealt 11 = .ok (.ifCond .ne 6, 3) := by decide +kernel
theorem dX10_dealt_14 : decode cX10_dealt 14 = .ok (.bipush (-2), 2) := by decide +kernel
theorem dX10_dealt_16 : decode cX10_dealt 16 = .ok (.ireturn, 1) := by decide +kernel
theorem dX10_dealt_17 : decode cX10_dealt 17 = .ok (.aload_n 0, 1) := by decide +kernel
theorem dX10_dealt_18 : decode cX10_dealt 18 = .ok (.getfield 11, 3) := by decide +kernel
theorem dX10_dealt_21 : decode cX10_dealt 21 = .ok (.iload_n 1, 1) := by decide +kernel
theorem dX10_dealt_22 : decode cX10_dealt 22 = .ok (.aaload, 1) := by decide +kernel
theorem dX10_dealt_23 : decode cX10_dealt 23 = .ok (.astore 4, 2) := by decide +kernel
theorem dX10_dealt_25 : decode cX10_dealt 25 = .ok (.aload 4, 2) := by decide +kernel
theorem dX10_dealt_27 : decode cX10_dealt 27 = .ok (.invokevirtual 102, 3) := by decide +kernel
theorem dX10_dealt_30 : decode cX10_dealt 30 = .ok (.ifCond .ne 6, 3) := by decide +kernel
theorem dX10_dealt_33 : decode cX10_dealt 33 = .ok (.bipush (-3), 2) := by decide +kernel
theorem dX10_dealt_35 : decode cX10_dealt 35 = .ok (.ireturn, 1) := by decide +kernel
theorem dX10_dealt_36 : decode cX10_dealt 36 = .ok (.aload_n 0, 1) := by decide +kernel
theorem dX10_dealt_37 : decode cX10_dealt 37 = .ok (.aload 4, 2) := by decide +kernel
theorem dX10_dealt_39 : decode cX10_dealt 39 = .ok (.iload_n 2, 1) := by decide +kernel
theorem dX10_dealt_40 : decode cX10_dealt 40 = .ok (.iload_n 3, 1) := by decide +kernel
theorem dX10_dealt_41 : decode cX10_dealt 41 = .ok (.invokevirtual 174, 3) := by decide +kernel
theorem dX10_dealt_44 : decode cX10_dealt 44 = .ok (.aload 4, 2) := by decide +kernel
theorem dX10_dealt_46 : decode cX10_dealt 46 = .ok (.invokestatic 178, 3) := by decide +kernel
theorem dX10_dealt_49 : decode cX10_dealt 49 = .ok (.invokestatic 184, 3) := by decide +kernel
theorem dX10_dealt_52 : decode cX10_dealt 52 = .ok (.ireturn, 1) := by decide +kernel
theorem dX10_strangest_0 : decode cX10_strangest 0 = .ok (.iload_n 1, 1) := by decide +kernel
theorem dX10_strangest_1 : decode cX10_strangest 1 = .ok (.invokestatic 54, 3) := by decide +kernel
theorem dX10_strangest_4 : decode cX10_strangest 4 = .ok (.ifCond .ne 6, 3) := by decide +kernel
theorem dX10_strangest_7 : decode cX10_strangest 7 = .ok (.bipush (-2), 2) := by decide +kernel
theorem dX10_strangest_9 : decode cX10_strangest 9 = .ok (.ireturn, 1) := by decide +kernel
theorem dX10_strangest_10 : decode cX10_strangest 10 = .ok (.aload_n 0, 1) := by decide +kernel
theorem dX10_strangest_11 : decode cX10_strangest 11 = .ok (.getfield 11, 3) := by decide +kernel
theorem dX10_strangest_14 : decode cX10_strangest 14 = .ok (.iload_n 1, 1) := by decide +kernel
theorem dX10_strangest_15 : decode cX10_strangest 15 = .ok (.aaload, 1) := by decide +kernel
theorem dX10_strangest_16 : decode cX10_strangest 16 = .ok (.astore_n 2, 1) := by decide +kernel
theorem dX10_strangest_17 : decode cX10_strangest 17 = .ok (.aload_n 2, 1) := by decide +kernel
theorem dX10_strangest_18 : decode cX10_strangest 18 = .ok (.invokevirtual 102, 3) := by decide +kernel
theorem dX10_strangest_21 : decode cX10_strangest 21 = .ok (.ifCond .eq 10, 3) := by decide +kernel
theorem dX10_strangest_24 : decode cX10_strangest 24 = .ok (.aload_n 2, 1) := by decide +kernel
theorem dX10_strangest_25 : decode cX10_strangest 25 = .ok (.getfield 69, 3) := by decide +kernel
theorem dX10_strangest_28 : decode cX10_strangest 28 = .ok (.ifCond .ne 6, 3) := by decide +kernel
theorem dX10_strangest_31 : decode cX10_strangest 31 = .ok (.bipush (-3), 2) := by decide +kernel
theorem dX10_strangest_33 : decode cX10_strangest 33 = .ok (.ireturn, 1) := by decide +kernel
theorem dX10_strangest_34 : decode cX10_strangest 34 = .ok (.iconst (-1), 1) := by decide +kernel
theorem dX10_strangest_35 : decode cX10_strangest 35 = .ok (.istore_n 3, 1) := by decide +kernel
theorem dX10_strangest_36 : decode cX10_strangest 36 = .ok (.iconst 0, 1) := by decide +kernel
theorem dX10_strangest_37 : decode cX10_strangest 37 = .ok (.istore 4, 2) := by decide +kernel
theorem dX10_strangest_39 : decode cX10_strangest 39 = .ok (.iconst 0, 1) := by decide +kernel
theorem dX10_strangest_40 : decode cX10_strangest 40 = .ok (.istore 5, 2) := by decide +kernel
theorem dX10_strangest_42 : decode cX10_strangest 42 = .ok (.iload 5, 2) := by decide +kernel
theorem dX10_strangest_44 : decode cX10_strangest 44 = .ok (.bipush 14, 2) := by decide +kernel
theorem dX10_strangest_46 : decode cX10_strangest 46 = .ok (.if_icmp .ge 70, 3) := by decide +kernel
theorem dX10_strangest_49 : decode cX10_strangest 49 = .ok (.iload 5, 2) := by decide +kernel
theorem dX10_strangest_51 : decode cX10_strangest 51 = .ok (.iconst 2, 1) := by decide +kernel
theorem dX10_strangest_52 : decode cX10_strangest 52 = .ok (.idiv, 1) := by decide +kernel
theorem dX10_strangest_53 : decode cX10_strangest 53 = .ok (.istore 6, 2) := by decide +kernel
theorem dX10_strangest_55 : decode cX10_strangest 55 = .ok (.iload 6, 2) := by decide +kernel
theorem dX10_strangest_57 : decode cX10_strangest 57 = .ok (.ifCond .eq 53, 3) := by decide +kernel
theorem dX10_strangest_60 : decode cX10_strangest 60 = .ok (.iload 6, 2) := by decide +kernel
theorem dX10_strangest_62 : decode cX10_strangest 62 = .ok (.iconst 5, 1) := by decide +kernel
theorem dX10_strangest_63 : decode cX10_strangest 63 = .ok (.if_icmp .ne 6, 3) := by decide +kernel
theorem dX10_strangest_66 : decode cX10_strangest 66 = .ok (.goto 44, 3) := by decide +kernel
theorem dX10_strangest_69 : decode cX10_strangest 69 = .ok (.aload_n 0, 1) := by decide +kernel
theorem dX10_strangest_70 : decode cX10_strangest 70 = .ok (.aload_n 2, 1) := by decide +kernel
theorem dX10_strangest_71 : decode cX10_strangest 71 = .ok (.iload 6, 2) := by decide +kernel
theorem dX10_strangest_73 : decode cX10_strangest 73 = .ok (.iload 5, 2) := by decide +kernel
theorem dX10_strangest_75 : decode cX10_strangest 75 = .ok (.iconst 2, 1) := by decide +kernel
theorem dX10_strangest_76 : decode cX10_strangest 76 = .ok (.irem, 1) := by decide +kernel
theorem dX10_strangest_77 : decode cX10_strangest 77 = .ok (.iconst 1, 1) := by decide +kernel
theorem dX10_strangest_78 : decode cX10_strangest 78 = .ok (.if_icmp .ne 7, 3) := by decide +kernel
theorem dX10_strangest_81 : decode cX10_strangest 81 = .ok (.iconst 1, 1) := by decide +kernel
theorem dX10_strangest_82 : decode cX10_strangest 82 = .ok (.goto 4, 3) := by decide +kernel
theorem dX10_strangest_85 : decode cX10_strangest 85 = .ok (.iconst 0, 1) := by decide +kernel
theorem dX10_strangest_86 : decode cX10_strangest 86 = .ok (.invokevirtual 174, 3) := by decide +kernel
theorem dX10_strangest_89 : decode cX10_strangest 89 = .ok (.istore 7, 2) := by decide +kernel
theorem dX10_strangest_91 : decode cX10_strangest 91 = .ok (.iload_n 3, 1) := by decide +kernel
theorem dX10_strangest_92 : decode cX10_strangest 92 = .ok (.iconst (-1), 1) := by decide +kernel
theorem dX10_strangest_93 : decode cX10_strangest 93 = .ok (.if_icmp .eq 10, 3) := by decide +kernel
theorem dX10_strangest_96 : decode cX10_strangest 96 = .ok (.iload 7, 2) := by decide +kernel
theorem dX10_strangest_98 : decode cX10_strangest 98 = .ok (.iload 4, 2) := by decide +kernel
theorem dX10_strangest_100 : decode cX10_strangest 100 = .ok (.if_icmp .ge 10, 3) := by decide +kernel
theorem dX10_strangest_103 : decode cX10_strangest 103 = .ok (.iload 5, 2) := by decide +kernel
theorem dX10_strangest_105 : decode cX10_strangest 105 = .ok (.istore_n 3, 1) := by decide +kernel
theorem dX10_strangest_106 : decode cX10_strangest 106 = .ok (.iload 7, 2) := by decide +kernel
theorem dX10_strangest_108 : decode cX10_strangest 108 = .ok (.istore 4, 2) := by decide +kernel
theorem dX10_strangest_110 : decode cX10_strangest 110 = .ok (.iinc 5 1, 3) := by decide +kernel
theorem dX10_strangest_113 : decode cX10_strangest 113 = .ok (.goto (-71), 3) := by decide +kernel
theorem dX10_strangest_116 : decode cX10_strangest 116 = .ok (.iload_n 3, 1) := by decide +kernel
theorem dX10_strangest_117 : decode cX10_strangest 117 = .ok (.ireturn, 1) := by decide +kernel
theorem dX10_hot_0 : decode cX10_hot 0 = .ok (.iload_n 1, 1) := by decide +kernel
theorem dX10_hot_1 : decode cX10_hot 1 = .ok (.invokestatic 54, 3) := by decide +kernel
theorem dX10_hot_4 : decode cX10_hot 4 = .ok (.ifCond .eq 17, 3) := by decide +kernel
theorem dX10_hot_7 : decode cX10_hot 7 = .ok (.iload_n 2, 1) := by decide +kernel
theorem dX10_hot_8 : decode cX10_hot 8 = .ok (.invokestatic 190, 3) := by decide +kernel
theorem dX10_hot_11 : decode cX10_hot 11 = .ok (.ifCond .eq 10, 3) := by decide +kernel
theorem dX10_hot_14 : decode cX10_hot 14 = .ok (.iload_n 3, 1) := by decide +kernel
theorem dX10_hot_15 : decode cX10_hot 15 = .ok (.invokestatic 143, 3) := by decide +kernel
theorem dX10_hot_18 : decode cX10_hot 18 = .ok (.ifCond .ne 9, 3) := by decide +kernel
theorem dX10_hot_21 : decode cX10_hot 21 = .ok (.bipush (-2), 2) := by decide +kernel
theorem dX10_hot_23 : decode cX10_hot 23 = .ok (.invokestatic 146, 3) := by decide +kernel
theorem dX10_hot_26 : decode cX10_hot 26 = .ok (.lreturn, 1) := by decide +kernel
theorem dX10_hot_27 : decode cX10_hot 27 = .ok (.aload_n 0, 1) := by decide +kernel
theorem dX10_hot_28 : decode cX10_hot 28 = .ok (.getfield 11, 3) := by decide +kernel
theorem dX10_hot_31 : decode cX10_hot 31 = .ok (.iload_n 1, 1) := by decide +kernel
theorem dX10_hot_32 : decode cX10_hot 32 = .ok (.aaload, 1) := by decide +kernel
theorem dX10_hot_33 : decode cX10_hot 33 = .ok (.astore 4, 2) := by decide +kernel
theorem dX10_hot_35 : decode cX10_hot 35 = .ok (.aload 4, 2) := by decide +kernel
theorem dX10_hot_37 : decode cX10_hot 37 = .ok (.invokevirtual 102, 3) := by decide +kernel
theorem dX10_hot_40 : decode cX10_hot 40 = .ok (.ifCond .ne 9, 3) := by decide +kernel
theorem dX10_hot_43 : decode cX10_hot 43 = .ok (.bipush (-3), 2) := by decide +kernel
theorem dX10_hot_45 : decode cX10_hot 45 = .ok (.invokestatic 146, 3) := by decide +kernel
theorem dX10_hot_48 : decode cX10_hot 48 = .ok (.lreturn, 1) := by decide +kernel
theorem dX10_hot_49 : decode cX10_hot 49 = .ok (.aload 4, 2) := by decide +kernel
theorem dX10_hot_51 : decode cX10_hot 51 = .ok (.getfield 119, 3) := by decide +kernel
theorem dX10_hot_54 : decode cX10_hot 54 = .ok (.iload_n 2, 1) := by decide +kernel
theorem dX10_hot_55 : decode cX10_hot 55 = .ok (.invokestatic 193, 3) := by decide +kernel
theorem dX10_hot_58 : decode cX10_hot 58 = .ok (.istore 5, 2) := by decide +kernel
theorem dX10_hot_60 : decode cX10_hot 60 = .ok (.iload 5, 2) := by decide +kernel
theorem dX10_hot_62 : decode cX10_hot 62 = .ok (.ifCond .ne 9, 3) := by decide +kernel
theorem dX10_hot_65 : decode cX10_hot 65 = .ok (.bipush (-3), 2) := by decide +kernel
theorem dX10_hot_67 : decode cX10_hot 67 = .ok (.invokestatic 146, 3) := by decide +kernel
theorem dX10_hot_70 : decode cX10_hot 70 = .ok (.lreturn, 1) := by decide +kernel
theorem dX10_hot_71 : decode cX10_hot 71 = .ok (.iload 5, 2) := by decide +kernel
theorem dX10_hot_73 : decode cX10_hot 73 = .ok (.aload 4, 2) := by decide +kernel
theorem dX10_hot_75 : decode cX10_hot 75 = .ok (.getfield 119, 3) := by decide +kernel
theorem dX10_hot_78 : decode cX10_hot 78 = .ok (.iand, 1) := by decide +kernel
theorem dX10_hot_79 : decode cX10_hot 79 = .ok (.invokestatic 157, 3) := by decide +kernel
theorem dX10_hot_82 : decode cX10_hot 82 = .ok (.istore 6, 2) := by decide +kernel
theorem dX10_hot_84 : decode cX10_hot 84 = .ok (.iload 6, 2) := by decide +kernel
theorem dX10_hot_86 : decode cX10_hot 86 = .ok (.i2l, 1) := by decide +kernel
theorem dX10_hot_87 : decode cX10_hot 87 = .ok (.iload 5, 2) := by decide +kernel
theorem dX10_hot_89 : decode cX10_hot 89 = .ok (.invokestatic 157, 3) := by decide +kernel
theorem dX10_hot_92 : decode cX10_hot 92 = .ok (.i2l, 1) := by decide +kernel
theorem dX10_hot_93 : decode cX10_hot 93 = .ok (.iload_n 3, 1) := by decide +kernel
theorem dX10_hot_94 : decode cX10_hot 94 = .ok (.invokestatic 196, 3) := by decide +kernel
theorem dX10_hot_97 : decode cX10_hot 97 = .ok (.lreturn, 1) := by decide +kernel
theorem dX10_already_0 : decode cX10_already 0 = .ok (.iload_n 1, 1) := by decide +kernel
theorem dX10_already_1 : decode cX10_already 1 = .ok (.invokestatic 54, 3) := by decide +kernel
theorem dX10_already_4 : decode cX10_already 4 = .ok (.ifCond .eq 17, 3) := by decide +kernel
theorem dX10_already_7 : decode cX10_already 7 = .ok (.iload_n 2, 1) := by decide +kernel
theorem dX10_already_8 : decode cX10_already 8 = .ok (.invokestatic 190, 3) := by decide +kernel
theorem dX10_already_11 : decode cX10_already 11 = .ok (.ifCond .eq 10, 3) := by decide +kernel
theorem dX10_already_14 : decode cX10_already 14 = .ok (.iload_n 3, 1) := by decide +kernel
theorem dX10_already_15 : decode cX10_already 15 = .ok (.invokestatic 143, 3) := by decide +kernel
theorem dX10_already_18 : decode cX10_already 18 = .ok (.ifCond .ne 9, 3) := by decide +kernel
theorem dX10_already_21 : decode cX10_already 21 = .ok (.bipush (-2), 2) := by decide +kernel
theorem dX10_already_23 : decode cX10_already 23 = .ok (.invokestatic 146, 3) := by decide +kernel
theorem dX10_already_26 : decode cX10_already 26 = .ok (.lreturn, 1) := by decide +kernel
theorem dX10_already_27 : decode cX10_already 27 = .ok (.aload_n 0, 1) := by decide +kernel
theorem dX10_already_28 : decode cX10_already 28 = .ok (.getfield 11, 3) := by decide +kernel
theorem dX10_already_31 : decode cX10_already 31 = .ok (.iload_n 1, 1) := by decide +kernel
theorem dX10_already_32 : decode cX10_already 32 = .ok (.aaload, 1) := by decide +kernel
theorem dX10_already_33 : decode cX10_already 33 = .ok (.astore 4, 2) := by decide +kernel
theorem dX10_already_35 : decode cX10_already 35 = .ok (.aload 4, 2) := by decide +kernel
theorem dX10_already_37 : decode cX10_already 37 = .ok (.invokevirtual 102, 3) := by decide +kernel
theorem dX10_already_40 : decode cX10_already 40 = .ok (.ifCond .ne 9, 3) := by decide +kernel
theorem dX10_already_43 : decode cX10_already 43 = .ok (.bipush (-3), 2) := by decide +kernel
theorem dX10_already_45 : decode cX10_already 45 = .ok (.invokestatic 146, 3) := by decide +kernel
theorem dX10_already_48 : decode cX10_already 48 = .ok (.lreturn, 1) := by decide +kernel
theorem dX10_already_49 : decode cX10_already 49 = .ok (.aload 4, 2) := by decide +kernel
theorem dX10_already_51 : decode cX10_already 51 = .ok (.invokestatic 178, 3) := by decide +kernel
theorem dX10_already_54 : decode cX10_already 54 = .ok (.istore 5, 2) := by decide +kernel
theorem dX10_already_56 : decode cX10_already 56 = .ok (.aload 4, 2) := by decide +kernel
theorem dX10_already_58 : decode cX10_already 58 = .ok (.invokestatic 202, 3) := by decide +kernel
theorem dX10_already_61 : decode cX10_already 61 = .ok (.istore 6, 2) := by decide +kernel
theorem dX10_already_63 : decode cX10_already 63 = .ok (.iconst 0, 1) := by decide +kernel
theorem dX10_already_64 : decode cX10_already 64 = .ok (.istore 7, 2) := by decide +kernel
theorem dX10_already_66 : decode cX10_already 66 = .ok (.lconst 0, 1) := by decide +kernel
theorem dX10_already_67 : decode cX10_already 67 = .ok (.lstore 8, 2) := by decide +kernel
theorem dX10_already_69 : decode cX10_already 69 = .ok (.iconst 0, 1) := by decide +kernel
theorem dX10_already_70 : decode cX10_already 70 = .ok (.istore 10, 2) := by decide +kernel
theorem dX10_already_72 : decode cX10_already 72 = .ok (.iload 10, 2) := by decide +kernel
theorem dX10_already_74 : decode cX10_already 74 = .ok (.iload 5, 2) := by decide +kernel
theorem dX10_already_76 : decode cX10_already 76 = .ok (.if_icmp .ge 44, 3) := by decide +kernel
theorem dX10_already_79 : decode cX10_already 79 = .ok (.iload 6, 2) := by decide +kernel
theorem dX10_already_81 : decode cX10_already 81 = .ok (.iload_n 2, 1) := by decide +kernel
theorem dX10_already_82 : decode cX10_already 82 = .ok (.invokestatic 193, 3) := by decide +kernel
theorem dX10_already_85 : decode cX10_already 85 = .ok (.istore 11, 2) := by decide +kernel
theorem dX10_already_87 : decode cX10_already 87 = .ok (.iload 11, 2) := by decide +kernel
theorem dX10_already_89 : decode cX10_already 89 = .ok (.ifCond .eq 18, 3) := by decide +kernel
theorem dX10_already_92 : decode cX10_already 92 = .ok (.iinc 7 1, 3) := by decide +kernel
theorem dX10_already_95 : decode cX10_already 95 = .ok (.lload 8, 2) := by decide +kernel
theorem dX10_already_97 : decode cX10_already 97 = .ok (.iload 6, 2) := by decide +kernel
theorem dX10_already_99 : decode cX10_already 99 = .ok (.iload 11, 2) := by decide +kernel
theorem dX10_already_101 : decode cX10_already 101 = .ok (.invokestatic 205, 3) := by decide +kernel
theorem dX10_already_104 : decode cX10_already 104 = .ok (.ladd, 1) := by decide +kernel
theorem dX10_already_105 : decode cX10_already 105 = .ok (.lstore 8, 2) := by decide +kernel
theorem dX10_already_107 : decode cX10_already 107 = .ok (.iload 6, 2) := by decide +kernel
theorem dX10_already_109 : decode cX10_already 109 = .ok (.invokestatic 209, 3) := by decide +kernel
theorem dX10_already_112 : decode cX10_already 112 = .ok (.istore 6, 2) := by decide +kernel
theorem dX10_already_114 : decode cX10_already 114 = .ok (.iinc 10 1, 3) := by decide +kernel
theorem dX10_already_117 : decode cX10_already 117 = .ok (.goto (-45), 3) := by decide +kernel
theorem dX10_already_120 : decode cX10_already 120 = .ok (.iload 7, 2) := by decide +kernel
theorem dX10_already_122 : decode cX10_already 122 = .ok (.ifCond .ne 11, 3) := by decide +kernel
theorem dX10_already_125 : decode cX10_already 125 = .ok (.bipush (-3), 2) := by decide +kernel
theorem dX10_already_127 : decode cX10_already 127 = .ok (.invokestatic 146, 3) := by decide +kernel
theorem dX10_already_130 : decode cX10_already 130 = .ok (.goto 16, 3) := by decide +kernel
theorem dX10_already_133 : decode cX10_already 133 = .ok (.lload 8, 2) := by decide +kernel
theorem dX10_already_135 : decode cX10_already 135 = .ok (.iload 7, 2) := by decide +kernel
theorem dX10_already_137 : decode cX10_already 137 = .ok (.i2l, 1) := by decide +kernel
theorem dX10_already_138 : decode cX10_already 138 = .ok (.ldc2_w 212, 3) := by decide +kernel
theorem dX10_already_141 : decode cX10_already 141 = .ok (.lmul, 1) := by decide +kernel
theorem dX10_already_142 : decode cX10_already 142 = .ok (.iload_n 3, 1) := by decide +kernel
theorem dX10_already_143 : decode cX10_already 143 = .ok (.invokestatic 196, 3) := by decide +kernel
theorem dX10_already_146 : decode cX10_already 146 = .ok (.lreturn, 1) := by decide +kernel
theorem dX10_waits_0 : decode cX10_waits 0 = .ok (.iload_n 1, 1) := by decide +kernel
theorem dX10_waits_1 : decode cX10_waits 1 = .ok (.invokestatic 143, 3) := by decide +kernel
theorem dX10_waits_4 : decode cX10_waits 4 = .ok (.ifCond .ne 9, 3) := by decide +kernel
theorem dX10_waits_7 : decode cX10_waits 7 = .ok (.bipush (-2), 2) := by decide +kernel
theorem dX10_waits_9 : decode cX10_waits 9 = .ok (.invokestatic 146, 3) := by decide +kernel
theorem dX10_waits_12 : decode cX10_waits 12 = .ok (.lreturn, 1) := by decide +kernel
theorem dX10_waits_13 : decode cX10_waits 13 = .ok (.aload_n 0, 1) := by decide +kernel
theorem dX10_waits_14 : decode cX10_waits 14 = .ok (.getfield 48, 3) := by decide +kernel
theorem dX10_waits_17 : decode cX10_waits 17 = .ok (.aload_n 0, 1) := by decide +kernel
theorem dX10_waits_18 : decode cX10_waits 18 = .ok (.getfield 48, 3) := by decide +kernel
theorem dX10_waits_21 : decode cX10_waits 21 = .ok (.aload_n 0, 1) := by decide +kernel
theorem dX10_waits_22 : decode cX10_waits 22 = .ok (.getfield 44, 3) := by decide +kernel
theorem dX10_waits_25 : decode cX10_waits 25 = .ok (.invokestatic 214, 3) := by decide +kernel
theorem dX10_waits_28 : decode cX10_waits 28 = .ok (.aload_n 0, 1) := by decide +kernel
theorem dX10_waits_29 : decode cX10_waits 29 = .ok (.getfield 44, 3) := by decide +kernel
theorem dX10_waits_32 : decode cX10_waits 32 = .ok (.invokestatic 220, 3) := by decide +kernel
theorem dX10_waits_35 : decode cX10_waits 35 = .ok (.iload_n 1, 1) := by decide +kernel
theorem dX10_waits_36 : decode cX10_waits 36 = .ok (.invokestatic 196, 3) := by decide +kernel
theorem dX10_waits_39 : decode cX10_waits 39 = .ok (.lreturn, 1) := by decide +kernel
theorem dX10_first_0 : decode cX10_first 0 = .ok (.iload_n 1, 1) := by decide +kernel
theorem dX10_first_1 : decode cX10_first 1 = .ok (.invokestatic 223, 3) := by decide +kernel
theorem dX10_first_4 : decode cX10_first 4 = .ok (.ifCond .eq 17, 3) := by decide +kernel
theorem dX10_first_7 : decode cX10_first 7 = .ok (.iload_n 2, 1) := by decide +kernel
theorem dX10_first_8 : decode cX10_first 8 = .ok (.invokestatic 223, 3) := by decide +kernel
theorem dX10_first_11 : decode cX10_first 11 = .ok (.ifCond .eq 10, 3) := by decide +kernel
theorem dX10_first_14 : decode cX10_first 14 = .ok (.iload_n 3, 1) := by decide +kernel
theorem dX10_first_15 : decode cX10_first 15 = .ok (.invokestatic 143, 3) := by decide +kernel
theorem dX10_first_18 : decode cX10_first 18 = .ok (.ifCond .ne 9, 3) := by decide +kernel
theorem dX10_first_21 : decode cX10_first 21 = .ok (.bipush (-2), 2) := by decide +kernel
theorem dX10_first_23 : decode cX10_first 23 = .ok (.invokestatic 146, 3) := by decide +kernel
theorem dX10_first_26 : decode cX10_first 26 = .ok (.lreturn, 1) := by decide +kernel
theorem dX10_first_27 : decode cX10_first 27 = .ok (.iload_n 1, 1) := by decide +kernel
theorem dX10_first_28 : decode cX10_first 28 = .ok (.iload_n 2, 1) := by decide +kernel
theorem dX10_first_29 : decode cX10_first 29 = .ok (.invokestatic 226, 3) := by decide +kernel
theorem dX10_first_32 : decode cX10_first 32 = .ok (.ifCond .ne 11, 3) := by decide +kernel
theorem dX10_first_35 : decode cX10_first 35 = .ok (.iload_n 2, 1) := by decide +kernel
theorem dX10_first_36 : decode cX10_first 36 = .ok (.iload_n 1, 1) := by decide +kernel
theorem dX10_first_37 : decode cX10_first 37 = .ok (.invokestatic 226, 3) := by decide +kernel
theorem dX10_first_40 : decode cX10_first 40 = .ok (.ifCond .eq 9, 3) := by decide +kernel
theorem dX10_first_43 : decode cX10_first 43 = .ok (.bipush (-3), 2) := by decide +kernel
theorem dX10_first_45 : decode cX10_first 45 = .ok (.invokestatic 146, 3) := by decide +kernel
theorem dX10_first_48 : decode cX10_first 48 = .ok (.lreturn, 1) := by decide +kernel
theorem dX10_first_49 : decode cX10_first 49 = .ok (.iload_n 2, 1) := by decide +kernel
theorem dX10_first_50 : decode cX10_first 50 = .ok (.iload_n 2, 1) := by decide +kernel
end
section
theorem dX10_first_51 : decode cX10_first 51 = .ok (.aload_n 0, 1) := by decide +kernel
theorem dX10_first_52 : decode cX10_first 52 = .ok (.getfield 44, 3) := by decide +kernel
theorem dX10_first_55 : decode cX10_first 55 = .ok (.invokestatic 214, 3) := by decide +kernel
theorem dX10_first_58 : decode cX10_first 58 = .ok (.iload_n 2, 1) := by decide +kernel
theorem dX10_first_59 : decode cX10_first 59 = .ok (.iload_n 1, 1) := by decide +kernel
theorem dX10_first_60 : decode cX10_first 60 = .ok (.aload_n 0, 1) := by decide +kernel
theorem dX10_first_61 : decode cX10_first 61 = .ok (.getfield 44, 3) := by decide +kernel
theorem dX10_first_64 : decode cX10_first 64 = .ok (.invokestatic 214, 3) := by decide +kernel
theorem dX10_first_67 : decode cX10_first 67 = .ok (.lsub, 1) := by decide +kernel
theorem dX10_first_68 : decode cX10_first 68 = .ok (.lstore 4, 2) := by decide +kernel
theorem dX10_first_70 : decode cX10_first 70 = .ok (.iload_n 1, 1) := by decide +kernel
theorem dX10_first_71 : decode cX10_first 71 = .ok (.iload_n 1, 1) := by decide +kernel
theorem dX10_first_72 : decode cX10_first 72 = .ok (.aload_n 0, 1) := by decide +kernel
theorem dX10_first_73 : decode cX10_first 73 = .ok (.getfield 44, 3) := by decide +kernel
theorem dX10_first_76 : decode cX10_first 76 = .ok (.invokestatic 214, 3) := by decide +kernel
theorem dX10_first_79 : decode cX10_first 79 = .ok (.iload_n 1, 1) := by decide +kernel
theorem dX10_first_80 : decode cX10_first 80 = .ok (.iload_n 2, 1) := by decide +kernel
theorem dX10_first_81 : decode cX10_first 81 = .ok (.aload_n 0, 1) := by decide +kernel
theorem dX10_first_82 : decode cX10_first 82 = .ok (.getfield 44, 3) := by decide +kernel
theorem dX10_first_85 : decode cX10_first 85 = .ok (.invokestatic 214, 3) := by decide +kernel
theorem dX10_first_88 : decode cX10_first 88 = .ok (.lsub, 1) := by decide +kernel
theorem dX10_first_89 : decode cX10_first 89 = .ok (.lstore 6, 2) := by decide +kernel
theorem dX10_first_91 : decode cX10_first 91 = .ok (.lload 4, 2) := by decide +kernel
theorem dX10_first_93 : decode cX10_first 93 = .ok (.lload 4, 2) := by decide +kernel
theorem dX10_first_95 : decode cX10_first 95 = .ok (.lload 6, 2) := by decide +kernel
theorem dX10_first_97 : decode cX10_first 97 = .ok (.ladd, 1) := by decide +kernel
theorem dX10_first_98 : decode cX10_first 98 = .ok (.iload_n 3, 1) := by decide +kernel
theorem dX10_first_99 : decode cX10_first 99 = .ok (.invokestatic 196, 3) := by decide +kernel
theorem dX10_first_102 : decode cX10_first 102 = .ok (.lreturn, 1) := by decide +kernel
theorem dX10_agree_0 : decode cX10_agree 0 = .ok (.iload_n 1, 1) := by decide +kernel
theorem dX10_agree_1 : decode cX10_agree 1 = .ok (.invokestatic 54, 3) := by decide +kernel
theorem dX10_agree_4 : decode cX10_agree 4 = .ok (.ifCond .eq 22, 3) := by decide +kernel
theorem dX10_agree_7 : decode cX10_agree 7 = .ok (.iload_n 2, 1) := by decide +kernel
theorem dX10_agree_8 : decode cX10_agree 8 = .ok (.invokestatic 54, 3) := by decide +kernel
theorem dX10_agree_11 : decode cX10_agree 11 = .ok (.ifCond .eq 15, 3) := by decide +kernel
theorem dX10_agree_14 : decode cX10_agree 14 = .ok (.iload_n 1, 1) := by decide +kernel
theorem dX10_agree_15 : decode cX10_agree 15 = .ok (.iload_n 2, 1) := by decide +kernel
theorem dX10_agree_16 : decode cX10_agree 16 = .ok (.if_icmp .eq 10, 3) := by decide +kernel
theorem dX10_agree_19 : decode cX10_agree 19 = .ok (.iload_n 3, 1) := by decide +kernel
theorem dX10_agree_20 : decode cX10_agree 20 = .ok (.invokestatic 143, 3) := by decide +kernel
theorem dX10_agree_23 : decode cX10_agree 23 = .ok (.ifCond .ne 6, 3) := by decide +kernel
theorem dX10_agree_26 : decode cX10_agree 26 = .ok (.bipush (-2), 2) := by decide +kernel
theorem dX10_agree_28 : decode cX10_agree 28 = .ok (.ireturn, 1) := by decide +kernel
theorem dX10_agree_29 : decode cX10_agree 29 = .ok (.aload_n 0, 1) := by decide +kernel
theorem dX10_agree_30 : decode cX10_agree 30 = .ok (.getfield 11, 3) := by decide +kernel
theorem dX10_agree_33 : decode cX10_agree 33 = .ok (.iload_n 1, 1) := by decide +kernel
theorem dX10_agree_34 : decode cX10_agree 34 = .ok (.aaload, 1) := by decide +kernel
theorem dX10_agree_35 : decode cX10_agree 35 = .ok (.astore 4, 2) := by decide +kernel
theorem dX10_agree_37 : decode cX10_agree 37 = .ok (.aload_n 0, 1) := by decide +kernel
theorem dX10_agree_38 : decode cX10_agree 38 = .ok (.getfield 11, 3) := by decide +kernel
theorem dX10_agree_41 : decode cX10_agree 41 = .ok (.iload_n 2, 1) := by decide +kernel
theorem dX10_agree_42 : decode cX10_agree 42 = .ok (.aaload, 1) := by decide +kernel
theorem dX10_agree_43 : decode cX10_agree 43 = .ok (.astore 5, 2) := by decide +kernel
theorem dX10_agree_45 : decode cX10_agree 45 = .ok (.aload 4, 2) := by decide +kernel
theorem dX10_agree_47 : decode cX10_agree 47 = .ok (.invokevirtual 102, 3) := by decide +kernel
theorem dX10_agree_50 : decode cX10_agree 50 = .ok (.ifCond .eq 24, 3) := by decide +kernel
theorem dX10_agree_53 : decode cX10_agree 53 = .ok (.aload 5, 2) := by decide +kernel
theorem dX10_agree_55 : decode cX10_agree 55 = .ok (.invokevirtual 102, 3) := by decide +kernel
theorem dX10_agree_58 : decode cX10_agree 58 = .ok (.ifCond .eq 16, 3) := by decide +kernel
theorem dX10_agree_61 : decode cX10_agree 61 = .ok (.aload 4, 2) := by decide +kernel
theorem dX10_agree_63 : decode cX10_agree 63 = .ok (.getfield 69, 3) := by decide +kernel
theorem dX10_agree_66 : decode cX10_agree 66 = .ok (.aload 5, 2) := by decide +kernel
theorem dX10_agree_68 : decode cX10_agree 68 = .ok (.getfield 69, 3) := by decide +kernel
theorem dX10_agree_71 : decode cX10_agree 71 = .ok (.if_icmp .eq 6, 3) := by decide +kernel
theorem dX10_agree_74 : decode cX10_agree 74 = .ok (.bipush (-3), 2) := by decide +kernel
theorem dX10_agree_76 : decode cX10_agree 76 = .ok (.ireturn, 1) := by decide +kernel
theorem dX10_agree_77 : decode cX10_agree 77 = .ok (.aload 4, 2) := by decide +kernel
theorem dX10_agree_79 : decode cX10_agree 79 = .ok (.getfield 119, 3) := by decide +kernel
theorem dX10_agree_82 : decode cX10_agree 82 = .ok (.aload 5, 2) := by decide +kernel
theorem dX10_agree_84 : decode cX10_agree 84 = .ok (.getfield 119, 3) := by decide +kernel
theorem dX10_agree_87 : decode cX10_agree 87 = .ok (.ixor, 1) := by decide +kernel
theorem dX10_agree_88 : decode cX10_agree 88 = .ok (.invokestatic 157, 3) := by decide +kernel
theorem dX10_agree_91 : decode cX10_agree 91 = .ok (.istore 6, 2) := by decide +kernel
theorem dX10_agree_93 : decode cX10_agree 93 = .ok (.iload_n 3, 1) := by decide +kernel
theorem dX10_agree_94 : decode cX10_agree 94 = .ok (.ifCond .ne 12, 3) := by decide +kernel
theorem dX10_agree_97 : decode cX10_agree 97 = .ok (.aload 4, 2) := by decide +kernel
theorem dX10_agree_99 : decode cX10_agree 99 = .ok (.getfield 69, 3) := by decide +kernel
theorem dX10_agree_102 : decode cX10_agree 102 = .ok (.iload 6, 2) := by decide +kernel
theorem dX10_agree_104 : decode cX10_agree 104 = .ok (.isub, 1) := by decide +kernel
theorem dX10_agree_105 : decode cX10_agree 105 = .ok (.ireturn, 1) := by decide +kernel
theorem dX10_agree_106 : decode cX10_agree 106 = .ok (.aload 5, 2) := by decide +kernel
theorem dX10_agree_108 : decode cX10_agree 108 = .ok (.invokestatic 178, 3) := by decide +kernel
theorem dX10_agree_111 : decode cX10_agree 111 = .ok (.istore 7, 2) := by decide +kernel
theorem dX10_agree_113 : decode cX10_agree 113 = .ok (.aload 5, 2) := by decide +kernel
theorem dX10_agree_115 : decode cX10_agree 115 = .ok (.invokestatic 202, 3) := by decide +kernel
theorem dX10_agree_118 : decode cX10_agree 118 = .ok (.istore 8, 2) := by decide +kernel
theorem dX10_agree_120 : decode cX10_agree 120 = .ok (.iconst 0, 1) := by decide +kernel
theorem dX10_agree_121 : decode cX10_agree 121 = .ok (.istore 9, 2) := by decide +kernel
theorem dX10_agree_123 : decode cX10_agree 123 = .ok (.iconst 0, 1) := by decide +kernel
theorem dX10_agree_124 : decode cX10_agree 124 = .ok (.istore 10, 2) := by decide +kernel
theorem dX10_agree_126 : decode cX10_agree 126 = .ok (.iload 10, 2) := by decide +kernel
theorem dX10_agree_128 : decode cX10_agree 128 = .ok (.iload 7, 2) := by decide +kernel
theorem dX10_agree_130 : decode cX10_agree 130 = .ok (.if_icmp .ge 35, 3) := by decide +kernel
theorem dX10_agree_133 : decode cX10_agree 133 = .ok (.aload 4, 2) := by decide +kernel
theorem dX10_agree_135 : decode cX10_agree 135 = .ok (.getfield 119, 3) := by decide +kernel
theorem dX10_agree_138 : decode cX10_agree 138 = .ok (.iload 8, 2) := by decide +kernel
theorem dX10_agree_140 : decode cX10_agree 140 = .ok (.ixor, 1) := by decide +kernel
theorem dX10_agree_141 : decode cX10_agree 141 = .ok (.invokestatic 157, 3) := by decide +kernel
theorem dX10_agree_144 : decode cX10_agree 144 = .ok (.iload 6, 2) := by decide +kernel
theorem dX10_agree_146 : decode cX10_agree 146 = .ok (.if_icmp .gt 6, 3) := by decide +kernel
theorem dX10_agree_149 : decode cX10_agree 149 = .ok (.iinc 9 1, 3) := by decide +kernel
theorem dX10_agree_152 : decode cX10_agree 152 = .ok (.iload 8, 2) := by decide +kernel
theorem dX10_agree_154 : decode cX10_agree 154 = .ok (.invokestatic 209, 3) := by decide +kernel
theorem dX10_agree_157 : decode cX10_agree 157 = .ok (.istore 8, 2) := by decide +kernel
theorem dX10_agree_159 : decode cX10_agree 159 = .ok (.iinc 10 1, 3) := by decide +kernel
theorem dX10_agree_162 : decode cX10_agree 162 = .ok (.goto (-36), 3) := by decide +kernel
theorem dX10_agree_165 : decode cX10_agree 165 = .ok (.iload 9, 2) := by decide +kernel
theorem dX10_agree_167 : decode cX10_agree 167 = .ok (.iload 7, 2) := by decide +kernel
theorem dX10_agree_169 : decode cX10_agree 169 = .ok (.invokestatic 184, 3) := by decide +kernel
theorem dX10_agree_172 : decode cX10_agree 172 = .ok (.ireturn, 1) := by decide +kernel
theorem dX10_twice_0 : decode cX10_twice 0 = .ok (.iload_n 1, 1) := by decide +kernel
theorem dX10_twice_1 : decode cX10_twice 1 = .ok (.invokestatic 54, 3) := by decide +kernel
theorem dX10_twice_4 : decode cX10_twice 4 = .ok (.ifCond .ne 6, 3) := by decide +kernel
theorem dX10_twice_7 : decode cX10_twice 7 = .ok (.bipush (-2), 2) := by decide +kernel
theorem dX10_twice_9 : decode cX10_twice 9 = .ok (.ireturn, 1) := by decide +kernel
theorem dX10_twice_10 : decode cX10_twice 10 = .ok (.aload_n 0, 1) := by decide +kernel
theorem dX10_twice_11 : decode cX10_twice 11 = .ok (.getfield 11, 3) := by decide +kernel
theorem dX10_twice_14 : decode cX10_twice 14 = .ok (.iload_n 1, 1) := by decide +kernel
theorem dX10_twice_15 : decode cX10_twice 15 = .ok (.aaload, 1) := by decide +kernel
theorem dX10_twice_16 : decode cX10_twice 16 = .ok (.astore_n 2, 1) := by decide +kernel
theorem dX10_twice_17 : decode cX10_twice 17 = .ok (.aload_n 2, 1) := by decide +kernel
theorem dX10_twice_18 : decode cX10_twice 18 = .ok (.invokevirtual 102, 3) := by decide +kernel
theorem dX10_twice_21 : decode cX10_twice 21 = .ok (.ifCond .ne 6, 3) := by decide +kernel
theorem dX10_twice_24 : decode cX10_twice 24 = .ok (.bipush (-3), 2) := by decide +kernel
theorem dX10_twice_26 : decode cX10_twice 26 = .ok (.ireturn, 1) := by decide +kernel
theorem dX10_twice_27 : decode cX10_twice 27 = .ok (.aload_n 2, 1) := by decide +kernel
theorem dX10_twice_28 : decode cX10_twice 28 = .ok (.getfield 69, 3) := by decide +kernel
theorem dX10_twice_31 : decode cX10_twice 31 = .ok (.ifCond .eq 12, 3) := by decide +kernel
theorem dX10_twice_34 : decode cX10_twice 34 = .ok (.aload_n 2, 1) := by decide +kernel
theorem dX10_twice_35 : decode cX10_twice 35 = .ok (.getfield 69, 3) := by decide +kernel
theorem dX10_twice_38 : decode cX10_twice 38 = .ok (.iconst 2, 1) := by decide +kernel
theorem dX10_twice_39 : decode cX10_twice 39 = .ok (.irem, 1) := by decide +kernel
theorem dX10_twice_40 : decode cX10_twice 40 = .ok (.ifCond .eq 5, 3) := by decide +kernel
theorem dX10_twice_43 : decode cX10_twice 43 = .ok (.iconst 0, 1) := by decide +kernel
theorem dX10_twice_44 : decode cX10_twice 44 = .ok (.ireturn, 1) := by decide +kernel
theorem dX10_twice_45 : decode cX10_twice 45 = .ok (.aload_n 2, 1) := by decide +kernel
theorem dX10_twice_46 : decode cX10_twice 46 = .ok (.getfield 69, 3) := by decide +kernel
theorem dX10_twice_49 : decode cX10_twice 49 = .ok (.iconst 2, 1) := by decide +kernel
theorem dX10_twice_50 : decode cX10_twice 50 = .ok (.idiv, 1) := by decide +kernel
theorem dX10_twice_51 : decode cX10_twice 51 = .ok (.istore_n 3, 1) := by decide +kernel
theorem dX10_twice_52 : decode cX10_twice 52 = .ok (.iconst 1, 1) := by decide +kernel
theorem dX10_twice_53 : decode cX10_twice 53 = .ok (.iload_n 3, 1) := by decide +kernel
theorem dX10_twice_54 : decode cX10_twice 54 = .ok (.ishl, 1) := by decide +kernel
theorem dX10_twice_55 : decode cX10_twice 55 = .ok (.iconst 1, 1) := by decide +kernel
theorem dX10_twice_56 : decode cX10_twice 56 = .ok (.isub, 1) := by decide +kernel
theorem dX10_twice_57 : decode cX10_twice 57 = .ok (.istore 4, 2) := by decide +kernel
theorem dX10_twice_59 : decode cX10_twice 59 = .ok (.aload_n 2, 1) := by decide +kernel
theorem dX10_twice_60 : decode cX10_twice 60 = .ok (.getfield 119, 3) := by decide +kernel
theorem dX10_twice_63 : decode cX10_twice 63 = .ok (.iload_n 3, 1) := by decide +kernel
theorem dX10_twice_64 : decode cX10_twice 64 = .ok (.ishr, 1) := by decide +kernel
theorem dX10_twice_65 : decode cX10_twice 65 = .ok (.istore 5, 2) := by decide +kernel
theorem dX10_twice_67 : decode cX10_twice 67 = .ok (.aload_n 2, 1) := by decide +kernel
theorem dX10_twice_68 : decode cX10_twice 68 = .ok (.getfield 119, 3) := by decide +kernel
theorem dX10_twice_71 : decode cX10_twice 71 = .ok (.iload 4, 2) := by decide +kernel
theorem dX10_twice_73 : decode cX10_twice 73 = .ok (.iand, 1) := by decide +kernel
theorem dX10_twice_74 : decode cX10_twice 74 = .ok (.istore 6, 2) := by decide +kernel
theorem dX10_twice_76 : decode cX10_twice 76 = .ok (.iload 6, 2) := by decide +kernel
theorem dX10_twice_78 : decode cX10_twice 78 = .ok (.iload 5, 2) := by decide +kernel
theorem dX10_twice_80 : decode cX10_twice 80 = .ok (.if_icmp .ne 5, 3) := by decide +kernel
theorem dX10_twice_83 : decode cX10_twice 83 = .ok (.iconst 1, 1) := by decide +kernel
theorem dX10_twice_84 : decode cX10_twice 84 = .ok (.ireturn, 1) := by decide +kernel
theorem dX10_twice_85 : decode cX10_twice 85 = .ok (.iload 6, 2) := by decide +kernel
theorem dX10_twice_87 : decode cX10_twice 87 = .ok (.iload 5, 2) := by decide +kernel
theorem dX10_twice_89 : decode cX10_twice 89 = .ok (.iload 4, 2) := by decide +kernel
theorem dX10_twice_91 : decode cX10_twice 91 = .ok (.ixor, 1) := by decide +kernel
theorem dX10_twice_92 : decode cX10_twice 92 = .ok (.if_icmp .ne 5, 3) := by decide +kernel
theorem dX10_twice_95 : decode cX10_twice 95 = .ok (.iconst 2, 1) := by decide +kernel
theorem dX10_twice_96 : decode cX10_twice 96 = .ok (.ireturn, 1) := by decide +kernel
theorem dX10_twice_97 : decode cX10_twice 97 = .ok (.iload 6, 2) := by decide +kernel
theorem dX10_twice_99 : decode cX10_twice 99 = .ok (.iload 5, 2) := by decide +kernel
theorem dX10_twice_101 : decode cX10_twice 101 = .ok (.iload_n 3, 1) := by decide +kernel
theorem dX10_twice_102 : decode cX10_twice 102 = .ok (.invokestatic 230, 3) := by decide +kernel
theorem dX10_twice_105 : decode cX10_twice 105 = .ok (.if_icmp .ne 7, 3) := by decide +kernel
theorem dX10_twice_108 : decode cX10_twice 108 = .ok (.iconst 3, 1) := by decide +kernel
theorem dX10_twice_109 : decode cX10_twice 109 = .ok (.goto 4, 3) := by decide +kernel
theorem dX10_twice_112 : decode cX10_twice 112 = .ok (.iconst 0, 1) := by decide +kernel
theorem dX10_twice_113 : decode cX10_twice 113 = .ok (.ireturn, 1) := by decide +kernel
theorem dX10_next_0 : decode cX10_next 0 = .ok (.iload_n 1, 1) := by decide +kernel
theorem dX10_next_1 : decode cX10_next 1 = .ok (.invokestatic 54, 3) := by decide +kernel
theorem dX10_next_4 : decode cX10_next 4 = .ok (.ifCond .eq 21, 3) := by decide +kernel
theorem dX10_next_7 : decode cX10_next 7 = .ok (.iload_n 2, 1) := by decide +kernel
theorem dX10_next_8 : decode cX10_next 8 = .ok (.ifCond .lt 17, 3) := by decide +kernel
theorem dX10_next_11 : decode cX10_next 11 = .ok (.iload_n 2, 1) := by decide +kernel
theorem dX10_next_12 : decode cX10_next 12 = .ok (.iconst 4, 1) := by decide +kernel
theorem dX10_next_13 : decode cX10_next 13 = .ok (.if_icmp .gt 12, 3) := by decide +kernel
theorem dX10_next_16 : decode cX10_next 16 = .ok (.iload_n 3, 1) := by decide +kernel
theorem dX10_next_17 : decode cX10_next 17 = .ok (.ifCond .lt 8, 3) := by decide +kernel
theorem dX10_next_20 : decode cX10_next 20 = .ok (.iload_n 3, 1) := by decide +kernel
theorem dX10_next_21 : decode cX10_next 21 = .ok (.iconst 3, 1) := by decide +kernel
theorem dX10_next_22 : decode cX10_next 22 = .ok (.if_icmp .le 6, 3) := by decide +kernel
theorem dX10_next_25 : decode cX10_next 25 = .ok (.bipush (-2), 2) := by decide +kernel
theorem dX10_next_27 : decode cX10_next 27 = .ok (.ireturn, 1) := by decide +kernel
theorem dX10_next_28 : decode cX10_next 28 = .ok (.aload_n 0, 1) := by decide +kernel
theorem dX10_next_29 : decode cX10_next 29 = .ok (.getfield 11, 3) := by decide +kernel
theorem dX10_next_32 : decode cX10_next 32 = .ok (.iload_n 1, 1) := by decide +kernel
theorem dX10_next_33 : decode cX10_next 33 = .ok (.aaload, 1) := by decide +kernel
theorem dX10_next_34 : decode cX10_next 34 = .ok (.astore 4, 2) := by decide +kernel
theorem dX10_next_36 : decode cX10_next 36 = .ok (.iconst 1, 1) := by decide +kernel
theorem dX10_next_37 : decode cX10_next 37 = .ok (.iload_n 2, 1) := by decide +kernel
theorem dX10_next_38 : decode cX10_next 38 = .ok (.ishl, 1) := by decide +kernel
theorem dX10_next_39 : decode cX10_next 39 = .ok (.iconst 1, 1) := by decide +kernel
theorem dX10_next_40 : decode cX10_next 40 = .ok (.isub, 1) := by decide +kernel
theorem dX10_next_41 : decode cX10_next 41 = .ok (.istore 5, 2) := by decide +kernel
theorem dX10_next_43 : decode cX10_next 43 = .ok (.aload 4, 2) := by decide +kernel
theorem dX10_next_45 : decode cX10_next 45 = .ok (.getfield 69, 3) := by decide +kernel
theorem dX10_next_48 : decode cX10_next 48 = .ok (.iload_n 2, 1) := by decide +kernel
theorem dX10_next_49 : decode cX10_next 49 = .ok (.if_icmp .lt 14, 3) := by decide +kernel
theorem dX10_next_52 : decode cX10_next 52 = .ok (.aload 4, 2) := by decide +kernel
theorem dX10_next_54 : decode cX10_next 54 = .ok (.getfield 154, 3) := by decide +kernel
theorem dX10_next_57 : decode cX10_next 57 = .ok (.iload 5, 2) := by decide +kernel
theorem dX10_next_59 : decode cX10_next 59 = .ok (.iand, 1) := by decide +kernel
theorem dX10_next_60 : decode cX10_next 60 = .ok (.ifCond .eq 6, 3) := by decide +kernel
theorem dX10_next_63 : decode cX10_next 63 = .ok (.bipush (-3), 2) := by decide +kernel
theorem dX10_next_65 : decode cX10_next 65 = .ok (.ireturn, 1) := by decide +kernel
theorem dX10_next_66 : decode cX10_next 66 = .ok (.iconst 0, 1) := by decide +kernel
theorem dX10_next_67 : decode cX10_next 67 = .ok (.istore 6, 2) := by decide +kernel
theorem dX10_next_69 : decode cX10_next 69 = .ok (.iconst 0, 1) := by decide +kernel
theorem dX10_next_70 : decode cX10_next 70 = .ok (.istore 7, 2) := by decide +kernel
theorem dX10_next_72 : decode cX10_next 72 = .ok (.iload_n 2, 1) := by decide +kernel
theorem dX10_next_73 : decode cX10_next 73 = .ok (.istore 8, 2) := by decide +kernel
theorem dX10_next_75 : decode cX10_next 75 = .ok (.iload 8, 2) := by decide +kernel
theorem dX10_next_77 : decode cX10_next 77 = .ok (.aload 4, 2) := by decide +kernel
theorem dX10_next_79 : decode cX10_next 79 = .ok (.getfield 69, 3) := by decide +kernel
theorem dX10_next_82 : decode cX10_next 82 = .ok (.if_icmp .ge 35, 3) := by decide +kernel
theorem dX10_next_85 : decode cX10_next 85 = .ok (.aload 4, 2) := by decide +kernel
theorem dX10_next_87 : decode cX10_next 87 = .ok (.iload 8, 2) := by decide +kernel
theorem dX10_next_89 : decode cX10_next 89 = .ok (.iload_n 2, 1) := by decide +kernel
theorem dX10_next_90 : decode cX10_next 90 = .ok (.invokevirtual 233, 3) := by decide +kernel
theorem dX10_next_93 : decode cX10_next 93 = .ok (.ifCond .eq 18, 3) := by decide +kernel
theorem dX10_next_96 : decode cX10_next 96 = .ok (.iinc 7 1, 3) := by decide +kernel
theorem dX10_next_99 : decode cX10_next 99 = .ok (.iload 6, 2) := by decide +kernel
theorem dX10_next_101 : decode cX10_next 101 = .ok (.aload 4, 2) := by decide +kernel
theorem dX10_next_103 : decode cX10_next 103 = .ok (.iload 8, 2) := by decide +kernel
theorem dX10_next_105 : decode cX10_next 105 = .ok (.invokevirtual 93, 3) := by decide +kernel
theorem dX10_next_108 : decode cX10_next 108 = .ok (.iadd, 1) := by decide +kernel
theorem dX10_next_109 : decode cX10_next 109 = .ok (.istore 6, 2) := by decide +kernel
theorem dX10_next_111 : decode cX10_next 111 = .ok (.iinc 8 1, 3) := by decide +kernel
theorem dX10_next_114 : decode cX10_next 114 = .ok (.goto (-39), 3) := by decide +kernel
theorem dX10_next_117 : decode cX10_next 117 = .ok (.iload_n 3, 1) := by decide +kernel
theorem dX10_next_118 : decode cX10_next 118 = .ok (.iconst 2, 1) := by decide +kernel
theorem dX10_next_119 : decode cX10_next 119 = .ok (.if_icmp .ge 15, 3) := by decide +kernel
theorem dX10_next_122 : decode cX10_next 122 = .ok (.iload_n 3, 1) := by decide +kernel
theorem dX10_next_123 : decode cX10_next 123 = .ok (.ifCond .ne 8, 3) := by decide +kernel
theorem dX10_next_126 : decode cX10_next 126 = .ok (.iload 6, 2) := by decide +kernel
theorem dX10_next_128 : decode cX10_next 128 = .ok (.goto 5, 3) := by decide +kernel
theorem dX10_next_131 : decode cX10_next 131 = .ok (.iload 7, 2) := by decide +kernel
theorem dX10_next_133 : decode cX10_next 133 = .ok (.ireturn, 1) := by decide +kernel
theorem dX10_next_134 : decode cX10_next 134 = .ok (.iload 6, 2) := by decide +kernel
theorem dX10_next_136 : decode cX10_next 136 = .ok (.iconst 1, 1) := by decide +kernel
theorem dX10_next_137 : decode cX10_next 137 = .ok (.iadd, 1) := by decide +kernel
theorem dX10_next_138 : decode cX10_next 138 = .ok (.i2l, 1) := by decide +kernel
theorem dX10_next_139 : decode cX10_next 139 = .ok (.iload 7, 2) := by decide +kernel
theorem dX10_next_141 : decode cX10_next 141 = .ok (.iconst 2, 1) := by decide +kernel
theorem dX10_next_142 : decode cX10_next 142 = .ok (.iadd, 1) := by decide +kernel
theorem dX10_next_143 : decode cX10_next 143 = .ok (.i2l, 1) := by decide +kernel
theorem dX10_next_144 : decode cX10_next 144 = .ok (.iload_n 3, 1) := by decide +kernel
theorem dX10_next_145 : decode cX10_next 145 = .ok (.iconst 2, 1) := by decide +kernel
theorem dX10_next_146 : decode cX10_next 146 = .ok (.isub, 1) := by decide +kernel
theorem dX10_next_147 : decode cX10_next 147 = .ok (.invokestatic 196, 3) := by decide +kernel
theorem dX10_next_150 : decode cX10_next 150 = .ok (.l2i, 1) := by decide +kernel
theorem dX10_next_151 : decode cX10_next 151 = .ok (.ireturn, 1) := by decide +kernel
theorem dX10_sheet_0 : decode cX10_sheet 0 = .ok (.iload_n 1, 1) := by decide +kernel
theorem dX10_sheet_1 : decode cX10_sheet 1 = .ok (.invokestatic 72, 3) := by decide +kernel
theorem dX10_sheet_4 : decode cX10_sheet 4 = .ok (.ifCond .eq 16, 3) := by decide +kernel
theorem dX10_sheet_7 : decode cX10_sheet 7 = .ok (.iload_n 2, 1) := by decide +kernel
theorem dX10_sheet_8 : decode cX10_sheet 8 = .ok (.invokestatic 236, 3) := by decide +kernel
theorem dX10_sheet_11 : decode cX10_sheet 11 = .ok (.ifCond .eq 9, 3) := by decide +kernel
theorem dX10_sheet_14 : decode cX10_sheet 14 = .ok (.iload_n 3, 1) := by decide +kernel
theorem dX10_sheet_15 : decode cX10_sheet 15 = .ok (.bipush 40, 2) := by decide +kernel
theorem dX10_sheet_17 : decode cX10_sheet 17 = .ok (.if_icmp .le 6, 3) := by decide +kernel
theorem dX10_sheet_20 : decode cX10_sheet 20 = .ok (.bipush (-2), 2) := by decide +kernel
theorem dX10_sheet_22 : decode cX10_sheet 22 = .ok (.ireturn, 1) := by decide +kernel
theorem dX10_sheet_23 : decode cX10_sheet 23 = .ok (.iload_n 3, 1) := by decide +kernel
theorem dX10_sheet_24 : decode cX10_sheet 24 = .ok (.ifCond .ge 9, 3) := by decide +kernel
theorem dX10_sheet_27 : decode cX10_sheet 27 = .ok (.aload_n 0, 1) := by decide +kernel
theorem dX10_sheet_28 : decode cX10_sheet 28 = .ok (.iconst 5, 1) := by decide +kernel
theorem dX10_sheet_29 : decode cX10_sheet 29 = .ok (.invokevirtual 79, 3) := by decide +kernel
theorem dX10_sheet_32 : decode cX10_sheet 32 = .ok (.ireturn, 1) := by decide +kernel
theorem dX10_sheet_33 : decode cX10_sheet 33 = .ok (.aload_n 0, 1) := by decide +kernel
theorem dX10_sheet_34 : decode cX10_sheet 34 = .ok (.getfield 18, 3) := by decide +kernel
theorem dX10_sheet_37 : decode cX10_sheet 37 = .ok (.iload_n 1, 1) := by decide +kernel
theorem dX10_sheet_38 : decode cX10_sheet 38 = .ok (.aaload, 1) := by decide +kernel
theorem dX10_sheet_39 : decode cX10_sheet 39 = .ok (.iload_n 2, 1) := by decide +kernel
theorem dX10_sheet_40 : decode cX10_sheet 40 = .ok (.iload_n 3, 1) := by decide +kernel
theorem dX10_sheet_41 : decode cX10_sheet 41 = .ok (.invokevirtual 239, 3) := by decide +kernel
theorem dX10_sheet_44 : decode cX10_sheet 44 = .ok (.iload_n 3, 1) := by decide +kernel
theorem dX10_sheet_45 : decode cX10_sheet 45 = .ok (.ireturn, 1) := by decide +kernel
theorem dX10_lose_0 : decode cX10_lose 0 = .ok (.iload_n 1, 1) := by decide +kernel
theorem dX10_lose_1 : decode cX10_lose 1 = .ok (.invokestatic 72, 3) := by decide +kernel
theorem dX10_lose_4 : decode cX10_lose 4 = .ok (.ifCond .ne 6, 3) := by decide +kernel
theorem dX10_lose_7 : decode cX10_lose 7 = .ok (.bipush (-2), 2) := by decide +kernel
theorem dX10_lose_9 : decode cX10_lose 9 = .ok (.ireturn, 1) := by decide +kernel
theorem dX10_lose_10 : decode cX10_lose 10 = .ok (.aload_n 0, 1) := by decide +kernel
theorem dX10_lose_11 : decode cX10_lose 11 = .ok (.getfield 18, 3) := by decide +kernel
theorem dX10_lose_14 : decode cX10_lose 14 = .ok (.iload_n 1, 1) := by decide +kernel
theorem dX10_lose_15 : decode cX10_lose 15 = .ok (.aaload, 1) := by decide +kernel
theorem dX10_lose_16 : decode cX10_lose 16 = .ok (.getfield 75, 3) := by decide +kernel
theorem dX10_lose_19 : decode cX10_lose 19 = .ok (.ifCond .eq 9, 3) := by decide +kernel
theorem dX10_lose_22 : decode cX10_lose 22 = .ok (.aload_n 0, 1) := by decide +kernel
theorem dX10_lose_23 : decode cX10_lose 23 = .ok (.iconst 1, 1) := by decide +kernel
theorem dX10_lose_24 : decode cX10_lose 24 = .ok (.invokevirtual 79, 3) := by decide +kernel
theorem dX10_lose_27 : decode cX10_lose 27 = .ok (.ireturn, 1) := by decide +kernel
theorem dX10_lose_28 : decode cX10_lose 28 = .ok (.aload_n 0, 1) := by decide +kernel
theorem dX10_lose_29 : decode cX10_lose 29 = .ok (.getfield 18, 3) := by decide +kernel
theorem dX10_lose_32 : decode cX10_lose 32 = .ok (.iload_n 1, 1) := by decide +kernel
theorem dX10_lose_33 : decode cX10_lose 33 = .ok (.aaload, 1) := by decide +kernel
theorem dX10_lose_34 : decode cX10_lose 34 = .ok (.iconst 1, 1) := by decide +kernel
theorem dX10_lose_35 : decode cX10_lose 35 = .ok (.putfield 75, 3) := by decide +kernel
theorem dX10_lose_38 : decode cX10_lose 38 = .ok (.aload_n 0, 1) := by decide +kernel
theorem dX10_lose_39 : decode cX10_lose 39 = .ok (.getfield 18, 3) := by decide +kernel
theorem dX10_lose_42 : decode cX10_lose 42 = .ok (.iload_n 1, 1) := by decide +kernel
theorem dX10_lose_43 : decode cX10_lose 43 = .ok (.aaload, 1) := by decide +kernel
theorem dX10_lose_44 : decode cX10_lose 44 = .ok (.getfield 83, 3) := by decide +kernel
theorem dX10_lose_47 : decode cX10_lose 47 = .ok (.ireturn, 1) := by decide +kernel
theorem dX10_put_0 : decode cX10_put 0 = .ok (.aload_n 0, 1) := by decide +kernel
theorem dX10_put_1 : decode cX10_put 1 = .ok (.iload_n 1, 1) := by decide +kernel
theorem dX10_put_2 : decode cX10_put 2 = .ok (.iload_n 2, 1) := by decide +kernel
theorem dX10_put_3 : decode cX10_put 3 = .ok (.iload_n 3, 1) := by decide +kernel
theorem dX10_put_4 : decode cX10_put 4 = .ok (.invokevirtual 243, 3) := by decide +kernel
theorem dX10_put_7 : decode cX10_put 7 = .ok (.istore 5, 2) := by decide +kernel
theorem dX10_put_9 : decode cX10_put 9 = .ok (.iload 5, 2) := by decide +kernel
theorem dX10_put_11 : decode cX10_put 11 = .ok (.ifCond .eq 6, 3) := by decide +kernel
theorem dX10_put_14 : decode cX10_put 14 = .ok (.iload 5, 2) := by decide +kernel
theorem dX10_put_16 : decode cX10_put 16 = .ok (.ireturn, 1) := by decide +kernel
theorem dX10_put_17 : decode cX10_put 17 = .ok (.aload_n 0, 1) := by decide +kernel
theorem dX10_put_18 : decode cX10_put 18 = .ok (.getfield 18, 3) := by decide +kernel
theorem dX10_put_21 : decode cX10_put 21 = .ok (.iload_n 1, 1) := by decide +kernel
theorem dX10_put_22 : decode cX10_put 22 = .ok (.aaload, 1) := by decide +kernel
theorem dX10_put_23 : decode cX10_put 23 = .ok (.iload_n 3, 1) := by decide +kernel
theorem dX10_put_24 : decode cX10_put 24 = .ok (.iload 4, 2) := by decide +kernel
theorem dX10_put_26 : decode cX10_put 26 = .ok (.invokevirtual 247, 3) := by decide +kernel
theorem dX10_put_29 : decode cX10_put 29 = .ok (.iconst 1, 1) := by decide +kernel
theorem dX10_put_30 : decode cX10_put 30 = .ok (.ireturn, 1) := by decide +kernel
theorem dX10_get_0 : decode cX10_get 0 = .ok (.aload_n 0, 1) := by decide +kernel
theorem dX10_get_1 : decode cX10_get 1 = .ok (.iload_n 1, 1) := by decide +kernel
theorem dX10_get_2 : decode cX10_get 2 = .ok (.iload_n 2, 1) := by decide +kernel
theorem dX10_get_3 : decode cX10_get 3 = .ok (.iload_n 3, 1) := by decide +kernel
theorem dX10_get_4 : decode cX10_get 4 = .ok (.invokevirtual 243, 3) := by decide +kernel
theorem dX10_get_7 : decode cX10_get 7 = .ok (.ifCond .eq 8, 3) := by decide +kernel
theorem dX10_get_10 : decode cX10_get 10 = .ok (.ldc 250, 2) := by decide +kernel
theorem dX10_get_12 : decode cX10_get 12 = .ok (.goto 14, 3) := by decide +kernel
theorem dX10_get_15 : decode cX10_get 15 = .ok (.aload_n 0, 1) := by decide +kernel
theorem dX10_get_16 : decode cX10_get 16 = .ok (.getfield 18, 3) := by decide +kernel
theorem dX10_get_19 : decode cX10_get 19 = .ok (.iload_n 1, 1) := by decide +kernel
theorem dX10_get_20 : decode cX10_get 20 = .ok (.aaload, 1) := by decide +kernel
theorem dX10_get_21 : decode cX10_get 21 = .ok (.getfield 86, 3) := by decide +kernel
theorem dX10_get_24 : decode cX10_get 24 = .ok (.iload_n 3, 1) := by decide +kernel
theorem dX10_get_25 : decode cX10_get 25 = .ok (.iaload, 1) := by decide +kernel
theorem dX10_get_26 : decode cX10_get 26 = .ok (.ireturn, 1) := by decide +kernel
theorem dX10_copy_0 : decode cX10_copy 0 = .ok (.iload_n 1, 1) := by decide +kernel
theorem dX10_copy_1 : decode cX10_copy 1 = .ok (.invokestatic 72, 3) := by decide +kernel
theorem dX10_copy_4 : decode cX10_copy 4 = .ok (.ifCond .eq 10, 3) := by decide +kernel
theorem dX10_copy_7 : decode cX10_copy 7 = .ok (.iload_n 3, 1) := by decide +kernel
theorem dX10_copy_8 : decode cX10_copy 8 = .ok (.invokestatic 72, 3) := by decide +kernel
theorem dX10_copy_11 : decode cX10_copy 11 = .ok (.ifCond .ne 6, 3) := by decide +kernel
theorem dX10_copy_14 : decode cX10_copy 14 = .ok (.bipush (-2), 2) := by decide +kernel
theorem dX10_copy_16 : decode cX10_copy 16 = .ok (.ireturn, 1) := by decide +kernel
theorem dX10_copy_17 : decode cX10_copy 17 = .ok (.aload_n 0, 1) := by decide +kernel
theorem dX10_copy_18 : decode cX10_copy 18 = .ok (.getfield 18, 3) := by decide +kernel
theorem dX10_copy_21 : decode cX10_copy 21 = .ok (.iload_n 1, 1) := by decide +kernel
theorem dX10_copy_22 : decode cX10_copy 22 = .ok (.aaload, 1) := by decide +kernel
theorem dX10_copy_23 : decode cX10_copy 23 = .ok (.astore 6, 2) := by decide +kernel
theorem dX10_copy_25 : decode cX10_copy 25 = .ok (.aload_n 0, 1) := by decide +kernel
theorem dX10_copy_26 : decode cX10_copy 26 = .ok (.getfield 18, 3) := by decide +kernel
theorem dX10_copy_29 : decode cX10_copy 29 = .ok (.iload_n 3, 1) := by decide +kernel
theorem dX10_copy_30 : decode cX10_copy 30 = .ok (.aaload, 1) := by decide +kernel
theorem dX10_copy_31 : decode cX10_copy 31 = .ok (.astore 7, 2) := by decide +kernel
theorem dX10_copy_33 : decode cX10_copy 33 = .ok (.aload 6, 2) := by decide +kernel
theorem dX10_copy_35 : decode cX10_copy 35 = .ok (.getfield 75, 3) := by decide +kernel
theorem dX10_copy_38 : decode cX10_copy 38 = .ok (.ifCond .ne 11, 3) := by decide +kernel
theorem dX10_copy_41 : decode cX10_copy 41 = .ok (.aload 7, 2) := by decide +kernel
theorem dX10_copy_43 : decode cX10_copy 43 = .ok (.getfield 75, 3) := by decide +kernel
theorem dX10_copy_46 : decode cX10_copy 46 = .ok (.ifCond .eq 9, 3) := by decide +kernel
theorem dX10_copy_49 : decode cX10_copy 49 = .ok (.aload_n 0, 1) := by decide +kernel
theorem dX10_copy_50 : decode cX10_copy 50 = .ok (.iconst 1, 1) := by decide +kernel
theorem dX10_copy_51 : decode cX10_copy 51 = .ok (.invokevirtual 79, 3) := by decide +kernel
theorem dX10_copy_54 : decode cX10_copy 54 = .ok (.ireturn, 1) := by decide +kernel
theorem dX10_copy_55 : decode cX10_copy 55 = .ok (.aload 6, 2) := by decide +kernel
theorem dX10_copy_57 : decode cX10_copy 57 = .ok (.getfield 251, 3) := by decide +kernel
theorem dX10_copy_60 : decode cX10_copy 60 = .ok (.aload 7, 2) := by decide +kernel
theorem dX10_copy_62 : decode cX10_copy 62 = .ok (.getfield 251, 3) := by decide +kernel
theorem dX10_copy_65 : decode cX10_copy 65 = .ok (.if_icmp .eq 9, 3) := by decide +kernel
theorem dX10_copy_68 : decode cX10_copy 68 = .ok (.aload_n 0, 1) := by decide +kernel
theorem dX10_copy_69 : decode cX10_copy 69 = .ok (.iconst 4, 1) := by decide +kernel
theorem dX10_copy_70 : decode cX10_copy 70 = .ok (.invokevirtual 79, 3) := by decide +kernel
theorem dX10_copy_73 : decode cX10_copy 73 = .ok (.ireturn, 1) := by decide +kernel
theorem dX10_copy_74 : decode cX10_copy 74 = .ok (.aload 6, 2) := by decide +kernel
theorem dX10_copy_76 : decode cX10_copy 76 = .ok (.iload_n 2, 1) := by decide +kernel
theorem dX10_copy_77 : decode cX10_copy 77 = .ok (.iload 5, 2) := by decide +kernel
theorem dX10_copy_79 : decode cX10_copy 79 = .ok (.invokevirtual 254, 3) := by decide +kernel
theorem dX10_copy_82 : decode cX10_copy 82 = .ok (.ifCond .eq 15, 3) := by decide +kernel
theorem dX10_copy_85 : decode cX10_copy 85 = .ok (.aload 7, 2) := by decide +kernel
theorem dX10_copy_87 : decode cX10_copy 87 = .ok (.iload 4, 2) := by decide +kernel
theorem dX10_copy_89 : decode cX10_copy 89 = .ok (.iload 5, 2) := by decide +kernel
theorem dX10_copy_91 : decode cX10_copy 91 = .ok (.invokevirtual 254, 3) := by decide +kernel
theorem dX10_copy_94 : decode cX10_copy 94 = .ok (.ifCond .ne 9, 3) := by decide +kernel
theorem dX10_copy_97 : decode cX10_copy 97 = .ok (.aload_n 0, 1) := by decide +kernel
theorem dX10_copy_98 : decode cX10_copy 98 = .ok (.iconst 2, 1) := by decide +kernel
theorem dX10_copy_99 : decode cX10_copy 99 = .ok (.invokevirtual 79, 3) := by decide +kernel
theorem dX10_copy_102 : decode cX10_copy 102 = .ok (.ireturn, 1) := by decide +kernel
theorem dX10_copy_103 : decode cX10_copy 103 = .ok (.aload 6, 2) := by decide +kernel
theorem dX10_copy_105 : decode cX10_copy 105 = .ok (.getfield 86, 3) := by decide +kernel
theorem dX10_copy_108 : decode cX10_copy 108 = .ok (.iload_n 2, 1) := by decide +kernel
theorem dX10_copy_109 : decode cX10_copy 109 = .ok (.aload 7, 2) := by decide +kernel
theorem dX10_copy_111 : decode cX10_copy 111 = .ok (.getfield 86, 3) := by decide +kernel
theorem dX10_copy_114 : decode cX10_copy 114 = .ok (.iload 4, 2) := by decide +kernel
theorem dX10_copy_116 : decode cX10_copy 116 = .ok (.iload 5, 2) := by decide +kernel
theorem dX10_copy_118 : decode cX10_copy 118 = .ok (.invokestatic 257, 3) := by decide +kernel
theorem dX10_copy_121 : decode cX10_copy 121 = .ok (.iconst 1, 1) := by decide +kernel
theorem dX10_copy_122 : decode cX10_copy 122 = .ok (.ireturn, 1) := by decide +kernel
theorem dX10_write_0 : decode cX10_write 0 = .ok (.iload_n 1, 1) := by decide +kernel
theorem dX10_write_1 : decode cX10_write 1 = .ok (.invokestatic 54, 3) := by decide +kernel
theorem dX10_write_4 : decode cX10_write 4 = .ok (.ifCond .eq 10, 3) := by decide +kernel
theorem dX10_write_7 : decode cX10_write 7 = .ok (.iload_n 2, 1) := by decide +kernel
theorem dX10_write_8 : decode cX10_write 8 = .ok (.invokestatic 72, 3) := by decide +kernel
theorem dX10_write_11 : decode cX10_write 11 = .ok (.ifCond .ne 6, 3) := by decide +kernel
theorem dX10_write_14 : decode cX10_write 14 = .ok (.bipush (-2), 2) := by decide +kernel
theorem dX10_write_16 : decode cX10_write 16 = .ok (.ireturn, 1) := by decide +kernel
theorem dX10_write_17 : decode cX10_write 17 = .ok (.aload_n 0, 1) := by decide +kernel
theorem dX10_write_18 : decode cX10_write 18 = .ok (.getfield 18, 3) := by decide +kernel
theorem dX10_write_21 : decode cX10_write 21 = .ok (.iload_n 2, 1) := by decide +kernel
theorem dX10_write_22 : decode cX10_write 22 = .ok (.aaload, 1) := by decide +kernel
theorem dX10_write_23 : decode cX10_write 23 = .ok (.astore_n 3, 1) := by decide +kernel
theorem dX10_write_24 : decode cX10_write 24 = .ok (.aload_n 3, 1) := by decide +kernel
theorem dX10_write_25 : decode cX10_write 25 = .ok (.getfield 75, 3) := by decide +kernel
theorem dX10_write_28 : decode cX10_write 28 = .ok (.ifCond .eq 9, 3) := by decide +kernel
theorem dX10_write_31 : decode cX10_write 31 = .ok (.aload_n 0, 1) := by decide +kernel
theorem dX10_write_32 : decode cX10_write 32 = .ok (.iconst 1, 1) := by decide +kernel
theorem dX10_write_33 : decode cX10_write 33 = .ok (.invokevirtual 79, 3) := by decide +kernel
theorem dX10_write_36 : decode cX10_write 36 = .ok (.ireturn, 1) := by decide +kernel
theorem dX10_write_37 : decode cX10_write 37 = .ok (.aload_n 3, 1) := by decide +kernel
theorem dX10_write_38 : decode cX10_write 38 = .ok (.getfield 83, 3) := by decide +kernel
theorem dX10_write_41 : decode cX10_write 41 = .ok (.aload_n 0, 1) := by decide +kernel
theorem dX10_write_42 : decode cX10_write 42 = .ok (.getfield 11, 3) := by decide +kernel
theorem dX10_write_45 : decode cX10_write 45 = .ok (.iload_n 1, 1) := by decide +kernel
theorem dX10_write_46 : decode cX10_write 46 = .ok (.aaload, 1) := by decide +kernel
theorem dX10_write_47 : decode cX10_write 47 = .ok (.getfield 69, 3) := by decide +kernel
theorem dX10_write_50 : decode cX10_write 50 = .ok (.invokestatic 263, 3) := by decide +kernel
theorem dX10_write_53 : decode cX10_write 53 = .ok (.istore 4, 2) := by decide +kernel
theorem dX10_write_55 : decode cX10_write 55 = .ok (.iconst 0, 1) := by decide +kernel
theorem dX10_write_56 : decode cX10_write 56 = .ok (.istore 5, 2) := by decide +kernel
theorem dX10_write_58 : decode cX10_write 58 = .ok (.iload 5, 2) := by decide +kernel
theorem dX10_write_60 : decode cX10_write 60 = .ok (.iload 4, 2) := by decide +kernel
theorem dX10_write_62 : decode cX10_write 62 = .ok (.if_icmp .ge 26, 3) := by decide +kernel
theorem dX10_write_65 : decode cX10_write 65 = .ok (.aload_n 3, 1) := by decide +kernel
theorem dX10_write_66 : decode cX10_write 66 = .ok (.iload 5, 2) := by decide +kernel
theorem dX10_write_68 : decode cX10_write 68 = .ok (.aload_n 0, 1) := by decide +kernel
theorem dX10_write_69 : decode cX10_write 69 = .ok (.getfield 11, 3) := by decide +kernel
theorem dX10_write_72 : decode cX10_write 72 = .ok (.iload_n 1, 1) := by decide +kernel
theorem dX10_write_73 : decode cX10_write 73 = .ok (.aaload, 1) := by decide +kernel
theorem dX10_write_74 : decode cX10_write 74 = .ok (.iload 5, 2) := by decide +kernel
theorem dX10_write_76 : decode cX10_write 76 = .ok (.invokevirtual 93, 3) := by decide +kernel
theorem dX10_write_79 : decode cX10_write 79 = .ok (.invokevirtual 247, 3) := by decide +kernel
theorem dX10_write_82 : decode cX10_write 82 = .ok (.iinc 5 1, 3) := by decide +kernel
theorem dX10_write_85 : decode cX10_write 85 = .ok (.goto (-27), 3) := by decide +kernel
theorem dX10_write_88 : decode cX10_write 88 = .ok (.iload 4, 2) := by decide +kernel
theorem dX10_write_90 : decode cX10_write 90 = .ok (.ireturn, 1) := by decide +kernel
theorem dX10_count_0 : decode cX10_count 0 = .ok (.iload_n 1, 1) := by decide +kernel
theorem dX10_count_1 : decode cX10_count 1 = .ok (.invokestatic 54, 3) := by decide +kernel
theorem dX10_count_4 : decode cX10_count 4 = .ok (.ifCond .eq 13, 3) := by decide +kernel
theorem dX10_count_7 : decode cX10_count 7 = .ok (.aload_n 0, 1) := by decide +kernel
theorem dX10_count_8 : decode cX10_count 8 = .ok (.getfield 11, 3) := by decide +kernel
theorem dX10_count_11 : decode cX10_count 11 = .ok (.iload_n 1, 1) := by decide +kernel
theorem dX10_count_12 : decode cX10_count 12 = .ok (.aaload, 1) := by decide +kernel
theorem dX10_count_13 : decode cX10_count 13 = .ok (.getfield 69, 3) := by decide +kernel
theorem dX10_count_16 : decode cX10_count 16 = .ok (.ireturn, 1) := by decide +kernel
theorem dX10_count_17 : decode cX10_count 17 = .ok (.iload_n 1, 1) := by decide +kernel
theorem dX10_count_18 : decode cX10_count 18 = .ok (.tableswitch 62 4 8 #[34, 42, 47, 52, 57], 34) := by decide +kernel
theorem dX10_count_52 : decode cX10_count 52 = .ok (.aload_n 0, 1) := by decide +kernel
theorem dX10_count_53 : decode cX10_count 53 = .ok (.getfield 26, 3) := by decide +kernel
theorem dX10_count_56 : decode cX10_count 56 = .ok (.getfield 109, 3) := by decide +kernel
theorem dX10_count_59 : decode cX10_count 59 = .ok (.ireturn, 1) := by decide +kernel
theorem dX10_count_60 : decode cX10_count 60 = .ok (.aload_n 0, 1) := by decide +kernel
theorem dX10_count_61 : decode cX10_count 61 = .ok (.getfield 44, 3) := by decide +kernel
theorem dX10_count_64 : decode cX10_count 64 = .ok (.ireturn, 1) := by decide +kernel
theorem dX10_count_65 : decode cX10_count 65 = .ok (.aload_n 0, 1) := by decide +kernel
theorem dX10_count_66 : decode cX10_count 66 = .ok (.getfield 48, 3) := by decide +kernel
theorem dX10_count_69 : decode cX10_count 69 = .ok (.ireturn, 1) := by decide +kernel
theorem dX10_count_70 : decode cX10_count 70 = .ok (.aload_n 0, 1) := by decide +kernel
theorem dX10_count_71 : decode cX10_count 71 = .ok (.invokevirtual 268, 3) := by decide +kernel
theorem dX10_count_74 : decode cX10_count 74 = .ok (.ireturn, 1) := by decide +kernel
theorem dX10_count_75 : decode cX10_count 75 = .ok (.aload_n 0, 1) := by decide +kernel
theorem dX10_count_76 : decode cX10_count 76 = .ok (.getfield 51, 3) := by decide +kernel
theorem dX10_count_79 : decode cX10_count 79 = .ok (.ireturn, 1) := by decide +kernel
theorem dX10_count_80 : decode cX10_count 80 = .ok (.bipush (-2), 2) := by decide +kernel
theorem dX10_count_82 : decode cX10_count 82 = .ok (.ireturn, 1) := by decide +kernel
theorem dX10_digest_0 : decode cX10_digest 0 = .ok (.ldc2_w 271, 3) := by decide +kernel
theorem dX10_digest_3 : decode cX10_digest 3 = .ok (.lstore_n 1, 1) := by decide +kernel
theorem dX10_digest_4 : decode cX10_digest 4 = .ok (.iconst 0, 1) := by decide +kernel
theorem dX10_digest_5 : decode cX10_digest 5 = .ok (.istore_n 3, 1) := by decide +kernel
theorem dX10_digest_6 : decode cX10_digest 6 = .ok (.iload_n 3, 1) := by decide +kernel
theorem dX10_digest_7 : decode cX10_digest 7 = .ok (.bipush 7, 2) := by decide +kernel
theorem dX10_digest_9 : decode cX10_digest 9 = .ok (.if_icmp .gt 22, 3) := by decide +kernel
theorem dX10_digest_12 : decode cX10_digest 12 = .ok (.ldc2_w 273, 3) := by decide +kernel
theorem dX10_digest_15 : decode cX10_digest 15 = .ok (.lload_n 1, 1) := by decide +kernel
theorem dX10_digest_16 : decode cX10_digest 16 = .ok (.lmul, 1) := by decide +kernel
theorem dX10_digest_17 : decode cX10_digest 17 = .ok (.aload_n 0, 1) := by decide +kernel
theorem dX10_digest_18 : decode cX10_digest 18 = .ok (.iload_n 3, 1) := by decide +kernel
theorem dX10_digest_19 : decode cX10_digest 19 = .ok (.invokevirtual 275, 3) := by decide +kernel
theorem dX10_digest_22 : decode cX10_digest 22 = .ok (.i2l, 1) := by decide +kernel
theorem dX10_digest_23 : decode cX10_digest 23 = .ok (.ladd, 1) := by decide +kernel
theorem dX10_digest_24 : decode cX10_digest 24 = .ok (.lstore_n 1, 1) := by decide +kernel
theorem dX10_digest_25 : decode cX10_digest 25 = .ok (.iinc 3 1, 3) := by decide +kernel
theorem dX10_digest_28 : decode cX10_digest 28 = .ok (.goto (-22), 3) := by decide +kernel
theorem dX10_digest_31 : decode cX10_digest 31 = .ok (.iconst 0, 1) := by decide +kernel
theorem dX10_digest_32 : decode cX10_digest 32 = .ok (.istore_n 3, 1) := by decide +kernel
theorem dX10_digest_33 : decode cX10_digest 33 = .ok (.iload_n 3, 1) := by decide +kernel
theorem dX10_digest_34 : decode cX10_digest 34 = .ok (.iconst 4, 1) := by decide +kernel
theorem dX10_digest_35 : decode cX10_digest 35 = .ok (.if_icmp .ge 82, 3) := by decide +kernel
theorem dX10_digest_38 : decode cX10_digest 38 = .ok (.iconst 0, 1) := by decide +kernel
theorem dX10_digest_39 : decode cX10_digest 39 = .ok (.istore 4, 2) := by decide +kernel
theorem dX10_digest_41 : decode cX10_digest 41 = .ok (.iload 4, 2) := by decide +kernel
theorem dX10_digest_43 : decode cX10_digest 43 = .ok (.aload_n 0, 1) := by decide +kernel
theorem dX10_digest_44 : decode cX10_digest 44 = .ok (.getfield 11, 3) := by decide +kernel
theorem dX10_digest_47 : decode cX10_digest 47 = .ok (.iload_n 3, 1) := by decide +kernel
theorem dX10_digest_48 : decode cX10_digest 48 = .ok (.aaload, 1) := by decide +kernel
theorem dX10_digest_49 : decode cX10_digest 49 = .ok (.getfield 69, 3) := by decide +kernel
theorem dX10_digest_52 : decode cX10_digest 52 = .ok (.if_icmp .ge 28, 3) := by decide +kernel
theorem dX10_digest_55 : decode cX10_digest 55 = .ok (.ldc2_w 273, 3) := by decide +kernel
theorem dX10_digest_58 : decode cX10_digest 58 = .ok (.lload_n 1, 1) := by decide +kernel
theorem dX10_digest_59 : decode cX10_digest 59 = .ok (.lmul, 1) := by decide +kernel
theorem dX10_digest_60 : decode cX10_digest 60 = .ok (.aload_n 0, 1) := by decide +kernel
theorem dX10_digest_61 : decode cX10_digest 61 = .ok (.getfield 11, 3) := by decide +kernel
theorem dX10_digest_64 : decode cX10_digest 64 = .ok (.iload_n 3, 1) := by decide +kernel
theorem dX10_digest_65 : decode cX10_digest 65 = .ok (.aaload, 1) := by decide +kernel
theorem dX10_digest_66 : decode cX10_digest 66 = .ok (.iload 4, 2) := by decide +kernel
theorem dX10_digest_68 : decode cX10_digest 68 = .ok (.invokevirtual 93, 3) := by decide +kernel
theorem dX10_digest_71 : decode cX10_digest 71 = .ok (.i2l, 1) := by decide +kernel
theorem dX10_digest_72 : decode cX10_digest 72 = .ok (.ladd, 1) := by decide +kernel
theorem dX10_digest_73 : decode cX10_digest 73 = .ok (.lstore_n 1, 1) := by decide +kernel
theorem dX10_digest_74 : decode cX10_digest 74 = .ok (.iinc 4 1, 3) := by decide +kernel
theorem dX10_digest_77 : decode cX10_digest 77 = .ok (.goto (-36), 3) := by decide +kernel
theorem dX10_digest_80 : decode cX10_digest 80 = .ok (.iconst 0, 1) := by decide +kernel
theorem dX10_digest_81 : decode cX10_digest 81 = .ok (.istore 4, 2) := by decide +kernel
theorem dX10_digest_83 : decode cX10_digest 83 = .ok (.iload 4, 2) := by decide +kernel
theorem dX10_digest_85 : decode cX10_digest 85 = .ok (.bipush 7, 2) := by decide +kernel
theorem dX10_digest_87 : decode cX10_digest 87 = .ok (.if_icmp .ge 24, 3) := by decide +kernel
theorem dX10_digest_90 : decode cX10_digest 90 = .ok (.ldc2_w 273, 3) := by decide +kernel
theorem dX10_digest_93 : decode cX10_digest 93 = .ok (.lload_n 1, 1) := by decide +kernel
theorem dX10_digest_94 : decode cX10_digest 94 = .ok (.lmul, 1) := by decide +kernel
theorem dX10_digest_95 : decode cX10_digest 95 = .ok (.aload_n 0, 1) := by decide +kernel
theorem dX10_digest_96 : decode cX10_digest 96 = .ok (.iload_n 3, 1) := by decide +kernel
theorem dX10_digest_97 : decode cX10_digest 97 = .ok (.iload 4, 2) := by decide +kernel
theorem dX10_digest_99 : decode cX10_digest 99 = .ok (.invokevirtual 278, 3) := by decide +kernel
theorem dX10_digest_102 : decode cX10_digest 102 = .ok (.i2l, 1) := by decide +kernel
theorem dX10_digest_103 : decode cX10_digest 103 = .ok (.ladd, 1) := by decide +kernel
theorem dX10_digest_104 : decode cX10_digest 104 = .ok (.lstore_n 1, 1) := by decide +kernel
theorem dX10_digest_105 : decode cX10_digest 105 = .ok (.iinc 4 1, 3) := by decide +kernel
theorem dX10_digest_108 : decode cX10_digest 108 = .ok (.goto (-25), 3) := by decide +kernel
theorem dX10_digest_111 : decode cX10_digest 111 = .ok (.iinc 3 1, 3) := by decide +kernel
theorem dX10_digest_114 : decode cX10_digest 114 = .ok (.goto (-81), 3) := by decide +kernel
theorem dX10_digest_117 : decode cX10_digest 117 = .ok (.ldc2_w 273, 3) := by decide +kernel
theorem dX10_digest_120 : decode cX10_digest 120 = .ok (.lload_n 1, 1) := by decide +kernel
theorem dX10_digest_121 : decode cX10_digest 121 = .ok (.lmul, 1) := by decide +kernel
theorem dX10_digest_122 : decode cX10_digest 122 = .ok (.aload_n 0, 1) := by decide +kernel
theorem dX10_digest_123 : decode cX10_digest 123 = .ok (.invokevirtual 281, 3) := by decide +kernel
theorem dX10_digest_126 : decode cX10_digest 126 = .ok (.i2l, 1) := by decide +kernel
theorem dX10_digest_127 : decode cX10_digest 127 = .ok (.ladd, 1) := by decide +kernel
theorem dX10_digest_128 : decode cX10_digest 128 = .ok (.lstore_n 1, 1) := by decide +kernel
theorem dX10_digest_129 : decode cX10_digest 129 = .ok (.ldc2_w 273, 3) := by decide +kernel
theorem dX10_digest_132 : decode cX10_digest 132 = .ok (.lload_n 1, 1) := by decide +kernel
theorem dX10_digest_133 : decode cX10_digest 133 = .ok (.lmul, 1) := by decide +kernel
theorem dX10_digest_134 : decode cX10_digest 134 = .ok (.aload_n 0, 1) := by decide +kernel
theorem dX10_digest_135 : decode cX10_digest 135 = .ok (.bipush 10, 2) := by decide +kernel
theorem dX10_digest_137 : decode cX10_digest 137 = .ok (.iconst (-1), 1) := by decide +kernel
theorem dX10_digest_138 : decode cX10_digest 138 = .ok (.invokevirtual 284, 3) := by decide +kernel
theorem dX10_digest_141 : decode cX10_digest 141 = .ok (.i2l, 1) := by decide +kernel
theorem dX10_digest_142 : decode cX10_digest 142 = .ok (.ladd, 1) := by decide +kernel
theorem dX10_digest_143 : decode cX10_digest 143 = .ok (.lstore_n 1, 1) := by decide +kernel
theorem dX10_digest_144 : decode cX10_digest 144 = .ok (.ldc2_w 273, 3) := by decide +kernel
theorem dX10_digest_147 : decode cX10_digest 147 = .ok (.lload_n 1, 1) := by decide +kernel
theorem dX10_digest_148 : decode cX10_digest 148 = .ok (.lmul, 1) := by decide +kernel
theorem dX10_digest_149 : decode cX10_digest 149 = .ok (.aload_n 0, 1) := by decide +kernel
theorem dX10_digest_150 : decode cX10_digest 150 = .ok (.iconst 0, 1) := by decide +kernel
theorem dX10_digest_151 : decode cX10_digest 151 = .ok (.invokevirtual 287, 3) := by decide +kernel
theorem dX10_digest_154 : decode cX10_digest 154 = .ok (.ladd, 1) := by decide +kernel
theorem dX10_digest_155 : decode cX10_digest 155 = .ok (.lstore_n 1, 1) := by decide +kernel
theorem dX10_digest_156 : decode cX10_digest 156 = .ok (.ldc2_w 273, 3) := by decide +kernel
theorem dX10_digest_159 : decode cX10_digest 159 = .ok (.lload_n 1, 1) := by decide +kernel
theorem dX10_digest_160 : decode cX10_digest 160 = .ok (.lmul, 1) := by decide +kernel
theorem dX10_digest_161 : decode cX10_digest 161 = .ok (.aload_n 0, 1) := by decide +kernel
theorem dX10_digest_162 : decode cX10_digest 162 = .ok (.iconst 1, 1) := by decide +kernel
theorem dX10_digest_163 : decode cX10_digest 163 = .ok (.invokevirtual 287, 3) := by decide +kernel
theorem dX10_digest_166 : decode cX10_digest 166 = .ok (.ladd, 1) := by decide +kernel
theorem dX10_digest_167 : decode cX10_digest 167 = .ok (.lstore_n 1, 1) := by decide +kernel
theorem dX10_digest_168 : decode cX10_digest 168 = .ok (.ldc2_w 273, 3) := by decide +kernel
theorem dX10_digest_171 : decode cX10_digest 171 = .ok (.lload_n 1, 1) := by decide +kernel
theorem dX10_digest_172 : decode cX10_digest 172 = .ok (.lmul, 1) := by decide +kernel
theorem dX10_digest_173 : decode cX10_digest 173 = .ok (.aload_n 0, 1) := by decide +kernel
theorem dX10_digest_174 : decode cX10_digest 174 = .ok (.iconst 0, 1) := by decide +kernel
theorem dX10_digest_175 : decode cX10_digest 175 = .ok (.iconst 0, 1) := by decide +kernel
theorem dX10_digest_176 : decode cX10_digest 176 = .ok (.invokevirtual 290, 3) := by decide +kernel
theorem dX10_digest_179 : decode cX10_digest 179 = .ok (.i2l, 1) := by decide +kernel
theorem dX10_digest_180 : decode cX10_digest 180 = .ok (.ladd, 1) := by decide +kernel
theorem dX10_digest_181 : decode cX10_digest 181 = .ok (.lreturn, 1) := by decide +kernel
theorem dX10_isRow_0 : decode cX10_isRow 0 = .ok (.iload_n 0, 1) := by decide +kernel
theorem dX10_isRow_1 : decode cX10_isRow 1 = .ok (.ifCond .lt 12, 3) := by decide +kernel
theorem dX10_isRow_4 : decode cX10_isRow 4 = .ok (.iload_n 0, 1) := by decide +kernel
theorem dX10_isRow_5 : decode cX10_isRow 5 = .ok (.iconst 4, 1) := by decide +kernel
theorem dX10_isRow_6 : decode cX10_isRow 6 = .ok (.if_icmp .ge 7, 3) := by decide +kernel
theorem dX10_isRow_9 : decode cX10_isRow 9 = .ok (.iconst 1, 1) := by decide +kernel
theorem dX10_isRow_10 : decode cX10_isRow 10 = .ok (.goto 4, 3) := by decide +kernel
theorem dX10_isRow_13 : decode cX10_isRow 13 = .ok (.iconst 0, 1) := by decide +kernel
theorem dX10_isRow_14 : decode cX10_isRow 14 = .ok (.ireturn, 1) := by decide +kernel
theorem dX10_isSheet_0 : decode cX10_isSheet 0 = .ok (.iload_n 0, 1) := by decide +kernel
theorem dX10_isSheet_1 : decode cX10_isSheet 1 = .ok (.ifCond .lt 12, 3) := by decide +kernel
theorem dX10_isSheet_4 : decode cX10_isSheet 4 = .ok (.iload_n 0, 1) := by decide +kernel
theorem dX10_isSheet_5 : decode cX10_isSheet 5 = .ok (.iconst 4, 1) := by decide +kernel
theorem dX10_isSheet_6 : decode cX10_isSheet 6 = .ok (.if_icmp .ge 7, 3) := by decide +kernel
theorem dX10_isSheet_9 : decode cX10_isSheet 9 = .ok (.iconst 1, 1) := by decide +kernel
theorem dX10_isSheet_10 : decode cX10_isSheet 10 = .ok (.goto 4, 3) := by decide +kernel
theorem dX10_isSheet_13 : decode cX10_isSheet 13 = .ok (.iconst 0, 1) := by decide +kernel
theorem dX10_isSheet_14 : decode cX10_isSheet 14 = .ok (.ireturn, 1) := by decide +kernel
theorem dX10_isType_0 : decode cX10_isType 0 = .ok (.iload_n 0, 1) := by decide +kernel
theorem dX10_isType_1 : decode cX10_isType 1 = .ok (.ifCond .lt 12, 3) := by decide +kernel
theorem dX10_isType_4 : decode cX10_isType 4 = .ok (.iload_n 0, 1) := by decide +kernel
theorem dX10_isType_5 : decode cX10_isType 5 = .ok (.iconst 3, 1) := by decide +kernel
theorem dX10_isType_6 : decode cX10_isType 6 = .ok (.if_icmp .ge 7, 3) := by decide +kernel
theorem dX10_isType_9 : decode cX10_isType 9 = .ok (.iconst 1, 1) := by decide +kernel
theorem dX10_isType_10 : decode cX10_isType 10 = .ok (.goto 4, 3) := by decide +kernel
theorem dX10_isType_13 : decode cX10_isType 13 = .ok (.iconst 0, 1) := by decide +kernel
theorem dX10_isType_14 : decode cX10_isType 14 = .ok (.ireturn, 1) := by decide +kernel
theorem dX10_isNumber_0 : decode cX10_isNumber 0 = .ok (.iload_n 0, 1) := by decide +kernel
theorem dX10_isNumber_1 : decode cX10_isNumber 1 = .ok (.ifCond .lt 13, 3) := by decide +kernel
theorem dX10_isNumber_4 : decode cX10_isNumber 4 = .ok (.iload_n 0, 1) := by decide +kernel
theorem dX10_isNumber_5 : decode cX10_isNumber 5 = .ok (.bipush 7, 2) := by decide +kernel
theorem dX10_isNumber_7 : decode cX10_isNumber 7 = .ok (.if_icmp .ge 7, 3) := by decide +kernel
theorem dX10_isNumber_10 : decode cX10_isNumber 10 = .ok (.iconst 1, 1) := by decide +kernel
theorem dX10_isNumber_11 : decode cX10_isNumber 11 = .ok (.goto 4, 3) := by decide +kernel
theorem dX10_isNumber_14 : decode cX10_isNumber 14 = .ok (.iconst 0, 1) := by decide +kernel
theorem dX10_isNumber_15 : decode cX10_isNumber 15 = .ok (.ireturn, 1) := by decide +kernel
theorem dX10_isLength_0 : decode cX10_isLength 0 = .ok (.iload_n 0, 1) := by decide +kernel
theorem dX10_isLength_1 : decode cX10_isLength 1 = .ok (.ifCond .lt 13, 3) := by decide +kernel
theorem dX10_isLength_4 : decode cX10_isLength 4 = .ok (.iload_n 0, 1) := by decide +kernel
theorem dX10_isLength_5 : decode cX10_isLength 5 = .ok (.bipush 15, 2) := by decide +kernel
theorem dX10_isLength_7 : decode cX10_isLength 7 = .ok (.if_icmp .gt 7, 3) := by decide +kernel
theorem dX10_isLength_10 : decode cX10_isLength 10 = .ok (.iconst 1, 1) := by decide +kernel
theorem dX10_isLength_11 : decode cX10_isLength 11 = .ok (.goto 4, 3) := by decide +kernel
theorem dX10_isLength_14 : decode cX10_isLength 14 = .ok (.iconst 0, 1) := by decide +kernel
theorem dX10_isLength_15 : decode cX10_isLength 15 = .ok (.ireturn, 1) := by decide +kernel
theorem dX10_isPart_0 : decode cX10_isPart 0 = .ok (.iload_n 0, 1) := by decide +kernel
theorem dX10_isPart_1 : decode cX10_isPart 1 = .ok (.ifCond .eq 8, 3) := by decide +kernel
theorem dX10_isPart_4 : decode cX10_isPart 4 = .ok (.iload_n 0, 1) := by decide +kernel
theorem dX10_isPart_5 : decode cX10_isPart 5 = .ok (.iconst 1, 1) := by decide +kernel
theorem dX10_isPart_6 : decode cX10_isPart 6 = .ok (.if_icmp .ne 7, 3) := by decide +kernel
theorem dX10_isPart_9 : decode cX10_isPart 9 = .ok (.iconst 1, 1) := by decide +kernel
theorem dX10_isPart_10 : decode cX10_isPart 10 = .ok (.goto 4, 3) := by decide +kernel
theorem dX10_isPart_13 : decode cX10_isPart 13 = .ok (.iconst 0, 1) := by decide +kernel
theorem dX10_isPart_14 : decode cX10_isPart 14 = .ok (.ireturn, 1) := by decide +kernel
theorem dX10_isBehind_0 : decode cX10_isBehind 0 = .ok (.iload_n 0, 1) := by decide +kernel
theorem dX10_isBehind_1 : decode cX10_isBehind 1 = .ok (.iconst 1, 1) := by decide +kernel
theorem dX10_isBehind_2 : decode cX10_isBehind 2 = .ok (.if_icmp .lt 12, 3) := by decide +kernel
theorem dX10_isBehind_5 : decode cX10_isBehind 5 = .ok (.iload_n 0, 1) := by decide +kernel
theorem dX10_isBehind_6 : decode cX10_isBehind 6 = .ok (.iconst 4, 1) := by decide +kernel
theorem dX10_isBehind_7 : decode cX10_isBehind 7 = .ok (.if_icmp .gt 7, 3) := by decide +kernel
theorem dX10_isBehind_10 : decode cX10_isBehind 10 = .ok (.iconst 1, 1) := by decide +kernel
theorem dX10_isBehind_11 : decode cX10_isBehind 11 = .ok (.goto 4, 3) := by decide +kernel
theorem dX10_isBehind_14 : decode cX10_isBehind 14 = .ok (.iconst 0, 1) := by decide +kernel
theorem dX10_isBehind_15 : decode cX10_isBehind 15 = .ok (.ireturn, 1) := by decide +kernel
theorem dX10_isFirstTold_0 : decode cX10_isFirstTold 0 = .ok (.iload_n 0, 1) := by decide +kernel
theorem dX10_isFirstTold_1 : decode cX10_isFirstTold 1 = .ok (.iconst 2, 1) := by decide +kernel
theorem dX10_isFirstTold_2 : decode cX10_isFirstTold 2 = .ok (.if_icmp .lt 13, 3) := by decide +kernel
theorem dX10_isFirstTold_5 : decode cX10_isFirstTold 5 = .ok (.iload_n 0, 1) := by decide +kernel
theorem dX10_isFirstTold_6 : decode cX10_isFirstTold 6 = .ok (.bipush 31, 2) := by decide +kernel
theorem dX10_isFirstTold_8 : decode cX10_isFirstTold 8 = .ok (.if_icmp .gt 7, 3) := by decide +kernel
theorem dX10_isFirstTold_11 : decode cX10_isFirstTold 11 = .ok (.iconst 1, 1) := by decide +kernel
theorem dX10_isFirstTold_12 : decode cX10_isFirstTold 12 = .ok (.goto 4, 3) := by decide +kernel
theorem dX10_isFirstTold_15 : decode cX10_isFirstTold 15 = .ok (.iconst 0, 1) := by decide +kernel
theorem dX10_isFirstTold_16 : decode cX10_isFirstTold 16 = .ok (.ireturn, 1) := by decide +kernel
theorem dX10_refusal_0 : decode cX10_refusal 0 = .ok (.ldc2_w 295, 3) := by decide +kernel
theorem dX10_refusal_3 : decode cX10_refusal 3 = .ok (.iload_n 0, 1) := by decide +kernel
theorem dX10_refusal_4 : decode cX10_refusal 4 = .ok (.i2l, 1) := by decide +kernel
theorem dX10_refusal_5 : decode cX10_refusal 5 = .ok (.lsub, 1) := by decide +kernel
theorem dX10_refusal_6 : decode cX10_refusal 6 = .ok (.lreturn, 1) := by decide +kernel
theorem dX10_found_0 : decode cX10_found 0 = .ok (.aload_n 0, 1) := by decide +kernel
theorem dX10_found_1 : decode cX10_found 1 = .ok (.iload_n 1, 1) := by decide +kernel
theorem dX10_found_2 : decode cX10_found 2 = .ok (.putfield 51, 3) := by decide +kernel
theorem dX10_found_5 : decode cX10_found 5 = .ok (.bipush (-10), 2) := by decide +kernel
theorem dX10_found_7 : decode cX10_found 7 = .ok (.iload_n 1, 1) := by decide +kernel
theorem dX10_found_8 : decode cX10_found 8 = .ok (.isub, 1) := by decide +kernel
theorem dX10_found_9 : decode cX10_found 9 = .ok (.ireturn, 1) := by decide +kernel
theorem dX10_refusesItem_0 : decode cX10_refusesItem 0 = .ok (.iload_n 1, 1) := by decide +kernel
theorem dX10_refusesItem_1 : decode cX10_refusesItem 1 = .ok (.invokestatic 72, 3) := by decide +kernel
theorem dX10_refusesItem_4 : decode cX10_refusesItem 4 = .ok (.ifCond .eq 10, 3) := by decide +kernel
theorem dX10_refusesItem_7 : decode cX10_refusesItem 7 = .ok (.iload_n 2, 1) := by decide +kernel
theorem dX10_refusesItem_8 : decode cX10_refusesItem 8 = .ok (.invokestatic 236, 3) := by decide +kernel
theorem dX10_refusesItem_11 : decode cX10_refusesItem 11 = .ok (.ifCond .ne 6, 3) := by decide +kernel
theorem dX10_refusesItem_14 : decode cX10_refusesItem 14 = .ok (.bipush (-2), 2) := by decide +kernel
theorem dX10_refusesItem_16 : decode cX10_refusesItem 16 = .ok (.ireturn, 1) := by decide +kernel
theorem dX10_refusesItem_17 : decode cX10_refusesItem 17 = .ok (.aload_n 0, 1) := by decide +kernel
theorem dX10_refusesItem_18 : decode cX10_refusesItem 18 = .ok (.getfield 18, 3) := by decide +kernel
theorem dX10_refusesItem_21 : decode cX10_refusesItem 21 = .ok (.iload_n 1, 1) := by decide +kernel
theorem dX10_refusesItem_22 : decode cX10_refusesItem 22 = .ok (.aaload, 1) := by decide +kernel
theorem dX10_refusesItem_23 : decode cX10_refusesItem 23 = .ok (.getfield 75, 3) := by decide +kernel
theorem dX10_refusesItem_26 : decode cX10_refusesItem 26 = .ok (.ifCond .eq 9, 3) := by decide +kernel
theorem dX10_refusesItem_29 : decode cX10_refusesItem 29 = .ok (.aload_n 0, 1) := by decide +kernel
theorem dX10_refusesItem_30 : decode cX10_refusesItem 30 = .ok (.iconst 1, 1) := by decide +kernel
theorem dX10_refusesItem_31 : decode cX10_refusesItem 31 = .ok (.invokevirtual 79, 3) := by decide +kernel
theorem dX10_refusesItem_34 : decode cX10_refusesItem 34 = .ok (.ireturn, 1) := by decide +kernel
theorem dX10_refusesItem_35 : decode cX10_refusesItem 35 = .ok (.aload_n 0, 1) := by decide +kernel
theorem dX10_refusesItem_36 : decode cX10_refusesItem 36 = .ok (.getfield 18, 3) := by decide +kernel
theorem dX10_refusesItem_39 : decode cX10_refusesItem 39 = .ok (.iload_n 1, 1) := by decide +kernel
theorem dX10_refusesItem_40 : decode cX10_refusesItem 40 = .ok (.aaload, 1) := by decide +kernel
theorem dX10_refusesItem_41 : decode cX10_refusesItem 41 = .ok (.getfield 251, 3) := by decide +kernel
theorem dX10_refusesItem_44 : decode cX10_refusesItem 44 = .ok (.iload_n 2, 1) := by decide +kernel
theorem dX10_refusesItem_45 : decode cX10_refusesItem 45 = .ok (.if_icmp .eq 9, 3) := by decide +kernel
theorem dX10_refusesItem_48 : decode cX10_refusesItem 48 = .ok (.aload_n 0, 1) := by decide +kernel
theorem dX10_refusesItem_49 : decode cX10_refusesItem 49 = .ok (.iconst 3, 1) := by decide +kernel
theorem dX10_refusesItem_50 : decode cX10_refusesItem 50 = .ok (.invokevirtual 79, 3) := by decide +kernel
theorem dX10_refusesItem_53 : decode cX10_refusesItem 53 = .ok (.ireturn, 1) := by decide +kernel
theorem dX10_refusesItem_54 : decode cX10_refusesItem 54 = .ok (.iload_n 3, 1) := by decide +kernel
theorem dX10_refusesItem_55 : decode cX10_refusesItem 55 = .ok (.ifCond .lt 20, 3) := by decide +kernel
theorem dX10_refusesItem_58 : decode cX10_refusesItem 58 = .ok (.iload_n 3, 1) := by decide +kernel
theorem dX10_refusesItem_59 : decode cX10_refusesItem 59 = .ok (.aload_n 0, 1) := by decide +kernel
theorem dX10_refusesItem_60 : decode cX10_refusesItem 60 = .ok (.getfield 18, 3) := by decide +kernel
theorem dX10_refusesItem_63 : decode cX10_refusesItem 63 = .ok (.iload_n 1, 1) := by decide +kernel
theorem dX10_refusesItem_64 : decode cX10_refusesItem 64 = .ok (.aaload, 1) := by decide +kernel
theorem dX10_refusesItem_65 : decode cX10_refusesItem 65 = .ok (.getfield 83, 3) := by decide +kernel
theorem dX10_refusesItem_68 : decode cX10_refusesItem 68 = .ok (.if_icmp .ge 7, 3) := by decide +kernel
theorem dX10_refusesItem_71 : decode cX10_refusesItem 71 = .ok (.iconst 0, 1) := by decide +kernel
theorem dX10_refusesItem_72 : decode cX10_refusesItem 72 = .ok (.goto 8, 3) := by decide +kernel
theorem dX10_refusesItem_75 : decode cX10_refusesItem 75 = .ok (.aload_n 0, 1) := by decide +kernel
theorem dX10_refusesItem_76 : decode cX10_refusesItem 76 = .ok (.iconst 2, 1) := by decide +kernel
theorem dX10_refusesItem_77 : decode cX10_refusesItem 77 = .ok (.invokevirtual 79, 3) := by decide +kernel
theorem dX10_refusesItem_80 : decode cX10_refusesItem 80 = .ok (.ireturn, 1) := by decide +kernel
theorem dX10_numberOf_0 : decode cX10_numberOf 0 = .ok (.iload_n 2, 1) := by decide +kernel
theorem dX10_numberOf_1 : decode cX10_numberOf 1 = .ok (.aload_n 1, 1) := by decide +kernel
theorem dX10_numberOf_2 : decode cX10_numberOf 2 = .ok (.getfield 69, 3) := by decide +kernel
theorem dX10_numberOf_5 : decode cX10_numberOf 5 = .ok (.aload_n 1, 1) := by decide +kernel
theorem dX10_numberOf_6 : decode cX10_numberOf 6 = .ok (.getfield 119, 3) := by decide +kernel
theorem dX10_numberOf_9 : decode cX10_numberOf 9 = .ok (.aload_n 0, 1) := by decide +kernel
theorem dX10_numberOf_10 : decode cX10_numberOf 10 = .ok (.getfield 48, 3) := by decide +kernel
theorem dX10_numberOf_13 : decode cX10_numberOf 13 = .ok (.invokestatic 297, 3) := by decide +kernel
theorem dX10_numberOf_16 : decode cX10_numberOf 16 = .ok (.ireturn, 1) := by decide +kernel
theorem dX10_dealtAsFar_0 : decode cX10_dealtAsFar 0 = .ok (.aload_n 0, 1) := by decide +kernel
theorem dX10_dealtAsFar_1 : decode cX10_dealtAsFar 1 = .ok (.aload_n 1, 1) := by decide +kernel
theorem dX10_dealtAsFar_2 : decode cX10_dealtAsFar 2 = .ok (.iload_n 2, 1) := by decide +kernel
theorem dX10_dealtAsFar_3 : decode cX10_dealtAsFar 3 = .ok (.invokevirtual 105, 3) := by decide +kernel
theorem dX10_dealtAsFar_6 : decode cX10_dealtAsFar 6 = .ok (.istore 4, 2) := by decide +kernel
theorem dX10_dealtAsFar_8 : decode cX10_dealtAsFar 8 = .ok (.aload_n 1, 1) := by decide +kernel
theorem dX10_dealtAsFar_9 : decode cX10_dealtAsFar 9 = .ok (.invokestatic 178, 3) := by decide +kernel
theorem dX10_dealtAsFar_12 : decode cX10_dealtAsFar 12 = .ok (.istore 5, 2) := by decide +kernel
theorem dX10_dealtAsFar_14 : decode cX10_dealtAsFar 14 = .ok (.aload_n 1, 1) := by decide +kernel
theorem dX10_dealtAsFar_15 : decode cX10_dealtAsFar 15 = .ok (.invokestatic 202, 3) := by decide +kernel
theorem dX10_dealtAsFar_18 : decode cX10_dealtAsFar 18 = .ok (.istore 6, 2) := by decide +kernel
theorem dX10_dealtAsFar_20 : decode cX10_dealtAsFar 20 = .ok (.iconst 0, 1) := by decide +kernel
theorem dX10_dealtAsFar_21 : decode cX10_dealtAsFar 21 = .ok (.istore 7, 2) := by decide +kernel
theorem dX10_dealtAsFar_23 : decode cX10_dealtAsFar 23 = .ok (.iconst 0, 1) := by decide +kernel
theorem dX10_dealtAsFar_24 : decode cX10_dealtAsFar 24 = .ok (.istore 8, 2) := by decide +kernel
theorem dX10_dealtAsFar_26 : decode cX10_dealtAsFar 26 = .ok (.iload 8, 2) := by decide +kernel
theorem dX10_dealtAsFar_28 : decode cX10_dealtAsFar 28 = .ok (.iload 5, 2) := by decide +kernel
theorem dX10_dealtAsFar_30 : decode cX10_dealtAsFar 30 = .ok (.if_icmp .ge 56, 3) := by decide +kernel
theorem dX10_dealtAsFar_33 : decode cX10_dealtAsFar 33 = .ok (.iload_n 2, 1) := by decide +kernel
theorem dX10_dealtAsFar_34 : decode cX10_dealtAsFar 34 = .ok (.aload_n 1, 1) := by decide +kernel
theorem dX10_dealtAsFar_35 : decode cX10_dealtAsFar 35 = .ok (.getfield 69, 3) := by decide +kernel
theorem dX10_dealtAsFar_38 : decode cX10_dealtAsFar 38 = .ok (.iload 6, 2) := by decide +kernel
theorem dX10_dealtAsFar_40 : decode cX10_dealtAsFar 40 = .ok (.aload_n 0, 1) := by decide +kernel
theorem dX10_dealtAsFar_41 : decode cX10_dealtAsFar 41 = .ok (.getfield 48, 3) := by decide +kernel
theorem dX10_dealtAsFar_44 : decode cX10_dealtAsFar 44 = .ok (.invokestatic 297, 3) := by decide +kernel
theorem dX10_dealtAsFar_47 : decode cX10_dealtAsFar 47 = .ok (.istore 9, 2) := by decide +kernel
theorem dX10_dealtAsFar_49 : decode cX10_dealtAsFar 49 = .ok (.iload_n 3, 1) := by decide +kernel
theorem dX10_dealtAsFar_50 : decode cX10_dealtAsFar 50 = .ok (.ifCond .eq 13, 3) := by decide +kernel
theorem dX10_dealtAsFar_53 : decode cX10_dealtAsFar 53 = .ok (.iload 9, 2) := by decide +kernel
theorem dX10_dealtAsFar_55 : decode cX10_dealtAsFar 55 = .ok (.iload 4, 2) := by decide +kernel
theorem dX10_dealtAsFar_57 : decode cX10_dealtAsFar 57 = .ok (.if_icmp .lt 16, 3) := by decide +kernel
theorem dX10_dealtAsFar_60 : decode cX10_dealtAsFar 60 = .ok (.goto 10, 3) := by decide +kernel
theorem dX10_dealtAsFar_63 : decode cX10_dealtAsFar 63 = .ok (.iload 9, 2) := by decide +kernel
theorem dX10_dealtAsFar_65 : decode cX10_dealtAsFar 65 = .ok (.iload 4, 2) := by decide +kernel
theorem dX10_dealtAsFar_67 : decode cX10_dealtAsFar 67 = .ok (.if_icmp .gt 6, 3) := by decide +kernel
theorem dX10_dealtAsFar_70 : decode cX10_dealtAsFar 70 = .ok (.iinc 7 1, 3) := by decide +kernel
theorem dX10_dealtAsFar_73 : decode cX10_dealtAsFar 73 = .ok (.iload 6, 2) := by decide +kernel
theorem dX10_dealtAsFar_75 : decode cX10_dealtAsFar 75 = .ok (.invokestatic 209, 3) := by decide +kernel
theorem dX10_dealtAsFar_78 : decode cX10_dealtAsFar 78 = .ok (.istore 6, 2) := by decide +kernel
theorem dX10_dealtAsFar_80 : decode cX10_dealtAsFar 80 = .ok (.iinc 8 1, 3) := by decide +kernel
theorem dX10_dealtAsFar_83 : decode cX10_dealtAsFar 83 = .ok (.goto (-57), 3) := by decide +kernel
theorem dX10_dealtAsFar_86 : decode cX10_dealtAsFar 86 = .ok (.iload 7, 2) := by decide +kernel
theorem dX10_dealtAsFar_88 : decode cX10_dealtAsFar 88 = .ok (.ireturn, 1) := by decide +kernel
theorem dX10_millionths_0 : decode cX10_millionths 0 = .ok (.iload_n 1, 1) := by decide +kernel
theorem dX10_millionths_1 : decode cX10_millionths 1 = .ok (.ifCond .gt 7, 3) := by decide +kernel
theorem dX10_millionths_4 : decode cX10_millionths 4 = .ok (.iconst 0, 1) := by decide +kernel
theorem dX10_millionths_5 : decode cX10_millionths 5 = .ok (.goto 13, 3) := by decide +kernel
theorem dX10_millionths_8 : decode cX10_millionths 8 = .ok (.iload_n 0, 1) := by decide +kernel
theorem dX10_millionths_9 : decode cX10_millionths 9 = .ok (.i2l, 1) := by decide +kernel
theorem dX10_millionths_10 : decode cX10_millionths 10 = .ok (.ldc2_w 301, 3) := by decide +kernel
theorem dX10_millionths_13 : decode cX10_millionths 13 = .ok (.lmul, 1) := by decide +kernel
theorem dX10_millionths_14 : decode cX10_millionths 14 = .ok (.iload_n 1, 1) := by decide +kernel
theorem dX10_millionths_15 : decode cX10_millionths 15 = .ok (.i2l, 1) := by decide +kernel
theorem dX10_millionths_16 : decode cX10_millionths 16 = .ok (.ldiv, 1) := by decide +kernel
theorem dX10_millionths_17 : decode cX10_millionths 17 = .ok (.l2i, 1) := by decide +kernel
theorem dX10_millionths_18 : decode cX10_millionths 18 = .ok (.ireturn, 1) := by decide +kernel
theorem dX10_backwards_0 : decode cX10_backwards 0 = .ok (.iconst 0, 1) := by decide +kernel
theorem dX10_backwards_1 : decode cX10_backwards 1 = .ok (.istore_n 2, 1) := by decide +kernel
theorem dX10_backwards_2 : decode cX10_backwards 2 = .ok (.iconst 0, 1) := by decide +kernel
theorem dX10_backwards_3 : decode cX10_backwards 3 = .ok (.istore_n 3, 1) := by decide +kernel
theorem dX10_backwards_4 : decode cX10_backwards 4 = .ok (.iload_n 3, 1) := by decide +kernel
theorem dX10_backwards_5 : decode cX10_backwards 5 = .ok (.iload_n 1, 1) := by decide +kernel
theorem dX10_backwards_6 : decode cX10_backwards 6 = .ok (.if_icmp .ge 19, 3) := by decide +kernel
theorem dX10_backwards_9 : decode cX10_backwards 9 = .ok (.iload_n 2, 1) := by decide +kernel
theorem dX10_backwards_10 : decode cX10_backwards 10 = .ok (.iconst 1, 1) := by decide +kernel
theorem dX10_backwards_11 : decode cX10_backwards 11 = .ok (.ishl, 1) := by decide +kernel
theorem dX10_backwards_12 : decode cX10_backwards 12 = .ok (.iload_n 0, 1) := by decide +kernel
theorem dX10_backwards_13 : decode cX10_backwards 13 = .ok (.iload_n 3, 1) := by decide +kernel
theorem dX10_backwards_14 : decode cX10_backwards 14 = .ok (.ishr, 1) := by decide +kernel
theorem dX10_backwards_15 : decode cX10_backwards 15 = .ok (.iconst 1, 1) := by decide +kernel
theorem dX10_backwards_16 : decode cX10_backwards 16 = .ok (.iand, 1) := by decide +kernel
theorem dX10_backwards_17 : decode cX10_backwards 17 = .ok (.ior, 1) := by decide +kernel
theorem dX10_backwards_18 : decode cX10_backwards 18 = .ok (.istore_n 2, 1) := by decide +kernel
theorem dX10_backwards_19 : decode cX10_backwards 19 = .ok (.iinc 3 1, 3) := by decide +kernel
theorem dX10_backwards_22 : decode cX10_backwards 22 = .ok (.goto (-18), 3) := by decide +kernel
theorem dX10_backwards_25 : decode cX10_backwards 25 = .ok (.iload_n 2, 1) := by decide +kernel
theorem dX10_backwards_26 : decode cX10_backwards 26 = .ok (.ireturn, 1) := by decide +kernel
theorem dX10_wholeRows_0 : decode cX10_wholeRows 0 = .ok (.iconst 0, 1) := by decide +kernel
theorem dX10_wholeRows_1 : decode cX10_wholeRows 1 = .ok (.istore_n 1, 1) := by decide +kernel
theorem dX10_wholeRows_2 : decode cX10_wholeRows 2 = .ok (.iconst 0, 1) := by decide +kernel
theorem dX10_wholeRows_3 : decode cX10_wholeRows 3 = .ok (.istore_n 2, 1) := by decide +kernel
theorem dX10_wholeRows_4 : decode cX10_wholeRows 4 = .ok (.iload_n 2, 1) := by decide +kernel
theorem dX10_wholeRows_5 : decode cX10_wholeRows 5 = .ok (.iconst 4, 1) := by decide +kernel
theorem dX10_wholeRows_6 : decode cX10_wholeRows 6 = .ok (.if_icmp .ge 27, 3) := by decide +kernel
theorem dX10_wholeRows_9 : decode cX10_wholeRows 9 = .ok (.aload_n 0, 1) := by decide +kernel
theorem dX10_wholeRows_10 : decode cX10_wholeRows 10 = .ok (.getfield 11, 3) := by decide +kernel
theorem dX10_wholeRows_13 : decode cX10_wholeRows 13 = .ok (.iload_n 2, 1) := by decide +kernel
theorem dX10_wholeRows_14 : decode cX10_wholeRows 14 = .ok (.aaload, 1) := by decide +kernel
theorem dX10_wholeRows_15 : decode cX10_wholeRows 15 = .ok (.invokevirtual 102, 3) := by decide +kernel
theorem dX10_wholeRows_18 : decode cX10_wholeRows 18 = .ok (.ifCond .eq 9, 3) := by decide +kernel
theorem dX10_wholeRows_21 : decode cX10_wholeRows 21 = .ok (.iload_n 1, 1) := by decide +kernel
theorem dX10_wholeRows_22 : decode cX10_wholeRows 22 = .ok (.iconst 1, 1) := by decide +kernel
theorem dX10_wholeRows_23 : decode cX10_wholeRows 23 = .ok (.iload_n 2, 1) := by decide +kernel
theorem dX10_wholeRows_24 : decode cX10_wholeRows 24 = .ok (.ishl, 1) := by decide +kernel
theorem dX10_wholeRows_25 : decode cX10_wholeRows 25 = .ok (.ior, 1) := by decide +kernel
theorem dX10_wholeRows_26 : decode cX10_wholeRows 26 = .ok (.istore_n 1, 1) := by decide +kernel
theorem dX10_wholeRows_27 : decode cX10_wholeRows 27 = .ok (.iinc 2 1, 3) := by decide +kernel
theorem dX10_wholeRows_30 : decode cX10_wholeRows 30 = .ok (.goto (-26), 3) := by decide +kernel
theorem dX10_wholeRows_33 : decode cX10_wholeRows 33 = .ok (.iload_n 1, 1) := by decide +kernel
theorem dX10_wholeRows_34 : decode cX10_wholeRows 34 = .ok (.ireturn, 1) := by decide +kernel
end
section
theorem dX11_init_0 : decode cX11_init 0 = .ok (.aload_n 0, 1) := by decide +kernel
theorem dX11_init_1 : decode cX11_init 1 = .ok (.invokespecial 1, 3) := by decide +kernel
theorem dX11_init_4 : decode cX11_init 4 = .ok (.aload_n 0, 1) := by decide +kernel
theorem dX11_init_5 : decode cX11_init 5 = .ok (.iconst 4, 1) := by decide +kernel
theorem dX11_init_6 : decode cX11_init 6 = .ok (.newarray .int, 2) := by decide +kernel
theorem dX11_init_8 : decode cX11_init 8 = .ok (.putfield 7, 3) := by decide +kernel
theorem dX11_init_11 : decode cX11_init 11 = .ok (.aload_n 0, 1) := by decide +kernel
theorem dX11_init_12 : decode cX11_init 12 = .ok (.bipush 60, 2) := by decide +kernel
theorem dX11_init_14 : decode cX11_init 14 = .ok (.newarray .int, 2) := by decide +kernel
theorem dX11_init_16 : decode cX11_init 16 = .ok (.putfield 13, 3) := by decide +kernel
theorem dX11_init_19 : decode cX11_init 19 = .ok (.aload_n 0, 1) := by decide +kernel
theorem dX11_init_20 : decode cX11_init 20 = .ok (.bipush 8, 2) := by decide +kernel
theorem dX11_init_22 : decode cX11_init 22 = .ok (.putfield 16, 3) := by decide +kernel
theorem dX11_init_25 : decode cX11_init 25 = .ok (.aload_n 0, 1) := by decide +kernel
theorem dX11_init_26 : decode cX11_init 26 = .ok (.iconst 3, 1) := by decide +kernel
theorem dX11_init_27 : decode cX11_init 27 = .ok (.putfield 20, 3) := by decide +kernel
theorem dX11_init_30 : decode cX11_init 30 = .ok (.aload_n 0, 1) := by decide +kernel
theorem dX11_init_31 : decode cX11_init 31 = .ok (.bipush 60, 2) := by decide +kernel
theorem dX11_init_33 : decode cX11_init 33 = .ok (.newarray .int, 2) := by decide +kernel
theorem dX11_init_35 : decode cX11_init 35 = .ok (.putfield 23, 3) := by decide +kernel
theorem dX11_init_38 : decode cX11_init 38 = .ok (.aload_n 0, 1) := by decide +kernel
theorem dX11_init_39 : decode cX11_init 39 = .ok (.bipush 20, 2) := by decide +kernel
theorem dX11_init_41 : decode cX11_init 41 = .ok (.newarray .int, 2) := by decide +kernel
theorem dX11_init_43 : decode cX11_init 43 = .ok (.putfield 26, 3) := by decide +kernel
theorem dX11_init_46 : decode cX11_init 46 = .ok (.aload_n 0, 1) := by decide +kernel
theorem dX11_init_47 : decode cX11_init 47 = .ok (.bipush 20, 2) := by decide +kernel
theorem dX11_init_49 : decode cX11_init 49 = .ok (.newarray .int, 2) := by decide +kernel
theorem dX11_init_51 : decode cX11_init 51 = .ok (.putfield 29, 3) := by decide +kernel
theorem dX11_init_54 : decode cX11_init 54 = .ok (.aload_n 0, 1) := by decide +kernel
theorem dX11_init_55 : decode cX11_init 55 = .ok (.bipush 20, 2) := by decide +kernel
theorem dX11_init_57 : decode cX11_init 57 = .ok (.newarray .int, 2) := by decide +kernel
theorem dX11_init_59 : decode cX11_init 59 = .ok (.putfield 32, 3) := by decide +kernel
theorem dX11_init_62 : decode cX11_init 62 = .ok (.aload_n 0, 1) := by decide +kernel
theorem dX11_init_63 : decode cX11_init 63 = .ok (.bipush 20, 2) := by decide +kernel
theorem dX11_init_65 : decode cX11_init 65 = .ok (.newarray .boolean, 2) := by decide +kernel
theorem dX11_init_67 : decode cX11_init 67 = .ok (.putfield 35, 3) := by decide +kernel
theorem dX11_init_70 : decode cX11_init 70 = .ok (.aload_n 0, 1) := by decide +kernel
theorem dX11_init_71 : decode cX11_init 71 = .ok (.bipush 15, 2) := by decide +kernel
theorem dX11_init_73 : decode cX11_init 73 = .ok (.newarray .int, 2) := by decide +kernel
theorem dX11_init_75 : decode cX11_init 75 = .ok (.putfield 39, 3) := by decide +kernel
theorem dX11_init_78 : decode cX11_init 78 = .ok (.aload_n 0, 1) := by decide +kernel
theorem dX11_init_79 : decode cX11_init 79 = .ok (.iconst 4, 1) := by decide +kernel
theorem dX11_init_80 : decode cX11_init 80 = .ok (.newarray .boolean, 2) := by decide +kernel
theorem dX11_init_82 : decode cX11_init 82 = .ok (.putfield 42, 3) := by decide +kernel
theorem dX11_init_85 : decode cX11_init 85 = .ok (.aload_n 0, 1) := by decide +kernel
theorem dX11_init_86 : decode cX11_init 86 = .ok (.iconst 4, 1) := by decide +kernel
theorem dX11_init_87 : decode cX11_init 87 = .ok (.newarray .int, 2) := by decide +kernel
theorem dX11_init_89 : decode cX11_init 89 = .ok (.putfield 45, 3) := by decide +kernel
theorem dX11_init_92 : decode cX11_init 92 = .ok (.aload_n 0, 1) := by decide +kernel
theorem dX11_init_93 : decode cX11_init 93 = .ok (.iconst 4, 1) := by decide +kernel
theorem dX11_init_94 : decode cX11_init 94 = .ok (.newarray .int, 2) := by decide +kernel
theorem dX11_init_96 : decode cX11_init 96 = .ok (.putfield 48, 3) := by decide +kernel
theorem dX11_init_99 : decode cX11_init 99 = .ok (.aload_n 0, 1) := by decide +kernel
theorem dX11_init_100 : decode cX11_init 100 = .ok (.sipush 160, 3) := by decide +kernel
theorem dX11_init_103 : decode cX11_init 103 = .ok (.newarray .int, 2) := by decide +kernel
theorem dX11_init_105 : decode cX11_init 105 = .ok (.putfield 51, 3) := by decide +kernel
theorem dX11_init_108 : decode cX11_init 108 = .ok (.aload_n 0, 1) := by decide +kernel
theorem dX11_init_109 : decode cX11_init 109 = .ok (.bipush 40, 2) := by decide +kernel
theorem dX11_init_111 : decode cX11_init 111 = .ok (.newarray .int, 2) := by decide +kernel
theorem dX11_init_113 : decode cX11_init 113 = .ok (.putfield 54, 3) := by decide +kernel
theorem dX11_init_116 : decode cX11_init 116 = .ok (.return_, 1) := by decide +kernel
theorem dX11_in_0 : decode cX11_in 0 = .ok (.iload_n 0, 1) := by decide +kernel
theorem dX11_in_1 : decode cX11_in 1 = .ok (.iload_n 1, 1) := by decide +kernel
theorem dX11_in_2 : decode cX11_in 2 = .ok (.if_icmp .lt 12, 3) := by decide +kernel
theorem dX11_in_5 : decode cX11_in 5 = .ok (.iload_n 0, 1) := by decide +kernel
theorem dX11_in_6 : decode cX11_in 6 = .ok (.iload_n 2, 1) := by decide +kernel
theorem dX11_in_7 : decode cX11_in 7 = .ok (.if_icmp .gt 7, 3) := by decide +kernel
theorem dX11_in_10 : decode cX11_in 10 = .ok (.iconst 1, 1) := by decide +kernel
theorem dX11_in_11 : decode cX11_in 11 = .ok (.goto 4, 3) := by decide +kernel
theorem dX11_in_14 : decode cX11_in 14 = .ok (.iconst 0, 1) := by decide +kernel
theorem dX11_in_15 : decode cX11_in 15 = .ok (.ireturn, 1) := by decide +kernel
theorem dX11_no_0 : decode cX11_no 0 = .ok (.ldc2_w 57, 3) := by decide +kernel
theorem dX11_no_3 : decode cX11_no 3 = .ok (.iload_n 0, 1) := by decide +kernel
theorem dX11_no_4 : decode cX11_no 4 = .ok (.i2l, 1) := by decide +kernel
theorem dX11_no_5 : decode cX11_no 5 = .ok (.lsub, 1) := by decide +kernel
theorem dX11_no_6 : decode cX11_no 6 = .ok (.lreturn, 1) := by decide +kernel
theorem dX11_lowest_0 : decode cX11_lowest 0 = .ok (.lload_n 0, 1) := by decide +kernel
theorem dX11_lowest_1 : decode cX11_lowest 1 = .ok (.lstore 5, 2) := by decide +kernel
theorem dX11_lowest_3 : decode cX11_lowest 3 = .ok (.lload_n 2, 1) := by decide +kernel
theorem dX11_lowest_4 : decode cX11_lowest 4 = .ok (.lstore 7, 2) := by decide +kernel
theorem dX11_lowest_6 : decode cX11_lowest 6 = .ok (.lload 7, 2) := by decide +kernel
theorem dX11_lowest_8 : decode cX11_lowest 8 = .ok (.lconst 0, 1) := by decide +kernel
theorem dX11_lowest_9 : decode cX11_lowest 9 = .ok (.lcmp, 1) := by decide +kernel
theorem dX11_lowest_10 : decode cX11_lowest 10 = .ok (.ifCond .eq 21, 3) := by decide +kernel
theorem dX11_lowest_13 : decode cX11_lowest 13 = .ok (.lload 5, 2) := by decide +kernel
theorem dX11_lowest_15 : decode cX11_lowest 15 = .ok (.lload 7, 2) := by decide +kernel
theorem dX11_lowest_17 : decode cX11_lowest 17 = .ok (.lrem, 1) := by decide +kernel
theorem dX11_lowest_18 : decode cX11_lowest 18 = .ok (.lstore 9, 2) := by decide +kernel
theorem dX11_lowest_20 : decode cX11_lowest 20 = .ok (.lload 7, 2) := by decide +kernel
theorem dX11_lowest_22 : decode cX11_lowest 22 = .ok (.lstore 5, 2) := by decide +kernel
theorem dX11_lowest_24 : decode cX11_lowest 24 = .ok (.lload 9, 2) := by decide +kernel
theorem dX11_lowest_26 : decode cX11_lowest 26 = .ok (.lstore 7, 2) := by decide +kernel
theorem dX11_lowest_28 : decode cX11_lowest 28 = .ok (.goto (-22), 3) := by decide +kernel
theorem dX11_lowest_31 : decode cX11_lowest 31 = .ok (.iload 4, 2) := by decide +kernel
theorem dX11_lowest_33 : decode cX11_lowest 33 = .ok (.ifCond .ne 10, 3) := by decide +kernel
theorem dX11_lowest_36 : decode cX11_lowest 36 = .ok (.lload_n 0, 1) := by decide +kernel
theorem dX11_lowest_37 : decode cX11_lowest 37 = .ok (.lload 5, 2) := by decide +kernel
theorem dX11_lowest_39 : decode cX11_lowest 39 = .ok (.ldiv, 1) := by decide +kernel
theorem dX11_lowest_40 : decode cX11_lowest 40 = .ok (.goto 7, 3) := by decide +kernel
theorem dX11_lowest_43 : decode cX11_lowest 43 = .ok (.lload_n 2, 1) := by decide +kernel
theorem dX11_lowest_44 : decode cX11_lowest 44 = .ok (.lload 5, 2) := by decide +kernel
theorem dX11_lowest_46 : decode cX11_lowest 46 = .ok (.ldiv, 1) := by decide +kernel
theorem dX11_lowest_47 : decode cX11_lowest 47 = .ok (.lreturn, 1) := by decide +kernel
theorem dX11_power_0 : decode cX11_power 0 = .ok (.lconst 1, 1) := by decide +kernel
theorem dX11_power_1 : decode cX11_power 1 = .ok (.lstore_n 3, 1) := by decide +kernel
theorem dX11_power_2 : decode cX11_power 2 = .ok (.iconst 0, 1) := by decide +kernel
theorem dX11_power_3 : decode cX11_power 3 = .ok (.istore 5, 2) := by decide +kernel
theorem dX11_power_5 : decode cX11_power 5 = .ok (.iload 5, 2) := by decide +kernel
theorem dX11_power_7 : decode cX11_power 7 = .ok (.iload_n 2, 1) := by decide +kernel
theorem dX11_power_8 : decode cX11_power 8 = .ok (.if_icmp .ge 13, 3) := by decide +kernel
theorem dX11_power_11 : decode cX11_power 11 = .ok (.lload_n 3, 1) := by decide +kernel
theorem dX11_power_12 : decode cX11_power 12 = .ok (.lload_n 0, 1) := by decide +kernel
theorem dX11_power_13 : decode cX11_power 13 = .ok (.lmul, 1) := by decide +kernel
theorem dX11_power_14 : decode cX11_power 14 = .ok (.lstore_n 3, 1) := by decide +kernel
theorem dX11_power_15 : decode cX11_power 15 = .ok (.iinc 5 1, 3) := by decide +kernel
theorem dX11_power_18 : decode cX11_power 18 = .ok (.goto (-13), 3) := by decide +kernel
theorem dX11_power_21 : decode cX11_power 21 = .ok (.lload_n 3, 1) := by decide +kernel
theorem dX11_power_22 : decode cX11_power 22 = .ok (.lreturn, 1) := by decide +kernel
theorem dX11_ones_0 : decode cX11_ones 0 = .ok (.iconst 0, 1) := by decide +kernel
theorem dX11_ones_1 : decode cX11_ones 1 = .ok (.istore_n 1, 1) := by decide +kernel
theorem dX11_ones_2 : decode cX11_ones 2 = .ok (.iconst 0, 1) := by decide +kernel
theorem dX11_ones_3 : decode cX11_ones 3 = .ok (.istore_n 2, 1) := by decide +kernel
theorem dX11_ones_4 : decode cX11_ones 4 = .ok (.iload_n 2, 1) := by decide +kernel
theorem dX11_ones_5 : decode cX11_ones 5 = .ok (.bipush 16, 2) := by decide +kernel
theorem dX11_ones_7 : decode cX11_ones 7 = .ok (.if_icmp .ge 17, 3) := by decide +kernel
theorem dX11_ones_10 : decode cX11_ones 10 = .ok (.iload_n 1, 1) := by decide +kernel
theorem dX11_ones_11 : decode cX11_ones 11 = .ok (.iload_n 0, 1) := by decide +kernel
theorem dX11_ones_12 : decode cX11_ones 12 = .ok (.iload_n 2, 1) := by decide +kernel
theorem dX11_ones_13 : decode cX11_ones 13 = .ok (.ishr, 1) := by decide +kernel
theorem dX11_ones_14 : decode cX11_ones 14 = .ok (.iconst 1, 1) := by decide +kernel
theorem dX11_ones_15 : decode cX11_ones 15 = .ok (.iand, 1) := by decide +kernel
theorem dX11_ones_16 : decode cX11_ones 16 = .ok (.iadd, 1) := by decide +kernel
theorem dX11_ones_17 : decode cX11_ones 17 = .ok (.istore_n 1, 1) := by decide +kernel
theorem dX11_ones_18 : decode cX11_ones 18 = .ok (.iinc 2 1, 3) := by decide +kernel
theorem dX11_ones_21 : decode cX11_ones 21 = .ok (.goto (-17), 3) := by decide +kernel
theorem dX11_ones_24 : decode cX11_ones 24 = .ok (.iload_n 1, 1) := by decide +kernel
theorem dX11_ones_25 : decode cX11_ones 25 = .ok (.ireturn, 1) := by decide +kernel
theorem dX11_isRow_0 : decode cX11_isRow 0 = .ok (.iload_n 0, 1) := by decide +kernel
theorem dX11_isRow_1 : decode cX11_isRow 1 = .ok (.iconst 0, 1) := by decide +kernel
theorem dX11_isRow_2 : decode cX11_isRow 2 = .ok (.iconst 3, 1) := by decide +kernel
theorem dX11_isRow_3 : decode cX11_isRow 3 = .ok (.invokestatic 59, 3) := by decide +kernel
theorem dX11_isRow_6 : decode cX11_isRow 6 = .ok (.ireturn, 1) := by decide +kernel
theorem dX11_puts_0 : decode cX11_puts 0 = .ok (.iload_n 1, 1) := by decide +kernel
theorem dX11_puts_1 : decode cX11_puts 1 = .ok (.invokestatic 63, 3) := by decide +kernel
theorem dX11_puts_4 : decode cX11_puts 4 = .ok (.ifCond .eq 12, 3) := by decide +kernel
theorem dX11_puts_7 : decode cX11_puts 7 = .ok (.iload_n 2, 1) := by decide +kernel
theorem dX11_puts_8 : decode cX11_puts 8 = .ok (.iconst (-1), 1) := by decide +kernel
theorem dX11_puts_9 : decode cX11_puts 9 = .ok (.iconst 1, 1) := by decide +kernel
theorem dX11_puts_10 : decode cX11_puts 10 = .ok (.invokestatic 59, 3) := by decide +kernel
theorem dX11_puts_13 : decode cX11_puts 13 = .ok (.ifCond .ne 6, 3) := by decide +kernel
theorem dX11_puts_16 : decode cX11_puts 16 = .ok (.bipush (-2), 2) := by decide +kernel
theorem dX11_puts_18 : decode cX11_puts 18 = .ok (.ireturn, 1) := by decide +kernel
theorem dX11_puts_19 : decode cX11_puts 19 = .ok (.aload_n 0, 1) := by decide +kernel
theorem dX11_puts_20 : decode cX11_puts 20 = .ok (.getfield 7, 3) := by decide +kernel
theorem dX11_puts_23 : decode cX11_puts 23 = .ok (.iload_n 1, 1) := by decide +kernel
theorem dX11_puts_24 : decode cX11_puts 24 = .ok (.iaload, 1) := by decide +kernel
theorem dX11_puts_25 : decode cX11_puts 25 = .ok (.bipush 15, 2) := by decide +kernel
theorem dX11_puts_27 : decode cX11_puts 27 = .ok (.if_icmp .ne 6, 3) := by decide +kernel
theorem dX11_puts_30 : decode cX11_puts 30 = .ok (.bipush (-4), 2) := by decide +kernel
theorem dX11_puts_32 : decode cX11_puts 32 = .ok (.ireturn, 1) := by decide +kernel
theorem dX11_puts_33 : decode cX11_puts 33 = .ok (.aload_n 0, 1) := by decide +kernel
theorem dX11_puts_34 : decode cX11_puts 34 = .ok (.getfield 13, 3) := by decide +kernel
theorem dX11_puts_37 : decode cX11_puts 37 = .ok (.bipush 15, 2) := by decide +kernel
theorem dX11_puts_39 : decode cX11_puts 39 = .ok (.iload_n 1, 1) := by decide +kernel
theorem dX11_puts_40 : decode cX11_puts 40 = .ok (.imul, 1) := by decide +kernel
theorem dX11_puts_41 : decode cX11_puts 41 = .ok (.aload_n 0, 1) := by decide +kernel
theorem dX11_puts_42 : decode cX11_puts 42 = .ok (.getfield 7, 3) := by decide +kernel
theorem dX11_puts_45 : decode cX11_puts 45 = .ok (.iload_n 1, 1) := by decide +kernel
theorem dX11_puts_46 : decode cX11_puts 46 = .ok (.iaload, 1) := by decide +kernel
theorem dX11_puts_47 : decode cX11_puts 47 = .ok (.iadd, 1) := by decide +kernel
theorem dX11_puts_48 : decode cX11_puts 48 = .ok (.iload_n 2, 1) := by decide +kernel
theorem dX11_puts_49 : decode cX11_puts 49 = .ok (.iastore, 1) := by decide +kernel
theorem dX11_puts_50 : decode cX11_puts 50 = .ok (.aload_n 0, 1) := by decide +kernel
theorem dX11_puts_51 : decode cX11_puts 51 = .ok (.getfield 7, 3) := by decide +kernel
theorem dX11_puts_54 : decode cX11_puts 54 = .ok (.iload_n 1, 1) := by decide +kernel
theorem dX11_puts_55 : decode cX11_puts 55 = .ok (.dup2, 1) := by decide +kernel
theorem dX11_puts_56 : decode cX11_puts 56 = .ok (.iaload, 1) := by decide +kernel
theorem dX11_puts_57 : decode cX11_puts 57 = .ok (.iconst 1, 1) := by decide +kernel
theorem dX11_puts_58 : decode cX11_puts 58 = .ok (.iadd, 1) := by decide +kernel
theorem dX11_puts_59 : decode cX11_puts 59 = .ok (.iastore, 1) := by decide +kernel
theorem dX11_puts_60 : decode cX11_puts 60 = .ok (.aload_n 0, 1) := by decide +kernel
theorem dX11_puts_61 : decode cX11_puts 61 = .ok (.getfield 7, 3) := by decide +kernel
theorem dX11_puts_64 : decode cX11_puts 64 = .ok (.iload_n 1, 1) := by decide +kernel
theorem dX11_puts_65 : decode cX11_puts 65 = .ok (.iaload, 1) := by decide +kernel
theorem dX11_puts_66 : decode cX11_puts 66 = .ok (.ireturn, 1) := by decide +kernel
theorem dX11_sign_0 : decode cX11_sign 0 = .ok (.aload_n 0, 1) := by decide +kernel
theorem dX11_sign_1 : decode cX11_sign 1 = .ok (.iload_n 1, 1) := by decide +kernel
theorem dX11_sign_2 : decode cX11_sign 2 = .ok (.iload_n 2, 1) := by decide +kernel
theorem dX11_sign_3 : decode cX11_sign 3 = .ok (.invokevirtual 67, 3) := by decide +kernel
theorem dX11_sign_6 : decode cX11_sign 6 = .ok (.ireturn, 1) := by decide +kernel
theorem dX11_read_0 : decode cX11_read 0 = .ok (.iload_n 1, 1) := by decide +kernel
theorem dX11_read_1 : decode cX11_read 1 = .ok (.invokestatic 71, 3) := by decide +kernel
theorem dX11_read_4 : decode cX11_read 4 = .ok (.ifCond .eq 10, 3) := by decide +kernel
theorem dX11_read_7 : decode cX11_read 7 = .ok (.iload_n 2, 1) := by decide +kernel
theorem dX11_read_8 : decode cX11_read 8 = .ok (.invokestatic 63, 3) := by decide +kernel
theorem dX11_read_11 : decode cX11_read 11 = .ok (.ifCond .ne 6, 3) := by decide +kernel
theorem dX11_read_14 : decode cX11_read 14 = .ok (.bipush (-2), 2) := by decide +kernel
theorem dX11_read_16 : decode cX11_read 16 = .ok (.ireturn, 1) := by decide +kernel
theorem dX11_read_17 : decode cX11_read 17 = .ok (.aload_n 0, 1) := by decide +kernel
theorem dX11_read_18 : decode cX11_read 18 = .ok (.getfield 42, 3) := by decide +kernel
theorem dX11_read_21 : decode cX11_read 21 = .ok (.iload_n 1, 1) := by decide +kernel
theorem dX11_read_22 : decode cX11_read 22 = .ok (.baload, 1) := by decide +kernel
theorem dX11_read_23 : decode cX11_read 23 = .ok (.ifCond .ne 9, 3) := by decide +kernel
theorem dX11_read_26 : decode cX11_read 26 = .ok (.aload_n 0, 1) := by decide +kernel
theorem dX11_read_27 : decode cX11_read 27 = .ok (.iconst 1, 1) := by decide +kernel
theorem dX11_read_28 : decode cX11_read 28 = .ok (.invokevirtual 74, 3) := by decide +kernel
theorem dX11_read_31 : decode cX11_read 31 = .ok (.ireturn, 1) := by decide +kernel
theorem dX11_read_32 : decode cX11_read 32 = .ok (.iconst 0, 1) := by decide +kernel
theorem dX11_read_33 : decode cX11_read 33 = .ok (.istore_n 3, 1) := by decide +kernel
theorem dX11_read_34 : decode cX11_read 34 = .ok (.iload_n 3, 1) := by decide +kernel
theorem dX11_read_35 : decode cX11_read 35 = .ok (.aload_n 0, 1) := by decide +kernel
theorem dX11_read_36 : decode cX11_read 36 = .ok (.getfield 48, 3) := by decide +kernel
theorem dX11_read_39 : decode cX11_read 39 = .ok (.iload_n 1, 1) := by decide +kernel
theorem dX11_read_40 : decode cX11_read 40 = .ok (.iaload, 1) := by decide +kernel
theorem dX11_read_41 : decode cX11_read 41 = .ok (.if_icmp .ge 28, 3) := by decide +kernel
theorem dX11_read_44 : decode cX11_read 44 = .ok (.aload_n 0, 1) := by decide +kernel
theorem dX11_read_45 : decode cX11_read 45 = .ok (.iload_n 2, 1) := by decide +kernel
theorem dX11_read_46 : decode cX11_read 46 = .ok (.aload_n 0, 1) := by decide +kernel
theorem dX11_read_47 : decode cX11_read 47 = .ok (.getfield 51, 3) := by decide +kernel
theorem dX11_read_50 : decode cX11_read 50 = .ok (.bipush 40, 2) := by decide +kernel
theorem dX11_read_52 : decode cX11_read 52 = .ok (.iload_n 1, 1) := by decide +kernel
theorem dX11_read_53 : decode cX11_read 53 = .ok (.imul, 1) := by decide +kernel
theorem dX11_read_54 : decode cX11_read 54 = .ok (.iload_n 3, 1) := by decide +kernel
theorem dX11_read_55 : decode cX11_read 55 = .ok (.iadd, 1) := by decide +kernel
theorem dX11_read_56 : decode cX11_read 56 = .ok (.iaload, 1) := by decide +kernel
theorem dX11_read_57 : decode cX11_read 57 = .ok (.invokevirtual 67, 3) := by decide +kernel
theorem dX11_read_60 : decode cX11_read 60 = .ok (.ifCond .le 9, 3) := by decide +kernel
theorem dX11_read_63 : decode cX11_read 63 = .ok (.iinc 3 1, 3) := by decide +kernel
theorem dX11_read_66 : decode cX11_read 66 = .ok (.goto (-32), 3) := by decide +kernel
theorem dX11_read_69 : decode cX11_read 69 = .ok (.iload_n 3, 1) := by decide +kernel
theorem dX11_read_70 : decode cX11_read 70 = .ok (.ireturn, 1) := by decide +kernel
theorem dX11_clear_0 : decode cX11_clear 0 = .ok (.iload_n 1, 1) := by decide +kernel
theorem dX11_clear_1 : decode cX11_clear 1 = .ok (.invokestatic 63, 3) := by decide +kernel
theorem dX11_clear_4 : decode cX11_clear 4 = .ok (.ifCond .ne 6, 3) := by decide +kernel
theorem dX11_clear_7 : decode cX11_clear 7 = .ok (.bipush (-2), 2) := by decide +kernel
theorem dX11_clear_9 : decode cX11_clear 9 = .ok (.ireturn, 1) := by decide +kernel
theorem dX11_clear_10 : decode cX11_clear 10 = .ok (.aload_n 0, 1) := by decide +kernel
theorem dX11_clear_11 : decode cX11_clear 11 = .ok (.getfield 7, 3) := by decide +kernel
theorem dX11_clear_14 : decode cX11_clear 14 = .ok (.iload_n 1, 1) := by decide +kernel
theorem dX11_clear_15 : decode cX11_clear 15 = .ok (.iaload, 1) := by decide +kernel
theorem dX11_clear_16 : decode cX11_clear 16 = .ok (.istore_n 2, 1) := by decide +kernel
theorem dX11_clear_17 : decode cX11_clear 17 = .ok (.aload_n 0, 1) := by decide +kernel
theorem dX11_clear_18 : decode cX11_clear 18 = .ok (.getfield 7, 3) := by decide +kernel
theorem dX11_clear_21 : decode cX11_clear 21 = .ok (.iload_n 1, 1) := by decide +kernel
theorem dX11_clear_22 : decode cX11_clear 22 = .ok (.iconst 0, 1) := by decide +kernel
theorem dX11_clear_23 : decode cX11_clear 23 = .ok (.iastore, 1) := by decide +kernel
theorem dX11_clear_24 : decode cX11_clear 24 = .ok (.iload_n 2, 1) := by decide +kernel
theorem dX11_clear_25 : decode cX11_clear 25 = .ok (.ireturn, 1) := by decide +kernel
theorem dX11_at_0 : decode cX11_at 0 = .ok (.iload_n 1, 1) := by decide +kernel
theorem dX11_at_1 : decode cX11_at 1 = .ok (.invokestatic 63, 3) := by decide +kernel
theorem dX11_at_4 : decode cX11_at 4 = .ok (.ifCond .eq 7, 3) := by decide +kernel
theorem dX11_at_7 : decode cX11_at 7 = .ok (.iload_n 2, 1) := by decide +kernel
theorem dX11_at_8 : decode cX11_at 8 = .ok (.ifCond .ge 6, 3) := by decide +kernel
theorem dX11_at_11 : decode cX11_at 11 = .ok (.bipush (-2), 2) := by decide +kernel
theorem dX11_at_13 : decode cX11_at 13 = .ok (.ireturn, 1) := by decide +kernel
theorem dX11_at_14 : decode cX11_at 14 = .ok (.iload_n 2, 1) := by decide +kernel
theorem dX11_at_15 : decode cX11_at 15 = .ok (.aload_n 0, 1) := by decide +kernel
theorem dX11_at_16 : decode cX11_at 16 = .ok (.getfield 7, 3) := by decide +kernel
theorem dX11_at_19 : decode cX11_at 19 = .ok (.iload_n 1, 1) := by decide +kernel
theorem dX11_at_20 : decode cX11_at 20 = .ok (.iaload, 1) := by decide +kernel
theorem dX11_at_21 : decode cX11_at 21 = .ok (.if_icmp .ge 17, 3) := by decide +kernel
theorem dX11_at_24 : decode cX11_at 24 = .ok (.aload_n 0, 1) := by decide +kernel
theorem dX11_at_25 : decode cX11_at 25 = .ok (.getfield 13, 3) := by decide +kernel
theorem dX11_at_28 : decode cX11_at 28 = .ok (.bipush 15, 2) := by decide +kernel
theorem dX11_at_30 : decode cX11_at 30 = .ok (.iload_n 1, 1) := by decide +kernel
theorem dX11_at_31 : decode cX11_at 31 = .ok (.imul, 1) := by decide +kernel
theorem dX11_at_32 : decode cX11_at 32 = .ok (.iload_n 2, 1) := by decide +kernel
theorem dX11_at_33 : decode cX11_at 33 = .ok (.iadd, 1) := by decide +kernel
theorem dX11_at_34 : decode cX11_at 34 = .ok (.iaload, 1) := by decide +kernel
theorem dX11_at_35 : decode cX11_at 35 = .ok (.goto 5, 3) := by decide +kernel
theorem dX11_at_38 : decode cX11_at 38 = .ok (.bipush (-3), 2) := by decide +kernel
theorem dX11_at_40 : decode cX11_at 40 = .ok (.ireturn, 1) := by decide +kernel
theorem dX11_set_0 : decode cX11_set 0 = .ok (.iload_n 1, 1) := by decide +kernel
theorem dX11_set_1 : decode cX11_set 1 = .ok (.iconst 0, 1) := by decide +kernel
theorem dX11_set_2 : decode cX11_set 2 = .ok (.iconst 1, 1) := by decide +kernel
theorem dX11_set_3 : decode cX11_set 3 = .ok (.invokestatic 59, 3) := by decide +kernel
theorem dX11_set_6 : decode cX11_set 6 = .ok (.ifCond .eq 30, 3) := by decide +kernel
theorem dX11_set_9 : decode cX11_set 9 = .ok (.iload_n 1, 1) := by decide +kernel
theorem dX11_set_10 : decode cX11_set 10 = .ok (.ifCond .ne 16, 3) := by decide +kernel
theorem dX11_set_13 : decode cX11_set 13 = .ok (.iload_n 2, 1) := by decide +kernel
theorem dX11_set_14 : decode cX11_set 14 = .ok (.iconst 1, 1) := by decide +kernel
theorem dX11_set_15 : decode cX11_set 15 = .ok (.bipush 15, 2) := by decide +kernel
theorem dX11_set_17 : decode cX11_set 17 = .ok (.invokestatic 59, 3) := by decide +kernel
theorem dX11_set_20 : decode cX11_set 20 = .ok (.ifCond .eq 16, 3) := by decide +kernel
theorem dX11_set_23 : decode cX11_set 23 = .ok (.goto 16, 3) := by decide +kernel
theorem dX11_set_26 : decode cX11_set 26 = .ok (.iload_n 2, 1) := by decide +kernel
theorem dX11_set_27 : decode cX11_set 27 = .ok (.iconst 2, 1) := by decide +kernel
theorem dX11_set_28 : decode cX11_set 28 = .ok (.bipush 127, 2) := by decide +kernel
theorem dX11_set_30 : decode cX11_set 30 = .ok (.invokestatic 59, 3) := by decide +kernel
theorem dX11_set_33 : decode cX11_set 33 = .ok (.ifCond .ne 6, 3) := by decide +kernel
theorem dX11_set_36 : decode cX11_set 36 = .ok (.bipush (-2), 2) := by decide +kernel
theorem dX11_set_38 : decode cX11_set 38 = .ok (.ireturn, 1) := by decide +kernel
theorem dX11_set_39 : decode cX11_set 39 = .ok (.iload_n 1, 1) := by decide +kernel
theorem dX11_set_40 : decode cX11_set 40 = .ok (.ifCond .ne 10, 3) := by decide +kernel
theorem dX11_set_43 : decode cX11_set 43 = .ok (.aload_n 0, 1) := by decide +kernel
theorem dX11_set_44 : decode cX11_set 44 = .ok (.getfield 16, 3) := by decide +kernel
theorem dX11_set_47 : decode cX11_set 47 = .ok (.goto 7, 3) := by decide +kernel
theorem dX11_set_50 : decode cX11_set 50 = .ok (.aload_n 0, 1) := by decide +kernel
theorem dX11_set_51 : decode cX11_set 51 = .ok (.getfield 20, 3) := by decide +kernel
theorem dX11_set_54 : decode cX11_set 54 = .ok (.istore_n 3, 1) := by decide +kernel
theorem dX11_set_55 : decode cX11_set 55 = .ok (.aload_n 0, 1) := by decide +kernel
theorem dX11_set_56 : decode cX11_set 56 = .ok (.iload_n 1, 1) := by decide +kernel
theorem dX11_set_57 : decode cX11_set 57 = .ok (.ifCond .ne 7, 3) := by decide +kernel
theorem dX11_set_60 : decode cX11_set 60 = .ok (.iload_n 2, 1) := by decide +kernel
theorem dX11_set_61 : decode cX11_set 61 = .ok (.goto 7, 3) := by decide +kernel
theorem dX11_set_64 : decode cX11_set 64 = .ok (.aload_n 0, 1) := by decide +kernel
theorem dX11_set_65 : decode cX11_set 65 = .ok (.getfield 16, 3) := by decide +kernel
theorem dX11_set_68 : decode cX11_set 68 = .ok (.putfield 16, 3) := by decide +kernel
theorem dX11_set_71 : decode cX11_set 71 = .ok (.aload_n 0, 1) := by decide +kernel
theorem dX11_set_72 : decode cX11_set 72 = .ok (.iload_n 1, 1) := by decide +kernel
theorem dX11_set_73 : decode cX11_set 73 = .ok (.iconst 1, 1) := by decide +kernel
theorem dX11_set_74 : decode cX11_set 74 = .ok (.if_icmp .ne 7, 3) := by decide +kernel
theorem dX11_set_77 : decode cX11_set 77 = .ok (.iload_n 2, 1) := by decide +kernel
theorem dX11_set_78 : decode cX11_set 78 = .ok (.goto 7, 3) := by decide +kernel
theorem dX11_set_81 : decode cX11_set 81 = .ok (.aload_n 0, 1) := by decide +kernel
theorem dX11_set_82 : decode cX11_set 82 = .ok (.getfield 20, 3) := by decide +kernel
theorem dX11_set_85 : decode cX11_set 85 = .ok (.putfield 20, 3) := by decide +kernel
theorem dX11_set_88 : decode cX11_set 88 = .ok (.iload_n 3, 1) := by decide +kernel
theorem dX11_set_89 : decode cX11_set 89 = .ok (.ireturn, 1) := by decide +kernel
theorem dX11_isWhole_0 : decode cX11_isWhole 0 = .ok (.iconst 0, 1) := by decide +kernel
theorem dX11_isWhole_1 : decode cX11_isWhole 1 = .ok (.istore_n 2, 1) := by decide +kernel
theorem dX11_isWhole_2 : decode cX11_isWhole 2 = .ok (.iload_n 2, 1) := by decide +kernel
theorem dX11_isWhole_3 : decode cX11_isWhole 3 = .ok (.aload_n 0, 1) := by decide +kernel
theorem dX11_isWhole_4 : decode cX11_isWhole 4 = .ok (.getfield 7, 3) := by decide +kernel
theorem dX11_isWhole_7 : decode cX11_isWhole 7 = .ok (.iload_n 1, 1) := by decide +kernel
theorem dX11_isWhole_8 : decode cX11_isWhole 8 = .ok (.iaload, 1) := by decide +kernel
theorem dX11_isWhole_9 : decode cX11_isWhole 9 = .ok (.if_icmp .ge 26, 3) := by decide +kernel
theorem dX11_isWhole_12 : decode cX11_isWhole 12 = .ok (.aload_n 0, 1) := by decide +kernel
theorem dX11_isWhole_13 : decode cX11_isWhole 13 = .ok (.getfield 13, 3) := by decide +kernel
theorem dX11_isWhole_16 : decode cX11_isWhole 16 = .ok (.bipush 15, 2) := by decide +kernel
theorem dX11_isWhole_18 : decode cX11_isWhole 18 = .ok (.iload_n 1, 1) := by decide +kernel
theorem dX11_isWhole_19 : decode cX11_isWhole 19 = .ok (.imul, 1) := by decide +kernel
theorem dX11_isWhole_20 : decode cX11_isWhole 20 = .ok (.iload_n 2, 1) := by decide +kernel
theorem dX11_isWhole_21 : decode cX11_isWhole 21 = .ok (.iadd, 1) := by decide +kernel
theorem dX11_isWhole_22 : decode cX11_isWhole 22 = .ok (.iaload, 1) := by decide +kernel
theorem dX11_isWhole_23 : decode cX11_isWhole 23 = .ok (.iconst (-1), 1) := by decide +kernel
theorem dX11_isWhole_24 : decode cX11_isWhole 24 = .ok (.if_icmp .ne 5, 3) := by decide +kernel
theorem dX11_isWhole_27 : decode cX11_isWhole 27 = .ok (.iconst 0, 1) := by decide +kernel
theorem dX11_isWhole_28 : decode cX11_isWhole 28 = .ok (.ireturn, 1) := by decide +kernel
theorem dX11_isWhole_29 : decode cX11_isWhole 29 = .ok (.iinc 2 1, 3) := by decide +kernel
theorem dX11_isWhole_32 : decode cX11_isWhole 32 = .ok (.goto (-30), 3) := by decide +kernel
theorem dX11_isWhole_35 : decode cX11_isWhole 35 = .ok (.iconst 1, 1) := by decide +kernel
theorem dX11_isWhole_36 : decode cX11_isWhole 36 = .ok (.ireturn, 1) := by decide +kernel
theorem dX11_bitsOf_0 : decode cX11_bitsOf 0 = .ok (.iconst 0, 1) := by decide +kernel
theorem dX11_bitsOf_1 : decode cX11_bitsOf 1 = .ok (.istore_n 2, 1) := by decide +kernel
theorem dX11_bitsOf_2 : decode cX11_bitsOf 2 = .ok (.iconst 0, 1) := by decide +kernel
theorem dX11_bitsOf_3 : decode cX11_bitsOf 3 = .ok (.istore_n 3, 1) := by decide +kernel
theorem dX11_bitsOf_4 : decode cX11_bitsOf 4 = .ok (.iload_n 3, 1) := by decide +kernel
theorem dX11_bitsOf_5 : decode cX11_bitsOf 5 = .ok (.aload_n 0, 1) := by decide +kernel
theorem dX11_bitsOf_6 : decode cX11_bitsOf 6 = .ok (.getfield 7, 3) := by decide +kernel
theorem dX11_bitsOf_9 : decode cX11_bitsOf 9 = .ok (.iload_n 1, 1) := by decide +kernel
theorem dX11_bitsOf_10 : decode cX11_bitsOf 10 = .ok (.iaload, 1) := by decide +kernel
theorem dX11_bitsOf_11 : decode cX11_bitsOf 11 = .ok (.if_icmp .ge 34, 3) := by decide +kernel
theorem dX11_bitsOf_14 : decode cX11_bitsOf 14 = .ok (.iconst 2, 1) := by decide +kernel
theorem dX11_bitsOf_15 : decode cX11_bitsOf 15 = .ok (.iload_n 2, 1) := by decide +kernel
theorem dX11_bitsOf_16 : decode cX11_bitsOf 16 = .ok (.imul, 1) := by decide +kernel
theorem dX11_bitsOf_17 : decode cX11_bitsOf 17 = .ok (.aload_n 0, 1) := by decide +kernel
theorem dX11_bitsOf_18 : decode cX11_bitsOf 18 = .ok (.getfield 13, 3) := by decide +kernel
theorem dX11_bitsOf_21 : decode cX11_bitsOf 21 = .ok (.bipush 15, 2) := by decide +kernel
theorem dX11_bitsOf_23 : decode cX11_bitsOf 23 = .ok (.iload_n 1, 1) := by decide +kernel
theorem dX11_bitsOf_24 : decode cX11_bitsOf 24 = .ok (.imul, 1) := by decide +kernel
theorem dX11_bitsOf_25 : decode cX11_bitsOf 25 = .ok (.iload_n 3, 1) := by decide +kernel
theorem dX11_bitsOf_26 : decode cX11_bitsOf 26 = .ok (.iadd, 1) := by decide +kernel
theorem dX11_bitsOf_27 : decode cX11_bitsOf 27 = .ok (.iaload, 1) := by decide +kernel
theorem dX11_bitsOf_28 : decode cX11_bitsOf 28 = .ok (.iconst 1, 1) := by decide +kernel
theorem dX11_bitsOf_29 : decode cX11_bitsOf 29 = .ok (.if_icmp .ne 7, 3) := by decide +kernel
theorem dX11_bitsOf_32 : decode cX11_bitsOf 32 = .ok (.iconst 1, 1) := by decide +kernel
theorem dX11_bitsOf_33 : decode cX11_bitsOf 33 = .ok (.goto 4, 3) := by decide +kernel
theorem dX11_bitsOf_36 : decode cX11_bitsOf 36 = .ok (.iconst 0, 1) := by decide +kernel
theorem dX11_bitsOf_37 : decode cX11_bitsOf 37 = .ok (.iadd, 1) := by decide +kernel
theorem dX11_bitsOf_38 : decode cX11_bitsOf 38 = .ok (.istore_n 2, 1) := by decide +kernel
theorem dX11_bitsOf_39 : decode cX11_bitsOf 39 = .ok (.iinc 3 1, 3) := by decide +kernel
theorem dX11_bitsOf_42 : decode cX11_bitsOf 42 = .ok (.goto (-38), 3) := by decide +kernel
theorem dX11_bitsOf_45 : decode cX11_bitsOf 45 = .ok (.iload_n 2, 1) := by decide +kernel
theorem dX11_bitsOf_46 : decode cX11_bitsOf 46 = .ok (.ireturn, 1) := by decide +kernel
theorem dX11_lengthOf_0 : decode cX11_lengthOf 0 = .ok (.iconst 0, 1) := by decide +kernel
theorem dX11_lengthOf_1 : decode cX11_lengthOf 1 = .ok (.istore_n 1, 1) := by decide +kernel
theorem dX11_lengthOf_2 : decode cX11_lengthOf 2 = .ok (.iload_n 0, 1) := by decide +kernel
theorem dX11_lengthOf_3 : decode cX11_lengthOf 3 = .ok (.iload_n 1, 1) := by decide +kernel
theorem dX11_lengthOf_4 : decode cX11_lengthOf 4 = .ok (.ishr, 1) := by decide +kernel
theorem dX11_lengthOf_5 : decode cX11_lengthOf 5 = .ok (.iconst 1, 1) := by decide +kernel
theorem dX11_lengthOf_6 : decode cX11_lengthOf 6 = .ok (.if_icmp .le 9, 3) := by decide +kernel
theorem dX11_lengthOf_9 : decode cX11_lengthOf 9 = .ok (.iinc 1 1, 3) := by decide +kernel
theorem dX11_lengthOf_12 : decode cX11_lengthOf 12 = .ok (.goto (-10), 3) := by decide +kernel
theorem dX11_lengthOf_15 : decode cX11_lengthOf 15 = .ok (.iload_n 1, 1) := by decide +kernel
theorem dX11_lengthOf_16 : decode cX11_lengthOf 16 = .ok (.ireturn, 1) := by decide +kernel
theorem dX11_standing_0 : decode cX11_standing 0 = .ok (.aload_n 0, 1) := by decide +kernel
theorem dX11_standing_1 : decode cX11_standing 1 = .ok (.getfield 20, 3) := by decide +kernel
theorem dX11_standing_4 : decode cX11_standing 4 = .ok (.invokestatic 78, 3) := by decide +kernel
theorem dX11_standing_7 : decode cX11_standing 7 = .ok (.istore_n 3, 1) := by decide +kernel
theorem dX11_standing_8 : decode cX11_standing 8 = .ok (.aload_n 0, 1) := by decide +kernel
theorem dX11_standing_9 : decode cX11_standing 9 = .ok (.getfield 20, 3) := by decide +kernel
theorem dX11_standing_12 : decode cX11_standing 12 = .ok (.iconst 1, 1) := by decide +kernel
theorem dX11_standing_13 : decode cX11_standing 13 = .ok (.iload_n 3, 1) := by decide +kernel
theorem dX11_standing_14 : decode cX11_standing 14 = .ok (.ishl, 1) := by decide +kernel
theorem dX11_standing_15 : decode cX11_standing 15 = .ok (.isub, 1) := by decide +kernel
theorem dX11_standing_16 : decode cX11_standing 16 = .ok (.istore 4, 2) := by decide +kernel
theorem dX11_standing_18 : decode cX11_standing 18 = .ok (.iconst 0, 1) := by decide +kernel
theorem dX11_standing_19 : decode cX11_standing 19 = .ok (.istore 5, 2) := by decide +kernel
theorem dX11_standing_21 : decode cX11_standing 21 = .ok (.iconst 0, 1) := by decide +kernel
theorem dX11_standing_22 : decode cX11_standing 22 = .ok (.istore 6, 2) := by decide +kernel
theorem dX11_standing_24 : decode cX11_standing 24 = .ok (.iload 6, 2) := by decide +kernel
theorem dX11_standing_26 : decode cX11_standing 26 = .ok (.iload_n 3, 1) := by decide +kernel
theorem dX11_standing_27 : decode cX11_standing 27 = .ok (.iadd, 1) := by decide +kernel
theorem dX11_standing_28 : decode cX11_standing 28 = .ok (.iload_n 2, 1) := by decide +kernel
theorem dX11_standing_29 : decode cX11_standing 29 = .ok (.if_icmp .gt 38, 3) := by decide +kernel
theorem dX11_standing_32 : decode cX11_standing 32 = .ok (.iload 5, 2) := by decide +kernel
theorem dX11_standing_34 : decode cX11_standing 34 = .ok (.iload_n 1, 1) := by decide +kernel
theorem dX11_standing_35 : decode cX11_standing 35 = .ok (.iload_n 2, 1) := by decide +kernel
theorem dX11_standing_36 : decode cX11_standing 36 = .ok (.iload_n 3, 1) := by decide +kernel
theorem dX11_standing_37 : decode cX11_standing 37 = .ok (.isub, 1) := by decide +kernel
theorem dX11_standing_38 : decode cX11_standing 38 = .ok (.iload 6, 2) := by decide +kernel
theorem dX11_standing_40 : decode cX11_standing 40 = .ok (.isub, 1) := by decide +kernel
theorem dX11_standing_41 : decode cX11_standing 41 = .ok (.ishr, 1) := by decide +kernel
theorem dX11_standing_42 : decode cX11_standing 42 = .ok (.iconst 1, 1) := by decide +kernel
theorem dX11_standing_43 : decode cX11_standing 43 = .ok (.iload_n 3, 1) := by decide +kernel
theorem dX11_standing_44 : decode cX11_standing 44 = .ok (.ishl, 1) := by decide +kernel
theorem dX11_standing_45 : decode cX11_standing 45 = .ok (.iconst 1, 1) := by decide +kernel
theorem dX11_standing_46 : decode cX11_standing 46 = .ok (.isub, 1) := by decide +kernel
theorem dX11_standing_47 : decode cX11_standing 47 = .ok (.iand, 1) := by decide +kernel
theorem dX11_standing_48 : decode cX11_standing 48 = .ok (.iload 4, 2) := by decide +kernel
theorem dX11_standing_50 : decode cX11_standing 50 = .ok (.if_icmp .ne 7, 3) := by decide +kernel
theorem dX11_standing_53 : decode cX11_standing 53 = .ok (.iconst 1, 1) := by decide +kernel
theorem dX11_standing_54 : decode cX11_standing 54 = .ok (.goto 4, 3) := by decide +kernel
theorem dX11_standing_57 : decode cX11_standing 57 = .ok (.iconst 0, 1) := by decide +kernel
theorem dX11_standing_58 : decode cX11_standing 58 = .ok (.iadd, 1) := by decide +kernel
theorem dX11_standing_59 : decode cX11_standing 59 = .ok (.istore 5, 2) := by decide +kernel
theorem dX11_standing_61 : decode cX11_standing 61 = .ok (.iinc 6 1, 3) := by decide +kernel
theorem dX11_standing_64 : decode cX11_standing 64 = .ok (.goto (-40), 3) := by decide +kernel
theorem dX11_standing_67 : decode cX11_standing 67 = .ok (.iload 5, 2) := by decide +kernel
theorem dX11_standing_69 : decode cX11_standing 69 = .ok (.ireturn, 1) := by decide +kernel
theorem dX11_numberOf_0 : decode cX11_numberOf 0 = .ok (.iload_n 3, 1) := by decide +kernel
theorem dX11_numberOf_1 : decode cX11_numberOf 1 = .ok (.ifCond .ne 8, 3) := by decide +kernel
theorem dX11_numberOf_4 : decode cX11_numberOf 4 = .ok (.iload_n 1, 1) := by decide +kernel
theorem dX11_numberOf_5 : decode cX11_numberOf 5 = .ok (.invokestatic 81, 3) := by decide +kernel
theorem dX11_numberOf_8 : decode cX11_numberOf 8 = .ok (.ireturn, 1) := by decide +kernel
theorem dX11_numberOf_9 : decode cX11_numberOf 9 = .ok (.iload_n 3, 1) := by decide +kernel
theorem dX11_numberOf_10 : decode cX11_numberOf 10 = .ok (.bipush 6, 2) := by decide +kernel
theorem dX11_numberOf_12 : decode cX11_numberOf 12 = .ok (.if_icmp .ne 10, 3) := by decide +kernel
theorem dX11_numberOf_15 : decode cX11_numberOf 15 = .ok (.aload_n 0, 1) := by decide +kernel
theorem dX11_numberOf_16 : decode cX11_numberOf 16 = .ok (.iload_n 1, 1) := by decide +kernel
theorem dX11_numberOf_17 : decode cX11_numberOf 17 = .ok (.iload_n 2, 1) := by decide +kernel
theorem dX11_numberOf_18 : decode cX11_numberOf 18 = .ok (.invokevirtual 84, 3) := by decide +kernel
theorem dX11_numberOf_21 : decode cX11_numberOf 21 = .ok (.ireturn, 1) := by decide +kernel
theorem dX11_numberOf_22 : decode cX11_numberOf 22 = .ok (.iconst 0, 1) := by decide +kernel
theorem dX11_numberOf_23 : decode cX11_numberOf 23 = .ok (.istore 4, 2) := by decide +kernel
theorem dX11_numberOf_25 : decode cX11_numberOf 25 = .ok (.iconst 0, 1) := by decide +kernel
theorem dX11_numberOf_26 : decode cX11_numberOf 26 = .ok (.istore 5, 2) := by decide +kernel
theorem dX11_numberOf_28 : decode cX11_numberOf 28 = .ok (.iconst 0, 1) := by decide +kernel
theorem dX11_numberOf_29 : decode cX11_numberOf 29 = .ok (.istore 6, 2) := by decide +kernel
theorem dX11_numberOf_31 : decode cX11_numberOf 31 = .ok (.iconst 0, 1) := by decide +kernel
theorem dX11_numberOf_32 : decode cX11_numberOf 32 = .ok (.istore 7, 2) := by decide +kernel
theorem dX11_numberOf_34 : decode cX11_numberOf 34 = .ok (.bipush 15, 2) := by decide +kernel
theorem dX11_numberOf_36 : decode cX11_numberOf 36 = .ok (.istore 8, 2) := by decide +kernel
theorem dX11_numberOf_38 : decode cX11_numberOf 38 = .ok (.iconst 0, 1) := by decide +kernel
theorem dX11_numberOf_39 : decode cX11_numberOf 39 = .ok (.istore 9, 2) := by decide +kernel
theorem dX11_numberOf_41 : decode cX11_numberOf 41 = .ok (.iconst 0, 1) := by decide +kernel
theorem dX11_numberOf_42 : decode cX11_numberOf 42 = .ok (.istore 10, 2) := by decide +kernel
theorem dX11_numberOf_44 : decode cX11_numberOf 44 = .ok (.iload 10, 2) := by decide +kernel
theorem dX11_numberOf_46 : decode cX11_numberOf 46 = .ok (.iload_n 2, 1) := by decide +kernel
theorem dX11_numberOf_47 : decode cX11_numberOf 47 = .ok (.if_icmp .ge 157, 3) := by decide +kernel
theorem dX11_numberOf_50 : decode cX11_numberOf 50 = .ok (.iload_n 1, 1) := by decide +kernel
theorem dX11_numberOf_51 : decode cX11_numberOf 51 = .ok (.iload_n 2, 1) := by decide +kernel
theorem dX11_numberOf_52 : decode cX11_numberOf 52 = .ok (.iconst 1, 1) := by decide +kernel
theorem dX11_numberOf_53 : decode cX11_numberOf 53 = .ok (.isub, 1) := by decide +kernel
theorem dX11_numberOf_54 : decode cX11_numberOf 54 = .ok (.iload 10, 2) := by decide +kernel
theorem dX11_numberOf_56 : decode cX11_numberOf 56 = .ok (.isub, 1) := by decide +kernel
theorem dX11_numberOf_57 : decode cX11_numberOf 57 = .ok (.ishr, 1) := by decide +kernel
theorem dX11_numberOf_58 : decode cX11_numberOf 58 = .ok (.iconst 1, 1) := by decide +kernel
theorem dX11_numberOf_59 : decode cX11_numberOf 59 = .ok (.iand, 1) := by decide +kernel
theorem dX11_numberOf_60 : decode cX11_numberOf 60 = .ok (.istore 11, 2) := by decide +kernel
theorem dX11_numberOf_62 : decode cX11_numberOf 62 = .ok (.iload 10, 2) := by decide +kernel
theorem dX11_numberOf_64 : decode cX11_numberOf 64 = .ok (.ifCond .le 20, 3) := by decide +kernel
theorem dX11_numberOf_67 : decode cX11_numberOf 67 = .ok (.iload_n 1, 1) := by decide +kernel
theorem dX11_numberOf_68 : decode cX11_numberOf 68 = .ok (.iload_n 2, 1) := by decide +kernel
theorem dX11_numberOf_69 : decode cX11_numberOf 69 = .ok (.iload 10, 2) := by decide +kernel
theorem dX11_numberOf_71 : decode cX11_numberOf 71 = .ok (.isub, 1) := by decide +kernel
theorem dX11_numberOf_72 : decode cX11_numberOf 72 = .ok (.ishr, 1) := by decide +kernel
theorem dX11_numberOf_73 : decode cX11_numberOf 73 = .ok (.iconst 1, 1) := by decide +kernel
theorem dX11_numberOf_74 : decode cX11_numberOf 74 = .ok (.iand, 1) := by decide +kernel
theorem dX11_numberOf_75 : decode cX11_numberOf 75 = .ok (.iload 11, 2) := by decide +kernel
theorem dX11_numberOf_77 : decode cX11_numberOf 77 = .ok (.if_icmp .ne 7, 3) := by decide +kernel
theorem dX11_numberOf_80 : decode cX11_numberOf 80 = .ok (.iconst 1, 1) := by decide +kernel
theorem dX11_numberOf_81 : decode cX11_numberOf 81 = .ok (.goto 4, 3) := by decide +kernel
theorem dX11_numberOf_84 : decode cX11_numberOf 84 = .ok (.iconst 0, 1) := by decide +kernel
theorem dX11_numberOf_85 : decode cX11_numberOf 85 = .ok (.istore 12, 2) := by decide +kernel
theorem dX11_numberOf_87 : decode cX11_numberOf 87 = .ok (.iload 4, 2) := by decide +kernel
theorem dX11_numberOf_89 : decode cX11_numberOf 89 = .ok (.iload 12, 2) := by decide +kernel
theorem dX11_numberOf_91 : decode cX11_numberOf 91 = .ok (.ifCond .eq 7, 3) := by decide +kernel
theorem dX11_numberOf_94 : decode cX11_numberOf 94 = .ok (.iconst 0, 1) := by decide +kernel
theorem dX11_numberOf_95 : decode cX11_numberOf 95 = .ok (.goto 4, 3) := by decide +kernel
theorem dX11_numberOf_98 : decode cX11_numberOf 98 = .ok (.iconst 1, 1) := by decide +kernel
theorem dX11_numberOf_99 : decode cX11_numberOf 99 = .ok (.iadd, 1) := by decide +kernel
theorem dX11_numberOf_100 : decode cX11_numberOf 100 = .ok (.istore 4, 2) := by decide +kernel
theorem dX11_numberOf_102 : decode cX11_numberOf 102 = .ok (.iload 12, 2) := by decide +kernel
theorem dX11_numberOf_104 : decode cX11_numberOf 104 = .ok (.ifCond .eq 10, 3) := by decide +kernel
theorem dX11_numberOf_107 : decode cX11_numberOf 107 = .ok (.iload 9, 2) := by decide +kernel
theorem dX11_numberOf_109 : decode cX11_numberOf 109 = .ok (.iconst 1, 1) := by decide +kernel
theorem dX11_numberOf_110 : decode cX11_numberOf 110 = .ok (.iadd, 1) := by decide +kernel
theorem dX11_numberOf_111 : decode cX11_numberOf 111 = .ok (.goto 4, 3) := by decide +kernel
theorem dX11_numberOf_114 : decode cX11_numberOf 114 = .ok (.iconst 1, 1) := by decide +kernel
theorem dX11_numberOf_115 : decode cX11_numberOf 115 = .ok (.istore 9, 2) := by decide +kernel
theorem dX11_numberOf_117 : decode cX11_numberOf 117 = .ok (.iload 9, 2) := by decide +kernel
theorem dX11_numberOf_119 : decode cX11_numberOf 119 = .ok (.iload 5, 2) := by decide +kernel
theorem dX11_numberOf_121 : decode cX11_numberOf 121 = .ok (.if_icmp .le 8, 3) := by decide +kernel
theorem dX11_numberOf_124 : decode cX11_numberOf 124 = .ok (.iload 9, 2) := by decide +kernel
theorem dX11_numberOf_126 : decode cX11_numberOf 126 = .ok (.goto 5, 3) := by decide +kernel
theorem dX11_numberOf_129 : decode cX11_numberOf 129 = .ok (.iload 5, 2) := by decide +kernel
theorem dX11_numberOf_131 : decode cX11_numberOf 131 = .ok (.istore 5, 2) := by decide +kernel
theorem dX11_numberOf_133 : decode cX11_numberOf 133 = .ok (.iload 11, 2) := by decide +kernel
theorem dX11_numberOf_135 : decode cX11_numberOf 135 = .ok (.iconst 1, 1) := by decide +kernel
theorem dX11_numberOf_136 : decode cX11_numberOf 136 = .ok (.if_icmp .ne 15, 3) := by decide +kernel
theorem dX11_numberOf_139 : decode cX11_numberOf 139 = .ok (.iload 9, 2) := by decide +kernel
theorem dX11_numberOf_141 : decode cX11_numberOf 141 = .ok (.iload 6, 2) := by decide +kernel
theorem dX11_numberOf_143 : decode cX11_numberOf 143 = .ok (.if_icmp .le 8, 3) := by decide +kernel
theorem dX11_numberOf_146 : decode cX11_numberOf 146 = .ok (.iload 9, 2) := by decide +kernel
theorem dX11_numberOf_148 : decode cX11_numberOf 148 = .ok (.goto 5, 3) := by decide +kernel
theorem dX11_numberOf_151 : decode cX11_numberOf 151 = .ok (.iload 6, 2) := by decide +kernel
theorem dX11_numberOf_153 : decode cX11_numberOf 153 = .ok (.istore 6, 2) := by decide +kernel
theorem dX11_numberOf_155 : decode cX11_numberOf 155 = .ok (.iload 7, 2) := by decide +kernel
theorem dX11_numberOf_157 : decode cX11_numberOf 157 = .ok (.iload 12, 2) := by decide +kernel
theorem dX11_numberOf_159 : decode cX11_numberOf 159 = .ok (.ifCond .eq 13, 3) := by decide +kernel
theorem dX11_numberOf_162 : decode cX11_numberOf 162 = .ok (.iload 11, 2) := by decide +kernel
theorem dX11_numberOf_164 : decode cX11_numberOf 164 = .ok (.iconst 1, 1) := by decide +kernel
theorem dX11_numberOf_165 : decode cX11_numberOf 165 = .ok (.if_icmp .ne 7, 3) := by decide +kernel
theorem dX11_numberOf_168 : decode cX11_numberOf 168 = .ok (.iconst 1, 1) := by decide +kernel
theorem dX11_numberOf_169 : decode cX11_numberOf 169 = .ok (.goto 4, 3) := by decide +kernel
theorem dX11_numberOf_172 : decode cX11_numberOf 172 = .ok (.iconst 0, 1) := by decide +kernel
theorem dX11_numberOf_173 : decode cX11_numberOf 173 = .ok (.iadd, 1) := by decide +kernel
theorem dX11_numberOf_174 : decode cX11_numberOf 174 = .ok (.istore 7, 2) := by decide +kernel
theorem dX11_numberOf_176 : decode cX11_numberOf 176 = .ok (.iload 11, 2) := by decide +kernel
theorem dX11_numberOf_178 : decode cX11_numberOf 178 = .ok (.iconst 1, 1) := by decide +kernel
theorem dX11_numberOf_179 : decode cX11_numberOf 179 = .ok (.if_icmp .ne 15, 3) := by decide +kernel
theorem dX11_numberOf_182 : decode cX11_numberOf 182 = .ok (.iload 8, 2) := by decide +kernel
theorem dX11_numberOf_184 : decode cX11_numberOf 184 = .ok (.bipush 15, 2) := by decide +kernel
theorem dX11_numberOf_186 : decode cX11_numberOf 186 = .ok (.if_icmp .ne 8, 3) := by decide +kernel
theorem dX11_numberOf_189 : decode cX11_numberOf 189 = .ok (.iload 10, 2) := by decide +kernel
theorem dX11_numberOf_191 : decode cX11_numberOf 191 = .ok (.goto 5, 3) := by decide +kernel
theorem dX11_numberOf_194 : decode cX11_numberOf 194 = .ok (.iload 8, 2) := by decide +kernel
theorem dX11_numberOf_196 : decode cX11_numberOf 196 = .ok (.istore 8, 2) := by decide +kernel
theorem dX11_numberOf_198 : decode cX11_numberOf 198 = .ok (.iinc 10 1, 3) := by decide +kernel
theorem dX11_numberOf_201 : decode cX11_numberOf 201 = .ok (.goto (-157), 3) := by decide +kernel
theorem dX11_numberOf_204 : decode cX11_numberOf 204 = .ok (.iload_n 3, 1) := by decide +kernel
theorem dX11_numberOf_205 : decode cX11_numberOf 205 = .ok (.iconst 1, 1) := by decide +kernel
theorem dX11_numberOf_206 : decode cX11_numberOf 206 = .ok (.if_icmp .ne 8, 3) := by decide +kernel
theorem dX11_numberOf_209 : decode cX11_numberOf 209 = .ok (.iload 4, 2) := by decide +kernel
theorem dX11_numberOf_211 : decode cX11_numberOf 211 = .ok (.goto 35, 3) := by decide +kernel
theorem dX11_numberOf_214 : decode cX11_numberOf 214 = .ok (.iload_n 3, 1) := by decide +kernel
theorem dX11_numberOf_215 : decode cX11_numberOf 215 = .ok (.iconst 2, 1) := by decide +kernel
theorem dX11_numberOf_216 : decode cX11_numberOf 216 = .ok (.if_icmp .ne 8, 3) := by decide +kernel
theorem dX11_numberOf_219 : decode cX11_numberOf 219 = .ok (.iload 5, 2) := by decide +kernel
theorem dX11_numberOf_221 : decode cX11_numberOf 221 = .ok (.goto 25, 3) := by decide +kernel
theorem dX11_numberOf_224 : decode cX11_numberOf 224 = .ok (.iload_n 3, 1) := by decide +kernel
theorem dX11_numberOf_225 : decode cX11_numberOf 225 = .ok (.iconst 3, 1) := by decide +kernel
theorem dX11_numberOf_226 : decode cX11_numberOf 226 = .ok (.if_icmp .ne 8, 3) := by decide +kernel
theorem dX11_numberOf_229 : decode cX11_numberOf 229 = .ok (.iload 6, 2) := by decide +kernel
theorem dX11_numberOf_231 : decode cX11_numberOf 231 = .ok (.goto 15, 3) := by decide +kernel
theorem dX11_numberOf_234 : decode cX11_numberOf 234 = .ok (.iload_n 3, 1) := by decide +kernel
theorem dX11_numberOf_235 : decode cX11_numberOf 235 = .ok (.iconst 4, 1) := by decide +kernel
theorem dX11_numberOf_236 : decode cX11_numberOf 236 = .ok (.if_icmp .ne 8, 3) := by decide +kernel
theorem dX11_numberOf_239 : decode cX11_numberOf 239 = .ok (.iload 7, 2) := by decide +kernel
theorem dX11_numberOf_241 : decode cX11_numberOf 241 = .ok (.goto 5, 3) := by decide +kernel
theorem dX11_numberOf_244 : decode cX11_numberOf 244 = .ok (.iload 8, 2) := by decide +kernel
theorem dX11_numberOf_246 : decode cX11_numberOf 246 = .ok (.ireturn, 1) := by decide +kernel
theorem dX11_showsNow_0 : decode cX11_showsNow 0 = .ok (.aload_n 0, 1) := by decide +kernel
theorem dX11_showsNow_1 : decode cX11_showsNow 1 = .ok (.iload_n 1, 1) := by decide +kernel
theorem dX11_showsNow_2 : decode cX11_showsNow 2 = .ok (.invokevirtual 87, 3) := by decide +kernel
theorem dX11_showsNow_5 : decode cX11_showsNow 5 = .ok (.ifCond .eq 22, 3) := by decide +kernel
theorem dX11_showsNow_8 : decode cX11_showsNow 8 = .ok (.aload_n 0, 1) := by decide +kernel
theorem dX11_showsNow_9 : decode cX11_showsNow 9 = .ok (.aload_n 0, 1) := by decide +kernel
theorem dX11_showsNow_10 : decode cX11_showsNow 10 = .ok (.iload_n 1, 1) := by decide +kernel
theorem dX11_showsNow_11 : decode cX11_showsNow 11 = .ok (.invokevirtual 90, 3) := by decide +kernel
theorem dX11_showsNow_14 : decode cX11_showsNow 14 = .ok (.aload_n 0, 1) := by decide +kernel
theorem dX11_showsNow_15 : decode cX11_showsNow 15 = .ok (.getfield 7, 3) := by decide +kernel
theorem dX11_showsNow_18 : decode cX11_showsNow 18 = .ok (.iload_n 1, 1) := by decide +kernel
theorem dX11_showsNow_19 : decode cX11_showsNow 19 = .ok (.iaload, 1) := by decide +kernel
theorem dX11_showsNow_20 : decode cX11_showsNow 20 = .ok (.iload_n 2, 1) := by decide +kernel
theorem dX11_showsNow_21 : decode cX11_showsNow 21 = .ok (.invokevirtual 93, 3) := by decide +kernel
theorem dX11_showsNow_24 : decode cX11_showsNow 24 = .ok (.goto 5, 3) := by decide +kernel
theorem dX11_showsNow_27 : decode cX11_showsNow 27 = .ok (.bipush (-3), 2) := by decide +kernel
theorem dX11_showsNow_29 : decode cX11_showsNow 29 = .ok (.ireturn, 1) := by decide +kernel
theorem dX11_shows_0 : decode cX11_shows 0 = .ok (.iload_n 1, 1) := by decide +kernel
theorem dX11_shows_1 : decode cX11_shows 1 = .ok (.invokestatic 63, 3) := by decide +kernel
theorem dX11_shows_4 : decode cX11_shows 4 = .ok (.ifCond .eq 22, 3) := by decide +kernel
theorem dX11_shows_7 : decode cX11_shows 7 = .ok (.iload_n 2, 1) := by decide +kernel
theorem dX11_shows_8 : decode cX11_shows 8 = .ok (.iconst 0, 1) := by decide +kernel
theorem dX11_shows_9 : decode cX11_shows 9 = .ok (.bipush 6, 2) := by decide +kernel
theorem dX11_shows_11 : decode cX11_shows 11 = .ok (.invokestatic 59, 3) := by decide +kernel
theorem dX11_shows_14 : decode cX11_shows 14 = .ok (.ifCond .eq 12, 3) := by decide +kernel
theorem dX11_shows_17 : decode cX11_shows 17 = .ok (.aload_n 0, 1) := by decide +kernel
theorem dX11_shows_18 : decode cX11_shows 18 = .ok (.iload_n 1, 1) := by decide +kernel
theorem dX11_shows_19 : decode cX11_shows 19 = .ok (.iload_n 2, 1) := by decide +kernel
theorem dX11_shows_20 : decode cX11_shows 20 = .ok (.invokevirtual 97, 3) := by decide +kernel
theorem dX11_shows_23 : decode cX11_shows 23 = .ok (.goto 5, 3) := by decide +kernel
theorem dX11_shows_26 : decode cX11_shows 26 = .ok (.bipush (-2), 2) := by decide +kernel
theorem dX11_shows_28 : decode cX11_shows 28 = .ok (.ireturn, 1) := by decide +kernel
theorem dX11_type_0 : decode cX11_type 0 = .ok (.iload_n 1, 1) := by decide +kernel
theorem dX11_type_1 : decode cX11_type 1 = .ok (.iconst 0, 1) := by decide +kernel
theorem dX11_type_2 : decode cX11_type 2 = .ok (.sipush 255, 3) := by decide +kernel
theorem dX11_type_5 : decode cX11_type 5 = .ok (.invokestatic 59, 3) := by decide +kernel
theorem dX11_type_8 : decode cX11_type 8 = .ok (.ifCond .ne 6, 3) := by decide +kernel
theorem dX11_type_11 : decode cX11_type 11 = .ok (.bipush (-2), 2) := by decide +kernel
theorem dX11_type_13 : decode cX11_type 13 = .ok (.ireturn, 1) := by decide +kernel
theorem dX11_type_14 : decode cX11_type 14 = .ok (.aload_n 0, 1) := by decide +kernel
theorem dX11_type_15 : decode cX11_type 15 = .ok (.getfield 100, 3) := by decide +kernel
theorem dX11_type_18 : decode cX11_type 18 = .ok (.bipush 60, 2) := by decide +kernel
theorem dX11_type_20 : decode cX11_type 20 = .ok (.if_icmp .ne 6, 3) := by decide +kernel
theorem dX11_type_23 : decode cX11_type 23 = .ok (.bipush (-4), 2) := by decide +kernel
theorem dX11_type_25 : decode cX11_type 25 = .ok (.ireturn, 1) := by decide +kernel
theorem dX11_type_26 : decode cX11_type 26 = .ok (.aload_n 0, 1) := by decide +kernel
theorem dX11_type_27 : decode cX11_type 27 = .ok (.getfield 23, 3) := by decide +kernel
theorem dX11_type_30 : decode cX11_type 30 = .ok (.aload_n 0, 1) := by decide +kernel
theorem dX11_type_31 : decode cX11_type 31 = .ok (.getfield 100, 3) := by decide +kernel
theorem dX11_type_34 : decode cX11_type 34 = .ok (.iload_n 1, 1) := by decide +kernel
theorem dX11_type_35 : decode cX11_type 35 = .ok (.iastore, 1) := by decide +kernel
theorem dX11_type_36 : decode cX11_type 36 = .ok (.aload_n 0, 1) := by decide +kernel
theorem dX11_type_37 : decode cX11_type 37 = .ok (.dup, 1) := by decide +kernel
theorem dX11_type_38 : decode cX11_type 38 = .ok (.getfield 100, 3) := by decide +kernel
theorem dX11_type_41 : decode cX11_type 41 = .ok (.iconst 1, 1) := by decide +kernel
theorem dX11_type_42 : decode cX11_type 42 = .ok (.iadd, 1) := by decide +kernel
theorem dX11_type_43 : decode cX11_type 43 = .ok (.putfield 100, 3) := by decide +kernel
theorem dX11_type_46 : decode cX11_type 46 = .ok (.aload_n 0, 1) := by decide +kernel
theorem dX11_type_47 : decode cX11_type 47 = .ok (.iconst 0, 1) := by decide +kernel
theorem dX11_type_48 : decode cX11_type 48 = .ok (.putfield 103, 3) := by decide +kernel
theorem dX11_type_51 : decode cX11_type 51 = .ok (.aload_n 0, 1) := by decide +kernel
theorem dX11_type_52 : decode cX11_type 52 = .ok (.getfield 100, 3) := by decide +kernel
theorem dX11_type_55 : decode cX11_type 55 = .ok (.ireturn, 1) := by decide +kernel
theorem dX11_wipe_0 : decode cX11_wipe 0 = .ok (.aload_n 0, 1) := by decide +kernel
theorem dX11_wipe_1 : decode cX11_wipe 1 = .ok (.getfield 100, 3) := by decide +kernel
theorem dX11_wipe_4 : decode cX11_wipe 4 = .ok (.istore_n 1, 1) := by decide +kernel
theorem dX11_wipe_5 : decode cX11_wipe 5 = .ok (.aload_n 0, 1) := by decide +kernel
theorem dX11_wipe_6 : decode cX11_wipe 6 = .ok (.iconst 0, 1) := by decide +kernel
theorem dX11_wipe_7 : decode cX11_wipe 7 = .ok (.putfield 100, 3) := by decide +kernel
theorem dX11_wipe_10 : decode cX11_wipe 10 = .ok (.aload_n 0, 1) := by decide +kernel
theorem dX11_wipe_11 : decode cX11_wipe 11 = .ok (.iconst 0, 1) := by decide +kernel
theorem dX11_wipe_12 : decode cX11_wipe 12 = .ok (.putfield 103, 3) := by decide +kernel
theorem dX11_wipe_15 : decode cX11_wipe 15 = .ok (.iload_n 1, 1) := by decide +kernel
theorem dX11_wipe_16 : decode cX11_wipe 16 = .ok (.ireturn, 1) := by decide +kernel
theorem dX11_byteNow_0 : decode cX11_byteNow 0 = .ok (.aload_n 0, 1) := by decide +kernel
theorem dX11_byteNow_1 : decode cX11_byteNow 1 = .ok (.getfield 107, 3) := by decide +kernel
theorem dX11_byteNow_4 : decode cX11_byteNow 4 = .ok (.aload_n 0, 1) := by decide +kernel
theorem dX11_byteNow_5 : decode cX11_byteNow 5 = .ok (.getfield 100, 3) := by decide +kernel
theorem dX11_byteNow_8 : decode cX11_byteNow 8 = .ok (.if_icmp .ge 15, 3) := by decide +kernel
theorem dX11_byteNow_11 : decode cX11_byteNow 11 = .ok (.aload_n 0, 1) := by decide +kernel
theorem dX11_byteNow_12 : decode cX11_byteNow 12 = .ok (.getfield 23, 3) := by decide +kernel
theorem dX11_byteNow_15 : decode cX11_byteNow 15 = .ok (.aload_n 0, 1) := by decide +kernel
theorem dX11_byteNow_16 : decode cX11_byteNow 16 = .ok (.getfield 107, 3) := by decide +kernel
theorem dX11_byteNow_19 : decode cX11_byteNow 19 = .ok (.iaload, 1) := by decide +kernel
theorem dX11_byteNow_20 : decode cX11_byteNow 20 = .ok (.goto 4, 3) := by decide +kernel
theorem dX11_byteNow_23 : decode cX11_byteNow 23 = .ok (.iconst (-1), 1) := by decide +kernel
theorem dX11_byteNow_24 : decode cX11_byteNow 24 = .ok (.ireturn, 1) := by decide +kernel
theorem dX11_numberBy_0 : decode cX11_numberBy 0 = .ok (.iload_n 0, 1) := by decide +kernel
theorem dX11_numberBy_1 : decode cX11_numberBy 1 = .ok (.bipush 111, 2) := by decide +kernel
theorem dX11_numberBy_3 : decode cX11_numberBy 3 = .ok (.if_icmp .ne 7, 3) := by decide +kernel
theorem dX11_numberBy_6 : decode cX11_numberBy 6 = .ok (.iconst 0, 1) := by decide +kernel
theorem dX11_numberBy_7 : decode cX11_numberBy 7 = .ok (.goto 65, 3) := by decide +kernel
theorem dX11_numberBy_10 : decode cX11_numberBy 10 = .ok (.iload_n 0, 1) := by decide +kernel
theorem dX11_numberBy_11 : decode cX11_numberBy 11 = .ok (.bipush 114, 2) := by decide +kernel
theorem dX11_numberBy_13 : decode cX11_numberBy 13 = .ok (.if_icmp .ne 7, 3) := by decide +kernel
theorem dX11_numberBy_16 : decode cX11_numberBy 16 = .ok (.iconst 1, 1) := by decide +kernel
theorem dX11_numberBy_17 : decode cX11_numberBy 17 = .ok (.goto 55, 3) := by decide +kernel
theorem dX11_numberBy_20 : decode cX11_numberBy 20 = .ok (.iload_n 0, 1) := by decide +kernel
theorem dX11_numberBy_21 : decode cX11_numberBy 21 = .ok (.bipush 108, 2) := by decide +kernel
theorem dX11_numberBy_23 : decode cX11_numberBy 23 = .ok (.if_icmp .ne 7, 3) := by decide +kernel
theorem dX11_numberBy_26 : decode cX11_numberBy 26 = .ok (.iconst 2, 1) := by decide +kernel
theorem dX11_numberBy_27 : decode cX11_numberBy 27 = .ok (.goto 45, 3) := by decide +kernel
theorem dX11_numberBy_30 : decode cX11_numberBy 30 = .ok (.iload_n 0, 1) := by decide +kernel
theorem dX11_numberBy_31 : decode cX11_numberBy 31 = .ok (.bipush 104, 2) := by decide +kernel
theorem dX11_numberBy_33 : decode cX11_numberBy 33 = .ok (.if_icmp .ne 7, 3) := by decide +kernel
theorem dX11_numberBy_36 : decode cX11_numberBy 36 = .ok (.iconst 3, 1) := by decide +kernel
theorem dX11_numberBy_37 : decode cX11_numberBy 37 = .ok (.goto 35, 3) := by decide +kernel
theorem dX11_numberBy_40 : decode cX11_numberBy 40 = .ok (.iload_n 0, 1) := by decide +kernel
theorem dX11_numberBy_41 : decode cX11_numberBy 41 = .ok (.bipush 98, 2) := by decide +kernel
theorem dX11_numberBy_43 : decode cX11_numberBy 43 = .ok (.if_icmp .ne 7, 3) := by decide +kernel
theorem dX11_numberBy_46 : decode cX11_numberBy 46 = .ok (.iconst 4, 1) := by decide +kernel
theorem dX11_numberBy_47 : decode cX11_numberBy 47 = .ok (.goto 25, 3) := by decide +kernel
theorem dX11_numberBy_50 : decode cX11_numberBy 50 = .ok (.iload_n 0, 1) := by decide +kernel
theorem dX11_numberBy_51 : decode cX11_numberBy 51 = .ok (.bipush 102, 2) := by decide +kernel
theorem dX11_numberBy_53 : decode cX11_numberBy 53 = .ok (.if_icmp .ne 7, 3) := by decide +kernel
theorem dX11_numberBy_56 : decode cX11_numberBy 56 = .ok (.iconst 5, 1) := by decide +kernel
theorem dX11_numberBy_57 : decode cX11_numberBy 57 = .ok (.goto 15, 3) := by decide +kernel
theorem dX11_numberBy_60 : decode cX11_numberBy 60 = .ok (.iload_n 0, 1) := by decide +kernel
theorem dX11_numberBy_61 : decode cX11_numberBy 61 = .ok (.bipush 112, 2) := by decide +kernel
theorem dX11_numberBy_63 : decode cX11_numberBy 63 = .ok (.if_icmp .ne 8, 3) := by decide +kernel
theorem dX11_numberBy_66 : decode cX11_numberBy 66 = .ok (.bipush 6, 2) := by decide +kernel
theorem dX11_numberBy_68 : decode cX11_numberBy 68 = .ok (.goto 4, 3) := by decide +kernel
theorem dX11_numberBy_71 : decode cX11_numberBy 71 = .ok (.iconst (-1), 1) := by decide +kernel
theorem dX11_numberBy_72 : decode cX11_numberBy 72 = .ok (.ireturn, 1) := by decide +kernel
theorem dX11_test_0 : decode cX11_test 0 = .ok (.aload_n 0, 1) := by decide +kernel
theorem dX11_test_1 : decode cX11_test 1 = .ok (.invokevirtual 110, 3) := by decide +kernel
theorem dX11_test_4 : decode cX11_test 4 = .ok (.invokestatic 114, 3) := by decide +kernel
theorem dX11_test_7 : decode cX11_test 7 = .ok (.istore_n 2, 1) := by decide +kernel
theorem dX11_test_8 : decode cX11_test 8 = .ok (.iload_n 2, 1) := by decide +kernel
theorem dX11_test_9 : decode cX11_test 9 = .ok (.iconst (-1), 1) := by decide +kernel
theorem dX11_test_10 : decode cX11_test 10 = .ok (.if_icmp .ne 12, 3) := by decide +kernel
theorem dX11_test_13 : decode cX11_test 13 = .ok (.aload_n 0, 1) := by decide +kernel
theorem dX11_test_14 : decode cX11_test 14 = .ok (.aload_n 0, 1) := by decide +kernel
theorem dX11_test_15 : decode cX11_test 15 = .ok (.getfield 107, 3) := by decide +kernel
theorem dX11_test_18 : decode cX11_test 18 = .ok (.putfield 117, 3) := by decide +kernel
theorem dX11_test_21 : decode cX11_test 21 = .ok (.return_, 1) := by decide +kernel
theorem dX11_test_22 : decode cX11_test 22 = .ok (.aload_n 0, 1) := by decide +kernel
theorem dX11_test_23 : decode cX11_test 23 = .ok (.dup, 1) := by decide +kernel
theorem dX11_test_24 : decode cX11_test 24 = .ok (.getfield 107, 3) := by decide +kernel
theorem dX11_test_27 : decode cX11_test 27 = .ok (.iconst 1, 1) := by decide +kernel
theorem dX11_test_28 : decode cX11_test 28 = .ok (.iadd, 1) := by decide +kernel
theorem dX11_test_29 : decode cX11_test 29 = .ok (.putfield 107, 3) := by decide +kernel
theorem dX11_test_32 : decode cX11_test 32 = .ok (.aload_n 0, 1) := by decide +kernel
theorem dX11_test_33 : decode cX11_test 33 = .ok (.invokevirtual 110, 3) := by decide +kernel
theorem dX11_test_36 : decode cX11_test 36 = .ok (.istore_n 3, 1) := by decide +kernel
theorem dX11_test_37 : decode cX11_test 37 = .ok (.iload_n 3, 1) := by decide +kernel
theorem dX11_test_38 : decode cX11_test 38 = .ok (.bipush 60, 2) := by decide +kernel
theorem dX11_test_40 : decode cX11_test 40 = .ok (.bipush 62, 2) := by decide +kernel
theorem dX11_test_42 : decode cX11_test 42 = .ok (.invokestatic 59, 3) := by decide +kernel
theorem dX11_test_45 : decode cX11_test 45 = .ok (.ifCond .ne 12, 3) := by decide +kernel
theorem dX11_test_48 : decode cX11_test 48 = .ok (.aload_n 0, 1) := by decide +kernel
theorem dX11_test_49 : decode cX11_test 49 = .ok (.aload_n 0, 1) := by decide +kernel
theorem dX11_test_50 : decode cX11_test 50 = .ok (.getfield 107, 3) := by decide +kernel
theorem dX11_test_53 : decode cX11_test 53 = .ok (.putfield 117, 3) := by decide +kernel
theorem dX11_test_56 : decode cX11_test 56 = .ok (.return_, 1) := by decide +kernel
theorem dX11_test_57 : decode cX11_test 57 = .ok (.aload_n 0, 1) := by decide +kernel
theorem dX11_test_58 : decode cX11_test 58 = .ok (.dup, 1) := by decide +kernel
theorem dX11_test_59 : decode cX11_test 59 = .ok (.getfield 107, 3) := by decide +kernel
theorem dX11_test_62 : decode cX11_test 62 = .ok (.iconst 1, 1) := by decide +kernel
theorem dX11_test_63 : decode cX11_test 63 = .ok (.iadd, 1) := by decide +kernel
theorem dX11_test_64 : decode cX11_test 64 = .ok (.putfield 107, 3) := by decide +kernel
theorem dX11_test_67 : decode cX11_test 67 = .ok (.aload_n 0, 1) := by decide +kernel
theorem dX11_test_68 : decode cX11_test 68 = .ok (.getfield 107, 3) := by decide +kernel
theorem dX11_test_71 : decode cX11_test 71 = .ok (.istore 4, 2) := by decide +kernel
theorem dX11_test_73 : decode cX11_test 73 = .ok (.iconst 0, 1) := by decide +kernel
theorem dX11_test_74 : decode cX11_test 74 = .ok (.istore 5, 2) := by decide +kernel
theorem dX11_test_76 : decode cX11_test 76 = .ok (.aload_n 0, 1) := by decide +kernel
theorem dX11_test_77 : decode cX11_test 77 = .ok (.getfield 107, 3) := by decide +kernel
theorem dX11_test_80 : decode cX11_test 80 = .ok (.iload 4, 2) := by decide +kernel
theorem dX11_test_82 : decode cX11_test 82 = .ok (.iconst 2, 1) := by decide +kernel
theorem dX11_test_83 : decode cX11_test 83 = .ok (.iadd, 1) := by decide +kernel
theorem dX11_test_84 : decode cX11_test 84 = .ok (.if_icmp .ge 49, 3) := by decide +kernel
theorem dX11_test_87 : decode cX11_test 87 = .ok (.aload_n 0, 1) := by decide +kernel
theorem dX11_test_88 : decode cX11_test 88 = .ok (.invokevirtual 110, 3) := by decide +kernel
theorem dX11_test_91 : decode cX11_test 91 = .ok (.bipush 48, 2) := by decide +kernel
theorem dX11_test_93 : decode cX11_test 93 = .ok (.if_icmp .lt 40, 3) := by decide +kernel
theorem dX11_test_96 : decode cX11_test 96 = .ok (.aload_n 0, 1) := by decide +kernel
theorem dX11_test_97 : decode cX11_test 97 = .ok (.invokevirtual 110, 3) := by decide +kernel
theorem dX11_test_100 : decode cX11_test 100 = .ok (.bipush 57, 2) := by decide +kernel
theorem dX11_test_102 : decode cX11_test 102 = .ok (.if_icmp .gt 31, 3) := by decide +kernel
theorem dX11_test_105 : decode cX11_test 105 = .ok (.bipush 10, 2) := by decide +kernel
theorem dX11_test_107 : decode cX11_test 107 = .ok (.iload 5, 2) := by decide +kernel
theorem dX11_test_109 : decode cX11_test 109 = .ok (.imul, 1) := by decide +kernel
theorem dX11_test_110 : decode cX11_test 110 = .ok (.aload_n 0, 1) := by decide +kernel
theorem dX11_test_111 : decode cX11_test 111 = .ok (.invokevirtual 110, 3) := by decide +kernel
theorem dX11_test_114 : decode cX11_test 114 = .ok (.iadd, 1) := by decide +kernel
theorem dX11_test_115 : decode cX11_test 115 = .ok (.bipush 48, 2) := by decide +kernel
theorem dX11_test_117 : decode cX11_test 117 = .ok (.isub, 1) := by decide +kernel
theorem dX11_test_118 : decode cX11_test 118 = .ok (.istore 5, 2) := by decide +kernel
theorem dX11_test_120 : decode cX11_test 120 = .ok (.aload_n 0, 1) := by decide +kernel
theorem dX11_test_121 : decode cX11_test 121 = .ok (.dup, 1) := by decide +kernel
theorem dX11_test_122 : decode cX11_test 122 = .ok (.getfield 107, 3) := by decide +kernel
theorem dX11_test_125 : decode cX11_test 125 = .ok (.iconst 1, 1) := by decide +kernel
theorem dX11_test_126 : decode cX11_test 126 = .ok (.iadd, 1) := by decide +kernel
theorem dX11_test_127 : decode cX11_test 127 = .ok (.putfield 107, 3) := by decide +kernel
theorem dX11_test_130 : decode cX11_test 130 = .ok (.goto (-54), 3) := by decide +kernel
theorem dX11_test_133 : decode cX11_test 133 = .ok (.aload_n 0, 1) := by decide +kernel
theorem dX11_test_134 : decode cX11_test 134 = .ok (.getfield 107, 3) := by decide +kernel
theorem dX11_test_137 : decode cX11_test 137 = .ok (.iload 4, 2) := by decide +kernel
theorem dX11_test_139 : decode cX11_test 139 = .ok (.if_icmp .ne 12, 3) := by decide +kernel
theorem dX11_test_142 : decode cX11_test 142 = .ok (.aload_n 0, 1) := by decide +kernel
theorem dX11_test_143 : decode cX11_test 143 = .ok (.aload_n 0, 1) := by decide +kernel
theorem dX11_test_144 : decode cX11_test 144 = .ok (.getfield 107, 3) := by decide +kernel
theorem dX11_test_147 : decode cX11_test 147 = .ok (.putfield 117, 3) := by decide +kernel
theorem dX11_test_150 : decode cX11_test 150 = .ok (.return_, 1) := by decide +kernel
theorem dX11_test_151 : decode cX11_test 151 = .ok (.aload_n 0, 1) := by decide +kernel
theorem dX11_test_152 : decode cX11_test 152 = .ok (.getfield 26, 3) := by decide +kernel
theorem dX11_test_155 : decode cX11_test 155 = .ok (.aload_n 0, 1) := by decide +kernel
theorem dX11_test_156 : decode cX11_test 156 = .ok (.getfield 120, 3) := by decide +kernel
theorem dX11_test_159 : decode cX11_test 159 = .ok (.iload_n 2, 1) := by decide +kernel
theorem dX11_test_160 : decode cX11_test 160 = .ok (.iastore, 1) := by decide +kernel
theorem dX11_test_161 : decode cX11_test 161 = .ok (.aload_n 0, 1) := by decide +kernel
theorem dX11_test_162 : decode cX11_test 162 = .ok (.getfield 29, 3) := by decide +kernel
theorem dX11_test_165 : decode cX11_test 165 = .ok (.aload_n 0, 1) := by decide +kernel
theorem dX11_test_166 : decode cX11_test 166 = .ok (.getfield 120, 3) := by decide +kernel
theorem dX11_test_169 : decode cX11_test 169 = .ok (.iload_n 3, 1) := by decide +kernel
theorem dX11_test_170 : decode cX11_test 170 = .ok (.iastore, 1) := by decide +kernel
theorem dX11_test_171 : decode cX11_test 171 = .ok (.aload_n 0, 1) := by decide +kernel
theorem dX11_test_172 : decode cX11_test 172 = .ok (.getfield 32, 3) := by decide +kernel
theorem dX11_test_175 : decode cX11_test 175 = .ok (.aload_n 0, 1) := by decide +kernel
theorem dX11_test_176 : decode cX11_test 176 = .ok (.getfield 120, 3) := by decide +kernel
theorem dX11_test_179 : decode cX11_test 179 = .ok (.iload 5, 2) := by decide +kernel
theorem dX11_test_181 : decode cX11_test 181 = .ok (.iastore, 1) := by decide +kernel
theorem dX11_test_182 : decode cX11_test 182 = .ok (.aload_n 0, 1) := by decide +kernel
theorem dX11_test_183 : decode cX11_test 183 = .ok (.getfield 35, 3) := by decide +kernel
theorem dX11_test_186 : decode cX11_test 186 = .ok (.aload_n 0, 1) := by decide +kernel
theorem dX11_test_187 : decode cX11_test 187 = .ok (.getfield 120, 3) := by decide +kernel
theorem dX11_test_190 : decode cX11_test 190 = .ok (.iload_n 1, 1) := by decide +kernel
theorem dX11_test_191 : decode cX11_test 191 = .ok (.bastore, 1) := by decide +kernel
theorem dX11_test_192 : decode cX11_test 192 = .ok (.aload_n 0, 1) := by decide +kernel
theorem dX11_test_193 : decode cX11_test 193 = .ok (.dup, 1) := by decide +kernel
theorem dX11_test_194 : decode cX11_test 194 = .ok (.getfield 120, 3) := by decide +kernel
theorem dX11_test_197 : decode cX11_test 197 = .ok (.iconst 1, 1) := by decide +kernel
theorem dX11_test_198 : decode cX11_test 198 = .ok (.iadd, 1) := by decide +kernel
theorem dX11_test_199 : decode cX11_test 199 = .ok (.putfield 120, 3) := by decide +kernel
theorem dX11_test_202 : decode cX11_test 202 = .ok (.return_, 1) := by decide +kernel
theorem dX11_faultNow_0 : decode cX11_faultNow 0 = .ok (.aload_n 0, 1) := by decide +kernel
theorem dX11_faultNow_1 : decode cX11_faultNow 1 = .ok (.getfield 103, 3) := by decide +kernel
theorem dX11_faultNow_4 : decode cX11_faultNow 4 = .ok (.ifCond .eq 8, 3) := by decide +kernel
theorem dX11_faultNow_7 : decode cX11_faultNow 7 = .ok (.aload_n 0, 1) := by decide +kernel
theorem dX11_faultNow_8 : decode cX11_faultNow 8 = .ok (.getfield 117, 3) := by decide +kernel
theorem dX11_faultNow_11 : decode cX11_faultNow 11 = .ok (.ireturn, 1) := by decide +kernel
theorem dX11_faultNow_12 : decode cX11_faultNow 12 = .ok (.aload_n 0, 1) := by decide +kernel
theorem dX11_faultNow_13 : decode cX11_faultNow 13 = .ok (.iconst 1, 1) := by decide +kernel
theorem dX11_faultNow_14 : decode cX11_faultNow 14 = .ok (.putfield 103, 3) := by decide +kernel
theorem dX11_faultNow_17 : decode cX11_faultNow 17 = .ok (.aload_n 0, 1) := by decide +kernel
theorem dX11_faultNow_18 : decode cX11_faultNow 18 = .ok (.iconst 0, 1) := by decide +kernel
theorem dX11_faultNow_19 : decode cX11_faultNow 19 = .ok (.putfield 107, 3) := by decide +kernel
theorem dX11_faultNow_22 : decode cX11_faultNow 22 = .ok (.aload_n 0, 1) := by decide +kernel
theorem dX11_faultNow_23 : decode cX11_faultNow 23 = .ok (.iconst (-1), 1) := by decide +kernel
theorem dX11_faultNow_24 : decode cX11_faultNow 24 = .ok (.putfield 117, 3) := by decide +kernel
theorem dX11_faultNow_27 : decode cX11_faultNow 27 = .ok (.aload_n 0, 1) := by decide +kernel
theorem dX11_faultNow_28 : decode cX11_faultNow 28 = .ok (.iconst 0, 1) := by decide +kernel
theorem dX11_faultNow_29 : decode cX11_faultNow 29 = .ok (.putfield 120, 3) := by decide +kernel
theorem dX11_faultNow_32 : decode cX11_faultNow 32 = .ok (.aload_n 0, 1) := by decide +kernel
theorem dX11_faultNow_33 : decode cX11_faultNow 33 = .ok (.iconst 1, 1) := by decide +kernel
theorem dX11_faultNow_34 : decode cX11_faultNow 34 = .ok (.invokevirtual 123, 3) := by decide +kernel
theorem dX11_faultNow_37 : decode cX11_faultNow 37 = .ok (.aload_n 0, 1) := by decide +kernel
theorem dX11_faultNow_38 : decode cX11_faultNow 38 = .ok (.getfield 117, 3) := by decide +kernel
theorem dX11_faultNow_41 : decode cX11_faultNow 41 = .ok (.iconst (-1), 1) := by decide +kernel
theorem dX11_faultNow_42 : decode cX11_faultNow 42 = .ok (.if_icmp .ne 70, 3) := by decide +kernel
theorem dX11_faultNow_45 : decode cX11_faultNow 45 = .ok (.aload_n 0, 1) := by decide +kernel
theorem dX11_faultNow_46 : decode cX11_faultNow 46 = .ok (.getfield 107, 3) := by decide +kernel
theorem dX11_faultNow_49 : decode cX11_faultNow 49 = .ok (.aload_n 0, 1) := by decide +kernel
theorem dX11_faultNow_50 : decode cX11_faultNow 50 = .ok (.getfield 100, 3) := by decide +kernel
theorem dX11_faultNow_53 : decode cX11_faultNow 53 = .ok (.if_icmp .ge 59, 3) := by decide +kernel
theorem dX11_faultNow_56 : decode cX11_faultNow 56 = .ok (.aload_n 0, 1) := by decide +kernel
theorem dX11_faultNow_57 : decode cX11_faultNow 57 = .ok (.invokevirtual 110, 3) := by decide +kernel
theorem dX11_faultNow_60 : decode cX11_faultNow 60 = .ok (.istore_n 1, 1) := by decide +kernel
theorem dX11_faultNow_61 : decode cX11_faultNow 61 = .ok (.iload_n 1, 1) := by decide +kernel
theorem dX11_faultNow_62 : decode cX11_faultNow 62 = .ok (.bipush 124, 2) := by decide +kernel
theorem dX11_faultNow_64 : decode cX11_faultNow 64 = .ok (.if_icmp .eq 20, 3) := by decide +kernel
theorem dX11_faultNow_67 : decode cX11_faultNow 67 = .ok (.iload_n 1, 1) := by decide +kernel
theorem dX11_faultNow_68 : decode cX11_faultNow 68 = .ok (.bipush 43, 2) := by decide +kernel
theorem dX11_faultNow_70 : decode cX11_faultNow 70 = .ok (.if_icmp .eq 14, 3) := by decide +kernel
theorem dX11_faultNow_73 : decode cX11_faultNow 73 = .ok (.aload_n 0, 1) := by decide +kernel
theorem dX11_faultNow_74 : decode cX11_faultNow 74 = .ok (.aload_n 0, 1) := by decide +kernel
theorem dX11_faultNow_75 : decode cX11_faultNow 75 = .ok (.getfield 107, 3) := by decide +kernel
theorem dX11_faultNow_78 : decode cX11_faultNow 78 = .ok (.putfield 117, 3) := by decide +kernel
theorem dX11_faultNow_81 : decode cX11_faultNow 81 = .ok (.goto 28, 3) := by decide +kernel
theorem dX11_faultNow_84 : decode cX11_faultNow 84 = .ok (.aload_n 0, 1) := by decide +kernel
theorem dX11_faultNow_85 : decode cX11_faultNow 85 = .ok (.dup, 1) := by decide +kernel
theorem dX11_faultNow_86 : decode cX11_faultNow 86 = .ok (.getfield 107, 3) := by decide +kernel
theorem dX11_faultNow_89 : decode cX11_faultNow 89 = .ok (.iconst 1, 1) := by decide +kernel
theorem dX11_faultNow_90 : decode cX11_faultNow 90 = .ok (.iadd, 1) := by decide +kernel
theorem dX11_faultNow_91 : decode cX11_faultNow 91 = .ok (.putfield 107, 3) := by decide +kernel
theorem dX11_faultNow_94 : decode cX11_faultNow 94 = .ok (.aload_n 0, 1) := by decide +kernel
theorem dX11_faultNow_95 : decode cX11_faultNow 95 = .ok (.iload_n 1, 1) := by decide +kernel
theorem dX11_faultNow_96 : decode cX11_faultNow 96 = .ok (.bipush 124, 2) := by decide +kernel
theorem dX11_faultNow_98 : decode cX11_faultNow 98 = .ok (.if_icmp .ne 7, 3) := by decide +kernel
theorem dX11_faultNow_101 : decode cX11_faultNow 101 = .ok (.iconst 1, 1) := by decide +kernel
theorem dX11_faultNow_102 : decode cX11_faultNow 102 = .ok (.goto 4, 3) := by decide +kernel
theorem dX11_faultNow_105 : decode cX11_faultNow 105 = .ok (.iconst 0, 1) := by decide +kernel
theorem dX11_faultNow_106 : decode cX11_faultNow 106 = .ok (.invokevirtual 123, 3) := by decide +kernel
theorem dX11_faultNow_109 : decode cX11_faultNow 109 = .ok (.goto (-72), 3) := by decide +kernel
theorem dX11_faultNow_112 : decode cX11_faultNow 112 = .ok (.aload_n 0, 1) := by decide +kernel
theorem dX11_faultNow_113 : decode cX11_faultNow 113 = .ok (.getfield 117, 3) := by decide +kernel
theorem dX11_faultNow_116 : decode cX11_faultNow 116 = .ok (.ireturn, 1) := by decide +kernel
theorem dX11_fault_0 : decode cX11_fault 0 = .ok (.aload_n 0, 1) := by decide +kernel
theorem dX11_fault_1 : decode cX11_fault 1 = .ok (.invokevirtual 127, 3) := by decide +kernel
theorem dX11_fault_4 : decode cX11_fault 4 = .ok (.ireturn, 1) := by decide +kernel
theorem dX11_does_0 : decode cX11_does 0 = .ok (.iconst 0, 1) := by decide +kernel
theorem dX11_does_1 : decode cX11_does 1 = .ok (.istore_n 3, 1) := by decide +kernel
theorem dX11_does_2 : decode cX11_does 2 = .ok (.iconst 0, 1) := by decide +kernel
theorem dX11_does_3 : decode cX11_does 3 = .ok (.istore 4, 2) := by decide +kernel
theorem dX11_does_5 : decode cX11_does 5 = .ok (.iload 4, 2) := by decide +kernel
theorem dX11_does_7 : decode cX11_does 7 = .ok (.aload_n 0, 1) := by decide +kernel
theorem dX11_does_8 : decode cX11_does 8 = .ok (.getfield 120, 3) := by decide +kernel
theorem dX11_does_11 : decode cX11_does 11 = .ok (.if_icmp .ge 128, 3) := by decide +kernel
theorem dX11_does_14 : decode cX11_does 14 = .ok (.aload_n 0, 1) := by decide +kernel
theorem dX11_does_15 : decode cX11_does 15 = .ok (.getfield 35, 3) := by decide +kernel
theorem dX11_does_18 : decode cX11_does 18 = .ok (.iload 4, 2) := by decide +kernel
theorem dX11_does_20 : decode cX11_does 20 = .ok (.baload, 1) := by decide +kernel
theorem dX11_does_21 : decode cX11_does 21 = .ok (.ifCond .eq 11, 3) := by decide +kernel
theorem dX11_does_24 : decode cX11_does 24 = .ok (.iload_n 3, 1) := by decide +kernel
theorem dX11_does_25 : decode cX11_does 25 = .ok (.ifCond .eq 5, 3) := by decide +kernel
theorem dX11_does_28 : decode cX11_does 28 = .ok (.iconst 1, 1) := by decide +kernel
theorem dX11_does_29 : decode cX11_does 29 = .ok (.ireturn, 1) := by decide +kernel
theorem dX11_does_30 : decode cX11_does 30 = .ok (.iconst 1, 1) := by decide +kernel
theorem dX11_does_31 : decode cX11_does 31 = .ok (.istore_n 3, 1) := by decide +kernel
theorem dX11_does_32 : decode cX11_does 32 = .ok (.iload_n 3, 1) := by decide +kernel
theorem dX11_does_33 : decode cX11_does 33 = .ok (.ifCond .eq 100, 3) := by decide +kernel
theorem dX11_does_36 : decode cX11_does 36 = .ok (.aload_n 0, 1) := by decide +kernel
theorem dX11_does_37 : decode cX11_does 37 = .ok (.iload_n 1, 1) := by decide +kernel
theorem dX11_does_38 : decode cX11_does 38 = .ok (.iload_n 2, 1) := by decide +kernel
theorem dX11_does_39 : decode cX11_does 39 = .ok (.aload_n 0, 1) := by decide +kernel
theorem dX11_does_40 : decode cX11_does 40 = .ok (.getfield 26, 3) := by decide +kernel
theorem dX11_does_43 : decode cX11_does 43 = .ok (.iload 4, 2) := by decide +kernel
theorem dX11_does_45 : decode cX11_does 45 = .ok (.iaload, 1) := by decide +kernel
theorem dX11_does_46 : decode cX11_does 46 = .ok (.invokevirtual 93, 3) := by decide +kernel
theorem dX11_does_49 : decode cX11_does 49 = .ok (.istore 5, 2) := by decide +kernel
theorem dX11_does_51 : decode cX11_does 51 = .ok (.aload_n 0, 1) := by decide +kernel
theorem dX11_does_52 : decode cX11_does 52 = .ok (.getfield 29, 3) := by decide +kernel
theorem dX11_does_55 : decode cX11_does 55 = .ok (.iload 4, 2) := by decide +kernel
theorem dX11_does_57 : decode cX11_does 57 = .ok (.iaload, 1) := by decide +kernel
theorem dX11_does_58 : decode cX11_does 58 = .ok (.bipush 60, 2) := by decide +kernel
theorem dX11_does_60 : decode cX11_does 60 = .ok (.if_icmp .ne 23, 3) := by decide +kernel
theorem dX11_does_63 : decode cX11_does 63 = .ok (.iload 5, 2) := by decide +kernel
theorem dX11_does_65 : decode cX11_does 65 = .ok (.aload_n 0, 1) := by decide +kernel
theorem dX11_does_66 : decode cX11_does 66 = .ok (.getfield 32, 3) := by decide +kernel
theorem dX11_does_69 : decode cX11_does 69 = .ok (.iload 4, 2) := by decide +kernel
theorem dX11_does_71 : decode cX11_does 71 = .ok (.iaload, 1) := by decide +kernel
theorem dX11_does_72 : decode cX11_does 72 = .ok (.if_icmp .ge 7, 3) := by decide +kernel
theorem dX11_does_75 : decode cX11_does 75 = .ok (.iconst 1, 1) := by decide +kernel
theorem dX11_does_76 : decode cX11_does 76 = .ok (.goto 56, 3) := by decide +kernel
theorem dX11_does_79 : decode cX11_does 79 = .ok (.iconst 0, 1) := by decide +kernel
theorem dX11_does_80 : decode cX11_does 80 = .ok (.goto 52, 3) := by decide +kernel
theorem dX11_does_83 : decode cX11_does 83 = .ok (.aload_n 0, 1) := by decide +kernel
theorem dX11_does_84 : decode cX11_does 84 = .ok (.getfield 29, 3) := by decide +kernel
theorem dX11_does_87 : decode cX11_does 87 = .ok (.iload 4, 2) := by decide +kernel
theorem dX11_does_89 : decode cX11_does 89 = .ok (.iaload, 1) := by decide +kernel
theorem dX11_does_90 : decode cX11_does 90 = .ok (.bipush 61, 2) := by decide +kernel
theorem dX11_does_92 : decode cX11_does 92 = .ok (.if_icmp .ne 23, 3) := by decide +kernel
theorem dX11_does_95 : decode cX11_does 95 = .ok (.iload 5, 2) := by decide +kernel
theorem dX11_does_97 : decode cX11_does 97 = .ok (.aload_n 0, 1) := by decide +kernel
theorem dX11_does_98 : decode cX11_does 98 = .ok (.getfield 32, 3) := by decide +kernel
theorem dX11_does_101 : decode cX11_does 101 = .ok (.iload 4, 2) := by decide +kernel
theorem dX11_does_103 : decode cX11_does 103 = .ok (.iaload, 1) := by decide +kernel
theorem dX11_does_104 : decode cX11_does 104 = .ok (.if_icmp .ne 7, 3) := by decide +kernel
theorem dX11_does_107 : decode cX11_does 107 = .ok (.iconst 1, 1) := by decide +kernel
theorem dX11_does_108 : decode cX11_does 108 = .ok (.goto 24, 3) := by decide +kernel
theorem dX11_does_111 : decode cX11_does 111 = .ok (.iconst 0, 1) := by decide +kernel
theorem dX11_does_112 : decode cX11_does 112 = .ok (.goto 20, 3) := by decide +kernel
theorem dX11_does_115 : decode cX11_does 115 = .ok (.iload 5, 2) := by decide +kernel
theorem dX11_does_117 : decode cX11_does 117 = .ok (.aload_n 0, 1) := by decide +kernel
theorem dX11_does_118 : decode cX11_does 118 = .ok (.getfield 32, 3) := by decide +kernel
theorem dX11_does_121 : decode cX11_does 121 = .ok (.iload 4, 2) := by decide +kernel
theorem dX11_does_123 : decode cX11_does 123 = .ok (.iaload, 1) := by decide +kernel
theorem dX11_does_124 : decode cX11_does 124 = .ok (.if_icmp .le 7, 3) := by decide +kernel
theorem dX11_does_127 : decode cX11_does 127 = .ok (.iconst 1, 1) := by decide +kernel
theorem dX11_does_128 : decode cX11_does 128 = .ok (.goto 4, 3) := by decide +kernel
theorem dX11_does_131 : decode cX11_does 131 = .ok (.iconst 0, 1) := by decide +kernel
theorem dX11_does_132 : decode cX11_does 132 = .ok (.istore_n 3, 1) := by decide +kernel
theorem dX11_does_133 : decode cX11_does 133 = .ok (.iinc 4 1, 3) := by decide +kernel
theorem dX11_does_136 : decode cX11_does 136 = .ok (.goto (-131), 3) := by decide +kernel
theorem dX11_does_139 : decode cX11_does 139 = .ok (.iload_n 3, 1) := by decide +kernel
theorem dX11_does_140 : decode cX11_does 140 = .ok (.ireturn, 1) := by decide +kernel
theorem dX11_holds_0 : decode cX11_holds 0 = .ok (.iload_n 1, 1) := by decide +kernel
theorem dX11_holds_1 : decode cX11_holds 1 = .ok (.invokestatic 63, 3) := by decide +kernel
theorem dX11_holds_4 : decode cX11_holds 4 = .ok (.ifCond .ne 6, 3) := by decide +kernel
theorem dX11_holds_7 : decode cX11_holds 7 = .ok (.bipush (-2), 2) := by decide +kernel
theorem dX11_holds_9 : decode cX11_holds 9 = .ok (.ireturn, 1) := by decide +kernel
theorem dX11_holds_10 : decode cX11_holds 10 = .ok (.aload_n 0, 1) := by decide +kernel
theorem dX11_holds_11 : decode cX11_holds 11 = .ok (.iload_n 1, 1) := by decide +kernel
theorem dX11_holds_12 : decode cX11_holds 12 = .ok (.invokevirtual 87, 3) := by decide +kernel
theorem dX11_holds_15 : decode cX11_holds 15 = .ok (.ifCond .eq 11, 3) := by decide +kernel
theorem dX11_holds_18 : decode cX11_holds 18 = .ok (.aload_n 0, 1) := by decide +kernel
theorem dX11_holds_19 : decode cX11_holds 19 = .ok (.invokevirtual 127, 3) := by decide +kernel
theorem dX11_holds_22 : decode cX11_holds 22 = .ok (.iconst (-1), 1) := by decide +kernel
theorem dX11_holds_23 : decode cX11_holds 23 = .ok (.if_icmp .eq 6, 3) := by decide +kernel
theorem dX11_holds_26 : decode cX11_holds 26 = .ok (.bipush (-3), 2) := by decide +kernel
theorem dX11_holds_28 : decode cX11_holds 28 = .ok (.ireturn, 1) := by decide +kernel
theorem dX11_holds_29 : decode cX11_holds 29 = .ok (.aload_n 0, 1) := by decide +kernel
theorem dX11_holds_30 : decode cX11_holds 30 = .ok (.aload_n 0, 1) := by decide +kernel
theorem dX11_holds_31 : decode cX11_holds 31 = .ok (.iload_n 1, 1) := by decide +kernel
theorem dX11_holds_32 : decode cX11_holds 32 = .ok (.invokevirtual 90, 3) := by decide +kernel
theorem dX11_holds_35 : decode cX11_holds 35 = .ok (.aload_n 0, 1) := by decide +kernel
theorem dX11_holds_36 : decode cX11_holds 36 = .ok (.getfield 7, 3) := by decide +kernel
theorem dX11_holds_39 : decode cX11_holds 39 = .ok (.iload_n 1, 1) := by decide +kernel
theorem dX11_holds_40 : decode cX11_holds 40 = .ok (.iaload, 1) := by decide +kernel
theorem dX11_holds_41 : decode cX11_holds 41 = .ok (.invokevirtual 130, 3) := by decide +kernel
theorem dX11_holds_44 : decode cX11_holds 44 = .ok (.ifCond .eq 7, 3) := by decide +kernel
theorem dX11_holds_47 : decode cX11_holds 47 = .ok (.iconst 1, 1) := by decide +kernel
theorem dX11_holds_48 : decode cX11_holds 48 = .ok (.goto 4, 3) := by decide +kernel
theorem dX11_holds_51 : decode cX11_holds 51 = .ok (.iconst 0, 1) := by decide +kernel
theorem dX11_holds_52 : decode cX11_holds 52 = .ok (.ireturn, 1) := by decide +kernel
theorem dX11_shownNow_0 : decode cX11_shownNow 0 = .ok (.aload_n 0, 1) := by decide +kernel
theorem dX11_shownNow_1 : decode cX11_shownNow 1 = .ok (.invokevirtual 127, 3) := by decide +kernel
theorem dX11_shownNow_4 : decode cX11_shownNow 4 = .ok (.iconst (-1), 1) := by decide +kernel
theorem dX11_shownNow_5 : decode cX11_shownNow 5 = .ok (.if_icmp .eq 6, 3) := by decide +kernel
theorem dX11_shownNow_8 : decode cX11_shownNow 8 = .ok (.bipush (-3), 2) := by decide +kernel
theorem dX11_shownNow_10 : decode cX11_shownNow 10 = .ok (.ireturn, 1) := by decide +kernel
theorem dX11_shownNow_11 : decode cX11_shownNow 11 = .ok (.iconst 0, 1) := by decide +kernel
theorem dX11_shownNow_12 : decode cX11_shownNow 12 = .ok (.istore_n 3, 1) := by decide +kernel
theorem dX11_shownNow_13 : decode cX11_shownNow 13 = .ok (.iconst 0, 1) := by decide +kernel
theorem dX11_shownNow_14 : decode cX11_shownNow 14 = .ok (.istore 4, 2) := by decide +kernel
theorem dX11_shownNow_16 : decode cX11_shownNow 16 = .ok (.iload 4, 2) := by decide +kernel
theorem dX11_shownNow_18 : decode cX11_shownNow 18 = .ok (.iconst 1, 1) := by decide +kernel
theorem dX11_shownNow_19 : decode cX11_shownNow 19 = .ok (.iload_n 1, 1) := by decide +kernel
theorem dX11_shownNow_20 : decode cX11_shownNow 20 = .ok (.ishl, 1) := by decide +kernel
theorem dX11_shownNow_21 : decode cX11_shownNow 21 = .ok (.if_icmp .ge 41, 3) := by decide +kernel
theorem dX11_shownNow_24 : decode cX11_shownNow 24 = .ok (.iload_n 3, 1) := by decide +kernel
theorem dX11_shownNow_25 : decode cX11_shownNow 25 = .ok (.iload_n 2, 1) := by decide +kernel
theorem dX11_shownNow_26 : decode cX11_shownNow 26 = .ok (.iconst (-1), 1) := by decide +kernel
theorem dX11_shownNow_27 : decode cX11_shownNow 27 = .ok (.if_icmp .eq 12, 3) := by decide +kernel
end
section
theorem dX11_shownNow_30 : decode cX11_shownNow 30 = .ok (.iload 4, 2) := by decide +kernel
theorem dX11_shownNow_32 : decode cX11_shownNow 32 = .ok (.invokestatic 81, 3) := by decide +kernel
theorem dX11_shownNow_35 : decode cX11_shownNow 35 = .ok (.iload_n 2, 1) := by decide +kernel
theorem dX11_shownNow_36 : decode cX11_shownNow 36 = .ok (.if_icmp .ne 17, 3) := by decide +kernel
theorem dX11_shownNow_39 : decode cX11_shownNow 39 = .ok (.aload_n 0, 1) := by decide +kernel
theorem dX11_shownNow_40 : decode cX11_shownNow 40 = .ok (.iload 4, 2) := by decide +kernel
theorem dX11_shownNow_42 : decode cX11_shownNow 42 = .ok (.iload_n 1, 1) := by decide +kernel
theorem dX11_shownNow_43 : decode cX11_shownNow 43 = .ok (.invokevirtual 130, 3) := by decide +kernel
theorem dX11_shownNow_46 : decode cX11_shownNow 46 = .ok (.ifCond .eq 7, 3) := by decide +kernel
theorem dX11_shownNow_49 : decode cX11_shownNow 49 = .ok (.iconst 1, 1) := by decide +kernel
theorem dX11_shownNow_50 : decode cX11_shownNow 50 = .ok (.goto 4, 3) := by decide +kernel
theorem dX11_shownNow_53 : decode cX11_shownNow 53 = .ok (.iconst 0, 1) := by decide +kernel
theorem dX11_shownNow_54 : decode cX11_shownNow 54 = .ok (.iadd, 1) := by decide +kernel
theorem dX11_shownNow_55 : decode cX11_shownNow 55 = .ok (.istore_n 3, 1) := by decide +kernel
theorem dX11_shownNow_56 : decode cX11_shownNow 56 = .ok (.iinc 4 1, 3) := by decide +kernel
theorem dX11_shownNow_59 : decode cX11_shownNow 59 = .ok (.goto (-43), 3) := by decide +kernel
theorem dX11_shownNow_62 : decode cX11_shownNow 62 = .ok (.iload_n 3, 1) := by decide +kernel
theorem dX11_shownNow_63 : decode cX11_shownNow 63 = .ok (.ireturn, 1) := by decide +kernel
theorem dX11_shown_0 : decode cX11_shown 0 = .ok (.iload_n 1, 1) := by decide +kernel
theorem dX11_shown_1 : decode cX11_shown 1 = .ok (.iconst 0, 1) := by decide +kernel
theorem dX11_shown_2 : decode cX11_shown 2 = .ok (.bipush 15, 2) := by decide +kernel
theorem dX11_shown_4 : decode cX11_shown 4 = .ok (.invokestatic 59, 3) := by decide +kernel
theorem dX11_shown_7 : decode cX11_shown 7 = .ok (.ifCond .eq 22, 3) := by decide +kernel
theorem dX11_shown_10 : decode cX11_shown 10 = .ok (.iload_n 2, 1) := by decide +kernel
theorem dX11_shown_11 : decode cX11_shown 11 = .ok (.iconst (-1), 1) := by decide +kernel
theorem dX11_shown_12 : decode cX11_shown 12 = .ok (.bipush 15, 2) := by decide +kernel
theorem dX11_shown_14 : decode cX11_shown 14 = .ok (.invokestatic 59, 3) := by decide +kernel
theorem dX11_shown_17 : decode cX11_shown 17 = .ok (.ifCond .eq 12, 3) := by decide +kernel
theorem dX11_shown_20 : decode cX11_shown 20 = .ok (.aload_n 0, 1) := by decide +kernel
theorem dX11_shown_21 : decode cX11_shown 21 = .ok (.iload_n 1, 1) := by decide +kernel
theorem dX11_shown_22 : decode cX11_shown 22 = .ok (.iload_n 2, 1) := by decide +kernel
theorem dX11_shown_23 : decode cX11_shown 23 = .ok (.invokevirtual 134, 3) := by decide +kernel
theorem dX11_shown_26 : decode cX11_shown 26 = .ok (.goto 5, 3) := by decide +kernel
theorem dX11_shown_29 : decode cX11_shown 29 = .ok (.bipush (-2), 2) := by decide +kernel
theorem dX11_shown_31 : decode cX11_shown 31 = .ok (.ireturn, 1) := by decide +kernel
theorem dX11_nth_0 : decode cX11_nth 0 = .ok (.iload_n 1, 1) := by decide +kernel
theorem dX11_nth_1 : decode cX11_nth 1 = .ok (.iconst 0, 1) := by decide +kernel
theorem dX11_nth_2 : decode cX11_nth 2 = .ok (.bipush 15, 2) := by decide +kernel
theorem dX11_nth_4 : decode cX11_nth 4 = .ok (.invokestatic 59, 3) := by decide +kernel
theorem dX11_nth_7 : decode cX11_nth 7 = .ok (.ifCond .eq 7, 3) := by decide +kernel
theorem dX11_nth_10 : decode cX11_nth 10 = .ok (.iload_n 2, 1) := by decide +kernel
theorem dX11_nth_11 : decode cX11_nth 11 = .ok (.ifCond .ge 6, 3) := by decide +kernel
theorem dX11_nth_14 : decode cX11_nth 14 = .ok (.bipush (-2), 2) := by decide +kernel
theorem dX11_nth_16 : decode cX11_nth 16 = .ok (.ireturn, 1) := by decide +kernel
theorem dX11_nth_17 : decode cX11_nth 17 = .ok (.aload_n 0, 1) := by decide +kernel
theorem dX11_nth_18 : decode cX11_nth 18 = .ok (.invokevirtual 127, 3) := by decide +kernel
theorem dX11_nth_21 : decode cX11_nth 21 = .ok (.iconst (-1), 1) := by decide +kernel
theorem dX11_nth_22 : decode cX11_nth 22 = .ok (.if_icmp .eq 6, 3) := by decide +kernel
theorem dX11_nth_25 : decode cX11_nth 25 = .ok (.bipush (-3), 2) := by decide +kernel
theorem dX11_nth_27 : decode cX11_nth 27 = .ok (.ireturn, 1) := by decide +kernel
theorem dX11_nth_28 : decode cX11_nth 28 = .ok (.iload_n 2, 1) := by decide +kernel
theorem dX11_nth_29 : decode cX11_nth 29 = .ok (.istore_n 3, 1) := by decide +kernel
theorem dX11_nth_30 : decode cX11_nth 30 = .ok (.iconst 0, 1) := by decide +kernel
theorem dX11_nth_31 : decode cX11_nth 31 = .ok (.istore 4, 2) := by decide +kernel
theorem dX11_nth_33 : decode cX11_nth 33 = .ok (.iload 4, 2) := by decide +kernel
theorem dX11_nth_35 : decode cX11_nth 35 = .ok (.iconst 1, 1) := by decide +kernel
theorem dX11_nth_36 : decode cX11_nth 36 = .ok (.iload_n 1, 1) := by decide +kernel
theorem dX11_nth_37 : decode cX11_nth 37 = .ok (.ishl, 1) := by decide +kernel
theorem dX11_nth_38 : decode cX11_nth 38 = .ok (.if_icmp .ge 38, 3) := by decide +kernel
theorem dX11_nth_41 : decode cX11_nth 41 = .ok (.iload_n 3, 1) := by decide +kernel
theorem dX11_nth_42 : decode cX11_nth 42 = .ok (.aload_n 0, 1) := by decide +kernel
theorem dX11_nth_43 : decode cX11_nth 43 = .ok (.iload 4, 2) := by decide +kernel
theorem dX11_nth_45 : decode cX11_nth 45 = .ok (.iload_n 1, 1) := by decide +kernel
theorem dX11_nth_46 : decode cX11_nth 46 = .ok (.invokevirtual 130, 3) := by decide +kernel
theorem dX11_nth_49 : decode cX11_nth 49 = .ok (.ifCond .eq 7, 3) := by decide +kernel
theorem dX11_nth_52 : decode cX11_nth 52 = .ok (.iconst 1, 1) := by decide +kernel
theorem dX11_nth_53 : decode cX11_nth 53 = .ok (.goto 4, 3) := by decide +kernel
theorem dX11_nth_56 : decode cX11_nth 56 = .ok (.iconst 0, 1) := by decide +kernel
theorem dX11_nth_57 : decode cX11_nth 57 = .ok (.isub, 1) := by decide +kernel
theorem dX11_nth_58 : decode cX11_nth 58 = .ok (.istore_n 3, 1) := by decide +kernel
theorem dX11_nth_59 : decode cX11_nth 59 = .ok (.iload_n 3, 1) := by decide +kernel
theorem dX11_nth_60 : decode cX11_nth 60 = .ok (.ifCond .ge 10, 3) := by decide +kernel
theorem dX11_nth_63 : decode cX11_nth 63 = .ok (.iconst 1, 1) := by decide +kernel
theorem dX11_nth_64 : decode cX11_nth 64 = .ok (.iload_n 1, 1) := by decide +kernel
theorem dX11_nth_65 : decode cX11_nth 65 = .ok (.ishl, 1) := by decide +kernel
theorem dX11_nth_66 : decode cX11_nth 66 = .ok (.iload 4, 2) := by decide +kernel
theorem dX11_nth_68 : decode cX11_nth 68 = .ok (.iadd, 1) := by decide +kernel
theorem dX11_nth_69 : decode cX11_nth 69 = .ok (.ireturn, 1) := by decide +kernel
theorem dX11_nth_70 : decode cX11_nth 70 = .ok (.iinc 4 1, 3) := by decide +kernel
theorem dX11_nth_73 : decode cX11_nth 73 = .ok (.goto (-40), 3) := by decide +kernel
theorem dX11_nth_76 : decode cX11_nth 76 = .ok (.iconst (-1), 1) := by decide +kernel
theorem dX11_nth_77 : decode cX11_nth 77 = .ok (.ireturn, 1) := by decide +kernel
theorem dX11_share_0 : decode cX11_share 0 = .ok (.iload_n 1, 1) := by decide +kernel
theorem dX11_share_1 : decode cX11_share 1 = .ok (.iconst 0, 1) := by decide +kernel
theorem dX11_share_2 : decode cX11_share 2 = .ok (.bipush 15, 2) := by decide +kernel
theorem dX11_share_4 : decode cX11_share 4 = .ok (.invokestatic 59, 3) := by decide +kernel
theorem dX11_share_7 : decode cX11_share 7 = .ok (.ifCond .eq 12, 3) := by decide +kernel
theorem dX11_share_10 : decode cX11_share 10 = .ok (.iload_n 2, 1) := by decide +kernel
theorem dX11_share_11 : decode cX11_share 11 = .ok (.iconst 0, 1) := by decide +kernel
theorem dX11_share_12 : decode cX11_share 12 = .ok (.iconst 1, 1) := by decide +kernel
theorem dX11_share_13 : decode cX11_share 13 = .ok (.invokestatic 59, 3) := by decide +kernel
theorem dX11_share_16 : decode cX11_share 16 = .ok (.ifCond .ne 9, 3) := by decide +kernel
theorem dX11_share_19 : decode cX11_share 19 = .ok (.bipush (-2), 2) := by decide +kernel
theorem dX11_share_21 : decode cX11_share 21 = .ok (.invokestatic 137, 3) := by decide +kernel
theorem dX11_share_24 : decode cX11_share 24 = .ok (.lreturn, 1) := by decide +kernel
theorem dX11_share_25 : decode cX11_share 25 = .ok (.aload_n 0, 1) := by decide +kernel
theorem dX11_share_26 : decode cX11_share 26 = .ok (.invokevirtual 127, 3) := by decide +kernel
theorem dX11_share_29 : decode cX11_share 29 = .ok (.iconst (-1), 1) := by decide +kernel
theorem dX11_share_30 : decode cX11_share 30 = .ok (.if_icmp .eq 9, 3) := by decide +kernel
theorem dX11_share_33 : decode cX11_share 33 = .ok (.bipush (-3), 2) := by decide +kernel
theorem dX11_share_35 : decode cX11_share 35 = .ok (.invokestatic 137, 3) := by decide +kernel
theorem dX11_share_38 : decode cX11_share 38 = .ok (.lreturn, 1) := by decide +kernel
theorem dX11_share_39 : decode cX11_share 39 = .ok (.lconst 0, 1) := by decide +kernel
theorem dX11_share_40 : decode cX11_share 40 = .ok (.lstore_n 3, 1) := by decide +kernel
theorem dX11_share_41 : decode cX11_share 41 = .ok (.iconst 0, 1) := by decide +kernel
theorem dX11_share_42 : decode cX11_share 42 = .ok (.istore 5, 2) := by decide +kernel
theorem dX11_share_44 : decode cX11_share 44 = .ok (.iload 5, 2) := by decide +kernel
theorem dX11_share_46 : decode cX11_share 46 = .ok (.iconst 1, 1) := by decide +kernel
theorem dX11_share_47 : decode cX11_share 47 = .ok (.iload_n 1, 1) := by decide +kernel
theorem dX11_share_48 : decode cX11_share 48 = .ok (.ishl, 1) := by decide +kernel
theorem dX11_share_49 : decode cX11_share 49 = .ok (.if_icmp .ge 58, 3) := by decide +kernel
theorem dX11_share_52 : decode cX11_share 52 = .ok (.lload_n 3, 1) := by decide +kernel
theorem dX11_share_53 : decode cX11_share 53 = .ok (.aload_n 0, 1) := by decide +kernel
theorem dX11_share_54 : decode cX11_share 54 = .ok (.iload 5, 2) := by decide +kernel
theorem dX11_share_56 : decode cX11_share 56 = .ok (.iload_n 1, 1) := by decide +kernel
theorem dX11_share_57 : decode cX11_share 57 = .ok (.invokevirtual 130, 3) := by decide +kernel
theorem dX11_share_60 : decode cX11_share 60 = .ok (.ifCond .eq 38, 3) := by decide +kernel
theorem dX11_share_63 : decode cX11_share 63 = .ok (.aload_n 0, 1) := by decide +kernel
theorem dX11_share_64 : decode cX11_share 64 = .ok (.getfield 16, 3) := by decide +kernel
theorem dX11_share_67 : decode cX11_share 67 = .ok (.i2l, 1) := by decide +kernel
theorem dX11_share_68 : decode cX11_share 68 = .ok (.iload 5, 2) := by decide +kernel
theorem dX11_share_70 : decode cX11_share 70 = .ok (.invokestatic 81, 3) := by decide +kernel
theorem dX11_share_73 : decode cX11_share 73 = .ok (.invokestatic 141, 3) := by decide +kernel
theorem dX11_share_76 : decode cX11_share 76 = .ok (.bipush 16, 2) := by decide +kernel
theorem dX11_share_78 : decode cX11_share 78 = .ok (.aload_n 0, 1) := by decide +kernel
theorem dX11_share_79 : decode cX11_share 79 = .ok (.getfield 16, 3) := by decide +kernel
theorem dX11_share_82 : decode cX11_share 82 = .ok (.isub, 1) := by decide +kernel
theorem dX11_share_83 : decode cX11_share 83 = .ok (.i2l, 1) := by decide +kernel
theorem dX11_share_84 : decode cX11_share 84 = .ok (.iload_n 1, 1) := by decide +kernel
theorem dX11_share_85 : decode cX11_share 85 = .ok (.iload 5, 2) := by decide +kernel
theorem dX11_share_87 : decode cX11_share 87 = .ok (.invokestatic 81, 3) := by decide +kernel
theorem dX11_share_90 : decode cX11_share 90 = .ok (.isub, 1) := by decide +kernel
theorem dX11_share_91 : decode cX11_share 91 = .ok (.invokestatic 141, 3) := by decide +kernel
theorem dX11_share_94 : decode cX11_share 94 = .ok (.lmul, 1) := by decide +kernel
theorem dX11_share_95 : decode cX11_share 95 = .ok (.goto 4, 3) := by decide +kernel
theorem dX11_share_98 : decode cX11_share 98 = .ok (.lconst 0, 1) := by decide +kernel
theorem dX11_share_99 : decode cX11_share 99 = .ok (.ladd, 1) := by decide +kernel
theorem dX11_share_100 : decode cX11_share 100 = .ok (.lstore_n 3, 1) := by decide +kernel
theorem dX11_share_101 : decode cX11_share 101 = .ok (.iinc 5 1, 3) := by decide +kernel
theorem dX11_share_104 : decode cX11_share 104 = .ok (.goto (-60), 3) := by decide +kernel
theorem dX11_share_107 : decode cX11_share 107 = .ok (.lload_n 3, 1) := by decide +kernel
theorem dX11_share_108 : decode cX11_share 108 = .ok (.ldc2_w 145, 3) := by decide +kernel
theorem dX11_share_111 : decode cX11_share 111 = .ok (.iload_n 1, 1) := by decide +kernel
theorem dX11_share_112 : decode cX11_share 112 = .ok (.invokestatic 141, 3) := by decide +kernel
theorem dX11_share_115 : decode cX11_share 115 = .ok (.iload_n 2, 1) := by decide +kernel
theorem dX11_share_116 : decode cX11_share 116 = .ok (.invokestatic 147, 3) := by decide +kernel
theorem dX11_share_119 : decode cX11_share 119 = .ok (.lreturn, 1) := by decide +kernel
theorem dX11_gathers_0 : decode cX11_gathers 0 = .ok (.aload_n 0, 1) := by decide +kernel
theorem dX11_gathers_1 : decode cX11_gathers 1 = .ok (.iconst 0, 1) := by decide +kernel
theorem dX11_gathers_2 : decode cX11_gathers 2 = .ok (.putfield 151, 3) := by decide +kernel
theorem dX11_gathers_5 : decode cX11_gathers 5 = .ok (.iconst 0, 1) := by decide +kernel
theorem dX11_gathers_6 : decode cX11_gathers 6 = .ok (.istore_n 2, 1) := by decide +kernel
theorem dX11_gathers_7 : decode cX11_gathers 7 = .ok (.iload_n 2, 1) := by decide +kernel
theorem dX11_gathers_8 : decode cX11_gathers 8 = .ok (.aload_n 0, 1) := by decide +kernel
theorem dX11_gathers_9 : decode cX11_gathers 9 = .ok (.getfield 7, 3) := by decide +kernel
theorem dX11_gathers_12 : decode cX11_gathers 12 = .ok (.iload_n 1, 1) := by decide +kernel
theorem dX11_gathers_13 : decode cX11_gathers 13 = .ok (.iaload, 1) := by decide +kernel
theorem dX11_gathers_14 : decode cX11_gathers 14 = .ok (.if_icmp .ge 55, 3) := by decide +kernel
theorem dX11_gathers_17 : decode cX11_gathers 17 = .ok (.aload_n 0, 1) := by decide +kernel
theorem dX11_gathers_18 : decode cX11_gathers 18 = .ok (.getfield 13, 3) := by decide +kernel
theorem dX11_gathers_21 : decode cX11_gathers 21 = .ok (.bipush 15, 2) := by decide +kernel
theorem dX11_gathers_23 : decode cX11_gathers 23 = .ok (.iload_n 1, 1) := by decide +kernel
theorem dX11_gathers_24 : decode cX11_gathers 24 = .ok (.imul, 1) := by decide +kernel
theorem dX11_gathers_25 : decode cX11_gathers 25 = .ok (.iload_n 2, 1) := by decide +kernel
theorem dX11_gathers_26 : decode cX11_gathers 26 = .ok (.iadd, 1) := by decide +kernel
theorem dX11_gathers_27 : decode cX11_gathers 27 = .ok (.iaload, 1) := by decide +kernel
theorem dX11_gathers_28 : decode cX11_gathers 28 = .ok (.iconst (-1), 1) := by decide +kernel
theorem dX11_gathers_29 : decode cX11_gathers 29 = .ok (.if_icmp .ne 34, 3) := by decide +kernel
theorem dX11_gathers_32 : decode cX11_gathers 32 = .ok (.aload_n 0, 1) := by decide +kernel
theorem dX11_gathers_33 : decode cX11_gathers 33 = .ok (.getfield 39, 3) := by decide +kernel
theorem dX11_gathers_36 : decode cX11_gathers 36 = .ok (.aload_n 0, 1) := by decide +kernel
theorem dX11_gathers_37 : decode cX11_gathers 37 = .ok (.getfield 151, 3) := by decide +kernel
theorem dX11_gathers_40 : decode cX11_gathers 40 = .ok (.iconst 1, 1) := by decide +kernel
theorem dX11_gathers_41 : decode cX11_gathers 41 = .ok (.aload_n 0, 1) := by decide +kernel
theorem dX11_gathers_42 : decode cX11_gathers 42 = .ok (.getfield 7, 3) := by decide +kernel
theorem dX11_gathers_45 : decode cX11_gathers 45 = .ok (.iload_n 1, 1) := by decide +kernel
theorem dX11_gathers_46 : decode cX11_gathers 46 = .ok (.iaload, 1) := by decide +kernel
theorem dX11_gathers_47 : decode cX11_gathers 47 = .ok (.iconst 1, 1) := by decide +kernel
theorem dX11_gathers_48 : decode cX11_gathers 48 = .ok (.isub, 1) := by decide +kernel
theorem dX11_gathers_49 : decode cX11_gathers 49 = .ok (.iload_n 2, 1) := by decide +kernel
theorem dX11_gathers_50 : decode cX11_gathers 50 = .ok (.isub, 1) := by decide +kernel
theorem dX11_gathers_51 : decode cX11_gathers 51 = .ok (.ishl, 1) := by decide +kernel
theorem dX11_gathers_52 : decode cX11_gathers 52 = .ok (.iastore, 1) := by decide +kernel
theorem dX11_gathers_53 : decode cX11_gathers 53 = .ok (.aload_n 0, 1) := by decide +kernel
theorem dX11_gathers_54 : decode cX11_gathers 54 = .ok (.dup, 1) := by decide +kernel
theorem dX11_gathers_55 : decode cX11_gathers 55 = .ok (.getfield 151, 3) := by decide +kernel
theorem dX11_gathers_58 : decode cX11_gathers 58 = .ok (.iconst 1, 1) := by decide +kernel
theorem dX11_gathers_59 : decode cX11_gathers 59 = .ok (.iadd, 1) := by decide +kernel
theorem dX11_gathers_60 : decode cX11_gathers 60 = .ok (.putfield 151, 3) := by decide +kernel
theorem dX11_gathers_63 : decode cX11_gathers 63 = .ok (.iinc 2 1, 3) := by decide +kernel
theorem dX11_gathers_66 : decode cX11_gathers 66 = .ok (.goto (-59), 3) := by decide +kernel
theorem dX11_gathers_69 : decode cX11_gathers 69 = .ok (.return_, 1) := by decide +kernel
theorem dX11_fill_0 : decode cX11_fill 0 = .ok (.aload_n 0, 1) := by decide +kernel
theorem dX11_fill_1 : decode cX11_fill 1 = .ok (.iload_n 1, 1) := by decide +kernel
theorem dX11_fill_2 : decode cX11_fill 2 = .ok (.invokevirtual 90, 3) := by decide +kernel
theorem dX11_fill_5 : decode cX11_fill 5 = .ok (.istore_n 3, 1) := by decide +kernel
theorem dX11_fill_6 : decode cX11_fill 6 = .ok (.iconst 0, 1) := by decide +kernel
theorem dX11_fill_7 : decode cX11_fill 7 = .ok (.istore 4, 2) := by decide +kernel
theorem dX11_fill_9 : decode cX11_fill 9 = .ok (.iload 4, 2) := by decide +kernel
theorem dX11_fill_11 : decode cX11_fill 11 = .ok (.aload_n 0, 1) := by decide +kernel
theorem dX11_fill_12 : decode cX11_fill 12 = .ok (.getfield 151, 3) := by decide +kernel
theorem dX11_fill_15 : decode cX11_fill 15 = .ok (.if_icmp .ge 33, 3) := by decide +kernel
theorem dX11_fill_18 : decode cX11_fill 18 = .ok (.iload_n 3, 1) := by decide +kernel
theorem dX11_fill_19 : decode cX11_fill 19 = .ok (.iload_n 2, 1) := by decide +kernel
theorem dX11_fill_20 : decode cX11_fill 20 = .ok (.iload 4, 2) := by decide +kernel
theorem dX11_fill_22 : decode cX11_fill 22 = .ok (.ishr, 1) := by decide +kernel
theorem dX11_fill_23 : decode cX11_fill 23 = .ok (.iconst 1, 1) := by decide +kernel
theorem dX11_fill_24 : decode cX11_fill 24 = .ok (.iand, 1) := by decide +kernel
theorem dX11_fill_25 : decode cX11_fill 25 = .ok (.iconst 1, 1) := by decide +kernel
theorem dX11_fill_26 : decode cX11_fill 26 = .ok (.if_icmp .ne 13, 3) := by decide +kernel
theorem dX11_fill_29 : decode cX11_fill 29 = .ok (.aload_n 0, 1) := by decide +kernel
theorem dX11_fill_30 : decode cX11_fill 30 = .ok (.getfield 39, 3) := by decide +kernel
theorem dX11_fill_33 : decode cX11_fill 33 = .ok (.iload 4, 2) := by decide +kernel
theorem dX11_fill_35 : decode cX11_fill 35 = .ok (.iaload, 1) := by decide +kernel
theorem dX11_fill_36 : decode cX11_fill 36 = .ok (.goto 4, 3) := by decide +kernel
theorem dX11_fill_39 : decode cX11_fill 39 = .ok (.iconst 0, 1) := by decide +kernel
theorem dX11_fill_40 : decode cX11_fill 40 = .ok (.ior, 1) := by decide +kernel
theorem dX11_fill_41 : decode cX11_fill 41 = .ok (.istore_n 3, 1) := by decide +kernel
theorem dX11_fill_42 : decode cX11_fill 42 = .ok (.iinc 4 1, 3) := by decide +kernel
theorem dX11_fill_45 : decode cX11_fill 45 = .ok (.goto (-36), 3) := by decide +kernel
theorem dX11_fill_48 : decode cX11_fill 48 = .ok (.iload_n 3, 1) := by decide +kernel
theorem dX11_fill_49 : decode cX11_fill 49 = .ok (.ireturn, 1) := by decide +kernel
theorem dX11_fills_0 : decode cX11_fills 0 = .ok (.iload_n 1, 1) := by decide +kernel
theorem dX11_fills_1 : decode cX11_fills 1 = .ok (.invokestatic 63, 3) := by decide +kernel
theorem dX11_fills_4 : decode cX11_fills 4 = .ok (.ifCond .eq 12, 3) := by decide +kernel
theorem dX11_fills_7 : decode cX11_fills 7 = .ok (.iload_n 2, 1) := by decide +kernel
theorem dX11_fills_8 : decode cX11_fills 8 = .ok (.iconst 0, 1) := by decide +kernel
theorem dX11_fills_9 : decode cX11_fills 9 = .ok (.iconst 1, 1) := by decide +kernel
theorem dX11_fills_10 : decode cX11_fills 10 = .ok (.invokestatic 59, 3) := by decide +kernel
theorem dX11_fills_13 : decode cX11_fills 13 = .ok (.ifCond .ne 6, 3) := by decide +kernel
theorem dX11_fills_16 : decode cX11_fills 16 = .ok (.bipush (-2), 2) := by decide +kernel
theorem dX11_fills_18 : decode cX11_fills 18 = .ok (.ireturn, 1) := by decide +kernel
theorem dX11_fills_19 : decode cX11_fills 19 = .ok (.aload_n 0, 1) := by decide +kernel
theorem dX11_fills_20 : decode cX11_fills 20 = .ok (.iload_n 1, 1) := by decide +kernel
theorem dX11_fills_21 : decode cX11_fills 21 = .ok (.invokevirtual 154, 3) := by decide +kernel
theorem dX11_fills_24 : decode cX11_fills 24 = .ok (.iload_n 2, 1) := by decide +kernel
theorem dX11_fills_25 : decode cX11_fills 25 = .ok (.ifCond .ne 10, 3) := by decide +kernel
theorem dX11_fills_28 : decode cX11_fills 28 = .ok (.iconst 1, 1) := by decide +kernel
theorem dX11_fills_29 : decode cX11_fills 29 = .ok (.aload_n 0, 1) := by decide +kernel
theorem dX11_fills_30 : decode cX11_fills 30 = .ok (.getfield 151, 3) := by decide +kernel
theorem dX11_fills_33 : decode cX11_fills 33 = .ok (.ishl, 1) := by decide +kernel
theorem dX11_fills_34 : decode cX11_fills 34 = .ok (.ireturn, 1) := by decide +kernel
theorem dX11_fills_35 : decode cX11_fills 35 = .ok (.aload_n 0, 1) := by decide +kernel
theorem dX11_fills_36 : decode cX11_fills 36 = .ok (.invokevirtual 127, 3) := by decide +kernel
theorem dX11_fills_39 : decode cX11_fills 39 = .ok (.iconst (-1), 1) := by decide +kernel
theorem dX11_fills_40 : decode cX11_fills 40 = .ok (.if_icmp .eq 6, 3) := by decide +kernel
theorem dX11_fills_43 : decode cX11_fills 43 = .ok (.bipush (-3), 2) := by decide +kernel
theorem dX11_fills_45 : decode cX11_fills 45 = .ok (.ireturn, 1) := by decide +kernel
theorem dX11_fills_46 : decode cX11_fills 46 = .ok (.iconst 0, 1) := by decide +kernel
theorem dX11_fills_47 : decode cX11_fills 47 = .ok (.istore_n 3, 1) := by decide +kernel
theorem dX11_fills_48 : decode cX11_fills 48 = .ok (.iconst 0, 1) := by decide +kernel
theorem dX11_fills_49 : decode cX11_fills 49 = .ok (.istore 4, 2) := by decide +kernel
theorem dX11_fills_51 : decode cX11_fills 51 = .ok (.iload 4, 2) := by decide +kernel
theorem dX11_fills_53 : decode cX11_fills 53 = .ok (.iconst 1, 1) := by decide +kernel
theorem dX11_fills_54 : decode cX11_fills 54 = .ok (.aload_n 0, 1) := by decide +kernel
theorem dX11_fills_55 : decode cX11_fills 55 = .ok (.getfield 151, 3) := by decide +kernel
theorem dX11_fills_58 : decode cX11_fills 58 = .ok (.ishl, 1) := by decide +kernel
theorem dX11_fills_59 : decode cX11_fills 59 = .ok (.if_icmp .ge 37, 3) := by decide +kernel
theorem dX11_fills_62 : decode cX11_fills 62 = .ok (.iload_n 3, 1) := by decide +kernel
theorem dX11_fills_63 : decode cX11_fills 63 = .ok (.aload_n 0, 1) := by decide +kernel
theorem dX11_fills_64 : decode cX11_fills 64 = .ok (.aload_n 0, 1) := by decide +kernel
theorem dX11_fills_65 : decode cX11_fills 65 = .ok (.iload_n 1, 1) := by decide +kernel
theorem dX11_fills_66 : decode cX11_fills 66 = .ok (.iload 4, 2) := by decide +kernel
theorem dX11_fills_68 : decode cX11_fills 68 = .ok (.invokevirtual 158, 3) := by decide +kernel
theorem dX11_fills_71 : decode cX11_fills 71 = .ok (.aload_n 0, 1) := by decide +kernel
theorem dX11_fills_72 : decode cX11_fills 72 = .ok (.getfield 7, 3) := by decide +kernel
theorem dX11_fills_75 : decode cX11_fills 75 = .ok (.iload_n 1, 1) := by decide +kernel
theorem dX11_fills_76 : decode cX11_fills 76 = .ok (.iaload, 1) := by decide +kernel
theorem dX11_fills_77 : decode cX11_fills 77 = .ok (.invokevirtual 130, 3) := by decide +kernel
theorem dX11_fills_80 : decode cX11_fills 80 = .ok (.ifCond .eq 7, 3) := by decide +kernel
theorem dX11_fills_83 : decode cX11_fills 83 = .ok (.iconst 1, 1) := by decide +kernel
theorem dX11_fills_84 : decode cX11_fills 84 = .ok (.goto 4, 3) := by decide +kernel
theorem dX11_fills_87 : decode cX11_fills 87 = .ok (.iconst 0, 1) := by decide +kernel
theorem dX11_fills_88 : decode cX11_fills 88 = .ok (.iadd, 1) := by decide +kernel
theorem dX11_fills_89 : decode cX11_fills 89 = .ok (.istore_n 3, 1) := by decide +kernel
theorem dX11_fills_90 : decode cX11_fills 90 = .ok (.iinc 4 1, 3) := by decide +kernel
theorem dX11_fills_93 : decode cX11_fills 93 = .ok (.goto (-42), 3) := by decide +kernel
theorem dX11_fills_96 : decode cX11_fills 96 = .ok (.iload_n 3, 1) := by decide +kernel
theorem dX11_fills_97 : decode cX11_fills 97 = .ok (.ireturn, 1) := by decide +kernel
theorem dX11_filled_0 : decode cX11_filled 0 = .ok (.iload_n 1, 1) := by decide +kernel
theorem dX11_filled_1 : decode cX11_filled 1 = .ok (.invokestatic 63, 3) := by decide +kernel
theorem dX11_filled_4 : decode cX11_filled 4 = .ok (.ifCond .eq 12, 3) := by decide +kernel
theorem dX11_filled_7 : decode cX11_filled 7 = .ok (.iload_n 2, 1) := by decide +kernel
theorem dX11_filled_8 : decode cX11_filled 8 = .ok (.iconst 0, 1) := by decide +kernel
theorem dX11_filled_9 : decode cX11_filled 9 = .ok (.iconst 1, 1) := by decide +kernel
theorem dX11_filled_10 : decode cX11_filled 10 = .ok (.invokestatic 59, 3) := by decide +kernel
theorem dX11_filled_13 : decode cX11_filled 13 = .ok (.ifCond .ne 9, 3) := by decide +kernel
theorem dX11_filled_16 : decode cX11_filled 16 = .ok (.bipush (-2), 2) := by decide +kernel
theorem dX11_filled_18 : decode cX11_filled 18 = .ok (.invokestatic 137, 3) := by decide +kernel
theorem dX11_filled_21 : decode cX11_filled 21 = .ok (.lreturn, 1) := by decide +kernel
theorem dX11_filled_22 : decode cX11_filled 22 = .ok (.aload_n 0, 1) := by decide +kernel
theorem dX11_filled_23 : decode cX11_filled 23 = .ok (.invokevirtual 127, 3) := by decide +kernel
theorem dX11_filled_26 : decode cX11_filled 26 = .ok (.iconst (-1), 1) := by decide +kernel
theorem dX11_filled_27 : decode cX11_filled 27 = .ok (.if_icmp .eq 9, 3) := by decide +kernel
theorem dX11_filled_30 : decode cX11_filled 30 = .ok (.bipush (-3), 2) := by decide +kernel
theorem dX11_filled_32 : decode cX11_filled 32 = .ok (.invokestatic 137, 3) := by decide +kernel
theorem dX11_filled_35 : decode cX11_filled 35 = .ok (.lreturn, 1) := by decide +kernel
theorem dX11_filled_36 : decode cX11_filled 36 = .ok (.aload_n 0, 1) := by decide +kernel
theorem dX11_filled_37 : decode cX11_filled 37 = .ok (.iload_n 1, 1) := by decide +kernel
theorem dX11_filled_38 : decode cX11_filled 38 = .ok (.invokevirtual 154, 3) := by decide +kernel
theorem dX11_filled_41 : decode cX11_filled 41 = .ok (.lconst 0, 1) := by decide +kernel
theorem dX11_filled_42 : decode cX11_filled 42 = .ok (.lstore_n 3, 1) := by decide +kernel
theorem dX11_filled_43 : decode cX11_filled 43 = .ok (.iconst 0, 1) := by decide +kernel
theorem dX11_filled_44 : decode cX11_filled 44 = .ok (.istore 5, 2) := by decide +kernel
theorem dX11_filled_46 : decode cX11_filled 46 = .ok (.iload 5, 2) := by decide +kernel
theorem dX11_filled_48 : decode cX11_filled 48 = .ok (.iconst 1, 1) := by decide +kernel
theorem dX11_filled_49 : decode cX11_filled 49 = .ok (.aload_n 0, 1) := by decide +kernel
theorem dX11_filled_50 : decode cX11_filled 50 = .ok (.getfield 151, 3) := by decide +kernel
theorem dX11_filled_53 : decode cX11_filled 53 = .ok (.ishl, 1) := by decide +kernel
theorem dX11_filled_54 : decode cX11_filled 54 = .ok (.if_icmp .ge 71, 3) := by decide +kernel
theorem dX11_filled_57 : decode cX11_filled 57 = .ok (.lload_n 3, 1) := by decide +kernel
theorem dX11_filled_58 : decode cX11_filled 58 = .ok (.aload_n 0, 1) := by decide +kernel
theorem dX11_filled_59 : decode cX11_filled 59 = .ok (.aload_n 0, 1) := by decide +kernel
theorem dX11_filled_60 : decode cX11_filled 60 = .ok (.iload_n 1, 1) := by decide +kernel
theorem dX11_filled_61 : decode cX11_filled 61 = .ok (.iload 5, 2) := by decide +kernel
theorem dX11_filled_63 : decode cX11_filled 63 = .ok (.invokevirtual 158, 3) := by decide +kernel
theorem dX11_filled_66 : decode cX11_filled 66 = .ok (.aload_n 0, 1) := by decide +kernel
theorem dX11_filled_67 : decode cX11_filled 67 = .ok (.getfield 7, 3) := by decide +kernel
theorem dX11_filled_70 : decode cX11_filled 70 = .ok (.iload_n 1, 1) := by decide +kernel
theorem dX11_filled_71 : decode cX11_filled 71 = .ok (.iaload, 1) := by decide +kernel
theorem dX11_filled_72 : decode cX11_filled 72 = .ok (.invokevirtual 130, 3) := by decide +kernel
theorem dX11_filled_75 : decode cX11_filled 75 = .ok (.ifCond .eq 41, 3) := by decide +kernel
theorem dX11_filled_78 : decode cX11_filled 78 = .ok (.aload_n 0, 1) := by decide +kernel
theorem dX11_filled_79 : decode cX11_filled 79 = .ok (.getfield 16, 3) := by decide +kernel
theorem dX11_filled_82 : decode cX11_filled 82 = .ok (.i2l, 1) := by decide +kernel
theorem dX11_filled_83 : decode cX11_filled 83 = .ok (.iload 5, 2) := by decide +kernel
theorem dX11_filled_85 : decode cX11_filled 85 = .ok (.invokestatic 81, 3) := by decide +kernel
theorem dX11_filled_88 : decode cX11_filled 88 = .ok (.invokestatic 141, 3) := by decide +kernel
theorem dX11_filled_91 : decode cX11_filled 91 = .ok (.bipush 16, 2) := by decide +kernel
theorem dX11_filled_93 : decode cX11_filled 93 = .ok (.aload_n 0, 1) := by decide +kernel
theorem dX11_filled_94 : decode cX11_filled 94 = .ok (.getfield 16, 3) := by decide +kernel
theorem dX11_filled_97 : decode cX11_filled 97 = .ok (.isub, 1) := by decide +kernel
theorem dX11_filled_98 : decode cX11_filled 98 = .ok (.i2l, 1) := by decide +kernel
theorem dX11_filled_99 : decode cX11_filled 99 = .ok (.aload_n 0, 1) := by decide +kernel
theorem dX11_filled_100 : decode cX11_filled 100 = .ok (.getfield 151, 3) := by decide +kernel
theorem dX11_filled_103 : decode cX11_filled 103 = .ok (.iload 5, 2) := by decide +kernel
theorem dX11_filled_105 : decode cX11_filled 105 = .ok (.invokestatic 81, 3) := by decide +kernel
theorem dX11_filled_108 : decode cX11_filled 108 = .ok (.isub, 1) := by decide +kernel
theorem dX11_filled_109 : decode cX11_filled 109 = .ok (.invokestatic 141, 3) := by decide +kernel
theorem dX11_filled_112 : decode cX11_filled 112 = .ok (.lmul, 1) := by decide +kernel
theorem dX11_filled_113 : decode cX11_filled 113 = .ok (.goto 4, 3) := by decide +kernel
theorem dX11_filled_116 : decode cX11_filled 116 = .ok (.lconst 0, 1) := by decide +kernel
theorem dX11_filled_117 : decode cX11_filled 117 = .ok (.ladd, 1) := by decide +kernel
theorem dX11_filled_118 : decode cX11_filled 118 = .ok (.lstore_n 3, 1) := by decide +kernel
theorem dX11_filled_119 : decode cX11_filled 119 = .ok (.iinc 5 1, 3) := by decide +kernel
theorem dX11_filled_122 : decode cX11_filled 122 = .ok (.goto (-76), 3) := by decide +kernel
theorem dX11_filled_125 : decode cX11_filled 125 = .ok (.lload_n 3, 1) := by decide +kernel
theorem dX11_filled_126 : decode cX11_filled 126 = .ok (.ldc2_w 145, 3) := by decide +kernel
theorem dX11_filled_129 : decode cX11_filled 129 = .ok (.aload_n 0, 1) := by decide +kernel
theorem dX11_filled_130 : decode cX11_filled 130 = .ok (.getfield 151, 3) := by decide +kernel
theorem dX11_filled_133 : decode cX11_filled 133 = .ok (.invokestatic 141, 3) := by decide +kernel
theorem dX11_filled_136 : decode cX11_filled 136 = .ok (.iload_n 2, 1) := by decide +kernel
theorem dX11_filled_137 : decode cX11_filled 137 = .ok (.invokestatic 147, 3) := by decide +kernel
theorem dX11_filled_140 : decode cX11_filled 140 = .ok (.lreturn, 1) := by decide +kernel
theorem dX11_sure_0 : decode cX11_sure 0 = .ok (.iload_n 1, 1) := by decide +kernel
theorem dX11_sure_1 : decode cX11_sure 1 = .ok (.invokestatic 63, 3) := by decide +kernel
theorem dX11_sure_4 : decode cX11_sure 4 = .ok (.ifCond .eq 7, 3) := by decide +kernel
theorem dX11_sure_7 : decode cX11_sure 7 = .ok (.iload_n 2, 1) := by decide +kernel
theorem dX11_sure_8 : decode cX11_sure 8 = .ok (.ifCond .ge 6, 3) := by decide +kernel
theorem dX11_sure_11 : decode cX11_sure 11 = .ok (.bipush (-2), 2) := by decide +kernel
theorem dX11_sure_13 : decode cX11_sure 13 = .ok (.ireturn, 1) := by decide +kernel
theorem dX11_sure_14 : decode cX11_sure 14 = .ok (.aload_n 0, 1) := by decide +kernel
theorem dX11_sure_15 : decode cX11_sure 15 = .ok (.invokevirtual 127, 3) := by decide +kernel
theorem dX11_sure_18 : decode cX11_sure 18 = .ok (.iconst (-1), 1) := by decide +kernel
theorem dX11_sure_19 : decode cX11_sure 19 = .ok (.if_icmp .ne 13, 3) := by decide +kernel
theorem dX11_sure_22 : decode cX11_sure 22 = .ok (.iload_n 2, 1) := by decide +kernel
theorem dX11_sure_23 : decode cX11_sure 23 = .ok (.aload_n 0, 1) := by decide +kernel
theorem dX11_sure_24 : decode cX11_sure 24 = .ok (.getfield 7, 3) := by decide +kernel
theorem dX11_sure_27 : decode cX11_sure 27 = .ok (.iload_n 1, 1) := by decide +kernel
theorem dX11_sure_28 : decode cX11_sure 28 = .ok (.iaload, 1) := by decide +kernel
theorem dX11_sure_29 : decode cX11_sure 29 = .ok (.if_icmp .lt 6, 3) := by decide +kernel
theorem dX11_sure_32 : decode cX11_sure 32 = .ok (.bipush (-3), 2) := by decide +kernel
theorem dX11_sure_34 : decode cX11_sure 34 = .ok (.ireturn, 1) := by decide +kernel
theorem dX11_sure_35 : decode cX11_sure 35 = .ok (.aload_n 0, 1) := by decide +kernel
theorem dX11_sure_36 : decode cX11_sure 36 = .ok (.iload_n 1, 1) := by decide +kernel
theorem dX11_sure_37 : decode cX11_sure 37 = .ok (.invokevirtual 154, 3) := by decide +kernel
theorem dX11_sure_40 : decode cX11_sure 40 = .ok (.iconst 0, 1) := by decide +kernel
theorem dX11_sure_41 : decode cX11_sure 41 = .ok (.istore_n 3, 1) := by decide +kernel
theorem dX11_sure_42 : decode cX11_sure 42 = .ok (.iconst 0, 1) := by decide +kernel
theorem dX11_sure_43 : decode cX11_sure 43 = .ok (.istore 4, 2) := by decide +kernel
theorem dX11_sure_45 : decode cX11_sure 45 = .ok (.iconst 0, 1) := by decide +kernel
theorem dX11_sure_46 : decode cX11_sure 46 = .ok (.istore 5, 2) := by decide +kernel
theorem dX11_sure_48 : decode cX11_sure 48 = .ok (.iload 5, 2) := by decide +kernel
theorem dX11_sure_50 : decode cX11_sure 50 = .ok (.iconst 1, 1) := by decide +kernel
theorem dX11_sure_51 : decode cX11_sure 51 = .ok (.aload_n 0, 1) := by decide +kernel
theorem dX11_sure_52 : decode cX11_sure 52 = .ok (.getfield 151, 3) := by decide +kernel
theorem dX11_sure_55 : decode cX11_sure 55 = .ok (.ishl, 1) := by decide +kernel
theorem dX11_sure_56 : decode cX11_sure 56 = .ok (.if_icmp .ge 64, 3) := by decide +kernel
theorem dX11_sure_59 : decode cX11_sure 59 = .ok (.aload_n 0, 1) := by decide +kernel
theorem dX11_sure_60 : decode cX11_sure 60 = .ok (.iload_n 1, 1) := by decide +kernel
theorem dX11_sure_61 : decode cX11_sure 61 = .ok (.iload 5, 2) := by decide +kernel
theorem dX11_sure_63 : decode cX11_sure 63 = .ok (.invokevirtual 158, 3) := by decide +kernel
theorem dX11_sure_66 : decode cX11_sure 66 = .ok (.istore 6, 2) := by decide +kernel
theorem dX11_sure_68 : decode cX11_sure 68 = .ok (.aload_n 0, 1) := by decide +kernel
theorem dX11_sure_69 : decode cX11_sure 69 = .ok (.iload 6, 2) := by decide +kernel
theorem dX11_sure_71 : decode cX11_sure 71 = .ok (.aload_n 0, 1) := by decide +kernel
theorem dX11_sure_72 : decode cX11_sure 72 = .ok (.getfield 7, 3) := by decide +kernel
theorem dX11_sure_75 : decode cX11_sure 75 = .ok (.iload_n 1, 1) := by decide +kernel
theorem dX11_sure_76 : decode cX11_sure 76 = .ok (.iaload, 1) := by decide +kernel
theorem dX11_sure_77 : decode cX11_sure 77 = .ok (.invokevirtual 130, 3) := by decide +kernel
theorem dX11_sure_80 : decode cX11_sure 80 = .ok (.ifCond .eq 34, 3) := by decide +kernel
theorem dX11_sure_83 : decode cX11_sure 83 = .ok (.iload 6, 2) := by decide +kernel
theorem dX11_sure_85 : decode cX11_sure 85 = .ok (.aload_n 0, 1) := by decide +kernel
theorem dX11_sure_86 : decode cX11_sure 86 = .ok (.getfield 7, 3) := by decide +kernel
theorem dX11_sure_89 : decode cX11_sure 89 = .ok (.iload_n 1, 1) := by decide +kernel
theorem dX11_sure_90 : decode cX11_sure 90 = .ok (.iaload, 1) := by decide +kernel
theorem dX11_sure_91 : decode cX11_sure 91 = .ok (.iconst 1, 1) := by decide +kernel
theorem dX11_sure_92 : decode cX11_sure 92 = .ok (.isub, 1) := by decide +kernel
theorem dX11_sure_93 : decode cX11_sure 93 = .ok (.iload_n 2, 1) := by decide +kernel
theorem dX11_sure_94 : decode cX11_sure 94 = .ok (.isub, 1) := by decide +kernel
theorem dX11_sure_95 : decode cX11_sure 95 = .ok (.ishr, 1) := by decide +kernel
theorem dX11_sure_96 : decode cX11_sure 96 = .ok (.iconst 1, 1) := by decide +kernel
theorem dX11_sure_97 : decode cX11_sure 97 = .ok (.iand, 1) := by decide +kernel
theorem dX11_sure_98 : decode cX11_sure 98 = .ok (.istore 7, 2) := by decide +kernel
theorem dX11_sure_100 : decode cX11_sure 100 = .ok (.iload_n 3, 1) := by decide +kernel
theorem dX11_sure_101 : decode cX11_sure 101 = .ok (.iload 7, 2) := by decide +kernel
theorem dX11_sure_103 : decode cX11_sure 103 = .ok (.iadd, 1) := by decide +kernel
theorem dX11_sure_104 : decode cX11_sure 104 = .ok (.istore_n 3, 1) := by decide +kernel
theorem dX11_sure_105 : decode cX11_sure 105 = .ok (.iload 4, 2) := by decide +kernel
theorem dX11_sure_107 : decode cX11_sure 107 = .ok (.iconst 1, 1) := by decide +kernel
theorem dX11_sure_108 : decode cX11_sure 108 = .ok (.iload 7, 2) := by decide +kernel
theorem dX11_sure_110 : decode cX11_sure 110 = .ok (.isub, 1) := by decide +kernel
theorem dX11_sure_111 : decode cX11_sure 111 = .ok (.iadd, 1) := by decide +kernel
theorem dX11_sure_112 : decode cX11_sure 112 = .ok (.istore 4, 2) := by decide +kernel
theorem dX11_sure_114 : decode cX11_sure 114 = .ok (.iinc 5 1, 3) := by decide +kernel
theorem dX11_sure_117 : decode cX11_sure 117 = .ok (.goto (-69), 3) := by decide +kernel
theorem dX11_sure_120 : decode cX11_sure 120 = .ok (.iload_n 3, 1) := by decide +kernel
theorem dX11_sure_121 : decode cX11_sure 121 = .ok (.iload 4, 2) := by decide +kernel
theorem dX11_sure_123 : decode cX11_sure 123 = .ok (.iadd, 1) := by decide +kernel
theorem dX11_sure_124 : decode cX11_sure 124 = .ok (.ifCond .ne 8, 3) := by decide +kernel
theorem dX11_sure_127 : decode cX11_sure 127 = .ok (.bipush (-3), 2) := by decide +kernel
theorem dX11_sure_129 : decode cX11_sure 129 = .ok (.goto 21, 3) := by decide +kernel
theorem dX11_sure_132 : decode cX11_sure 132 = .ok (.iload 4, 2) := by decide +kernel
theorem dX11_sure_134 : decode cX11_sure 134 = .ok (.ifCond .ne 7, 3) := by decide +kernel
theorem dX11_sure_137 : decode cX11_sure 137 = .ok (.iconst 1, 1) := by decide +kernel
theorem dX11_sure_138 : decode cX11_sure 138 = .ok (.goto 12, 3) := by decide +kernel
theorem dX11_sure_141 : decode cX11_sure 141 = .ok (.iload_n 3, 1) := by decide +kernel
theorem dX11_sure_142 : decode cX11_sure 142 = .ok (.ifCond .ne 7, 3) := by decide +kernel
theorem dX11_sure_145 : decode cX11_sure 145 = .ok (.iconst 0, 1) := by decide +kernel
theorem dX11_sure_146 : decode cX11_sure 146 = .ok (.goto 4, 3) := by decide +kernel
theorem dX11_sure_149 : decode cX11_sure 149 = .ok (.iconst (-1), 1) := by decide +kernel
theorem dX11_sure_150 : decode cX11_sure 150 = .ok (.ireturn, 1) := by decide +kernel
theorem dX11_dealtMany_0 : decode cX11_dealtMany 0 = .ok (.aload_n 0, 1) := by decide +kernel
theorem dX11_dealtMany_1 : decode cX11_dealtMany 1 = .ok (.getfield 7, 3) := by decide +kernel
theorem dX11_dealtMany_4 : decode cX11_dealtMany 4 = .ok (.iload_n 1, 1) := by decide +kernel
theorem dX11_dealtMany_5 : decode cX11_dealtMany 5 = .ok (.iaload, 1) := by decide +kernel
theorem dX11_dealtMany_6 : decode cX11_dealtMany 6 = .ok (.istore 4, 2) := by decide +kernel
theorem dX11_dealtMany_8 : decode cX11_dealtMany 8 = .ok (.aload_n 0, 1) := by decide +kernel
theorem dX11_dealtMany_9 : decode cX11_dealtMany 9 = .ok (.iload_n 1, 1) := by decide +kernel
theorem dX11_dealtMany_10 : decode cX11_dealtMany 10 = .ok (.invokevirtual 90, 3) := by decide +kernel
theorem dX11_dealtMany_13 : decode cX11_dealtMany 13 = .ok (.istore 5, 2) := by decide +kernel
theorem dX11_dealtMany_15 : decode cX11_dealtMany 15 = .ok (.iload 5, 2) := by decide +kernel
theorem dX11_dealtMany_17 : decode cX11_dealtMany 17 = .ok (.invokestatic 81, 3) := by decide +kernel
theorem dX11_dealtMany_20 : decode cX11_dealtMany 20 = .ok (.istore 6, 2) := by decide +kernel
theorem dX11_dealtMany_22 : decode cX11_dealtMany 22 = .ok (.aload_n 0, 1) := by decide +kernel
theorem dX11_dealtMany_23 : decode cX11_dealtMany 23 = .ok (.iload 5, 2) := by decide +kernel
theorem dX11_dealtMany_25 : decode cX11_dealtMany 25 = .ok (.iload 4, 2) := by decide +kernel
theorem dX11_dealtMany_27 : decode cX11_dealtMany 27 = .ok (.iload_n 2, 1) := by decide +kernel
theorem dX11_dealtMany_28 : decode cX11_dealtMany 28 = .ok (.invokevirtual 93, 3) := by decide +kernel
theorem dX11_dealtMany_31 : decode cX11_dealtMany 31 = .ok (.istore 7, 2) := by decide +kernel
theorem dX11_dealtMany_33 : decode cX11_dealtMany 33 = .ok (.iconst 0, 1) := by decide +kernel
theorem dX11_dealtMany_34 : decode cX11_dealtMany 34 = .ok (.istore 8, 2) := by decide +kernel
theorem dX11_dealtMany_36 : decode cX11_dealtMany 36 = .ok (.iconst 0, 1) := by decide +kernel
theorem dX11_dealtMany_37 : decode cX11_dealtMany 37 = .ok (.istore 9, 2) := by decide +kernel
theorem dX11_dealtMany_39 : decode cX11_dealtMany 39 = .ok (.iload 9, 2) := by decide +kernel
theorem dX11_dealtMany_41 : decode cX11_dealtMany 41 = .ok (.iconst 1, 1) := by decide +kernel
theorem dX11_dealtMany_42 : decode cX11_dealtMany 42 = .ok (.iload 4, 2) := by decide +kernel
theorem dX11_dealtMany_44 : decode cX11_dealtMany 44 = .ok (.ishl, 1) := by decide +kernel
theorem dX11_dealtMany_45 : decode cX11_dealtMany 45 = .ok (.if_icmp .ge 62, 3) := by decide +kernel
theorem dX11_dealtMany_48 : decode cX11_dealtMany 48 = .ok (.iload 9, 2) := by decide +kernel
theorem dX11_dealtMany_50 : decode cX11_dealtMany 50 = .ok (.invokestatic 81, 3) := by decide +kernel
theorem dX11_dealtMany_53 : decode cX11_dealtMany 53 = .ok (.iload 6, 2) := by decide +kernel
theorem dX11_dealtMany_55 : decode cX11_dealtMany 55 = .ok (.if_icmp .ne 46, 3) := by decide +kernel
theorem dX11_dealtMany_58 : decode cX11_dealtMany 58 = .ok (.aload_n 0, 1) := by decide +kernel
theorem dX11_dealtMany_59 : decode cX11_dealtMany 59 = .ok (.iload 9, 2) := by decide +kernel
theorem dX11_dealtMany_61 : decode cX11_dealtMany 61 = .ok (.iload 4, 2) := by decide +kernel
theorem dX11_dealtMany_63 : decode cX11_dealtMany 63 = .ok (.iload_n 2, 1) := by decide +kernel
theorem dX11_dealtMany_64 : decode cX11_dealtMany 64 = .ok (.invokevirtual 93, 3) := by decide +kernel
theorem dX11_dealtMany_67 : decode cX11_dealtMany 67 = .ok (.istore 10, 2) := by decide +kernel
theorem dX11_dealtMany_69 : decode cX11_dealtMany 69 = .ok (.iload 8, 2) := by decide +kernel
theorem dX11_dealtMany_71 : decode cX11_dealtMany 71 = .ok (.iload_n 3, 1) := by decide +kernel
theorem dX11_dealtMany_72 : decode cX11_dealtMany 72 = .ok (.ifCond .eq 10, 3) := by decide +kernel
theorem dX11_dealtMany_75 : decode cX11_dealtMany 75 = .ok (.iload 10, 2) := by decide +kernel
theorem dX11_dealtMany_77 : decode cX11_dealtMany 77 = .ok (.iload 7, 2) := by decide +kernel
theorem dX11_dealtMany_79 : decode cX11_dealtMany 79 = .ok (.if_icmp .ge 14, 3) := by decide +kernel
theorem dX11_dealtMany_82 : decode cX11_dealtMany 82 = .ok (.iload_n 3, 1) := by decide +kernel
theorem dX11_dealtMany_83 : decode cX11_dealtMany 83 = .ok (.ifCond .ne 14, 3) := by decide +kernel
theorem dX11_dealtMany_86 : decode cX11_dealtMany 86 = .ok (.iload 10, 2) := by decide +kernel
theorem dX11_dealtMany_88 : decode cX11_dealtMany 88 = .ok (.iload 7, 2) := by decide +kernel
theorem dX11_dealtMany_90 : decode cX11_dealtMany 90 = .ok (.if_icmp .gt 7, 3) := by decide +kernel
theorem dX11_dealtMany_93 : decode cX11_dealtMany 93 = .ok (.iconst 1, 1) := by decide +kernel
theorem dX11_dealtMany_94 : decode cX11_dealtMany 94 = .ok (.goto 4, 3) := by decide +kernel
theorem dX11_dealtMany_97 : decode cX11_dealtMany 97 = .ok (.iconst 0, 1) := by decide +kernel
theorem dX11_dealtMany_98 : decode cX11_dealtMany 98 = .ok (.iadd, 1) := by decide +kernel
theorem dX11_dealtMany_99 : decode cX11_dealtMany 99 = .ok (.istore 8, 2) := by decide +kernel
theorem dX11_dealtMany_101 : decode cX11_dealtMany 101 = .ok (.iinc 9 1, 3) := by decide +kernel
theorem dX11_dealtMany_104 : decode cX11_dealtMany 104 = .ok (.goto (-65), 3) := by decide +kernel
theorem dX11_dealtMany_107 : decode cX11_dealtMany 107 = .ok (.iload 8, 2) := by decide +kernel
theorem dX11_dealtMany_109 : decode cX11_dealtMany 109 = .ok (.ireturn, 1) := by decide +kernel
theorem dX11_choose_0 : decode cX11_choose 0 = .ok (.lconst 1, 1) := by decide +kernel
theorem dX11_choose_1 : decode cX11_choose 1 = .ok (.lstore_n 2, 1) := by decide +kernel
theorem dX11_choose_2 : decode cX11_choose 2 = .ok (.iconst 1, 1) := by decide +kernel
theorem dX11_choose_3 : decode cX11_choose 3 = .ok (.istore 4, 2) := by decide +kernel
theorem dX11_choose_5 : decode cX11_choose 5 = .ok (.iload 4, 2) := by decide +kernel
theorem dX11_choose_7 : decode cX11_choose 7 = .ok (.iload_n 1, 1) := by decide +kernel
theorem dX11_choose_8 : decode cX11_choose 8 = .ok (.if_icmp .gt 23, 3) := by decide +kernel
theorem dX11_choose_11 : decode cX11_choose 11 = .ok (.lload_n 2, 1) := by decide +kernel
theorem dX11_choose_12 : decode cX11_choose 12 = .ok (.iload_n 0, 1) := by decide +kernel
theorem dX11_choose_13 : decode cX11_choose 13 = .ok (.iload_n 1, 1) := by decide +kernel
theorem dX11_choose_14 : decode cX11_choose 14 = .ok (.isub, 1) := by decide +kernel
theorem dX11_choose_15 : decode cX11_choose 15 = .ok (.iload 4, 2) := by decide +kernel
theorem dX11_choose_17 : decode cX11_choose 17 = .ok (.iadd, 1) := by decide +kernel
theorem dX11_choose_18 : decode cX11_choose 18 = .ok (.i2l, 1) := by decide +kernel
theorem dX11_choose_19 : decode cX11_choose 19 = .ok (.lmul, 1) := by decide +kernel
theorem dX11_choose_20 : decode cX11_choose 20 = .ok (.iload 4, 2) := by decide +kernel
theorem dX11_choose_22 : decode cX11_choose 22 = .ok (.i2l, 1) := by decide +kernel
theorem dX11_choose_23 : decode cX11_choose 23 = .ok (.ldiv, 1) := by decide +kernel
theorem dX11_choose_24 : decode cX11_choose 24 = .ok (.lstore_n 2, 1) := by decide +kernel
theorem dX11_choose_25 : decode cX11_choose 25 = .ok (.iinc 4 1, 3) := by decide +kernel
theorem dX11_choose_28 : decode cX11_choose 28 = .ok (.goto (-23), 3) := by decide +kernel
theorem dX11_choose_31 : decode cX11_choose 31 = .ok (.lload_n 2, 1) := by decide +kernel
theorem dX11_choose_32 : decode cX11_choose 32 = .ok (.lreturn, 1) := by decide +kernel
theorem dX11_dealtAll_0 : decode cX11_dealtAll 0 = .ok (.aload_n 0, 1) := by decide +kernel
theorem dX11_dealtAll_1 : decode cX11_dealtAll 1 = .ok (.getfield 7, 3) := by decide +kernel
theorem dX11_dealtAll_4 : decode cX11_dealtAll 4 = .ok (.iload_n 1, 1) := by decide +kernel
theorem dX11_dealtAll_5 : decode cX11_dealtAll 5 = .ok (.iaload, 1) := by decide +kernel
theorem dX11_dealtAll_6 : decode cX11_dealtAll 6 = .ok (.aload_n 0, 1) := by decide +kernel
theorem dX11_dealtAll_7 : decode cX11_dealtAll 7 = .ok (.iload_n 1, 1) := by decide +kernel
theorem dX11_dealtAll_8 : decode cX11_dealtAll 8 = .ok (.invokevirtual 90, 3) := by decide +kernel
theorem dX11_dealtAll_11 : decode cX11_dealtAll 11 = .ok (.invokestatic 81, 3) := by decide +kernel
theorem dX11_dealtAll_14 : decode cX11_dealtAll 14 = .ok (.invokestatic 161, 3) := by decide +kernel
theorem dX11_dealtAll_17 : decode cX11_dealtAll 17 = .ok (.lreturn, 1) := by decide +kernel
theorem dX11_dealt_0 : decode cX11_dealt 0 = .ok (.iload_n 1, 1) := by decide +kernel
theorem dX11_dealt_1 : decode cX11_dealt 1 = .ok (.invokestatic 63, 3) := by decide +kernel
theorem dX11_dealt_4 : decode cX11_dealt 4 = .ok (.ifCond .eq 13, 3) := by decide +kernel
theorem dX11_dealt_7 : decode cX11_dealt 7 = .ok (.iload_n 2, 1) := by decide +kernel
theorem dX11_dealt_8 : decode cX11_dealt 8 = .ok (.iconst 0, 1) := by decide +kernel
theorem dX11_dealt_9 : decode cX11_dealt 9 = .ok (.bipush 6, 2) := by decide +kernel
theorem dX11_dealt_11 : decode cX11_dealt 11 = .ok (.invokestatic 59, 3) := by decide +kernel
theorem dX11_dealt_14 : decode cX11_dealt 14 = .ok (.ifCond .ne 6, 3) := by decide +kernel
theorem dX11_dealt_17 : decode cX11_dealt 17 = .ok (.bipush (-2), 2) := by decide +kernel
theorem dX11_dealt_19 : decode cX11_dealt 19 = .ok (.ireturn, 1) := by decide +kernel
theorem dX11_dealt_20 : decode cX11_dealt 20 = .ok (.aload_n 0, 1) := by decide +kernel
theorem dX11_dealt_21 : decode cX11_dealt 21 = .ok (.iload_n 1, 1) := by decide +kernel
theorem dX11_dealt_22 : decode cX11_dealt 22 = .ok (.invokevirtual 87, 3) := by decide +kernel
theorem dX11_dealt_25 : decode cX11_dealt 25 = .ok (.ifCond .eq 25, 3) := by decide +kernel
theorem dX11_dealt_28 : decode cX11_dealt 28 = .ok (.ldc2_w 165, 3) := by decide +kernel
theorem dX11_dealt_31 : decode cX11_dealt 31 = .ok (.aload_n 0, 1) := by decide +kernel
theorem dX11_dealt_32 : decode cX11_dealt 32 = .ok (.iload_n 1, 1) := by decide +kernel
theorem dX11_dealt_33 : decode cX11_dealt 33 = .ok (.iload_n 2, 1) := by decide +kernel
theorem dX11_dealt_34 : decode cX11_dealt 34 = .ok (.iload_n 3, 1) := by decide +kernel
theorem dX11_dealt_35 : decode cX11_dealt 35 = .ok (.invokevirtual 167, 3) := by decide +kernel
theorem dX11_dealt_38 : decode cX11_dealt 38 = .ok (.i2l, 1) := by decide +kernel
theorem dX11_dealt_39 : decode cX11_dealt 39 = .ok (.lmul, 1) := by decide +kernel
theorem dX11_dealt_40 : decode cX11_dealt 40 = .ok (.aload_n 0, 1) := by decide +kernel
theorem dX11_dealt_41 : decode cX11_dealt 41 = .ok (.iload_n 1, 1) := by decide +kernel
theorem dX11_dealt_42 : decode cX11_dealt 42 = .ok (.invokevirtual 171, 3) := by decide +kernel
theorem dX11_dealt_45 : decode cX11_dealt 45 = .ok (.ldiv, 1) := by decide +kernel
theorem dX11_dealt_46 : decode cX11_dealt 46 = .ok (.l2i, 1) := by decide +kernel
theorem dX11_dealt_47 : decode cX11_dealt 47 = .ok (.goto 5, 3) := by decide +kernel
theorem dX11_dealt_50 : decode cX11_dealt 50 = .ok (.bipush (-3), 2) := by decide +kernel
theorem dX11_dealt_52 : decode cX11_dealt 52 = .ok (.ireturn, 1) := by decide +kernel
theorem dX11_strangest_0 : decode cX11_strangest 0 = .ok (.iload_n 1, 1) := by decide +kernel
theorem dX11_strangest_1 : decode cX11_strangest 1 = .ok (.invokestatic 63, 3) := by decide +kernel
theorem dX11_strangest_4 : decode cX11_strangest 4 = .ok (.ifCond .ne 6, 3) := by decide +kernel
theorem dX11_strangest_7 : decode cX11_strangest 7 = .ok (.bipush (-2), 2) := by decide +kernel
theorem dX11_strangest_9 : decode cX11_strangest 9 = .ok (.ireturn, 1) := by decide +kernel
theorem dX11_strangest_10 : decode cX11_strangest 10 = .ok (.aload_n 0, 1) := by decide +kernel
theorem dX11_strangest_11 : decode cX11_strangest 11 = .ok (.iload_n 1, 1) := by decide +kernel
theorem dX11_strangest_12 : decode cX11_strangest 12 = .ok (.invokevirtual 87, 3) := by decide +kernel
theorem dX11_strangest_15 : decode cX11_strangest 15 = .ok (.ifCond .eq 12, 3) := by decide +kernel
theorem dX11_strangest_18 : decode cX11_strangest 18 = .ok (.aload_n 0, 1) := by decide +kernel
theorem dX11_strangest_19 : decode cX11_strangest 19 = .ok (.getfield 7, 3) := by decide +kernel
theorem dX11_strangest_22 : decode cX11_strangest 22 = .ok (.iload_n 1, 1) := by decide +kernel
theorem dX11_strangest_23 : decode cX11_strangest 23 = .ok (.iaload, 1) := by decide +kernel
theorem dX11_strangest_24 : decode cX11_strangest 24 = .ok (.ifCond .ne 6, 3) := by decide +kernel
theorem dX11_strangest_27 : decode cX11_strangest 27 = .ok (.bipush (-3), 2) := by decide +kernel
theorem dX11_strangest_29 : decode cX11_strangest 29 = .ok (.ireturn, 1) := by decide +kernel
theorem dX11_strangest_30 : decode cX11_strangest 30 = .ok (.iconst (-1), 1) := by decide +kernel
theorem dX11_strangest_31 : decode cX11_strangest 31 = .ok (.istore_n 2, 1) := by decide +kernel
theorem dX11_strangest_32 : decode cX11_strangest 32 = .ok (.iconst 0, 1) := by decide +kernel
theorem dX11_strangest_33 : decode cX11_strangest 33 = .ok (.istore_n 3, 1) := by decide +kernel
theorem dX11_strangest_34 : decode cX11_strangest 34 = .ok (.iconst 2, 1) := by decide +kernel
theorem dX11_strangest_35 : decode cX11_strangest 35 = .ok (.istore 4, 2) := by decide +kernel
theorem dX11_strangest_37 : decode cX11_strangest 37 = .ok (.iload 4, 2) := by decide +kernel
theorem dX11_strangest_39 : decode cX11_strangest 39 = .ok (.bipush 14, 2) := by decide +kernel
theorem dX11_strangest_41 : decode cX11_strangest 41 = .ok (.if_icmp .ge 83, 3) := by decide +kernel
theorem dX11_strangest_44 : decode cX11_strangest 44 = .ok (.iload 4, 2) := by decide +kernel
theorem dX11_strangest_46 : decode cX11_strangest 46 = .ok (.iconst 2, 1) := by decide +kernel
theorem dX11_strangest_47 : decode cX11_strangest 47 = .ok (.idiv, 1) := by decide +kernel
theorem dX11_strangest_48 : decode cX11_strangest 48 = .ok (.iconst 5, 1) := by decide +kernel
theorem dX11_strangest_49 : decode cX11_strangest 49 = .ok (.if_icmp .eq 69, 3) := by decide +kernel
theorem dX11_strangest_52 : decode cX11_strangest 52 = .ok (.aload_n 0, 1) := by decide +kernel
theorem dX11_strangest_53 : decode cX11_strangest 53 = .ok (.iload_n 1, 1) := by decide +kernel
theorem dX11_strangest_54 : decode cX11_strangest 54 = .ok (.iload 4, 2) := by decide +kernel
theorem dX11_strangest_56 : decode cX11_strangest 56 = .ok (.iconst 2, 1) := by decide +kernel
theorem dX11_strangest_57 : decode cX11_strangest 57 = .ok (.idiv, 1) := by decide +kernel
theorem dX11_strangest_58 : decode cX11_strangest 58 = .ok (.iload 4, 2) := by decide +kernel
theorem dX11_strangest_60 : decode cX11_strangest 60 = .ok (.iconst 2, 1) := by decide +kernel
theorem dX11_strangest_61 : decode cX11_strangest 61 = .ok (.irem, 1) := by decide +kernel
theorem dX11_strangest_62 : decode cX11_strangest 62 = .ok (.iconst 1, 1) := by decide +kernel
theorem dX11_strangest_63 : decode cX11_strangest 63 = .ok (.if_icmp .ne 7, 3) := by decide +kernel
theorem dX11_strangest_66 : decode cX11_strangest 66 = .ok (.iconst 1, 1) := by decide +kernel
theorem dX11_strangest_67 : decode cX11_strangest 67 = .ok (.goto 4, 3) := by decide +kernel
theorem dX11_strangest_70 : decode cX11_strangest 70 = .ok (.iconst 0, 1) := by decide +kernel
theorem dX11_strangest_71 : decode cX11_strangest 71 = .ok (.invokevirtual 167, 3) := by decide +kernel
theorem dX11_strangest_74 : decode cX11_strangest 74 = .ok (.istore 5, 2) := by decide +kernel
theorem dX11_strangest_76 : decode cX11_strangest 76 = .ok (.iload_n 2, 1) := by decide +kernel
theorem dX11_strangest_77 : decode cX11_strangest 77 = .ok (.iconst (-1), 1) := by decide +kernel
theorem dX11_strangest_78 : decode cX11_strangest 78 = .ok (.if_icmp .eq 9, 3) := by decide +kernel
theorem dX11_strangest_81 : decode cX11_strangest 81 = .ok (.iload 5, 2) := by decide +kernel
theorem dX11_strangest_83 : decode cX11_strangest 83 = .ok (.iload_n 3, 1) := by decide +kernel
theorem dX11_strangest_84 : decode cX11_strangest 84 = .ok (.if_icmp .ge 7, 3) := by decide +kernel
theorem dX11_strangest_87 : decode cX11_strangest 87 = .ok (.iconst 1, 1) := by decide +kernel
theorem dX11_strangest_88 : decode cX11_strangest 88 = .ok (.goto 4, 3) := by decide +kernel
theorem dX11_strangest_91 : decode cX11_strangest 91 = .ok (.iconst 0, 1) := by decide +kernel
theorem dX11_strangest_92 : decode cX11_strangest 92 = .ok (.istore 6, 2) := by decide +kernel
theorem dX11_strangest_94 : decode cX11_strangest 94 = .ok (.iload 6, 2) := by decide +kernel
theorem dX11_strangest_96 : decode cX11_strangest 96 = .ok (.ifCond .eq 8, 3) := by decide +kernel
theorem dX11_strangest_99 : decode cX11_strangest 99 = .ok (.iload 4, 2) := by decide +kernel
theorem dX11_strangest_101 : decode cX11_strangest 101 = .ok (.goto 4, 3) := by decide +kernel
theorem dX11_strangest_104 : decode cX11_strangest 104 = .ok (.iload_n 2, 1) := by decide +kernel
theorem dX11_strangest_105 : decode cX11_strangest 105 = .ok (.istore_n 2, 1) := by decide +kernel
theorem dX11_strangest_106 : decode cX11_strangest 106 = .ok (.iload 6, 2) := by decide +kernel
theorem dX11_strangest_108 : decode cX11_strangest 108 = .ok (.ifCond .eq 8, 3) := by decide +kernel
theorem dX11_strangest_111 : decode cX11_strangest 111 = .ok (.iload 5, 2) := by decide +kernel
theorem dX11_strangest_113 : decode cX11_strangest 113 = .ok (.goto 4, 3) := by decide +kernel
theorem dX11_strangest_116 : decode cX11_strangest 116 = .ok (.iload_n 3, 1) := by decide +kernel
theorem dX11_strangest_117 : decode cX11_strangest 117 = .ok (.istore_n 3, 1) := by decide +kernel
theorem dX11_strangest_118 : decode cX11_strangest 118 = .ok (.iinc 4 1, 3) := by decide +kernel
theorem dX11_strangest_121 : decode cX11_strangest 121 = .ok (.goto (-84), 3) := by decide +kernel
theorem dX11_strangest_124 : decode cX11_strangest 124 = .ok (.iload_n 2, 1) := by decide +kernel
theorem dX11_strangest_125 : decode cX11_strangest 125 = .ok (.ireturn, 1) := by decide +kernel
theorem dX11_behind_0 : decode cX11_behind 0 = .ok (.aload_n 0, 1) := by decide +kernel
theorem dX11_behind_1 : decode cX11_behind 1 = .ok (.iconst 0, 1) := by decide +kernel
theorem dX11_behind_2 : decode cX11_behind 2 = .ok (.putfield 174, 3) := by decide +kernel
theorem dX11_behind_5 : decode cX11_behind 5 = .ok (.aload_n 0, 1) := by decide +kernel
theorem dX11_behind_6 : decode cX11_behind 6 = .ok (.iconst 0, 1) := by decide +kernel
theorem dX11_behind_7 : decode cX11_behind 7 = .ok (.putfield 177, 3) := by decide +kernel
theorem dX11_behind_10 : decode cX11_behind 10 = .ok (.iconst 1, 1) := by decide +kernel
theorem dX11_behind_11 : decode cX11_behind 11 = .ok (.iload_n 3, 1) := by decide +kernel
theorem dX11_behind_12 : decode cX11_behind 12 = .ok (.ishl, 1) := by decide +kernel
theorem dX11_behind_13 : decode cX11_behind 13 = .ok (.iconst 1, 1) := by decide +kernel
theorem dX11_behind_14 : decode cX11_behind 14 = .ok (.isub, 1) := by decide +kernel
theorem dX11_behind_15 : decode cX11_behind 15 = .ok (.istore 4, 2) := by decide +kernel
theorem dX11_behind_17 : decode cX11_behind 17 = .ok (.iload_n 3, 1) := by decide +kernel
theorem dX11_behind_18 : decode cX11_behind 18 = .ok (.istore 5, 2) := by decide +kernel
theorem dX11_behind_20 : decode cX11_behind 20 = .ok (.iload 5, 2) := by decide +kernel
theorem dX11_behind_22 : decode cX11_behind 22 = .ok (.iload_n 2, 1) := by decide +kernel
theorem dX11_behind_23 : decode cX11_behind 23 = .ok (.if_icmp .ge 52, 3) := by decide +kernel
theorem dX11_behind_26 : decode cX11_behind 26 = .ok (.iload_n 1, 1) := by decide +kernel
theorem dX11_behind_27 : decode cX11_behind 27 = .ok (.iload_n 2, 1) := by decide +kernel
theorem dX11_behind_28 : decode cX11_behind 28 = .ok (.iload 5, 2) := by decide +kernel
theorem dX11_behind_30 : decode cX11_behind 30 = .ok (.isub, 1) := by decide +kernel
theorem dX11_behind_31 : decode cX11_behind 31 = .ok (.ishr, 1) := by decide +kernel
theorem dX11_behind_32 : decode cX11_behind 32 = .ok (.iload 4, 2) := by decide +kernel
theorem dX11_behind_34 : decode cX11_behind 34 = .ok (.iand, 1) := by decide +kernel
theorem dX11_behind_35 : decode cX11_behind 35 = .ok (.iload 4, 2) := by decide +kernel
theorem dX11_behind_37 : decode cX11_behind 37 = .ok (.if_icmp .ne 32, 3) := by decide +kernel
theorem dX11_behind_40 : decode cX11_behind 40 = .ok (.aload_n 0, 1) := by decide +kernel
theorem dX11_behind_41 : decode cX11_behind 41 = .ok (.dup, 1) := by decide +kernel
theorem dX11_behind_42 : decode cX11_behind 42 = .ok (.getfield 174, 3) := by decide +kernel
theorem dX11_behind_45 : decode cX11_behind 45 = .ok (.iconst 1, 1) := by decide +kernel
theorem dX11_behind_46 : decode cX11_behind 46 = .ok (.iadd, 1) := by decide +kernel
theorem dX11_behind_47 : decode cX11_behind 47 = .ok (.putfield 174, 3) := by decide +kernel
theorem dX11_behind_50 : decode cX11_behind 50 = .ok (.aload_n 0, 1) := by decide +kernel
theorem dX11_behind_51 : decode cX11_behind 51 = .ok (.dup, 1) := by decide +kernel
theorem dX11_behind_52 : decode cX11_behind 52 = .ok (.getfield 177, 3) := by decide +kernel
theorem dX11_behind_55 : decode cX11_behind 55 = .ok (.iload_n 1, 1) := by decide +kernel
theorem dX11_behind_56 : decode cX11_behind 56 = .ok (.iload_n 2, 1) := by decide +kernel
theorem dX11_behind_57 : decode cX11_behind 57 = .ok (.iconst 1, 1) := by decide +kernel
theorem dX11_behind_58 : decode cX11_behind 58 = .ok (.isub, 1) := by decide +kernel
theorem dX11_behind_59 : decode cX11_behind 59 = .ok (.iload 5, 2) := by decide +kernel
theorem dX11_behind_61 : decode cX11_behind 61 = .ok (.isub, 1) := by decide +kernel
theorem dX11_behind_62 : decode cX11_behind 62 = .ok (.ishr, 1) := by decide +kernel
theorem dX11_behind_63 : decode cX11_behind 63 = .ok (.iconst 1, 1) := by decide +kernel
theorem dX11_behind_64 : decode cX11_behind 64 = .ok (.iand, 1) := by decide +kernel
theorem dX11_behind_65 : decode cX11_behind 65 = .ok (.iadd, 1) := by decide +kernel
theorem dX11_behind_66 : decode cX11_behind 66 = .ok (.putfield 177, 3) := by decide +kernel
theorem dX11_behind_69 : decode cX11_behind 69 = .ok (.iinc 5 1, 3) := by decide +kernel
theorem dX11_behind_72 : decode cX11_behind 72 = .ok (.goto (-52), 3) := by decide +kernel
theorem dX11_behind_75 : decode cX11_behind 75 = .ok (.return_, 1) := by decide +kernel
theorem dX11_hot_0 : decode cX11_hot 0 = .ok (.iload_n 1, 1) := by decide +kernel
theorem dX11_hot_1 : decode cX11_hot 1 = .ok (.invokestatic 63, 3) := by decide +kernel
theorem dX11_hot_4 : decode cX11_hot 4 = .ok (.ifCond .eq 21, 3) := by decide +kernel
theorem dX11_hot_7 : decode cX11_hot 7 = .ok (.iload_n 2, 1) := by decide +kernel
theorem dX11_hot_8 : decode cX11_hot 8 = .ok (.iconst 1, 1) := by decide +kernel
theorem dX11_hot_9 : decode cX11_hot 9 = .ok (.iconst 4, 1) := by decide +kernel
theorem dX11_hot_10 : decode cX11_hot 10 = .ok (.invokestatic 59, 3) := by decide +kernel
theorem dX11_hot_13 : decode cX11_hot 13 = .ok (.ifCond .eq 12, 3) := by decide +kernel
theorem dX11_hot_16 : decode cX11_hot 16 = .ok (.iload_n 3, 1) := by decide +kernel
theorem dX11_hot_17 : decode cX11_hot 17 = .ok (.iconst 0, 1) := by decide +kernel
theorem dX11_hot_18 : decode cX11_hot 18 = .ok (.iconst 1, 1) := by decide +kernel
theorem dX11_hot_19 : decode cX11_hot 19 = .ok (.invokestatic 59, 3) := by decide +kernel
theorem dX11_hot_22 : decode cX11_hot 22 = .ok (.ifCond .ne 9, 3) := by decide +kernel
theorem dX11_hot_25 : decode cX11_hot 25 = .ok (.bipush (-2), 2) := by decide +kernel
theorem dX11_hot_27 : decode cX11_hot 27 = .ok (.invokestatic 137, 3) := by decide +kernel
theorem dX11_hot_30 : decode cX11_hot 30 = .ok (.lreturn, 1) := by decide +kernel
theorem dX11_hot_31 : decode cX11_hot 31 = .ok (.aload_n 0, 1) := by decide +kernel
theorem dX11_hot_32 : decode cX11_hot 32 = .ok (.iload_n 1, 1) := by decide +kernel
theorem dX11_hot_33 : decode cX11_hot 33 = .ok (.invokevirtual 87, 3) := by decide +kernel
theorem dX11_hot_36 : decode cX11_hot 36 = .ok (.ifCond .ne 9, 3) := by decide +kernel
theorem dX11_hot_39 : decode cX11_hot 39 = .ok (.bipush (-3), 2) := by decide +kernel
theorem dX11_hot_41 : decode cX11_hot 41 = .ok (.invokestatic 137, 3) := by decide +kernel
theorem dX11_hot_44 : decode cX11_hot 44 = .ok (.lreturn, 1) := by decide +kernel
theorem dX11_hot_45 : decode cX11_hot 45 = .ok (.aload_n 0, 1) := by decide +kernel
theorem dX11_hot_46 : decode cX11_hot 46 = .ok (.aload_n 0, 1) := by decide +kernel
theorem dX11_hot_47 : decode cX11_hot 47 = .ok (.iload_n 1, 1) := by decide +kernel
theorem dX11_hot_48 : decode cX11_hot 48 = .ok (.invokevirtual 90, 3) := by decide +kernel
theorem dX11_hot_51 : decode cX11_hot 51 = .ok (.aload_n 0, 1) := by decide +kernel
theorem dX11_hot_52 : decode cX11_hot 52 = .ok (.getfield 7, 3) := by decide +kernel
theorem dX11_hot_55 : decode cX11_hot 55 = .ok (.iload_n 1, 1) := by decide +kernel
theorem dX11_hot_56 : decode cX11_hot 56 = .ok (.iaload, 1) := by decide +kernel
theorem dX11_hot_57 : decode cX11_hot 57 = .ok (.iload_n 2, 1) := by decide +kernel
theorem dX11_hot_58 : decode cX11_hot 58 = .ok (.invokevirtual 180, 3) := by decide +kernel
theorem dX11_hot_61 : decode cX11_hot 61 = .ok (.aload_n 0, 1) := by decide +kernel
theorem dX11_hot_62 : decode cX11_hot 62 = .ok (.getfield 174, 3) := by decide +kernel
theorem dX11_hot_65 : decode cX11_hot 65 = .ok (.ifCond .ne 11, 3) := by decide +kernel
theorem dX11_hot_68 : decode cX11_hot 68 = .ok (.bipush (-3), 2) := by decide +kernel
theorem dX11_hot_70 : decode cX11_hot 70 = .ok (.invokestatic 137, 3) := by decide +kernel
theorem dX11_hot_73 : decode cX11_hot 73 = .ok (.goto 17, 3) := by decide +kernel
theorem dX11_hot_76 : decode cX11_hot 76 = .ok (.aload_n 0, 1) := by decide +kernel
theorem dX11_hot_77 : decode cX11_hot 77 = .ok (.getfield 177, 3) := by decide +kernel
theorem dX11_hot_80 : decode cX11_hot 80 = .ok (.i2l, 1) := by decide +kernel
theorem dX11_hot_81 : decode cX11_hot 81 = .ok (.aload_n 0, 1) := by decide +kernel
theorem dX11_hot_82 : decode cX11_hot 82 = .ok (.getfield 174, 3) := by decide +kernel
theorem dX11_hot_85 : decode cX11_hot 85 = .ok (.i2l, 1) := by decide +kernel
theorem dX11_hot_86 : decode cX11_hot 86 = .ok (.iload_n 3, 1) := by decide +kernel
theorem dX11_hot_87 : decode cX11_hot 87 = .ok (.invokestatic 147, 3) := by decide +kernel
theorem dX11_hot_90 : decode cX11_hot 90 = .ok (.lreturn, 1) := by decide +kernel
theorem dX11_already_0 : decode cX11_already 0 = .ok (.iload_n 1, 1) := by decide +kernel
theorem dX11_already_1 : decode cX11_already 1 = .ok (.invokestatic 63, 3) := by decide +kernel
theorem dX11_already_4 : decode cX11_already 4 = .ok (.ifCond .eq 21, 3) := by decide +kernel
theorem dX11_already_7 : decode cX11_already 7 = .ok (.iload_n 2, 1) := by decide +kernel
theorem dX11_already_8 : decode cX11_already 8 = .ok (.iconst 1, 1) := by decide +kernel
theorem dX11_already_9 : decode cX11_already 9 = .ok (.iconst 4, 1) := by decide +kernel
theorem dX11_already_10 : decode cX11_already 10 = .ok (.invokestatic 59, 3) := by decide +kernel
theorem dX11_already_13 : decode cX11_already 13 = .ok (.ifCond .eq 12, 3) := by decide +kernel
theorem dX11_already_16 : decode cX11_already 16 = .ok (.iload_n 3, 1) := by decide +kernel
theorem dX11_already_17 : decode cX11_already 17 = .ok (.iconst 0, 1) := by decide +kernel
theorem dX11_already_18 : decode cX11_already 18 = .ok (.iconst 1, 1) := by decide +kernel
theorem dX11_already_19 : decode cX11_already 19 = .ok (.invokestatic 59, 3) := by decide +kernel
theorem dX11_already_22 : decode cX11_already 22 = .ok (.ifCond .ne 9, 3) := by decide +kernel
theorem dX11_already_25 : decode cX11_already 25 = .ok (.bipush (-2), 2) := by decide +kernel
theorem dX11_already_27 : decode cX11_already 27 = .ok (.invokestatic 137, 3) := by decide +kernel
theorem dX11_already_30 : decode cX11_already 30 = .ok (.lreturn, 1) := by decide +kernel
theorem dX11_already_31 : decode cX11_already 31 = .ok (.aload_n 0, 1) := by decide +kernel
theorem dX11_already_32 : decode cX11_already 32 = .ok (.iload_n 1, 1) := by decide +kernel
theorem dX11_already_33 : decode cX11_already 33 = .ok (.invokevirtual 87, 3) := by decide +kernel
theorem dX11_already_36 : decode cX11_already 36 = .ok (.ifCond .ne 9, 3) := by decide +kernel
theorem dX11_already_39 : decode cX11_already 39 = .ok (.bipush (-3), 2) := by decide +kernel
theorem dX11_already_41 : decode cX11_already 41 = .ok (.invokestatic 137, 3) := by decide +kernel
theorem dX11_already_44 : decode cX11_already 44 = .ok (.lreturn, 1) := by decide +kernel
theorem dX11_already_45 : decode cX11_already 45 = .ok (.aload_n 0, 1) := by decide +kernel
theorem dX11_already_46 : decode cX11_already 46 = .ok (.iload_n 1, 1) := by decide +kernel
theorem dX11_already_47 : decode cX11_already 47 = .ok (.invokevirtual 90, 3) := by decide +kernel
theorem dX11_already_50 : decode cX11_already 50 = .ok (.invokestatic 81, 3) := by decide +kernel
theorem dX11_already_53 : decode cX11_already 53 = .ok (.istore 4, 2) := by decide +kernel
theorem dX11_already_55 : decode cX11_already 55 = .ok (.lconst 0, 1) := by decide +kernel
theorem dX11_already_56 : decode cX11_already 56 = .ok (.lstore 5, 2) := by decide +kernel
theorem dX11_already_58 : decode cX11_already 58 = .ok (.lconst 0, 1) := by decide +kernel
theorem dX11_already_59 : decode cX11_already 59 = .ok (.lstore 7, 2) := by decide +kernel
theorem dX11_already_61 : decode cX11_already 61 = .ok (.iconst 0, 1) := by decide +kernel
theorem dX11_already_62 : decode cX11_already 62 = .ok (.istore 9, 2) := by decide +kernel
theorem dX11_already_64 : decode cX11_already 64 = .ok (.iload 9, 2) := by decide +kernel
theorem dX11_already_66 : decode cX11_already 66 = .ok (.iconst 1, 1) := by decide +kernel
theorem dX11_already_67 : decode cX11_already 67 = .ok (.aload_n 0, 1) := by decide +kernel
theorem dX11_already_68 : decode cX11_already 68 = .ok (.getfield 7, 3) := by decide +kernel
theorem dX11_already_71 : decode cX11_already 71 = .ok (.iload_n 1, 1) := by decide +kernel
theorem dX11_already_72 : decode cX11_already 72 = .ok (.iaload, 1) := by decide +kernel
theorem dX11_already_73 : decode cX11_already 73 = .ok (.ishl, 1) := by decide +kernel
theorem dX11_already_74 : decode cX11_already 74 = .ok (.if_icmp .ge 80, 3) := by decide +kernel
theorem dX11_already_77 : decode cX11_already 77 = .ok (.iload 9, 2) := by decide +kernel
theorem dX11_already_79 : decode cX11_already 79 = .ok (.invokestatic 81, 3) := by decide +kernel
theorem dX11_already_82 : decode cX11_already 82 = .ok (.iload 4, 2) := by decide +kernel
theorem dX11_already_84 : decode cX11_already 84 = .ok (.if_icmp .ne 64, 3) := by decide +kernel
theorem dX11_already_87 : decode cX11_already 87 = .ok (.aload_n 0, 1) := by decide +kernel
theorem dX11_already_88 : decode cX11_already 88 = .ok (.iload 9, 2) := by decide +kernel
theorem dX11_already_90 : decode cX11_already 90 = .ok (.aload_n 0, 1) := by decide +kernel
theorem dX11_already_91 : decode cX11_already 91 = .ok (.getfield 7, 3) := by decide +kernel
theorem dX11_already_94 : decode cX11_already 94 = .ok (.iload_n 1, 1) := by decide +kernel
theorem dX11_already_95 : decode cX11_already 95 = .ok (.iaload, 1) := by decide +kernel
theorem dX11_already_96 : decode cX11_already 96 = .ok (.iload_n 2, 1) := by decide +kernel
theorem dX11_already_97 : decode cX11_already 97 = .ok (.invokevirtual 180, 3) := by decide +kernel
theorem dX11_already_100 : decode cX11_already 100 = .ok (.lload 5, 2) := by decide +kernel
theorem dX11_already_102 : decode cX11_already 102 = .ok (.aload_n 0, 1) := by decide +kernel
theorem dX11_already_103 : decode cX11_already 103 = .ok (.getfield 174, 3) := by decide +kernel
theorem dX11_already_106 : decode cX11_already 106 = .ok (.ifCond .ne 7, 3) := by decide +kernel
theorem dX11_already_109 : decode cX11_already 109 = .ok (.lconst 0, 1) := by decide +kernel
theorem dX11_already_110 : decode cX11_already 110 = .ok (.goto 18, 3) := by decide +kernel
theorem dX11_already_113 : decode cX11_already 113 = .ok (.aload_n 0, 1) := by decide +kernel
theorem dX11_already_114 : decode cX11_already 114 = .ok (.getfield 177, 3) := by decide +kernel
theorem dX11_already_117 : decode cX11_already 117 = .ok (.i2l, 1) := by decide +kernel
theorem dX11_already_118 : decode cX11_already 118 = .ok (.ldc2_w 184, 3) := by decide +kernel
theorem dX11_already_121 : decode cX11_already 121 = .ok (.aload_n 0, 1) := by decide +kernel
theorem dX11_already_122 : decode cX11_already 122 = .ok (.getfield 174, 3) := by decide +kernel
theorem dX11_already_125 : decode cX11_already 125 = .ok (.i2l, 1) := by decide +kernel
theorem dX11_already_126 : decode cX11_already 126 = .ok (.ldiv, 1) := by decide +kernel
theorem dX11_already_127 : decode cX11_already 127 = .ok (.lmul, 1) := by decide +kernel
theorem dX11_already_128 : decode cX11_already 128 = .ok (.ladd, 1) := by decide +kernel
theorem dX11_already_129 : decode cX11_already 129 = .ok (.lstore 5, 2) := by decide +kernel
theorem dX11_already_131 : decode cX11_already 131 = .ok (.lload 7, 2) := by decide +kernel
theorem dX11_already_133 : decode cX11_already 133 = .ok (.aload_n 0, 1) := by decide +kernel
theorem dX11_already_134 : decode cX11_already 134 = .ok (.getfield 174, 3) := by decide +kernel
theorem dX11_already_137 : decode cX11_already 137 = .ok (.ifCond .ne 7, 3) := by decide +kernel
theorem dX11_already_140 : decode cX11_already 140 = .ok (.lconst 0, 1) := by decide +kernel
theorem dX11_already_141 : decode cX11_already 141 = .ok (.goto 4, 3) := by decide +kernel
theorem dX11_already_144 : decode cX11_already 144 = .ok (.lconst 1, 1) := by decide +kernel
theorem dX11_already_145 : decode cX11_already 145 = .ok (.ladd, 1) := by decide +kernel
theorem dX11_already_146 : decode cX11_already 146 = .ok (.lstore 7, 2) := by decide +kernel
theorem dX11_already_148 : decode cX11_already 148 = .ok (.iinc 9 1, 3) := by decide +kernel
theorem dX11_already_151 : decode cX11_already 151 = .ok (.goto (-87), 3) := by decide +kernel
theorem dX11_already_154 : decode cX11_already 154 = .ok (.lload 7, 2) := by decide +kernel
theorem dX11_already_156 : decode cX11_already 156 = .ok (.lconst 0, 1) := by decide +kernel
theorem dX11_already_157 : decode cX11_already 157 = .ok (.lcmp, 1) := by decide +kernel
theorem dX11_already_158 : decode cX11_already 158 = .ok (.ifCond .ne 11, 3) := by decide +kernel
theorem dX11_already_161 : decode cX11_already 161 = .ok (.bipush (-3), 2) := by decide +kernel
theorem dX11_already_163 : decode cX11_already 163 = .ok (.invokestatic 137, 3) := by decide +kernel
theorem dX11_already_166 : decode cX11_already 166 = .ok (.goto 15, 3) := by decide +kernel
theorem dX11_already_169 : decode cX11_already 169 = .ok (.lload 5, 2) := by decide +kernel
theorem dX11_already_171 : decode cX11_already 171 = .ok (.ldc2_w 184, 3) := by decide +kernel
theorem dX11_already_174 : decode cX11_already 174 = .ok (.lload 7, 2) := by decide +kernel
theorem dX11_already_176 : decode cX11_already 176 = .ok (.lmul, 1) := by decide +kernel
theorem dX11_already_177 : decode cX11_already 177 = .ok (.iload_n 3, 1) := by decide +kernel
theorem dX11_already_178 : decode cX11_already 178 = .ok (.invokestatic 147, 3) := by decide +kernel
theorem dX11_already_181 : decode cX11_already 181 = .ok (.lreturn, 1) := by decide +kernel
theorem dX11_oddsOf_0 : decode cX11_oddsOf 0 = .ok (.iload_n 1, 1) := by decide +kernel
theorem dX11_oddsOf_1 : decode cX11_oddsOf 1 = .ok (.invokestatic 78, 3) := by decide +kernel
theorem dX11_oddsOf_4 : decode cX11_oddsOf 4 = .ok (.istore_n 3, 1) := by decide +kernel
theorem dX11_oddsOf_5 : decode cX11_oddsOf 5 = .ok (.lconst 1, 1) := by decide +kernel
theorem dX11_oddsOf_6 : decode cX11_oddsOf 6 = .ok (.lstore 4, 2) := by decide +kernel
theorem dX11_oddsOf_8 : decode cX11_oddsOf 8 = .ok (.iconst 0, 1) := by decide +kernel
theorem dX11_oddsOf_9 : decode cX11_oddsOf 9 = .ok (.istore 6, 2) := by decide +kernel
theorem dX11_oddsOf_11 : decode cX11_oddsOf 11 = .ok (.iload 6, 2) := by decide +kernel
theorem dX11_oddsOf_13 : decode cX11_oddsOf 13 = .ok (.iload_n 2, 1) := by decide +kernel
theorem dX11_oddsOf_14 : decode cX11_oddsOf 14 = .ok (.if_icmp .ge 44, 3) := by decide +kernel
theorem dX11_oddsOf_17 : decode cX11_oddsOf 17 = .ok (.lload 4, 2) := by decide +kernel
theorem dX11_oddsOf_19 : decode cX11_oddsOf 19 = .ok (.iload_n 1, 1) := by decide +kernel
theorem dX11_oddsOf_20 : decode cX11_oddsOf 20 = .ok (.iload_n 3, 1) := by decide +kernel
theorem dX11_oddsOf_21 : decode cX11_oddsOf 21 = .ok (.iconst 1, 1) := by decide +kernel
theorem dX11_oddsOf_22 : decode cX11_oddsOf 22 = .ok (.isub, 1) := by decide +kernel
theorem dX11_oddsOf_23 : decode cX11_oddsOf 23 = .ok (.iload 6, 2) := by decide +kernel
theorem dX11_oddsOf_25 : decode cX11_oddsOf 25 = .ok (.isub, 1) := by decide +kernel
theorem dX11_oddsOf_26 : decode cX11_oddsOf 26 = .ok (.ishr, 1) := by decide +kernel
theorem dX11_oddsOf_27 : decode cX11_oddsOf 27 = .ok (.iconst 1, 1) := by decide +kernel
theorem dX11_oddsOf_28 : decode cX11_oddsOf 28 = .ok (.iand, 1) := by decide +kernel
theorem dX11_oddsOf_29 : decode cX11_oddsOf 29 = .ok (.iconst 1, 1) := by decide +kernel
theorem dX11_oddsOf_30 : decode cX11_oddsOf 30 = .ok (.if_icmp .ne 11, 3) := by decide +kernel
theorem dX11_oddsOf_33 : decode cX11_oddsOf 33 = .ok (.aload_n 0, 1) := by decide +kernel
theorem dX11_oddsOf_34 : decode cX11_oddsOf 34 = .ok (.getfield 16, 3) := by decide +kernel
theorem dX11_oddsOf_37 : decode cX11_oddsOf 37 = .ok (.i2l, 1) := by decide +kernel
theorem dX11_oddsOf_38 : decode cX11_oddsOf 38 = .ok (.goto 11, 3) := by decide +kernel
theorem dX11_oddsOf_41 : decode cX11_oddsOf 41 = .ok (.bipush 16, 2) := by decide +kernel
theorem dX11_oddsOf_43 : decode cX11_oddsOf 43 = .ok (.aload_n 0, 1) := by decide +kernel
theorem dX11_oddsOf_44 : decode cX11_oddsOf 44 = .ok (.getfield 16, 3) := by decide +kernel
theorem dX11_oddsOf_47 : decode cX11_oddsOf 47 = .ok (.isub, 1) := by decide +kernel
theorem dX11_oddsOf_48 : decode cX11_oddsOf 48 = .ok (.i2l, 1) := by decide +kernel
theorem dX11_oddsOf_49 : decode cX11_oddsOf 49 = .ok (.lmul, 1) := by decide +kernel
theorem dX11_oddsOf_50 : decode cX11_oddsOf 50 = .ok (.lstore 4, 2) := by decide +kernel
theorem dX11_oddsOf_52 : decode cX11_oddsOf 52 = .ok (.iinc 6 1, 3) := by decide +kernel
theorem dX11_oddsOf_55 : decode cX11_oddsOf 55 = .ok (.goto (-44), 3) := by decide +kernel
theorem dX11_oddsOf_58 : decode cX11_oddsOf 58 = .ok (.lload 4, 2) := by decide +kernel
theorem dX11_oddsOf_60 : decode cX11_oddsOf 60 = .ok (.lreturn, 1) := by decide +kernel
theorem dX11_overlaps_0 : decode cX11_overlaps 0 = .ok (.iconst 1, 1) := by decide +kernel
theorem dX11_overlaps_1 : decode cX11_overlaps 1 = .ok (.iload_n 2, 1) := by decide +kernel
theorem dX11_overlaps_2 : decode cX11_overlaps 2 = .ok (.ishl, 1) := by decide +kernel
theorem dX11_overlaps_3 : decode cX11_overlaps 3 = .ok (.iconst 1, 1) := by decide +kernel
theorem dX11_overlaps_4 : decode cX11_overlaps 4 = .ok (.isub, 1) := by decide +kernel
theorem dX11_overlaps_5 : decode cX11_overlaps 5 = .ok (.istore_n 3, 1) := by decide +kernel
theorem dX11_overlaps_6 : decode cX11_overlaps 6 = .ok (.iload_n 2, 1) := by decide +kernel
theorem dX11_overlaps_7 : decode cX11_overlaps 7 = .ok (.iload_n 0, 1) := by decide +kernel
theorem dX11_overlaps_8 : decode cX11_overlaps 8 = .ok (.invokestatic 78, 3) := by decide +kernel
theorem dX11_overlaps_11 : decode cX11_overlaps 11 = .ok (.if_icmp .gt 31, 3) := by decide +kernel
theorem dX11_overlaps_14 : decode cX11_overlaps 14 = .ok (.iload_n 2, 1) := by decide +kernel
theorem dX11_overlaps_15 : decode cX11_overlaps 15 = .ok (.iload_n 1, 1) := by decide +kernel
theorem dX11_overlaps_16 : decode cX11_overlaps 16 = .ok (.invokestatic 78, 3) := by decide +kernel
theorem dX11_overlaps_19 : decode cX11_overlaps 19 = .ok (.if_icmp .gt 23, 3) := by decide +kernel
theorem dX11_overlaps_22 : decode cX11_overlaps 22 = .ok (.iload_n 0, 1) := by decide +kernel
theorem dX11_overlaps_23 : decode cX11_overlaps 23 = .ok (.iload_n 3, 1) := by decide +kernel
theorem dX11_overlaps_24 : decode cX11_overlaps 24 = .ok (.iand, 1) := by decide +kernel
theorem dX11_overlaps_25 : decode cX11_overlaps 25 = .ok (.iload_n 1, 1) := by decide +kernel
theorem dX11_overlaps_26 : decode cX11_overlaps 26 = .ok (.iload_n 1, 1) := by decide +kernel
theorem dX11_overlaps_27 : decode cX11_overlaps 27 = .ok (.invokestatic 78, 3) := by decide +kernel
theorem dX11_overlaps_30 : decode cX11_overlaps 30 = .ok (.iload_n 2, 1) := by decide +kernel
theorem dX11_overlaps_31 : decode cX11_overlaps 31 = .ok (.isub, 1) := by decide +kernel
theorem dX11_overlaps_32 : decode cX11_overlaps 32 = .ok (.ishr, 1) := by decide +kernel
theorem dX11_overlaps_33 : decode cX11_overlaps 33 = .ok (.iload_n 3, 1) := by decide +kernel
theorem dX11_overlaps_34 : decode cX11_overlaps 34 = .ok (.iand, 1) := by decide +kernel
theorem dX11_overlaps_35 : decode cX11_overlaps 35 = .ok (.if_icmp .ne 7, 3) := by decide +kernel
theorem dX11_overlaps_38 : decode cX11_overlaps 38 = .ok (.iconst 1, 1) := by decide +kernel
theorem dX11_overlaps_39 : decode cX11_overlaps 39 = .ok (.goto 4, 3) := by decide +kernel
theorem dX11_overlaps_42 : decode cX11_overlaps 42 = .ok (.iconst 0, 1) := by decide +kernel
theorem dX11_overlaps_43 : decode cX11_overlaps 43 = .ok (.ireturn, 1) := by decide +kernel
theorem dX11_lead_0 : decode cX11_lead 0 = .ok (.iload_n 2, 1) := by decide +kernel
theorem dX11_lead_1 : decode cX11_lead 1 = .ok (.invokestatic 78, 3) := by decide +kernel
theorem dX11_lead_4 : decode cX11_lead 4 = .ok (.istore_n 3, 1) := by decide +kernel
theorem dX11_lead_5 : decode cX11_lead 5 = .ok (.lconst 0, 1) := by decide +kernel
theorem dX11_lead_6 : decode cX11_lead 6 = .ok (.lstore 4, 2) := by decide +kernel
theorem dX11_lead_8 : decode cX11_lead 8 = .ok (.iconst 1, 1) := by decide +kernel
theorem dX11_lead_9 : decode cX11_lead 9 = .ok (.istore 6, 2) := by decide +kernel
theorem dX11_lead_11 : decode cX11_lead 11 = .ok (.iload 6, 2) := by decide +kernel
theorem dX11_lead_13 : decode cX11_lead 13 = .ok (.iload_n 3, 1) := by decide +kernel
theorem dX11_lead_14 : decode cX11_lead 14 = .ok (.if_icmp .gt 51, 3) := by decide +kernel
theorem dX11_lead_17 : decode cX11_lead 17 = .ok (.lload 4, 2) := by decide +kernel
theorem dX11_lead_19 : decode cX11_lead 19 = .ok (.iload_n 1, 1) := by decide +kernel
theorem dX11_lead_20 : decode cX11_lead 20 = .ok (.iload_n 2, 1) := by decide +kernel
theorem dX11_lead_21 : decode cX11_lead 21 = .ok (.iload 6, 2) := by decide +kernel
theorem dX11_lead_23 : decode cX11_lead 23 = .ok (.invokestatic 186, 3) := by decide +kernel
theorem dX11_lead_26 : decode cX11_lead 26 = .ok (.ifCond .eq 29, 3) := by decide +kernel
theorem dX11_lead_29 : decode cX11_lead 29 = .ok (.ldc2_w 145, 3) := by decide +kernel
theorem dX11_lead_32 : decode cX11_lead 32 = .ok (.iload 6, 2) := by decide +kernel
theorem dX11_lead_34 : decode cX11_lead 34 = .ok (.invokestatic 141, 3) := by decide +kernel
theorem dX11_lead_37 : decode cX11_lead 37 = .ok (.aload_n 0, 1) := by decide +kernel
theorem dX11_lead_38 : decode cX11_lead 38 = .ok (.iload_n 2, 1) := by decide +kernel
theorem dX11_lead_39 : decode cX11_lead 39 = .ok (.iload_n 3, 1) := by decide +kernel
theorem dX11_lead_40 : decode cX11_lead 40 = .ok (.invokevirtual 189, 3) := by decide +kernel
theorem dX11_lead_43 : decode cX11_lead 43 = .ok (.aload_n 0, 1) := by decide +kernel
theorem dX11_lead_44 : decode cX11_lead 44 = .ok (.iload_n 2, 1) := by decide +kernel
theorem dX11_lead_45 : decode cX11_lead 45 = .ok (.iload 6, 2) := by decide +kernel
theorem dX11_lead_47 : decode cX11_lead 47 = .ok (.invokevirtual 189, 3) := by decide +kernel
theorem dX11_lead_50 : decode cX11_lead 50 = .ok (.ldiv, 1) := by decide +kernel
theorem dX11_lead_51 : decode cX11_lead 51 = .ok (.lmul, 1) := by decide +kernel
theorem dX11_lead_52 : decode cX11_lead 52 = .ok (.goto 4, 3) := by decide +kernel
theorem dX11_lead_55 : decode cX11_lead 55 = .ok (.lconst 0, 1) := by decide +kernel
theorem dX11_lead_56 : decode cX11_lead 56 = .ok (.ladd, 1) := by decide +kernel
theorem dX11_lead_57 : decode cX11_lead 57 = .ok (.lstore 4, 2) := by decide +kernel
theorem dX11_lead_59 : decode cX11_lead 59 = .ok (.iinc 6 1, 3) := by decide +kernel
theorem dX11_lead_62 : decode cX11_lead 62 = .ok (.goto (-51), 3) := by decide +kernel
theorem dX11_lead_65 : decode cX11_lead 65 = .ok (.lload 4, 2) := by decide +kernel
theorem dX11_lead_67 : decode cX11_lead 67 = .ok (.lreturn, 1) := by decide +kernel
theorem dX11_waitsNow_0 : decode cX11_waitsNow 0 = .ok (.aload_n 0, 1) := by decide +kernel
theorem dX11_waitsNow_1 : decode cX11_waitsNow 1 = .ok (.aload_n 0, 1) := by decide +kernel
theorem dX11_waitsNow_2 : decode cX11_waitsNow 2 = .ok (.getfield 20, 3) := by decide +kernel
theorem dX11_waitsNow_5 : decode cX11_waitsNow 5 = .ok (.aload_n 0, 1) := by decide +kernel
theorem dX11_waitsNow_6 : decode cX11_waitsNow 6 = .ok (.getfield 20, 3) := by decide +kernel
theorem dX11_waitsNow_9 : decode cX11_waitsNow 9 = .ok (.invokevirtual 192, 3) := by decide +kernel
theorem dX11_waitsNow_12 : decode cX11_waitsNow 12 = .ok (.aload_n 0, 1) := by decide +kernel
theorem dX11_waitsNow_13 : decode cX11_waitsNow 13 = .ok (.aload_n 0, 1) := by decide +kernel
theorem dX11_waitsNow_14 : decode cX11_waitsNow 14 = .ok (.getfield 20, 3) := by decide +kernel
theorem dX11_waitsNow_17 : decode cX11_waitsNow 17 = .ok (.aload_n 0, 1) := by decide +kernel
theorem dX11_waitsNow_18 : decode cX11_waitsNow 18 = .ok (.getfield 20, 3) := by decide +kernel
theorem dX11_waitsNow_21 : decode cX11_waitsNow 21 = .ok (.invokestatic 78, 3) := by decide +kernel
theorem dX11_waitsNow_24 : decode cX11_waitsNow 24 = .ok (.invokevirtual 189, 3) := by decide +kernel
theorem dX11_waitsNow_27 : decode cX11_waitsNow 27 = .ok (.iload_n 1, 1) := by decide +kernel
theorem dX11_waitsNow_28 : decode cX11_waitsNow 28 = .ok (.invokestatic 147, 3) := by decide +kernel
theorem dX11_waitsNow_31 : decode cX11_waitsNow 31 = .ok (.lreturn, 1) := by decide +kernel
theorem dX11_waits_0 : decode cX11_waits 0 = .ok (.iload_n 1, 1) := by decide +kernel
theorem dX11_waits_1 : decode cX11_waits 1 = .ok (.iconst 0, 1) := by decide +kernel
theorem dX11_waits_2 : decode cX11_waits 2 = .ok (.iconst 1, 1) := by decide +kernel
theorem dX11_waits_3 : decode cX11_waits 3 = .ok (.invokestatic 59, 3) := by decide +kernel
theorem dX11_waits_6 : decode cX11_waits 6 = .ok (.ifCond .eq 11, 3) := by decide +kernel
theorem dX11_waits_9 : decode cX11_waits 9 = .ok (.aload_n 0, 1) := by decide +kernel
theorem dX11_waits_10 : decode cX11_waits 10 = .ok (.iload_n 1, 1) := by decide +kernel
theorem dX11_waits_11 : decode cX11_waits 11 = .ok (.invokevirtual 195, 3) := by decide +kernel
theorem dX11_waits_14 : decode cX11_waits 14 = .ok (.goto 8, 3) := by decide +kernel
theorem dX11_waits_17 : decode cX11_waits 17 = .ok (.bipush (-2), 2) := by decide +kernel
theorem dX11_waits_19 : decode cX11_waits 19 = .ok (.invokestatic 137, 3) := by decide +kernel
theorem dX11_waits_22 : decode cX11_waits 22 = .ok (.lreturn, 1) := by decide +kernel
theorem dX11_stands_0 : decode cX11_stands 0 = .ok (.iload_n 0, 1) := by decide +kernel
theorem dX11_stands_1 : decode cX11_stands 1 = .ok (.invokestatic 78, 3) := by decide +kernel
theorem dX11_stands_4 : decode cX11_stands 4 = .ok (.istore_n 2, 1) := by decide +kernel
theorem dX11_stands_5 : decode cX11_stands 5 = .ok (.iload_n 1, 1) := by decide +kernel
theorem dX11_stands_6 : decode cX11_stands 6 = .ok (.invokestatic 78, 3) := by decide +kernel
theorem dX11_stands_9 : decode cX11_stands 9 = .ok (.istore_n 3, 1) := by decide +kernel
theorem dX11_stands_10 : decode cX11_stands 10 = .ok (.iconst 0, 1) := by decide +kernel
theorem dX11_stands_11 : decode cX11_stands 11 = .ok (.istore 4, 2) := by decide +kernel
theorem dX11_stands_13 : decode cX11_stands 13 = .ok (.iload 4, 2) := by decide +kernel
theorem dX11_stands_15 : decode cX11_stands 15 = .ok (.iload_n 2, 1) := by decide +kernel
theorem dX11_stands_16 : decode cX11_stands 16 = .ok (.iadd, 1) := by decide +kernel
theorem dX11_stands_17 : decode cX11_stands 17 = .ok (.iload_n 3, 1) := by decide +kernel
theorem dX11_stands_18 : decode cX11_stands 18 = .ok (.if_icmp .gt 35, 3) := by decide +kernel
theorem dX11_stands_21 : decode cX11_stands 21 = .ok (.iload_n 1, 1) := by decide +kernel
theorem dX11_stands_22 : decode cX11_stands 22 = .ok (.iload_n 3, 1) := by decide +kernel
theorem dX11_stands_23 : decode cX11_stands 23 = .ok (.iload_n 2, 1) := by decide +kernel
theorem dX11_stands_24 : decode cX11_stands 24 = .ok (.isub, 1) := by decide +kernel
theorem dX11_stands_25 : decode cX11_stands 25 = .ok (.iload 4, 2) := by decide +kernel
theorem dX11_stands_27 : decode cX11_stands 27 = .ok (.isub, 1) := by decide +kernel
theorem dX11_stands_28 : decode cX11_stands 28 = .ok (.ishr, 1) := by decide +kernel
theorem dX11_stands_29 : decode cX11_stands 29 = .ok (.iconst 1, 1) := by decide +kernel
theorem dX11_stands_30 : decode cX11_stands 30 = .ok (.iload_n 2, 1) := by decide +kernel
theorem dX11_stands_31 : decode cX11_stands 31 = .ok (.ishl, 1) := by decide +kernel
theorem dX11_stands_32 : decode cX11_stands 32 = .ok (.iconst 1, 1) := by decide +kernel
theorem dX11_stands_33 : decode cX11_stands 33 = .ok (.isub, 1) := by decide +kernel
theorem dX11_stands_34 : decode cX11_stands 34 = .ok (.iand, 1) := by decide +kernel
theorem dX11_stands_35 : decode cX11_stands 35 = .ok (.iload_n 0, 1) := by decide +kernel
theorem dX11_stands_36 : decode cX11_stands 36 = .ok (.iconst 1, 1) := by decide +kernel
theorem dX11_stands_37 : decode cX11_stands 37 = .ok (.iload_n 2, 1) := by decide +kernel
theorem dX11_stands_38 : decode cX11_stands 38 = .ok (.ishl, 1) := by decide +kernel
theorem dX11_stands_39 : decode cX11_stands 39 = .ok (.iconst 1, 1) := by decide +kernel
end
section
theorem dX11_stands_40 : decode cX11_stands 40 = .ok (.isub, 1) := by decide +kernel
theorem dX11_stands_41 : decode cX11_stands 41 = .ok (.iand, 1) := by decide +kernel
theorem dX11_stands_42 : decode cX11_stands 42 = .ok (.if_icmp .ne 5, 3) := by decide +kernel
theorem dX11_stands_45 : decode cX11_stands 45 = .ok (.iconst 1, 1) := by decide +kernel
theorem dX11_stands_46 : decode cX11_stands 46 = .ok (.ireturn, 1) := by decide +kernel
theorem dX11_stands_47 : decode cX11_stands 47 = .ok (.iinc 4 1, 3) := by decide +kernel
theorem dX11_stands_50 : decode cX11_stands 50 = .ok (.goto (-37), 3) := by decide +kernel
theorem dX11_stands_53 : decode cX11_stands 53 = .ok (.iconst 0, 1) := by decide +kernel
theorem dX11_stands_54 : decode cX11_stands 54 = .ok (.ireturn, 1) := by decide +kernel
theorem dX11_first_0 : decode cX11_first 0 = .ok (.iload_n 1, 1) := by decide +kernel
theorem dX11_first_1 : decode cX11_first 1 = .ok (.iconst 2, 1) := by decide +kernel
theorem dX11_first_2 : decode cX11_first 2 = .ok (.bipush 31, 2) := by decide +kernel
theorem dX11_first_4 : decode cX11_first 4 = .ok (.invokestatic 59, 3) := by decide +kernel
theorem dX11_first_7 : decode cX11_first 7 = .ok (.ifCond .eq 22, 3) := by decide +kernel
theorem dX11_first_10 : decode cX11_first 10 = .ok (.iload_n 2, 1) := by decide +kernel
theorem dX11_first_11 : decode cX11_first 11 = .ok (.iconst 2, 1) := by decide +kernel
theorem dX11_first_12 : decode cX11_first 12 = .ok (.bipush 31, 2) := by decide +kernel
theorem dX11_first_14 : decode cX11_first 14 = .ok (.invokestatic 59, 3) := by decide +kernel
theorem dX11_first_17 : decode cX11_first 17 = .ok (.ifCond .eq 12, 3) := by decide +kernel
theorem dX11_first_20 : decode cX11_first 20 = .ok (.iload_n 3, 1) := by decide +kernel
theorem dX11_first_21 : decode cX11_first 21 = .ok (.iconst 0, 1) := by decide +kernel
theorem dX11_first_22 : decode cX11_first 22 = .ok (.iconst 1, 1) := by decide +kernel
theorem dX11_first_23 : decode cX11_first 23 = .ok (.invokestatic 59, 3) := by decide +kernel
theorem dX11_first_26 : decode cX11_first 26 = .ok (.ifCond .ne 9, 3) := by decide +kernel
theorem dX11_first_29 : decode cX11_first 29 = .ok (.bipush (-2), 2) := by decide +kernel
theorem dX11_first_31 : decode cX11_first 31 = .ok (.invokestatic 137, 3) := by decide +kernel
theorem dX11_first_34 : decode cX11_first 34 = .ok (.lreturn, 1) := by decide +kernel
theorem dX11_first_35 : decode cX11_first 35 = .ok (.iload_n 1, 1) := by decide +kernel
theorem dX11_first_36 : decode cX11_first 36 = .ok (.iload_n 2, 1) := by decide +kernel
theorem dX11_first_37 : decode cX11_first 37 = .ok (.invokestatic 198, 3) := by decide +kernel
theorem dX11_first_40 : decode cX11_first 40 = .ok (.ifCond .ne 11, 3) := by decide +kernel
theorem dX11_first_43 : decode cX11_first 43 = .ok (.iload_n 2, 1) := by decide +kernel
theorem dX11_first_44 : decode cX11_first 44 = .ok (.iload_n 1, 1) := by decide +kernel
theorem dX11_first_45 : decode cX11_first 45 = .ok (.invokestatic 198, 3) := by decide +kernel
theorem dX11_first_48 : decode cX11_first 48 = .ok (.ifCond .eq 9, 3) := by decide +kernel
theorem dX11_first_51 : decode cX11_first 51 = .ok (.bipush (-3), 2) := by decide +kernel
theorem dX11_first_53 : decode cX11_first 53 = .ok (.invokestatic 137, 3) := by decide +kernel
theorem dX11_first_56 : decode cX11_first 56 = .ok (.lreturn, 1) := by decide +kernel
theorem dX11_first_57 : decode cX11_first 57 = .ok (.aload_n 0, 1) := by decide +kernel
theorem dX11_first_58 : decode cX11_first 58 = .ok (.iload_n 1, 1) := by decide +kernel
theorem dX11_first_59 : decode cX11_first 59 = .ok (.iload_n 1, 1) := by decide +kernel
theorem dX11_first_60 : decode cX11_first 60 = .ok (.invokestatic 78, 3) := by decide +kernel
theorem dX11_first_63 : decode cX11_first 63 = .ok (.invokevirtual 189, 3) := by decide +kernel
theorem dX11_first_66 : decode cX11_first 66 = .ok (.lstore 4, 2) := by decide +kernel
theorem dX11_first_68 : decode cX11_first 68 = .ok (.aload_n 0, 1) := by decide +kernel
theorem dX11_first_69 : decode cX11_first 69 = .ok (.iload_n 2, 1) := by decide +kernel
theorem dX11_first_70 : decode cX11_first 70 = .ok (.iload_n 2, 1) := by decide +kernel
theorem dX11_first_71 : decode cX11_first 71 = .ok (.invokestatic 78, 3) := by decide +kernel
theorem dX11_first_74 : decode cX11_first 74 = .ok (.invokevirtual 189, 3) := by decide +kernel
theorem dX11_first_77 : decode cX11_first 77 = .ok (.lstore 6, 2) := by decide +kernel
theorem dX11_first_79 : decode cX11_first 79 = .ok (.aload_n 0, 1) := by decide +kernel
theorem dX11_first_80 : decode cX11_first 80 = .ok (.iload_n 2, 1) := by decide +kernel
theorem dX11_first_81 : decode cX11_first 81 = .ok (.iload_n 2, 1) := by decide +kernel
theorem dX11_first_82 : decode cX11_first 82 = .ok (.invokevirtual 192, 3) := by decide +kernel
theorem dX11_first_85 : decode cX11_first 85 = .ok (.lload 4, 2) := by decide +kernel
theorem dX11_first_87 : decode cX11_first 87 = .ok (.lmul, 1) := by decide +kernel
theorem dX11_first_88 : decode cX11_first 88 = .ok (.aload_n 0, 1) := by decide +kernel
theorem dX11_first_89 : decode cX11_first 89 = .ok (.iload_n 2, 1) := by decide +kernel
theorem dX11_first_90 : decode cX11_first 90 = .ok (.iload_n 1, 1) := by decide +kernel
theorem dX11_first_91 : decode cX11_first 91 = .ok (.invokevirtual 192, 3) := by decide +kernel
theorem dX11_first_94 : decode cX11_first 94 = .ok (.lload 6, 2) := by decide +kernel
theorem dX11_first_96 : decode cX11_first 96 = .ok (.lmul, 1) := by decide +kernel
theorem dX11_first_97 : decode cX11_first 97 = .ok (.lsub, 1) := by decide +kernel
theorem dX11_first_98 : decode cX11_first 98 = .ok (.lstore 8, 2) := by decide +kernel
theorem dX11_first_100 : decode cX11_first 100 = .ok (.aload_n 0, 1) := by decide +kernel
theorem dX11_first_101 : decode cX11_first 101 = .ok (.iload_n 1, 1) := by decide +kernel
theorem dX11_first_102 : decode cX11_first 102 = .ok (.iload_n 1, 1) := by decide +kernel
theorem dX11_first_103 : decode cX11_first 103 = .ok (.invokevirtual 192, 3) := by decide +kernel
theorem dX11_first_106 : decode cX11_first 106 = .ok (.lload 6, 2) := by decide +kernel
theorem dX11_first_108 : decode cX11_first 108 = .ok (.lmul, 1) := by decide +kernel
theorem dX11_first_109 : decode cX11_first 109 = .ok (.aload_n 0, 1) := by decide +kernel
theorem dX11_first_110 : decode cX11_first 110 = .ok (.iload_n 1, 1) := by decide +kernel
theorem dX11_first_111 : decode cX11_first 111 = .ok (.iload_n 2, 1) := by decide +kernel
theorem dX11_first_112 : decode cX11_first 112 = .ok (.invokevirtual 192, 3) := by decide +kernel
theorem dX11_first_115 : decode cX11_first 115 = .ok (.lload 4, 2) := by decide +kernel
theorem dX11_first_117 : decode cX11_first 117 = .ok (.lmul, 1) := by decide +kernel
theorem dX11_first_118 : decode cX11_first 118 = .ok (.lsub, 1) := by decide +kernel
theorem dX11_first_119 : decode cX11_first 119 = .ok (.lstore 10, 2) := by decide +kernel
theorem dX11_first_121 : decode cX11_first 121 = .ok (.lload 8, 2) := by decide +kernel
theorem dX11_first_123 : decode cX11_first 123 = .ok (.lload 8, 2) := by decide +kernel
theorem dX11_first_125 : decode cX11_first 125 = .ok (.lload 10, 2) := by decide +kernel
theorem dX11_first_127 : decode cX11_first 127 = .ok (.ladd, 1) := by decide +kernel
theorem dX11_first_128 : decode cX11_first 128 = .ok (.iload_n 3, 1) := by decide +kernel
theorem dX11_first_129 : decode cX11_first 129 = .ok (.invokestatic 147, 3) := by decide +kernel
theorem dX11_first_132 : decode cX11_first 132 = .ok (.lreturn, 1) := by decide +kernel
theorem dX11_agree_0 : decode cX11_agree 0 = .ok (.iload_n 1, 1) := by decide +kernel
theorem dX11_agree_1 : decode cX11_agree 1 = .ok (.invokestatic 63, 3) := by decide +kernel
theorem dX11_agree_4 : decode cX11_agree 4 = .ok (.ifCond .eq 24, 3) := by decide +kernel
theorem dX11_agree_7 : decode cX11_agree 7 = .ok (.iload_n 2, 1) := by decide +kernel
theorem dX11_agree_8 : decode cX11_agree 8 = .ok (.invokestatic 63, 3) := by decide +kernel
theorem dX11_agree_11 : decode cX11_agree 11 = .ok (.ifCond .eq 17, 3) := by decide +kernel
theorem dX11_agree_14 : decode cX11_agree 14 = .ok (.iload_n 1, 1) := by decide +kernel
theorem dX11_agree_15 : decode cX11_agree 15 = .ok (.iload_n 2, 1) := by decide +kernel
theorem dX11_agree_16 : decode cX11_agree 16 = .ok (.if_icmp .eq 12, 3) := by decide +kernel
theorem dX11_agree_19 : decode cX11_agree 19 = .ok (.iload_n 3, 1) := by decide +kernel
theorem dX11_agree_20 : decode cX11_agree 20 = .ok (.iconst 0, 1) := by decide +kernel
theorem dX11_agree_21 : decode cX11_agree 21 = .ok (.iconst 1, 1) := by decide +kernel
theorem dX11_agree_22 : decode cX11_agree 22 = .ok (.invokestatic 59, 3) := by decide +kernel
theorem dX11_agree_25 : decode cX11_agree 25 = .ok (.ifCond .ne 6, 3) := by decide +kernel
theorem dX11_agree_28 : decode cX11_agree 28 = .ok (.bipush (-2), 2) := by decide +kernel
theorem dX11_agree_30 : decode cX11_agree 30 = .ok (.ireturn, 1) := by decide +kernel
theorem dX11_agree_31 : decode cX11_agree 31 = .ok (.aload_n 0, 1) := by decide +kernel
theorem dX11_agree_32 : decode cX11_agree 32 = .ok (.getfield 7, 3) := by decide +kernel
theorem dX11_agree_35 : decode cX11_agree 35 = .ok (.iload_n 1, 1) := by decide +kernel
theorem dX11_agree_36 : decode cX11_agree 36 = .ok (.iaload, 1) := by decide +kernel
theorem dX11_agree_37 : decode cX11_agree 37 = .ok (.istore 4, 2) := by decide +kernel
theorem dX11_agree_39 : decode cX11_agree 39 = .ok (.aload_n 0, 1) := by decide +kernel
theorem dX11_agree_40 : decode cX11_agree 40 = .ok (.iload_n 1, 1) := by decide +kernel
theorem dX11_agree_41 : decode cX11_agree 41 = .ok (.invokevirtual 87, 3) := by decide +kernel
theorem dX11_agree_44 : decode cX11_agree 44 = .ok (.ifCond .eq 22, 3) := by decide +kernel
theorem dX11_agree_47 : decode cX11_agree 47 = .ok (.aload_n 0, 1) := by decide +kernel
theorem dX11_agree_48 : decode cX11_agree 48 = .ok (.iload_n 2, 1) := by decide +kernel
theorem dX11_agree_49 : decode cX11_agree 49 = .ok (.invokevirtual 87, 3) := by decide +kernel
theorem dX11_agree_52 : decode cX11_agree 52 = .ok (.ifCond .eq 14, 3) := by decide +kernel
theorem dX11_agree_55 : decode cX11_agree 55 = .ok (.iload 4, 2) := by decide +kernel
theorem dX11_agree_57 : decode cX11_agree 57 = .ok (.aload_n 0, 1) := by decide +kernel
theorem dX11_agree_58 : decode cX11_agree 58 = .ok (.getfield 7, 3) := by decide +kernel
theorem dX11_agree_61 : decode cX11_agree 61 = .ok (.iload_n 2, 1) := by decide +kernel
theorem dX11_agree_62 : decode cX11_agree 62 = .ok (.iaload, 1) := by decide +kernel
theorem dX11_agree_63 : decode cX11_agree 63 = .ok (.if_icmp .eq 6, 3) := by decide +kernel
theorem dX11_agree_66 : decode cX11_agree 66 = .ok (.bipush (-3), 2) := by decide +kernel
theorem dX11_agree_68 : decode cX11_agree 68 = .ok (.ireturn, 1) := by decide +kernel
theorem dX11_agree_69 : decode cX11_agree 69 = .ok (.aload_n 0, 1) := by decide +kernel
theorem dX11_agree_70 : decode cX11_agree 70 = .ok (.iload_n 1, 1) := by decide +kernel
theorem dX11_agree_71 : decode cX11_agree 71 = .ok (.invokevirtual 90, 3) := by decide +kernel
theorem dX11_agree_74 : decode cX11_agree 74 = .ok (.istore 5, 2) := by decide +kernel
theorem dX11_agree_76 : decode cX11_agree 76 = .ok (.aload_n 0, 1) := by decide +kernel
theorem dX11_agree_77 : decode cX11_agree 77 = .ok (.iload_n 2, 1) := by decide +kernel
theorem dX11_agree_78 : decode cX11_agree 78 = .ok (.invokevirtual 90, 3) := by decide +kernel
theorem dX11_agree_81 : decode cX11_agree 81 = .ok (.istore 6, 2) := by decide +kernel
theorem dX11_agree_83 : decode cX11_agree 83 = .ok (.iload 4, 2) := by decide +kernel
theorem dX11_agree_85 : decode cX11_agree 85 = .ok (.iload 5, 2) := by decide +kernel
theorem dX11_agree_87 : decode cX11_agree 87 = .ok (.iload 6, 2) := by decide +kernel
theorem dX11_agree_89 : decode cX11_agree 89 = .ok (.ixor, 1) := by decide +kernel
theorem dX11_agree_90 : decode cX11_agree 90 = .ok (.invokestatic 81, 3) := by decide +kernel
theorem dX11_agree_93 : decode cX11_agree 93 = .ok (.isub, 1) := by decide +kernel
theorem dX11_agree_94 : decode cX11_agree 94 = .ok (.istore 7, 2) := by decide +kernel
theorem dX11_agree_96 : decode cX11_agree 96 = .ok (.iload_n 3, 1) := by decide +kernel
theorem dX11_agree_97 : decode cX11_agree 97 = .ok (.ifCond .ne 6, 3) := by decide +kernel
theorem dX11_agree_100 : decode cX11_agree 100 = .ok (.iload 7, 2) := by decide +kernel
theorem dX11_agree_102 : decode cX11_agree 102 = .ok (.ireturn, 1) := by decide +kernel
theorem dX11_agree_103 : decode cX11_agree 103 = .ok (.iconst 0, 1) := by decide +kernel
theorem dX11_agree_104 : decode cX11_agree 104 = .ok (.istore 8, 2) := by decide +kernel
theorem dX11_agree_106 : decode cX11_agree 106 = .ok (.iconst 0, 1) := by decide +kernel
theorem dX11_agree_107 : decode cX11_agree 107 = .ok (.istore 9, 2) := by decide +kernel
theorem dX11_agree_109 : decode cX11_agree 109 = .ok (.iload 9, 2) := by decide +kernel
theorem dX11_agree_111 : decode cX11_agree 111 = .ok (.iconst 1, 1) := by decide +kernel
theorem dX11_agree_112 : decode cX11_agree 112 = .ok (.iload 4, 2) := by decide +kernel
theorem dX11_agree_114 : decode cX11_agree 114 = .ok (.ishl, 1) := by decide +kernel
theorem dX11_agree_115 : decode cX11_agree 115 = .ok (.if_icmp .ge 48, 3) := by decide +kernel
theorem dX11_agree_118 : decode cX11_agree 118 = .ok (.iload 8, 2) := by decide +kernel
theorem dX11_agree_120 : decode cX11_agree 120 = .ok (.iload 9, 2) := by decide +kernel
theorem dX11_agree_122 : decode cX11_agree 122 = .ok (.invokestatic 81, 3) := by decide +kernel
theorem dX11_agree_125 : decode cX11_agree 125 = .ok (.iload 6, 2) := by decide +kernel
theorem dX11_agree_127 : decode cX11_agree 127 = .ok (.invokestatic 81, 3) := by decide +kernel
theorem dX11_agree_130 : decode cX11_agree 130 = .ok (.if_icmp .ne 23, 3) := by decide +kernel
theorem dX11_agree_133 : decode cX11_agree 133 = .ok (.iload 4, 2) := by decide +kernel
theorem dX11_agree_135 : decode cX11_agree 135 = .ok (.iload 5, 2) := by decide +kernel
theorem dX11_agree_137 : decode cX11_agree 137 = .ok (.iload 9, 2) := by decide +kernel
theorem dX11_agree_139 : decode cX11_agree 139 = .ok (.ixor, 1) := by decide +kernel
theorem dX11_agree_140 : decode cX11_agree 140 = .ok (.invokestatic 81, 3) := by decide +kernel
theorem dX11_agree_143 : decode cX11_agree 143 = .ok (.isub, 1) := by decide +kernel
theorem dX11_agree_144 : decode cX11_agree 144 = .ok (.iload 7, 2) := by decide +kernel
theorem dX11_agree_146 : decode cX11_agree 146 = .ok (.if_icmp .lt 7, 3) := by decide +kernel
theorem dX11_agree_149 : decode cX11_agree 149 = .ok (.iconst 1, 1) := by decide +kernel
theorem dX11_agree_150 : decode cX11_agree 150 = .ok (.goto 4, 3) := by decide +kernel
theorem dX11_agree_153 : decode cX11_agree 153 = .ok (.iconst 0, 1) := by decide +kernel
theorem dX11_agree_154 : decode cX11_agree 154 = .ok (.iadd, 1) := by decide +kernel
theorem dX11_agree_155 : decode cX11_agree 155 = .ok (.istore 8, 2) := by decide +kernel
theorem dX11_agree_157 : decode cX11_agree 157 = .ok (.iinc 9 1, 3) := by decide +kernel
theorem dX11_agree_160 : decode cX11_agree 160 = .ok (.goto (-51), 3) := by decide +kernel
theorem dX11_agree_163 : decode cX11_agree 163 = .ok (.ldc2_w 165, 3) := by decide +kernel
theorem dX11_agree_166 : decode cX11_agree 166 = .ok (.iload 8, 2) := by decide +kernel
theorem dX11_agree_168 : decode cX11_agree 168 = .ok (.i2l, 1) := by decide +kernel
theorem dX11_agree_169 : decode cX11_agree 169 = .ok (.lmul, 1) := by decide +kernel
theorem dX11_agree_170 : decode cX11_agree 170 = .ok (.aload_n 0, 1) := by decide +kernel
theorem dX11_agree_171 : decode cX11_agree 171 = .ok (.iload_n 2, 1) := by decide +kernel
theorem dX11_agree_172 : decode cX11_agree 172 = .ok (.invokevirtual 171, 3) := by decide +kernel
theorem dX11_agree_175 : decode cX11_agree 175 = .ok (.ldiv, 1) := by decide +kernel
theorem dX11_agree_176 : decode cX11_agree 176 = .ok (.l2i, 1) := by decide +kernel
theorem dX11_agree_177 : decode cX11_agree 177 = .ok (.ireturn, 1) := by decide +kernel
theorem dX11_twice_0 : decode cX11_twice 0 = .ok (.iload_n 1, 1) := by decide +kernel
theorem dX11_twice_1 : decode cX11_twice 1 = .ok (.invokestatic 63, 3) := by decide +kernel
theorem dX11_twice_4 : decode cX11_twice 4 = .ok (.ifCond .ne 6, 3) := by decide +kernel
theorem dX11_twice_7 : decode cX11_twice 7 = .ok (.bipush (-2), 2) := by decide +kernel
theorem dX11_twice_9 : decode cX11_twice 9 = .ok (.ireturn, 1) := by decide +kernel
theorem dX11_twice_10 : decode cX11_twice 10 = .ok (.aload_n 0, 1) := by decide +kernel
theorem dX11_twice_11 : decode cX11_twice 11 = .ok (.iload_n 1, 1) := by decide +kernel
theorem dX11_twice_12 : decode cX11_twice 12 = .ok (.invokevirtual 87, 3) := by decide +kernel
theorem dX11_twice_15 : decode cX11_twice 15 = .ok (.ifCond .ne 6, 3) := by decide +kernel
theorem dX11_twice_18 : decode cX11_twice 18 = .ok (.bipush (-3), 2) := by decide +kernel
theorem dX11_twice_20 : decode cX11_twice 20 = .ok (.ireturn, 1) := by decide +kernel
theorem dX11_twice_21 : decode cX11_twice 21 = .ok (.aload_n 0, 1) := by decide +kernel
theorem dX11_twice_22 : decode cX11_twice 22 = .ok (.getfield 7, 3) := by decide +kernel
theorem dX11_twice_25 : decode cX11_twice 25 = .ok (.iload_n 1, 1) := by decide +kernel
theorem dX11_twice_26 : decode cX11_twice 26 = .ok (.iaload, 1) := by decide +kernel
theorem dX11_twice_27 : decode cX11_twice 27 = .ok (.istore_n 2, 1) := by decide +kernel
theorem dX11_twice_28 : decode cX11_twice 28 = .ok (.iload_n 2, 1) := by decide +kernel
theorem dX11_twice_29 : decode cX11_twice 29 = .ok (.iconst 2, 1) := by decide +kernel
theorem dX11_twice_30 : decode cX11_twice 30 = .ok (.irem, 1) := by decide +kernel
theorem dX11_twice_31 : decode cX11_twice 31 = .ok (.iconst 1, 1) := by decide +kernel
theorem dX11_twice_32 : decode cX11_twice 32 = .ok (.if_icmp .eq 7, 3) := by decide +kernel
theorem dX11_twice_35 : decode cX11_twice 35 = .ok (.iload_n 2, 1) := by decide +kernel
theorem dX11_twice_36 : decode cX11_twice 36 = .ok (.ifCond .ne 5, 3) := by decide +kernel
theorem dX11_twice_39 : decode cX11_twice 39 = .ok (.iconst 0, 1) := by decide +kernel
theorem dX11_twice_40 : decode cX11_twice 40 = .ok (.ireturn, 1) := by decide +kernel
theorem dX11_twice_41 : decode cX11_twice 41 = .ok (.iconst 1, 1) := by decide +kernel
theorem dX11_twice_42 : decode cX11_twice 42 = .ok (.istore_n 3, 1) := by decide +kernel
theorem dX11_twice_43 : decode cX11_twice 43 = .ok (.iconst 1, 1) := by decide +kernel
theorem dX11_twice_44 : decode cX11_twice 44 = .ok (.istore 4, 2) := by decide +kernel
theorem dX11_twice_46 : decode cX11_twice 46 = .ok (.iconst 1, 1) := by decide +kernel
theorem dX11_twice_47 : decode cX11_twice 47 = .ok (.istore 5, 2) := by decide +kernel
theorem dX11_twice_49 : decode cX11_twice 49 = .ok (.iconst 0, 1) := by decide +kernel
theorem dX11_twice_50 : decode cX11_twice 50 = .ok (.istore 6, 2) := by decide +kernel
theorem dX11_twice_52 : decode cX11_twice 52 = .ok (.iload 6, 2) := by decide +kernel
theorem dX11_twice_54 : decode cX11_twice 54 = .ok (.iload_n 2, 1) := by decide +kernel
theorem dX11_twice_55 : decode cX11_twice 55 = .ok (.iconst 2, 1) := by decide +kernel
theorem dX11_twice_56 : decode cX11_twice 56 = .ok (.idiv, 1) := by decide +kernel
theorem dX11_twice_57 : decode cX11_twice 57 = .ok (.if_icmp .ge 118, 3) := by decide +kernel
theorem dX11_twice_60 : decode cX11_twice 60 = .ok (.aload_n 0, 1) := by decide +kernel
theorem dX11_twice_61 : decode cX11_twice 61 = .ok (.getfield 13, 3) := by decide +kernel
theorem dX11_twice_64 : decode cX11_twice 64 = .ok (.bipush 15, 2) := by decide +kernel
theorem dX11_twice_66 : decode cX11_twice 66 = .ok (.iload_n 1, 1) := by decide +kernel
theorem dX11_twice_67 : decode cX11_twice 67 = .ok (.imul, 1) := by decide +kernel
theorem dX11_twice_68 : decode cX11_twice 68 = .ok (.iload_n 2, 1) := by decide +kernel
theorem dX11_twice_69 : decode cX11_twice 69 = .ok (.iconst 2, 1) := by decide +kernel
theorem dX11_twice_70 : decode cX11_twice 70 = .ok (.idiv, 1) := by decide +kernel
theorem dX11_twice_71 : decode cX11_twice 71 = .ok (.iadd, 1) := by decide +kernel
theorem dX11_twice_72 : decode cX11_twice 72 = .ok (.iload 6, 2) := by decide +kernel
theorem dX11_twice_74 : decode cX11_twice 74 = .ok (.iadd, 1) := by decide +kernel
theorem dX11_twice_75 : decode cX11_twice 75 = .ok (.iaload, 1) := by decide +kernel
theorem dX11_twice_76 : decode cX11_twice 76 = .ok (.istore 7, 2) := by decide +kernel
theorem dX11_twice_78 : decode cX11_twice 78 = .ok (.iload_n 3, 1) := by decide +kernel
theorem dX11_twice_79 : decode cX11_twice 79 = .ok (.ifCond .eq 24, 3) := by decide +kernel
theorem dX11_twice_82 : decode cX11_twice 82 = .ok (.iload 7, 2) := by decide +kernel
theorem dX11_twice_84 : decode cX11_twice 84 = .ok (.aload_n 0, 1) := by decide +kernel
theorem dX11_twice_85 : decode cX11_twice 85 = .ok (.getfield 13, 3) := by decide +kernel
theorem dX11_twice_88 : decode cX11_twice 88 = .ok (.bipush 15, 2) := by decide +kernel
theorem dX11_twice_90 : decode cX11_twice 90 = .ok (.iload_n 1, 1) := by decide +kernel
theorem dX11_twice_91 : decode cX11_twice 91 = .ok (.imul, 1) := by decide +kernel
theorem dX11_twice_92 : decode cX11_twice 92 = .ok (.iload 6, 2) := by decide +kernel
theorem dX11_twice_94 : decode cX11_twice 94 = .ok (.iadd, 1) := by decide +kernel
theorem dX11_twice_95 : decode cX11_twice 95 = .ok (.iaload, 1) := by decide +kernel
theorem dX11_twice_96 : decode cX11_twice 96 = .ok (.if_icmp .ne 7, 3) := by decide +kernel
theorem dX11_twice_99 : decode cX11_twice 99 = .ok (.iconst 1, 1) := by decide +kernel
theorem dX11_twice_100 : decode cX11_twice 100 = .ok (.goto 4, 3) := by decide +kernel
theorem dX11_twice_103 : decode cX11_twice 103 = .ok (.iconst 0, 1) := by decide +kernel
theorem dX11_twice_104 : decode cX11_twice 104 = .ok (.istore_n 3, 1) := by decide +kernel
theorem dX11_twice_105 : decode cX11_twice 105 = .ok (.iload 4, 2) := by decide +kernel
theorem dX11_twice_107 : decode cX11_twice 107 = .ok (.ifCond .eq 24, 3) := by decide +kernel
theorem dX11_twice_110 : decode cX11_twice 110 = .ok (.iload 7, 2) := by decide +kernel
theorem dX11_twice_112 : decode cX11_twice 112 = .ok (.aload_n 0, 1) := by decide +kernel
theorem dX11_twice_113 : decode cX11_twice 113 = .ok (.getfield 13, 3) := by decide +kernel
theorem dX11_twice_116 : decode cX11_twice 116 = .ok (.bipush 15, 2) := by decide +kernel
theorem dX11_twice_118 : decode cX11_twice 118 = .ok (.iload_n 1, 1) := by decide +kernel
theorem dX11_twice_119 : decode cX11_twice 119 = .ok (.imul, 1) := by decide +kernel
theorem dX11_twice_120 : decode cX11_twice 120 = .ok (.iload 6, 2) := by decide +kernel
theorem dX11_twice_122 : decode cX11_twice 122 = .ok (.iadd, 1) := by decide +kernel
theorem dX11_twice_123 : decode cX11_twice 123 = .ok (.iaload, 1) := by decide +kernel
theorem dX11_twice_124 : decode cX11_twice 124 = .ok (.if_icmp .eq 7, 3) := by decide +kernel
theorem dX11_twice_127 : decode cX11_twice 127 = .ok (.iconst 1, 1) := by decide +kernel
theorem dX11_twice_128 : decode cX11_twice 128 = .ok (.goto 4, 3) := by decide +kernel
theorem dX11_twice_131 : decode cX11_twice 131 = .ok (.iconst 0, 1) := by decide +kernel
theorem dX11_twice_132 : decode cX11_twice 132 = .ok (.istore 4, 2) := by decide +kernel
theorem dX11_twice_134 : decode cX11_twice 134 = .ok (.iload 5, 2) := by decide +kernel
theorem dX11_twice_136 : decode cX11_twice 136 = .ok (.ifCond .eq 30, 3) := by decide +kernel
theorem dX11_twice_139 : decode cX11_twice 139 = .ok (.iload 7, 2) := by decide +kernel
theorem dX11_twice_141 : decode cX11_twice 141 = .ok (.aload_n 0, 1) := by decide +kernel
theorem dX11_twice_142 : decode cX11_twice 142 = .ok (.getfield 13, 3) := by decide +kernel
theorem dX11_twice_145 : decode cX11_twice 145 = .ok (.bipush 15, 2) := by decide +kernel
theorem dX11_twice_147 : decode cX11_twice 147 = .ok (.iload_n 1, 1) := by decide +kernel
theorem dX11_twice_148 : decode cX11_twice 148 = .ok (.imul, 1) := by decide +kernel
theorem dX11_twice_149 : decode cX11_twice 149 = .ok (.iload_n 2, 1) := by decide +kernel
theorem dX11_twice_150 : decode cX11_twice 150 = .ok (.iconst 2, 1) := by decide +kernel
theorem dX11_twice_151 : decode cX11_twice 151 = .ok (.idiv, 1) := by decide +kernel
theorem dX11_twice_152 : decode cX11_twice 152 = .ok (.iadd, 1) := by decide +kernel
theorem dX11_twice_153 : decode cX11_twice 153 = .ok (.iconst 1, 1) := by decide +kernel
theorem dX11_twice_154 : decode cX11_twice 154 = .ok (.isub, 1) := by decide +kernel
theorem dX11_twice_155 : decode cX11_twice 155 = .ok (.iload 6, 2) := by decide +kernel
theorem dX11_twice_157 : decode cX11_twice 157 = .ok (.isub, 1) := by decide +kernel
theorem dX11_twice_158 : decode cX11_twice 158 = .ok (.iaload, 1) := by decide +kernel
theorem dX11_twice_159 : decode cX11_twice 159 = .ok (.if_icmp .ne 7, 3) := by decide +kernel
theorem dX11_twice_162 : decode cX11_twice 162 = .ok (.iconst 1, 1) := by decide +kernel
theorem dX11_twice_163 : decode cX11_twice 163 = .ok (.goto 4, 3) := by decide +kernel
theorem dX11_twice_166 : decode cX11_twice 166 = .ok (.iconst 0, 1) := by decide +kernel
theorem dX11_twice_167 : decode cX11_twice 167 = .ok (.istore 5, 2) := by decide +kernel
theorem dX11_twice_169 : decode cX11_twice 169 = .ok (.iinc 6 1, 3) := by decide +kernel
theorem dX11_twice_172 : decode cX11_twice 172 = .ok (.goto (-120), 3) := by decide +kernel
theorem dX11_twice_175 : decode cX11_twice 175 = .ok (.iload_n 3, 1) := by decide +kernel
theorem dX11_twice_176 : decode cX11_twice 176 = .ok (.ifCond .eq 7, 3) := by decide +kernel
theorem dX11_twice_179 : decode cX11_twice 179 = .ok (.iconst 1, 1) := by decide +kernel
theorem dX11_twice_180 : decode cX11_twice 180 = .ok (.goto 22, 3) := by decide +kernel
theorem dX11_twice_183 : decode cX11_twice 183 = .ok (.iload 4, 2) := by decide +kernel
theorem dX11_twice_185 : decode cX11_twice 185 = .ok (.ifCond .eq 7, 3) := by decide +kernel
theorem dX11_twice_188 : decode cX11_twice 188 = .ok (.iconst 2, 1) := by decide +kernel
theorem dX11_twice_189 : decode cX11_twice 189 = .ok (.goto 13, 3) := by decide +kernel
theorem dX11_twice_192 : decode cX11_twice 192 = .ok (.iload 5, 2) := by decide +kernel
theorem dX11_twice_194 : decode cX11_twice 194 = .ok (.ifCond .eq 7, 3) := by decide +kernel
theorem dX11_twice_197 : decode cX11_twice 197 = .ok (.iconst 3, 1) := by decide +kernel
theorem dX11_twice_198 : decode cX11_twice 198 = .ok (.goto 4, 3) := by decide +kernel
theorem dX11_twice_201 : decode cX11_twice 201 = .ok (.iconst 0, 1) := by decide +kernel
theorem dX11_twice_202 : decode cX11_twice 202 = .ok (.ireturn, 1) := by decide +kernel
theorem dX11_next_0 : decode cX11_next 0 = .ok (.iload_n 1, 1) := by decide +kernel
theorem dX11_next_1 : decode cX11_next 1 = .ok (.invokestatic 63, 3) := by decide +kernel
theorem dX11_next_4 : decode cX11_next 4 = .ok (.ifCond .eq 21, 3) := by decide +kernel
theorem dX11_next_7 : decode cX11_next 7 = .ok (.iload_n 2, 1) := by decide +kernel
theorem dX11_next_8 : decode cX11_next 8 = .ok (.iconst 0, 1) := by decide +kernel
theorem dX11_next_9 : decode cX11_next 9 = .ok (.iconst 4, 1) := by decide +kernel
theorem dX11_next_10 : decode cX11_next 10 = .ok (.invokestatic 59, 3) := by decide +kernel
theorem dX11_next_13 : decode cX11_next 13 = .ok (.ifCond .eq 12, 3) := by decide +kernel
theorem dX11_next_16 : decode cX11_next 16 = .ok (.iload_n 3, 1) := by decide +kernel
theorem dX11_next_17 : decode cX11_next 17 = .ok (.iconst 0, 1) := by decide +kernel
theorem dX11_next_18 : decode cX11_next 18 = .ok (.iconst 3, 1) := by decide +kernel
theorem dX11_next_19 : decode cX11_next 19 = .ok (.invokestatic 59, 3) := by decide +kernel
theorem dX11_next_22 : decode cX11_next 22 = .ok (.ifCond .ne 6, 3) := by decide +kernel
theorem dX11_next_25 : decode cX11_next 25 = .ok (.bipush (-2), 2) := by decide +kernel
theorem dX11_next_27 : decode cX11_next 27 = .ok (.ireturn, 1) := by decide +kernel
theorem dX11_next_28 : decode cX11_next 28 = .ok (.aload_n 0, 1) := by decide +kernel
theorem dX11_next_29 : decode cX11_next 29 = .ok (.getfield 7, 3) := by decide +kernel
theorem dX11_next_32 : decode cX11_next 32 = .ok (.iload_n 1, 1) := by decide +kernel
theorem dX11_next_33 : decode cX11_next 33 = .ok (.iaload, 1) := by decide +kernel
theorem dX11_next_34 : decode cX11_next 34 = .ok (.istore 4, 2) := by decide +kernel
theorem dX11_next_36 : decode cX11_next 36 = .ok (.iload_n 2, 1) := by decide +kernel
theorem dX11_next_37 : decode cX11_next 37 = .ok (.iload 4, 2) := by decide +kernel
theorem dX11_next_39 : decode cX11_next 39 = .ok (.if_icmp .gt 7, 3) := by decide +kernel
theorem dX11_next_42 : decode cX11_next 42 = .ok (.iconst 1, 1) := by decide +kernel
theorem dX11_next_43 : decode cX11_next 43 = .ok (.goto 4, 3) := by decide +kernel
theorem dX11_next_46 : decode cX11_next 46 = .ok (.iconst 0, 1) := by decide +kernel
theorem dX11_next_47 : decode cX11_next 47 = .ok (.istore 5, 2) := by decide +kernel
theorem dX11_next_49 : decode cX11_next 49 = .ok (.iconst 1, 1) := by decide +kernel
theorem dX11_next_50 : decode cX11_next 50 = .ok (.istore 6, 2) := by decide +kernel
theorem dX11_next_52 : decode cX11_next 52 = .ok (.iload 6, 2) := by decide +kernel
theorem dX11_next_54 : decode cX11_next 54 = .ok (.iload_n 2, 1) := by decide +kernel
theorem dX11_next_55 : decode cX11_next 55 = .ok (.if_icmp .gt 40, 3) := by decide +kernel
theorem dX11_next_58 : decode cX11_next 58 = .ok (.iload 5, 2) := by decide +kernel
theorem dX11_next_60 : decode cX11_next 60 = .ok (.ifCond .eq 35, 3) := by decide +kernel
theorem dX11_next_63 : decode cX11_next 63 = .ok (.aload_n 0, 1) := by decide +kernel
theorem dX11_next_64 : decode cX11_next 64 = .ok (.getfield 13, 3) := by decide +kernel
theorem dX11_next_67 : decode cX11_next 67 = .ok (.bipush 15, 2) := by decide +kernel
theorem dX11_next_69 : decode cX11_next 69 = .ok (.iload_n 1, 1) := by decide +kernel
theorem dX11_next_70 : decode cX11_next 70 = .ok (.imul, 1) := by decide +kernel
theorem dX11_next_71 : decode cX11_next 71 = .ok (.iload 4, 2) := by decide +kernel
theorem dX11_next_73 : decode cX11_next 73 = .ok (.iadd, 1) := by decide +kernel
theorem dX11_next_74 : decode cX11_next 74 = .ok (.iload 6, 2) := by decide +kernel
theorem dX11_next_76 : decode cX11_next 76 = .ok (.isub, 1) := by decide +kernel
theorem dX11_next_77 : decode cX11_next 77 = .ok (.iaload, 1) := by decide +kernel
theorem dX11_next_78 : decode cX11_next 78 = .ok (.iconst (-1), 1) := by decide +kernel
theorem dX11_next_79 : decode cX11_next 79 = .ok (.if_icmp .eq 7, 3) := by decide +kernel
theorem dX11_next_82 : decode cX11_next 82 = .ok (.iconst 1, 1) := by decide +kernel
theorem dX11_next_83 : decode cX11_next 83 = .ok (.goto 4, 3) := by decide +kernel
theorem dX11_next_86 : decode cX11_next 86 = .ok (.iconst 0, 1) := by decide +kernel
theorem dX11_next_87 : decode cX11_next 87 = .ok (.istore 5, 2) := by decide +kernel
theorem dX11_next_89 : decode cX11_next 89 = .ok (.iinc 6 1, 3) := by decide +kernel
theorem dX11_next_92 : decode cX11_next 92 = .ok (.goto (-40), 3) := by decide +kernel
theorem dX11_next_95 : decode cX11_next 95 = .ok (.iload 5, 2) := by decide +kernel
theorem dX11_next_97 : decode cX11_next 97 = .ok (.ifCond .ne 6, 3) := by decide +kernel
theorem dX11_next_100 : decode cX11_next 100 = .ok (.bipush (-3), 2) := by decide +kernel
theorem dX11_next_102 : decode cX11_next 102 = .ok (.ireturn, 1) := by decide +kernel
theorem dX11_next_103 : decode cX11_next 103 = .ok (.iconst 0, 1) := by decide +kernel
theorem dX11_next_104 : decode cX11_next 104 = .ok (.istore 6, 2) := by decide +kernel
theorem dX11_next_106 : decode cX11_next 106 = .ok (.iconst 0, 1) := by decide +kernel
theorem dX11_next_107 : decode cX11_next 107 = .ok (.istore 7, 2) := by decide +kernel
theorem dX11_next_109 : decode cX11_next 109 = .ok (.iload_n 2, 1) := by decide +kernel
theorem dX11_next_110 : decode cX11_next 110 = .ok (.istore 8, 2) := by decide +kernel
theorem dX11_next_112 : decode cX11_next 112 = .ok (.iload 8, 2) := by decide +kernel
theorem dX11_next_114 : decode cX11_next 114 = .ok (.iload 4, 2) := by decide +kernel
theorem dX11_next_116 : decode cX11_next 116 = .ok (.if_icmp .ge 133, 3) := by decide +kernel
theorem dX11_next_119 : decode cX11_next 119 = .ok (.aload_n 0, 1) := by decide +kernel
theorem dX11_next_120 : decode cX11_next 120 = .ok (.getfield 13, 3) := by decide +kernel
theorem dX11_next_123 : decode cX11_next 123 = .ok (.bipush 15, 2) := by decide +kernel
theorem dX11_next_125 : decode cX11_next 125 = .ok (.iload_n 1, 1) := by decide +kernel
theorem dX11_next_126 : decode cX11_next 126 = .ok (.imul, 1) := by decide +kernel
theorem dX11_next_127 : decode cX11_next 127 = .ok (.iload 8, 2) := by decide +kernel
theorem dX11_next_129 : decode cX11_next 129 = .ok (.iadd, 1) := by decide +kernel
theorem dX11_next_130 : decode cX11_next 130 = .ok (.iaload, 1) := by decide +kernel
theorem dX11_next_131 : decode cX11_next 131 = .ok (.iconst (-1), 1) := by decide +kernel
theorem dX11_next_132 : decode cX11_next 132 = .ok (.if_icmp .eq 7, 3) := by decide +kernel
theorem dX11_next_135 : decode cX11_next 135 = .ok (.iconst 1, 1) := by decide +kernel
theorem dX11_next_136 : decode cX11_next 136 = .ok (.goto 4, 3) := by decide +kernel
theorem dX11_next_139 : decode cX11_next 139 = .ok (.iconst 0, 1) := by decide +kernel
theorem dX11_next_140 : decode cX11_next 140 = .ok (.istore 9, 2) := by decide +kernel
theorem dX11_next_142 : decode cX11_next 142 = .ok (.iconst 1, 1) := by decide +kernel
theorem dX11_next_143 : decode cX11_next 143 = .ok (.istore 10, 2) := by decide +kernel
theorem dX11_next_145 : decode cX11_next 145 = .ok (.iload 10, 2) := by decide +kernel
theorem dX11_next_147 : decode cX11_next 147 = .ok (.iload_n 2, 1) := by decide +kernel
theorem dX11_next_148 : decode cX11_next 148 = .ok (.if_icmp .gt 54, 3) := by decide +kernel
theorem dX11_next_151 : decode cX11_next 151 = .ok (.iload 9, 2) := by decide +kernel
theorem dX11_next_153 : decode cX11_next 153 = .ok (.ifCond .eq 49, 3) := by decide +kernel
theorem dX11_next_156 : decode cX11_next 156 = .ok (.aload_n 0, 1) := by decide +kernel
theorem dX11_next_157 : decode cX11_next 157 = .ok (.getfield 13, 3) := by decide +kernel
theorem dX11_next_160 : decode cX11_next 160 = .ok (.bipush 15, 2) := by decide +kernel
theorem dX11_next_162 : decode cX11_next 162 = .ok (.iload_n 1, 1) := by decide +kernel
theorem dX11_next_163 : decode cX11_next 163 = .ok (.imul, 1) := by decide +kernel
theorem dX11_next_164 : decode cX11_next 164 = .ok (.iload 8, 2) := by decide +kernel
theorem dX11_next_166 : decode cX11_next 166 = .ok (.iadd, 1) := by decide +kernel
theorem dX11_next_167 : decode cX11_next 167 = .ok (.iload 10, 2) := by decide +kernel
theorem dX11_next_169 : decode cX11_next 169 = .ok (.isub, 1) := by decide +kernel
theorem dX11_next_170 : decode cX11_next 170 = .ok (.iaload, 1) := by decide +kernel
theorem dX11_next_171 : decode cX11_next 171 = .ok (.aload_n 0, 1) := by decide +kernel
theorem dX11_next_172 : decode cX11_next 172 = .ok (.getfield 13, 3) := by decide +kernel
theorem dX11_next_175 : decode cX11_next 175 = .ok (.bipush 15, 2) := by decide +kernel
theorem dX11_next_177 : decode cX11_next 177 = .ok (.iload_n 1, 1) := by decide +kernel
theorem dX11_next_178 : decode cX11_next 178 = .ok (.imul, 1) := by decide +kernel
theorem dX11_next_179 : decode cX11_next 179 = .ok (.iload 4, 2) := by decide +kernel
theorem dX11_next_181 : decode cX11_next 181 = .ok (.iadd, 1) := by decide +kernel
theorem dX11_next_182 : decode cX11_next 182 = .ok (.iload 10, 2) := by decide +kernel
theorem dX11_next_184 : decode cX11_next 184 = .ok (.isub, 1) := by decide +kernel
theorem dX11_next_185 : decode cX11_next 185 = .ok (.iaload, 1) := by decide +kernel
theorem dX11_next_186 : decode cX11_next 186 = .ok (.if_icmp .ne 7, 3) := by decide +kernel
theorem dX11_next_189 : decode cX11_next 189 = .ok (.iconst 1, 1) := by decide +kernel
theorem dX11_next_190 : decode cX11_next 190 = .ok (.goto 4, 3) := by decide +kernel
theorem dX11_next_193 : decode cX11_next 193 = .ok (.iconst 0, 1) := by decide +kernel
theorem dX11_next_194 : decode cX11_next 194 = .ok (.istore 9, 2) := by decide +kernel
theorem dX11_next_196 : decode cX11_next 196 = .ok (.iinc 10 1, 3) := by decide +kernel
theorem dX11_next_199 : decode cX11_next 199 = .ok (.goto (-54), 3) := by decide +kernel
theorem dX11_next_202 : decode cX11_next 202 = .ok (.iload 6, 2) := by decide +kernel
theorem dX11_next_204 : decode cX11_next 204 = .ok (.iload 9, 2) := by decide +kernel
theorem dX11_next_206 : decode cX11_next 206 = .ok (.ifCond .eq 7, 3) := by decide +kernel
theorem dX11_next_209 : decode cX11_next 209 = .ok (.iconst 1, 1) := by decide +kernel
theorem dX11_next_210 : decode cX11_next 210 = .ok (.goto 4, 3) := by decide +kernel
theorem dX11_next_213 : decode cX11_next 213 = .ok (.iconst 0, 1) := by decide +kernel
theorem dX11_next_214 : decode cX11_next 214 = .ok (.iadd, 1) := by decide +kernel
theorem dX11_next_215 : decode cX11_next 215 = .ok (.istore 6, 2) := by decide +kernel
theorem dX11_next_217 : decode cX11_next 217 = .ok (.iload 7, 2) := by decide +kernel
theorem dX11_next_219 : decode cX11_next 219 = .ok (.iload 9, 2) := by decide +kernel
theorem dX11_next_221 : decode cX11_next 221 = .ok (.ifCond .eq 18, 3) := by decide +kernel
theorem dX11_next_224 : decode cX11_next 224 = .ok (.aload_n 0, 1) := by decide +kernel
theorem dX11_next_225 : decode cX11_next 225 = .ok (.getfield 13, 3) := by decide +kernel
theorem dX11_next_228 : decode cX11_next 228 = .ok (.bipush 15, 2) := by decide +kernel
theorem dX11_next_230 : decode cX11_next 230 = .ok (.iload_n 1, 1) := by decide +kernel
theorem dX11_next_231 : decode cX11_next 231 = .ok (.imul, 1) := by decide +kernel
theorem dX11_next_232 : decode cX11_next 232 = .ok (.iload 8, 2) := by decide +kernel
theorem dX11_next_234 : decode cX11_next 234 = .ok (.iadd, 1) := by decide +kernel
theorem dX11_next_235 : decode cX11_next 235 = .ok (.iaload, 1) := by decide +kernel
theorem dX11_next_236 : decode cX11_next 236 = .ok (.goto 4, 3) := by decide +kernel
theorem dX11_next_239 : decode cX11_next 239 = .ok (.iconst 0, 1) := by decide +kernel
theorem dX11_next_240 : decode cX11_next 240 = .ok (.iadd, 1) := by decide +kernel
theorem dX11_next_241 : decode cX11_next 241 = .ok (.istore 7, 2) := by decide +kernel
theorem dX11_next_243 : decode cX11_next 243 = .ok (.iinc 8 1, 3) := by decide +kernel
theorem dX11_next_246 : decode cX11_next 246 = .ok (.goto (-134), 3) := by decide +kernel
theorem dX11_next_249 : decode cX11_next 249 = .ok (.iload_n 3, 1) := by decide +kernel
theorem dX11_next_250 : decode cX11_next 250 = .ok (.ifCond .ne 8, 3) := by decide +kernel
theorem dX11_next_253 : decode cX11_next 253 = .ok (.iload 7, 2) := by decide +kernel
theorem dX11_next_255 : decode cX11_next 255 = .ok (.goto 32, 3) := by decide +kernel
theorem dX11_next_258 : decode cX11_next 258 = .ok (.iload_n 3, 1) := by decide +kernel
theorem dX11_next_259 : decode cX11_next 259 = .ok (.iconst 1, 1) := by decide +kernel
theorem dX11_next_260 : decode cX11_next 260 = .ok (.if_icmp .ne 8, 3) := by decide +kernel
theorem dX11_next_263 : decode cX11_next 263 = .ok (.iload 6, 2) := by decide +kernel
theorem dX11_next_265 : decode cX11_next 265 = .ok (.goto 22, 3) := by decide +kernel
theorem dX11_next_268 : decode cX11_next 268 = .ok (.iload 7, 2) := by decide +kernel
theorem dX11_next_270 : decode cX11_next 270 = .ok (.i2l, 1) := by decide +kernel
theorem dX11_next_271 : decode cX11_next 271 = .ok (.lconst 1, 1) := by decide +kernel
theorem dX11_next_272 : decode cX11_next 272 = .ok (.ladd, 1) := by decide +kernel
theorem dX11_next_273 : decode cX11_next 273 = .ok (.iload 6, 2) := by decide +kernel
theorem dX11_next_275 : decode cX11_next 275 = .ok (.i2l, 1) := by decide +kernel
theorem dX11_next_276 : decode cX11_next 276 = .ok (.ldc2_w 201, 3) := by decide +kernel
theorem dX11_next_279 : decode cX11_next 279 = .ok (.ladd, 1) := by decide +kernel
theorem dX11_next_280 : decode cX11_next 280 = .ok (.iload_n 3, 1) := by decide +kernel
theorem dX11_next_281 : decode cX11_next 281 = .ok (.iconst 2, 1) := by decide +kernel
theorem dX11_next_282 : decode cX11_next 282 = .ok (.isub, 1) := by decide +kernel
theorem dX11_next_283 : decode cX11_next 283 = .ok (.invokestatic 147, 3) := by decide +kernel
theorem dX11_next_286 : decode cX11_next 286 = .ok (.l2i, 1) := by decide +kernel
theorem dX11_next_287 : decode cX11_next 287 = .ok (.ireturn, 1) := by decide +kernel
theorem dX11_meets_0 : decode cX11_meets 0 = .ok (.aload_n 0, 1) := by decide +kernel
theorem dX11_meets_1 : decode cX11_meets 1 = .ok (.iload_n 1, 1) := by decide +kernel
theorem dX11_meets_2 : decode cX11_meets 2 = .ok (.putfield 203, 3) := by decide +kernel
theorem dX11_meets_5 : decode cX11_meets 5 = .ok (.bipush (-10), 2) := by decide +kernel
theorem dX11_meets_7 : decode cX11_meets 7 = .ok (.iload_n 1, 1) := by decide +kernel
theorem dX11_meets_8 : decode cX11_meets 8 = .ok (.isub, 1) := by decide +kernel
theorem dX11_meets_9 : decode cX11_meets 9 = .ok (.ireturn, 1) := by decide +kernel
theorem dX11_isSheet_0 : decode cX11_isSheet 0 = .ok (.iload_n 0, 1) := by decide +kernel
theorem dX11_isSheet_1 : decode cX11_isSheet 1 = .ok (.iconst 0, 1) := by decide +kernel
theorem dX11_isSheet_2 : decode cX11_isSheet 2 = .ok (.iconst 3, 1) := by decide +kernel
theorem dX11_isSheet_3 : decode cX11_isSheet 3 = .ok (.invokestatic 59, 3) := by decide +kernel
theorem dX11_isSheet_6 : decode cX11_isSheet 6 = .ok (.ireturn, 1) := by decide +kernel
theorem dX11_sheet_0 : decode cX11_sheet 0 = .ok (.iload_n 1, 1) := by decide +kernel
theorem dX11_sheet_1 : decode cX11_sheet 1 = .ok (.invokestatic 71, 3) := by decide +kernel
theorem dX11_sheet_4 : decode cX11_sheet 4 = .ok (.ifCond .eq 18, 3) := by decide +kernel
theorem dX11_sheet_7 : decode cX11_sheet 7 = .ok (.iload_n 2, 1) := by decide +kernel
theorem dX11_sheet_8 : decode cX11_sheet 8 = .ok (.iconst 0, 1) := by decide +kernel
theorem dX11_sheet_9 : decode cX11_sheet 9 = .ok (.iconst 2, 1) := by decide +kernel
theorem dX11_sheet_10 : decode cX11_sheet 10 = .ok (.invokestatic 59, 3) := by decide +kernel
theorem dX11_sheet_13 : decode cX11_sheet 13 = .ok (.ifCond .eq 9, 3) := by decide +kernel
theorem dX11_sheet_16 : decode cX11_sheet 16 = .ok (.iload_n 3, 1) := by decide +kernel
theorem dX11_sheet_17 : decode cX11_sheet 17 = .ok (.bipush 40, 2) := by decide +kernel
theorem dX11_sheet_19 : decode cX11_sheet 19 = .ok (.if_icmp .le 6, 3) := by decide +kernel
theorem dX11_sheet_22 : decode cX11_sheet 22 = .ok (.bipush (-2), 2) := by decide +kernel
theorem dX11_sheet_24 : decode cX11_sheet 24 = .ok (.ireturn, 1) := by decide +kernel
theorem dX11_sheet_25 : decode cX11_sheet 25 = .ok (.iload_n 3, 1) := by decide +kernel
theorem dX11_sheet_26 : decode cX11_sheet 26 = .ok (.ifCond .ge 9, 3) := by decide +kernel
theorem dX11_sheet_29 : decode cX11_sheet 29 = .ok (.aload_n 0, 1) := by decide +kernel
theorem dX11_sheet_30 : decode cX11_sheet 30 = .ok (.iconst 5, 1) := by decide +kernel
theorem dX11_sheet_31 : decode cX11_sheet 31 = .ok (.invokevirtual 74, 3) := by decide +kernel
theorem dX11_sheet_34 : decode cX11_sheet 34 = .ok (.ireturn, 1) := by decide +kernel
theorem dX11_sheet_35 : decode cX11_sheet 35 = .ok (.aload_n 0, 1) := by decide +kernel
theorem dX11_sheet_36 : decode cX11_sheet 36 = .ok (.getfield 42, 3) := by decide +kernel
theorem dX11_sheet_39 : decode cX11_sheet 39 = .ok (.iload_n 1, 1) := by decide +kernel
theorem dX11_sheet_40 : decode cX11_sheet 40 = .ok (.iconst 1, 1) := by decide +kernel
theorem dX11_sheet_41 : decode cX11_sheet 41 = .ok (.bastore, 1) := by decide +kernel
theorem dX11_sheet_42 : decode cX11_sheet 42 = .ok (.aload_n 0, 1) := by decide +kernel
theorem dX11_sheet_43 : decode cX11_sheet 43 = .ok (.getfield 45, 3) := by decide +kernel
theorem dX11_sheet_46 : decode cX11_sheet 46 = .ok (.iload_n 1, 1) := by decide +kernel
theorem dX11_sheet_47 : decode cX11_sheet 47 = .ok (.iload_n 2, 1) := by decide +kernel
theorem dX11_sheet_48 : decode cX11_sheet 48 = .ok (.iastore, 1) := by decide +kernel
theorem dX11_sheet_49 : decode cX11_sheet 49 = .ok (.aload_n 0, 1) := by decide +kernel
theorem dX11_sheet_50 : decode cX11_sheet 50 = .ok (.getfield 48, 3) := by decide +kernel
theorem dX11_sheet_53 : decode cX11_sheet 53 = .ok (.iload_n 1, 1) := by decide +kernel
theorem dX11_sheet_54 : decode cX11_sheet 54 = .ok (.iload_n 3, 1) := by decide +kernel
theorem dX11_sheet_55 : decode cX11_sheet 55 = .ok (.iastore, 1) := by decide +kernel
theorem dX11_sheet_56 : decode cX11_sheet 56 = .ok (.iconst 0, 1) := by decide +kernel
theorem dX11_sheet_57 : decode cX11_sheet 57 = .ok (.istore 4, 2) := by decide +kernel
theorem dX11_sheet_59 : decode cX11_sheet 59 = .ok (.iload 4, 2) := by decide +kernel
theorem dX11_sheet_61 : decode cX11_sheet 61 = .ok (.bipush 40, 2) := by decide +kernel
theorem dX11_sheet_63 : decode cX11_sheet 63 = .ok (.if_icmp .ge 22, 3) := by decide +kernel
theorem dX11_sheet_66 : decode cX11_sheet 66 = .ok (.aload_n 0, 1) := by decide +kernel
theorem dX11_sheet_67 : decode cX11_sheet 67 = .ok (.getfield 51, 3) := by decide +kernel
theorem dX11_sheet_70 : decode cX11_sheet 70 = .ok (.bipush 40, 2) := by decide +kernel
theorem dX11_sheet_72 : decode cX11_sheet 72 = .ok (.iload_n 1, 1) := by decide +kernel
theorem dX11_sheet_73 : decode cX11_sheet 73 = .ok (.imul, 1) := by decide +kernel
theorem dX11_sheet_74 : decode cX11_sheet 74 = .ok (.iload 4, 2) := by decide +kernel
theorem dX11_sheet_76 : decode cX11_sheet 76 = .ok (.iadd, 1) := by decide +kernel
theorem dX11_sheet_77 : decode cX11_sheet 77 = .ok (.iconst 0, 1) := by decide +kernel
theorem dX11_sheet_78 : decode cX11_sheet 78 = .ok (.iastore, 1) := by decide +kernel
theorem dX11_sheet_79 : decode cX11_sheet 79 = .ok (.iinc 4 1, 3) := by decide +kernel
theorem dX11_sheet_82 : decode cX11_sheet 82 = .ok (.goto (-23), 3) := by decide +kernel
theorem dX11_sheet_85 : decode cX11_sheet 85 = .ok (.iload_n 3, 1) := by decide +kernel
theorem dX11_sheet_86 : decode cX11_sheet 86 = .ok (.ireturn, 1) := by decide +kernel
theorem dX11_lose_0 : decode cX11_lose 0 = .ok (.iload_n 1, 1) := by decide +kernel
theorem dX11_lose_1 : decode cX11_lose 1 = .ok (.invokestatic 71, 3) := by decide +kernel
theorem dX11_lose_4 : decode cX11_lose 4 = .ok (.ifCond .ne 6, 3) := by decide +kernel
theorem dX11_lose_7 : decode cX11_lose 7 = .ok (.bipush (-2), 2) := by decide +kernel
theorem dX11_lose_9 : decode cX11_lose 9 = .ok (.ireturn, 1) := by decide +kernel
theorem dX11_lose_10 : decode cX11_lose 10 = .ok (.aload_n 0, 1) := by decide +kernel
theorem dX11_lose_11 : decode cX11_lose 11 = .ok (.getfield 42, 3) := by decide +kernel
theorem dX11_lose_14 : decode cX11_lose 14 = .ok (.iload_n 1, 1) := by decide +kernel
theorem dX11_lose_15 : decode cX11_lose 15 = .ok (.baload, 1) := by decide +kernel
theorem dX11_lose_16 : decode cX11_lose 16 = .ok (.ifCond .ne 9, 3) := by decide +kernel
theorem dX11_lose_19 : decode cX11_lose 19 = .ok (.aload_n 0, 1) := by decide +kernel
theorem dX11_lose_20 : decode cX11_lose 20 = .ok (.iconst 1, 1) := by decide +kernel
theorem dX11_lose_21 : decode cX11_lose 21 = .ok (.invokevirtual 74, 3) := by decide +kernel
theorem dX11_lose_24 : decode cX11_lose 24 = .ok (.ireturn, 1) := by decide +kernel
theorem dX11_lose_25 : decode cX11_lose 25 = .ok (.aload_n 0, 1) := by decide +kernel
theorem dX11_lose_26 : decode cX11_lose 26 = .ok (.getfield 42, 3) := by decide +kernel
theorem dX11_lose_29 : decode cX11_lose 29 = .ok (.iload_n 1, 1) := by decide +kernel
theorem dX11_lose_30 : decode cX11_lose 30 = .ok (.iconst 0, 1) := by decide +kernel
theorem dX11_lose_31 : decode cX11_lose 31 = .ok (.bastore, 1) := by decide +kernel
theorem dX11_lose_32 : decode cX11_lose 32 = .ok (.aload_n 0, 1) := by decide +kernel
theorem dX11_lose_33 : decode cX11_lose 33 = .ok (.getfield 48, 3) := by decide +kernel
theorem dX11_lose_36 : decode cX11_lose 36 = .ok (.iload_n 1, 1) := by decide +kernel
theorem dX11_lose_37 : decode cX11_lose 37 = .ok (.iaload, 1) := by decide +kernel
theorem dX11_lose_38 : decode cX11_lose 38 = .ok (.ireturn, 1) := by decide +kernel
theorem dX11_lacks_0 : decode cX11_lacks 0 = .ok (.aload_n 0, 1) := by decide +kernel
theorem dX11_lacks_1 : decode cX11_lacks 1 = .ok (.getfield 42, 3) := by decide +kernel
theorem dX11_lacks_4 : decode cX11_lacks 4 = .ok (.iload_n 1, 1) := by decide +kernel
theorem dX11_lacks_5 : decode cX11_lacks 5 = .ok (.baload, 1) := by decide +kernel
theorem dX11_lacks_6 : decode cX11_lacks 6 = .ok (.ifCond .ne 7, 3) := by decide +kernel
theorem dX11_lacks_9 : decode cX11_lacks 9 = .ok (.iconst 1, 1) := by decide +kernel
theorem dX11_lacks_10 : decode cX11_lacks 10 = .ok (.goto 38, 3) := by decide +kernel
theorem dX11_lacks_13 : decode cX11_lacks 13 = .ok (.aload_n 0, 1) := by decide +kernel
theorem dX11_lacks_14 : decode cX11_lacks 14 = .ok (.getfield 45, 3) := by decide +kernel
theorem dX11_lacks_17 : decode cX11_lacks 17 = .ok (.iload_n 1, 1) := by decide +kernel
theorem dX11_lacks_18 : decode cX11_lacks 18 = .ok (.iaload, 1) := by decide +kernel
theorem dX11_lacks_19 : decode cX11_lacks 19 = .ok (.iload_n 2, 1) := by decide +kernel
theorem dX11_lacks_20 : decode cX11_lacks 20 = .ok (.if_icmp .eq 7, 3) := by decide +kernel
theorem dX11_lacks_23 : decode cX11_lacks 23 = .ok (.iconst 3, 1) := by decide +kernel
theorem dX11_lacks_24 : decode cX11_lacks 24 = .ok (.goto 24, 3) := by decide +kernel
theorem dX11_lacks_27 : decode cX11_lacks 27 = .ok (.iload_n 3, 1) := by decide +kernel
theorem dX11_lacks_28 : decode cX11_lacks 28 = .ok (.iconst 0, 1) := by decide +kernel
theorem dX11_lacks_29 : decode cX11_lacks 29 = .ok (.aload_n 0, 1) := by decide +kernel
theorem dX11_lacks_30 : decode cX11_lacks 30 = .ok (.getfield 48, 3) := by decide +kernel
theorem dX11_lacks_33 : decode cX11_lacks 33 = .ok (.iload_n 1, 1) := by decide +kernel
theorem dX11_lacks_34 : decode cX11_lacks 34 = .ok (.iaload, 1) := by decide +kernel
theorem dX11_lacks_35 : decode cX11_lacks 35 = .ok (.iconst 1, 1) := by decide +kernel
theorem dX11_lacks_36 : decode cX11_lacks 36 = .ok (.isub, 1) := by decide +kernel
theorem dX11_lacks_37 : decode cX11_lacks 37 = .ok (.invokestatic 59, 3) := by decide +kernel
theorem dX11_lacks_40 : decode cX11_lacks 40 = .ok (.ifCond .eq 7, 3) := by decide +kernel
theorem dX11_lacks_43 : decode cX11_lacks 43 = .ok (.iconst 0, 1) := by decide +kernel
theorem dX11_lacks_44 : decode cX11_lacks 44 = .ok (.goto 4, 3) := by decide +kernel
theorem dX11_lacks_47 : decode cX11_lacks 47 = .ok (.iconst 2, 1) := by decide +kernel
theorem dX11_lacks_48 : decode cX11_lacks 48 = .ok (.ireturn, 1) := by decide +kernel
theorem dX11_keep_0 : decode cX11_keep 0 = .ok (.aload_n 0, 1) := by decide +kernel
theorem dX11_keep_1 : decode cX11_keep 1 = .ok (.getfield 51, 3) := by decide +kernel
theorem dX11_keep_4 : decode cX11_keep 4 = .ok (.bipush 40, 2) := by decide +kernel
theorem dX11_keep_6 : decode cX11_keep 6 = .ok (.iload_n 1, 1) := by decide +kernel
theorem dX11_keep_7 : decode cX11_keep 7 = .ok (.imul, 1) := by decide +kernel
theorem dX11_keep_8 : decode cX11_keep 8 = .ok (.iload_n 2, 1) := by decide +kernel
theorem dX11_keep_9 : decode cX11_keep 9 = .ok (.iadd, 1) := by decide +kernel
theorem dX11_keep_10 : decode cX11_keep 10 = .ok (.aload_n 0, 1) := by decide +kernel
theorem dX11_keep_11 : decode cX11_keep 11 = .ok (.getfield 45, 3) := by decide +kernel
theorem dX11_keep_14 : decode cX11_keep 14 = .ok (.iload_n 1, 1) := by decide +kernel
theorem dX11_keep_15 : decode cX11_keep 15 = .ok (.iaload, 1) := by decide +kernel
theorem dX11_keep_16 : decode cX11_keep 16 = .ok (.ifCond .ne 8, 3) := by decide +kernel
theorem dX11_keep_19 : decode cX11_keep 19 = .ok (.iload_n 3, 1) := by decide +kernel
theorem dX11_keep_20 : decode cX11_keep 20 = .ok (.i2b, 1) := by decide +kernel
theorem dX11_keep_21 : decode cX11_keep 21 = .ok (.goto 19, 3) := by decide +kernel
theorem dX11_keep_24 : decode cX11_keep 24 = .ok (.aload_n 0, 1) := by decide +kernel
theorem dX11_keep_25 : decode cX11_keep 25 = .ok (.getfield 45, 3) := by decide +kernel
theorem dX11_keep_28 : decode cX11_keep 28 = .ok (.iload_n 1, 1) := by decide +kernel
theorem dX11_keep_29 : decode cX11_keep 29 = .ok (.iaload, 1) := by decide +kernel
theorem dX11_keep_30 : decode cX11_keep 30 = .ok (.iconst 1, 1) := by decide +kernel
theorem dX11_keep_31 : decode cX11_keep 31 = .ok (.if_icmp .ne 8, 3) := by decide +kernel
theorem dX11_keep_34 : decode cX11_keep 34 = .ok (.iload_n 3, 1) := by decide +kernel
theorem dX11_keep_35 : decode cX11_keep 35 = .ok (.i2s, 1) := by decide +kernel
theorem dX11_keep_36 : decode cX11_keep 36 = .ok (.goto 4, 3) := by decide +kernel
theorem dX11_keep_39 : decode cX11_keep 39 = .ok (.iload_n 3, 1) := by decide +kernel
theorem dX11_keep_40 : decode cX11_keep 40 = .ok (.iastore, 1) := by decide +kernel
theorem dX11_keep_41 : decode cX11_keep 41 = .ok (.return_, 1) := by decide +kernel
theorem dX11_put_0 : decode cX11_put 0 = .ok (.iload_n 1, 1) := by decide +kernel
theorem dX11_put_1 : decode cX11_put 1 = .ok (.invokestatic 71, 3) := by decide +kernel
theorem dX11_put_4 : decode cX11_put 4 = .ok (.ifCond .eq 12, 3) := by decide +kernel
theorem dX11_put_7 : decode cX11_put 7 = .ok (.iload_n 2, 1) := by decide +kernel
theorem dX11_put_8 : decode cX11_put 8 = .ok (.iconst 0, 1) := by decide +kernel
theorem dX11_put_9 : decode cX11_put 9 = .ok (.iconst 2, 1) := by decide +kernel
theorem dX11_put_10 : decode cX11_put 10 = .ok (.invokestatic 59, 3) := by decide +kernel
theorem dX11_put_13 : decode cX11_put 13 = .ok (.ifCond .ne 6, 3) := by decide +kernel
theorem dX11_put_16 : decode cX11_put 16 = .ok (.bipush (-2), 2) := by decide +kernel
theorem dX11_put_18 : decode cX11_put 18 = .ok (.ireturn, 1) := by decide +kernel
theorem dX11_put_19 : decode cX11_put 19 = .ok (.aload_n 0, 1) := by decide +kernel
theorem dX11_put_20 : decode cX11_put 20 = .ok (.iload_n 1, 1) := by decide +kernel
theorem dX11_put_21 : decode cX11_put 21 = .ok (.iload_n 2, 1) := by decide +kernel
theorem dX11_put_22 : decode cX11_put 22 = .ok (.iload_n 3, 1) := by decide +kernel
theorem dX11_put_23 : decode cX11_put 23 = .ok (.invokevirtual 206, 3) := by decide +kernel
theorem dX11_put_26 : decode cX11_put 26 = .ok (.istore 5, 2) := by decide +kernel
theorem dX11_put_28 : decode cX11_put 28 = .ok (.iload 5, 2) := by decide +kernel
theorem dX11_put_30 : decode cX11_put 30 = .ok (.ifCond .le 10, 3) := by decide +kernel
theorem dX11_put_33 : decode cX11_put 33 = .ok (.aload_n 0, 1) := by decide +kernel
theorem dX11_put_34 : decode cX11_put 34 = .ok (.iload 5, 2) := by decide +kernel
theorem dX11_put_36 : decode cX11_put 36 = .ok (.invokevirtual 74, 3) := by decide +kernel
theorem dX11_put_39 : decode cX11_put 39 = .ok (.ireturn, 1) := by decide +kernel
theorem dX11_put_40 : decode cX11_put 40 = .ok (.aload_n 0, 1) := by decide +kernel
theorem dX11_put_41 : decode cX11_put 41 = .ok (.iload_n 1, 1) := by decide +kernel
theorem dX11_put_42 : decode cX11_put 42 = .ok (.iload_n 3, 1) := by decide +kernel
theorem dX11_put_43 : decode cX11_put 43 = .ok (.iload 4, 2) := by decide +kernel
theorem dX11_put_45 : decode cX11_put 45 = .ok (.invokevirtual 209, 3) := by decide +kernel
theorem dX11_put_48 : decode cX11_put 48 = .ok (.iconst 1, 1) := by decide +kernel
theorem dX11_put_49 : decode cX11_put 49 = .ok (.ireturn, 1) := by decide +kernel
theorem dX11_get_0 : decode cX11_get 0 = .ok (.iload_n 1, 1) := by decide +kernel
theorem dX11_get_1 : decode cX11_get 1 = .ok (.invokestatic 71, 3) := by decide +kernel
theorem dX11_get_4 : decode cX11_get 4 = .ok (.ifCond .eq 12, 3) := by decide +kernel
theorem dX11_get_7 : decode cX11_get 7 = .ok (.iload_n 2, 1) := by decide +kernel
theorem dX11_get_8 : decode cX11_get 8 = .ok (.iconst 0, 1) := by decide +kernel
theorem dX11_get_9 : decode cX11_get 9 = .ok (.iconst 2, 1) := by decide +kernel
theorem dX11_get_10 : decode cX11_get 10 = .ok (.invokestatic 59, 3) := by decide +kernel
theorem dX11_get_13 : decode cX11_get 13 = .ok (.ifCond .ne 6, 3) := by decide +kernel
theorem dX11_get_16 : decode cX11_get 16 = .ok (.ldc 212, 2) := by decide +kernel
theorem dX11_get_18 : decode cX11_get 18 = .ok (.ireturn, 1) := by decide +kernel
theorem dX11_get_19 : decode cX11_get 19 = .ok (.aload_n 0, 1) := by decide +kernel
theorem dX11_get_20 : decode cX11_get 20 = .ok (.iload_n 1, 1) := by decide +kernel
theorem dX11_get_21 : decode cX11_get 21 = .ok (.iload_n 2, 1) := by decide +kernel
theorem dX11_get_22 : decode cX11_get 22 = .ok (.iload_n 3, 1) := by decide +kernel
theorem dX11_get_23 : decode cX11_get 23 = .ok (.invokevirtual 206, 3) := by decide +kernel
theorem dX11_get_26 : decode cX11_get 26 = .ok (.istore 4, 2) := by decide +kernel
theorem dX11_get_28 : decode cX11_get 28 = .ok (.iload 4, 2) := by decide +kernel
theorem dX11_get_30 : decode cX11_get 30 = .ok (.ifCond .le 12, 3) := by decide +kernel
theorem dX11_get_33 : decode cX11_get 33 = .ok (.aload_n 0, 1) := by decide +kernel
theorem dX11_get_34 : decode cX11_get 34 = .ok (.iload 4, 2) := by decide +kernel
theorem dX11_get_36 : decode cX11_get 36 = .ok (.putfield 203, 3) := by decide +kernel
theorem dX11_get_39 : decode cX11_get 39 = .ok (.ldc 212, 2) := by decide +kernel
theorem dX11_get_41 : decode cX11_get 41 = .ok (.ireturn, 1) := by decide +kernel
theorem dX11_get_42 : decode cX11_get 42 = .ok (.aload_n 0, 1) := by decide +kernel
theorem dX11_get_43 : decode cX11_get 43 = .ok (.getfield 51, 3) := by decide +kernel
theorem dX11_get_46 : decode cX11_get 46 = .ok (.bipush 40, 2) := by decide +kernel
theorem dX11_get_48 : decode cX11_get 48 = .ok (.iload_n 1, 1) := by decide +kernel
theorem dX11_get_49 : decode cX11_get 49 = .ok (.imul, 1) := by decide +kernel
theorem dX11_get_50 : decode cX11_get 50 = .ok (.iload_n 3, 1) := by decide +kernel
theorem dX11_get_51 : decode cX11_get 51 = .ok (.iadd, 1) := by decide +kernel
theorem dX11_get_52 : decode cX11_get 52 = .ok (.iaload, 1) := by decide +kernel
theorem dX11_get_53 : decode cX11_get 53 = .ok (.ireturn, 1) := by decide +kernel
theorem dX11_copy_0 : decode cX11_copy 0 = .ok (.iload_n 1, 1) := by decide +kernel
theorem dX11_copy_1 : decode cX11_copy 1 = .ok (.invokestatic 71, 3) := by decide +kernel
theorem dX11_copy_4 : decode cX11_copy 4 = .ok (.ifCond .eq 10, 3) := by decide +kernel
theorem dX11_copy_7 : decode cX11_copy 7 = .ok (.iload_n 3, 1) := by decide +kernel
theorem dX11_copy_8 : decode cX11_copy 8 = .ok (.invokestatic 71, 3) := by decide +kernel
theorem dX11_copy_11 : decode cX11_copy 11 = .ok (.ifCond .ne 6, 3) := by decide +kernel
theorem dX11_copy_14 : decode cX11_copy 14 = .ok (.bipush (-2), 2) := by decide +kernel
theorem dX11_copy_16 : decode cX11_copy 16 = .ok (.ireturn, 1) := by decide +kernel
theorem dX11_copy_17 : decode cX11_copy 17 = .ok (.aload_n 0, 1) := by decide +kernel
theorem dX11_copy_18 : decode cX11_copy 18 = .ok (.getfield 42, 3) := by decide +kernel
theorem dX11_copy_21 : decode cX11_copy 21 = .ok (.iload_n 1, 1) := by decide +kernel
theorem dX11_copy_22 : decode cX11_copy 22 = .ok (.baload, 1) := by decide +kernel
theorem dX11_copy_23 : decode cX11_copy 23 = .ok (.ifCond .eq 12, 3) := by decide +kernel
theorem dX11_copy_26 : decode cX11_copy 26 = .ok (.aload_n 0, 1) := by decide +kernel
theorem dX11_copy_27 : decode cX11_copy 27 = .ok (.getfield 42, 3) := by decide +kernel
theorem dX11_copy_30 : decode cX11_copy 30 = .ok (.iload_n 3, 1) := by decide +kernel
theorem dX11_copy_31 : decode cX11_copy 31 = .ok (.baload, 1) := by decide +kernel
theorem dX11_copy_32 : decode cX11_copy 32 = .ok (.ifCond .ne 9, 3) := by decide +kernel
theorem dX11_copy_35 : decode cX11_copy 35 = .ok (.aload_n 0, 1) := by decide +kernel
theorem dX11_copy_36 : decode cX11_copy 36 = .ok (.iconst 1, 1) := by decide +kernel
theorem dX11_copy_37 : decode cX11_copy 37 = .ok (.invokevirtual 74, 3) := by decide +kernel
theorem dX11_copy_40 : decode cX11_copy 40 = .ok (.ireturn, 1) := by decide +kernel
theorem dX11_copy_41 : decode cX11_copy 41 = .ok (.aload_n 0, 1) := by decide +kernel
theorem dX11_copy_42 : decode cX11_copy 42 = .ok (.getfield 45, 3) := by decide +kernel
theorem dX11_copy_45 : decode cX11_copy 45 = .ok (.iload_n 1, 1) := by decide +kernel
theorem dX11_copy_46 : decode cX11_copy 46 = .ok (.iaload, 1) := by decide +kernel
theorem dX11_copy_47 : decode cX11_copy 47 = .ok (.aload_n 0, 1) := by decide +kernel
theorem dX11_copy_48 : decode cX11_copy 48 = .ok (.getfield 45, 3) := by decide +kernel
theorem dX11_copy_51 : decode cX11_copy 51 = .ok (.iload_n 3, 1) := by decide +kernel
theorem dX11_copy_52 : decode cX11_copy 52 = .ok (.iaload, 1) := by decide +kernel
theorem dX11_copy_53 : decode cX11_copy 53 = .ok (.if_icmp .eq 9, 3) := by decide +kernel
theorem dX11_copy_56 : decode cX11_copy 56 = .ok (.aload_n 0, 1) := by decide +kernel
theorem dX11_copy_57 : decode cX11_copy 57 = .ok (.iconst 4, 1) := by decide +kernel
theorem dX11_copy_58 : decode cX11_copy 58 = .ok (.invokevirtual 74, 3) := by decide +kernel
theorem dX11_copy_61 : decode cX11_copy 61 = .ok (.ireturn, 1) := by decide +kernel
theorem dX11_copy_62 : decode cX11_copy 62 = .ok (.iload_n 2, 1) := by decide +kernel
theorem dX11_copy_63 : decode cX11_copy 63 = .ok (.ifCond .lt 48, 3) := by decide +kernel
theorem dX11_copy_66 : decode cX11_copy 66 = .ok (.iload 4, 2) := by decide +kernel
theorem dX11_copy_68 : decode cX11_copy 68 = .ok (.ifCond .lt 43, 3) := by decide +kernel
theorem dX11_copy_71 : decode cX11_copy 71 = .ok (.iload 5, 2) := by decide +kernel
theorem dX11_copy_73 : decode cX11_copy 73 = .ok (.ifCond .lt 38, 3) := by decide +kernel
theorem dX11_copy_76 : decode cX11_copy 76 = .ok (.iload_n 2, 1) := by decide +kernel
theorem dX11_copy_77 : decode cX11_copy 77 = .ok (.i2l, 1) := by decide +kernel
theorem dX11_copy_78 : decode cX11_copy 78 = .ok (.iload 5, 2) := by decide +kernel
theorem dX11_copy_80 : decode cX11_copy 80 = .ok (.i2l, 1) := by decide +kernel
theorem dX11_copy_81 : decode cX11_copy 81 = .ok (.ladd, 1) := by decide +kernel
theorem dX11_copy_82 : decode cX11_copy 82 = .ok (.aload_n 0, 1) := by decide +kernel
theorem dX11_copy_83 : decode cX11_copy 83 = .ok (.getfield 48, 3) := by decide +kernel
theorem dX11_copy_86 : decode cX11_copy 86 = .ok (.iload_n 1, 1) := by decide +kernel
theorem dX11_copy_87 : decode cX11_copy 87 = .ok (.iaload, 1) := by decide +kernel
theorem dX11_copy_88 : decode cX11_copy 88 = .ok (.i2l, 1) := by decide +kernel
theorem dX11_copy_89 : decode cX11_copy 89 = .ok (.lcmp, 1) := by decide +kernel
theorem dX11_copy_90 : decode cX11_copy 90 = .ok (.ifCond .gt 21, 3) := by decide +kernel
theorem dX11_copy_93 : decode cX11_copy 93 = .ok (.iload 4, 2) := by decide +kernel
theorem dX11_copy_95 : decode cX11_copy 95 = .ok (.i2l, 1) := by decide +kernel
theorem dX11_copy_96 : decode cX11_copy 96 = .ok (.iload 5, 2) := by decide +kernel
theorem dX11_copy_98 : decode cX11_copy 98 = .ok (.i2l, 1) := by decide +kernel
theorem dX11_copy_99 : decode cX11_copy 99 = .ok (.ladd, 1) := by decide +kernel
theorem dX11_copy_100 : decode cX11_copy 100 = .ok (.aload_n 0, 1) := by decide +kernel
theorem dX11_copy_101 : decode cX11_copy 101 = .ok (.getfield 48, 3) := by decide +kernel
theorem dX11_copy_104 : decode cX11_copy 104 = .ok (.iload_n 3, 1) := by decide +kernel
theorem dX11_copy_105 : decode cX11_copy 105 = .ok (.iaload, 1) := by decide +kernel
theorem dX11_copy_106 : decode cX11_copy 106 = .ok (.i2l, 1) := by decide +kernel
theorem dX11_copy_107 : decode cX11_copy 107 = .ok (.lcmp, 1) := by decide +kernel
theorem dX11_copy_108 : decode cX11_copy 108 = .ok (.ifCond .le 9, 3) := by decide +kernel
theorem dX11_copy_111 : decode cX11_copy 111 = .ok (.aload_n 0, 1) := by decide +kernel
theorem dX11_copy_112 : decode cX11_copy 112 = .ok (.iconst 2, 1) := by decide +kernel
theorem dX11_copy_113 : decode cX11_copy 113 = .ok (.invokevirtual 74, 3) := by decide +kernel
theorem dX11_copy_116 : decode cX11_copy 116 = .ok (.ireturn, 1) := by decide +kernel
theorem dX11_copy_117 : decode cX11_copy 117 = .ok (.iconst 0, 1) := by decide +kernel
theorem dX11_copy_118 : decode cX11_copy 118 = .ok (.istore 6, 2) := by decide +kernel
theorem dX11_copy_120 : decode cX11_copy 120 = .ok (.iload 6, 2) := by decide +kernel
theorem dX11_copy_122 : decode cX11_copy 122 = .ok (.iload 5, 2) := by decide +kernel
theorem dX11_copy_124 : decode cX11_copy 124 = .ok (.if_icmp .ge 30, 3) := by decide +kernel
theorem dX11_copy_127 : decode cX11_copy 127 = .ok (.aload_n 0, 1) := by decide +kernel
theorem dX11_copy_128 : decode cX11_copy 128 = .ok (.getfield 54, 3) := by decide +kernel
theorem dX11_copy_131 : decode cX11_copy 131 = .ok (.iload 6, 2) := by decide +kernel
theorem dX11_copy_133 : decode cX11_copy 133 = .ok (.aload_n 0, 1) := by decide +kernel
theorem dX11_copy_134 : decode cX11_copy 134 = .ok (.getfield 51, 3) := by decide +kernel
theorem dX11_copy_137 : decode cX11_copy 137 = .ok (.bipush 40, 2) := by decide +kernel
theorem dX11_copy_139 : decode cX11_copy 139 = .ok (.iload_n 1, 1) := by decide +kernel
theorem dX11_copy_140 : decode cX11_copy 140 = .ok (.imul, 1) := by decide +kernel
theorem dX11_copy_141 : decode cX11_copy 141 = .ok (.iload_n 2, 1) := by decide +kernel
theorem dX11_copy_142 : decode cX11_copy 142 = .ok (.iadd, 1) := by decide +kernel
theorem dX11_copy_143 : decode cX11_copy 143 = .ok (.iload 6, 2) := by decide +kernel
theorem dX11_copy_145 : decode cX11_copy 145 = .ok (.iadd, 1) := by decide +kernel
theorem dX11_copy_146 : decode cX11_copy 146 = .ok (.iaload, 1) := by decide +kernel
theorem dX11_copy_147 : decode cX11_copy 147 = .ok (.iastore, 1) := by decide +kernel
theorem dX11_copy_148 : decode cX11_copy 148 = .ok (.iinc 6 1, 3) := by decide +kernel
theorem dX11_copy_151 : decode cX11_copy 151 = .ok (.goto (-31), 3) := by decide +kernel
theorem dX11_copy_154 : decode cX11_copy 154 = .ok (.iconst 0, 1) := by decide +kernel
theorem dX11_copy_155 : decode cX11_copy 155 = .ok (.istore 6, 2) := by decide +kernel
theorem dX11_copy_157 : decode cX11_copy 157 = .ok (.iload 6, 2) := by decide +kernel
theorem dX11_copy_159 : decode cX11_copy 159 = .ok (.iload 5, 2) := by decide +kernel
theorem dX11_copy_161 : decode cX11_copy 161 = .ok (.if_icmp .ge 31, 3) := by decide +kernel
theorem dX11_copy_164 : decode cX11_copy 164 = .ok (.aload_n 0, 1) := by decide +kernel
theorem dX11_copy_165 : decode cX11_copy 165 = .ok (.getfield 51, 3) := by decide +kernel
theorem dX11_copy_168 : decode cX11_copy 168 = .ok (.bipush 40, 2) := by decide +kernel
theorem dX11_copy_170 : decode cX11_copy 170 = .ok (.iload_n 3, 1) := by decide +kernel
theorem dX11_copy_171 : decode cX11_copy 171 = .ok (.imul, 1) := by decide +kernel
theorem dX11_copy_172 : decode cX11_copy 172 = .ok (.iload 4, 2) := by decide +kernel
theorem dX11_copy_174 : decode cX11_copy 174 = .ok (.iadd, 1) := by decide +kernel
theorem dX11_copy_175 : decode cX11_copy 175 = .ok (.iload 6, 2) := by decide +kernel
theorem dX11_copy_177 : decode cX11_copy 177 = .ok (.iadd, 1) := by decide +kernel
theorem dX11_copy_178 : decode cX11_copy 178 = .ok (.aload_n 0, 1) := by decide +kernel
theorem dX11_copy_179 : decode cX11_copy 179 = .ok (.getfield 54, 3) := by decide +kernel
theorem dX11_copy_182 : decode cX11_copy 182 = .ok (.iload 6, 2) := by decide +kernel
theorem dX11_copy_184 : decode cX11_copy 184 = .ok (.iaload, 1) := by decide +kernel
theorem dX11_copy_185 : decode cX11_copy 185 = .ok (.iastore, 1) := by decide +kernel
theorem dX11_copy_186 : decode cX11_copy 186 = .ok (.iinc 6 1, 3) := by decide +kernel
theorem dX11_copy_189 : decode cX11_copy 189 = .ok (.goto (-32), 3) := by decide +kernel
theorem dX11_copy_192 : decode cX11_copy 192 = .ok (.iconst 1, 1) := by decide +kernel
theorem dX11_copy_193 : decode cX11_copy 193 = .ok (.ireturn, 1) := by decide +kernel
theorem dX11_write_0 : decode cX11_write 0 = .ok (.iload_n 1, 1) := by decide +kernel
theorem dX11_write_1 : decode cX11_write 1 = .ok (.invokestatic 63, 3) := by decide +kernel
theorem dX11_write_4 : decode cX11_write 4 = .ok (.ifCond .eq 10, 3) := by decide +kernel
theorem dX11_write_7 : decode cX11_write 7 = .ok (.iload_n 2, 1) := by decide +kernel
theorem dX11_write_8 : decode cX11_write 8 = .ok (.invokestatic 71, 3) := by decide +kernel
theorem dX11_write_11 : decode cX11_write 11 = .ok (.ifCond .ne 6, 3) := by decide +kernel
theorem dX11_write_14 : decode cX11_write 14 = .ok (.bipush (-2), 2) := by decide +kernel
theorem dX11_write_16 : decode cX11_write 16 = .ok (.ireturn, 1) := by decide +kernel
theorem dX11_write_17 : decode cX11_write 17 = .ok (.aload_n 0, 1) := by decide +kernel
theorem dX11_write_18 : decode cX11_write 18 = .ok (.getfield 42, 3) := by decide +kernel
theorem dX11_write_21 : decode cX11_write 21 = .ok (.iload_n 2, 1) := by decide +kernel
theorem dX11_write_22 : decode cX11_write 22 = .ok (.baload, 1) := by decide +kernel
theorem dX11_write_23 : decode cX11_write 23 = .ok (.ifCond .ne 9, 3) := by decide +kernel
theorem dX11_write_26 : decode cX11_write 26 = .ok (.aload_n 0, 1) := by decide +kernel
theorem dX11_write_27 : decode cX11_write 27 = .ok (.iconst 1, 1) := by decide +kernel
theorem dX11_write_28 : decode cX11_write 28 = .ok (.invokevirtual 74, 3) := by decide +kernel
theorem dX11_write_31 : decode cX11_write 31 = .ok (.ireturn, 1) := by decide +kernel
theorem dX11_write_32 : decode cX11_write 32 = .ok (.iconst 0, 1) := by decide +kernel
theorem dX11_write_33 : decode cX11_write 33 = .ok (.istore_n 3, 1) := by decide +kernel
theorem dX11_write_34 : decode cX11_write 34 = .ok (.iload_n 3, 1) := by decide +kernel
theorem dX11_write_35 : decode cX11_write 35 = .ok (.aload_n 0, 1) := by decide +kernel
theorem dX11_write_36 : decode cX11_write 36 = .ok (.getfield 7, 3) := by decide +kernel
theorem dX11_write_39 : decode cX11_write 39 = .ok (.iload_n 1, 1) := by decide +kernel
theorem dX11_write_40 : decode cX11_write 40 = .ok (.iaload, 1) := by decide +kernel
theorem dX11_write_41 : decode cX11_write 41 = .ok (.if_icmp .ge 36, 3) := by decide +kernel
theorem dX11_write_44 : decode cX11_write 44 = .ok (.iload_n 3, 1) := by decide +kernel
theorem dX11_write_45 : decode cX11_write 45 = .ok (.aload_n 0, 1) := by decide +kernel
theorem dX11_write_46 : decode cX11_write 46 = .ok (.getfield 48, 3) := by decide +kernel
theorem dX11_write_49 : decode cX11_write 49 = .ok (.iload_n 2, 1) := by decide +kernel
theorem dX11_write_50 : decode cX11_write 50 = .ok (.iaload, 1) := by decide +kernel
theorem dX11_write_51 : decode cX11_write 51 = .ok (.if_icmp .ge 26, 3) := by decide +kernel
theorem dX11_write_54 : decode cX11_write 54 = .ok (.aload_n 0, 1) := by decide +kernel
theorem dX11_write_55 : decode cX11_write 55 = .ok (.iload_n 2, 1) := by decide +kernel
theorem dX11_write_56 : decode cX11_write 56 = .ok (.iload_n 3, 1) := by decide +kernel
theorem dX11_write_57 : decode cX11_write 57 = .ok (.aload_n 0, 1) := by decide +kernel
theorem dX11_write_58 : decode cX11_write 58 = .ok (.getfield 13, 3) := by decide +kernel
theorem dX11_write_61 : decode cX11_write 61 = .ok (.bipush 15, 2) := by decide +kernel
theorem dX11_write_63 : decode cX11_write 63 = .ok (.iload_n 1, 1) := by decide +kernel
theorem dX11_write_64 : decode cX11_write 64 = .ok (.imul, 1) := by decide +kernel
theorem dX11_write_65 : decode cX11_write 65 = .ok (.iload_n 3, 1) := by decide +kernel
theorem dX11_write_66 : decode cX11_write 66 = .ok (.iadd, 1) := by decide +kernel
theorem dX11_write_67 : decode cX11_write 67 = .ok (.iaload, 1) := by decide +kernel
theorem dX11_write_68 : decode cX11_write 68 = .ok (.invokevirtual 209, 3) := by decide +kernel
theorem dX11_write_71 : decode cX11_write 71 = .ok (.iinc 3 1, 3) := by decide +kernel
theorem dX11_write_74 : decode cX11_write 74 = .ok (.goto (-40), 3) := by decide +kernel
theorem dX11_write_77 : decode cX11_write 77 = .ok (.iload_n 3, 1) := by decide +kernel
theorem dX11_write_78 : decode cX11_write 78 = .ok (.ireturn, 1) := by decide +kernel
theorem dX11_wholeOnes_0 : decode cX11_wholeOnes 0 = .ok (.iconst 0, 1) := by decide +kernel
theorem dX11_wholeOnes_1 : decode cX11_wholeOnes 1 = .ok (.istore_n 1, 1) := by decide +kernel
theorem dX11_wholeOnes_2 : decode cX11_wholeOnes 2 = .ok (.iconst 0, 1) := by decide +kernel
theorem dX11_wholeOnes_3 : decode cX11_wholeOnes 3 = .ok (.istore_n 2, 1) := by decide +kernel
theorem dX11_wholeOnes_4 : decode cX11_wholeOnes 4 = .ok (.iload_n 2, 1) := by decide +kernel
theorem dX11_wholeOnes_5 : decode cX11_wholeOnes 5 = .ok (.iconst 4, 1) := by decide +kernel
theorem dX11_wholeOnes_6 : decode cX11_wholeOnes 6 = .ok (.if_icmp .ge 27, 3) := by decide +kernel
theorem dX11_wholeOnes_9 : decode cX11_wholeOnes 9 = .ok (.iload_n 1, 1) := by decide +kernel
theorem dX11_wholeOnes_10 : decode cX11_wholeOnes 10 = .ok (.aload_n 0, 1) := by decide +kernel
theorem dX11_wholeOnes_11 : decode cX11_wholeOnes 11 = .ok (.iload_n 2, 1) := by decide +kernel
theorem dX11_wholeOnes_12 : decode cX11_wholeOnes 12 = .ok (.invokevirtual 87, 3) := by decide +kernel
theorem dX11_wholeOnes_15 : decode cX11_wholeOnes 15 = .ok (.ifCond .eq 9, 3) := by decide +kernel
theorem dX11_wholeOnes_18 : decode cX11_wholeOnes 18 = .ok (.iconst 1, 1) := by decide +kernel
theorem dX11_wholeOnes_19 : decode cX11_wholeOnes 19 = .ok (.iload_n 2, 1) := by decide +kernel
theorem dX11_wholeOnes_20 : decode cX11_wholeOnes 20 = .ok (.ishl, 1) := by decide +kernel
theorem dX11_wholeOnes_21 : decode cX11_wholeOnes 21 = .ok (.goto 4, 3) := by decide +kernel
theorem dX11_wholeOnes_24 : decode cX11_wholeOnes 24 = .ok (.iconst 0, 1) := by decide +kernel
theorem dX11_wholeOnes_25 : decode cX11_wholeOnes 25 = .ok (.ior, 1) := by decide +kernel
theorem dX11_wholeOnes_26 : decode cX11_wholeOnes 26 = .ok (.istore_n 1, 1) := by decide +kernel
theorem dX11_wholeOnes_27 : decode cX11_wholeOnes 27 = .ok (.iinc 2 1, 3) := by decide +kernel
theorem dX11_wholeOnes_30 : decode cX11_wholeOnes 30 = .ok (.goto (-26), 3) := by decide +kernel
theorem dX11_wholeOnes_33 : decode cX11_wholeOnes 33 = .ok (.iload_n 1, 1) := by decide +kernel
theorem dX11_wholeOnes_34 : decode cX11_wholeOnes 34 = .ok (.ireturn, 1) := by decide +kernel
theorem dX11_count_0 : decode cX11_count 0 = .ok (.iload_n 1, 1) := by decide +kernel
theorem dX11_count_1 : decode cX11_count 1 = .ok (.tableswitch 83 0 8 #[51, 51, 51, 51, 58, 63, 68, 73, 78], 51) := by decide +kernel
theorem dX11_count_52 : decode cX11_count 52 = .ok (.aload_n 0, 1) := by decide +kernel
theorem dX11_count_53 : decode cX11_count 53 = .ok (.getfield 7, 3) := by decide +kernel
theorem dX11_count_56 : decode cX11_count 56 = .ok (.iload_n 1, 1) := by decide +kernel
theorem dX11_count_57 : decode cX11_count 57 = .ok (.iaload, 1) := by decide +kernel
theorem dX11_count_58 : decode cX11_count 58 = .ok (.ireturn, 1) := by decide +kernel
theorem dX11_count_59 : decode cX11_count 59 = .ok (.aload_n 0, 1) := by decide +kernel
theorem dX11_count_60 : decode cX11_count 60 = .ok (.getfield 100, 3) := by decide +kernel
theorem dX11_count_63 : decode cX11_count 63 = .ok (.ireturn, 1) := by decide +kernel
theorem dX11_count_64 : decode cX11_count 64 = .ok (.aload_n 0, 1) := by decide +kernel
theorem dX11_count_65 : decode cX11_count 65 = .ok (.getfield 16, 3) := by decide +kernel
theorem dX11_count_68 : decode cX11_count 68 = .ok (.ireturn, 1) := by decide +kernel
theorem dX11_count_69 : decode cX11_count 69 = .ok (.aload_n 0, 1) := by decide +kernel
theorem dX11_count_70 : decode cX11_count 70 = .ok (.getfield 20, 3) := by decide +kernel
theorem dX11_count_73 : decode cX11_count 73 = .ok (.ireturn, 1) := by decide +kernel
theorem dX11_count_74 : decode cX11_count 74 = .ok (.aload_n 0, 1) := by decide +kernel
theorem dX11_count_75 : decode cX11_count 75 = .ok (.invokevirtual 213, 3) := by decide +kernel
theorem dX11_count_78 : decode cX11_count 78 = .ok (.ireturn, 1) := by decide +kernel
theorem dX11_count_79 : decode cX11_count 79 = .ok (.aload_n 0, 1) := by decide +kernel
theorem dX11_count_80 : decode cX11_count 80 = .ok (.getfield 203, 3) := by decide +kernel
theorem dX11_count_83 : decode cX11_count 83 = .ok (.ireturn, 1) := by decide +kernel
theorem dX11_count_84 : decode cX11_count 84 = .ok (.bipush (-2), 2) := by decide +kernel
theorem dX11_count_86 : decode cX11_count 86 = .ok (.ireturn, 1) := by decide +kernel
theorem dX11_digest_0 : decode cX11_digest 0 = .ok (.ldc2_w 216, 3) := by decide +kernel
theorem dX11_digest_3 : decode cX11_digest 3 = .ok (.lstore_n 1, 1) := by decide +kernel
theorem dX11_digest_4 : decode cX11_digest 4 = .ok (.iconst 0, 1) := by decide +kernel
theorem dX11_digest_5 : decode cX11_digest 5 = .ok (.istore_n 3, 1) := by decide +kernel
theorem dX11_digest_6 : decode cX11_digest 6 = .ok (.iload_n 3, 1) := by decide +kernel
theorem dX11_digest_7 : decode cX11_digest 7 = .ok (.bipush 8, 2) := by decide +kernel
theorem dX11_digest_9 : decode cX11_digest 9 = .ok (.if_icmp .ge 22, 3) := by decide +kernel
theorem dX11_digest_12 : decode cX11_digest 12 = .ok (.ldc2_w 218, 3) := by decide +kernel
theorem dX11_digest_15 : decode cX11_digest 15 = .ok (.lload_n 1, 1) := by decide +kernel
theorem dX11_digest_16 : decode cX11_digest 16 = .ok (.lmul, 1) := by decide +kernel
theorem dX11_digest_17 : decode cX11_digest 17 = .ok (.aload_n 0, 1) := by decide +kernel
theorem dX11_digest_18 : decode cX11_digest 18 = .ok (.iload_n 3, 1) := by decide +kernel
theorem dX11_digest_19 : decode cX11_digest 19 = .ok (.invokevirtual 220, 3) := by decide +kernel
theorem dX11_digest_22 : decode cX11_digest 22 = .ok (.i2l, 1) := by decide +kernel
theorem dX11_digest_23 : decode cX11_digest 23 = .ok (.ladd, 1) := by decide +kernel
theorem dX11_digest_24 : decode cX11_digest 24 = .ok (.lstore_n 1, 1) := by decide +kernel
theorem dX11_digest_25 : decode cX11_digest 25 = .ok (.iinc 3 1, 3) := by decide +kernel
theorem dX11_digest_28 : decode cX11_digest 28 = .ok (.goto (-22), 3) := by decide +kernel
theorem dX11_digest_31 : decode cX11_digest 31 = .ok (.iconst 0, 1) := by decide +kernel
theorem dX11_digest_32 : decode cX11_digest 32 = .ok (.istore_n 3, 1) := by decide +kernel
theorem dX11_digest_33 : decode cX11_digest 33 = .ok (.iload_n 3, 1) := by decide +kernel
theorem dX11_digest_34 : decode cX11_digest 34 = .ok (.iconst 4, 1) := by decide +kernel
theorem dX11_digest_35 : decode cX11_digest 35 = .ok (.if_icmp .ge 80, 3) := by decide +kernel
theorem dX11_digest_38 : decode cX11_digest 38 = .ok (.iconst 0, 1) := by decide +kernel
theorem dX11_digest_39 : decode cX11_digest 39 = .ok (.istore 4, 2) := by decide +kernel
theorem dX11_digest_41 : decode cX11_digest 41 = .ok (.iload 4, 2) := by decide +kernel
theorem dX11_digest_43 : decode cX11_digest 43 = .ok (.aload_n 0, 1) := by decide +kernel
theorem dX11_digest_44 : decode cX11_digest 44 = .ok (.getfield 7, 3) := by decide +kernel
theorem dX11_digest_47 : decode cX11_digest 47 = .ok (.iload_n 3, 1) := by decide +kernel
theorem dX11_digest_48 : decode cX11_digest 48 = .ok (.iaload, 1) := by decide +kernel
theorem dX11_digest_49 : decode cX11_digest 49 = .ok (.if_icmp .ge 29, 3) := by decide +kernel
theorem dX11_digest_52 : decode cX11_digest 52 = .ok (.ldc2_w 218, 3) := by decide +kernel
theorem dX11_digest_55 : decode cX11_digest 55 = .ok (.lload_n 1, 1) := by decide +kernel
theorem dX11_digest_56 : decode cX11_digest 56 = .ok (.lmul, 1) := by decide +kernel
theorem dX11_digest_57 : decode cX11_digest 57 = .ok (.aload_n 0, 1) := by decide +kernel
theorem dX11_digest_58 : decode cX11_digest 58 = .ok (.getfield 13, 3) := by decide +kernel
theorem dX11_digest_61 : decode cX11_digest 61 = .ok (.bipush 15, 2) := by decide +kernel
theorem dX11_digest_63 : decode cX11_digest 63 = .ok (.iload_n 3, 1) := by decide +kernel
theorem dX11_digest_64 : decode cX11_digest 64 = .ok (.imul, 1) := by decide +kernel
theorem dX11_digest_65 : decode cX11_digest 65 = .ok (.iload 4, 2) := by decide +kernel
theorem dX11_digest_67 : decode cX11_digest 67 = .ok (.iadd, 1) := by decide +kernel
theorem dX11_digest_68 : decode cX11_digest 68 = .ok (.iaload, 1) := by decide +kernel
theorem dX11_digest_69 : decode cX11_digest 69 = .ok (.i2l, 1) := by decide +kernel
theorem dX11_digest_70 : decode cX11_digest 70 = .ok (.ladd, 1) := by decide +kernel
theorem dX11_digest_71 : decode cX11_digest 71 = .ok (.lstore_n 1, 1) := by decide +kernel
theorem dX11_digest_72 : decode cX11_digest 72 = .ok (.iinc 4 1, 3) := by decide +kernel
theorem dX11_digest_75 : decode cX11_digest 75 = .ok (.goto (-34), 3) := by decide +kernel
theorem dX11_digest_78 : decode cX11_digest 78 = .ok (.iconst 0, 1) := by decide +kernel
theorem dX11_digest_79 : decode cX11_digest 79 = .ok (.istore 4, 2) := by decide +kernel
theorem dX11_digest_81 : decode cX11_digest 81 = .ok (.iload 4, 2) := by decide +kernel
theorem dX11_digest_83 : decode cX11_digest 83 = .ok (.bipush 7, 2) := by decide +kernel
theorem dX11_digest_85 : decode cX11_digest 85 = .ok (.if_icmp .ge 24, 3) := by decide +kernel
theorem dX11_digest_88 : decode cX11_digest 88 = .ok (.ldc2_w 218, 3) := by decide +kernel
theorem dX11_digest_91 : decode cX11_digest 91 = .ok (.lload_n 1, 1) := by decide +kernel
theorem dX11_digest_92 : decode cX11_digest 92 = .ok (.lmul, 1) := by decide +kernel
theorem dX11_digest_93 : decode cX11_digest 93 = .ok (.aload_n 0, 1) := by decide +kernel
theorem dX11_digest_94 : decode cX11_digest 94 = .ok (.iload_n 3, 1) := by decide +kernel
theorem dX11_digest_95 : decode cX11_digest 95 = .ok (.iload 4, 2) := by decide +kernel
theorem dX11_digest_97 : decode cX11_digest 97 = .ok (.invokevirtual 97, 3) := by decide +kernel
theorem dX11_digest_100 : decode cX11_digest 100 = .ok (.i2l, 1) := by decide +kernel
theorem dX11_digest_101 : decode cX11_digest 101 = .ok (.ladd, 1) := by decide +kernel
theorem dX11_digest_102 : decode cX11_digest 102 = .ok (.lstore_n 1, 1) := by decide +kernel
theorem dX11_digest_103 : decode cX11_digest 103 = .ok (.iinc 4 1, 3) := by decide +kernel
theorem dX11_digest_106 : decode cX11_digest 106 = .ok (.goto (-25), 3) := by decide +kernel
theorem dX11_digest_109 : decode cX11_digest 109 = .ok (.iinc 3 1, 3) := by decide +kernel
theorem dX11_digest_112 : decode cX11_digest 112 = .ok (.goto (-79), 3) := by decide +kernel
theorem dX11_digest_115 : decode cX11_digest 115 = .ok (.ldc2_w 218, 3) := by decide +kernel
theorem dX11_digest_118 : decode cX11_digest 118 = .ok (.lload_n 1, 1) := by decide +kernel
theorem dX11_digest_119 : decode cX11_digest 119 = .ok (.lmul, 1) := by decide +kernel
theorem dX11_digest_120 : decode cX11_digest 120 = .ok (.aload_n 0, 1) := by decide +kernel
theorem dX11_digest_121 : decode cX11_digest 121 = .ok (.invokevirtual 127, 3) := by decide +kernel
theorem dX11_digest_124 : decode cX11_digest 124 = .ok (.i2l, 1) := by decide +kernel
theorem dX11_digest_125 : decode cX11_digest 125 = .ok (.ladd, 1) := by decide +kernel
theorem dX11_digest_126 : decode cX11_digest 126 = .ok (.lstore_n 1, 1) := by decide +kernel
theorem dX11_digest_127 : decode cX11_digest 127 = .ok (.ldc2_w 218, 3) := by decide +kernel
theorem dX11_digest_130 : decode cX11_digest 130 = .ok (.lload_n 1, 1) := by decide +kernel
theorem dX11_digest_131 : decode cX11_digest 131 = .ok (.lmul, 1) := by decide +kernel
theorem dX11_digest_132 : decode cX11_digest 132 = .ok (.aload_n 0, 1) := by decide +kernel
theorem dX11_digest_133 : decode cX11_digest 133 = .ok (.bipush 10, 2) := by decide +kernel
theorem dX11_digest_135 : decode cX11_digest 135 = .ok (.iconst (-1), 1) := by decide +kernel
theorem dX11_digest_136 : decode cX11_digest 136 = .ok (.invokevirtual 134, 3) := by decide +kernel
theorem dX11_digest_139 : decode cX11_digest 139 = .ok (.i2l, 1) := by decide +kernel
theorem dX11_digest_140 : decode cX11_digest 140 = .ok (.ladd, 1) := by decide +kernel
theorem dX11_digest_141 : decode cX11_digest 141 = .ok (.lstore_n 1, 1) := by decide +kernel
theorem dX11_digest_142 : decode cX11_digest 142 = .ok (.ldc2_w 218, 3) := by decide +kernel
theorem dX11_digest_145 : decode cX11_digest 145 = .ok (.lload_n 1, 1) := by decide +kernel
theorem dX11_digest_146 : decode cX11_digest 146 = .ok (.lmul, 1) := by decide +kernel
theorem dX11_digest_147 : decode cX11_digest 147 = .ok (.aload_n 0, 1) := by decide +kernel
theorem dX11_digest_148 : decode cX11_digest 148 = .ok (.iconst 0, 1) := by decide +kernel
theorem dX11_digest_149 : decode cX11_digest 149 = .ok (.invokevirtual 195, 3) := by decide +kernel
theorem dX11_digest_152 : decode cX11_digest 152 = .ok (.ladd, 1) := by decide +kernel
theorem dX11_digest_153 : decode cX11_digest 153 = .ok (.lstore_n 1, 1) := by decide +kernel
theorem dX11_digest_154 : decode cX11_digest 154 = .ok (.ldc2_w 218, 3) := by decide +kernel
theorem dX11_digest_157 : decode cX11_digest 157 = .ok (.lload_n 1, 1) := by decide +kernel
theorem dX11_digest_158 : decode cX11_digest 158 = .ok (.lmul, 1) := by decide +kernel
theorem dX11_digest_159 : decode cX11_digest 159 = .ok (.aload_n 0, 1) := by decide +kernel
theorem dX11_digest_160 : decode cX11_digest 160 = .ok (.iconst 1, 1) := by decide +kernel
theorem dX11_digest_161 : decode cX11_digest 161 = .ok (.invokevirtual 195, 3) := by decide +kernel
theorem dX11_digest_164 : decode cX11_digest 164 = .ok (.ladd, 1) := by decide +kernel
theorem dX11_digest_165 : decode cX11_digest 165 = .ok (.lstore_n 1, 1) := by decide +kernel
theorem dX11_digest_166 : decode cX11_digest 166 = .ok (.aload_n 0, 1) := by decide +kernel
theorem dX11_digest_167 : decode cX11_digest 167 = .ok (.iconst 0, 1) := by decide +kernel
theorem dX11_digest_168 : decode cX11_digest 168 = .ok (.invokevirtual 154, 3) := by decide +kernel
theorem dX11_digest_171 : decode cX11_digest 171 = .ok (.ldc2_w 218, 3) := by decide +kernel
theorem dX11_digest_174 : decode cX11_digest 174 = .ok (.lload_n 1, 1) := by decide +kernel
theorem dX11_digest_175 : decode cX11_digest 175 = .ok (.lmul, 1) := by decide +kernel
theorem dX11_digest_176 : decode cX11_digest 176 = .ok (.iconst 1, 1) := by decide +kernel
theorem dX11_digest_177 : decode cX11_digest 177 = .ok (.aload_n 0, 1) := by decide +kernel
theorem dX11_digest_178 : decode cX11_digest 178 = .ok (.getfield 151, 3) := by decide +kernel
theorem dX11_digest_181 : decode cX11_digest 181 = .ok (.ishl, 1) := by decide +kernel
theorem dX11_digest_182 : decode cX11_digest 182 = .ok (.i2l, 1) := by decide +kernel
theorem dX11_digest_183 : decode cX11_digest 183 = .ok (.ladd, 1) := by decide +kernel
theorem dX11_digest_184 : decode cX11_digest 184 = .ok (.lreturn, 1) := by decide +kernel
end
section
set_option maxRecDepth 20000 in
theorem ggX0_learn_J6_bitCount_0f7a4 : GoodIn wsX0_learn wsJ6_bitCount_0f7a4 := goodIn_r _ [10, 11, 12, 13] (by decide +kernel) (by decide +kernel)
set_option maxRecDepth 20000 in
theorem gX0_learn_J6_bitCount_0f7a4 : GoodIn wsX0_learn (va_wsS RX0 27 yJ6_bitCount_0f7a4 wsJ6_bitCount_0f7a4) := goodIn_app (goodIn_of _ (by decide +kernel)) ggX0_learn_J6_bitCount_0f7a4
set_option maxRecDepth 20000 in
theorem ggX0_learn_X6_hold : GoodIn wsX0_learn wsX6_hold := goodIn_r _ [18, 19, 20, 21, 22, 23, 24, 25, 26, 27, 28, 29, 30, 31, 8, 9, 10, 11, 12, 13, 32, 33, 34, 35, 36, 37, 38, 39, 40, 41, 42, 43, 44, 45, 46, 47, 48, 49, 50, 51, 17, 52, 53, 54, 61, 62, 63, 64, 65, 66, 67, 68, 69] (by decide +kernel) (by decide +kernel)
set_option maxRecDepth 20000 in
theorem gX0_learn_X6_hold : GoodIn wsX0_learn (wsV RX0 39 RX6 yX6_hold wsX6_hold) := goodIn_app (goodIn_of _ (by decide +kernel)) ggX0_learn_X6_hold
set_option maxRecDepth 20000 in
theorem ggX1_part_X1_commonDivisor : GoodIn wsX1_part wsX1_commonDivisor := goodIn_r _ [4] (by decide +kernel) (by decide +kernel)
set_option maxRecDepth 20000 in
theorem gX1_part_X1_commonDivisor : GoodIn wsX1_part (va_wsS RX1 7 yX1_commonDivisor wsX1_commonDivisor) := goodIn_app (goodIn_of _ (by decide +kernel)) ggX1_part_X1_commonDivisor
set_option maxRecDepth 20000 in
theorem ggX2_howMany_J6_bitCount_0f7a4 : GoodIn wsX2_howMany wsJ6_bitCount_0f7a4 := goodIn_r _ [6, 7, 8, 9] (by decide +kernel) (by decide +kernel)
set_option maxRecDepth 20000 in
theorem gX2_howMany_J6_bitCount_0f7a4 : GoodIn wsX2_howMany (va_wsS RX2 13 yJ6_bitCount_0f7a4 wsJ6_bitCount_0f7a4) := goodIn_app (goodIn_of _ (by decide +kernel)) ggX2_howMany_J6_bitCount_0f7a4
set_option maxRecDepth 20000 in
theorem ggX2_lowest_J6_bitCount_0f7a4 : GoodIn wsX2_lowest wsJ6_bitCount_0f7a4 := goodIn_r _ [5, 6, 7, 8] (by decide +kernel) (by decide +kernel)
set_option maxRecDepth 20000 in
theorem gX2_lowest_J6_bitCount_0f7a4 : GoodIn wsX2_lowest (va_wsS RX2 13 yJ6_bitCount_0f7a4 wsJ6_bitCount_0f7a4) := goodIn_app (goodIn_of _ (by decide +kernel)) ggX2_lowest_J6_bitCount_0f7a4
set_option maxRecDepth 20000 in
theorem ggX2_heat_J6_bitCount_0f7a4 : GoodIn wsX2_heat wsJ6_bitCount_0f7a4 := goodIn_r _ [5, 6, 7, 8] (by decide +kernel) (by decide +kernel)
set_option maxRecDepth 20000 in
theorem gX2_heat_J6_bitCount_0f7a4 : GoodIn wsX2_heat (va_wsS RX2 13 yJ6_bitCount_0f7a4 wsJ6_bitCount_0f7a4) := goodIn_app (goodIn_of _ (by decide +kernel)) ggX2_heat_J6_bitCount_0f7a4
set_option maxRecDepth 20000 in
theorem ggX3_measure_J6_bitCount_0f7a4 : GoodIn wsX3_measure wsJ6_bitCount_0f7a4 := goodIn_r _ [8, 9, 10, 11] (by decide +kernel) (by decide +kernel)
set_option maxRecDepth 20000 in
theorem gX3_measure_J6_bitCount_0f7a4 : GoodIn wsX3_measure (va_wsS RX3 9 yJ6_bitCount_0f7a4 wsJ6_bitCount_0f7a4) := goodIn_app (goodIn_of _ (by decide +kernel)) ggX3_measure_J6_bitCount_0f7a4
set_option maxRecDepth 20000 in
theorem ggX3_measure_X3_runs : GoodIn wsX3_measure wsX3_runs := goodIn_r _ [15, 5, 6, 7, 8, 9, 10, 11] (by decide +kernel) (by decide +kernel)
set_option maxRecDepth 20000 in
theorem gX3_measure_X3_runs : GoodIn wsX3_measure (va_wsS RX3 15 yX3_runs wsX3_runs) := goodIn_app (goodIn_of _ (by decide +kernel)) ggX3_measure_X3_runs
set_option maxRecDepth 20000 in
theorem ggX3_measure_X3_longestRun : GoodIn wsX3_measure wsX3_longestRun := goodIn_r _ [18] (by decide +kernel) (by decide +kernel)
set_option maxRecDepth 20000 in
theorem gX3_measure_X3_longestRun : GoodIn wsX3_measure (va_wsS RX3 21 yX3_longestRun wsX3_longestRun) := goodIn_app (goodIn_of _ (by decide +kernel)) ggX3_measure_X3_longestRun
set_option maxRecDepth 20000 in
theorem ggX3_measure_X3_firstHit : GoodIn wsX3_measure wsX3_firstHit := goodIn_r _ [21] (by decide +kernel) (by decide +kernel)
set_option maxRecDepth 20000 in
theorem gX3_measure_X3_firstHit : GoodIn wsX3_measure (va_wsS RX3 29 yX3_firstHit wsX3_firstHit) := goodIn_app (goodIn_of _ (by decide +kernel)) ggX3_measure_X3_firstHit
set_option maxRecDepth 20000 in
theorem ggX3_measure_X4_timesIn : GoodIn wsX3_measure wsX4_timesIn := goodIn_r _ [25, 26, 27, 24, 28, 29, 6, 7, 8, 9, 10, 11] (by decide +kernel) (by decide +kernel)
set_option maxRecDepth 20000 in
theorem gX3_measure_X4_timesIn : GoodIn wsX3_measure (va_wsS RX3 32 yX4_timesIn wsX4_timesIn) := goodIn_app (goodIn_of _ (by decide +kernel)) ggX3_measure_X4_timesIn
set_option maxRecDepth 20000 in
theorem ggX3_runs_J6_bitCount_0f7a4 : GoodIn wsX3_runs wsJ6_bitCount_0f7a4 := goodIn_r _ [4, 5, 6, 7] (by decide +kernel) (by decide +kernel)
set_option maxRecDepth 20000 in
theorem gX3_runs_J6_bitCount_0f7a4 : GoodIn wsX3_runs (va_wsS RX3 9 yJ6_bitCount_0f7a4 wsJ6_bitCount_0f7a4) := goodIn_app (goodIn_of _ (by decide +kernel)) ggX3_runs_J6_bitCount_0f7a4
set_option maxRecDepth 20000 in
theorem ggX4_timesIn_X4_lengthOf : GoodIn wsX4_timesIn wsX4_lengthOf := goodIn_r _ [4] (by decide +kernel) (by decide +kernel)
set_option maxRecDepth 20000 in
theorem gX4_timesIn_X4_lengthOf : GoodIn wsX4_timesIn (va_wsS RX4 11 yX4_lengthOf wsX4_lengthOf) := goodIn_app (goodIn_of _ (by decide +kernel)) ggX4_timesIn_X4_lengthOf
set_option maxRecDepth 20000 in
theorem ggX4_timesIn_J6_bitCount_0f7a4 : GoodIn wsX4_timesIn wsJ6_bitCount_0f7a4 := goodIn_r _ [8, 9, 10, 11] (by decide +kernel) (by decide +kernel)
set_option maxRecDepth 20000 in
theorem gX4_timesIn_J6_bitCount_0f7a4 : GoodIn wsX4_timesIn (va_wsS RX4 15 yJ6_bitCount_0f7a4 wsJ6_bitCount_0f7a4) := goodIn_app (goodIn_of _ (by decide +kernel)) ggX4_timesIn_J6_bitCount_0f7a4
set_option maxRecDepth 20000 in
theorem ggX4_standsIn_X4_lengthOf : GoodIn wsX4_standsIn wsX4_lengthOf := goodIn_r _ [4] (by decide +kernel) (by decide +kernel)
set_option maxRecDepth 20000 in
theorem gX4_standsIn_X4_lengthOf : GoodIn wsX4_standsIn (va_wsS RX4 11 yX4_lengthOf wsX4_lengthOf) := goodIn_app (goodIn_of _ (by decide +kernel)) ggX4_standsIn_X4_lengthOf
set_option maxRecDepth 20000 in
theorem ggX4_standsIn_X4_timesIn : GoodIn wsX4_standsIn wsX4_timesIn := goodIn_r _ [7, 1, 2, 3, 4, 8, 9, 10, 11, 12, 13, 14] (by decide +kernel) (by decide +kernel)
set_option maxRecDepth 20000 in
theorem gX4_standsIn_X4_timesIn : GoodIn wsX4_standsIn (va_wsS RX4 20 yX4_timesIn wsX4_timesIn) := goodIn_app (goodIn_of _ (by decide +kernel)) ggX4_standsIn_X4_timesIn
set_option maxRecDepth 20000 in
theorem ggX4_lead_X4_lengthOf : GoodIn wsX4_lead wsX4_lengthOf := goodIn_r _ [5] (by decide +kernel) (by decide +kernel)
set_option maxRecDepth 20000 in
theorem gX4_lead_X4_lengthOf : GoodIn wsX4_lead (va_wsS RX4 11 yX4_lengthOf wsX4_lengthOf) := goodIn_app (goodIn_of _ (by decide +kernel)) ggX4_lead_X4_lengthOf
set_option maxRecDepth 20000 in
theorem ggX4_lead_J6_bitCount_0f7a4 : GoodIn wsX4_lead wsJ6_bitCount_0f7a4 := goodIn_r _ [9, 10, 11, 12] (by decide +kernel) (by decide +kernel)
set_option maxRecDepth 20000 in
theorem gX4_lead_J6_bitCount_0f7a4 : GoodIn wsX4_lead (va_wsS RX4 15 yJ6_bitCount_0f7a4 wsJ6_bitCount_0f7a4) := goodIn_app (goodIn_of _ (by decide +kernel)) ggX4_lead_J6_bitCount_0f7a4
set_option maxRecDepth 20000 in
theorem ggX4_lead_X4_chanceParts : GoodIn wsX4_lead wsX4_chanceParts := goodIn_r _ [15, 16, 17, 18, 19] (by decide +kernel) (by decide +kernel)
set_option maxRecDepth 20000 in
theorem gX4_lead_X4_chanceParts : GoodIn wsX4_lead (va_wsS RX4 24 yX4_chanceParts wsX4_chanceParts) := goodIn_app (goodIn_of _ (by decide +kernel)) ggX4_lead_X4_chanceParts
set_option maxRecDepth 20000 in
theorem ggX4_lead_X1_power : GoodIn wsX4_lead wsX1_power := goodIn_r _ [19] (by decide +kernel) (by decide +kernel)
set_option maxRecDepth 20000 in
theorem gX4_lead_X1_power : GoodIn wsX4_lead (va_wsS RX4 30 yX1_power wsX1_power) := goodIn_app (goodIn_of _ (by decide +kernel)) ggX4_lead_X1_power
set_option maxRecDepth 20000 in
theorem ggX4_leadUnit_X4_chanceParts : GoodIn wsX4_leadUnit wsX4_chanceParts := goodIn_r _ [4, 5, 6, 7, 8] (by decide +kernel) (by decide +kernel)
set_option maxRecDepth 20000 in
theorem gX4_leadUnit_X4_chanceParts : GoodIn wsX4_leadUnit (va_wsS RX4 24 yX4_chanceParts wsX4_chanceParts) := goodIn_app (goodIn_of _ (by decide +kernel)) ggX4_leadUnit_X4_chanceParts
set_option maxRecDepth 20000 in
theorem ggX4_chanceParts_X1_power : GoodIn wsX4_chanceParts wsX1_power := goodIn_r _ [4] (by decide +kernel) (by decide +kernel)
set_option maxRecDepth 20000 in
theorem gX4_chanceParts_X1_power : GoodIn wsX4_chanceParts (va_wsS RX4 30 yX1_power wsX1_power) := goodIn_app (goodIn_of _ (by decide +kernel)) ggX4_chanceParts_X1_power
set_option maxRecDepth 20000 in
theorem ggX6_append_X6_goesOn : GoodIn wsX6_append wsX6_goesOn := goodIn_r _ [7, 8, 9, 10, 11, 6, 12, 13, 14, 15, 16, 17, 18, 19, 20, 21, 22, 23, 24, 25, 26, 27, 28, 29, 30, 31, 32, 33, 34, 35, 36, 37, 38, 39, 40, 41, 42, 43, 44, 45, 46, 47, 48, 49, 50, 51, 52, 53, 54, 55, 56, 57, 58, 59, 60, 61, 62, 63, 64, 65, 66, 67, 68, 69, 70, 71, 72, 73, 74, 75, 76, 77, 78, 79, 80, 81, 82, 83, 84, 85, 86, 87, 88, 89, 90, 91, 92, 93, 94, 95, 96, 97, 98, 99, 100, 101, 102, 103, 104, 105, 106, 107, 108, 109, 110, 111, 112, 113, 114, 115, 116, 117, 118, 119, 120, 121, 122, 123, 124, 125, 126, 127, 128, 129, 130, 131] (by decide +kernel) (by decide +kernel)
set_option maxRecDepth 20000 in
theorem gX6_append_X6_goesOn : GoodIn wsX6_append (wsV RX6 41 RX6 yX6_goesOn wsX6_goesOn) := goodIn_app (goodIn_of _ (by decide +kernel)) ggX6_append_X6_goesOn
set_option maxRecDepth 20000 in
theorem ggX6_isFaulty_X6_faultPlace : GoodIn wsX6_isFaulty wsX6_faultPlace := goodIn_r _ [5, 6, 7, 8, 9, 10, 11, 12, 13, 14, 15, 16, 17] (by decide +kernel) (by decide +kernel)
set_option maxRecDepth 20000 in
theorem gX6_isFaulty_X6_faultPlace : GoodIn wsX6_isFaulty (wsV RX6 45 RX6 yX6_faultPlace wsX6_faultPlace) := goodIn_app (goodIn_of _ (by decide +kernel)) ggX6_isFaulty_X6_faultPlace
set_option maxRecDepth 20000 in
theorem ggX6_goesOn_X6_takesLetter : GoodIn wsX6_goesOn wsX6_takesLetter := goodIn_r _ [6, 7, 8, 1, 9, 10, 11, 12, 13, 14, 15, 16, 17, 18, 19, 20, 21, 22, 23, 24, 25, 26, 27, 28, 29, 30, 31, 32, 33, 34, 35, 36, 37, 38, 39, 40, 41, 42, 43, 44, 45, 46, 47, 48, 49, 50, 51, 52, 53, 54, 55, 56, 57, 58, 59, 60, 61, 62, 63, 64, 65, 66, 67, 68, 69, 70, 71, 72, 73, 74, 75, 76, 77, 78, 79, 80, 81, 82, 83, 84, 85, 86, 87, 88, 89, 90, 91, 92, 93, 94, 95, 96, 97, 117, 118, 119, 120, 121, 122, 123, 124, 125] (by decide +kernel) (by decide +kernel)
set_option maxRecDepth 20000 in
theorem gX6_goesOn_X6_takesLetter : GoodIn wsX6_goesOn (wsV RX6 49 RX6 yX6_takesLetter wsX6_takesLetter) := goodIn_app (goodIn_of _ (by decide +kernel)) ggX6_goesOn_X6_takesLetter
set_option maxRecDepth 20000 in
theorem ggX6_goesOn_X6_takesRelation : GoodIn wsX6_goesOn wsX6_takesRelation := goodIn_r _ [101, 7, 102, 1, 117, 118, 119, 120, 121, 122, 123, 124, 125] (by decide +kernel) (by decide +kernel)
set_option maxRecDepth 20000 in
theorem gX6_goesOn_X6_takesRelation : GoodIn wsX6_goesOn (wsV RX6 52 RX6 yX6_takesRelation wsX6_takesRelation) := goodIn_app (goodIn_of _ (by decide +kernel)) ggX6_goesOn_X6_takesRelation
set_option maxRecDepth 20000 in
theorem ggX6_goesOn_X6_takesFigure : GoodIn wsX6_goesOn wsX6_takesFigure := goodIn_r _ [106, 7, 107, 1, 117, 118, 119, 120, 121, 122, 123, 124, 125] (by decide +kernel) (by decide +kernel)
set_option maxRecDepth 20000 in
theorem gX6_goesOn_X6_takesFigure : GoodIn wsX6_goesOn (wsV RX6 55 RX6 yX6_takesFigure wsX6_takesFigure) := goodIn_app (goodIn_of _ (by decide +kernel)) ggX6_goesOn_X6_takesFigure
set_option maxRecDepth 20000 in
theorem ggX6_goesOn_X6_takesSecondFigure : GoodIn wsX6_goesOn wsX6_takesSecondFigure := goodIn_r _ [111, 7, 107, 1, 117, 118, 119, 120, 121, 122, 123, 124, 125] (by decide +kernel) (by decide +kernel)
set_option maxRecDepth 20000 in
theorem gX6_goesOn_X6_takesSecondFigure : GoodIn wsX6_goesOn (wsV RX6 58 RX6 yX6_takesSecondFigure wsX6_takesSecondFigure) := goodIn_app (goodIn_of _ (by decide +kernel)) ggX6_goesOn_X6_takesSecondFigure
set_option maxRecDepth 20000 in
theorem ggX6_goesOn_X6_takesJoint : GoodIn wsX6_goesOn wsX6_takesJoint := goodIn_r _ [115, 7, 116, 1, 117, 118, 119, 120, 121, 122, 123, 124, 125] (by decide +kernel) (by decide +kernel)
set_option maxRecDepth 20000 in
theorem gX6_goesOn_X6_takesJoint : GoodIn wsX6_goesOn (wsV RX6 61 RX6 yX6_takesJoint wsX6_takesJoint) := goodIn_app (goodIn_of _ (by decide +kernel)) ggX6_goesOn_X6_takesJoint
set_option maxRecDepth 20000 in
theorem ggX6_takesLetter_J0_indexOf_0f7a4 : GoodIn wsX6_takesLetter wsJ0_indexOf_0f7a4 := goodIn_r _ [8, 9, 10, 11, 7, 12, 13, 14, 15, 16, 17, 18, 19, 20, 21, 22, 23, 24, 25, 26, 27, 28, 29, 30, 31, 32, 33, 34, 35, 36, 37, 38, 39, 40, 41, 42, 43, 44, 45, 46, 47, 48, 49, 50, 51, 52, 53, 54, 55, 56, 57, 58, 59, 60, 61, 62, 63, 64, 65, 66, 67, 68, 69, 70, 71, 72, 73, 74, 75, 76, 77, 78, 79, 80, 81, 82, 83, 84, 85, 86, 87, 88, 89, 90, 91, 92] (by decide +kernel) (by decide +kernel)
set_option maxRecDepth 20000 in
theorem gX6_takesLetter_J0_indexOf_0f7a4 : GoodIn wsX6_takesLetter (wsV RX6 66 RJ0 yJ0_indexOf_0f7a4 wsJ0_indexOf_0f7a4) := goodIn_app (goodIn_of _ (by decide +kernel)) ggX6_takesLetter_J0_indexOf_0f7a4
set_option maxRecDepth 20000 in
theorem ggX6_hold_X3_measure : GoodIn wsX6_hold wsX3_measure := goodIn_r _ [8, 9, 10, 11, 12, 13, 14, 15, 16, 17, 18, 19, 20, 21, 7, 22, 23, 24, 25, 26, 27, 28, 29, 30, 31, 32, 33, 34, 35, 36] (by decide +kernel) (by decide +kernel)
set_option maxRecDepth 20000 in
theorem gX6_hold_X3_measure : GoodIn wsX6_hold (va_wsS RX6 72 yX3_measure wsX3_measure) := goodIn_app (goodIn_of _ (by decide +kernel)) ggX6_hold_X3_measure
set_option maxRecDepth 20000 in
theorem ggX6_hold_X6_isDone : GoodIn wsX6_hold wsX6_isDone := goodIn_r _ [41, 4, 3, 42, 43, 44, 45, 46, 47, 48, 49, 50, 51, 52] (by decide +kernel) (by decide +kernel)
set_option maxRecDepth 20000 in
theorem gX6_hold_X6_isDone : GoodIn wsX6_hold (wsV RX6 78 RX6 yX6_isDone wsX6_isDone) := goodIn_app (goodIn_of _ (by decide +kernel)) ggX6_hold_X6_isDone
set_option maxRecDepth 20000 in
theorem ggX8_learn_X6_hold : GoodIn wsX8_learn wsX6_hold := goodIn_r _ [7, 8, 9, 10, 11, 12, 13, 14, 15, 16, 17, 18, 19, 20, 21, 22, 23, 24, 25, 26, 27, 28, 29, 30, 31, 32, 33, 34, 35, 36, 37, 38, 39, 40, 41, 42, 43, 44, 45, 46, 6, 47, 48, 49, 53, 54, 55, 56, 57, 58, 59, 60, 61] (by decide +kernel) (by decide +kernel)
set_option maxRecDepth 20000 in
theorem gX8_learn_X6_hold : GoodIn wsX8_learn (wsV RX8 20 RX6 yX6_hold wsX6_hold) := goodIn_app (goodIn_of _ (by decide +kernel)) ggX8_learn_X6_hold
set_option maxRecDepth 20000 in
theorem ggX8_learn_J6_bitCount_0f7a4 : GoodIn wsX8_learn wsJ6_bitCount_0f7a4 := goodIn_r _ [23, 24, 25, 26] (by decide +kernel) (by decide +kernel)
set_option maxRecDepth 20000 in
theorem gX8_learn_J6_bitCount_0f7a4 : GoodIn wsX8_learn (va_wsS RX8 26 yJ6_bitCount_0f7a4 wsJ6_bitCount_0f7a4) := goodIn_app (goodIn_of _ (by decide +kernel)) ggX8_learn_J6_bitCount_0f7a4
set_option maxRecDepth 20000 in
theorem ggX9_sharePart_X1_power : GoodIn wsX9_sharePart wsX1_power := goodIn_r _ [5] (by decide +kernel) (by decide +kernel)
set_option maxRecDepth 20000 in
theorem gX9_sharePart_X1_power : GoodIn wsX9_sharePart (va_wsS RX9 9 yX1_power wsX1_power) := goodIn_app (goodIn_of _ (by decide +kernel)) ggX9_sharePart_X1_power
set_option maxRecDepth 20000 in
theorem ggX9_sharePart_X1_part : GoodIn wsX9_sharePart wsX1_part := goodIn_r _ [8, 9, 10, 4, 11] (by decide +kernel) (by decide +kernel)
set_option maxRecDepth 20000 in
theorem gX9_sharePart_X1_part : GoodIn wsX9_sharePart (va_wsS RX9 17 yX1_part wsX1_part) := goodIn_app (goodIn_of _ (by decide +kernel)) ggX9_sharePart_X1_part
set_option maxRecDepth 20000 in
theorem ggJ0_length_8abf5_J0_coder_7d493 : GoodIn wsJ0_length_8abf5 wsJ0_coder_7d493 := goodIn_r _ [6, 7, 8] (by decide +kernel) (by decide +kernel)
set_option maxRecDepth 20000 in
theorem gJ0_length_8abf5_J0_coder_7d493 : GoodIn wsJ0_length_8abf5 (wsV RJ0 335 RJ0 yJ0_coder_7d493 wsJ0_coder_7d493) := goodIn_app (goodIn_of _ (by decide +kernel)) ggJ0_length_8abf5_J0_coder_7d493
set_option maxRecDepth 20000 in
theorem ggJ0_indexOf_0f7a4_J0_indexOf_7cf53 : GoodIn wsJ0_indexOf_0f7a4 wsJ0_indexOf_7cf53 := goodIn_r _ [5, 6, 7, 8, 9, 4, 10, 11, 12, 13, 14, 15, 16, 17, 18, 19, 20, 21, 22, 23, 24, 25, 26, 27, 28, 29, 30, 31, 32, 33, 34, 35, 36, 37, 38, 39, 40, 41, 42, 43, 44, 45, 46, 47, 48, 49, 50, 51, 52, 53, 54, 55, 56, 57, 58, 59, 60, 61, 62, 63, 64, 65, 66, 67, 68, 69, 70, 71, 72, 73, 74, 75, 76, 77, 78, 79, 80, 81, 82, 83, 84, 85] (by decide +kernel) (by decide +kernel)
set_option maxRecDepth 20000 in
theorem gJ0_indexOf_0f7a4_J0_indexOf_7cf53 : GoodIn wsJ0_indexOf_0f7a4 (wsV RJ0 633 RJ0 yJ0_indexOf_7cf53 wsJ0_indexOf_7cf53) := goodIn_app (goodIn_of _ (by decide +kernel)) ggJ0_indexOf_0f7a4_J0_indexOf_7cf53
set_option maxRecDepth 20000 in
theorem ggJ0_indexOf_7cf53_J0_isLatin1_aae02 : GoodIn wsJ0_indexOf_7cf53 wsJ0_isLatin1_aae02 := goodIn_r _ [6, 7, 8] (by decide +kernel) (by decide +kernel)
set_option maxRecDepth 20000 in
theorem gJ0_indexOf_7cf53_J0_isLatin1_aae02 : GoodIn wsJ0_indexOf_7cf53 (wsV RJ0 492 RJ0 yJ0_isLatin1_aae02 wsJ0_isLatin1_aae02) := goodIn_app (goodIn_of _ (by decide +kernel)) ggJ0_indexOf_7cf53_J0_isLatin1_aae02
set_option maxRecDepth 20000 in
theorem ggJ0_indexOf_7cf53_J0_length_8abf5 : GoodIn wsJ0_indexOf_7cf53 wsJ0_length_8abf5 := goodIn_r _ [12, 1, 13, 14, 15, 5, 16, 7, 8] (by decide +kernel) (by decide +kernel)
set_option maxRecDepth 20000 in
theorem gJ0_indexOf_7cf53_J0_length_8abf5 : GoodIn wsJ0_indexOf_7cf53 (wsV RJ0 505 RJ0 yJ0_length_8abf5 wsJ0_length_8abf5) := goodIn_app (goodIn_of _ (by decide +kernel)) ggJ0_indexOf_7cf53_J0_length_8abf5
set_option maxRecDepth 20000 in
theorem ggJ0_indexOf_7cf53_J1_indexOf_4cfef : GoodIn wsJ0_indexOf_7cf53 wsJ1_indexOf_4cfef := goodIn_r _ [20, 21, 22, 23, 24, 25, 26, 27, 28, 29, 19, 30, 31, 32, 33] (by decide +kernel) (by decide +kernel)
set_option maxRecDepth 20000 in
theorem gJ0_indexOf_7cf53_J1_indexOf_4cfef : GoodIn wsJ0_indexOf_7cf53 (va_wsS RJ0 637 yJ1_indexOf_4cfef wsJ1_indexOf_4cfef) := goodIn_app (goodIn_of _ (by decide +kernel)) ggJ0_indexOf_7cf53_J1_indexOf_4cfef
set_option maxRecDepth 20000 in
theorem ggJ0_indexOf_7cf53_J2_indexOf_4cfef : GoodIn wsJ0_indexOf_7cf53 wsJ2_indexOf_4cfef := goodIn_r _ [37, 38, 22, 23, 24, 39, 26, 27, 40, 41, 42, 36, 43, 44, 45, 46, 47, 48, 49, 50, 51, 5, 52, 53, 54, 55, 56, 57, 58, 59, 60, 61, 62, 63, 64, 65, 66, 67, 68, 69, 70, 71, 72, 73, 74, 75, 76, 77, 78, 79, 80, 81] (by decide +kernel) (by decide +kernel)
set_option maxRecDepth 20000 in
theorem gJ0_indexOf_7cf53_J2_indexOf_4cfef : GoodIn wsJ0_indexOf_7cf53 (va_wsS RJ0 640 yJ2_indexOf_4cfef wsJ2_indexOf_4cfef) := goodIn_app (goodIn_of _ (by decide +kernel)) ggJ0_indexOf_7cf53_J2_indexOf_4cfef
set_option maxRecDepth 20000 in
theorem ggJ0_checkBoundsBeginEnd_23922_J3_checkFromToIndex_8c36e : GoodIn wsJ0_checkBoundsBeginEnd_23922 wsJ3_checkFromToIndex_8c36e := goodIn_r _ [5] (by decide +kernel) (by decide +kernel)
set_option maxRecDepth 20000 in
theorem gJ0_checkBoundsBeginEnd_23922_J3_checkFromToIndex_8c36e : GoodIn wsJ0_checkBoundsBeginEnd_23922 (va_wsS RJ0 1062 yJ3_checkFromToIndex_8c36e wsJ3_checkFromToIndex_8c36e) := goodIn_app (goodIn_of _ (by decide +kernel)) ggJ0_checkBoundsBeginEnd_23922_J3_checkFromToIndex_8c36e
set_option maxRecDepth 20000 in
theorem ggJ1_indexOf_4cfef_J1_canEncode_9a6ad : GoodIn wsJ1_indexOf_4cfef wsJ1_canEncode_9a6ad := goodIn_r _ [11] (by decide +kernel) (by decide +kernel)
set_option maxRecDepth 20000 in
theorem gJ1_indexOf_4cfef_J1_canEncode_9a6ad : GoodIn wsJ1_indexOf_4cfef (va_wsS RJ1 88 yJ1_canEncode_9a6ad wsJ1_canEncode_9a6ad) := goodIn_app (goodIn_of _ (by decide +kernel)) ggJ1_indexOf_4cfef_J1_canEncode_9a6ad
set_option maxRecDepth 20000 in
theorem ggJ1_indexOf_4cfef_J1_indexOfChar_4cfef : GoodIn wsJ1_indexOf_4cfef wsJ1_indexOfChar_4cfef := goodIn_r _ [14] (by decide +kernel) (by decide +kernel)
set_option maxRecDepth 20000 in
theorem gJ1_indexOf_4cfef_J1_indexOfChar_4cfef : GoodIn wsJ1_indexOf_4cfef (va_wsS RJ1 95 yJ1_indexOfChar_4cfef wsJ1_indexOfChar_4cfef) := goodIn_app (goodIn_of _ (by decide +kernel)) ggJ1_indexOf_4cfef_J1_indexOfChar_4cfef
set_option maxRecDepth 20000 in
theorem ggJ2_getChar_3b067_J2_length_9d52b : GoodIn wsJ2_getChar_3b067 wsJ2_length_9d52b := goodIn_r _ [7] (by decide +kernel) (by decide +kernel)
set_option maxRecDepth 20000 in
theorem gJ2_getChar_3b067_J2_length_9d52b : GoodIn wsJ2_getChar_3b067 (va_wsS RJ2 48 yJ2_length_9d52b wsJ2_length_9d52b) := goodIn_app (goodIn_of _ (by decide +kernel)) ggJ2_getChar_3b067_J2_length_9d52b
set_option maxRecDepth 20000 in
theorem ggJ2_indexOf_4cfef_J2_indexOfChar_4cfef : GoodIn wsJ2_indexOf_4cfef wsJ2_indexOfChar_4cfef := goodIn_r _ [12, 13, 14, 11, 15, 16, 17, 18, 19, 20, 21, 22, 23, 24, 25, 26, 27, 28, 29, 30, 31, 32, 33, 34, 35, 36] (by decide +kernel) (by decide +kernel)
set_option maxRecDepth 20000 in
theorem gJ2_indexOf_4cfef_J2_indexOfChar_4cfef : GoodIn wsJ2_indexOf_4cfef (va_wsS RJ2 228 yJ2_indexOfChar_4cfef wsJ2_indexOfChar_4cfef) := goodIn_app (goodIn_of _ (by decide +kernel)) ggJ2_indexOf_4cfef_J2_indexOfChar_4cfef
set_option maxRecDepth 20000 in
theorem ggJ2_indexOf_4cfef_J2_indexOfSupplementary_4cfef : GoodIn wsJ2_indexOf_4cfef wsJ2_indexOfSupplementary_4cfef := goodIn_r _ [39, 40, 41, 42, 43, 44, 45, 46, 47, 48, 49, 50, 51, 13, 14, 11, 15, 16, 17, 18, 19, 20, 21, 22, 23, 24, 25, 26, 27, 31, 32, 33, 34, 35, 36] (by decide +kernel) (by decide +kernel)
set_option maxRecDepth 20000 in
theorem gJ2_indexOf_4cfef_J2_indexOfSupplementary_4cfef : GoodIn wsJ2_indexOf_4cfef (va_wsS RJ2 232 yJ2_indexOfSupplementary_4cfef wsJ2_indexOfSupplementary_4cfef) := goodIn_app (goodIn_of _ (by decide +kernel)) ggJ2_indexOf_4cfef_J2_indexOfSupplementary_4cfef
set_option maxRecDepth 20000 in
theorem ggJ2_indexOfChar_4cfef_J2_checkBoundsBeginEnd_d044e : GoodIn wsJ2_indexOfChar_4cfef wsJ2_checkBoundsBeginEnd_d044e := goodIn_r _ [4, 5, 6, 3, 7, 8, 9, 10, 11, 12, 13, 14, 15, 16] (by decide +kernel) (by decide +kernel)
set_option maxRecDepth 20000 in
theorem gJ2_indexOfChar_4cfef_J2_checkBoundsBeginEnd_d044e : GoodIn wsJ2_indexOfChar_4cfef (va_wsS RJ2 96 yJ2_checkBoundsBeginEnd_d044e wsJ2_checkBoundsBeginEnd_d044e) := goodIn_app (goodIn_of _ (by decide +kernel)) ggJ2_indexOfChar_4cfef_J2_checkBoundsBeginEnd_d044e
set_option maxRecDepth 20000 in
theorem ggJ2_indexOfChar_4cfef_J2_indexOfCharUnsafe_4cfef : GoodIn wsJ2_indexOfChar_4cfef wsJ2_indexOfCharUnsafe_4cfef := goodIn_r _ [19, 20, 21, 3, 22, 23, 24, 25, 5, 6, 7] (by decide +kernel) (by decide +kernel)
set_option maxRecDepth 20000 in
theorem gJ2_indexOfChar_4cfef_J2_indexOfCharUnsafe_4cfef : GoodIn wsJ2_indexOfChar_4cfef (va_wsS RJ2 244 yJ2_indexOfCharUnsafe_4cfef wsJ2_indexOfCharUnsafe_4cfef) := goodIn_app (goodIn_of _ (by decide +kernel)) ggJ2_indexOfChar_4cfef_J2_indexOfCharUnsafe_4cfef
set_option maxRecDepth 20000 in
theorem ggJ2_indexOfCharUnsafe_4cfef_J2_getChar_3b067 : GoodIn wsJ2_indexOfCharUnsafe_4cfef wsJ2_getChar_3b067 := goodIn_r _ [4, 5, 6, 7, 8, 9, 3, 10] (by decide +kernel) (by decide +kernel)
set_option maxRecDepth 20000 in
theorem gJ2_indexOfCharUnsafe_4cfef_J2_getChar_3b067 : GoodIn wsJ2_indexOfCharUnsafe_4cfef (va_wsS RJ2 71 yJ2_getChar_3b067 wsJ2_getChar_3b067) := goodIn_app (goodIn_of _ (by decide +kernel)) ggJ2_indexOfCharUnsafe_4cfef_J2_getChar_3b067
set_option maxRecDepth 20000 in
theorem ggJ2_indexOfSupplementary_4cfef_J11_isValidCodePoint_9a6ad : GoodIn wsJ2_indexOfSupplementary_4cfef wsJ11_isValidCodePoint_9a6ad := goodIn_r _ [4] (by decide +kernel) (by decide +kernel)
set_option maxRecDepth 20000 in
theorem gJ2_indexOfSupplementary_4cfef_J11_isValidCodePoint_9a6ad : GoodIn wsJ2_indexOfSupplementary_4cfef (va_wsS RJ2 164 yJ11_isValidCodePoint_9a6ad wsJ11_isValidCodePoint_9a6ad) := goodIn_app (goodIn_of _ (by decide +kernel)) ggJ2_indexOfSupplementary_4cfef_J11_isValidCodePoint_9a6ad
set_option maxRecDepth 20000 in
theorem ggJ2_indexOfSupplementary_4cfef_J11_highSurrogate_5068e : GoodIn wsJ2_indexOfSupplementary_4cfef wsJ11_highSurrogate_5068e := goodIn_r _ [7, 8] (by decide +kernel) (by decide +kernel)
set_option maxRecDepth 20000 in
theorem gJ2_indexOfSupplementary_4cfef_J11_highSurrogate_5068e : GoodIn wsJ2_indexOfSupplementary_4cfef (va_wsS RJ2 157 yJ11_highSurrogate_5068e wsJ11_highSurrogate_5068e) := goodIn_app (goodIn_of _ (by decide +kernel)) ggJ2_indexOfSupplementary_4cfef_J11_highSurrogate_5068e
set_option maxRecDepth 20000 in
theorem ggJ2_indexOfSupplementary_4cfef_J11_lowSurrogate_5068e : GoodIn wsJ2_indexOfSupplementary_4cfef wsJ11_lowSurrogate_5068e := goodIn_r _ [11, 12] (by decide +kernel) (by decide +kernel)
set_option maxRecDepth 20000 in
theorem gJ2_indexOfSupplementary_4cfef_J11_lowSurrogate_5068e : GoodIn wsJ2_indexOfSupplementary_4cfef (va_wsS RJ2 161 yJ11_lowSurrogate_5068e wsJ11_lowSurrogate_5068e) := goodIn_app (goodIn_of _ (by decide +kernel)) ggJ2_indexOfSupplementary_4cfef_J11_lowSurrogate_5068e
set_option maxRecDepth 20000 in
theorem ggJ2_indexOfSupplementary_4cfef_J2_checkBoundsBeginEnd_d044e : GoodIn wsJ2_indexOfSupplementary_4cfef wsJ2_checkBoundsBeginEnd_d044e := goodIn_r _ [16, 17, 18, 15, 19, 20, 21, 22, 23, 24, 25, 26, 27, 28] (by decide +kernel) (by decide +kernel)
set_option maxRecDepth 20000 in
theorem gJ2_indexOfSupplementary_4cfef_J2_checkBoundsBeginEnd_d044e : GoodIn wsJ2_indexOfSupplementary_4cfef (va_wsS RJ2 96 yJ2_checkBoundsBeginEnd_d044e wsJ2_checkBoundsBeginEnd_d044e) := goodIn_app (goodIn_of _ (by decide +kernel)) ggJ2_indexOfSupplementary_4cfef_J2_checkBoundsBeginEnd_d044e
set_option maxRecDepth 20000 in
theorem ggJ2_indexOfSupplementary_4cfef_J2_getChar_3b067 : GoodIn wsJ2_indexOfSupplementary_4cfef wsJ2_getChar_3b067 := goodIn_r _ [31, 32, 33, 34, 17, 18, 15, 19] (by decide +kernel) (by decide +kernel)
set_option maxRecDepth 20000 in
theorem gJ2_indexOfSupplementary_4cfef_J2_getChar_3b067 : GoodIn wsJ2_indexOfSupplementary_4cfef (va_wsS RJ2 71 yJ2_getChar_3b067 wsJ2_getChar_3b067) := goodIn_app (goodIn_of _ (by decide +kernel)) ggJ2_indexOfSupplementary_4cfef_J2_getChar_3b067
set_option maxRecDepth 20000 in
theorem ggJ2_checkBoundsBeginEnd_d044e_J2_length_9d52b : GoodIn wsJ2_checkBoundsBeginEnd_d044e wsJ2_length_9d52b := goodIn_r _ [4] (by decide +kernel) (by decide +kernel)
set_option maxRecDepth 20000 in
theorem gJ2_checkBoundsBeginEnd_d044e_J2_length_9d52b : GoodIn wsJ2_checkBoundsBeginEnd_d044e (va_wsS RJ2 48 yJ2_length_9d52b wsJ2_length_9d52b) := goodIn_app (goodIn_of _ (by decide +kernel)) ggJ2_checkBoundsBeginEnd_d044e_J2_length_9d52b
set_option maxRecDepth 20000 in
theorem ggJ2_checkBoundsBeginEnd_d044e_J0_checkBoundsBeginEnd_23922 : GoodIn wsJ2_checkBoundsBeginEnd_d044e wsJ0_checkBoundsBeginEnd_23922 := goodIn_r _ [8, 9, 10, 11, 12, 13] (by decide +kernel) (by decide +kernel)
set_option maxRecDepth 20000 in
theorem gJ2_checkBoundsBeginEnd_d044e_J0_checkBoundsBeginEnd_23922 : GoodIn wsJ2_checkBoundsBeginEnd_d044e (va_wsS RJ2 241 yJ0_checkBoundsBeginEnd_23922 wsJ0_checkBoundsBeginEnd_23922) := goodIn_app (goodIn_of _ (by decide +kernel)) ggJ2_checkBoundsBeginEnd_d044e_J0_checkBoundsBeginEnd_23922
end
section
set_option maxRecDepth 20000 in
theorem ggX11_isRow_X11_in : GoodIn wsX11_isRow wsX11_in := goodIn_r _ [4] (by decide +kernel) (by decide +kernel)
set_option maxRecDepth 20000 in
theorem gX11_isRow_X11_in : GoodIn wsX11_isRow (va_wsS RX11 59 yX11_in wsX11_in) := goodIn_app (goodIn_of _ (by decide +kernel)) ggX11_isRow_X11_in
set_option maxRecDepth 20000 in
theorem ggX11_puts_X11_isRow : GoodIn wsX11_puts wsX11_isRow := goodIn_r _ [6, 7, 8, 5, 9] (by decide +kernel) (by decide +kernel)
set_option maxRecDepth 20000 in
theorem gX11_puts_X11_isRow : GoodIn wsX11_puts (va_wsS RX11 63 yX11_isRow wsX11_isRow) := goodIn_app (goodIn_of _ (by decide +kernel)) ggX11_puts_X11_isRow
set_option maxRecDepth 20000 in
theorem ggX11_puts_X11_in : GoodIn wsX11_puts wsX11_in := goodIn_r _ [9] (by decide +kernel) (by decide +kernel)
set_option maxRecDepth 20000 in
theorem gX11_puts_X11_in : GoodIn wsX11_puts (va_wsS RX11 59 yX11_in wsX11_in) := goodIn_app (goodIn_of _ (by decide +kernel)) ggX11_puts_X11_in
set_option maxRecDepth 20000 in
theorem ggX11_sign_X11_puts : GoodIn wsX11_sign wsX11_puts := goodIn_r _ [5, 6, 7, 8, 9, 4, 10, 11, 12, 13, 14, 15, 16, 17, 18, 19, 20, 21, 22, 23, 24, 25, 26, 27, 28, 29, 30, 31, 32, 33, 34, 35, 36, 37] (by decide +kernel) (by decide +kernel)
set_option maxRecDepth 20000 in
theorem gX11_sign_X11_puts : GoodIn wsX11_sign (wsV RX11 67 RX11 yX11_puts wsX11_puts) := goodIn_app (goodIn_of _ (by decide +kernel)) ggX11_sign_X11_puts
set_option maxRecDepth 20000 in
theorem ggX11_read_X11_isSheet : GoodIn wsX11_read wsX11_isSheet := goodIn_r _ [7, 8, 9, 6, 10] (by decide +kernel) (by decide +kernel)
set_option maxRecDepth 20000 in
theorem gX11_read_X11_isSheet : GoodIn wsX11_read (va_wsS RX11 71 yX11_isSheet wsX11_isSheet) := goodIn_app (goodIn_of _ (by decide +kernel)) ggX11_read_X11_isSheet
set_option maxRecDepth 20000 in
theorem ggX11_read_X11_isRow : GoodIn wsX11_read wsX11_isRow := goodIn_r _ [13, 8, 9, 6, 10] (by decide +kernel) (by decide +kernel)
set_option maxRecDepth 20000 in
theorem gX11_read_X11_isRow : GoodIn wsX11_read (va_wsS RX11 63 yX11_isRow wsX11_isRow) := goodIn_app (goodIn_of _ (by decide +kernel)) ggX11_read_X11_isRow
set_option maxRecDepth 20000 in
theorem ggX11_read_X11_meets : GoodIn wsX11_read wsX11_meets := goodIn_r _ [17, 18, 25, 26, 27, 28, 29, 30, 31, 32, 33, 34, 35, 36, 37, 38, 39, 40, 41, 42, 43, 44, 45, 46, 47, 48] (by decide +kernel) (by decide +kernel)
set_option maxRecDepth 20000 in
theorem gX11_read_X11_meets : GoodIn wsX11_read (wsV RX11 74 RX11 yX11_meets wsX11_meets) := goodIn_app (goodIn_of _ (by decide +kernel)) ggX11_read_X11_meets
set_option maxRecDepth 20000 in
theorem ggX11_read_X11_puts : GoodIn wsX11_read wsX11_puts := goodIn_r _ [22, 23, 24, 11, 12, 6, 13, 8, 9, 10, 25, 26, 27, 28, 29, 30, 31, 32, 33, 34, 35, 36, 37, 38, 39, 40, 41, 42, 43, 44, 45, 46, 47, 48] (by decide +kernel) (by decide +kernel)
set_option maxRecDepth 20000 in
theorem gX11_read_X11_puts : GoodIn wsX11_read (wsV RX11 67 RX11 yX11_puts wsX11_puts) := goodIn_app (goodIn_of _ (by decide +kernel)) ggX11_read_X11_puts
set_option maxRecDepth 20000 in
theorem ggX11_clear_X11_isRow : GoodIn wsX11_clear wsX11_isRow := goodIn_r _ [5, 6, 7, 4, 8] (by decide +kernel) (by decide +kernel)
set_option maxRecDepth 20000 in
theorem gX11_clear_X11_isRow : GoodIn wsX11_clear (va_wsS RX11 63 yX11_isRow wsX11_isRow) := goodIn_app (goodIn_of _ (by decide +kernel)) ggX11_clear_X11_isRow
set_option maxRecDepth 20000 in
theorem ggX11_at_X11_isRow : GoodIn wsX11_at wsX11_isRow := goodIn_r _ [6, 7, 8, 5, 9] (by decide +kernel) (by decide +kernel)
set_option maxRecDepth 20000 in
theorem gX11_at_X11_isRow : GoodIn wsX11_at (va_wsS RX11 63 yX11_isRow wsX11_isRow) := goodIn_app (goodIn_of _ (by decide +kernel)) ggX11_at_X11_isRow
set_option maxRecDepth 20000 in
theorem ggX11_set_X11_in : GoodIn wsX11_set wsX11_in := goodIn_r _ [6] (by decide +kernel) (by decide +kernel)
set_option maxRecDepth 20000 in
theorem gX11_set_X11_in : GoodIn wsX11_set (va_wsS RX11 59 yX11_in wsX11_in) := goodIn_app (goodIn_of _ (by decide +kernel)) ggX11_set_X11_in
set_option maxRecDepth 20000 in
theorem ggX11_standing_X11_lengthOf : GoodIn wsX11_standing wsX11_lengthOf := goodIn_r _ [5] (by decide +kernel) (by decide +kernel)
set_option maxRecDepth 20000 in
theorem gX11_standing_X11_lengthOf : GoodIn wsX11_standing (va_wsS RX11 78 yX11_lengthOf wsX11_lengthOf) := goodIn_app (goodIn_of _ (by decide +kernel)) ggX11_standing_X11_lengthOf
set_option maxRecDepth 20000 in
theorem ggX11_numberOf_X11_ones : GoodIn wsX11_numberOf wsX11_ones := goodIn_r _ [4] (by decide +kernel) (by decide +kernel)
set_option maxRecDepth 20000 in
theorem gX11_numberOf_X11_ones : GoodIn wsX11_numberOf (va_wsS RX11 81 yX11_ones wsX11_ones) := goodIn_app (goodIn_of _ (by decide +kernel)) ggX11_numberOf_X11_ones
set_option maxRecDepth 20000 in
theorem ggX11_numberOf_X11_standing : GoodIn wsX11_numberOf wsX11_standing := goodIn_r _ [8, 9, 10, 11, 3, 12, 13, 14, 15, 16, 17, 18, 19, 20, 21, 22, 23, 24, 25, 26, 27, 28, 29, 30, 31, 32, 33, 34, 35, 36] (by decide +kernel) (by decide +kernel)
set_option maxRecDepth 20000 in
theorem gX11_numberOf_X11_standing : GoodIn wsX11_numberOf (wsV RX11 84 RX11 yX11_standing wsX11_standing) := goodIn_app (goodIn_of _ (by decide +kernel)) ggX11_numberOf_X11_standing
set_option maxRecDepth 20000 in
theorem ggX11_showsNow_X11_isWhole : GoodIn wsX11_showsNow wsX11_isWhole := goodIn_r _ [6, 1, 7, 27, 28, 29, 30, 31, 32, 33, 34, 35, 36, 37, 38, 39, 40, 41, 42, 43, 44, 45, 46, 47, 48, 49, 50] (by decide +kernel) (by decide +kernel)
set_option maxRecDepth 20000 in
theorem gX11_showsNow_X11_isWhole : GoodIn wsX11_showsNow (wsV RX11 87 RX11 yX11_isWhole wsX11_isWhole) := goodIn_app (goodIn_of _ (by decide +kernel)) ggX11_showsNow_X11_isWhole
set_option maxRecDepth 20000 in
theorem ggX11_showsNow_X11_bitsOf : GoodIn wsX11_showsNow wsX11_bitsOf := goodIn_r _ [11, 1, 7, 27, 28, 29, 30, 31, 32, 33, 34, 35, 36, 37, 38, 39, 40, 41, 42, 43, 44, 45, 46, 47, 48, 49, 50] (by decide +kernel) (by decide +kernel)
set_option maxRecDepth 20000 in
theorem gX11_showsNow_X11_bitsOf : GoodIn wsX11_showsNow (wsV RX11 90 RX11 yX11_bitsOf wsX11_bitsOf) := goodIn_app (goodIn_of _ (by decide +kernel)) ggX11_showsNow_X11_bitsOf
set_option maxRecDepth 20000 in
theorem ggX11_showsNow_X11_numberOf : GoodIn wsX11_showsNow wsX11_numberOf := goodIn_r _ [15, 16, 17, 5, 18, 19, 20, 21, 22, 23, 24, 25, 26, 27, 28, 29, 30, 31, 32, 33, 34, 35, 36, 37, 38, 39, 40, 41, 42, 43, 44, 45, 46, 47, 48, 49, 50] (by decide +kernel) (by decide +kernel)
set_option maxRecDepth 20000 in
theorem gX11_showsNow_X11_numberOf : GoodIn wsX11_showsNow (wsV RX11 93 RX11 yX11_numberOf wsX11_numberOf) := goodIn_app (goodIn_of _ (by decide +kernel)) ggX11_showsNow_X11_numberOf
set_option maxRecDepth 20000 in
theorem ggX11_shows_X11_isRow : GoodIn wsX11_shows wsX11_isRow := goodIn_r _ [4, 5, 6, 3, 7] (by decide +kernel) (by decide +kernel)
set_option maxRecDepth 20000 in
theorem gX11_shows_X11_isRow : GoodIn wsX11_shows (va_wsS RX11 63 yX11_isRow wsX11_isRow) := goodIn_app (goodIn_of _ (by decide +kernel)) ggX11_shows_X11_isRow
set_option maxRecDepth 20000 in
theorem ggX11_shows_X11_in : GoodIn wsX11_shows wsX11_in := goodIn_r _ [7] (by decide +kernel) (by decide +kernel)
set_option maxRecDepth 20000 in
theorem gX11_shows_X11_in : GoodIn wsX11_shows (va_wsS RX11 59 yX11_in wsX11_in) := goodIn_app (goodIn_of _ (by decide +kernel)) ggX11_shows_X11_in
set_option maxRecDepth 20000 in
theorem ggX11_shows_X11_showsNow : GoodIn wsX11_shows wsX11_showsNow := goodIn_r _ [11, 12, 13, 14, 15, 3, 16, 17, 18, 19, 20, 21, 22, 23, 24, 25, 26, 27, 28, 29, 30, 31, 32, 33, 34, 35, 36, 37, 38, 39, 40, 41, 42, 43, 44, 45, 46, 47, 48, 49, 50, 51, 52, 53, 54, 55, 56, 57, 58, 59, 60] (by decide +kernel) (by decide +kernel)
set_option maxRecDepth 20000 in
theorem gX11_shows_X11_showsNow : GoodIn wsX11_shows (wsV RX11 97 RX11 yX11_showsNow wsX11_showsNow) := goodIn_app (goodIn_of _ (by decide +kernel)) ggX11_shows_X11_showsNow
set_option maxRecDepth 20000 in
theorem ggX11_type_X11_in : GoodIn wsX11_type wsX11_in := goodIn_r _ [7] (by decide +kernel) (by decide +kernel)
set_option maxRecDepth 20000 in
theorem gX11_type_X11_in : GoodIn wsX11_type (va_wsS RX11 59 yX11_in wsX11_in) := goodIn_app (goodIn_of _ (by decide +kernel)) ggX11_type_X11_in
set_option maxRecDepth 20000 in
theorem ggX11_test_X11_byteNow : GoodIn wsX11_test wsX11_byteNow := goodIn_r _ [12, 1, 13, 14, 21, 22, 23, 24, 25, 26, 27, 28, 29, 30, 31, 32, 33, 34, 35, 36, 37, 38, 39, 40, 41, 42, 43, 44] (by decide +kernel) (by decide +kernel)
set_option maxRecDepth 20000 in
theorem gX11_test_X11_byteNow : GoodIn wsX11_test (wsV RX11 110 RX11 yX11_byteNow wsX11_byteNow) := goodIn_app (goodIn_of _ (by decide +kernel)) ggX11_test_X11_byteNow
set_option maxRecDepth 20000 in
theorem ggX11_test_X11_numberBy : GoodIn wsX11_test wsX11_numberBy := goodIn_r _ [17] (by decide +kernel) (by decide +kernel)
set_option maxRecDepth 20000 in
theorem gX11_test_X11_numberBy : GoodIn wsX11_test (va_wsS RX11 114 yX11_numberBy wsX11_numberBy) := goodIn_app (goodIn_of _ (by decide +kernel)) ggX11_test_X11_numberBy
set_option maxRecDepth 20000 in
theorem ggX11_test_X11_in : GoodIn wsX11_test wsX11_in := goodIn_r _ [20] (by decide +kernel) (by decide +kernel)
set_option maxRecDepth 20000 in
theorem gX11_test_X11_in : GoodIn wsX11_test (va_wsS RX11 59 yX11_in wsX11_in) := goodIn_app (goodIn_of _ (by decide +kernel)) ggX11_test_X11_in
set_option maxRecDepth 20000 in
theorem ggX11_faultNow_X11_test : GoodIn wsX11_faultNow wsX11_test := goodIn_r _ [10, 3, 2, 11, 4, 12, 13, 14, 15, 16, 17, 9, 18, 5, 19, 20, 21, 22, 23, 24, 25, 26, 27, 28, 29, 30, 31, 32, 33, 34, 35, 36, 37, 38, 39, 40, 41, 42, 43, 44, 45, 46, 47, 48, 49] (by decide +kernel) (by decide +kernel)
set_option maxRecDepth 20000 in
theorem gX11_faultNow_X11_test : GoodIn wsX11_faultNow (wsV RX11 123 RX11 yX11_test wsX11_test) := goodIn_app (goodIn_of _ (by decide +kernel)) ggX11_faultNow_X11_test
set_option maxRecDepth 20000 in
theorem ggX11_faultNow_X11_byteNow : GoodIn wsX11_faultNow wsX11_byteNow := goodIn_r _ [18, 3, 5, 19, 26, 27, 28, 29, 30, 31, 32, 33, 34, 35, 36, 37, 38, 39, 40, 41, 42, 43, 44, 45, 46, 47, 48, 49] (by decide +kernel) (by decide +kernel)
set_option maxRecDepth 20000 in
theorem gX11_faultNow_X11_byteNow : GoodIn wsX11_faultNow (wsV RX11 110 RX11 yX11_byteNow wsX11_byteNow) := goodIn_app (goodIn_of _ (by decide +kernel)) ggX11_faultNow_X11_byteNow
set_option maxRecDepth 20000 in
theorem ggX11_fault_X11_faultNow : GoodIn wsX11_fault wsX11_faultNow := goodIn_r _ [5, 6, 7, 8, 9, 10, 11, 12, 13, 4, 14, 15, 16, 17, 18, 19, 20, 21, 22, 23, 24, 25, 26, 27, 28, 29, 30, 31, 32, 33, 34, 35, 36, 37, 38, 39, 40, 41, 42, 43, 44, 45, 46, 47, 48, 49, 50, 51, 52, 53] (by decide +kernel) (by decide +kernel)
set_option maxRecDepth 20000 in
theorem gX11_fault_X11_faultNow : GoodIn wsX11_fault (wsV RX11 127 RX11 yX11_faultNow wsX11_faultNow) := goodIn_app (goodIn_of _ (by decide +kernel)) ggX11_fault_X11_faultNow
set_option maxRecDepth 20000 in
theorem ggX11_does_X11_numberOf : GoodIn wsX11_does wsX11_numberOf := goodIn_r _ [10, 11, 12, 9, 13, 14, 15, 16, 17, 18, 19, 20, 21, 22, 23, 24, 25, 26, 27, 28, 29, 30, 31, 32, 33, 34, 35, 36, 37, 38, 39, 40, 41, 42, 43, 44, 45] (by decide +kernel) (by decide +kernel)
set_option maxRecDepth 20000 in
theorem gX11_does_X11_numberOf : GoodIn wsX11_does (wsV RX11 93 RX11 yX11_numberOf wsX11_numberOf) := goodIn_app (goodIn_of _ (by decide +kernel)) ggX11_does_X11_numberOf
set_option maxRecDepth 20000 in
theorem ggX11_holds_X11_isRow : GoodIn wsX11_holds wsX11_isRow := goodIn_r _ [5, 6, 7, 4, 8] (by decide +kernel) (by decide +kernel)
set_option maxRecDepth 20000 in
theorem gX11_holds_X11_isRow : GoodIn wsX11_holds (va_wsS RX11 63 yX11_isRow wsX11_isRow) := goodIn_app (goodIn_of _ (by decide +kernel)) ggX11_holds_X11_isRow
set_option maxRecDepth 20000 in
theorem ggX11_holds_X11_isWhole : GoodIn wsX11_holds wsX11_isWhole := goodIn_r _ [12, 1, 13, 62, 63, 64, 65, 66, 67, 68, 69, 70, 71, 72, 73, 74, 75, 76, 77, 78, 79, 80, 81, 82, 83, 84, 85] (by decide +kernel) (by decide +kernel)
set_option maxRecDepth 20000 in
theorem gX11_holds_X11_isWhole : GoodIn wsX11_holds (wsV RX11 87 RX11 yX11_isWhole wsX11_isWhole) := goodIn_app (goodIn_of _ (by decide +kernel)) ggX11_holds_X11_isWhole
set_option maxRecDepth 20000 in
theorem ggX11_holds_X11_faultNow : GoodIn wsX11_holds wsX11_faultNow := goodIn_r _ [17, 18, 19, 20, 21, 22, 23, 24, 25, 4, 26, 27, 28, 29, 30, 31, 32, 33, 34, 35, 36, 37, 38, 6, 7, 8, 62, 63, 64, 65, 66, 67, 68, 69, 70, 71, 72, 73, 74, 75, 76, 77, 78, 79, 80, 81, 82, 83, 84, 85] (by decide +kernel) (by decide +kernel)
set_option maxRecDepth 20000 in
theorem gX11_holds_X11_faultNow : GoodIn wsX11_holds (wsV RX11 127 RX11 yX11_faultNow wsX11_faultNow) := goodIn_app (goodIn_of _ (by decide +kernel)) ggX11_holds_X11_faultNow
set_option maxRecDepth 20000 in
theorem ggX11_holds_X11_bitsOf : GoodIn wsX11_holds wsX11_bitsOf := goodIn_r _ [42, 1, 13, 62, 63, 64, 65, 66, 67, 68, 69, 70, 71, 72, 73, 74, 75, 76, 77, 78, 79, 80, 81, 82, 83, 84, 85] (by decide +kernel) (by decide +kernel)
set_option maxRecDepth 20000 in
theorem gX11_holds_X11_bitsOf : GoodIn wsX11_holds (wsV RX11 90 RX11 yX11_bitsOf wsX11_bitsOf) := goodIn_app (goodIn_of _ (by decide +kernel)) ggX11_holds_X11_bitsOf
set_option maxRecDepth 20000 in
theorem ggX11_holds_X11_does : GoodIn wsX11_holds wsX11_does := goodIn_r _ [46, 21, 30, 27, 28, 29, 47, 48, 49, 4, 50, 51, 52, 53, 54, 55, 56, 57, 58, 59, 60, 61, 62, 63, 64, 65, 66, 67, 68, 69, 70, 71, 72, 73, 74, 75, 76, 77, 78, 79, 80, 81, 82, 83, 84, 85] (by decide +kernel) (by decide +kernel)
set_option maxRecDepth 20000 in
theorem gX11_holds_X11_does : GoodIn wsX11_holds (wsV RX11 130 RX11 yX11_does wsX11_does) := goodIn_app (goodIn_of _ (by decide +kernel)) ggX11_holds_X11_does
set_option maxRecDepth 20000 in
theorem ggX11_shownNow_X11_faultNow : GoodIn wsX11_shownNow wsX11_faultNow := goodIn_r _ [5, 6, 7, 8, 9, 10, 11, 12, 13, 4, 14, 15, 16, 17, 18, 19, 20, 21, 22, 23, 24, 25, 26, 27, 28, 29, 49, 50, 51, 52, 53, 54, 55, 56, 57, 58, 59, 60, 61, 62, 63, 64, 65, 66, 67, 68, 69, 70, 71, 72] (by decide +kernel) (by decide +kernel)
set_option maxRecDepth 20000 in
theorem gX11_shownNow_X11_faultNow : GoodIn wsX11_shownNow (wsV RX11 127 RX11 yX11_faultNow wsX11_faultNow) := goodIn_app (goodIn_of _ (by decide +kernel)) ggX11_shownNow_X11_faultNow
set_option maxRecDepth 20000 in
theorem ggX11_shownNow_X11_ones : GoodIn wsX11_shownNow wsX11_ones := goodIn_r _ [32] (by decide +kernel) (by decide +kernel)
set_option maxRecDepth 20000 in
theorem gX11_shownNow_X11_ones : GoodIn wsX11_shownNow (va_wsS RX11 81 yX11_ones wsX11_ones) := goodIn_app (goodIn_of _ (by decide +kernel)) ggX11_shownNow_X11_ones
set_option maxRecDepth 20000 in
theorem ggX11_shownNow_X11_does : GoodIn wsX11_shownNow wsX11_does := goodIn_r _ [36, 9, 18, 15, 16, 17, 37, 38, 39, 4, 40, 30, 31, 32, 41, 42, 43, 44, 45, 46, 47, 48, 49, 50, 51, 52, 53, 54, 55, 56, 57, 58, 59, 60, 61, 62, 63, 64, 65, 66, 67, 68, 69, 70, 71, 72] (by decide +kernel) (by decide +kernel)
set_option maxRecDepth 20000 in
theorem gX11_shownNow_X11_does : GoodIn wsX11_shownNow (wsV RX11 130 RX11 yX11_does wsX11_does) := goodIn_app (goodIn_of _ (by decide +kernel)) ggX11_shownNow_X11_does
set_option maxRecDepth 20000 in
theorem ggX11_shown_X11_in : GoodIn wsX11_shown wsX11_in := goodIn_r _ [4] (by decide +kernel) (by decide +kernel)
set_option maxRecDepth 20000 in
theorem gX11_shown_X11_in : GoodIn wsX11_shown (va_wsS RX11 59 yX11_in wsX11_in) := goodIn_app (goodIn_of _ (by decide +kernel)) ggX11_shown_X11_in
set_option maxRecDepth 20000 in
theorem ggX11_shown_X11_shownNow : GoodIn wsX11_shown wsX11_shownNow := goodIn_r _ [8, 9, 10, 11, 3, 12, 13, 14, 15, 16, 17, 18, 19, 20, 21, 22, 23, 24, 25, 26, 27, 28, 29, 30, 31, 32, 33, 1, 2, 4, 34, 35, 36, 37, 38, 39, 40, 41, 42, 43, 44, 45, 46, 47, 48, 49, 50, 51, 52, 53, 54, 55, 56, 57, 58, 59, 60, 61, 62, 63, 64, 65, 66, 67, 68, 69, 70, 71, 72, 73, 74, 75, 76] (by decide +kernel) (by decide +kernel)
set_option maxRecDepth 20000 in
theorem gX11_shown_X11_shownNow : GoodIn wsX11_shown (wsV RX11 134 RX11 yX11_shownNow wsX11_shownNow) := goodIn_app (goodIn_of _ (by decide +kernel)) ggX11_shown_X11_shownNow
set_option maxRecDepth 20000 in
theorem ggX11_nth_X11_in : GoodIn wsX11_nth wsX11_in := goodIn_r _ [4] (by decide +kernel) (by decide +kernel)
set_option maxRecDepth 20000 in
theorem gX11_nth_X11_in : GoodIn wsX11_nth (va_wsS RX11 59 yX11_in wsX11_in) := goodIn_app (goodIn_of _ (by decide +kernel)) ggX11_nth_X11_in
set_option maxRecDepth 20000 in
theorem ggX11_nth_X11_faultNow : GoodIn wsX11_nth wsX11_faultNow := goodIn_r _ [8, 9, 10, 11, 12, 13, 14, 15, 16, 3, 17, 18, 19, 20, 21, 22, 23, 24, 25, 26, 27, 28, 29, 1, 2, 4, 49, 50, 51, 52, 53, 54, 55, 56, 57, 58, 59, 60, 61, 62, 63, 64, 65, 66, 67, 68, 69, 70, 71, 72] (by decide +kernel) (by decide +kernel)
set_option maxRecDepth 20000 in
theorem gX11_nth_X11_faultNow : GoodIn wsX11_nth (wsV RX11 127 RX11 yX11_faultNow wsX11_faultNow) := goodIn_app (goodIn_of _ (by decide +kernel)) ggX11_nth_X11_faultNow
set_option maxRecDepth 20000 in
theorem ggX11_nth_X11_does : GoodIn wsX11_nth wsX11_does := goodIn_r _ [33, 12, 21, 18, 19, 20, 34, 35, 36, 3, 37, 38, 39, 40, 41, 42, 43, 44, 45, 46, 47, 48, 49, 50, 51, 52, 53, 54, 55, 56, 57, 58, 59, 60, 61, 62, 63, 64, 65, 66, 67, 68, 69, 70, 71, 72] (by decide +kernel) (by decide +kernel)
set_option maxRecDepth 20000 in
theorem gX11_nth_X11_does : GoodIn wsX11_nth (wsV RX11 130 RX11 yX11_does wsX11_does) := goodIn_app (goodIn_of _ (by decide +kernel)) ggX11_nth_X11_does
set_option maxRecDepth 20000 in
theorem ggX11_share_X11_in : GoodIn wsX11_share wsX11_in := goodIn_r _ [6] (by decide +kernel) (by decide +kernel)
set_option maxRecDepth 20000 in
theorem gX11_share_X11_in : GoodIn wsX11_share (va_wsS RX11 59 yX11_in wsX11_in) := goodIn_app (goodIn_of _ (by decide +kernel)) ggX11_share_X11_in
set_option maxRecDepth 20000 in
theorem ggX11_share_X11_no : GoodIn wsX11_share wsX11_no := goodIn_r _ [9, 10] (by decide +kernel) (by decide +kernel)
set_option maxRecDepth 20000 in
theorem gX11_share_X11_no : GoodIn wsX11_share (va_wsS RX11 137 yX11_no wsX11_no) := goodIn_app (goodIn_of _ (by decide +kernel)) ggX11_share_X11_no
set_option maxRecDepth 20000 in
theorem ggX11_share_X11_faultNow : GoodIn wsX11_share wsX11_faultNow := goodIn_r _ [14, 15, 16, 17, 18, 19, 20, 21, 22, 5, 23, 24, 25, 26, 27, 28, 29, 30, 31, 32, 33, 34, 35, 3, 4, 6, 61, 62, 63, 64, 65, 66, 67, 68, 69, 70, 71, 72, 73, 74, 75, 76, 77, 78, 79, 80, 81, 82, 83, 84] (by decide +kernel) (by decide +kernel)
set_option maxRecDepth 20000 in
theorem gX11_share_X11_faultNow : GoodIn wsX11_share (wsV RX11 127 RX11 yX11_faultNow wsX11_faultNow) := goodIn_app (goodIn_of _ (by decide +kernel)) ggX11_share_X11_faultNow
set_option maxRecDepth 20000 in
theorem ggX11_share_X11_does : GoodIn wsX11_share wsX11_does := goodIn_r _ [39, 18, 27, 24, 25, 26, 40, 41, 42, 5, 43, 44, 45, 46, 47, 48, 49, 50, 51, 52, 53, 54, 61, 62, 63, 64, 65, 66, 67, 68, 69, 70, 71, 72, 73, 74, 75, 76, 77, 78, 79, 80, 81, 82, 83, 84] (by decide +kernel) (by decide +kernel)
set_option maxRecDepth 20000 in
theorem gX11_share_X11_does : GoodIn wsX11_share (wsV RX11 130 RX11 yX11_does wsX11_does) := goodIn_app (goodIn_of _ (by decide +kernel)) ggX11_share_X11_does
set_option maxRecDepth 20000 in
theorem ggX11_share_X11_ones : GoodIn wsX11_share wsX11_ones := goodIn_r _ [46] (by decide +kernel) (by decide +kernel)
set_option maxRecDepth 20000 in
theorem gX11_share_X11_ones : GoodIn wsX11_share (va_wsS RX11 81 yX11_ones wsX11_ones) := goodIn_app (goodIn_of _ (by decide +kernel)) ggX11_share_X11_ones
set_option maxRecDepth 20000 in
theorem ggX11_share_X11_power : GoodIn wsX11_share wsX11_power := goodIn_r _ [57] (by decide +kernel) (by decide +kernel)
set_option maxRecDepth 20000 in
theorem gX11_share_X11_power : GoodIn wsX11_share (va_wsS RX11 141 yX11_power wsX11_power) := goodIn_app (goodIn_of _ (by decide +kernel)) ggX11_share_X11_power
set_option maxRecDepth 20000 in
theorem ggX11_share_X11_lowest : GoodIn wsX11_share wsX11_lowest := goodIn_r _ [60] (by decide +kernel) (by decide +kernel)
set_option maxRecDepth 20000 in
theorem gX11_share_X11_lowest : GoodIn wsX11_share (va_wsS RX11 147 yX11_lowest wsX11_lowest) := goodIn_app (goodIn_of _ (by decide +kernel)) ggX11_share_X11_lowest
set_option maxRecDepth 20000 in
theorem ggX11_fill_X11_bitsOf : GoodIn wsX11_fill wsX11_bitsOf := goodIn_r _ [7, 8, 9, 10, 11, 12, 13, 14, 15, 16, 17, 18, 19, 20, 21, 22, 23, 24, 25, 26, 27, 28, 29, 30, 31, 32, 33] (by decide +kernel) (by decide +kernel)
set_option maxRecDepth 20000 in
theorem gX11_fill_X11_bitsOf : GoodIn wsX11_fill (wsV RX11 90 RX11 yX11_bitsOf wsX11_bitsOf) := goodIn_app (goodIn_of _ (by decide +kernel)) ggX11_fill_X11_bitsOf
set_option maxRecDepth 20000 in
theorem ggX11_fills_X11_isRow : GoodIn wsX11_fills wsX11_isRow := goodIn_r _ [6, 7, 8, 5, 9] (by decide +kernel) (by decide +kernel)
set_option maxRecDepth 20000 in
theorem gX11_fills_X11_isRow : GoodIn wsX11_fills (va_wsS RX11 63 yX11_isRow wsX11_isRow) := goodIn_app (goodIn_of _ (by decide +kernel)) ggX11_fills_X11_isRow
set_option maxRecDepth 20000 in
theorem ggX11_fills_X11_in : GoodIn wsX11_fills wsX11_in := goodIn_r _ [9] (by decide +kernel) (by decide +kernel)
set_option maxRecDepth 20000 in
theorem gX11_fills_X11_in : GoodIn wsX11_fills (va_wsS RX11 59 yX11_in wsX11_in) := goodIn_app (goodIn_of _ (by decide +kernel)) ggX11_fills_X11_in
set_option maxRecDepth 20000 in
theorem ggX11_fills_X11_gathers : GoodIn wsX11_fills wsX11_gathers := goodIn_r _ [13, 1, 2, 14, 15, 68, 69, 70, 71, 72, 73, 74, 75, 76, 77, 78, 79, 80, 81, 82, 83, 84, 85, 86, 87, 88, 89, 90, 91] (by decide +kernel) (by decide +kernel)
set_option maxRecDepth 20000 in
theorem gX11_fills_X11_gathers : GoodIn wsX11_fills (wsV RX11 154 RX11 yX11_gathers wsX11_gathers) := goodIn_app (goodIn_of _ (by decide +kernel)) ggX11_fills_X11_gathers
set_option maxRecDepth 20000 in
theorem ggX11_fills_X11_faultNow : GoodIn wsX11_fills wsX11_faultNow := goodIn_r _ [19, 20, 21, 22, 23, 24, 25, 26, 27, 5, 28, 29, 30, 31, 32, 33, 34, 35, 36, 37, 38, 39, 40, 7, 8, 9, 68, 69, 70, 71, 72, 73, 74, 75, 76, 77, 78, 79, 80, 81, 82, 83, 84, 85, 86, 87, 88, 89, 90, 91] (by decide +kernel) (by decide +kernel)
set_option maxRecDepth 20000 in
theorem gX11_fills_X11_faultNow : GoodIn wsX11_fills (wsV RX11 127 RX11 yX11_faultNow wsX11_faultNow) := goodIn_app (goodIn_of _ (by decide +kernel)) ggX11_fills_X11_faultNow
set_option maxRecDepth 20000 in
theorem ggX11_fills_X11_fill : GoodIn wsX11_fills wsX11_fill := goodIn_r _ [44, 1, 15, 45, 46, 47, 5, 48, 2, 14, 68, 69, 70, 71, 72, 73, 74, 75, 76, 77, 78, 79, 80, 81, 82, 83, 84, 85, 86, 87, 88, 89, 90, 91] (by decide +kernel) (by decide +kernel)
set_option maxRecDepth 20000 in
theorem gX11_fills_X11_fill : GoodIn wsX11_fills (wsV RX11 158 RX11 yX11_fill wsX11_fill) := goodIn_app (goodIn_of _ (by decide +kernel)) ggX11_fills_X11_fill
set_option maxRecDepth 20000 in
theorem ggX11_fills_X11_does : GoodIn wsX11_fills wsX11_does := goodIn_r _ [52, 23, 32, 29, 30, 31, 53, 54, 55, 5, 56, 57, 58, 59, 60, 61, 62, 63, 64, 65, 66, 67, 68, 69, 70, 71, 72, 73, 74, 75, 76, 77, 78, 79, 80, 81, 82, 83, 84, 85, 86, 87, 88, 89, 90, 91] (by decide +kernel) (by decide +kernel)
set_option maxRecDepth 20000 in
theorem gX11_fills_X11_does : GoodIn wsX11_fills (wsV RX11 130 RX11 yX11_does wsX11_does) := goodIn_app (goodIn_of _ (by decide +kernel)) ggX11_fills_X11_does
end
section
set_option maxRecDepth 20000 in
theorem ggX11_filled_X11_isRow : GoodIn wsX11_filled wsX11_isRow := goodIn_r _ [8, 9, 10, 7, 11] (by decide +kernel) (by decide +kernel)
set_option maxRecDepth 20000 in
theorem gX11_filled_X11_isRow : GoodIn wsX11_filled (va_wsS RX11 63 yX11_isRow wsX11_isRow) := goodIn_app (goodIn_of _ (by decide +kernel)) ggX11_filled_X11_isRow
set_option maxRecDepth 20000 in
theorem ggX11_filled_X11_in : GoodIn wsX11_filled wsX11_in := goodIn_r _ [11] (by decide +kernel) (by decide +kernel)
set_option maxRecDepth 20000 in
theorem gX11_filled_X11_in : GoodIn wsX11_filled (va_wsS RX11 59 yX11_in wsX11_in) := goodIn_app (goodIn_of _ (by decide +kernel)) ggX11_filled_X11_in
set_option maxRecDepth 20000 in
theorem ggX11_filled_X11_no : GoodIn wsX11_filled wsX11_no := goodIn_r _ [14, 15] (by decide +kernel) (by decide +kernel)
set_option maxRecDepth 20000 in
theorem gX11_filled_X11_no : GoodIn wsX11_filled (va_wsS RX11 137 yX11_no wsX11_no) := goodIn_app (goodIn_of _ (by decide +kernel)) ggX11_filled_X11_no
set_option maxRecDepth 20000 in
theorem ggX11_filled_X11_faultNow : GoodIn wsX11_filled wsX11_faultNow := goodIn_r _ [19, 20, 21, 22, 23, 24, 25, 26, 27, 7, 28, 29, 30, 31, 32, 33, 34, 35, 36, 37, 38, 39, 40, 9, 10, 11, 80, 81, 82, 83, 84, 85, 86, 87, 88, 89, 90, 91, 92, 93, 94, 95, 96, 97, 98, 99, 100, 101, 102, 103] (by decide +kernel) (by decide +kernel)
set_option maxRecDepth 20000 in
theorem gX11_filled_X11_faultNow : GoodIn wsX11_filled (wsV RX11 127 RX11 yX11_faultNow wsX11_faultNow) := goodIn_app (goodIn_of _ (by decide +kernel)) ggX11_filled_X11_faultNow
set_option maxRecDepth 20000 in
theorem ggX11_filled_X11_gathers : GoodIn wsX11_filled wsX11_gathers := goodIn_r _ [44, 1, 2, 45, 46, 80, 81, 82, 83, 84, 85, 86, 87, 88, 89, 90, 91, 92, 93, 94, 95, 96, 97, 98, 99, 100, 101, 102, 103] (by decide +kernel) (by decide +kernel)
set_option maxRecDepth 20000 in
theorem gX11_filled_X11_gathers : GoodIn wsX11_filled (wsV RX11 154 RX11 yX11_gathers wsX11_gathers) := goodIn_app (goodIn_of _ (by decide +kernel)) ggX11_filled_X11_gathers
set_option maxRecDepth 20000 in
theorem ggX11_filled_X11_fill : GoodIn wsX11_filled wsX11_fill := goodIn_r _ [50, 1, 46, 51, 52, 53, 7, 54, 2, 45, 80, 81, 82, 83, 84, 85, 86, 87, 88, 89, 90, 91, 92, 93, 94, 95, 96, 97, 98, 99, 100, 101, 102, 103] (by decide +kernel) (by decide +kernel)
set_option maxRecDepth 20000 in
theorem gX11_filled_X11_fill : GoodIn wsX11_filled (wsV RX11 158 RX11 yX11_fill wsX11_fill) := goodIn_app (goodIn_of _ (by decide +kernel)) ggX11_filled_X11_fill
set_option maxRecDepth 20000 in
theorem ggX11_filled_X11_does : GoodIn wsX11_filled wsX11_does := goodIn_r _ [58, 23, 32, 29, 30, 31, 59, 60, 61, 7, 62, 63, 64, 65, 66, 67, 68, 69, 70, 71, 72, 73, 80, 81, 82, 83, 84, 85, 86, 87, 88, 89, 90, 91, 92, 93, 94, 95, 96, 97, 98, 99, 100, 101, 102, 103] (by decide +kernel) (by decide +kernel)
set_option maxRecDepth 20000 in
theorem gX11_filled_X11_does : GoodIn wsX11_filled (wsV RX11 130 RX11 yX11_does wsX11_does) := goodIn_app (goodIn_of _ (by decide +kernel)) ggX11_filled_X11_does
set_option maxRecDepth 20000 in
theorem ggX11_filled_X11_ones : GoodIn wsX11_filled wsX11_ones := goodIn_r _ [65] (by decide +kernel) (by decide +kernel)
set_option maxRecDepth 20000 in
theorem gX11_filled_X11_ones : GoodIn wsX11_filled (va_wsS RX11 81 yX11_ones wsX11_ones) := goodIn_app (goodIn_of _ (by decide +kernel)) ggX11_filled_X11_ones
set_option maxRecDepth 20000 in
theorem ggX11_filled_X11_power : GoodIn wsX11_filled wsX11_power := goodIn_r _ [76] (by decide +kernel) (by decide +kernel)
set_option maxRecDepth 20000 in
theorem gX11_filled_X11_power : GoodIn wsX11_filled (va_wsS RX11 141 yX11_power wsX11_power) := goodIn_app (goodIn_of _ (by decide +kernel)) ggX11_filled_X11_power
set_option maxRecDepth 20000 in
theorem ggX11_filled_X11_lowest : GoodIn wsX11_filled wsX11_lowest := goodIn_r _ [79] (by decide +kernel) (by decide +kernel)
set_option maxRecDepth 20000 in
theorem gX11_filled_X11_lowest : GoodIn wsX11_filled (va_wsS RX11 147 yX11_lowest wsX11_lowest) := goodIn_app (goodIn_of _ (by decide +kernel)) ggX11_filled_X11_lowest
set_option maxRecDepth 20000 in
theorem ggX11_sure_X11_isRow : GoodIn wsX11_sure wsX11_isRow := goodIn_r _ [6, 7, 8, 5, 9] (by decide +kernel) (by decide +kernel)
set_option maxRecDepth 20000 in
theorem gX11_sure_X11_isRow : GoodIn wsX11_sure (va_wsS RX11 63 yX11_isRow wsX11_isRow) := goodIn_app (goodIn_of _ (by decide +kernel)) ggX11_sure_X11_isRow
set_option maxRecDepth 20000 in
theorem ggX11_sure_X11_faultNow : GoodIn wsX11_sure wsX11_faultNow := goodIn_r _ [13, 14, 15, 16, 17, 18, 19, 20, 21, 5, 22, 23, 24, 25, 26, 27, 28, 29, 30, 31, 32, 33, 34, 7, 8, 9, 68, 69, 70, 71, 72, 73, 74, 75, 76, 77, 78, 79, 80, 81, 82, 83, 84, 85, 86, 87, 88, 89, 90, 91] (by decide +kernel) (by decide +kernel)
set_option maxRecDepth 20000 in
theorem gX11_sure_X11_faultNow : GoodIn wsX11_sure (wsV RX11 127 RX11 yX11_faultNow wsX11_faultNow) := goodIn_app (goodIn_of _ (by decide +kernel)) ggX11_sure_X11_faultNow
set_option maxRecDepth 20000 in
theorem ggX11_sure_X11_gathers : GoodIn wsX11_sure wsX11_gathers := goodIn_r _ [38, 2, 1, 39, 40, 68, 69, 70, 71, 72, 73, 74, 75, 76, 77, 78, 79, 80, 81, 82, 83, 84, 85, 86, 87, 88, 89, 90, 91] (by decide +kernel) (by decide +kernel)
set_option maxRecDepth 20000 in
theorem gX11_sure_X11_gathers : GoodIn wsX11_sure (wsV RX11 154 RX11 yX11_gathers wsX11_gathers) := goodIn_app (goodIn_of _ (by decide +kernel)) ggX11_sure_X11_gathers
set_option maxRecDepth 20000 in
theorem ggX11_sure_X11_fill : GoodIn wsX11_sure wsX11_fill := goodIn_r _ [44, 2, 40, 45, 46, 47, 5, 48, 1, 39, 68, 69, 70, 71, 72, 73, 74, 75, 76, 77, 78, 79, 80, 81, 82, 83, 84, 85, 86, 87, 88, 89, 90, 91] (by decide +kernel) (by decide +kernel)
set_option maxRecDepth 20000 in
theorem gX11_sure_X11_fill : GoodIn wsX11_sure (wsV RX11 158 RX11 yX11_fill wsX11_fill) := goodIn_app (goodIn_of _ (by decide +kernel)) ggX11_sure_X11_fill
set_option maxRecDepth 20000 in
theorem ggX11_sure_X11_does : GoodIn wsX11_sure wsX11_does := goodIn_r _ [52, 17, 26, 23, 24, 25, 53, 54, 55, 5, 56, 57, 58, 59, 60, 61, 62, 63, 64, 65, 66, 67, 68, 69, 70, 71, 72, 73, 74, 75, 76, 77, 78, 79, 80, 81, 82, 83, 84, 85, 86, 87, 88, 89, 90, 91] (by decide +kernel) (by decide +kernel)
set_option maxRecDepth 20000 in
theorem gX11_sure_X11_does : GoodIn wsX11_sure (wsV RX11 130 RX11 yX11_does wsX11_does) := goodIn_app (goodIn_of _ (by decide +kernel)) ggX11_sure_X11_does
set_option maxRecDepth 20000 in
theorem ggX11_dealtMany_X11_bitsOf : GoodIn wsX11_dealtMany wsX11_bitsOf := goodIn_r _ [6, 1, 7, 23, 24, 25, 26, 27, 28, 29, 30, 31, 32, 33, 34, 35, 36, 37, 38, 39, 40, 41, 42, 43, 44, 45, 46] (by decide +kernel) (by decide +kernel)
set_option maxRecDepth 20000 in
theorem gX11_dealtMany_X11_bitsOf : GoodIn wsX11_dealtMany (wsV RX11 90 RX11 yX11_bitsOf wsX11_bitsOf) := goodIn_app (goodIn_of _ (by decide +kernel)) ggX11_dealtMany_X11_bitsOf
set_option maxRecDepth 20000 in
theorem ggX11_dealtMany_X11_ones : GoodIn wsX11_dealtMany wsX11_ones := goodIn_r _ [10] (by decide +kernel) (by decide +kernel)
set_option maxRecDepth 20000 in
theorem gX11_dealtMany_X11_ones : GoodIn wsX11_dealtMany (va_wsS RX11 81 yX11_ones wsX11_ones) := goodIn_app (goodIn_of _ (by decide +kernel)) ggX11_dealtMany_X11_ones
set_option maxRecDepth 20000 in
theorem ggX11_dealtMany_X11_numberOf : GoodIn wsX11_dealtMany wsX11_numberOf := goodIn_r _ [14, 8, 9, 5, 10, 15, 16, 17, 18, 19, 20, 21, 22, 23, 24, 25, 26, 27, 28, 29, 30, 31, 32, 33, 34, 35, 36, 37, 38, 39, 40, 41, 42, 43, 44, 45, 46] (by decide +kernel) (by decide +kernel)
set_option maxRecDepth 20000 in
theorem gX11_dealtMany_X11_numberOf : GoodIn wsX11_dealtMany (wsV RX11 93 RX11 yX11_numberOf wsX11_numberOf) := goodIn_app (goodIn_of _ (by decide +kernel)) ggX11_dealtMany_X11_numberOf
set_option maxRecDepth 20000 in
theorem ggX11_dealtAll_X11_bitsOf : GoodIn wsX11_dealtAll wsX11_bitsOf := goodIn_r _ [6, 1, 7, 14, 15, 16, 17, 18, 19, 20, 21, 22, 23, 24, 25, 26, 27, 28, 29, 30, 31, 32, 33, 34, 35, 36, 37] (by decide +kernel) (by decide +kernel)
set_option maxRecDepth 20000 in
theorem gX11_dealtAll_X11_bitsOf : GoodIn wsX11_dealtAll (wsV RX11 90 RX11 yX11_bitsOf wsX11_bitsOf) := goodIn_app (goodIn_of _ (by decide +kernel)) ggX11_dealtAll_X11_bitsOf
set_option maxRecDepth 20000 in
theorem ggX11_dealtAll_X11_ones : GoodIn wsX11_dealtAll wsX11_ones := goodIn_r _ [10] (by decide +kernel) (by decide +kernel)
set_option maxRecDepth 20000 in
theorem gX11_dealtAll_X11_ones : GoodIn wsX11_dealtAll (va_wsS RX11 81 yX11_ones wsX11_ones) := goodIn_app (goodIn_of _ (by decide +kernel)) ggX11_dealtAll_X11_ones
set_option maxRecDepth 20000 in
theorem ggX11_dealtAll_X11_choose : GoodIn wsX11_dealtAll wsX11_choose := goodIn_r _ [13] (by decide +kernel) (by decide +kernel)
set_option maxRecDepth 20000 in
theorem gX11_dealtAll_X11_choose : GoodIn wsX11_dealtAll (va_wsS RX11 161 yX11_choose wsX11_choose) := goodIn_app (goodIn_of _ (by decide +kernel)) ggX11_dealtAll_X11_choose
set_option maxRecDepth 20000 in
theorem ggX11_dealt_X11_isRow : GoodIn wsX11_dealt wsX11_isRow := goodIn_r _ [5, 6, 7, 4, 8] (by decide +kernel) (by decide +kernel)
set_option maxRecDepth 20000 in
theorem gX11_dealt_X11_isRow : GoodIn wsX11_dealt (va_wsS RX11 63 yX11_isRow wsX11_isRow) := goodIn_app (goodIn_of _ (by decide +kernel)) ggX11_dealt_X11_isRow
set_option maxRecDepth 20000 in
theorem ggX11_dealt_X11_in : GoodIn wsX11_dealt wsX11_in := goodIn_r _ [8] (by decide +kernel) (by decide +kernel)
set_option maxRecDepth 20000 in
theorem gX11_dealt_X11_in : GoodIn wsX11_dealt (va_wsS RX11 59 yX11_in wsX11_in) := goodIn_app (goodIn_of _ (by decide +kernel)) ggX11_dealt_X11_in
set_option maxRecDepth 20000 in
theorem ggX11_dealt_X11_isWhole : GoodIn wsX11_dealt wsX11_isWhole := goodIn_r _ [12, 13, 14, 45, 46, 47, 48, 49, 50, 51, 52, 53, 54, 55, 56, 57, 58, 59, 60, 61, 62, 63, 64, 65, 66, 67, 68] (by decide +kernel) (by decide +kernel)
set_option maxRecDepth 20000 in
theorem gX11_dealt_X11_isWhole : GoodIn wsX11_dealt (wsV RX11 87 RX11 yX11_isWhole wsX11_isWhole) := goodIn_app (goodIn_of _ (by decide +kernel)) ggX11_dealt_X11_isWhole
set_option maxRecDepth 20000 in
theorem ggX11_dealt_X11_dealtMany : GoodIn wsX11_dealt wsX11_dealtMany := goodIn_r _ [18, 13, 19, 20, 21, 4, 22, 14, 23, 24, 25, 26, 27, 28, 29, 30, 31, 32, 33, 34, 35, 36, 37, 45, 46, 47, 48, 49, 50, 51, 52, 53, 54, 55, 56, 57, 58, 59, 60, 61, 62, 63, 64, 65, 66, 67, 68] (by decide +kernel) (by decide +kernel)
set_option maxRecDepth 20000 in
theorem gX11_dealt_X11_dealtMany : GoodIn wsX11_dealt (wsV RX11 167 RX11 yX11_dealtMany wsX11_dealtMany) := goodIn_app (goodIn_of _ (by decide +kernel)) ggX11_dealt_X11_dealtMany
set_option maxRecDepth 20000 in
theorem ggX11_dealt_X11_dealtAll : GoodIn wsX11_dealt wsX11_dealtAll := goodIn_r _ [41, 13, 19, 20, 21, 4, 22, 14, 23, 24, 25, 42, 43, 44, 45, 46, 47, 48, 49, 50, 51, 52, 53, 54, 55, 56, 57, 58, 59, 60, 61, 62, 63, 64, 65, 66, 67, 68] (by decide +kernel) (by decide +kernel)
set_option maxRecDepth 20000 in
theorem gX11_dealt_X11_dealtAll : GoodIn wsX11_dealt (wsV RX11 171 RX11 yX11_dealtAll wsX11_dealtAll) := goodIn_app (goodIn_of _ (by decide +kernel)) ggX11_dealt_X11_dealtAll
set_option maxRecDepth 20000 in
theorem ggX11_strangest_X11_isRow : GoodIn wsX11_strangest wsX11_isRow := goodIn_r _ [5, 6, 7, 4, 8] (by decide +kernel) (by decide +kernel)
set_option maxRecDepth 20000 in
theorem gX11_strangest_X11_isRow : GoodIn wsX11_strangest (va_wsS RX11 63 yX11_isRow wsX11_isRow) := goodIn_app (goodIn_of _ (by decide +kernel)) ggX11_strangest_X11_isRow
set_option maxRecDepth 20000 in
theorem ggX11_strangest_X11_isWhole : GoodIn wsX11_strangest wsX11_isWhole := goodIn_r _ [12, 1, 13, 37, 38, 39, 40, 41, 42, 43, 44, 45, 46, 47, 48, 49, 50, 51, 52, 53, 54, 55, 56, 57, 58, 59, 60] (by decide +kernel) (by decide +kernel)
set_option maxRecDepth 20000 in
theorem gX11_strangest_X11_isWhole : GoodIn wsX11_strangest (wsV RX11 87 RX11 yX11_isWhole wsX11_isWhole) := goodIn_app (goodIn_of _ (by decide +kernel)) ggX11_strangest_X11_isWhole
set_option maxRecDepth 20000 in
theorem ggX11_strangest_X11_dealtMany : GoodIn wsX11_strangest wsX11_dealtMany := goodIn_r _ [17, 1, 18, 19, 20, 4, 21, 13, 22, 23, 24, 25, 26, 27, 28, 29, 30, 31, 32, 33, 34, 35, 36, 37, 38, 39, 40, 41, 42, 43, 44, 45, 46, 47, 48, 49, 50, 51, 52, 53, 54, 55, 56, 57, 58, 59, 60] (by decide +kernel) (by decide +kernel)
set_option maxRecDepth 20000 in
theorem gX11_strangest_X11_dealtMany : GoodIn wsX11_strangest (wsV RX11 167 RX11 yX11_dealtMany wsX11_dealtMany) := goodIn_app (goodIn_of _ (by decide +kernel)) ggX11_strangest_X11_dealtMany
set_option maxRecDepth 20000 in
theorem ggX11_hot_X11_isRow : GoodIn wsX11_hot wsX11_isRow := goodIn_r _ [7, 8, 9, 6, 10] (by decide +kernel) (by decide +kernel)
set_option maxRecDepth 20000 in
theorem gX11_hot_X11_isRow : GoodIn wsX11_hot (va_wsS RX11 63 yX11_isRow wsX11_isRow) := goodIn_app (goodIn_of _ (by decide +kernel)) ggX11_hot_X11_isRow
set_option maxRecDepth 20000 in
theorem ggX11_hot_X11_in : GoodIn wsX11_hot wsX11_in := goodIn_r _ [10] (by decide +kernel) (by decide +kernel)
set_option maxRecDepth 20000 in
theorem gX11_hot_X11_in : GoodIn wsX11_hot (va_wsS RX11 59 yX11_in wsX11_in) := goodIn_app (goodIn_of _ (by decide +kernel)) ggX11_hot_X11_in
set_option maxRecDepth 20000 in
theorem ggX11_hot_X11_no : GoodIn wsX11_hot wsX11_no := goodIn_r _ [13, 14] (by decide +kernel) (by decide +kernel)
set_option maxRecDepth 20000 in
theorem gX11_hot_X11_no : GoodIn wsX11_hot (va_wsS RX11 137 yX11_no wsX11_no) := goodIn_app (goodIn_of _ (by decide +kernel)) ggX11_hot_X11_no
set_option maxRecDepth 20000 in
theorem ggX11_hot_X11_isWhole : GoodIn wsX11_hot wsX11_isWhole := goodIn_r _ [18, 1, 19, 31, 32, 33, 34, 35, 36, 37, 38, 39, 40, 41, 42, 43, 44, 45, 46, 47, 48, 49, 50, 51, 52, 53, 54] (by decide +kernel) (by decide +kernel)
set_option maxRecDepth 20000 in
theorem gX11_hot_X11_isWhole : GoodIn wsX11_hot (wsV RX11 87 RX11 yX11_isWhole wsX11_isWhole) := goodIn_app (goodIn_of _ (by decide +kernel)) ggX11_hot_X11_isWhole
set_option maxRecDepth 20000 in
theorem ggX11_hot_X11_bitsOf : GoodIn wsX11_hot wsX11_bitsOf := goodIn_r _ [23, 1, 19, 31, 32, 33, 34, 35, 36, 37, 38, 39, 40, 41, 42, 43, 44, 45, 46, 47, 48, 49, 50, 51, 52, 53, 54] (by decide +kernel) (by decide +kernel)
set_option maxRecDepth 20000 in
theorem gX11_hot_X11_bitsOf : GoodIn wsX11_hot (wsV RX11 90 RX11 yX11_bitsOf wsX11_bitsOf) := goodIn_app (goodIn_of _ (by decide +kernel)) ggX11_hot_X11_bitsOf
set_option maxRecDepth 20000 in
theorem ggX11_hot_X11_behind : GoodIn wsX11_hot wsX11_behind := goodIn_r _ [27, 2, 3, 31, 32, 33, 34, 35, 36, 37, 38, 39, 40, 41, 42, 43, 44, 45, 46, 47, 48, 49, 50, 51, 52, 53, 54] (by decide +kernel) (by decide +kernel)
set_option maxRecDepth 20000 in
theorem gX11_hot_X11_behind : GoodIn wsX11_hot (wsV RX11 180 RX11 yX11_behind wsX11_behind) := goodIn_app (goodIn_of _ (by decide +kernel)) ggX11_hot_X11_behind
set_option maxRecDepth 20000 in
theorem ggX11_hot_X11_lowest : GoodIn wsX11_hot wsX11_lowest := goodIn_r _ [30] (by decide +kernel) (by decide +kernel)
set_option maxRecDepth 20000 in
theorem gX11_hot_X11_lowest : GoodIn wsX11_hot (va_wsS RX11 147 yX11_lowest wsX11_lowest) := goodIn_app (goodIn_of _ (by decide +kernel)) ggX11_hot_X11_lowest
set_option maxRecDepth 20000 in
theorem ggX11_already_X11_isRow : GoodIn wsX11_already wsX11_isRow := goodIn_r _ [8, 9, 10, 7, 11] (by decide +kernel) (by decide +kernel)
set_option maxRecDepth 20000 in
theorem gX11_already_X11_isRow : GoodIn wsX11_already (va_wsS RX11 63 yX11_isRow wsX11_isRow) := goodIn_app (goodIn_of _ (by decide +kernel)) ggX11_already_X11_isRow
set_option maxRecDepth 20000 in
theorem ggX11_already_X11_in : GoodIn wsX11_already wsX11_in := goodIn_r _ [11] (by decide +kernel) (by decide +kernel)
set_option maxRecDepth 20000 in
theorem gX11_already_X11_in : GoodIn wsX11_already (va_wsS RX11 59 yX11_in wsX11_in) := goodIn_app (goodIn_of _ (by decide +kernel)) ggX11_already_X11_in
set_option maxRecDepth 20000 in
theorem ggX11_already_X11_no : GoodIn wsX11_already wsX11_no := goodIn_r _ [14, 15] (by decide +kernel) (by decide +kernel)
set_option maxRecDepth 20000 in
theorem gX11_already_X11_no : GoodIn wsX11_already (va_wsS RX11 137 yX11_no wsX11_no) := goodIn_app (goodIn_of _ (by decide +kernel)) ggX11_already_X11_no
set_option maxRecDepth 20000 in
theorem ggX11_already_X11_isWhole : GoodIn wsX11_already wsX11_isWhole := goodIn_r _ [19, 1, 20, 35, 36, 37, 38, 39, 40, 41, 42, 43, 44, 45, 46, 47, 48, 49, 50, 51, 52, 53, 54, 55, 56, 57, 58] (by decide +kernel) (by decide +kernel)
set_option maxRecDepth 20000 in
theorem gX11_already_X11_isWhole : GoodIn wsX11_already (wsV RX11 87 RX11 yX11_isWhole wsX11_isWhole) := goodIn_app (goodIn_of _ (by decide +kernel)) ggX11_already_X11_isWhole
set_option maxRecDepth 20000 in
theorem ggX11_already_X11_bitsOf : GoodIn wsX11_already wsX11_bitsOf := goodIn_r _ [24, 1, 20, 35, 36, 37, 38, 39, 40, 41, 42, 43, 44, 45, 46, 47, 48, 49, 50, 51, 52, 53, 54, 55, 56, 57, 58] (by decide +kernel) (by decide +kernel)
set_option maxRecDepth 20000 in
theorem gX11_already_X11_bitsOf : GoodIn wsX11_already (wsV RX11 90 RX11 yX11_bitsOf wsX11_bitsOf) := goodIn_app (goodIn_of _ (by decide +kernel)) ggX11_already_X11_bitsOf
set_option maxRecDepth 20000 in
theorem ggX11_already_X11_ones : GoodIn wsX11_already wsX11_ones := goodIn_r _ [27] (by decide +kernel) (by decide +kernel)
set_option maxRecDepth 20000 in
theorem gX11_already_X11_ones : GoodIn wsX11_already (va_wsS RX11 81 yX11_ones wsX11_ones) := goodIn_app (goodIn_of _ (by decide +kernel)) ggX11_already_X11_ones
set_option maxRecDepth 20000 in
theorem ggX11_already_X11_behind : GoodIn wsX11_already wsX11_behind := goodIn_r _ [31, 2, 3, 35, 36, 37, 38, 39, 40, 41, 42, 43, 44, 45, 46, 47, 48, 49, 50, 51, 52, 53, 54, 55, 56, 57, 58] (by decide +kernel) (by decide +kernel)
set_option maxRecDepth 20000 in
theorem gX11_already_X11_behind : GoodIn wsX11_already (wsV RX11 180 RX11 yX11_behind wsX11_behind) := goodIn_app (goodIn_of _ (by decide +kernel)) ggX11_already_X11_behind
set_option maxRecDepth 20000 in
theorem ggX11_already_X11_lowest : GoodIn wsX11_already wsX11_lowest := goodIn_r _ [34] (by decide +kernel) (by decide +kernel)
set_option maxRecDepth 20000 in
theorem gX11_already_X11_lowest : GoodIn wsX11_already (va_wsS RX11 147 yX11_lowest wsX11_lowest) := goodIn_app (goodIn_of _ (by decide +kernel)) ggX11_already_X11_lowest
set_option maxRecDepth 20000 in
theorem ggX11_oddsOf_X11_lengthOf : GoodIn wsX11_oddsOf wsX11_lengthOf := goodIn_r _ [5] (by decide +kernel) (by decide +kernel)
set_option maxRecDepth 20000 in
theorem gX11_oddsOf_X11_lengthOf : GoodIn wsX11_oddsOf (va_wsS RX11 78 yX11_lengthOf wsX11_lengthOf) := goodIn_app (goodIn_of _ (by decide +kernel)) ggX11_oddsOf_X11_lengthOf
set_option maxRecDepth 20000 in
theorem ggX11_overlaps_X11_lengthOf : GoodIn wsX11_overlaps wsX11_lengthOf := goodIn_r _ [4] (by decide +kernel) (by decide +kernel)
set_option maxRecDepth 20000 in
theorem gX11_overlaps_X11_lengthOf : GoodIn wsX11_overlaps (va_wsS RX11 78 yX11_lengthOf wsX11_lengthOf) := goodIn_app (goodIn_of _ (by decide +kernel)) ggX11_overlaps_X11_lengthOf
set_option maxRecDepth 20000 in
theorem ggX11_lead_X11_lengthOf : GoodIn wsX11_lead wsX11_lengthOf := goodIn_r _ [5] (by decide +kernel) (by decide +kernel)
set_option maxRecDepth 20000 in
theorem gX11_lead_X11_lengthOf : GoodIn wsX11_lead (va_wsS RX11 78 yX11_lengthOf wsX11_lengthOf) := goodIn_app (goodIn_of _ (by decide +kernel)) ggX11_lead_X11_lengthOf
set_option maxRecDepth 20000 in
theorem ggX11_lead_X11_overlaps : GoodIn wsX11_lead wsX11_overlaps := goodIn_r _ [8, 2, 3, 4, 5] (by decide +kernel) (by decide +kernel)
set_option maxRecDepth 20000 in
theorem gX11_lead_X11_overlaps : GoodIn wsX11_lead (va_wsS RX11 186 yX11_overlaps wsX11_overlaps) := goodIn_app (goodIn_of _ (by decide +kernel)) ggX11_lead_X11_overlaps
set_option maxRecDepth 20000 in
theorem ggX11_lead_X11_power : GoodIn wsX11_lead wsX11_power := goodIn_r _ [11] (by decide +kernel) (by decide +kernel)
set_option maxRecDepth 20000 in
theorem gX11_lead_X11_power : GoodIn wsX11_lead (va_wsS RX11 141 yX11_power wsX11_power) := goodIn_app (goodIn_of _ (by decide +kernel)) ggX11_lead_X11_power
set_option maxRecDepth 20000 in
theorem ggX11_lead_X11_oddsOf : GoodIn wsX11_lead wsX11_oddsOf := goodIn_r _ [15, 16, 2, 3, 4, 5, 17, 18, 19, 20, 21, 22, 23, 24, 25, 26, 27, 28, 29, 30, 31, 32, 33, 34, 35, 36, 37, 38, 39, 40] (by decide +kernel) (by decide +kernel)
set_option maxRecDepth 20000 in
theorem gX11_lead_X11_oddsOf : GoodIn wsX11_lead (wsV RX11 189 RX11 yX11_oddsOf wsX11_oddsOf) := goodIn_app (goodIn_of _ (by decide +kernel)) ggX11_lead_X11_oddsOf
set_option maxRecDepth 20000 in
theorem ggX11_waitsNow_X11_lead : GoodIn wsX11_waitsNow wsX11_lead := goodIn_r _ [6, 7, 8, 9, 5, 10, 11, 12, 13, 14, 15, 16, 17, 18, 19, 20, 21, 25, 26, 27, 28, 29, 30, 31, 32, 33, 34, 35, 36, 37, 38, 39, 40, 41, 42, 43, 44, 45, 46, 47, 48] (by decide +kernel) (by decide +kernel)
set_option maxRecDepth 20000 in
theorem gX11_waitsNow_X11_lead : GoodIn wsX11_waitsNow (wsV RX11 192 RX11 yX11_lead wsX11_lead) := goodIn_app (goodIn_of _ (by decide +kernel)) ggX11_waitsNow_X11_lead
set_option maxRecDepth 20000 in
theorem ggX11_waitsNow_X11_lengthOf : GoodIn wsX11_waitsNow wsX11_lengthOf := goodIn_r _ [10] (by decide +kernel) (by decide +kernel)
set_option maxRecDepth 20000 in
theorem gX11_waitsNow_X11_lengthOf : GoodIn wsX11_waitsNow (va_wsS RX11 78 yX11_lengthOf wsX11_lengthOf) := goodIn_app (goodIn_of _ (by decide +kernel)) ggX11_waitsNow_X11_lengthOf
set_option maxRecDepth 20000 in
theorem ggX11_waitsNow_X11_oddsOf : GoodIn wsX11_waitsNow wsX11_oddsOf := goodIn_r _ [20, 21, 8, 9, 5, 10, 25, 26, 27, 28, 29, 30, 31, 32, 33, 34, 35, 36, 37, 38, 39, 40, 41, 42, 43, 44, 45, 46, 47, 48] (by decide +kernel) (by decide +kernel)
set_option maxRecDepth 20000 in
theorem gX11_waitsNow_X11_oddsOf : GoodIn wsX11_waitsNow (wsV RX11 189 RX11 yX11_oddsOf wsX11_oddsOf) := goodIn_app (goodIn_of _ (by decide +kernel)) ggX11_waitsNow_X11_oddsOf
set_option maxRecDepth 20000 in
theorem ggX11_waitsNow_X11_lowest : GoodIn wsX11_waitsNow wsX11_lowest := goodIn_r _ [24] (by decide +kernel) (by decide +kernel)
set_option maxRecDepth 20000 in
theorem gX11_waitsNow_X11_lowest : GoodIn wsX11_waitsNow (va_wsS RX11 147 yX11_lowest wsX11_lowest) := goodIn_app (goodIn_of _ (by decide +kernel)) ggX11_waitsNow_X11_lowest
set_option maxRecDepth 20000 in
theorem ggX11_waits_X11_in : GoodIn wsX11_waits wsX11_in := goodIn_r _ [4] (by decide +kernel) (by decide +kernel)
set_option maxRecDepth 20000 in
theorem gX11_waits_X11_in : GoodIn wsX11_waits (va_wsS RX11 59 yX11_in wsX11_in) := goodIn_app (goodIn_of _ (by decide +kernel)) ggX11_waits_X11_in
end
section
set_option maxRecDepth 20000 in
theorem ggX11_waits_X11_waitsNow : GoodIn wsX11_waits wsX11_waitsNow := goodIn_r _ [8, 9, 10, 11, 12, 3, 13, 14, 15, 16, 17, 18, 19, 20, 21, 22, 23, 24, 25, 26, 27, 28, 29, 30, 31, 36, 37, 38, 39, 40, 41, 42, 43, 44, 45, 46, 47, 48, 49, 50, 51, 52, 53, 54, 55, 56, 57, 58, 59] (by decide +kernel) (by decide +kernel)
set_option maxRecDepth 20000 in
theorem gX11_waits_X11_waitsNow : GoodIn wsX11_waits (wsV RX11 195 RX11 yX11_waitsNow wsX11_waitsNow) := goodIn_app (goodIn_of _ (by decide +kernel)) ggX11_waits_X11_waitsNow
set_option maxRecDepth 20000 in
theorem ggX11_waits_X11_no : GoodIn wsX11_waits wsX11_no := goodIn_r _ [34, 35] (by decide +kernel) (by decide +kernel)
set_option maxRecDepth 20000 in
theorem gX11_waits_X11_no : GoodIn wsX11_waits (va_wsS RX11 137 yX11_no wsX11_no) := goodIn_app (goodIn_of _ (by decide +kernel)) ggX11_waits_X11_no
set_option maxRecDepth 20000 in
theorem ggX11_stands_X11_lengthOf : GoodIn wsX11_stands wsX11_lengthOf := goodIn_r _ [4] (by decide +kernel) (by decide +kernel)
set_option maxRecDepth 20000 in
theorem gX11_stands_X11_lengthOf : GoodIn wsX11_stands (va_wsS RX11 78 yX11_lengthOf wsX11_lengthOf) := goodIn_app (goodIn_of _ (by decide +kernel)) ggX11_stands_X11_lengthOf
set_option maxRecDepth 20000 in
theorem ggX11_first_X11_in : GoodIn wsX11_first wsX11_in := goodIn_r _ [4] (by decide +kernel) (by decide +kernel)
set_option maxRecDepth 20000 in
theorem gX11_first_X11_in : GoodIn wsX11_first (va_wsS RX11 59 yX11_in wsX11_in) := goodIn_app (goodIn_of _ (by decide +kernel)) ggX11_first_X11_in
set_option maxRecDepth 20000 in
theorem ggX11_first_X11_no : GoodIn wsX11_first wsX11_no := goodIn_r _ [7, 8] (by decide +kernel) (by decide +kernel)
set_option maxRecDepth 20000 in
theorem gX11_first_X11_no : GoodIn wsX11_first (va_wsS RX11 137 yX11_no wsX11_no) := goodIn_app (goodIn_of _ (by decide +kernel)) ggX11_first_X11_no
set_option maxRecDepth 20000 in
theorem ggX11_first_X11_stands : GoodIn wsX11_first wsX11_stands := goodIn_r _ [11, 12, 13, 3, 14] (by decide +kernel) (by decide +kernel)
set_option maxRecDepth 20000 in
theorem gX11_first_X11_stands : GoodIn wsX11_first (va_wsS RX11 198 yX11_stands wsX11_stands) := goodIn_app (goodIn_of _ (by decide +kernel)) ggX11_first_X11_stands
set_option maxRecDepth 20000 in
theorem ggX11_first_X11_lengthOf : GoodIn wsX11_first wsX11_lengthOf := goodIn_r _ [14] (by decide +kernel) (by decide +kernel)
set_option maxRecDepth 20000 in
theorem gX11_first_X11_lengthOf : GoodIn wsX11_first (va_wsS RX11 78 yX11_lengthOf wsX11_lengthOf) := goodIn_app (goodIn_of _ (by decide +kernel)) ggX11_first_X11_lengthOf
set_option maxRecDepth 20000 in
theorem ggX11_first_X11_oddsOf : GoodIn wsX11_first wsX11_oddsOf := goodIn_r _ [18, 19, 12, 13, 3, 14, 34, 35, 36, 37, 38, 39, 40, 41, 42, 43, 44, 45, 46, 47, 48, 49, 50, 51, 52, 53, 54, 55, 56, 57] (by decide +kernel) (by decide +kernel)
set_option maxRecDepth 20000 in
theorem gX11_first_X11_oddsOf : GoodIn wsX11_first (wsV RX11 189 RX11 yX11_oddsOf wsX11_oddsOf) := goodIn_app (goodIn_of _ (by decide +kernel)) ggX11_first_X11_oddsOf
set_option maxRecDepth 20000 in
theorem ggX11_first_X11_lead : GoodIn wsX11_first wsX11_lead := goodIn_r _ [23, 24, 12, 13, 3, 14, 25, 26, 27, 28, 29, 30, 15, 16, 17, 18, 19, 34, 35, 36, 37, 38, 39, 40, 41, 42, 43, 44, 45, 46, 47, 48, 49, 50, 51, 52, 53, 54, 55, 56, 57] (by decide +kernel) (by decide +kernel)
set_option maxRecDepth 20000 in
theorem gX11_first_X11_lead : GoodIn wsX11_first (wsV RX11 192 RX11 yX11_lead wsX11_lead) := goodIn_app (goodIn_of _ (by decide +kernel)) ggX11_first_X11_lead
set_option maxRecDepth 20000 in
theorem ggX11_first_X11_lowest : GoodIn wsX11_first wsX11_lowest := goodIn_r _ [33] (by decide +kernel) (by decide +kernel)
set_option maxRecDepth 20000 in
theorem gX11_first_X11_lowest : GoodIn wsX11_first (va_wsS RX11 147 yX11_lowest wsX11_lowest) := goodIn_app (goodIn_of _ (by decide +kernel)) ggX11_first_X11_lowest
set_option maxRecDepth 20000 in
theorem ggX11_agree_X11_isRow : GoodIn wsX11_agree wsX11_isRow := goodIn_r _ [6, 7, 8, 5, 9] (by decide +kernel) (by decide +kernel)
set_option maxRecDepth 20000 in
theorem gX11_agree_X11_isRow : GoodIn wsX11_agree (va_wsS RX11 63 yX11_isRow wsX11_isRow) := goodIn_app (goodIn_of _ (by decide +kernel)) ggX11_agree_X11_isRow
set_option maxRecDepth 20000 in
theorem ggX11_agree_X11_in : GoodIn wsX11_agree wsX11_in := goodIn_r _ [9] (by decide +kernel) (by decide +kernel)
set_option maxRecDepth 20000 in
theorem gX11_agree_X11_in : GoodIn wsX11_agree (va_wsS RX11 59 yX11_in wsX11_in) := goodIn_app (goodIn_of _ (by decide +kernel)) ggX11_agree_X11_in
set_option maxRecDepth 20000 in
theorem ggX11_agree_X11_isWhole : GoodIn wsX11_agree wsX11_isWhole := goodIn_r _ [13, 1, 14, 29, 30, 31, 32, 33, 34, 35, 36, 37, 38, 39, 40, 41, 42, 43, 44, 45, 46, 47, 48, 49, 50, 51, 52] (by decide +kernel) (by decide +kernel)
set_option maxRecDepth 20000 in
theorem gX11_agree_X11_isWhole : GoodIn wsX11_agree (wsV RX11 87 RX11 yX11_isWhole wsX11_isWhole) := goodIn_app (goodIn_of _ (by decide +kernel)) ggX11_agree_X11_isWhole
set_option maxRecDepth 20000 in
theorem ggX11_agree_X11_bitsOf : GoodIn wsX11_agree wsX11_bitsOf := goodIn_r _ [18, 1, 14, 29, 30, 31, 32, 33, 34, 35, 36, 37, 38, 39, 40, 41, 42, 43, 44, 45, 46, 47, 48, 49, 50, 51, 52] (by decide +kernel) (by decide +kernel)
set_option maxRecDepth 20000 in
theorem gX11_agree_X11_bitsOf : GoodIn wsX11_agree (wsV RX11 90 RX11 yX11_bitsOf wsX11_bitsOf) := goodIn_app (goodIn_of _ (by decide +kernel)) ggX11_agree_X11_bitsOf
set_option maxRecDepth 20000 in
theorem ggX11_agree_X11_ones : GoodIn wsX11_agree wsX11_ones := goodIn_r _ [21] (by decide +kernel) (by decide +kernel)
set_option maxRecDepth 20000 in
theorem gX11_agree_X11_ones : GoodIn wsX11_agree (va_wsS RX11 81 yX11_ones wsX11_ones) := goodIn_app (goodIn_of _ (by decide +kernel)) ggX11_agree_X11_ones
set_option maxRecDepth 20000 in
theorem ggX11_agree_X11_dealtAll : GoodIn wsX11_agree wsX11_dealtAll := goodIn_r _ [25, 1, 15, 16, 17, 5, 18, 14, 19, 20, 21, 26, 27, 28, 29, 30, 31, 32, 33, 34, 35, 36, 37, 38, 39, 40, 41, 42, 43, 44, 45, 46, 47, 48, 49, 50, 51, 52] (by decide +kernel) (by decide +kernel)
set_option maxRecDepth 20000 in
theorem gX11_agree_X11_dealtAll : GoodIn wsX11_agree (wsV RX11 171 RX11 yX11_dealtAll wsX11_dealtAll) := goodIn_app (goodIn_of _ (by decide +kernel)) ggX11_agree_X11_dealtAll
set_option maxRecDepth 20000 in
theorem ggX11_twice_X11_isRow : GoodIn wsX11_twice wsX11_isRow := goodIn_r _ [6, 7, 8, 5, 9] (by decide +kernel) (by decide +kernel)
set_option maxRecDepth 20000 in
theorem gX11_twice_X11_isRow : GoodIn wsX11_twice (va_wsS RX11 63 yX11_isRow wsX11_isRow) := goodIn_app (goodIn_of _ (by decide +kernel)) ggX11_twice_X11_isRow
set_option maxRecDepth 20000 in
theorem ggX11_twice_X11_isWhole : GoodIn wsX11_twice wsX11_isWhole := goodIn_r _ [13, 1, 2, 14, 15, 16, 17, 18, 19, 20, 21, 22, 23, 24, 25, 26, 27, 28, 29, 30, 31, 32, 33, 34, 35, 36, 37] (by decide +kernel) (by decide +kernel)
set_option maxRecDepth 20000 in
theorem gX11_twice_X11_isWhole : GoodIn wsX11_twice (wsV RX11 87 RX11 yX11_isWhole wsX11_isWhole) := goodIn_app (goodIn_of _ (by decide +kernel)) ggX11_twice_X11_isWhole
set_option maxRecDepth 20000 in
theorem ggX11_next_X11_isRow : GoodIn wsX11_next wsX11_isRow := goodIn_r _ [7, 8, 9, 6, 10] (by decide +kernel) (by decide +kernel)
set_option maxRecDepth 20000 in
theorem gX11_next_X11_isRow : GoodIn wsX11_next (va_wsS RX11 63 yX11_isRow wsX11_isRow) := goodIn_app (goodIn_of _ (by decide +kernel)) ggX11_next_X11_isRow
set_option maxRecDepth 20000 in
theorem ggX11_next_X11_in : GoodIn wsX11_next wsX11_in := goodIn_r _ [10] (by decide +kernel) (by decide +kernel)
set_option maxRecDepth 20000 in
theorem gX11_next_X11_in : GoodIn wsX11_next (va_wsS RX11 59 yX11_in wsX11_in) := goodIn_app (goodIn_of _ (by decide +kernel)) ggX11_next_X11_in
set_option maxRecDepth 20000 in
theorem ggX11_next_X11_lowest : GoodIn wsX11_next wsX11_lowest := goodIn_r _ [13] (by decide +kernel) (by decide +kernel)
set_option maxRecDepth 20000 in
theorem gX11_next_X11_lowest : GoodIn wsX11_next (va_wsS RX11 147 yX11_lowest wsX11_lowest) := goodIn_app (goodIn_of _ (by decide +kernel)) ggX11_next_X11_lowest
set_option maxRecDepth 20000 in
theorem ggX11_isSheet_X11_in : GoodIn wsX11_isSheet wsX11_in := goodIn_r _ [4] (by decide +kernel) (by decide +kernel)
set_option maxRecDepth 20000 in
theorem gX11_isSheet_X11_in : GoodIn wsX11_isSheet (va_wsS RX11 59 yX11_in wsX11_in) := goodIn_app (goodIn_of _ (by decide +kernel)) ggX11_isSheet_X11_in
set_option maxRecDepth 20000 in
theorem ggX11_sheet_X11_isSheet : GoodIn wsX11_sheet wsX11_isSheet := goodIn_r _ [8, 9, 10, 7, 11] (by decide +kernel) (by decide +kernel)
set_option maxRecDepth 20000 in
theorem gX11_sheet_X11_isSheet : GoodIn wsX11_sheet (va_wsS RX11 71 yX11_isSheet wsX11_isSheet) := goodIn_app (goodIn_of _ (by decide +kernel)) ggX11_sheet_X11_isSheet
set_option maxRecDepth 20000 in
theorem ggX11_sheet_X11_in : GoodIn wsX11_sheet wsX11_in := goodIn_r _ [11] (by decide +kernel) (by decide +kernel)
set_option maxRecDepth 20000 in
theorem gX11_sheet_X11_in : GoodIn wsX11_sheet (va_wsS RX11 59 yX11_in wsX11_in) := goodIn_app (goodIn_of _ (by decide +kernel)) ggX11_sheet_X11_in
set_option maxRecDepth 20000 in
theorem ggX11_sheet_X11_meets : GoodIn wsX11_sheet wsX11_meets := goodIn_r _ [15, 16, 17, 18, 19, 20, 21, 22, 23, 24, 25, 26, 27, 28, 29, 30, 31, 32, 33, 34, 35, 36, 37, 38, 39, 40] (by decide +kernel) (by decide +kernel)
set_option maxRecDepth 20000 in
theorem gX11_sheet_X11_meets : GoodIn wsX11_sheet (wsV RX11 74 RX11 yX11_meets wsX11_meets) := goodIn_app (goodIn_of _ (by decide +kernel)) ggX11_sheet_X11_meets
set_option maxRecDepth 20000 in
theorem ggX11_lose_X11_isSheet : GoodIn wsX11_lose wsX11_isSheet := goodIn_r _ [6, 7, 8, 5, 9] (by decide +kernel) (by decide +kernel)
set_option maxRecDepth 20000 in
theorem gX11_lose_X11_isSheet : GoodIn wsX11_lose (va_wsS RX11 71 yX11_isSheet wsX11_isSheet) := goodIn_app (goodIn_of _ (by decide +kernel)) ggX11_lose_X11_isSheet
set_option maxRecDepth 20000 in
theorem ggX11_lose_X11_meets : GoodIn wsX11_lose wsX11_meets := goodIn_r _ [13, 14, 15, 16, 17, 18, 19, 20, 21, 22, 23, 24, 25, 26, 27, 28, 29, 30, 31, 32, 33, 34, 35, 36, 37, 38] (by decide +kernel) (by decide +kernel)
set_option maxRecDepth 20000 in
theorem gX11_lose_X11_meets : GoodIn wsX11_lose (wsV RX11 74 RX11 yX11_meets wsX11_meets) := goodIn_app (goodIn_of _ (by decide +kernel)) ggX11_lose_X11_meets
set_option maxRecDepth 20000 in
theorem ggX11_lacks_X11_in : GoodIn wsX11_lacks wsX11_in := goodIn_r _ [7] (by decide +kernel) (by decide +kernel)
set_option maxRecDepth 20000 in
theorem gX11_lacks_X11_in : GoodIn wsX11_lacks (va_wsS RX11 59 yX11_in wsX11_in) := goodIn_app (goodIn_of _ (by decide +kernel)) ggX11_lacks_X11_in
set_option maxRecDepth 20000 in
theorem ggX11_put_X11_isSheet : GoodIn wsX11_put wsX11_isSheet := goodIn_r _ [4, 5, 6, 3, 7] (by decide +kernel) (by decide +kernel)
set_option maxRecDepth 20000 in
theorem gX11_put_X11_isSheet : GoodIn wsX11_put (va_wsS RX11 71 yX11_isSheet wsX11_isSheet) := goodIn_app (goodIn_of _ (by decide +kernel)) ggX11_put_X11_isSheet
set_option maxRecDepth 20000 in
theorem ggX11_put_X11_in : GoodIn wsX11_put wsX11_in := goodIn_r _ [7] (by decide +kernel) (by decide +kernel)
set_option maxRecDepth 20000 in
theorem gX11_put_X11_in : GoodIn wsX11_put (va_wsS RX11 59 yX11_in wsX11_in) := goodIn_app (goodIn_of _ (by decide +kernel)) ggX11_put_X11_in
set_option maxRecDepth 20000 in
theorem ggX11_put_X11_lacks : GoodIn wsX11_put wsX11_lacks := goodIn_r _ [11, 12, 13, 14, 5, 6, 3, 7, 25, 26, 27, 28, 29, 30, 31, 32, 33, 34, 35, 36, 37, 38, 39, 40, 41, 42, 43, 44, 45, 46, 47, 48] (by decide +kernel) (by decide +kernel)
set_option maxRecDepth 20000 in
theorem gX11_put_X11_lacks : GoodIn wsX11_put (wsV RX11 206 RX11 yX11_lacks wsX11_lacks) := goodIn_app (goodIn_of _ (by decide +kernel)) ggX11_put_X11_lacks
set_option maxRecDepth 20000 in
theorem ggX11_put_X11_meets : GoodIn wsX11_put wsX11_meets := goodIn_r _ [18, 19, 25, 26, 27, 28, 29, 30, 31, 32, 33, 34, 35, 36, 37, 38, 39, 40, 41, 42, 43, 44, 45, 46, 47, 48] (by decide +kernel) (by decide +kernel)
set_option maxRecDepth 20000 in
theorem gX11_put_X11_meets : GoodIn wsX11_put (wsV RX11 74 RX11 yX11_meets wsX11_meets) := goodIn_app (goodIn_of _ (by decide +kernel)) ggX11_put_X11_meets
set_option maxRecDepth 20000 in
theorem ggX11_put_X11_keep : GoodIn wsX11_put wsX11_keep := goodIn_r _ [23, 24, 13, 25, 26, 27, 28, 29, 30, 31, 32, 33, 34, 35, 36, 37, 38, 39, 40, 41, 42, 43, 44, 45, 46, 47, 48] (by decide +kernel) (by decide +kernel)
set_option maxRecDepth 20000 in
theorem gX11_put_X11_keep : GoodIn wsX11_put (wsV RX11 209 RX11 yX11_keep wsX11_keep) := goodIn_app (goodIn_of _ (by decide +kernel)) ggX11_put_X11_keep
set_option maxRecDepth 20000 in
theorem ggX11_get_X11_isSheet : GoodIn wsX11_get wsX11_isSheet := goodIn_r _ [7, 8, 9, 6, 10] (by decide +kernel) (by decide +kernel)
set_option maxRecDepth 20000 in
theorem gX11_get_X11_isSheet : GoodIn wsX11_get (va_wsS RX11 71 yX11_isSheet wsX11_isSheet) := goodIn_app (goodIn_of _ (by decide +kernel)) ggX11_get_X11_isSheet
set_option maxRecDepth 20000 in
theorem ggX11_get_X11_in : GoodIn wsX11_get wsX11_in := goodIn_r _ [10] (by decide +kernel) (by decide +kernel)
set_option maxRecDepth 20000 in
theorem gX11_get_X11_in : GoodIn wsX11_get (va_wsS RX11 59 yX11_in wsX11_in) := goodIn_app (goodIn_of _ (by decide +kernel)) ggX11_get_X11_in
set_option maxRecDepth 20000 in
theorem ggX11_get_X11_lacks : GoodIn wsX11_get wsX11_lacks := goodIn_r _ [14, 15, 16, 17, 8, 9, 6, 10, 18, 19, 20, 21, 22, 23, 24, 25, 26, 27, 28, 29, 30, 31, 32, 33, 34, 35, 36, 37, 38, 39, 40, 41] (by decide +kernel) (by decide +kernel)
set_option maxRecDepth 20000 in
theorem gX11_get_X11_lacks : GoodIn wsX11_get (wsV RX11 206 RX11 yX11_lacks wsX11_lacks) := goodIn_app (goodIn_of _ (by decide +kernel)) ggX11_get_X11_lacks
set_option maxRecDepth 20000 in
theorem ggX11_copy_X11_isSheet : GoodIn wsX11_copy wsX11_isSheet := goodIn_r _ [9, 10, 11, 8, 12] (by decide +kernel) (by decide +kernel)
set_option maxRecDepth 20000 in
theorem gX11_copy_X11_isSheet : GoodIn wsX11_copy (va_wsS RX11 71 yX11_isSheet wsX11_isSheet) := goodIn_app (goodIn_of _ (by decide +kernel)) ggX11_copy_X11_isSheet
set_option maxRecDepth 20000 in
theorem ggX11_copy_X11_meets : GoodIn wsX11_copy wsX11_meets := goodIn_r _ [16, 17, 18, 19, 20, 21, 22, 23, 24, 25, 26, 27, 28, 29, 30, 31, 32, 33, 34, 35, 36, 37, 38, 39, 40, 41] (by decide +kernel) (by decide +kernel)
set_option maxRecDepth 20000 in
theorem gX11_copy_X11_meets : GoodIn wsX11_copy (wsV RX11 74 RX11 yX11_meets wsX11_meets) := goodIn_app (goodIn_of _ (by decide +kernel)) ggX11_copy_X11_meets
set_option maxRecDepth 20000 in
theorem ggX11_write_X11_isRow : GoodIn wsX11_write wsX11_isRow := goodIn_r _ [8, 9, 10, 7, 11] (by decide +kernel) (by decide +kernel)
set_option maxRecDepth 20000 in
theorem gX11_write_X11_isRow : GoodIn wsX11_write (va_wsS RX11 63 yX11_isRow wsX11_isRow) := goodIn_app (goodIn_of _ (by decide +kernel)) ggX11_write_X11_isRow
set_option maxRecDepth 20000 in
theorem ggX11_write_X11_isSheet : GoodIn wsX11_write wsX11_isSheet := goodIn_r _ [14, 9, 10, 7, 11] (by decide +kernel) (by decide +kernel)
set_option maxRecDepth 20000 in
theorem gX11_write_X11_isSheet : GoodIn wsX11_write (va_wsS RX11 71 yX11_isSheet wsX11_isSheet) := goodIn_app (goodIn_of _ (by decide +kernel)) ggX11_write_X11_isSheet
set_option maxRecDepth 20000 in
theorem ggX11_write_X11_meets : GoodIn wsX11_write wsX11_meets := goodIn_r _ [18, 19, 26, 27, 28, 29, 30, 31, 32, 33, 34, 35, 36, 37, 38, 39, 40, 41, 42, 43, 44, 45, 46, 47, 48, 49] (by decide +kernel) (by decide +kernel)
set_option maxRecDepth 20000 in
theorem gX11_write_X11_meets : GoodIn wsX11_write (wsV RX11 74 RX11 yX11_meets wsX11_meets) := goodIn_app (goodIn_of _ (by decide +kernel)) ggX11_write_X11_meets
set_option maxRecDepth 20000 in
theorem ggX11_write_X11_keep : GoodIn wsX11_write wsX11_keep := goodIn_r _ [23, 24, 25, 26, 27, 28, 29, 30, 31, 32, 33, 34, 35, 36, 37, 38, 39, 40, 41, 42, 43, 44, 45, 46, 47, 48, 49] (by decide +kernel) (by decide +kernel)
set_option maxRecDepth 20000 in
theorem gX11_write_X11_keep : GoodIn wsX11_write (wsV RX11 209 RX11 yX11_keep wsX11_keep) := goodIn_app (goodIn_of _ (by decide +kernel)) ggX11_write_X11_keep
set_option maxRecDepth 20000 in
theorem ggX11_wholeOnes_X11_isWhole : GoodIn wsX11_wholeOnes wsX11_isWhole := goodIn_r _ [5, 6, 7, 8, 9, 10, 11, 12, 13, 14, 15, 16, 17, 18, 19, 20, 21, 22, 23, 24, 25, 26, 27, 28, 29, 30, 31] (by decide +kernel) (by decide +kernel)
set_option maxRecDepth 20000 in
theorem gX11_wholeOnes_X11_isWhole : GoodIn wsX11_wholeOnes (wsV RX11 87 RX11 yX11_isWhole wsX11_isWhole) := goodIn_app (goodIn_of _ (by decide +kernel)) ggX11_wholeOnes_X11_isWhole
set_option maxRecDepth 20000 in
theorem ggX11_count_X11_wholeOnes : GoodIn wsX11_count wsX11_wholeOnes := goodIn_r _ [10, 11, 12, 13, 9, 14, 1, 15, 16, 17, 18, 19, 20, 21, 22, 23, 24, 25, 26, 27, 28, 29, 30, 31, 32, 33, 34, 35, 36, 37, 38, 39] (by decide +kernel) (by decide +kernel)
set_option maxRecDepth 20000 in
theorem gX11_count_X11_wholeOnes : GoodIn wsX11_count (wsV RX11 213 RX11 yX11_wholeOnes wsX11_wholeOnes) := goodIn_app (goodIn_of _ (by decide +kernel)) ggX11_count_X11_wholeOnes
set_option maxRecDepth 20000 in
theorem ggX11_digest_X11_count : GoodIn wsX11_digest wsX11_count := goodIn_r _ [10, 3, 11, 12, 13, 14, 15, 16, 17, 9, 18, 19, 20, 21, 22, 4, 107, 108, 109, 110, 111, 112, 113, 114, 115, 116, 117, 118, 119, 120, 121, 122, 123, 124, 125, 126, 127, 128, 129, 130] (by decide +kernel) (by decide +kernel)
set_option maxRecDepth 20000 in
theorem gX11_digest_X11_count : GoodIn wsX11_digest (wsV RX11 220 RX11 yX11_count wsX11_count) := goodIn_app (goodIn_of _ (by decide +kernel)) ggX11_digest_X11_count
set_option maxRecDepth 20000 in
theorem ggX11_digest_X11_showsNow : GoodIn wsX11_digest wsX11_showsNow := goodIn_r _ [26, 3, 19, 20, 21, 9, 22, 4, 27, 28, 29, 30, 31, 32, 33, 34, 35, 36, 37, 38, 39, 40, 41, 13, 42, 43, 44, 107, 108, 109, 110, 111, 112, 113, 114, 115, 116, 117, 118, 119, 120, 121, 122, 123, 124, 125, 126, 127, 128, 129, 130] (by decide +kernel) (by decide +kernel)
set_option maxRecDepth 20000 in
theorem gX11_digest_X11_showsNow : GoodIn wsX11_digest (wsV RX11 97 RX11 yX11_showsNow wsX11_showsNow) := goodIn_app (goodIn_of _ (by decide +kernel)) ggX11_digest_X11_showsNow
set_option maxRecDepth 20000 in
theorem ggX11_digest_X11_faultNow : GoodIn wsX11_digest wsX11_faultNow := goodIn_r _ [48, 49, 50, 51, 52, 11, 53, 54, 55, 9, 56, 57, 58, 59, 60, 61, 62, 63, 64, 65, 66, 67, 68, 69, 70, 71, 107, 108, 109, 110, 111, 112, 113, 114, 115, 116, 117, 118, 119, 120, 121, 122, 123, 124, 125, 126, 127, 128, 129, 130] (by decide +kernel) (by decide +kernel)
set_option maxRecDepth 20000 in
theorem gX11_digest_X11_faultNow : GoodIn wsX11_digest (wsV RX11 127 RX11 yX11_faultNow wsX11_faultNow) := goodIn_app (goodIn_of _ (by decide +kernel)) ggX11_digest_X11_faultNow
set_option maxRecDepth 20000 in
theorem ggX11_digest_X11_shownNow : GoodIn wsX11_digest wsX11_shownNow := goodIn_r _ [75, 45, 46, 47, 9, 48, 49, 50, 51, 52, 11, 53, 54, 55, 56, 57, 58, 59, 60, 61, 62, 63, 64, 65, 66, 67, 68, 69, 70, 71, 35, 36, 37, 76, 77, 78, 79, 31, 32, 33, 34, 38, 39, 40, 41, 13, 42, 43, 44, 107, 108, 109, 110, 111, 112, 113, 114, 115, 116, 117, 118, 119, 120, 121, 122, 123, 124, 125, 126, 127, 128, 129, 130] (by decide +kernel) (by decide +kernel)
set_option maxRecDepth 20000 in
theorem gX11_digest_X11_shownNow : GoodIn wsX11_digest (wsV RX11 134 RX11 yX11_shownNow wsX11_shownNow) := goodIn_app (goodIn_of _ (by decide +kernel)) ggX11_digest_X11_shownNow
set_option maxRecDepth 20000 in
theorem ggX11_digest_X11_waitsNow : GoodIn wsX11_digest wsX11_waitsNow := goodIn_r _ [83, 13, 84, 85, 86, 9, 87, 88, 42, 43, 44, 89, 90, 91, 92, 93, 94, 95, 96, 97, 98, 12, 99, 100, 101, 107, 108, 109, 110, 111, 112, 113, 114, 115, 116, 117, 118, 119, 120, 121, 122, 123, 124, 125, 126, 127, 128, 129, 130] (by decide +kernel) (by decide +kernel)
set_option maxRecDepth 20000 in
theorem gX11_digest_X11_waitsNow : GoodIn wsX11_digest (wsV RX11 195 RX11 yX11_waitsNow wsX11_waitsNow) := goodIn_app (goodIn_of _ (by decide +kernel)) ggX11_digest_X11_waitsNow
set_option maxRecDepth 20000 in
theorem ggX11_digest_X11_gathers : GoodIn wsX11_digest wsX11_gathers := goodIn_r _ [105, 5, 3, 4, 106, 107, 108, 109, 110, 111, 112, 113, 114, 115, 116, 117, 118, 119, 120, 121, 122, 123, 124, 125, 126, 127, 128, 129, 130] (by decide +kernel) (by decide +kernel)
set_option maxRecDepth 20000 in
theorem gX11_digest_X11_gathers : GoodIn wsX11_digest (wsV RX11 154 RX11 yX11_gathers wsX11_gathers) := goodIn_app (goodIn_of _ (by decide +kernel)) ggX11_digest_X11_gathers
end
section
/-! own rows: standard contracts, calls over a whole world, guards of the pure pictures -/
abbrev xTys (k : Nat → ClassId) : List (ClassId × FieldType) := [(k 0, .int), (k 1, .boolean), (k 2, .object "RowsOfTwo$Row"), (k 3, .object "RowsOfTwo$Sheet"), (k 4, .array .int)]
abbrev xRm (n : Nat) : Room := { frames := n, cells := 0, slots := 0, locals := 34 * n }
abbrev xPre (D : va_G) (k : Nat → ClassId) (ws : va_W) (sz : Nat) : State → Prop := fun U => U.heap.size = sz ∧ va_P D vwCl ws U.heap ∧ va_K D vwCl (xTys k) U ∧ va_D (fun _ => True) ws
abbrev xAt (D : va_G) (k : Nat → ClassId) (A : Nat → Prop) (ws : va_W) (t : State) : Prop := va_P D vwCl ws t.heap ∧ va_K D vwCl (xTys k) t ∧ va_D A ws
abbrev rPre (D : va_G) (k : Nat → ClassId) (ws : va_W) : State → Prop := fun U => va_P D vwCl ws U.heap ∧ va_K D vwCl (xTys k) U
abbrev mPi (l : Launch) (y : MethodName) (wd : List Cond) (n : Nat) (as : List Value) (r : Int32) : Prop := Met l y wd (xRm n) (va_Pc as (fun _ => True)) (vp_Si (fun r' => r' = r)) 0 0 (fun _ => False)
abbrev mPl (l : Launch) (y : MethodName) (wd : List Cond) (n : Nat) (as : List Value) (r : Int64) : Prop := Met l y wd (xRm n) (va_Pc as (fun _ => True)) (vp_Sl (fun r' => r' = r)) 0 0 (fun _ => False)
abbrev mRi (l : Launch) (y : MethodName) (wd : List Cond) (n : Nat) (D : va_G) (k : Nat → ClassId) (as : List Value) (ws : va_W) (r : Int32) : Prop := Met l y wd (xRm n) (va_Pc as (rPre D k ws)) (vp_Si (fun r' => r' = r)) 0 0 (fun _ => False)
abbrev mRl (l : Launch) (y : MethodName) (wd : List Cond) (n : Nat) (D : va_G) (k : Nat → ClassId) (as : List Value) (ws : va_W) (r : Int64) : Prop := Met l y wd (xRm n) (va_Pc as (rPre D k ws)) (vp_Sl (fun r' => r' = r)) 0 0 (fun _ => False)
abbrev mQi (l : Launch) (y : MethodName) (wd : List Cond) (n : Nat) (D : va_G) (k : Nat → ClassId) (as : List Value) (ws : va_W) (r : Int32) (ws' : va_W) : Prop := ∀ sz : Nat, Met l y wd (xRm n) (va_Pc as (xPre D k ws sz)) (va_Qi (fun (r' : Int32) (w' : va_W) => r' = r ∧ w' = ws') (xAt D k (va_A ws sz)) (va_A ws sz)) 0 0 (va_A ws sz)
abbrev mQl (l : Launch) (y : MethodName) (wd : List Cond) (n : Nat) (D : va_G) (k : Nat → ClassId) (as : List Value) (ws : va_W) (r : Int64) (ws' : va_W) : Prop := ∀ sz : Nat, Met l y wd (xRm n) (va_Pc as (xPre D k ws sz)) (va_Ql (fun (r' : Int64) (w' : va_W) => r' = r ∧ w' = ws') (xAt D k (va_A ws sz)) (va_A ws sz)) 0 0 (va_A ws sz)
abbrev mQv (l : Launch) (y : MethodName) (wd : List Cond) (n : Nat) (D : va_G) (k : Nat → ClassId) (as : List Value) (ws : va_W) (ws' : va_W) : Prop := ∀ sz : Nat, Met l y wd (xRm n) (va_Pc as (xPre D k ws sz)) (va_Qv (fun (w' : va_W) => w' = ws') (xAt D k (va_A ws sz)) (va_A ws sz)) 0 0 (va_A ws sz)
/-- the free cells of a callee that has the whole world -/
theorem xFree {A : Nat → Prop} {ws : va_W} {H0 H : Heap} {locs : List Loc} (hD : va_D A ws) (hS : va_S A H0 H locs) (hA : ∀ q, H0.size ≤ q → A q) : ∀ q, va_A ws H.size q → A q := by
  intro q h
  rcases h with ⟨k, e, h⟩ | h
  · exact hD.2 k (q, e) h
  · exact hA q (Nat.le_trans hS.1 h)
theorem xBlind {D : va_G} {k : Nat → ClassId} {as : List Value} {ws : va_W} {sz : Nat} : FrameBlind (va_Pc as (xPre D k ws sz)) := fun a U g mk q => ⟨q.1, q.2.1, q.2.2.1, va_K.moved (u := U) (U := U.calling g mk a) (Vm.Alike.refl U.vm) q.2.2.2.1, q.2.2.2.2⟩
theorem rBlind {D : va_G} {k : Nat → ClassId} {as : List Value} {ws : va_W} : FrameBlind (va_Pc as (rPre D k ws)) := fun a U g mk q => ⟨q.1, q.2.1, va_K.moved (u := U) (U := U.calling g mk a) (Vm.Alike.refl U.vm) q.2.2⟩
section XK
variable {p : Program} {l : Launch} {e : Env} {R : Room} {s : State} {m : MethodId} {args : Array Value} {below : List Frame} {meth : Method} {c : Code} {H : Heap} {locs : List Loc} {Q : State → Prop}
variable {Ts wd : List Cond} {cc bytes : ByteArray} {nL maxL index n lv cells slots : Nat} {own C : String} {y : MethodName} {ret : Option FieldType} {As rest st0 : List Value} {pc : Nat} {ls : Array Slot} {D : va_G} {k : Nat → ClassId} {ws ws' : va_W} {A : Nat → Prop} {H0 : Heap} {b : Nat}
theorem kPi {r : Int32} (S : CallFix p m c cc nL s args Ts own) (hM : mPi l y wd lv As r) (cw : CallB R s args own index y bytes maxL ret wd (xRm lv) 0 0 n ∧ (Cond.static y).before args s = true) (hn : As.length = n) (hsize : ls.size = nL) (hst : st0 = As.reverse ++ rest) (hW : (rest.map fun v => v.category).sum ≤ 8) (hdg : decode cc pc = .ok (.invokestatic index, 3)) (hf : cells ≤ R.cells ∧ slots ≤ R.slots)
    (kk : W p l e R s m args below meth c H locs cells slots Q (F0 m (pc + 3) ls (.int r :: rest))) : W p l e R s m args below meth c H locs cells slots Q (F0 m pc ls st0) :=
  vp_callSi (W.runS S hM cw ⟨fun _ _ _ _ q => ⟨q.1, trivial⟩, fun _ _ _ => ⟨rfl, trivial⟩⟩ rfl hn hsize hst (lv_room hW) hdg hf) (fun r' hr => by subst hr; exact kk)
theorem kPl {r : Int64} (S : CallFix p m c cc nL s args Ts own) (hM : mPl l y wd lv As r) (cw : CallB R s args own index y bytes maxL ret wd (xRm lv) 0 0 n ∧ (Cond.static y).before args s = true) (hn : As.length = n) (hsize : ls.size = nL) (hst : st0 = As.reverse ++ rest) (hW : (rest.map fun v => v.category).sum ≤ 8) (hdg : decode cc pc = .ok (.invokestatic index, 3)) (hf : cells ≤ R.cells ∧ slots ≤ R.slots)
    (kk : W p l e R s m args below meth c H locs cells slots Q (F0 m (pc + 3) ls (.long r :: rest))) : W p l e R s m args below meth c H locs cells slots Q (F0 m pc ls st0) :=
  vp_callSl (W.runS S hM cw ⟨fun _ _ _ _ q => ⟨q.1, trivial⟩, fun _ _ _ => ⟨rfl, trivial⟩⟩ rfl hn hsize hst (lv_room hW) hdg hf) (fun r' hr => by subst hr; exact kk)
theorem kRiS {r : Int32} (S : CallFix p m c cc nL s args Ts own) (hM : mRi l y wd lv D k As ws r) (cw : CallB R s args own index y bytes maxL ret wd (xRm lv) 0 0 n ∧ (Cond.static y).before args s = true) (hK : va_K D vwCl (xTys k) s) (hP : va_P D vwCl ws H) (hn : As.length = n) (hsize : ls.size = nL) (hst : st0 = As.reverse ++ rest) (hW : (rest.map fun v => v.category).sum ≤ 8) (hdg : decode cc pc = .ok (.invokestatic index, 3)) (hf : cells ≤ R.cells ∧ slots ≤ R.slots)
    (kk : W p l e R s m args below meth c H locs cells slots Q (F0 m (pc + 3) ls (.int r :: rest))) : W p l e R s m args below meth c H locs cells slots Q (F0 m pc ls st0) :=
  vp_callSi (W.runS S hM cw ⟨rBlind, fun U hU hW => ⟨rfl, by rw [hU]; exact hP, va_K.moved hW.alike hK⟩⟩ rfl hn hsize hst (lv_room hW) hdg hf) (fun r' hr => by subst hr; exact kk)
theorem kRlS {r : Int64} (S : CallFix p m c cc nL s args Ts own) (hM : mRl l y wd lv D k As ws r) (cw : CallB R s args own index y bytes maxL ret wd (xRm lv) 0 0 n ∧ (Cond.static y).before args s = true) (hK : va_K D vwCl (xTys k) s) (hP : va_P D vwCl ws H) (hn : As.length = n) (hsize : ls.size = nL) (hst : st0 = As.reverse ++ rest) (hW : (rest.map fun v => v.category).sum ≤ 8) (hdg : decode cc pc = .ok (.invokestatic index, 3)) (hf : cells ≤ R.cells ∧ slots ≤ R.slots)
    (kk : W p l e R s m args below meth c H locs cells slots Q (F0 m (pc + 3) ls (.long r :: rest))) : W p l e R s m args below meth c H locs cells slots Q (F0 m pc ls st0) :=
  vp_callSl (W.runS S hM cw ⟨rBlind, fun U hU hW => ⟨rfl, by rw [hU]; exact hP, va_K.moved hW.alike hK⟩⟩ rfl hn hsize hst (lv_room hW) hdg hf) (fun r' hr => by subst hr; exact kk)
theorem kRiV {r : Int32} {q0 ci N : Nat} {T : u_T} {fs : List Value} (S : CallFix p m c cc nL s args Ts own) (hM : mRi l y wd lv D k (.ref b :: As) ws r) (cw : CallW R s args own C index y bytes maxL ret wd (xRm lv) 0 0 n) (hK : va_K D vwCl (xTys k) s) (hP : va_P D vwCl ws H) (he : ws[q0]? = some (b, .inr (ci, fs))) (hc : vwCl[ci]? = some (C, T, N)) (hn : As.length = n) (hsize : ls.size = nL) (hst : st0 = As.reverse ++ .ref b :: rest) (hW : (rest.map fun v => v.category).sum ≤ 8) (hdg : decode cc pc = .ok (.invokevirtual index, 3)) (hf : cells ≤ R.cells ∧ slots ≤ R.slots)
    (kk : W p l e R s m args below meth c H locs cells slots Q (F0 m (pc + 3) ls (.int r :: rest))) : W p l e R s m args below meth c H locs cells slots Q (F0 m pc ls st0) :=
  vp_callSi (W.runV S hM cw ⟨rBlind, va_recv hK hP hc he, fun U hU hW => ⟨rfl, by rw [hU]; exact hP, va_K.moved hW.alike hK⟩⟩ rfl hn hsize hst (lv_room hW) hdg hf) (fun r' hr => by subst hr; exact kk)
theorem kRlV {r : Int64} {q0 ci N : Nat} {T : u_T} {fs : List Value} (S : CallFix p m c cc nL s args Ts own) (hM : mRl l y wd lv D k (.ref b :: As) ws r) (cw : CallW R s args own C index y bytes maxL ret wd (xRm lv) 0 0 n) (hK : va_K D vwCl (xTys k) s) (hP : va_P D vwCl ws H) (he : ws[q0]? = some (b, .inr (ci, fs))) (hc : vwCl[ci]? = some (C, T, N)) (hn : As.length = n) (hsize : ls.size = nL) (hst : st0 = As.reverse ++ .ref b :: rest) (hW : (rest.map fun v => v.category).sum ≤ 8) (hdg : decode cc pc = .ok (.invokevirtual index, 3)) (hf : cells ≤ R.cells ∧ slots ≤ R.slots)
    (kk : W p l e R s m args below meth c H locs cells slots Q (F0 m (pc + 3) ls (.long r :: rest))) : W p l e R s m args below meth c H locs cells slots Q (F0 m pc ls st0) :=
  vp_callSl (W.runV S hM cw ⟨rBlind, va_recv hK hP hc he, fun U hU hW => ⟨rfl, by rw [hU]; exact hP, va_K.moved hW.alike hK⟩⟩ rfl hn hsize hst (lv_room hW) hdg hf) (fun r' hr => by subst hr; exact kk)
theorem kQiV {r : Int32} {q0 ci N : Nat} {T : u_T} {fs : List Value} (S : CallFix p m c cc nL s args Ts own) (hM : mQi l y wd lv D k (.ref b :: As) ws r ws') (cw : CallW R s args own C index y bytes maxL ret wd (xRm lv) 0 0 n) (hK : va_K D vwCl (xTys k) s) (hP : va_P D vwCl ws H) (hD : va_D A ws) (hS : va_S A H0 H locs) (hA : ∀ q, H0.size ≤ q → A q) (he : ws[q0]? = some (b, .inr (ci, fs))) (hc : vwCl[ci]? = some (C, T, N)) (hn : As.length = n) (hsize : ls.size = nL) (hst : st0 = As.reverse ++ .ref b :: rest) (hW : (rest.map fun v => v.category).sum ≤ 8) (hdg : decode cc pc = .ok (.invokevirtual index, 3)) (hf : cells ≤ R.cells ∧ slots ≤ R.slots)
    (kk : ∀ (H1 : Heap) (locs1 : List Loc), va_P D vwCl ws' H1 → va_D A ws' → va_S A H0 H1 locs1 → W p l e R s m args below meth c H1 locs1 cells slots Q (F0 m (pc + 3) ls (.int r :: rest))) : W p l e R s m args below meth c H locs cells slots Q (F0 m pc ls st0) :=
  va_calli (va_runV S (hM H.size) cw ⟨xBlind, va_recv hK hP hc he, fun U hU hW => ⟨rfl, by rw [hU], by rw [hU]; exact hP, va_K.moved hW.alike hK, hD.weaken (fun _ _ _ _ => trivial)⟩⟩ rfl hn hsize hst (lv_room hW) hdg hf) hS (fun q _ h => xFree hD hS hA q h) (xFree hD hS hA) (fun r' u t H1 locs1 ht _ hw hB _ _ hS1 => by
    obtain ⟨rfl, rfl⟩ := hw
    exact kk H1 locs1 (by rw [← ht]; exact hB.1) (hB.2.2.weaken (fun _ q _ h => xFree hD hS hA q.1 h)) hS1)
theorem kQlV {r : Int64} {q0 ci N : Nat} {T : u_T} {fs : List Value} (S : CallFix p m c cc nL s args Ts own) (hM : mQl l y wd lv D k (.ref b :: As) ws r ws') (cw : CallW R s args own C index y bytes maxL ret wd (xRm lv) 0 0 n) (hK : va_K D vwCl (xTys k) s) (hP : va_P D vwCl ws H) (hD : va_D A ws) (hS : va_S A H0 H locs) (hA : ∀ q, H0.size ≤ q → A q) (he : ws[q0]? = some (b, .inr (ci, fs))) (hc : vwCl[ci]? = some (C, T, N)) (hn : As.length = n) (hsize : ls.size = nL) (hst : st0 = As.reverse ++ .ref b :: rest) (hW : (rest.map fun v => v.category).sum ≤ 8) (hdg : decode cc pc = .ok (.invokevirtual index, 3)) (hf : cells ≤ R.cells ∧ slots ≤ R.slots)
    (kk : ∀ (H1 : Heap) (locs1 : List Loc), va_P D vwCl ws' H1 → va_D A ws' → va_S A H0 H1 locs1 → W p l e R s m args below meth c H1 locs1 cells slots Q (F0 m (pc + 3) ls (.long r :: rest))) : W p l e R s m args below meth c H locs cells slots Q (F0 m pc ls st0) :=
  va_calll (va_runV S (hM H.size) cw ⟨xBlind, va_recv hK hP hc he, fun U hU hW => ⟨rfl, by rw [hU], by rw [hU]; exact hP, va_K.moved hW.alike hK, hD.weaken (fun _ _ _ _ => trivial)⟩⟩ rfl hn hsize hst (lv_room hW) hdg hf) hS (fun q _ h => xFree hD hS hA q h) (xFree hD hS hA) (fun r' u t H1 locs1 ht _ hw hB _ _ hS1 => by
    obtain ⟨rfl, rfl⟩ := hw
    exact kk H1 locs1 (by rw [← ht]; exact hB.1) (hB.2.2.weaken (fun _ q _ h => xFree hD hS hA q.1 h)) hS1)
theorem kQvV {q0 ci N : Nat} {T : u_T} {fs : List Value} (S : CallFix p m c cc nL s args Ts own) (hM : mQv l y wd lv D k (.ref b :: As) ws ws') (cw : CallW R s args own C index y bytes maxL ret wd (xRm lv) 0 0 n) (hK : va_K D vwCl (xTys k) s) (hP : va_P D vwCl ws H) (hD : va_D A ws) (hS : va_S A H0 H locs) (hA : ∀ q, H0.size ≤ q → A q) (he : ws[q0]? = some (b, .inr (ci, fs))) (hc : vwCl[ci]? = some (C, T, N)) (hn : As.length = n) (hsize : ls.size = nL) (hst : st0 = As.reverse ++ .ref b :: rest) (hW : (rest.map fun v => v.category).sum ≤ 8) (hdg : decode cc pc = .ok (.invokevirtual index, 3)) (hf : cells ≤ R.cells ∧ slots ≤ R.slots)
    (kk : ∀ (H1 : Heap) (locs1 : List Loc), va_P D vwCl ws' H1 → va_D A ws' → va_S A H0 H1 locs1 → W p l e R s m args below meth c H1 locs1 cells slots Q (F0 m (pc + 3) ls rest)) : W p l e R s m args below meth c H locs cells slots Q (F0 m pc ls st0) :=
  va_callv (va_runV S (hM H.size) cw ⟨xBlind, va_recv hK hP hc he, fun U hU hW => ⟨rfl, by rw [hU], by rw [hU]; exact hP, va_K.moved hW.alike hK, hD.weaken (fun _ _ _ _ => trivial)⟩⟩ rfl hn hsize hst (lv_room hW) hdg hf) hS (fun q _ h => xFree hD hS hA q h) (xFree hD hS hA) (fun u t H1 locs1 ht _ hw hB _ _ hS1 => by
    subst hw
    exact kk H1 locs1 (by rw [← ht]; exact hB.1) (hB.2.2.weaken (fun _ q _ h => xFree hD hS hA q.1 h)) hS1)
end XK
/-! guards of the pure pictures -/
def gIn {α : Type} (i : Int32) (n : Nat) (k : Option α) : Option α := if i < 0 ∨ n ≤ i.toNatClampNeg then none else k
theorem gIn_some {α : Type} {i : Int32} {n : Nat} {k : Option α} {o : α} (h : gIn i n k = some o) : vp_in i n ∧ k = some o := by
  unfold gIn at h
  by_cases q : i < 0 ∨ n ≤ i.toNatClampNeg
  · rw [if_pos q] at h; cases h
  · rw [if_neg q] at h; exact ⟨q, h⟩
theorem gIn_of {α : Type} {i : Int32} {n : Nat} {k : Option α} (h : vp_in i n) : gIn i n k = k := if_neg h
def gNe {α : Type} (i : Int32) (k : Option α) : Option α := if i = 0 then none else k
theorem gNe_some {α : Type} {i : Int32} {k : Option α} {o : α} (h : gNe i k = some o) : ¬ i = 0 ∧ k = some o := by
  unfold gNe at h
  by_cases q : i = 0
  · rw [if_pos q] at h; cases h
  · rw [if_neg q] at h; exact ⟨q, h⟩
theorem gNe_of {α : Type} {i : Int32} {k : Option α} (h : ¬ i = 0) : gNe i k = k := if_neg h
def gNeL {α : Type} (i : Int64) (k : Option α) : Option α := if i = 0 then none else k
theorem gNeL_some {α : Type} {i : Int64} {k : Option α} {o : α} (h : gNeL i k = some o) : ¬ i = 0 ∧ k = some o := by
  unfold gNeL at h
  by_cases q : i = 0
  · rw [if_pos q] at h; cases h
  · rw [if_neg q] at h; exact ⟨q, h⟩
theorem gNeL_of {α : Type} {i : Int64} {k : Option α} (h : ¬ i = 0) : gNeL i k = k := if_neg h
def gZ {α : Type} (i : Int32) (k : Option α) : Option α := if i = 0 ∨ i = 1 then k else none
theorem gZ_some {α : Type} {i : Int32} {k : Option α} {o : α} (h : gZ i k = some o) : narrow .boolean (.int i) = .int i ∧ k = some o := by
  unfold gZ at h
  by_cases q : i = 0 ∨ i = 1
  · rw [if_pos q] at h
    refine ⟨?_, h⟩
    rcases q with rfl | rfl <;> rfl
  · rw [if_neg q] at h; cases h
theorem gZ_of {α : Type} {i : Int32} {k : Option α} (h : i = 0 ∨ i = 1) : gZ i k = k := if_pos h
def gLt {α : Type} (e n : Nat) (k : Option α) : Option α := if e < n then k else none
theorem gLt_some {α : Type} {e n : Nat} {k : Option α} {o : α} (h : gLt e n k = some o) : e < n ∧ k = some o := by
  unfold gLt at h
  by_cases q : e < n
  · rw [if_pos q] at h; exact ⟨q, h⟩
  · rw [if_neg q] at h; cases h
theorem gLt_of {α : Type} {e n : Nat} {k : Option α} (h : e < n) : gLt e n k = k := if_pos h
def bnd {α β : Type} (x : Option α) (k : α → Option β) : Option β := match x with
  | none => none
  | some a => k a
theorem bnd_some {α β : Type} {x : Option α} {k : α → Option β} {o : β} (h : bnd x k = some o) : ∃ a, x = some a ∧ k a = some o := by
  cases x with
  | none => cases h
  | some a => exact ⟨a, rfl, h⟩
theorem bnd_of {α β : Type} {x : Option α} {k : α → Option β} {a : α} (h : x = some a) : bnd x k = k a := by rw [h]; rfl
theorem vp_in_lt {i : Int32} {n : Nat} (h : vp_in i n) : i.toNatClampNeg < n := Nat.lt_of_not_le (fun q => h (Or.inr q))
/-! goals of the walks -/
abbrev gRi (p : Program) (l : Launch) (e : Env) (wd : List Cond) (lv : Nat) (s : State) (m : MethodId) (args : Array Value) (below : List Frame) (meth : Method) (c : Code) (r : Int32) (g : JFrame) : Prop := W p l e (headSpec wd (xRm lv)).room s m args below meth c s.heap [] 0 0 (MQ below (vp_Si (fun r' => r' = r)) args s 0 0 (fun _ => False)) g
abbrev gRl (p : Program) (l : Launch) (e : Env) (wd : List Cond) (lv : Nat) (s : State) (m : MethodId) (args : Array Value) (below : List Frame) (meth : Method) (c : Code) (r : Int64) (g : JFrame) : Prop := W p l e (headSpec wd (xRm lv)).room s m args below meth c s.heap [] 0 0 (MQ below (vp_Sl (fun r' => r' = r)) args s 0 0 (fun _ => False)) g
abbrev gQi (p : Program) (l : Launch) (e : Env) (wd : List Cond) (lv : Nat) (s : State) (m : MethodId) (args : Array Value) (below : List Frame) (meth : Method) (c : Code) (D : va_G) (k : Nat → ClassId) (A : Nat → Prop) (r : Int32) (ws' : va_W) (H : Heap) (locs : List Loc) (g : JFrame) : Prop := W p l e (headSpec wd (xRm lv)).room s m args below meth c H locs 0 0 (MQ below (va_Qi (fun (r' : Int32) (w' : va_W) => r' = r ∧ w' = ws') (xAt D k A) A) args s 0 0 A) g
abbrev gQl (p : Program) (l : Launch) (e : Env) (wd : List Cond) (lv : Nat) (s : State) (m : MethodId) (args : Array Value) (below : List Frame) (meth : Method) (c : Code) (D : va_G) (k : Nat → ClassId) (A : Nat → Prop) (r : Int64) (ws' : va_W) (H : Heap) (locs : List Loc) (g : JFrame) : Prop := W p l e (headSpec wd (xRm lv)).room s m args below meth c H locs 0 0 (MQ below (va_Ql (fun (r' : Int64) (w' : va_W) => r' = r ∧ w' = ws') (xAt D k A) A) args s 0 0 A) g
abbrev gQv (p : Program) (l : Launch) (e : Env) (wd : List Cond) (lv : Nat) (s : State) (m : MethodId) (args : Array Value) (below : List Frame) (meth : Method) (c : Code) (D : va_G) (k : Nat → ClassId) (A : Nat → Prop) (ws' : va_W) (H : Heap) (locs : List Loc) (g : JFrame) : Prop := W p l e (headSpec wd (xRm lv)).room s m args below meth c H locs 0 0 (MQ below (va_Qv (fun (w' : va_W) => w' = ws') (xAt D k A) A) args s 0 0 A) g
end
section
abbrev wM (k : Nat → ClassId) (a : Nat → Nat) (mSizes : Nat → Int32) (mSigns : Nat → Int32) (mOdds : Int32) (mPat : Int32) (mTyped : Int32) (mText : Nat → Int32) (mAt : Int32) (mFault : Int32) (mTests : Int32) (mTN : Nat → Int32) (mTS : Nat → Int32) (mTV : Nat → Int32) (mTB : Nat → Int32) (mRead : Int32) (mUns : Nat → Int32) (mUM : Int32) (mBA : Int32) (mBH : Int32) (mThere : Nat → Int32) (mTypes : Nat → Int32) (mHeld : Nat → Int32) (mItems : Nat → Int32) (mMoved : Nat → Int32) (mFind : Int32) : va_W := [((a 0), .inr (6, [.ref (a 1), .ref (a 2), .int mOdds, .int mPat, .int mTyped, .ref (a 3), .int mAt, .int mFault, .int mTests, .ref (a 4), .ref (a 5), .ref (a 6), .ref (a 7), .int mRead, .ref (a 8), .int mUM, .int mBA, .int mBH, .ref (a 9), .ref (a 10), .ref (a 11), .ref (a 12), .ref (a 13), .int mFind])), ((a 1), .inl (k 0, 4, .inl mSizes)), ((a 2), .inl (k 0, 60, .inl mSigns)), ((a 3), .inl (k 0, 60, .inl mText)), ((a 4), .inl (k 0, 20, .inl mTN)), ((a 5), .inl (k 0, 20, .inl mTS)), ((a 6), .inl (k 0, 20, .inl mTV)), ((a 7), .inl (k 1, 20, .inl mTB)), ((a 8), .inl (k 0, 15, .inl mUns)), ((a 9), .inl (k 1, 4, .inl mThere)), ((a 10), .inl (k 0, 4, .inl mTypes)), ((a 11), .inl (k 0, 4, .inl mHeld)), ((a 12), .inl (k 0, 160, .inl mItems)), ((a 13), .inl (k 0, 40, .inl mMoved))]
abbrev wX (k : Nat → ClassId) (a : Nat → Nat) (xLen : Nat → Int32) (xHits : Nat → Int32) (xUns : Nat → Int32) (xItems : Nat → Nat → Int32) (xLost : Nat → Int32) (xKind : Nat → Int32) (xSize : Nat → Int32) (xLet : Nat → Int32) (xRel : Nat → Int32) (xLim : Nat → Int32) (xOpen : Nat → Int32) (xMeas : Nat → Int32) (xSL : Int32) (xST : Int32) (xSD : Int32) (xSK : Int32) (xTal : Nat → Nat → Int32) (xKn : Nat → Int32) (xFT : Nat → Int32) (xFA : Int32) (xFE : Int32) (xOdds : Int32) (xPat : Int32) (xFind : Int32) : va_W := [((a 0), .inr (5, [.ref (a 1), .ref (a 2), .ref (a 3), .ref (a 9), .ref (a 12), .int xOdds, .int xPat, .int xFind])), ((a 1), .inl (k 2, 4, .inr (.inr (.inr (.inr (fun i => some (a (14 + i)))))))), ((a 2), .inl (k 3, 4, .inr (.inr (.inr (.inr (fun i => some (a (18 + i)))))))), ((a 3), .inr (2, [.ref (a 4), .ref (a 5), .ref (a 6), .ref (a 7), .ref (a 8), .int xSL, .int xST, .int xSD, .int xSK])), ((a 4), .inl (k 0, 16, .inl xLet)), ((a 5), .inl (k 0, 16, .inl xRel)), ((a 6), .inl (k 0, 16, .inl xLim)), ((a 7), .inl (k 1, 16, .inl xOpen)), ((a 8), .inl (k 0, 7, .inl xMeas)), ((a 9), .inr (4, [.ref (a 10), .ref (a 11)])), ((a 10), .inl (k 4, 16, .inr (.inr (.inr (.inr (fun i => some (a (26 + i)))))))), ((a 11), .inl (k 1, 16, .inl xKn)), ((a 12), .inr (0, [.ref (a 13), .int xFA, .int xFE])), ((a 13), .inl (k 0, 16, .inl xFT)), ((a (14 + 0)), .inr (1, [.int (xLen 0), .int (xHits 0), .int (xUns 0)])), ((a (14 + 1)), .inr (1, [.int (xLen 1), .int (xHits 1), .int (xUns 1)])), ((a (14 + 2)), .inr (1, [.int (xLen 2), .int (xHits 2), .int (xUns 2)])), ((a (14 + 3)), .inr (1, [.int (xLen 3), .int (xHits 3), .int (xUns 3)])), ((a (18 + 0)), .inr (3, [.ref (a (22 + 0)), .int (xLost 0), .int (xKind 0), .int (xSize 0)])), ((a (18 + 1)), .inr (3, [.ref (a (22 + 1)), .int (xLost 1), .int (xKind 1), .int (xSize 1)])), ((a (18 + 2)), .inr (3, [.ref (a (22 + 2)), .int (xLost 2), .int (xKind 2), .int (xSize 2)])), ((a (18 + 3)), .inr (3, [.ref (a (22 + 3)), .int (xLost 3), .int (xKind 3), .int (xSize 3)])), (a (22 + 0), .inl (k 0, 40, .inl (xItems 0))), (a (22 + 1), .inl (k 0, 40, .inl (xItems 1))), (a (22 + 2), .inl (k 0, 40, .inl (xItems 2))), (a (22 + 3), .inl (k 0, 40, .inl (xItems 3))), (a (26 + 0), .inl (k 0, 16, .inl (xTal 0))), (a (26 + 1), .inl (k 0, 16, .inl (xTal 1))), (a (26 + 2), .inl (k 0, 16, .inl (xTal 2))), (a (26 + 3), .inl (k 0, 16, .inl (xTal 3))), (a (26 + 4), .inl (k 0, 16, .inl (xTal 4))), (a (26 + 5), .inl (k 0, 16, .inl (xTal 5))), (a (26 + 6), .inl (k 0, 16, .inl (xTal 6))), (a (26 + 7), .inl (k 0, 16, .inl (xTal 7))), (a (26 + 8), .inl (k 0, 16, .inl (xTal 8))), (a (26 + 9), .inl (k 0, 16, .inl (xTal 9))), (a (26 + 10), .inl (k 0, 16, .inl (xTal 10))), (a (26 + 11), .inl (k 0, 16, .inl (xTal 11))), (a (26 + 12), .inl (k 0, 16, .inl (xTal 12))), (a (26 + 13), .inl (k 0, 16, .inl (xTal 13))), (a (26 + 14), .inl (k 0, 16, .inl (xTal 14))), (a (26 + 15), .inl (k 0, 16, .inl (xTal 15)))]
theorem wX_row {k : Nat → ClassId} {a : Nat → Nat} {xLen : Nat → Int32} {xHits : Nat → Int32} {xUns : Nat → Int32} {xItems : Nat → Nat → Int32} {xLost : Nat → Int32} {xKind : Nat → Int32} {xSize : Nat → Int32} {xLet : Nat → Int32} {xRel : Nat → Int32} {xLim : Nat → Int32} {xOpen : Nat → Int32} {xMeas : Nat → Int32} {xSL : Int32} {xST : Int32} {xSD : Int32} {xSK : Int32} {xTal : Nat → Nat → Int32} {xKn : Nat → Int32} {xFT : Nat → Int32} {xFA : Int32} {xFE : Int32} {xOdds : Int32} {xPat : Int32} {xFind : Int32} {e : Nat} (h : e < 4) : (wX k a xLen xHits xUns xItems xLost xKind xSize xLet xRel xLim xOpen xMeas xSL xST xSD xSK xTal xKn xFT xFA xFE xOdds xPat xFind)[14 + e]? = some ((a (14 + e)), .inr (1, [.int (xLen e), .int (xHits e), .int (xUns e)])) := by
  rcases (show e = 0 ∨ e = 1 ∨ e = 2 ∨ e = 3 by omega) with rfl | rfl | rfl | rfl <;> rfl
theorem wX_sheet {k : Nat → ClassId} {a : Nat → Nat} {xLen : Nat → Int32} {xHits : Nat → Int32} {xUns : Nat → Int32} {xItems : Nat → Nat → Int32} {xLost : Nat → Int32} {xKind : Nat → Int32} {xSize : Nat → Int32} {xLet : Nat → Int32} {xRel : Nat → Int32} {xLim : Nat → Int32} {xOpen : Nat → Int32} {xMeas : Nat → Int32} {xSL : Int32} {xST : Int32} {xSD : Int32} {xSK : Int32} {xTal : Nat → Nat → Int32} {xKn : Nat → Int32} {xFT : Nat → Int32} {xFA : Int32} {xFE : Int32} {xOdds : Int32} {xPat : Int32} {xFind : Int32} {e : Nat} (h : e < 4) : (wX k a xLen xHits xUns xItems xLost xKind xSize xLet xRel xLim xOpen xMeas xSL xST xSD xSK xTal xKn xFT xFA xFE xOdds xPat xFind)[18 + e]? = some ((a (18 + e)), .inr (3, [.ref (a (22 + e)), .int (xLost e), .int (xKind e), .int (xSize e)])) := by
  rcases (show e = 0 ∨ e = 1 ∨ e = 2 ∨ e = 3 by omega) with rfl | rfl | rfl | rfl <;> rfl
theorem wX_items {k : Nat → ClassId} {a : Nat → Nat} {xLen : Nat → Int32} {xHits : Nat → Int32} {xUns : Nat → Int32} {xItems : Nat → Nat → Int32} {xLost : Nat → Int32} {xKind : Nat → Int32} {xSize : Nat → Int32} {xLet : Nat → Int32} {xRel : Nat → Int32} {xLim : Nat → Int32} {xOpen : Nat → Int32} {xMeas : Nat → Int32} {xSL : Int32} {xST : Int32} {xSD : Int32} {xSK : Int32} {xTal : Nat → Nat → Int32} {xKn : Nat → Int32} {xFT : Nat → Int32} {xFA : Int32} {xFE : Int32} {xOdds : Int32} {xPat : Int32} {xFind : Int32} {e : Nat} (h : e < 4) : (wX k a xLen xHits xUns xItems xLost xKind xSize xLet xRel xLim xOpen xMeas xSL xST xSD xSK xTal xKn xFT xFA xFE xOdds xPat xFind)[22 + e]? = some (a (22 + e), .inl (k 0, 40, .inl (xItems e))) := by
  rcases (show e = 0 ∨ e = 1 ∨ e = 2 ∨ e = 3 by omega) with rfl | rfl | rfl | rfl <;> rfl
theorem wX_tal {k : Nat → ClassId} {a : Nat → Nat} {xLen : Nat → Int32} {xHits : Nat → Int32} {xUns : Nat → Int32} {xItems : Nat → Nat → Int32} {xLost : Nat → Int32} {xKind : Nat → Int32} {xSize : Nat → Int32} {xLet : Nat → Int32} {xRel : Nat → Int32} {xLim : Nat → Int32} {xOpen : Nat → Int32} {xMeas : Nat → Int32} {xSL : Int32} {xST : Int32} {xSD : Int32} {xSK : Int32} {xTal : Nat → Nat → Int32} {xKn : Nat → Int32} {xFT : Nat → Int32} {xFA : Int32} {xFE : Int32} {xOdds : Int32} {xPat : Int32} {xFind : Int32} {e : Nat} (h : e < 16) : (wX k a xLen xHits xUns xItems xLost xKind xSize xLet xRel xLim xOpen xMeas xSL xST xSD xSK xTal xKn xFT xFA xFE xOdds xPat xFind)[26 + e]? = some (a (26 + e), .inl (k 0, 16, .inl (xTal e))) := by
  rcases (show e = 0 ∨ e = 1 ∨ e = 2 ∨ e = 3 ∨ e = 4 ∨ e = 5 ∨ e = 6 ∨ e = 7 ∨ e = 8 ∨ e = 9 ∨ e = 10 ∨ e = 11 ∨ e = 12 ∨ e = 13 ∨ e = 14 ∨ e = 15 by omega) with rfl | rfl | rfl | rfl | rfl | rfl | rfl | rfl | rfl | rfl | rfl | rfl | rfl | rfl | rfl | rfl <;> rfl
theorem wX_s_xLen {k : Nat → ClassId} {a : Nat → Nat} {xLen : Nat → Int32} {xHits : Nat → Int32} {xUns : Nat → Int32} {xItems : Nat → Nat → Int32} {xLost : Nat → Int32} {xKind : Nat → Int32} {xSize : Nat → Int32} {xLet : Nat → Int32} {xRel : Nat → Int32} {xLim : Nat → Int32} {xOpen : Nat → Int32} {xMeas : Nat → Int32} {xSL : Int32} {xST : Int32} {xSD : Int32} {xSK : Int32} {xTal : Nat → Nat → Int32} {xKn : Nat → Int32} {xFT : Nat → Int32} {xFA : Int32} {xFE : Int32} {xOdds : Int32} {xPat : Int32} {xFind : Int32} {e : Nat} (h : e < 4) {v : Int32} : (wX k a xLen xHits xUns xItems xLost xKind xSize xLet xRel xLim xOpen xMeas xSL xST xSD xSK xTal xKn xFT xFA xFE xOdds xPat xFind).set (14 + e) ((a (14 + e)), .inr (1, [.int v, .int (xHits e), .int (xUns e)])) = wX k a (va_up xLen e v) xHits xUns xItems xLost xKind xSize xLet xRel xLim xOpen xMeas xSL xST xSD xSK xTal xKn xFT xFA xFE xOdds xPat xFind := by
  rcases (show e = 0 ∨ e = 1 ∨ e = 2 ∨ e = 3 by omega) with rfl | rfl | rfl | rfl <;> rfl
theorem wX_s_xHits {k : Nat → ClassId} {a : Nat → Nat} {xLen : Nat → Int32} {xHits : Nat → Int32} {xUns : Nat → Int32} {xItems : Nat → Nat → Int32} {xLost : Nat → Int32} {xKind : Nat → Int32} {xSize : Nat → Int32} {xLet : Nat → Int32} {xRel : Nat → Int32} {xLim : Nat → Int32} {xOpen : Nat → Int32} {xMeas : Nat → Int32} {xSL : Int32} {xST : Int32} {xSD : Int32} {xSK : Int32} {xTal : Nat → Nat → Int32} {xKn : Nat → Int32} {xFT : Nat → Int32} {xFA : Int32} {xFE : Int32} {xOdds : Int32} {xPat : Int32} {xFind : Int32} {e : Nat} (h : e < 4) {v : Int32} : (wX k a xLen xHits xUns xItems xLost xKind xSize xLet xRel xLim xOpen xMeas xSL xST xSD xSK xTal xKn xFT xFA xFE xOdds xPat xFind).set (14 + e) ((a (14 + e)), .inr (1, [.int (xLen e), .int v, .int (xUns e)])) = wX k a xLen (va_up xHits e v) xUns xItems xLost xKind xSize xLet xRel xLim xOpen xMeas xSL xST xSD xSK xTal xKn xFT xFA xFE xOdds xPat xFind := by
  rcases (show e = 0 ∨ e = 1 ∨ e = 2 ∨ e = 3 by omega) with rfl | rfl | rfl | rfl <;> rfl
theorem wX_s_xUns {k : Nat → ClassId} {a : Nat → Nat} {xLen : Nat → Int32} {xHits : Nat → Int32} {xUns : Nat → Int32} {xItems : Nat → Nat → Int32} {xLost : Nat → Int32} {xKind : Nat → Int32} {xSize : Nat → Int32} {xLet : Nat → Int32} {xRel : Nat → Int32} {xLim : Nat → Int32} {xOpen : Nat → Int32} {xMeas : Nat → Int32} {xSL : Int32} {xST : Int32} {xSD : Int32} {xSK : Int32} {xTal : Nat → Nat → Int32} {xKn : Nat → Int32} {xFT : Nat → Int32} {xFA : Int32} {xFE : Int32} {xOdds : Int32} {xPat : Int32} {xFind : Int32} {e : Nat} (h : e < 4) {v : Int32} : (wX k a xLen xHits xUns xItems xLost xKind xSize xLet xRel xLim xOpen xMeas xSL xST xSD xSK xTal xKn xFT xFA xFE xOdds xPat xFind).set (14 + e) ((a (14 + e)), .inr (1, [.int (xLen e), .int (xHits e), .int v])) = wX k a xLen xHits (va_up xUns e v) xItems xLost xKind xSize xLet xRel xLim xOpen xMeas xSL xST xSD xSK xTal xKn xFT xFA xFE xOdds xPat xFind := by
  rcases (show e = 0 ∨ e = 1 ∨ e = 2 ∨ e = 3 by omega) with rfl | rfl | rfl | rfl <;> rfl
theorem wX_s_xLost {k : Nat → ClassId} {a : Nat → Nat} {xLen : Nat → Int32} {xHits : Nat → Int32} {xUns : Nat → Int32} {xItems : Nat → Nat → Int32} {xLost : Nat → Int32} {xKind : Nat → Int32} {xSize : Nat → Int32} {xLet : Nat → Int32} {xRel : Nat → Int32} {xLim : Nat → Int32} {xOpen : Nat → Int32} {xMeas : Nat → Int32} {xSL : Int32} {xST : Int32} {xSD : Int32} {xSK : Int32} {xTal : Nat → Nat → Int32} {xKn : Nat → Int32} {xFT : Nat → Int32} {xFA : Int32} {xFE : Int32} {xOdds : Int32} {xPat : Int32} {xFind : Int32} {e : Nat} (h : e < 4) {v : Int32} : (wX k a xLen xHits xUns xItems xLost xKind xSize xLet xRel xLim xOpen xMeas xSL xST xSD xSK xTal xKn xFT xFA xFE xOdds xPat xFind).set (18 + e) ((a (18 + e)), .inr (3, [.ref (a (22 + e)), .int v, .int (xKind e), .int (xSize e)])) = wX k a xLen xHits xUns xItems (va_up xLost e v) xKind xSize xLet xRel xLim xOpen xMeas xSL xST xSD xSK xTal xKn xFT xFA xFE xOdds xPat xFind := by
  rcases (show e = 0 ∨ e = 1 ∨ e = 2 ∨ e = 3 by omega) with rfl | rfl | rfl | rfl <;> rfl
theorem wX_s_xKind {k : Nat → ClassId} {a : Nat → Nat} {xLen : Nat → Int32} {xHits : Nat → Int32} {xUns : Nat → Int32} {xItems : Nat → Nat → Int32} {xLost : Nat → Int32} {xKind : Nat → Int32} {xSize : Nat → Int32} {xLet : Nat → Int32} {xRel : Nat → Int32} {xLim : Nat → Int32} {xOpen : Nat → Int32} {xMeas : Nat → Int32} {xSL : Int32} {xST : Int32} {xSD : Int32} {xSK : Int32} {xTal : Nat → Nat → Int32} {xKn : Nat → Int32} {xFT : Nat → Int32} {xFA : Int32} {xFE : Int32} {xOdds : Int32} {xPat : Int32} {xFind : Int32} {e : Nat} (h : e < 4) {v : Int32} : (wX k a xLen xHits xUns xItems xLost xKind xSize xLet xRel xLim xOpen xMeas xSL xST xSD xSK xTal xKn xFT xFA xFE xOdds xPat xFind).set (18 + e) ((a (18 + e)), .inr (3, [.ref (a (22 + e)), .int (xLost e), .int v, .int (xSize e)])) = wX k a xLen xHits xUns xItems xLost (va_up xKind e v) xSize xLet xRel xLim xOpen xMeas xSL xST xSD xSK xTal xKn xFT xFA xFE xOdds xPat xFind := by
  rcases (show e = 0 ∨ e = 1 ∨ e = 2 ∨ e = 3 by omega) with rfl | rfl | rfl | rfl <;> rfl
theorem wX_s_xSize {k : Nat → ClassId} {a : Nat → Nat} {xLen : Nat → Int32} {xHits : Nat → Int32} {xUns : Nat → Int32} {xItems : Nat → Nat → Int32} {xLost : Nat → Int32} {xKind : Nat → Int32} {xSize : Nat → Int32} {xLet : Nat → Int32} {xRel : Nat → Int32} {xLim : Nat → Int32} {xOpen : Nat → Int32} {xMeas : Nat → Int32} {xSL : Int32} {xST : Int32} {xSD : Int32} {xSK : Int32} {xTal : Nat → Nat → Int32} {xKn : Nat → Int32} {xFT : Nat → Int32} {xFA : Int32} {xFE : Int32} {xOdds : Int32} {xPat : Int32} {xFind : Int32} {e : Nat} (h : e < 4) {v : Int32} : (wX k a xLen xHits xUns xItems xLost xKind xSize xLet xRel xLim xOpen xMeas xSL xST xSD xSK xTal xKn xFT xFA xFE xOdds xPat xFind).set (18 + e) ((a (18 + e)), .inr (3, [.ref (a (22 + e)), .int (xLost e), .int (xKind e), .int v])) = wX k a xLen xHits xUns xItems xLost xKind (va_up xSize e v) xLet xRel xLim xOpen xMeas xSL xST xSD xSK xTal xKn xFT xFA xFE xOdds xPat xFind := by
  rcases (show e = 0 ∨ e = 1 ∨ e = 2 ∨ e = 3 by omega) with rfl | rfl | rfl | rfl <;> rfl
theorem wX_s_xItems {k : Nat → ClassId} {a : Nat → Nat} {xLen : Nat → Int32} {xHits : Nat → Int32} {xUns : Nat → Int32} {xItems : Nat → Nat → Int32} {xLost : Nat → Int32} {xKind : Nat → Int32} {xSize : Nat → Int32} {xLet : Nat → Int32} {xRel : Nat → Int32} {xLim : Nat → Int32} {xOpen : Nat → Int32} {xMeas : Nat → Int32} {xSL : Int32} {xST : Int32} {xSD : Int32} {xSK : Int32} {xTal : Nat → Nat → Int32} {xKn : Nat → Int32} {xFT : Nat → Int32} {xFA : Int32} {xFE : Int32} {xOdds : Int32} {xPat : Int32} {xFind : Int32} {e : Nat} (h : e < 4) {v : Nat → Int32} : (wX k a xLen xHits xUns xItems xLost xKind xSize xLet xRel xLim xOpen xMeas xSL xST xSD xSK xTal xKn xFT xFA xFE xOdds xPat xFind).set (22 + e) (a (22 + e), .inl (k 0, 40, .inl v)) = wX k a xLen xHits xUns (va_up xItems e v) xLost xKind xSize xLet xRel xLim xOpen xMeas xSL xST xSD xSK xTal xKn xFT xFA xFE xOdds xPat xFind := by
  rcases (show e = 0 ∨ e = 1 ∨ e = 2 ∨ e = 3 by omega) with rfl | rfl | rfl | rfl <;> rfl
theorem wX_s_xTal {k : Nat → ClassId} {a : Nat → Nat} {xLen : Nat → Int32} {xHits : Nat → Int32} {xUns : Nat → Int32} {xItems : Nat → Nat → Int32} {xLost : Nat → Int32} {xKind : Nat → Int32} {xSize : Nat → Int32} {xLet : Nat → Int32} {xRel : Nat → Int32} {xLim : Nat → Int32} {xOpen : Nat → Int32} {xMeas : Nat → Int32} {xSL : Int32} {xST : Int32} {xSD : Int32} {xSK : Int32} {xTal : Nat → Nat → Int32} {xKn : Nat → Int32} {xFT : Nat → Int32} {xFA : Int32} {xFE : Int32} {xOdds : Int32} {xPat : Int32} {xFind : Int32} {e : Nat} (h : e < 16) {v : Nat → Int32} : (wX k a xLen xHits xUns xItems xLost xKind xSize xLet xRel xLim xOpen xMeas xSL xST xSD xSK xTal xKn xFT xFA xFE xOdds xPat xFind).set (26 + e) (a (26 + e), .inl (k 0, 16, .inl v)) = wX k a xLen xHits xUns xItems xLost xKind xSize xLet xRel xLim xOpen xMeas xSL xST xSD xSK (va_up xTal e v) xKn xFT xFA xFE xOdds xPat xFind := by
  rcases (show e = 0 ∨ e = 1 ∨ e = 2 ∨ e = 3 ∨ e = 4 ∨ e = 5 ∨ e = 6 ∨ e = 7 ∨ e = 8 ∨ e = 9 ∨ e = 10 ∨ e = 11 ∨ e = 12 ∨ e = 13 ∨ e = 14 ∨ e = 15 by omega) with rfl | rfl | rfl | rfl | rfl | rfl | rfl | rfl | rfl | rfl | rfl | rfl | rfl | rfl | rfl | rfl <;> rfl
theorem xOut_4 {x : Int32} (h0 : ¬ x = 0) (h1 : ¬ x = 1) (h2 : ¬ x = 2) (h3 : ¬ x = 3) : x.toInt < 0 ∨ 3 < x.toInt := by
  have q : ∀ n : Int, x.toInt = n → x = Int32.ofInt n := fun n h => by rw [← h]; exact (Int32.ofInt_toInt x).symm
  rcases Int.lt_or_le x.toInt 0 with g | g
  · exact Or.inl g
  · rcases Int.lt_or_le 3 x.toInt with g2 | g2
    · exact Or.inr g2
    · exfalso
      rcases (show x.toInt = 0 ∨ x.toInt = 1 ∨ x.toInt = 2 ∨ x.toInt = 3 by omega) with z | z | z | z
      · exact h0 (q _ z)
      · exact h1 (q _ z)
      · exact h2 (q _ z)
      · exact h3 (q _ z)
theorem xOut_5 {x : Int32} (h0 : ¬ x = 4) (h1 : ¬ x = 5) (h2 : ¬ x = 6) (h3 : ¬ x = 7) (h4 : ¬ x = 8) : x.toInt < 4 ∨ 8 < x.toInt := by
  have q : ∀ n : Int, x.toInt = n → x = Int32.ofInt n := fun n h => by rw [← h]; exact (Int32.ofInt_toInt x).symm
  rcases Int.lt_or_le x.toInt 4 with g | g
  · exact Or.inl g
  · rcases Int.lt_or_le 8 x.toInt with g2 | g2
    · exact Or.inr g2
    · exfalso
      rcases (show x.toInt = 4 ∨ x.toInt = 5 ∨ x.toInt = 6 ∨ x.toInt = 7 ∨ x.toInt = 8 by omega) with z | z | z | z | z
      · exact h0 (q _ z)
      · exact h1 (q _ z)
      · exact h2 (q _ z)
      · exact h3 (q _ z)
      · exact h4 (q _ z)
theorem xOut_6 {x : Int32} (h0 : ¬ x = 0) (h1 : ¬ x = 1) (h2 : ¬ x = 2) (h3 : ¬ x = 3) (h4 : ¬ x = 4) (h5 : ¬ x = 5) : x.toInt < 0 ∨ 5 < x.toInt := by
  have q : ∀ n : Int, x.toInt = n → x = Int32.ofInt n := fun n h => by rw [← h]; exact (Int32.ofInt_toInt x).symm
  rcases Int.lt_or_le x.toInt 0 with g | g
  · exact Or.inl g
  · rcases Int.lt_or_le 5 x.toInt with g2 | g2
    · exact Or.inr g2
    · exfalso
      rcases (show x.toInt = 0 ∨ x.toInt = 1 ∨ x.toInt = 2 ∨ x.toInt = 3 ∨ x.toInt = 4 ∨ x.toInt = 5 by omega) with z | z | z | z | z | z
      · exact h0 (q _ z)
      · exact h1 (q _ z)
      · exact h2 (q _ z)
      · exact h3 (q _ z)
      · exact h4 (q _ z)
      · exact h5 (q _ z)
theorem xOut_9 {x : Int32} (h0 : ¬ x = 0) (h1 : ¬ x = 1) (h2 : ¬ x = 2) (h3 : ¬ x = 3) (h4 : ¬ x = 4) (h5 : ¬ x = 5) (h6 : ¬ x = 6) (h7 : ¬ x = 7) (h8 : ¬ x = 8) : x.toInt < 0 ∨ 8 < x.toInt := by
  have q : ∀ n : Int, x.toInt = n → x = Int32.ofInt n := fun n h => by rw [← h]; exact (Int32.ofInt_toInt x).symm
  rcases Int.lt_or_le x.toInt 0 with g | g
  · exact Or.inl g
  · rcases Int.lt_or_le 8 x.toInt with g2 | g2
    · exact Or.inr g2
    · exfalso
      rcases (show x.toInt = 0 ∨ x.toInt = 1 ∨ x.toInt = 2 ∨ x.toInt = 3 ∨ x.toInt = 4 ∨ x.toInt = 5 ∨ x.toInt = 6 ∨ x.toInt = 7 ∨ x.toInt = 8 by omega) with z | z | z | z | z | z | z | z | z
      · exact h0 (q _ z)
      · exact h1 (q _ z)
      · exact h2 (q _ z)
      · exact h3 (q _ z)
      · exact h4 (q _ z)
      · exact h5 (q _ z)
      · exact h6 (q _ z)
      · exact h7 (q _ z)
      · exact h8 (q _ z)
end
section
theorem zz_probe : True := trivial
end
