/-! ===== BEGIN words of one list among another's, by their places ===== -/
theorem goodIn_r {big : List Cond} (ws : List Cond) (ps : List Nat) (hp : ws = ps.filterMap (fun i => big[i]?)) (h : ws.all goodWord = true) : GoodIn big ws := by
  intro w hw
  have h1 := List.all_eq_true.mp h w hw
  rw [hp] at hw
  obtain ⟨i, -, hi⟩ := List.mem_filterMap.mp hw
  have hm : w ∈ big := by first | exact List.mem_of_getElem? hi | exact List.getElem?_mem hi
  exact ⟨hm, good_of_word h1⟩
theorem goodIn_app {big a b : List Cond} (ha : GoodIn big a) (hb : GoodIn big b) : GoodIn big (a ++ b) := fun w h => (List.mem_append.mp h).elim (ha w) (hb w)
theorem goodIn_ca {big a b : List Cond} {c : Cond} (ha : GoodIn big (c :: a)) (hb : GoodIn big b) : GoodIn big (c :: (a ++ b)) := fun w h => (List.mem_cons.mp h).elim (fun e => ha w (List.mem_cons.mpr (Or.inl e))) (fun h => (List.mem_append.mp h).elim (fun h => ha w (List.mem_cons.mpr (Or.inr h))) (hb w))
theorem goodIn_sub {big ws : List Cond} (hm : ∀ w ∈ ws, w ∈ big) (h : ws.all goodWord = true) : GoodIn big ws := fun w hw => ⟨hm w hw, good_of_word (List.all_eq_true.mp h w hw)⟩
/-! ===== END ===== -/

/-! ===== BEGIN new T[n][m]: the outer array a place, the inner ones among the pooled ===== -/
/-! ===== END ===== -/

/-! ===== BEGIN printed: names, fields, word lists, decode rows ===== -/
def RX0 : String := "RowsOfTwo$Fills"
def TX0 : u_T := fun k => match k with
  | 0 => ("RowsOfTwo$Fills", "tally", "[I", true)
  | 1 => ("RowsOfTwo$Fills", "alwaysHit", "I", false)
  | _ => ("RowsOfTwo$Fills", "everHit", "I", false)
def tyX0 : Nat → FieldType := fun k => match k with
  | 0 => .array .int
  | 1 => .int
  | _ => .int
abbrev wsX00 : List Cond := u_ws RX0 TX0 3
theorem nmX0 : ∀ a, a < 3 → ∀ b, b < 3 → a ≠ b → (TX0 a).2.1 ≠ (TX0 b).2.1 := by decide +kernel
theorem tyX0_ok : ∀ k, k < 3 → parseFieldDescriptor (TX0 k).2.2.1 = some (tyX0 k) := by decide +kernel
abbrev cX0_init : ByteArray := prog_2_method_1_code
def yX0_init : MethodName := ⟨RX0, "<init>", "()V"⟩
abbrev cX0_learn : ByteArray := prog_2_method_2_code
def yX0_learn : MethodName := ⟨RX0, "learn", "(LRowsOfTwo$Row;LRowsOfTwo$Sentences;I)V"⟩
def RX1 : String := "RowsOfTwo$Fractions"
def TX1 : u_T := fun k => match k with
  | _ => ("", "", "", false)
def tyX1 : Nat → FieldType := fun k => match k with
  | _ => .int
abbrev wsX10 : List Cond := u_ws RX1 TX1 0
theorem nmX1 : ∀ a, a < 0 → ∀ b, b < 0 → a ≠ b → (TX1 a).2.1 ≠ (TX1 b).2.1 := by decide +kernel
theorem tyX1_ok : ∀ k, k < 0 → parseFieldDescriptor (TX1 k).2.2.1 = some (tyX1 k) := by decide +kernel
abbrev cX1_part : ByteArray := prog_3_method_2_code
def yX1_part : MethodName := ⟨RX1, "part", "(JJI)J"⟩
abbrev cX1_power : ByteArray := prog_3_method_3_code
def yX1_power : MethodName := ⟨RX1, "power", "(JI)J"⟩
abbrev cX1_commonDivisor : ByteArray := prog_3_method_4_code
def yX1_commonDivisor : MethodName := ⟨RX1, "commonDivisor", "(JJ)J"⟩
def RX2 : String := "RowsOfTwo$Lots"
def TX2 : u_T := fun k => match k with
  | _ => ("", "", "", false)
def tyX2 : Nat → FieldType := fun k => match k with
  | _ => .int
abbrev wsX20 : List Cond := u_ws RX2 TX2 0
theorem nmX2 : ∀ a, a < 0 → ∀ b, b < 0 → a ≠ b → (TX2 a).2.1 ≠ (TX2 b).2.1 := by decide +kernel
theorem tyX2_ok : ∀ k, k < 0 → parseFieldDescriptor (TX2 k).2.2.1 = some (tyX2 k) := by decide +kernel
abbrev cX2_howMany : ByteArray := prog_4_method_2_code
def yX2_howMany : MethodName := ⟨RX2, "howMany", "(LRowsOfTwo$Row;)I"⟩
abbrev cX2_lowest : ByteArray := prog_4_method_3_code
def yX2_lowest : MethodName := ⟨RX2, "lowest", "(LRowsOfTwo$Row;)I"⟩
abbrev cX2_after : ByteArray := prog_4_method_4_code
def yX2_after : MethodName := ⟨RX2, "after", "(I)I"⟩
abbrev cX2_behindHits : ByteArray := prog_4_method_5_code
def yX2_behindHits : MethodName := ⟨RX2, "behindHits", "(II)I"⟩
abbrev cX2_heat : ByteArray := prog_4_method_6_code
def yX2_heat : MethodName := ⟨RX2, "heat", "(II)J"⟩
def RX3 : String := "RowsOfTwo$Numbers"
def TX3 : u_T := fun k => match k with
  | _ => ("", "", "", false)
def tyX3 : Nat → FieldType := fun k => match k with
  | _ => .int
abbrev wsX30 : List Cond := u_ws RX3 TX3 0
theorem nmX3 : ∀ a, a < 0 → ∀ b, b < 0 → a ≠ b → (TX3 a).2.1 ≠ (TX3 b).2.1 := by decide +kernel
theorem tyX3_ok : ∀ k, k < 0 → parseFieldDescriptor (TX3 k).2.2.1 = some (tyX3 k) := by decide +kernel
abbrev cX3_measure : ByteArray := prog_5_method_2_code
def yX3_measure : MethodName := ⟨RX3, "measure", "(IIII)I"⟩
abbrev cX3_runs : ByteArray := prog_5_method_3_code
def yX3_runs : MethodName := ⟨RX3, "runs", "(II)I"⟩
abbrev cX3_longestRun : ByteArray := prog_5_method_4_code
def yX3_longestRun : MethodName := ⟨RX3, "longestRun", "(I)I"⟩
abbrev cX3_firstHit : ByteArray := prog_5_method_5_code
def yX3_firstHit : MethodName := ⟨RX3, "firstHit", "(II)I"⟩
def RX4 : String := "RowsOfTwo$Patterns"
def TX4 : u_T := fun k => match k with
  | _ => ("", "", "", false)
def tyX4 : Nat → FieldType := fun k => match k with
  | _ => .int
abbrev wsX40 : List Cond := u_ws RX4 TX4 0
theorem nmX4 : ∀ a, a < 0 → ∀ b, b < 0 → a ≠ b → (TX4 a).2.1 ≠ (TX4 b).2.1 := by decide +kernel
theorem tyX4_ok : ∀ k, k < 0 → parseFieldDescriptor (TX4 k).2.2.1 = some (tyX4 k) := by decide +kernel
abbrev cX4_lengthOf : ByteArray := prog_6_method_2_code
def yX4_lengthOf : MethodName := ⟨RX4, "lengthOf", "(I)I"⟩
abbrev cX4_timesIn : ByteArray := prog_6_method_3_code
def yX4_timesIn : MethodName := ⟨RX4, "timesIn", "(III)I"⟩
abbrev cX4_standsIn : ByteArray := prog_6_method_4_code
def yX4_standsIn : MethodName := ⟨RX4, "standsIn", "(II)Z"⟩
abbrev cX4_lead : ByteArray := prog_6_method_5_code
def yX4_lead : MethodName := ⟨RX4, "lead", "(III)J"⟩
abbrev cX4_leadUnit : ByteArray := prog_6_method_6_code
def yX4_leadUnit : MethodName := ⟨RX4, "leadUnit", "(I)J"⟩
abbrev cX4_chanceParts : ByteArray := prog_6_method_7_code
def yX4_chanceParts : MethodName := ⟨RX4, "chanceParts", "(III)J"⟩
def RX5 : String := "RowsOfTwo$Row"
def TX5 : u_T := fun k => match k with
  | 0 => ("RowsOfTwo$Row", "length", "I", false)
  | 1 => ("RowsOfTwo$Row", "hits", "I", false)
  | _ => ("RowsOfTwo$Row", "unseen", "I", false)
def tyX5 : Nat → FieldType := fun k => match k with
  | 0 => .int
  | 1 => .int
  | _ => .int
abbrev wsX50 : List Cond := u_ws RX5 TX5 3
theorem nmX5 : ∀ a, a < 3 → ∀ b, b < 3 → a ≠ b → (TX5 a).2.1 ≠ (TX5 b).2.1 := by decide +kernel
theorem tyX5_ok : ∀ k, k < 3 → parseFieldDescriptor (TX5 k).2.2.1 = some (tyX5 k) := by decide +kernel
abbrev cX5_init : ByteArray := prog_7_method_1_code
def yX5_init : MethodName := ⟨RX5, "<init>", "()V"⟩
abbrev cX5_maySee : ByteArray := prog_7_method_2_code
def yX5_maySee : MethodName := ⟨RX5, "maySee", "(I)Z"⟩
abbrev cX5_isFull : ByteArray := prog_7_method_3_code
def yX5_isFull : MethodName := ⟨RX5, "isFull", "()Z"⟩
abbrev cX5_isWhole : ByteArray := prog_7_method_4_code
def yX5_isWhole : MethodName := ⟨RX5, "isWhole", "()Z"⟩
abbrev cX5_empty : ByteArray := prog_7_method_5_code
def yX5_empty : MethodName := ⟨RX5, "empty", "()V"⟩
abbrev cX5_append : ByteArray := prog_7_method_6_code
def yX5_append : MethodName := ⟨RX5, "append", "(I)V"⟩
abbrev cX5_signAt : ByteArray := prog_7_method_7_code
def yX5_signAt : MethodName := ⟨RX5, "signAt", "(I)I"⟩
abbrev cX5_isBehindItsEnd : ByteArray := prog_7_method_8_code
def yX5_isBehindItsEnd : MethodName := ⟨RX5, "isBehindItsEnd", "(II)Z"⟩
def RX6 : String := "RowsOfTwo$Sentences"
def TX6 : u_T := fun k => match k with
  | 0 => ("RowsOfTwo$Sentences", "letters", "[I", true)
  | 1 => ("RowsOfTwo$Sentences", "relations", "[I", true)
  | 2 => ("RowsOfTwo$Sentences", "limits", "[I", true)
  | 3 => ("RowsOfTwo$Sentences", "opensAlternative", "[Z", true)
  | 4 => ("RowsOfTwo$Sentences", "measured", "[I", true)
  | 5 => ("RowsOfTwo$Sentences", "length", "I", false)
  | 6 => ("RowsOfTwo$Sentences", "tests", "I", false)
  | 7 => ("RowsOfTwo$Sentences", "due", "I", false)
  | _ => ("RowsOfTwo$Sentences", "stuckAt", "I", false)
def tyX6 : Nat → FieldType := fun k => match k with
  | 0 => .array .int
  | 1 => .array .int
  | 2 => .array .int
  | 3 => .array .boolean
  | 4 => .array .int
  | 5 => .int
  | 6 => .int
  | 7 => .int
  | _ => .int
abbrev wsX60 : List Cond := u_ws RX6 TX6 9
theorem nmX6 : ∀ a, a < 9 → ∀ b, b < 9 → a ≠ b → (TX6 a).2.1 ≠ (TX6 b).2.1 := by decide +kernel
theorem tyX6_ok : ∀ k, k < 9 → parseFieldDescriptor (TX6 k).2.2.1 = some (tyX6 k) := by decide +kernel
abbrev cX6_init : ByteArray := prog_8_method_1_code
def yX6_init : MethodName := ⟨RX6, "<init>", "()V"⟩
abbrev cX6_empty : ByteArray := prog_8_method_2_code
def yX6_empty : MethodName := ⟨RX6, "empty", "()V"⟩
abbrev cX6_append : ByteArray := prog_8_method_3_code
def yX6_append : MethodName := ⟨RX6, "append", "(I)V"⟩
abbrev cX6_faultPlace : ByteArray := prog_8_method_4_code
def yX6_faultPlace : MethodName := ⟨RX6, "faultPlace", "()I"⟩
abbrev cX6_isFaulty : ByteArray := prog_8_method_5_code
def yX6_isFaulty : MethodName := ⟨RX6, "isFaulty", "()Z"⟩
abbrev cX6_goesOn : ByteArray := prog_8_method_6_code
def yX6_goesOn : MethodName := ⟨RX6, "goesOn", "(I)Z"⟩
abbrev cX6_takesLetter : ByteArray := prog_8_method_7_code
def yX6_takesLetter : MethodName := ⟨RX6, "takesLetter", "(I)Z"⟩
abbrev cX6_takesRelation : ByteArray := prog_8_method_8_code
def yX6_takesRelation : MethodName := ⟨RX6, "takesRelation", "(I)Z"⟩
abbrev cX6_takesFigure : ByteArray := prog_8_method_9_code
def yX6_takesFigure : MethodName := ⟨RX6, "takesFigure", "(I)Z"⟩
abbrev cX6_takesSecondFigure : ByteArray := prog_8_method_10_code
def yX6_takesSecondFigure : MethodName := ⟨RX6, "takesSecondFigure", "(I)Z"⟩
abbrev cX6_takesJoint : ByteArray := prog_8_method_11_code
def yX6_takesJoint : MethodName := ⟨RX6, "takesJoint", "(I)Z"⟩
abbrev cX6_hold : ByteArray := prog_8_method_12_code
def yX6_hold : MethodName := ⟨RX6, "hold", "(III)Z"⟩
abbrev cX6_isDone : ByteArray := prog_8_method_13_code
def yX6_isDone : MethodName := ⟨RX6, "isDone", "(I)Z"⟩
def RX7 : String := "RowsOfTwo$Sheet"
def TX7 : u_T := fun k => match k with
  | 0 => ("RowsOfTwo$Sheet", "items", "[I", true)
  | 1 => ("RowsOfTwo$Sheet", "lost", "Z", false)
  | 2 => ("RowsOfTwo$Sheet", "kind", "I", false)
  | _ => ("RowsOfTwo$Sheet", "size", "I", false)
def tyX7 : Nat → FieldType := fun k => match k with
  | 0 => .array .int
  | 1 => .boolean
  | 2 => .int
  | _ => .int
abbrev wsX70 : List Cond := u_ws RX7 TX7 4
theorem nmX7 : ∀ a, a < 4 → ∀ b, b < 4 → a ≠ b → (TX7 a).2.1 ≠ (TX7 b).2.1 := by decide +kernel
theorem tyX7_ok : ∀ k, k < 4 → parseFieldDescriptor (TX7 k).2.2.1 = some (tyX7 k) := by decide +kernel
abbrev cX7_init : ByteArray := prog_9_method_1_code
def yX7_init : MethodName := ⟨RX7, "<init>", "()V"⟩
abbrev cX7_renew : ByteArray := prog_9_method_2_code
def yX7_renew : MethodName := ⟨RX7, "renew", "(II)V"⟩
abbrev cX7_store : ByteArray := prog_9_method_3_code
def yX7_store : MethodName := ⟨RX7, "store", "(II)V"⟩
abbrev cX7_hasSpan : ByteArray := prog_9_method_4_code
def yX7_hasSpan : MethodName := ⟨RX7, "hasSpan", "(II)Z"⟩
def RX8 : String := "RowsOfTwo$Shown"
def TX8 : u_T := fun k => match k with
  | 0 => ("RowsOfTwo$Shown", "tallies", "[[I", true)
  | _ => ("RowsOfTwo$Shown", "known", "[Z", true)
def tyX8 : Nat → FieldType := fun k => match k with
  | 0 => .array (.array .int)
  | _ => .array .boolean
abbrev wsX80 : List Cond := u_ws RX8 TX8 2
theorem nmX8 : ∀ a, a < 2 → ∀ b, b < 2 → a ≠ b → (TX8 a).2.1 ≠ (TX8 b).2.1 := by decide +kernel
theorem tyX8_ok : ∀ k, k < 2 → parseFieldDescriptor (TX8 k).2.2.1 = some (tyX8 k) := by decide +kernel
abbrev cX8_init : ByteArray := prog_10_method_1_code
def yX8_init : MethodName := ⟨RX8, "<init>", "()V"⟩
abbrev cX8_forget : ByteArray := prog_10_method_2_code
def yX8_forget : MethodName := ⟨RX8, "forget", "()V"⟩
abbrev cX8_learn : ByteArray := prog_10_method_3_code
def yX8_learn : MethodName := ⟨RX8, "learn", "(ILRowsOfTwo$Sentences;I)V"⟩
def RX9 : String := "RowsOfTwo$Tallies"
def TX9 : u_T := fun k => match k with
  | _ => ("", "", "", false)
def tyX9 : Nat → FieldType := fun k => match k with
  | _ => .int
abbrev wsX90 : List Cond := u_ws RX9 TX9 0
theorem nmX9 : ∀ a, a < 0 → ∀ b, b < 0 → a ≠ b → (TX9 a).2.1 ≠ (TX9 b).2.1 := by decide +kernel
theorem tyX9_ok : ∀ k, k < 0 → parseFieldDescriptor (TX9 k).2.2.1 = some (tyX9 k) := by decide +kernel
abbrev cX9_sum : ByteArray := prog_11_method_2_code
def yX9_sum : MethodName := ⟨RX9, "sum", "([I)I"⟩
abbrev cX9_sharePart : ByteArray := prog_11_method_3_code
def yX9_sharePart : MethodName := ⟨RX9, "sharePart", "([IIII)J"⟩
def RX10 : String := "RowsOfTwo"
def TX10 : u_T := fun k => match k with
  | 0 => ("RowsOfTwo", "rows", "[LRowsOfTwo$Row;", true)
  | 1 => ("RowsOfTwo", "sheets", "[LRowsOfTwo$Sheet;", true)
  | 2 => ("RowsOfTwo", "sentences", "LRowsOfTwo$Sentences;", true)
  | 3 => ("RowsOfTwo", "shownRows", "LRowsOfTwo$Shown;", true)
  | 4 => ("RowsOfTwo", "heldFills", "LRowsOfTwo$Fills;", true)
  | 5 => ("RowsOfTwo", "odds", "I", false)
  | 6 => ("RowsOfTwo", "pattern", "I", false)
  | _ => ("RowsOfTwo", "finding", "I", false)
def tyX10 : Nat → FieldType := fun k => match k with
  | 0 => .array (.object "RowsOfTwo$Row")
  | 1 => .array (.object "RowsOfTwo$Sheet")
  | 2 => .object "RowsOfTwo$Sentences"
  | 3 => .object "RowsOfTwo$Shown"
  | 4 => .object "RowsOfTwo$Fills"
  | 5 => .int
  | 6 => .int
  | _ => .int
abbrev wsX100 : List Cond := u_ws RX10 TX10 8
theorem nmX10 : ∀ a, a < 8 → ∀ b, b < 8 → a ≠ b → (TX10 a).2.1 ≠ (TX10 b).2.1 := by decide +kernel
theorem tyX10_ok : ∀ k, k < 8 → parseFieldDescriptor (TX10 k).2.2.1 = some (tyX10 k) := by decide +kernel
abbrev cX10_init : ByteArray := prog_1_method_1_code
def yX10_init : MethodName := ⟨RX10, "<init>", "()V"⟩
abbrev cX10_sign : ByteArray := prog_1_method_2_code
def yX10_sign : MethodName := ⟨RX10, "sign", "(II)I"⟩
abbrev cX10_read : ByteArray := prog_1_method_3_code
def yX10_read : MethodName := ⟨RX10, "read", "(II)I"⟩
abbrev cX10_clear : ByteArray := prog_1_method_4_code
def yX10_clear : MethodName := ⟨RX10, "clear", "(I)I"⟩
abbrev cX10_at : ByteArray := prog_1_method_5_code
def yX10_at : MethodName := ⟨RX10, "at", "(II)I"⟩
abbrev cX10_set : ByteArray := prog_1_method_6_code
def yX10_set : MethodName := ⟨RX10, "set", "(II)I"⟩
abbrev cX10_shows : ByteArray := prog_1_method_7_code
def yX10_shows : MethodName := ⟨RX10, "shows", "(II)I"⟩
abbrev cX10_type : ByteArray := prog_1_method_8_code
def yX10_type : MethodName := ⟨RX10, "type", "(I)I"⟩
abbrev cX10_wipe : ByteArray := prog_1_method_9_code
def yX10_wipe : MethodName := ⟨RX10, "wipe", "()I"⟩
abbrev cX10_fault : ByteArray := prog_1_method_10_code
def yX10_fault : MethodName := ⟨RX10, "fault", "()I"⟩
abbrev cX10_holds : ByteArray := prog_1_method_11_code
def yX10_holds : MethodName := ⟨RX10, "holds", "(I)I"⟩
abbrev cX10_shown : ByteArray := prog_1_method_12_code
def yX10_shown : MethodName := ⟨RX10, "shown", "(II)I"⟩
abbrev cX10_nth : ByteArray := prog_1_method_13_code
def yX10_nth : MethodName := ⟨RX10, "nth", "(II)I"⟩
abbrev cX10_share : ByteArray := prog_1_method_14_code
def yX10_share : MethodName := ⟨RX10, "share", "(II)J"⟩
abbrev cX10_fills : ByteArray := prog_1_method_15_code
def yX10_fills : MethodName := ⟨RX10, "fills", "(II)I"⟩
abbrev cX10_filled : ByteArray := prog_1_method_16_code
def yX10_filled : MethodName := ⟨RX10, "filled", "(II)J"⟩
abbrev cX10_sure : ByteArray := prog_1_method_17_code
def yX10_sure : MethodName := ⟨RX10, "sure", "(II)I"⟩
abbrev cX10_dealt : ByteArray := prog_1_method_18_code
def yX10_dealt : MethodName := ⟨RX10, "dealt", "(IIZ)I"⟩
abbrev cX10_strangest : ByteArray := prog_1_method_19_code
def yX10_strangest : MethodName := ⟨RX10, "strangest", "(I)I"⟩
abbrev cX10_hot : ByteArray := prog_1_method_20_code
def yX10_hot : MethodName := ⟨RX10, "hot", "(III)J"⟩
abbrev cX10_already : ByteArray := prog_1_method_21_code
def yX10_already : MethodName := ⟨RX10, "already", "(III)J"⟩
abbrev cX10_waits : ByteArray := prog_1_method_22_code
def yX10_waits : MethodName := ⟨RX10, "waits", "(I)J"⟩
abbrev cX10_first : ByteArray := prog_1_method_23_code
def yX10_first : MethodName := ⟨RX10, "first", "(III)J"⟩
abbrev cX10_agree : ByteArray := prog_1_method_24_code
def yX10_agree : MethodName := ⟨RX10, "agree", "(III)I"⟩
abbrev cX10_twice : ByteArray := prog_1_method_25_code
def yX10_twice : MethodName := ⟨RX10, "twice", "(I)I"⟩
abbrev cX10_next : ByteArray := prog_1_method_26_code
def yX10_next : MethodName := ⟨RX10, "next", "(III)I"⟩
abbrev cX10_sheet : ByteArray := prog_1_method_27_code
def yX10_sheet : MethodName := ⟨RX10, "sheet", "(III)I"⟩
abbrev cX10_lose : ByteArray := prog_1_method_28_code
def yX10_lose : MethodName := ⟨RX10, "lose", "(I)I"⟩
abbrev cX10_put : ByteArray := prog_1_method_29_code
def yX10_put : MethodName := ⟨RX10, "put", "(IIII)I"⟩
abbrev cX10_get : ByteArray := prog_1_method_30_code
def yX10_get : MethodName := ⟨RX10, "get", "(III)I"⟩
abbrev cX10_copy : ByteArray := prog_1_method_31_code
def yX10_copy : MethodName := ⟨RX10, "copy", "(IIIII)I"⟩
abbrev cX10_write : ByteArray := prog_1_method_32_code
def yX10_write : MethodName := ⟨RX10, "write", "(II)I"⟩
abbrev cX10_count : ByteArray := prog_1_method_33_code
def yX10_count : MethodName := ⟨RX10, "count", "(I)I"⟩
abbrev cX10_digest : ByteArray := prog_1_method_34_code
def yX10_digest : MethodName := ⟨RX10, "digest", "()J"⟩
abbrev cX10_isRow : ByteArray := prog_1_method_35_code
def yX10_isRow : MethodName := ⟨RX10, "isRow", "(I)Z"⟩
abbrev cX10_isSheet : ByteArray := prog_1_method_36_code
def yX10_isSheet : MethodName := ⟨RX10, "isSheet", "(I)Z"⟩
abbrev cX10_isType : ByteArray := prog_1_method_37_code
def yX10_isType : MethodName := ⟨RX10, "isType", "(I)Z"⟩
abbrev cX10_isNumber : ByteArray := prog_1_method_38_code
def yX10_isNumber : MethodName := ⟨RX10, "isNumber", "(I)Z"⟩
abbrev cX10_isLength : ByteArray := prog_1_method_39_code
def yX10_isLength : MethodName := ⟨RX10, "isLength", "(I)Z"⟩
abbrev cX10_isPart : ByteArray := prog_1_method_40_code
def yX10_isPart : MethodName := ⟨RX10, "isPart", "(I)Z"⟩
abbrev cX10_isBehind : ByteArray := prog_1_method_41_code
def yX10_isBehind : MethodName := ⟨RX10, "isBehind", "(I)Z"⟩
abbrev cX10_isFirstTold : ByteArray := prog_1_method_42_code
def yX10_isFirstTold : MethodName := ⟨RX10, "isFirstTold", "(I)Z"⟩
abbrev cX10_refusal : ByteArray := prog_1_method_43_code
def yX10_refusal : MethodName := ⟨RX10, "refusal", "(I)J"⟩
abbrev cX10_found : ByteArray := prog_1_method_44_code
def yX10_found : MethodName := ⟨RX10, "found", "(I)I"⟩
abbrev cX10_refusesItem : ByteArray := prog_1_method_45_code
def yX10_refusesItem : MethodName := ⟨RX10, "refusesItem", "(III)I"⟩
abbrev cX10_numberOf : ByteArray := prog_1_method_46_code
def yX10_numberOf : MethodName := ⟨RX10, "numberOf", "(LRowsOfTwo$Row;I)I"⟩
abbrev cX10_dealtAsFar : ByteArray := prog_1_method_47_code
def yX10_dealtAsFar : MethodName := ⟨RX10, "dealtAsFar", "(LRowsOfTwo$Row;IZ)I"⟩
abbrev cX10_millionths : ByteArray := prog_1_method_48_code
def yX10_millionths : MethodName := ⟨RX10, "millionths", "(II)I"⟩
abbrev cX10_backwards : ByteArray := prog_1_method_49_code
def yX10_backwards : MethodName := ⟨RX10, "backwards", "(II)I"⟩
abbrev cX10_wholeRows : ByteArray := prog_1_method_50_code
def yX10_wholeRows : MethodName := ⟨RX10, "wholeRows", "()I"⟩
def RX11 : String := "RowsOfTwoModel"
def TX11 : u_T := fun k => match k with
  | 0 => ("RowsOfTwoModel", "sizes", "[I", true)
  | 1 => ("RowsOfTwoModel", "signs", "[I", true)
  | 2 => ("RowsOfTwoModel", "odds", "I", false)
  | 3 => ("RowsOfTwoModel", "pattern", "I", false)
  | 4 => ("RowsOfTwoModel", "typed", "I", false)
  | 5 => ("RowsOfTwoModel", "text", "[I", true)
  | 6 => ("RowsOfTwoModel", "at", "I", false)
  | 7 => ("RowsOfTwoModel", "fault", "I", false)
  | 8 => ("RowsOfTwoModel", "tests", "I", false)
  | 9 => ("RowsOfTwoModel", "testNumber", "[I", true)
  | 10 => ("RowsOfTwoModel", "testSign", "[I", true)
  | 11 => ("RowsOfTwoModel", "testValue", "[I", true)
  | 12 => ("RowsOfTwoModel", "testBegins", "[Z", true)
  | 13 => ("RowsOfTwoModel", "isRead", "Z", false)
  | 14 => ("RowsOfTwoModel", "unseen", "[I", true)
  | 15 => ("RowsOfTwoModel", "unseenMany", "I", false)
  | 16 => ("RowsOfTwoModel", "behindAll", "I", false)
  | 17 => ("RowsOfTwoModel", "behindHits", "I", false)
  | 18 => ("RowsOfTwoModel", "isThere", "[Z", true)
  | 19 => ("RowsOfTwoModel", "types", "[I", true)
  | 20 => ("RowsOfTwoModel", "held", "[I", true)
  | 21 => ("RowsOfTwoModel", "items", "[I", true)
  | 22 => ("RowsOfTwoModel", "moved", "[I", true)
  | _ => ("RowsOfTwoModel", "finding", "I", false)
def tyX11 : Nat → FieldType := fun k => match k with
  | 0 => .array .int
  | 1 => .array .int
  | 2 => .int
  | 3 => .int
  | 4 => .int
  | 5 => .array .int
  | 6 => .int
  | 7 => .int
  | 8 => .int
  | 9 => .array .int
  | 10 => .array .int
  | 11 => .array .int
  | 12 => .array .boolean
  | 13 => .boolean
  | 14 => .array .int
  | 15 => .int
  | 16 => .int
  | 17 => .int
  | 18 => .array .boolean
  | 19 => .array .int
  | 20 => .array .int
  | 21 => .array .int
  | 22 => .array .int
  | _ => .int
abbrev wsX110 : List Cond := u_ws RX11 TX11 24
theorem nmX11 : ∀ a, a < 24 → ∀ b, b < 24 → a ≠ b → (TX11 a).2.1 ≠ (TX11 b).2.1 := by decide +kernel
theorem tyX11_ok : ∀ k, k < 24 → parseFieldDescriptor (TX11 k).2.2.1 = some (tyX11 k) := by decide +kernel
abbrev cX11_init : ByteArray := prog_13_method_1_code
def yX11_init : MethodName := ⟨RX11, "<init>", "()V"⟩
abbrev cX11_in : ByteArray := prog_13_method_3_code
def yX11_in : MethodName := ⟨RX11, "in", "(III)Z"⟩
abbrev cX11_no : ByteArray := prog_13_method_4_code
def yX11_no : MethodName := ⟨RX11, "no", "(I)J"⟩
abbrev cX11_lowest : ByteArray := prog_13_method_5_code
def yX11_lowest : MethodName := ⟨RX11, "lowest", "(JJI)J"⟩
abbrev cX11_power : ByteArray := prog_13_method_6_code
def yX11_power : MethodName := ⟨RX11, "power", "(JI)J"⟩
abbrev cX11_ones : ByteArray := prog_13_method_7_code
def yX11_ones : MethodName := ⟨RX11, "ones", "(I)I"⟩
abbrev cX11_isRow : ByteArray := prog_13_method_8_code
def yX11_isRow : MethodName := ⟨RX11, "isRow", "(I)Z"⟩
abbrev cX11_puts : ByteArray := prog_13_method_9_code
def yX11_puts : MethodName := ⟨RX11, "puts", "(II)I"⟩
abbrev cX11_sign : ByteArray := prog_13_method_10_code
def yX11_sign : MethodName := ⟨RX11, "sign", "(II)I"⟩
abbrev cX11_read : ByteArray := prog_13_method_11_code
def yX11_read : MethodName := ⟨RX11, "read", "(II)I"⟩
abbrev cX11_clear : ByteArray := prog_13_method_12_code
def yX11_clear : MethodName := ⟨RX11, "clear", "(I)I"⟩
abbrev cX11_at : ByteArray := prog_13_method_13_code
def yX11_at : MethodName := ⟨RX11, "at", "(II)I"⟩
abbrev cX11_set : ByteArray := prog_13_method_14_code
def yX11_set : MethodName := ⟨RX11, "set", "(II)I"⟩
abbrev cX11_isWhole : ByteArray := prog_13_method_15_code
def yX11_isWhole : MethodName := ⟨RX11, "isWhole", "(I)Z"⟩
abbrev cX11_bitsOf : ByteArray := prog_13_method_16_code
def yX11_bitsOf : MethodName := ⟨RX11, "bitsOf", "(I)I"⟩
abbrev cX11_lengthOf : ByteArray := prog_13_method_17_code
def yX11_lengthOf : MethodName := ⟨RX11, "lengthOf", "(I)I"⟩
abbrev cX11_standing : ByteArray := prog_13_method_18_code
def yX11_standing : MethodName := ⟨RX11, "standing", "(II)I"⟩
abbrev cX11_numberOf : ByteArray := prog_13_method_19_code
def yX11_numberOf : MethodName := ⟨RX11, "numberOf", "(III)I"⟩
abbrev cX11_showsNow : ByteArray := prog_13_method_20_code
def yX11_showsNow : MethodName := ⟨RX11, "showsNow", "(II)I"⟩
abbrev cX11_shows : ByteArray := prog_13_method_21_code
def yX11_shows : MethodName := ⟨RX11, "shows", "(II)I"⟩
abbrev cX11_type : ByteArray := prog_13_method_22_code
def yX11_type : MethodName := ⟨RX11, "type", "(I)I"⟩
abbrev cX11_wipe : ByteArray := prog_13_method_23_code
def yX11_wipe : MethodName := ⟨RX11, "wipe", "()I"⟩
abbrev cX11_byteNow : ByteArray := prog_13_method_24_code
def yX11_byteNow : MethodName := ⟨RX11, "byteNow", "()I"⟩
abbrev cX11_numberBy : ByteArray := prog_13_method_25_code
def yX11_numberBy : MethodName := ⟨RX11, "numberBy", "(I)I"⟩
abbrev cX11_test : ByteArray := prog_13_method_26_code
def yX11_test : MethodName := ⟨RX11, "test", "(Z)V"⟩
abbrev cX11_faultNow : ByteArray := prog_13_method_27_code
def yX11_faultNow : MethodName := ⟨RX11, "faultNow", "()I"⟩
abbrev cX11_fault : ByteArray := prog_13_method_28_code
def yX11_fault : MethodName := ⟨RX11, "fault", "()I"⟩
abbrev cX11_does : ByteArray := prog_13_method_29_code
def yX11_does : MethodName := ⟨RX11, "does", "(II)Z"⟩
abbrev cX11_holds : ByteArray := prog_13_method_30_code
def yX11_holds : MethodName := ⟨RX11, "holds", "(I)I"⟩
abbrev cX11_shownNow : ByteArray := prog_13_method_31_code
def yX11_shownNow : MethodName := ⟨RX11, "shownNow", "(II)I"⟩
abbrev cX11_shown : ByteArray := prog_13_method_32_code
def yX11_shown : MethodName := ⟨RX11, "shown", "(II)I"⟩
abbrev cX11_nth : ByteArray := prog_13_method_33_code
def yX11_nth : MethodName := ⟨RX11, "nth", "(II)I"⟩
abbrev cX11_share : ByteArray := prog_13_method_34_code
def yX11_share : MethodName := ⟨RX11, "share", "(II)J"⟩
abbrev cX11_gathers : ByteArray := prog_13_method_35_code
def yX11_gathers : MethodName := ⟨RX11, "gathers", "(I)V"⟩
abbrev cX11_fill : ByteArray := prog_13_method_36_code
def yX11_fill : MethodName := ⟨RX11, "fill", "(II)I"⟩
abbrev cX11_fills : ByteArray := prog_13_method_37_code
def yX11_fills : MethodName := ⟨RX11, "fills", "(II)I"⟩
abbrev cX11_filled : ByteArray := prog_13_method_38_code
def yX11_filled : MethodName := ⟨RX11, "filled", "(II)J"⟩
abbrev cX11_sure : ByteArray := prog_13_method_39_code
def yX11_sure : MethodName := ⟨RX11, "sure", "(II)I"⟩
abbrev cX11_dealtMany : ByteArray := prog_13_method_40_code
def yX11_dealtMany : MethodName := ⟨RX11, "dealtMany", "(IIZ)I"⟩
abbrev cX11_choose : ByteArray := prog_13_method_41_code
def yX11_choose : MethodName := ⟨RX11, "choose", "(II)J"⟩
abbrev cX11_dealtAll : ByteArray := prog_13_method_42_code
def yX11_dealtAll : MethodName := ⟨RX11, "dealtAll", "(I)J"⟩
abbrev cX11_dealt : ByteArray := prog_13_method_43_code
def yX11_dealt : MethodName := ⟨RX11, "dealt", "(IIZ)I"⟩
abbrev cX11_strangest : ByteArray := prog_13_method_44_code
def yX11_strangest : MethodName := ⟨RX11, "strangest", "(I)I"⟩
abbrev cX11_behind : ByteArray := prog_13_method_45_code
def yX11_behind : MethodName := ⟨RX11, "behind", "(III)V"⟩
abbrev cX11_hot : ByteArray := prog_13_method_46_code
def yX11_hot : MethodName := ⟨RX11, "hot", "(III)J"⟩
abbrev cX11_already : ByteArray := prog_13_method_47_code
def yX11_already : MethodName := ⟨RX11, "already", "(III)J"⟩
abbrev cX11_oddsOf : ByteArray := prog_13_method_48_code
def yX11_oddsOf : MethodName := ⟨RX11, "oddsOf", "(II)J"⟩
abbrev cX11_overlaps : ByteArray := prog_13_method_49_code
def yX11_overlaps : MethodName := ⟨RX11, "overlaps", "(III)Z"⟩
abbrev cX11_lead : ByteArray := prog_13_method_50_code
def yX11_lead : MethodName := ⟨RX11, "lead", "(II)J"⟩
abbrev cX11_waitsNow : ByteArray := prog_13_method_51_code
def yX11_waitsNow : MethodName := ⟨RX11, "waitsNow", "(I)J"⟩
abbrev cX11_waits : ByteArray := prog_13_method_52_code
def yX11_waits : MethodName := ⟨RX11, "waits", "(I)J"⟩
abbrev cX11_stands : ByteArray := prog_13_method_53_code
def yX11_stands : MethodName := ⟨RX11, "stands", "(II)Z"⟩
abbrev cX11_first : ByteArray := prog_13_method_54_code
def yX11_first : MethodName := ⟨RX11, "first", "(III)J"⟩
abbrev cX11_agree : ByteArray := prog_13_method_55_code
def yX11_agree : MethodName := ⟨RX11, "agree", "(III)I"⟩
abbrev cX11_twice : ByteArray := prog_13_method_56_code
def yX11_twice : MethodName := ⟨RX11, "twice", "(I)I"⟩
abbrev cX11_next : ByteArray := prog_13_method_57_code
def yX11_next : MethodName := ⟨RX11, "next", "(III)I"⟩
abbrev cX11_meets : ByteArray := prog_13_method_58_code
def yX11_meets : MethodName := ⟨RX11, "meets", "(I)I"⟩
abbrev cX11_isSheet : ByteArray := prog_13_method_59_code
def yX11_isSheet : MethodName := ⟨RX11, "isSheet", "(I)Z"⟩
abbrev cX11_sheet : ByteArray := prog_13_method_60_code
def yX11_sheet : MethodName := ⟨RX11, "sheet", "(III)I"⟩
abbrev cX11_lose : ByteArray := prog_13_method_61_code
def yX11_lose : MethodName := ⟨RX11, "lose", "(I)I"⟩
abbrev cX11_lacks : ByteArray := prog_13_method_62_code
def yX11_lacks : MethodName := ⟨RX11, "lacks", "(III)I"⟩
abbrev cX11_keep : ByteArray := prog_13_method_63_code
def yX11_keep : MethodName := ⟨RX11, "keep", "(III)V"⟩
abbrev cX11_put : ByteArray := prog_13_method_64_code
def yX11_put : MethodName := ⟨RX11, "put", "(IIII)I"⟩
abbrev cX11_get : ByteArray := prog_13_method_65_code
def yX11_get : MethodName := ⟨RX11, "get", "(III)I"⟩
abbrev cX11_copy : ByteArray := prog_13_method_66_code
def yX11_copy : MethodName := ⟨RX11, "copy", "(IIIII)I"⟩
abbrev cX11_write : ByteArray := prog_13_method_67_code
def yX11_write : MethodName := ⟨RX11, "write", "(II)I"⟩
abbrev cX11_wholeOnes : ByteArray := prog_13_method_68_code
def yX11_wholeOnes : MethodName := ⟨RX11, "wholeOnes", "()I"⟩
abbrev cX11_count : ByteArray := prog_13_method_69_code
def yX11_count : MethodName := ⟨RX11, "count", "(I)I"⟩
abbrev cX11_digest : ByteArray := prog_13_method_70_code
def yX11_digest : MethodName := ⟨RX11, "digest", "()J"⟩
def RJ11 : String := "java/lang/Character"
def TJ11 : u_T := fun k => match k with
  | _ => ("", "", "", false)
def tyJ11 : Nat → FieldType := fun k => match k with
  | _ => .int
abbrev wsJ110 : List Cond := u_ws RJ11 TJ11 0
theorem nmJ11 : ∀ a, a < 0 → ∀ b, b < 0 → a ≠ b → (TJ11 a).2.1 ≠ (TJ11 b).2.1 := by decide +kernel
theorem tyJ11_ok : ∀ k, k < 0 → parseFieldDescriptor (TJ11 k).2.2.1 = some (tyJ11 k) := by decide +kernel
abbrev cJ11_isValidCodePoint_9a6ad : ByteArray := prog_14_method_11_code
def yJ11_isValidCodePoint_9a6ad : MethodName := ⟨RJ11, "isValidCodePoint", "(I)Z"⟩
abbrev cJ11_highSurrogate_5068e : ByteArray := prog_14_method_28_code
def yJ11_highSurrogate_5068e : MethodName := ⟨RJ11, "highSurrogate", "(I)C"⟩
abbrev cJ11_lowSurrogate_5068e : ByteArray := prog_14_method_29_code
def yJ11_lowSurrogate_5068e : MethodName := ⟨RJ11, "lowSurrogate", "(I)C"⟩
def RJ6 : String := "java/lang/Integer"
def TJ6 : u_T := fun k => match k with
  | _ => ("", "", "", false)
def tyJ6 : Nat → FieldType := fun k => match k with
  | _ => .int
abbrev wsJ60 : List Cond := u_ws RJ6 TJ6 0
theorem nmJ6 : ∀ a, a < 0 → ∀ b, b < 0 → a ≠ b → (TJ6 a).2.1 ≠ (TJ6 b).2.1 := by decide +kernel
theorem tyJ6_ok : ∀ k, k < 0 → parseFieldDescriptor (TJ6 k).2.2.1 = some (tyJ6 k) := by decide +kernel
abbrev cJ6_bitCount_0f7a4 : ByteArray := prog_15_method_49_code
def yJ6_bitCount_0f7a4 : MethodName := ⟨RJ6, "bitCount", "(I)I"⟩
def RJ9 : String := "java/lang/Math"
def TJ9 : u_T := fun k => match k with
  | _ => ("", "", "", false)
def tyJ9 : Nat → FieldType := fun k => match k with
  | _ => .int
abbrev wsJ90 : List Cond := u_ws RJ9 TJ9 0
theorem nmJ9 : ∀ a, a < 0 → ∀ b, b < 0 → a ≠ b → (TJ9 a).2.1 ≠ (TJ9 b).2.1 := by decide +kernel
theorem tyJ9_ok : ∀ k, k < 0 → parseFieldDescriptor (TJ9 k).2.2.1 = some (tyJ9 k) := by decide +kernel
abbrev cJ9_max_7cf53 : ByteArray := prog_16_method_65_code
def yJ9_max_7cf53 : MethodName := ⟨RJ9, "max", "(II)I"⟩
abbrev cJ9_min_7cf53 : ByteArray := prog_16_method_69_code
def yJ9_min_7cf53 : MethodName := ⟨RJ9, "min", "(II)I"⟩
def RJ0 : String := "java/lang/String"
def TJ0 : u_T := fun k => match k with
  | _ => ("", "", "", false)
def tyJ0 : Nat → FieldType := fun k => match k with
  | _ => .int
abbrev wsJ00 : List Cond := u_ws RJ0 TJ0 0
theorem nmJ0 : ∀ a, a < 0 → ∀ b, b < 0 → a ≠ b → (TJ0 a).2.1 ≠ (TJ0 b).2.1 := by decide +kernel
theorem tyJ0_ok : ∀ k, k < 0 → parseFieldDescriptor (TJ0 k).2.2.1 = some (tyJ0 k) := by decide +kernel
abbrev cJ0_length_8abf5 : ByteArray := prog_17_method_54_code
def yJ0_length_8abf5 : MethodName := ⟨RJ0, "length", "()I"⟩
abbrev cJ0_indexOf_0f7a4 : ByteArray := prog_17_method_79_code
def yJ0_indexOf_0f7a4 : MethodName := ⟨RJ0, "indexOf", "(I)I"⟩
abbrev cJ0_indexOf_7cf53 : ByteArray := prog_17_method_80_code
def yJ0_indexOf_7cf53 : MethodName := ⟨RJ0, "indexOf", "(II)I"⟩
abbrev cJ0_coder_7d493 : ByteArray := prog_17_method_152_code
def yJ0_coder_7d493 : MethodName := ⟨RJ0, "coder", "()B"⟩
abbrev cJ0_isLatin1_aae02 : ByteArray := prog_17_method_154_code
def yJ0_isLatin1_aae02 : MethodName := ⟨RJ0, "isLatin1", "()Z"⟩
abbrev cJ0_checkBoundsBeginEnd_23922 : ByteArray := prog_17_method_158_code
def yJ0_checkBoundsBeginEnd_23922 : MethodName := ⟨RJ0, "checkBoundsBeginEnd", "(III)V"⟩
def RJ1 : String := "java/lang/StringLatin1"
def TJ1 : u_T := fun k => match k with
  | _ => ("", "", "", false)
def tyJ1 : Nat → FieldType := fun k => match k with
  | _ => .int
abbrev wsJ10 : List Cond := u_ws RJ1 TJ1 0
theorem nmJ1 : ∀ a, a < 0 → ∀ b, b < 0 → a ≠ b → (TJ1 a).2.1 ≠ (TJ1 b).2.1 := by decide +kernel
theorem tyJ1_ok : ∀ k, k < 0 → parseFieldDescriptor (TJ1 k).2.2.1 = some (tyJ1 k) := by decide +kernel
abbrev cJ1_canEncode_9a6ad : ByteArray := prog_18_method_4_code
def yJ1_canEncode_9a6ad : MethodName := ⟨RJ1, "canEncode", "(I)Z"⟩
abbrev cJ1_indexOf_4cfef : ByteArray := prog_18_method_22_code
def yJ1_indexOf_4cfef : MethodName := ⟨RJ1, "indexOf", "([BIII)I"⟩
abbrev cJ1_indexOfChar_4cfef : ByteArray := prog_18_method_23_code
def yJ1_indexOfChar_4cfef : MethodName := ⟨RJ1, "indexOfChar", "([BIII)I"⟩
def RJ2 : String := "java/lang/StringUTF16"
def TJ2 : u_T := fun k => match k with
  | _ => ("", "", "", false)
def tyJ2 : Nat → FieldType := fun k => match k with
  | _ => .int
abbrev wsJ20 : List Cond := u_ws RJ2 TJ2 0
theorem nmJ2 : ∀ a, a < 0 → ∀ b, b < 0 → a ≠ b → (TJ2 a).2.1 ≠ (TJ2 b).2.1 := by decide +kernel
theorem tyJ2_ok : ∀ k, k < 0 → parseFieldDescriptor (TJ2 k).2.2.1 = some (tyJ2 k) := by decide +kernel
abbrev cJ2_getChar_3b067 : ByteArray := prog_19_method_5_code
def yJ2_getChar_3b067 : MethodName := ⟨RJ2, "getChar", "([BI)C"⟩
abbrev cJ2_length_9d52b : ByteArray := prog_19_method_6_code
def yJ2_length_9d52b : MethodName := ⟨RJ2, "length", "([B)I"⟩
abbrev cJ2_indexOf_4cfef : ByteArray := prog_19_method_40_code
def yJ2_indexOf_4cfef : MethodName := ⟨RJ2, "indexOf", "([BIII)I"⟩
abbrev cJ2_indexOfChar_4cfef : ByteArray := prog_19_method_47_code
def yJ2_indexOfChar_4cfef : MethodName := ⟨RJ2, "indexOfChar", "([BIII)I"⟩
abbrev cJ2_indexOfCharUnsafe_4cfef : ByteArray := prog_19_method_48_code
def yJ2_indexOfCharUnsafe_4cfef : MethodName := ⟨RJ2, "indexOfCharUnsafe", "([BIII)I"⟩
abbrev cJ2_indexOfSupplementary_4cfef : ByteArray := prog_19_method_49_code
def yJ2_indexOfSupplementary_4cfef : MethodName := ⟨RJ2, "indexOfSupplementary", "([BIII)I"⟩
abbrev cJ2_checkBoundsBeginEnd_d044e : ByteArray := prog_19_method_93_code
def yJ2_checkBoundsBeginEnd_d044e : MethodName := ⟨RJ2, "checkBoundsBeginEnd", "(II[B)V"⟩
def RJ10 : String := "java/lang/System"
def TJ10 : u_T := fun k => match k with
  | _ => ("", "", "", false)
def tyJ10 : Nat → FieldType := fun k => match k with
  | _ => .int
abbrev wsJ100 : List Cond := u_ws RJ10 TJ10 0
theorem nmJ10 : ∀ a, a < 0 → ∀ b, b < 0 → a ≠ b → (TJ10 a).2.1 ≠ (TJ10 b).2.1 := by decide +kernel
theorem tyJ10_ok : ∀ k, k < 0 → parseFieldDescriptor (TJ10 k).2.2.1 = some (tyJ10 k) := by decide +kernel
def RJ3 : String := "jdk/internal/util/Preconditions"
def TJ3 : u_T := fun k => match k with
  | _ => ("", "", "", false)
def tyJ3 : Nat → FieldType := fun k => match k with
  | _ => .int
abbrev wsJ30 : List Cond := u_ws RJ3 TJ3 0
theorem nmJ3 : ∀ a, a < 0 → ∀ b, b < 0 → a ≠ b → (TJ3 a).2.1 ≠ (TJ3 b).2.1 := by decide +kernel
theorem tyJ3_ok : ∀ k, k < 0 → parseFieldDescriptor (TJ3 k).2.2.1 = some (tyJ3 k) := by decide +kernel
abbrev cJ3_checkFromToIndex_8c36e : ByteArray := prog_21_method_12_code
def yJ3_checkFromToIndex_8c36e : MethodName := ⟨RJ3, "checkFromToIndex", "(IIILjava/util/function/BiFunction;)I"⟩
def RL : String := "RowsOfTwoLaw"
abbrev cL_law : ByteArray := code
def yL_law : MethodName := ⟨RL, "law", "([I)Z"⟩
abbrev vwCl : List vw_C := [(RX0, TX0, 3), (RX5, TX5, 3), (RX6, TX6, 9), (RX7, TX7, 4), (RX8, TX8, 2), (RX10, TX10, 8), (RX11, TX11, 24)]
