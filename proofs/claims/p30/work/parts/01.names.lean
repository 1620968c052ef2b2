theorem goodIn_r {big : List Cond} (ws : List Cond) (ps : List Nat) (hp : ws = ps.filterMap (fun i => big[i]?)) (h : ws.all goodWord = true) : GoodIn big ws := by
  intro w hw
  have h1 := List.all_eq_true.mp h w hw
  rw [hp] at hw
  obtain ⟨i, -, hi⟩ := List.mem_filterMap.mp hw
  have hm : w ∈ big := by first | exact List.mem_of_getElem? hi | exact List.getElem?_mem hi
  exact ⟨hm, good_of_word h1⟩
theorem goodIn_app {big a b : List Cond} (ha : GoodIn big a) (hb : GoodIn big b) : GoodIn big (a ++ b) := fun w h => (List.mem_append.mp h).elim (ha w) (hb w)
theorem goodIn_ca {big a b : List Cond} {c : Cond} (ha : GoodIn big (c :: a)) (hb : GoodIn big b) : GoodIn big (c :: (a ++ b)) := fun w h => (List.mem_cons.mp h).elim (fun e => ha w (List.mem_cons.mpr (Or.inl e))) (fun h => (List.mem_append.mp h).elim (fun h => ha w (List.mem_cons.mpr (Or.inr h))) (hb w))
theorem goodIn_sub {big ws : List Cond} (hm : ∀ w ∈ ws, w ∈ big) (h : ws.all goodWord = true) : GoodIn big ws := fun w hw => ⟨hm w hw, good_of_word (List.all_eq_true.mp h w hw)⟩
def RX0 : String := "QuietChecks$Asked"
def TX0 : u_T := fun k => match k with
  | 0 => ("QuietChecks$Asked", "spans", "[I", true)
  | _ => ("QuietChecks$Asked", "size", "I", false)
def tyX0 : Nat → FieldType := fun k => match k with
  | 0 => .array .int
  | _ => .int
abbrev wsX00 : List Cond := u_ws RX0 TX0 2
theorem nmX0 : ∀ a, a < 2 → ∀ b, b < 2 → a ≠ b → (TX0 a).2.1 ≠ (TX0 b).2.1 := by decide +kernel
theorem tyX0_ok : ∀ k, k < 2 → parseFieldDescriptor (TX0 k).2.2.1 = some (tyX0 k) := by decide +kernel
abbrev cX0_init : ByteArray := prog_2_method_1_code
def yX0_init : MethodName := ⟨RX0, "<init>", "()V"⟩
abbrev cX0_copyFrom : ByteArray := prog_2_method_2_code
def yX0_copyFrom : MethodName := ⟨RX0, "copyFrom", "(LQuietChecks$Asked;)V"⟩
abbrev cX0_placeOf : ByteArray := prog_2_method_3_code
def yX0_placeOf : MethodName := ⟨RX0, "placeOf", "(I)I"⟩
abbrev cX0_append : ByteArray := prog_2_method_4_code
def yX0_append : MethodName := ⟨RX0, "append", "(I)Z"⟩
abbrev cX0_drop : ByteArray := prog_2_method_5_code
def yX0_drop : MethodName := ⟨RX0, "drop", "(I)Z"⟩
def RX1 : String := "QuietChecks$Disk"
def TX1 : u_T := fun k => match k with
  | 0 => ("QuietChecks$Disk", "settings", "[I", true)
  | 1 => ("QuietChecks$Disk", "stamps", "[I", true)
  | 2 => ("QuietChecks$Disk", "spots", "LQuietChecks$Spots;", true)
  | 3 => ("QuietChecks$Disk", "asked", "LQuietChecks$Asked;", true)
  | 4 => ("QuietChecks$Disk", "log", "LQuietChecks$Log;", true)
  | 5 => ("QuietChecks$Disk", "way", "I", false)
  | 6 => ("QuietChecks$Disk", "spares", "I", false)
  | 7 => ("QuietChecks$Disk", "tick", "I", false)
  | 8 => ("QuietChecks$Disk", "quietTicks", "I", false)
  | 9 => ("QuietChecks$Disk", "checkSpan", "I", false)
  | 10 => ("QuietChecks$Disk", "checkDone", "I", false)
  | 11 => ("QuietChecks$Disk", "checkTicks", "I", false)
  | 12 => ("QuietChecks$Disk", "rowStart", "I", false)
  | 13 => ("QuietChecks$Disk", "ended", "I", false)
  | 14 => ("QuietChecks$Disk", "pauses", "I", false)
  | 15 => ("QuietChecks$Disk", "replaced", "I", false)
  | _ => ("QuietChecks$Disk", "slowReads", "I", false)
def tyX1 : Nat → FieldType := fun k => match k with
  | 0 => .array .int
  | 1 => .array .int
  | 2 => .object "QuietChecks$Spots"
  | 3 => .object "QuietChecks$Asked"
  | 4 => .object "QuietChecks$Log"
  | 5 => .int
  | 6 => .int
  | 7 => .int
  | 8 => .int
  | 9 => .int
  | 10 => .int
  | 11 => .int
  | 12 => .int
  | 13 => .int
  | 14 => .int
  | 15 => .int
  | _ => .int
abbrev wsX10 : List Cond := u_ws RX1 TX1 17
theorem nmX1 : ∀ a, a < 17 → ∀ b, b < 17 → a ≠ b → (TX1 a).2.1 ≠ (TX1 b).2.1 := by decide +kernel
theorem tyX1_ok : ∀ k, k < 17 → parseFieldDescriptor (TX1 k).2.2.1 = some (tyX1 k) := by decide +kernel
abbrev cX1_init : ByteArray := prog_3_method_1_code
def yX1_init : MethodName := ⟨RX1, "<init>", "()V"⟩
abbrev cX1_copyFrom : ByteArray := prog_3_method_2_code
def yX1_copyFrom : MethodName := ⟨RX1, "copyFrom", "(LQuietChecks$Disk;)V"⟩
abbrev cX1_changeSetting : ByteArray := prog_3_method_3_code
def yX1_changeSetting : MethodName := ⟨RX1, "changeSetting", "(II)I"⟩
abbrev cX1_changeWay : ByteArray := prog_3_method_4_code
def yX1_changeWay : MethodName := ⟨RX1, "changeWay", "(I)I"⟩
abbrev cX1_takeSpares : ByteArray := prog_3_method_5_code
def yX1_takeSpares : MethodName := ⟨RX1, "takeSpares", "(I)I"⟩
abbrev cX1_takeSpot : ByteArray := prog_3_method_6_code
def yX1_takeSpot : MethodName := ⟨RX1, "takeSpot", "(II)I"⟩
abbrev cX1_askByHand : ByteArray := prog_3_method_7_code
def yX1_askByHand : MethodName := ⟨RX1, "askByHand", "(I)I"⟩
abbrev cX1_withdraw : ByteArray := prog_3_method_8_code
def yX1_withdraw : MethodName := ⟨RX1, "withdraw", "(I)I"⟩
abbrev cX1_hostReads : ByteArray := prog_3_method_9_code
def yX1_hostReads : MethodName := ⟨RX1, "hostReads", "(II)I"⟩
abbrev cX1_passQuietTicks : ByteArray := prog_3_method_10_code
def yX1_passQuietTicks : MethodName := ⟨RX1, "passQuietTicks", "(I)I"⟩
abbrev cX1_passQuietTick : ByteArray := prog_3_method_11_code
def yX1_passQuietTick : MethodName := ⟨RX1, "passQuietTick", "()I"⟩
abbrev cX1_dropCheck : ByteArray := prog_3_method_12_code
def yX1_dropCheck : MethodName := ⟨RX1, "dropCheck", "()I"⟩
abbrev cX1_chooseSpan : ByteArray := prog_3_method_13_code
def yX1_chooseSpan : MethodName := ⟨RX1, "chooseSpan", "()I"⟩
abbrev cX1_rankOf : ByteArray := prog_3_method_14_code
def yX1_rankOf : MethodName := ⟨RX1, "rankOf", "(I)I"⟩
abbrev cX1_beginCheck : ByteArray := prog_3_method_15_code
def yX1_beginCheck : MethodName := ⟨RX1, "beginCheck", "(I)V"⟩
abbrev cX1_pauseCheck : ByteArray := prog_3_method_16_code
def yX1_pauseCheck : MethodName := ⟨RX1, "pauseCheck", "()V"⟩
abbrev cX1_clearCheck : ByteArray := prog_3_method_17_code
def yX1_clearCheck : MethodName := ⟨RX1, "clearCheck", "()V"⟩
abbrev cX1_endCheck : ByteArray := prog_3_method_18_code
def yX1_endCheck : MethodName := ⟨RX1, "endCheck", "(I)V"⟩
abbrev cX1_lookAtSpot : ByteArray := prog_3_method_19_code
def yX1_lookAtSpot : MethodName := ⟨RX1, "lookAtSpot", "(III)V"⟩
abbrev cX1_overdueSpans : ByteArray := prog_3_method_20_code
def yX1_overdueSpans : MethodName := ⟨RX1, "overdueSpans", "()I"⟩
abbrev cX1_ageOf : ByteArray := prog_3_method_21_code
def yX1_ageOf : MethodName := ⟨RX1, "ageOf", "(I)I"⟩
abbrev cX1_isOverdue : ByteArray := prog_3_method_22_code
def yX1_isOverdue : MethodName := ⟨RX1, "isOverdue", "(I)Z"⟩
abbrev cX1_isDue : ByteArray := prog_3_method_23_code
def yX1_isDue : MethodName := ⟨RX1, "isDue", "(I)Z"⟩
abbrev cX1_ticksOfCheck : ByteArray := prog_3_method_24_code
def yX1_ticksOfCheck : MethodName := ⟨RX1, "ticksOfCheck", "(I)I"⟩
abbrev cX1_numberOfDisk : ByteArray := prog_3_method_25_code
def yX1_numberOfDisk : MethodName := ⟨RX1, "numberOfDisk", "(I)I"⟩
abbrev cX1_numberOfSpan : ByteArray := prog_3_method_26_code
def yX1_numberOfSpan : MethodName := ⟨RX1, "numberOfSpan", "(II)I"⟩
def RX2 : String := "QuietChecks$History"
def TX2 : u_T := fun k => match k with
  | 0 => ("QuietChecks$History", "rows", "[LQuietChecks$Disk;", true)
  | _ => ("QuietChecks$History", "size", "I", false)
def tyX2 : Nat → FieldType := fun k => match k with
  | 0 => .array (.object "QuietChecks$Disk")
  | _ => .int
abbrev wsX20 : List Cond := u_ws RX2 TX2 2
theorem nmX2 : ∀ a, a < 2 → ∀ b, b < 2 → a ≠ b → (TX2 a).2.1 ≠ (TX2 b).2.1 := by decide +kernel
theorem tyX2_ok : ∀ k, k < 2 → parseFieldDescriptor (TX2 k).2.2.1 = some (tyX2 k) := by decide +kernel
abbrev cX2_init : ByteArray := prog_4_method_1_code
def yX2_init : MethodName := ⟨RX2, "<init>", "()V"⟩
abbrev cX2_draft : ByteArray := prog_4_method_2_code
def yX2_draft : MethodName := ⟨RX2, "draft", "(LQuietChecks$Disk;)V"⟩
abbrev cX2_keep : ByteArray := prog_4_method_3_code
def yX2_keep : MethodName := ⟨RX2, "keep", "(I)I"⟩
abbrev cX2_discardOldest : ByteArray := prog_4_method_5_code
def yX2_discardOldest : MethodName := ⟨RX2, "discardOldest", "()V"⟩
abbrev cX2_rowAt : ByteArray := prog_4_method_6_code
def yX2_rowAt : MethodName := ⟨RX2, "rowAt", "(I)LQuietChecks$Disk;"⟩
def RX3 : String := "QuietChecks$Log"
def TX3 : u_T := fun k => match k with
  | 0 => ("QuietChecks$Log", "ticks", "[I", true)
  | 1 => ("QuietChecks$Log", "kinds", "[I", true)
  | 2 => ("QuietChecks$Log", "spans", "[I", true)
  | 3 => ("QuietChecks$Log", "next", "I", false)
  | _ => ("QuietChecks$Log", "size", "I", false)
def tyX3 : Nat → FieldType := fun k => match k with
  | 0 => .array .int
  | 1 => .array .int
  | 2 => .array .int
  | 3 => .int
  | _ => .int
abbrev wsX30 : List Cond := u_ws RX3 TX3 5
theorem nmX3 : ∀ a, a < 5 → ∀ b, b < 5 → a ≠ b → (TX3 a).2.1 ≠ (TX3 b).2.1 := by decide +kernel
theorem tyX3_ok : ∀ k, k < 5 → parseFieldDescriptor (TX3 k).2.2.1 = some (tyX3 k) := by decide +kernel
abbrev cX3_init : ByteArray := prog_5_method_1_code
def yX3_init : MethodName := ⟨RX3, "<init>", "()V"⟩
abbrev cX3_copyFrom : ByteArray := prog_5_method_2_code
def yX3_copyFrom : MethodName := ⟨RX3, "copyFrom", "(LQuietChecks$Log;)V"⟩
abbrev cX3_append : ByteArray := prog_5_method_3_code
def yX3_append : MethodName := ⟨RX3, "append", "(III)V"⟩
abbrev cX3_has : ByteArray := prog_5_method_4_code
def yX3_has : MethodName := ⟨RX3, "has", "(I)Z"⟩
abbrev cX3_tickAt : ByteArray := prog_5_method_5_code
def yX3_tickAt : MethodName := ⟨RX3, "tickAt", "(I)I"⟩
abbrev cX3_kindAt : ByteArray := prog_5_method_6_code
def yX3_kindAt : MethodName := ⟨RX3, "kindAt", "(I)I"⟩
abbrev cX3_spanAt : ByteArray := prog_5_method_7_code
def yX3_spanAt : MethodName := ⟨RX3, "spanAt", "(I)I"⟩
abbrev cX3_placeOf : ByteArray := prog_5_method_8_code
def yX3_placeOf : MethodName := ⟨RX3, "placeOf", "(I)I"⟩
def RX4 : String := "QuietChecks$Plan"
def TX4 : u_T := fun k => match k with
  | 0 => ("QuietChecks$Plan", "text", "[C", true)
  | 1 => ("QuietChecks$Plan", "length", "I", false)
  | 2 => ("QuietChecks$Plan", "at", "I", false)
  | 3 => ("QuietChecks$Plan", "kinds", "[I", true)
  | 4 => ("QuietChecks$Plan", "firsts", "[I", true)
  | 5 => ("QuietChecks$Plan", "seconds", "[I", true)
  | 6 => ("QuietChecks$Plan", "commands", "I", false)
  | _ => ("QuietChecks$Plan", "value", "I", false)
def tyX4 : Nat → FieldType := fun k => match k with
  | 0 => .array .char
  | 1 => .int
  | 2 => .int
  | 3 => .array .int
  | 4 => .array .int
  | 5 => .array .int
  | 6 => .int
  | _ => .int
abbrev wsX40 : List Cond := u_ws RX4 TX4 8
theorem nmX4 : ∀ a, a < 8 → ∀ b, b < 8 → a ≠ b → (TX4 a).2.1 ≠ (TX4 b).2.1 := by decide +kernel
theorem tyX4_ok : ∀ k, k < 8 → parseFieldDescriptor (TX4 k).2.2.1 = some (tyX4 k) := by decide +kernel
abbrev cX4_init : ByteArray := prog_6_method_1_code
def yX4_init : MethodName := ⟨RX4, "<init>", "()V"⟩
def RX5 : String := "QuietChecks$Spots"
def TX5 : u_T := fun k => match k with
  | 0 => ("QuietChecks$Spots", "spans", "[I", true)
  | 1 => ("QuietChecks$Spots", "tries", "[I", true)
  | _ => ("QuietChecks$Spots", "size", "I", false)
def tyX5 : Nat → FieldType := fun k => match k with
  | 0 => .array .int
  | 1 => .array .int
  | _ => .int
abbrev wsX50 : List Cond := u_ws RX5 TX5 3
theorem nmX5 : ∀ a, a < 3 → ∀ b, b < 3 → a ≠ b → (TX5 a).2.1 ≠ (TX5 b).2.1 := by decide +kernel
theorem tyX5_ok : ∀ k, k < 3 → parseFieldDescriptor (TX5 k).2.2.1 = some (tyX5 k) := by decide +kernel
abbrev cX5_init : ByteArray := prog_7_method_1_code
def yX5_init : MethodName := ⟨RX5, "<init>", "()V"⟩
abbrev cX5_copyFrom : ByteArray := prog_7_method_2_code
def yX5_copyFrom : MethodName := ⟨RX5, "copyFrom", "(LQuietChecks$Spots;)V"⟩
abbrev cX5_append : ByteArray := prog_7_method_3_code
def yX5_append : MethodName := ⟨RX5, "append", "(II)Z"⟩
abbrev cX5_sizeOf : ByteArray := prog_7_method_4_code
def yX5_sizeOf : MethodName := ⟨RX5, "sizeOf", "(I)I"⟩
abbrev cX5_sumOf : ByteArray := prog_7_method_5_code
def yX5_sumOf : MethodName := ⟨RX5, "sumOf", "(II)I"⟩
abbrev cX5_triesAt : ByteArray := prog_7_method_6_code
def yX5_triesAt : MethodName := ⟨RX5, "triesAt", "(II)I"⟩
abbrev cX5_hasWeak : ByteArray := prog_7_method_7_code
def yX5_hasWeak : MethodName := ⟨RX5, "hasWeak", "(II)Z"⟩
def RX6 : String := "QuietChecks"
def TX6 : u_T := fun k => match k with
  | 0 => ("QuietChecks", "disk", "LQuietChecks$Disk;", true)
  | 1 => ("QuietChecks", "trial", "LQuietChecks$Disk;", true)
  | 2 => ("QuietChecks", "history", "LQuietChecks$History;", true)
  | 3 => ("QuietChecks", "plan", "LQuietChecks$Plan;", true)
  | _ => ("QuietChecks", "line", "Ljava/lang/StringBuilder;", true)
def tyX6 : Nat → FieldType := fun k => match k with
  | 0 => .object "QuietChecks$Disk"
  | 1 => .object "QuietChecks$Disk"
  | 2 => .object "QuietChecks$History"
  | 3 => .object "QuietChecks$Plan"
  | _ => .object "java/lang/StringBuilder"
abbrev wsX60 : List Cond := u_ws RX6 TX6 5
theorem nmX6 : ∀ a, a < 5 → ∀ b, b < 5 → a ≠ b → (TX6 a).2.1 ≠ (TX6 b).2.1 := by decide +kernel
theorem tyX6_ok : ∀ k, k < 5 → parseFieldDescriptor (TX6 k).2.2.1 = some (tyX6 k) := by decide +kernel
abbrev cX6_init : ByteArray := prog_1_method_1_code
def yX6_init : MethodName := ⟨RX6, "<init>", "()V"⟩
abbrev cX6_set : ByteArray := prog_1_method_2_code
def yX6_set : MethodName := ⟨RX6, "set", "(II)I"⟩
abbrev cX6_setWay : ByteArray := prog_1_method_3_code
def yX6_setWay : MethodName := ⟨RX6, "setWay", "(I)I"⟩
abbrev cX6_addSpares : ByteArray := prog_1_method_4_code
def yX6_addSpares : MethodName := ⟨RX6, "addSpares", "(I)I"⟩
abbrev cX6_spot : ByteArray := prog_1_method_5_code
def yX6_spot : MethodName := ⟨RX6, "spot", "(II)I"⟩
abbrev cX6_ask : ByteArray := prog_1_method_6_code
def yX6_ask : MethodName := ⟨RX6, "ask", "(I)I"⟩
abbrev cX6_unask : ByteArray := prog_1_method_7_code
def yX6_unask : MethodName := ⟨RX6, "unask", "(I)I"⟩
abbrev cX6_read : ByteArray := prog_1_method_8_code
def yX6_read : MethodName := ⟨RX6, "read", "(II)I"⟩
abbrev cX6_quiet : ByteArray := prog_1_method_9_code
def yX6_quiet : MethodName := ⟨RX6, "quiet", "(I)I"⟩
abbrev cX6_giveUp : ByteArray := prog_1_method_10_code
def yX6_giveUp : MethodName := ⟨RX6, "giveUp", "()I"⟩
abbrev cX6_count : ByteArray := prog_1_method_11_code
def yX6_count : MethodName := ⟨RX6, "count", "(I)I"⟩
abbrev cX6_setting : ByteArray := prog_1_method_12_code
def yX6_setting : MethodName := ⟨RX6, "setting", "(I)I"⟩
abbrev cX6_span : ByteArray := prog_1_method_13_code
def yX6_span : MethodName := ⟨RX6, "span", "(II)I"⟩
abbrev cX6_tries : ByteArray := prog_1_method_14_code
def yX6_tries : MethodName := ⟨RX6, "tries", "(II)I"⟩
abbrev cX6_entries : ByteArray := prog_1_method_15_code
def yX6_entries : MethodName := ⟨RX6, "entries", "()I"⟩
abbrev cX6_entry : ByteArray := prog_1_method_16_code
def yX6_entry : MethodName := ⟨RX6, "entry", "(II)I"⟩
abbrev cX6_lineAt : ByteArray := prog_1_method_17_code
def yX6_lineAt : MethodName := ⟨RX6, "lineAt", "(II)I"⟩
abbrev cX6_overdue : ByteArray := prog_1_method_18_code
def yX6_overdue : MethodName := ⟨RX6, "overdue", "()I"⟩
abbrev cX6_nextCheck : ByteArray := prog_1_method_19_code
def yX6_nextCheck : MethodName := ⟨RX6, "nextCheck", "()I"⟩
abbrev cX6_checkedIn : ByteArray := prog_1_method_20_code
def yX6_checkedIn : MethodName := ⟨RX6, "checkedIn", "(I)I"⟩
abbrev cX6_ifQuiet : ByteArray := prog_1_method_21_code
def yX6_ifQuiet : MethodName := ⟨RX6, "ifQuiet", "(I)I"⟩
abbrev cX6_bestWay : ByteArray := prog_1_method_22_code
def yX6_bestWay : MethodName := ⟨RX6, "bestWay", "(I)I"⟩
abbrev cX6_writeLine : ByteArray := prog_1_method_31_code
def yX6_writeLine : MethodName := ⟨RX6, "writeLine", "(I)V"⟩
abbrev cX6_overdueAfter : ByteArray := prog_1_method_32_code
def yX6_overdueAfter : MethodName := ⟨RX6, "overdueAfter", "(II)I"⟩
abbrev cX6_isSpan : ByteArray := prog_1_method_34_code
def yX6_isSpan : MethodName := ⟨RX6, "isSpan", "(I)Z"⟩
abbrev cX6_isSetting : ByteArray := prog_1_method_35_code
def yX6_isSetting : MethodName := ⟨RX6, "isSetting", "(I)Z"⟩
abbrev cX6_wordOf : ByteArray := prog_1_method_36_code
def yX6_wordOf : MethodName := ⟨RX6, "wordOf", "(I)Ljava/lang/String;"⟩
def RX7 : String := "QuietChecksModel"
def TX7 : u_T := fun k => match k with
  | _ => ("", "", "", false)
def tyX7 : Nat → FieldType := fun k => match k with
  | _ => .int
abbrev wsX70 : List Cond := u_ws RX7 TX7 0
theorem nmX7 : ∀ a, a < 0 → ∀ b, b < 0 → a ≠ b → (TX7 a).2.1 ≠ (TX7 b).2.1 := by decide +kernel
theorem tyX7_ok : ∀ k, k < 0 → parseFieldDescriptor (TX7 k).2.2.1 = some (tyX7 k) := by decide +kernel
def RJ5 : String := "java/lang/AbstractStringBuilder"
def TJ5 : u_T := fun k => match k with
  | _ => ("", "", "", false)
def tyJ5 : Nat → FieldType := fun k => match k with
  | _ => .int
abbrev wsJ50 : List Cond := u_ws RJ5 TJ5 0
theorem nmJ5 : ∀ a, a < 0 → ∀ b, b < 0 → a ≠ b → (TJ5 a).2.1 ≠ (TJ5 b).2.1 := by decide +kernel
theorem tyJ5_ok : ∀ k, k < 0 → parseFieldDescriptor (TJ5 k).2.2.1 = some (tyJ5 k) := by decide +kernel
abbrev cJ5_init_d00df : ByteArray := prog_10_method_2_code
def yJ5_init_d00df : MethodName := ⟨RJ5, "<init>", "(I)V"⟩
abbrev cJ5_length_8abf5 : ByteArray := prog_10_method_6_code
def yJ5_length_8abf5 : MethodName := ⟨RJ5, "length", "()I"⟩
abbrev cJ5_ensureCapacityInternal_d00df : ByteArray := prog_10_method_9_code
def yJ5_ensureCapacityInternal_d00df : MethodName := ⟨RJ5, "ensureCapacityInternal", "(I)V"⟩
abbrev cJ5_newCapacity_0f7a4 : ByteArray := prog_10_method_10_code
def yJ5_newCapacity_0f7a4 : MethodName := ⟨RJ5, "newCapacity", "(I)I"⟩
abbrev cJ5_inflate_da8c8 : ByteArray := prog_10_method_11_code
def yJ5_inflate_da8c8 : MethodName := ⟨RJ5, "inflate", "()V"⟩
abbrev cJ5_setLength_d00df : ByteArray := prog_10_method_13_code
def yJ5_setLength_d00df : MethodName := ⟨RJ5, "setLength", "(I)V"⟩
abbrev cJ5_charAt_5068e : ByteArray := prog_10_method_14_code
def yJ5_charAt_5068e : MethodName := ⟨RJ5, "charAt", "(I)C"⟩
abbrev cJ5_append_cf1ce : ByteArray := prog_10_method_22_code
def yJ5_append_cf1ce : MethodName := ⟨RJ5, "append", "(Ljava/lang/String;)Ljava/lang/AbstractStringBuilder;"⟩
abbrev cJ5_appendNull_278bc : ByteArray := prog_10_method_26_code
def yJ5_appendNull_278bc : MethodName := ⟨RJ5, "appendNull", "()Ljava/lang/AbstractStringBuilder;"⟩
abbrev cJ5_append_3fe6f : ByteArray := prog_10_method_31_code
def yJ5_append_3fe6f : MethodName := ⟨RJ5, "append", "(C)Ljava/lang/AbstractStringBuilder;"⟩
abbrev cJ5_append_c97b9 : ByteArray := prog_10_method_32_code
def yJ5_append_c97b9 : MethodName := ⟨RJ5, "append", "(I)Ljava/lang/AbstractStringBuilder;"⟩
abbrev cJ5_isLatin1_aae02 : ByteArray := prog_10_method_68_code
def yJ5_isLatin1_aae02 : MethodName := ⟨RJ5, "isLatin1", "()Z"⟩
abbrev cJ5_inflateIfNeededFor_a7421 : ByteArray := prog_10_method_71_code
def yJ5_inflateIfNeededFor_a7421 : MethodName := ⟨RJ5, "inflateIfNeededFor", "(Ljava/lang/String;)V"⟩
abbrev cJ5_putStringAt_47b60 : ByteArray := prog_10_method_73_code
def yJ5_putStringAt_47b60 : MethodName := ⟨RJ5, "putStringAt", "(ILjava/lang/String;)V"⟩
def RJx8e188 : String := "java/lang/Cloneable"
def TJx8e188 : u_T := fun k => match k with
  | _ => ("", "", "", false)
def tyJx8e188 : Nat → FieldType := fun k => match k with
  | _ => .int
abbrev wsJx8e1880 : List Cond := u_ws RJx8e188 TJx8e188 0
theorem nmJx8e188 : ∀ a, a < 0 → ∀ b, b < 0 → a ≠ b → (TJx8e188 a).2.1 ≠ (TJx8e188 b).2.1 := by decide +kernel
theorem tyJx8e188_ok : ∀ k, k < 0 → parseFieldDescriptor (TJx8e188 k).2.2.1 = some (tyJx8e188 k) := by decide +kernel
def RJ6 : String := "java/lang/Integer"
def TJ6 : u_T := fun k => match k with
  | _ => ("", "", "", false)
def tyJ6 : Nat → FieldType := fun k => match k with
  | _ => .int
abbrev wsJ60 : List Cond := u_ws RJ6 TJ6 0
theorem nmJ6 : ∀ a, a < 0 → ∀ b, b < 0 → a ≠ b → (TJ6 a).2.1 ≠ (TJ6 b).2.1 := by decide +kernel
theorem tyJ6_ok : ∀ k, k < 0 → parseFieldDescriptor (TJ6 k).2.2.1 = some (tyJ6 k) := by decide +kernel
abbrev cJ6_getChars_ba4f3 : ByteArray := prog_12_method_12_code
def yJ6_getChars_ba4f3 : MethodName := ⟨RJ6, "getChars", "(II[B)I"⟩
abbrev cJ6_stringSize_0f7a4 : ByteArray := prog_12_method_13_code
def yJ6_stringSize_0f7a4 : MethodName := ⟨RJ6, "stringSize", "(I)I"⟩
def RJ9 : String := "java/lang/Math"
def TJ9 : u_T := fun k => match k with
  | _ => ("", "", "", false)
def tyJ9 : Nat → FieldType := fun k => match k with
  | _ => .int
abbrev wsJ90 : List Cond := u_ws RJ9 TJ9 0
theorem nmJ9 : ∀ a, a < 0 → ∀ b, b < 0 → a ≠ b → (TJ9 a).2.1 ≠ (TJ9 b).2.1 := by decide +kernel
theorem tyJ9_ok : ∀ k, k < 0 → parseFieldDescriptor (TJ9 k).2.2.1 = some (tyJ9 k) := by decide +kernel
abbrev cJ9_floorMod_7cf53 : ByteArray := prog_13_method_50_code
def yJ9_floorMod_7cf53 : MethodName := ⟨RJ9, "floorMod", "(II)I"⟩
abbrev cJ9_max_7cf53 : ByteArray := prog_13_method_65_code
def yJ9_max_7cf53 : MethodName := ⟨RJ9, "max", "(II)I"⟩
abbrev cJ9_min_7cf53 : ByteArray := prog_13_method_69_code
def yJ9_min_7cf53 : MethodName := ⟨RJ9, "min", "(II)I"⟩
def RJ0 : String := "java/lang/String"
def TJ0 : u_T := fun k => match k with
  | _ => ("", "", "", false)
def tyJ0 : Nat → FieldType := fun k => match k with
  | _ => .int
abbrev wsJ00 : List Cond := u_ws RJ0 TJ0 0
theorem nmJ0 : ∀ a, a < 0 → ∀ b, b < 0 → a ≠ b → (TJ0 a).2.1 ≠ (TJ0 b).2.1 := by decide +kernel
theorem tyJ0_ok : ∀ k, k < 0 → parseFieldDescriptor (TJ0 k).2.2.1 = some (tyJ0 k) := by decide +kernel
abbrev cJ0_length_8abf5 : ByteArray := prog_14_method_54_code
def yJ0_length_8abf5 : MethodName := ⟨RJ0, "length", "()I"⟩
abbrev cJ0_getBytes_840e7 : ByteArray := prog_14_method_147_code
def yJ0_getBytes_840e7 : MethodName := ⟨RJ0, "getBytes", "([BIB)V"⟩
abbrev cJ0_coder_7d493 : ByteArray := prog_14_method_152_code
def yJ0_coder_7d493 : MethodName := ⟨RJ0, "coder", "()B"⟩
abbrev cJ0_checkIndex_df160 : ByteArray := prog_14_method_155_code
def yJ0_checkIndex_df160 : MethodName := ⟨RJ0, "checkIndex", "(II)V"⟩
abbrev cJ0_checkBoundsOffCount_cabcc : ByteArray := prog_14_method_157_code
def yJ0_checkBoundsOffCount_cabcc : MethodName := ⟨RJ0, "checkBoundsOffCount", "(III)I"⟩
abbrev cJ0_checkBoundsBeginEnd_23922 : ByteArray := prog_14_method_158_code
def yJ0_checkBoundsBeginEnd_23922 : MethodName := ⟨RJ0, "checkBoundsBeginEnd", "(III)V"⟩
def RJ4 : String := "java/lang/StringBuilder"
def TJ4 : u_T := fun k => match k with
  | 0 => ("java/lang/AbstractStringBuilder", "value", "[B", false)
  | 1 => ("java/lang/AbstractStringBuilder", "coder", "B", false)
  | 2 => ("java/lang/AbstractStringBuilder", "maybeLatin1", "Z", false)
  | _ => ("java/lang/AbstractStringBuilder", "count", "I", false)
def tyJ4 : Nat → FieldType := fun k => match k with
  | 0 => .array .byte
  | 1 => .byte
  | 2 => .boolean
  | _ => .int
abbrev wsJ40 : List Cond := u_ws RJ4 TJ4 4
theorem nmJ4 : ∀ a, a < 4 → ∀ b, b < 4 → a ≠ b → (TJ4 a).2.1 ≠ (TJ4 b).2.1 := by decide +kernel
theorem tyJ4_ok : ∀ k, k < 4 → parseFieldDescriptor (TJ4 k).2.2.1 = some (tyJ4 k) := by decide +kernel
abbrev cJ4_init_da8c8 : ByteArray := prog_15_method_1_code
def yJ4_init_da8c8 : MethodName := ⟨RJ4, "<init>", "()V"⟩
abbrev cJ4_append_15ec4 : ByteArray := prog_15_method_7_code
def yJ4_append_15ec4 : MethodName := ⟨RJ4, "append", "(Ljava/lang/String;)Ljava/lang/StringBuilder;"⟩
abbrev cJ4_append_cf468 : ByteArray := prog_15_method_14_code
def yJ4_append_cf468 : MethodName := ⟨RJ4, "append", "(C)Ljava/lang/StringBuilder;"⟩
abbrev cJ4_append_bf812 : ByteArray := prog_15_method_15_code
def yJ4_append_bf812 : MethodName := ⟨RJ4, "append", "(I)Ljava/lang/StringBuilder;"⟩
abbrev cJ4_charAt_5068e : ByteArray := prog_15_method_88_code
def yJ4_charAt_5068e : MethodName := ⟨RJ4, "charAt", "(I)C"⟩
abbrev cJ4_setLength_d00df : ByteArray := prog_15_method_89_code
def yJ4_setLength_d00df : MethodName := ⟨RJ4, "setLength", "(I)V"⟩
abbrev cJ4_length_8abf5 : ByteArray := prog_15_method_93_code
def yJ4_length_8abf5 : MethodName := ⟨RJ4, "length", "()I"⟩
def RJ1 : String := "java/lang/StringLatin1"
def TJ1 : u_T := fun k => match k with
  | _ => ("", "", "", false)
def tyJ1 : Nat → FieldType := fun k => match k with
  | _ => .int
abbrev wsJ10 : List Cond := u_ws RJ1 TJ1 0
theorem nmJ1 : ∀ a, a < 0 → ∀ b, b < 0 → a ≠ b → (TJ1 a).2.1 ≠ (TJ1 b).2.1 := by decide +kernel
theorem tyJ1_ok : ∀ k, k < 0 → parseFieldDescriptor (TJ1 k).2.2.1 = some (tyJ1 k) := by decide +kernel
abbrev cJ1_canEncode_fc78d : ByteArray := prog_16_method_3_code
def yJ1_canEncode_fc78d : MethodName := ⟨RJ1, "canEncode", "(C)Z"⟩
abbrev cJ1_fillNull_b72d1 : ByteArray := prog_16_method_48_code
def yJ1_fillNull_b72d1 : MethodName := ⟨RJ1, "fillNull", "([BII)V"⟩
abbrev cJ1_inflate_0e8fd : ByteArray := prog_16_method_50_code
def yJ1_inflate_0e8fd : MethodName := ⟨RJ1, "inflate", "([BI[BII)V"⟩
def RJ2 : String := "java/lang/StringUTF16"
def TJ2 : u_T := fun k => match k with
  | _ => ("", "", "", false)
def tyJ2 : Nat → FieldType := fun k => match k with
  | _ => .int
abbrev wsJ20 : List Cond := u_ws RJ2 TJ2 0
theorem nmJ2 : ∀ a, a < 0 → ∀ b, b < 0 → a ≠ b → (TJ2 a).2.1 ≠ (TJ2 b).2.1 := by decide +kernel
theorem tyJ2_ok : ∀ k, k < 0 → parseFieldDescriptor (TJ2 k).2.2.1 = some (tyJ2 k) := by decide +kernel
abbrev cJ2_newBytesFor_77867 : ByteArray := prog_17_method_2_code
def yJ2_newBytesFor_77867 : MethodName := ⟨RJ2, "newBytesFor", "(I)[B"⟩
abbrev cJ2_newBytesLength_0f7a4 : ByteArray := prog_17_method_3_code
def yJ2_newBytesLength_0f7a4 : MethodName := ⟨RJ2, "newBytesLength", "(I)I"⟩
abbrev cJ2_putChar_b72d1 : ByteArray := prog_17_method_4_code
def yJ2_putChar_b72d1 : MethodName := ⟨RJ2, "putChar", "([BII)V"⟩
abbrev cJ2_getChar_3b067 : ByteArray := prog_17_method_5_code
def yJ2_getChar_3b067 : MethodName := ⟨RJ2, "getChar", "([BI)C"⟩
abbrev cJ2_length_9d52b : ByteArray := prog_17_method_6_code
def yJ2_length_9d52b : MethodName := ⟨RJ2, "length", "([B)I"⟩
abbrev cJ2_fillNull_b72d1 : ByteArray := prog_17_method_70_code
def yJ2_fillNull_b72d1 : MethodName := ⟨RJ2, "fillNull", "([BII)V"⟩
abbrev cJ2_putCharSB_b72d1 : ByteArray := prog_17_method_71_code
def yJ2_putCharSB_b72d1 : MethodName := ⟨RJ2, "putCharSB", "([BII)V"⟩
abbrev cJ2_getChars_46870 : ByteArray := prog_17_method_77_code
def yJ2_getChars_46870 : MethodName := ⟨RJ2, "getChars", "(III[B)I"⟩
abbrev cJ2_putCharsAt_cd4e5 : ByteArray := prog_17_method_81_code
def yJ2_putCharsAt_cd4e5 : MethodName := ⟨RJ2, "putCharsAt", "([BICCCC)I"⟩
abbrev cJ2_inflate_0e8fd : ByteArray := prog_17_method_86_code
def yJ2_inflate_0e8fd : MethodName := ⟨RJ2, "inflate", "([BI[BII)V"⟩
abbrev cJ2_getChars_ba4f3 : ByteArray := prog_17_method_89_code
def yJ2_getChars_ba4f3 : MethodName := ⟨RJ2, "getChars", "(II[B)I"⟩
abbrev cJ2_checkIndex_2214a : ByteArray := prog_17_method_91_code
def yJ2_checkIndex_2214a : MethodName := ⟨RJ2, "checkIndex", "(I[B)V"⟩
abbrev cJ2_checkBoundsBeginEnd_d044e : ByteArray := prog_17_method_93_code
def yJ2_checkBoundsBeginEnd_d044e : MethodName := ⟨RJ2, "checkBoundsBeginEnd", "(II[B)V"⟩
abbrev cJ2_checkBoundsOffCount_d044e : ByteArray := prog_17_method_94_code
def yJ2_checkBoundsOffCount_d044e : MethodName := ⟨RJ2, "checkBoundsOffCount", "(II[B)V"⟩
def RJ10 : String := "java/lang/System"
def TJ10 : u_T := fun k => match k with
  | _ => ("", "", "", false)
def tyJ10 : Nat → FieldType := fun k => match k with
  | _ => .int
abbrev wsJ100 : List Cond := u_ws RJ10 TJ10 0
theorem nmJ10 : ∀ a, a < 0 → ∀ b, b < 0 → a ≠ b → (TJ10 a).2.1 ≠ (TJ10 b).2.1 := by decide +kernel
theorem tyJ10_ok : ∀ k, k < 0 → parseFieldDescriptor (TJ10 k).2.2.1 = some (tyJ10 k) := by decide +kernel
def RJ7 : String := "java/util/Arrays"
def TJ7 : u_T := fun k => match k with
  | _ => ("", "", "", false)
def tyJ7 : Nat → FieldType := fun k => match k with
  | _ => .int
abbrev wsJ70 : List Cond := u_ws RJ7 TJ7 0
theorem nmJ7 : ∀ a, a < 0 → ∀ b, b < 0 → a ≠ b → (TJ7 a).2.1 ≠ (TJ7 b).2.1 := by decide +kernel
theorem tyJ7_ok : ∀ k, k < 0 → parseFieldDescriptor (TJ7 k).2.2.1 = some (tyJ7 k) := by decide +kernel
abbrev cJ7_rangeCheck_23922 : ByteArray := prog_19_method_30_code
def yJ7_rangeCheck_23922 : MethodName := ⟨RJ7, "rangeCheck", "(III)V"⟩
abbrev cJ7_fill_eb02e : ByteArray := prog_19_method_110_code
def yJ7_fill_eb02e : MethodName := ⟨RJ7, "fill", "([BIIB)V"⟩
abbrev cJ7_copyOf_9075b : ByteArray := prog_19_method_121_code
def yJ7_copyOf_9075b : MethodName := ⟨RJ7, "copyOf", "([BI)[B"⟩
def RJ8 : String := "jdk/internal/util/ArraysSupport"
def TJ8 : u_T := fun k => match k with
  | _ => ("", "", "", false)
def tyJ8 : Nat → FieldType := fun k => match k with
  | _ => .int
abbrev wsJ80 : List Cond := u_ws RJ8 TJ8 0
theorem nmJ8 : ∀ a, a < 0 → ∀ b, b < 0 → a ≠ b → (TJ8 a).2.1 ≠ (TJ8 b).2.1 := by decide +kernel
theorem tyJ8_ok : ∀ k, k < 0 → parseFieldDescriptor (TJ8 k).2.2.1 = some (tyJ8 k) := by decide +kernel
abbrev cJ8_newLength_cabcc : ByteArray := prog_20_method_27_code
def yJ8_newLength_cabcc : MethodName := ⟨RJ8, "newLength", "(III)I"⟩
abbrev cJ8_hugeLength_7cf53 : ByteArray := prog_20_method_28_code
def yJ8_hugeLength_7cf53 : MethodName := ⟨RJ8, "hugeLength", "(II)I"⟩
def RJ3 : String := "jdk/internal/util/Preconditions"
def TJ3 : u_T := fun k => match k with
  | _ => ("", "", "", false)
def tyJ3 : Nat → FieldType := fun k => match k with
  | _ => .int
abbrev wsJ30 : List Cond := u_ws RJ3 TJ3 0
theorem nmJ3 : ∀ a, a < 0 → ∀ b, b < 0 → a ≠ b → (TJ3 a).2.1 ≠ (TJ3 b).2.1 := by decide +kernel
theorem tyJ3_ok : ∀ k, k < 0 → parseFieldDescriptor (TJ3 k).2.2.1 = some (tyJ3 k) := by decide +kernel
abbrev cJ3_checkIndex_8e157 : ByteArray := prog_21_method_11_code
def yJ3_checkIndex_8e157 : MethodName := ⟨RJ3, "checkIndex", "(IILjava/util/function/BiFunction;)I"⟩
abbrev cJ3_checkFromToIndex_8c36e : ByteArray := prog_21_method_12_code
def yJ3_checkFromToIndex_8c36e : MethodName := ⟨RJ3, "checkFromToIndex", "(IIILjava/util/function/BiFunction;)I"⟩
abbrev cJ3_checkFromIndexSize_8c36e : ByteArray := prog_21_method_13_code
def yJ3_checkFromIndexSize_8c36e : MethodName := ⟨RJ3, "checkFromIndexSize", "(IIILjava/util/function/BiFunction;)I"⟩
def RL : String := "QuietChecksLaw"
abbrev cL_cell : ByteArray := method_2_code
def yL_cell : MethodName := ⟨RL, "cell", "([II)I"⟩
abbrev cL_low : ByteArray := method_3_code
def yL_low : MethodName := ⟨RL, "low", "(II)I"⟩
abbrev cL_log : ByteArray := method_4_code
def yL_log : MethodName := ⟨RL, "log", "(II[I[I)V"⟩
abbrev cL_sum : ByteArray := method_5_code
def yL_sum : MethodName := ⟨RL, "sum", "(II[I[I)I"⟩
abbrev cL_place : ByteArray := method_6_code
def yL_place : MethodName := ⟨RL, "place", "(I[I[I)I"⟩
abbrev cL_next : ByteArray := method_7_code
def yL_next : MethodName := ⟨RL, "next", "([I[I[I[I)I"⟩
abbrev cL_drop : ByteArray := method_8_code
def yL_drop : MethodName := ⟨RL, "drop", "(I[I[I)V"⟩
abbrev cL_tick : ByteArray := method_9_code
def yL_tick : MethodName := ⟨RL, "tick", "([I[I[I[I[I)I"⟩
abbrev cL_late : ByteArray := method_10_code
def yL_late : MethodName := ⟨RL, "late", "([I[I)I"⟩
abbrev cL_then : ByteArray := method_11_code
def yL_then : MethodName := ⟨RL, "then", "(III[I[I[I[I)I"⟩
abbrev cL_letter : ByteArray := method_12_code
def yL_letter : MethodName := ⟨RL, "letter", "(II)I"⟩
abbrev cL_same : ByteArray := method_13_code
def yL_same : MethodName := ⟨RL, "same", "(LQuietChecks;I[I[I[I[I[I)Z"⟩
abbrev cL_law : ByteArray := code
def yL_law : MethodName := ⟨RL, "law", "([I)Z"⟩
def wsL_law_r1 : List Cond := [Cond.classLink RL 51 RX6, Cond.instantiable RX6 5, Cond.initialized RX6, Cond.arrayClass .int, Cond.methodLink RL 105 yX6_init, Cond.instanceMethod yX6_init, Cond.code yX6_init cX6_init 1 none, Cond.methodLink RX6 1 objectInit, Cond.instanceMethod objectInit, Cond.code objectInit ⟨#[0xb1]⟩ 1 none, Cond.classLink RX6 7 RX1, Cond.instantiable RX1 17, Cond.initialized RX1, Cond.fieldLink RX6 10 "QuietChecks" "disk" "LQuietChecks$Disk;", Cond.fieldLink RX6 16 "QuietChecks" "trial" "LQuietChecks$Disk;", Cond.classLink RX6 19 RX2, Cond.instantiable RX2 2, Cond.initialized RX2, Cond.fieldLink RX6 22 "QuietChecks" "history" "LQuietChecks$History;", Cond.classLink RX6 26 RX4, Cond.instantiable RX4 8, Cond.initialized RX4, Cond.fieldLink RX6 29 "QuietChecks" "plan" "LQuietChecks$Plan;", Cond.classLink RX6 33 RJ4]
def wsL_law_r2 : List Cond := [Cond.instantiable RJ4 4, Cond.initialized RJ4, Cond.fieldLink RX6 36 "QuietChecks" "line" "Ljava/lang/StringBuilder;", Cond.methodLink RX6 9 yX1_init, Cond.instanceMethod yX1_init, Cond.code yX1_init cX1_init 1 none, Cond.methodLink RX1 3 objectInit, Cond.fieldLink RX1 9 "QuietChecks$Disk" "settings" "[I", Cond.fieldLink RX1 15 "QuietChecks$Disk" "stamps" "[I", Cond.classLink RX1 18 RX5, Cond.instantiable RX5 3, Cond.initialized RX5, Cond.fieldLink RX1 21 "QuietChecks$Disk" "spots" "LQuietChecks$Spots;", Cond.classLink RX1 25 RX0, Cond.instantiable RX0 2, Cond.initialized RX0, Cond.fieldLink RX1 28 "QuietChecks$Disk" "asked" "LQuietChecks$Asked;", Cond.classLink RX1 32 RX3, Cond.instantiable RX3 5, Cond.initialized RX3, Cond.fieldLink RX1 35 "QuietChecks$Disk" "log" "LQuietChecks$Log;", Cond.fieldLink RX1 39 "QuietChecks$Disk" "way" "I", Cond.fieldLink RX1 43 "QuietChecks$Disk" "spares" "I", Cond.fieldLink RX1 46 "QuietChecks$Disk" "tick" "I"]
def wsL_law_r3 : List Cond := [Cond.fieldLink RX1 49 "QuietChecks$Disk" "quietTicks" "I", Cond.fieldLink RX1 52 "QuietChecks$Disk" "checkSpan" "I", Cond.fieldLink RX1 55 "QuietChecks$Disk" "checkDone" "I", Cond.fieldLink RX1 58 "QuietChecks$Disk" "checkTicks" "I", Cond.fieldLink RX1 61 "QuietChecks$Disk" "rowStart" "I", Cond.fieldLink RX1 64 "QuietChecks$Disk" "ended" "I", Cond.fieldLink RX1 67 "QuietChecks$Disk" "pauses" "I", Cond.fieldLink RX1 70 "QuietChecks$Disk" "replaced" "I", Cond.fieldLink RX1 73 "QuietChecks$Disk" "slowReads" "I", Cond.methodLink RX1 79 arraycopyName, Cond.native arraycopyName, Cond.static arraycopyName, Cond.initialized "java/lang/System", Cond.instanceMethod yX5_init, Cond.code yX5_init cX5_init 1 none, Cond.methodLink RX5 3 objectInit, Cond.fieldLink RX5 9 "QuietChecks$Spots" "spans" "[I", Cond.fieldLink RX5 15 "QuietChecks$Spots" "tries" "[I", Cond.fieldLink RX5 18 "QuietChecks$Spots" "size" "I", Cond.instanceMethod yX0_init, Cond.code yX0_init cX0_init 1 none, Cond.methodLink RX0 3 objectInit, Cond.fieldLink RX0 9 "QuietChecks$Asked" "spans" "[I", Cond.fieldLink RX0 15 "QuietChecks$Asked" "size" "I"]
def wsL_law_r4 : List Cond := [Cond.instanceMethod yX3_init, Cond.code yX3_init cX3_init 1 none, Cond.methodLink RX3 3 objectInit, Cond.fieldLink RX3 9 "QuietChecks$Log" "ticks" "[I", Cond.fieldLink RX3 15 "QuietChecks$Log" "kinds" "[I", Cond.fieldLink RX3 18 "QuietChecks$Log" "spans" "[I", Cond.fieldLink RX3 21 "QuietChecks$Log" "next" "I", Cond.fieldLink RX3 25 "QuietChecks$Log" "size" "I", Cond.methodLink RX6 21 yX2_init, Cond.instanceMethod yX2_init, Cond.code yX2_init cX2_init 2 none, Cond.methodLink RX2 3 objectInit, Cond.classLink RX2 9 RX1, Cond.fieldLink RX2 11 "QuietChecks$History" "rows" "[LQuietChecks$Disk;", Cond.fieldLink RX2 17 "QuietChecks$History" "size" "I", Cond.methodLink RX2 21 yX1_init, Cond.instanceMethod yX4_init, Cond.code yX4_init cX4_init 1 none, Cond.methodLink RX4 3 objectInit, Cond.arrayClass .char, Cond.fieldLink RX4 9 "QuietChecks$Plan" "text" "[C", Cond.fieldLink RX4 15 "QuietChecks$Plan" "length" "I", Cond.fieldLink RX4 19 "QuietChecks$Plan" "at" "I", Cond.fieldLink RX4 22 "QuietChecks$Plan" "kinds" "[I"]
def wsL_law_r5 : List Cond := [Cond.fieldLink RX4 26 "QuietChecks$Plan" "firsts" "[I", Cond.fieldLink RX4 29 "QuietChecks$Plan" "seconds" "[I", Cond.fieldLink RX4 32 "QuietChecks$Plan" "commands" "I", Cond.fieldLink RX4 35 "QuietChecks$Plan" "value" "I", Cond.methodLink RX6 35 yJ4_init_da8c8, Cond.instanceMethod yJ4_init_da8c8, Cond.code yJ4_init_da8c8 cJ4_init_da8c8 1 none, Cond.methodLink RJ4 1 yJ5_init_d00df, Cond.instanceMethod yJ5_init_d00df, Cond.initialized RJ5, Cond.code yJ5_init_d00df cJ5_init_d00df 2 none, Cond.methodLink RJ5 3 objectInit, Cond.fieldLink RJ5 18 "java/lang/String" "COMPACT_STRINGS" "Z", Cond.arrayClass .byte, Cond.fieldLink RJ5 15 "java/lang/AbstractStringBuilder" "value" "[B", Cond.fieldLink RJ5 22 "java/lang/AbstractStringBuilder" "coder" "B", Cond.methodLink RJ5 26 yJ2_newBytesFor_77867, Cond.static yJ2_newBytesFor_77867, Cond.initialized RJ2, Cond.code yJ2_newBytesFor_77867 cJ2_newBytesFor_77867 1 (some (.array .byte)), Cond.methodLink RJ2 11 yJ2_newBytesLength_0f7a4, Cond.static yJ2_newBytesLength_0f7a4, Cond.code yJ2_newBytesLength_0f7a4 cJ2_newBytesLength_0f7a4 1 (some .int), Cond.constant RJ2 20 (1073741823)]
def wsL_law_r6 : List Cond := [Cond.methodLink RL 106 yL_cell, Cond.static yL_cell, Cond.initialized RL, Cond.code yL_cell cL_cell 2 (some .int), Cond.constant RL 7 (1000308051), Cond.constant RL 8 (784918177), Cond.methodLink RL 89 yL_low, Cond.static yL_low, Cond.code yL_low cL_low 2 (some .int), Cond.constant RL 9 (2147483647), Cond.methodLink RL 110 yX6_spot, Cond.instanceMethod yX6_spot, Cond.selects RX6 yX6_spot yX6_spot, Cond.code yX6_spot cX6_spot 3 (some .int), Cond.methodLink RX6 40 yX2_draft, Cond.instanceMethod yX2_draft, Cond.selects RX2 yX2_draft yX2_draft, Cond.code yX2_draft cX2_draft 3 none, Cond.methodLink RX2 22 yX2_rowAt, Cond.instanceMethod yX2_rowAt, Cond.selects RX2 yX2_rowAt yX2_rowAt, Cond.code yX2_rowAt cX2_rowAt 2 (some (.object "QuietChecks$Disk")), Cond.methodLink RX2 26 yX1_copyFrom, Cond.instanceMethod yX1_copyFrom]
def wsL_law_r7 : List Cond := [Cond.selects RX1 yX1_copyFrom yX1_copyFrom, Cond.code yX1_copyFrom cX1_copyFrom 2 none, Cond.methodLink RX1 85 yX5_copyFrom, Cond.instanceMethod yX5_copyFrom, Cond.selects RX5 yX5_copyFrom yX5_copyFrom, Cond.code yX5_copyFrom cX5_copyFrom 2 none, Cond.methodLink RX5 22 arraycopyName, Cond.methodLink RX1 89 yX0_copyFrom, Cond.instanceMethod yX0_copyFrom, Cond.selects RX0 yX0_copyFrom yX0_copyFrom, Cond.code yX0_copyFrom cX0_copyFrom 2 none, Cond.methodLink RX0 19 arraycopyName, Cond.methodLink RX1 92 yX3_copyFrom, Cond.instanceMethod yX3_copyFrom, Cond.selects RX3 yX3_copyFrom yX3_copyFrom, Cond.code yX3_copyFrom cX3_copyFrom 2 none, Cond.methodLink RX3 28 arraycopyName, Cond.methodLink RX6 58 yX1_takeSpot, Cond.instanceMethod yX1_takeSpot, Cond.selects RX1 yX1_takeSpot yX1_takeSpot, Cond.code yX1_takeSpot cX1_takeSpot 3 (some .int), Cond.static yX6_isSpan, Cond.code yX6_isSpan cX6_isSpan 1 (some .boolean), Cond.methodLink RX1 108 yX5_append]
def wsL_law_r8 : List Cond := [Cond.instanceMethod yX5_append, Cond.selects RX5 yX5_append yX5_append, Cond.code yX5_append cX5_append 3 (some .boolean), Cond.methodLink RX1 112 yX5_sizeOf, Cond.instanceMethod yX5_sizeOf, Cond.selects RX5 yX5_sizeOf yX5_sizeOf, Cond.code yX5_sizeOf cX5_sizeOf 4 (some .int), Cond.methodLink RX6 48 yX2_keep, Cond.instanceMethod yX2_keep, Cond.selects RX2 yX2_keep yX2_keep, Cond.code yX2_keep cX2_keep 2 (some .int), Cond.methodLink RX2 30 yX2_discardOldest, Cond.instanceMethod yX2_discardOldest, Cond.selects RX2 yX2_discardOldest yX2_discardOldest, Cond.code yX2_discardOldest cX2_discardOldest 3 none, Cond.methodLink RL 66 yL_place, Cond.static yL_place, Cond.code yL_place cL_place 4 (some .int), Cond.methodLink RL 113 yX6_ask, Cond.instanceMethod yX6_ask, Cond.selects RX6 yX6_ask yX6_ask, Cond.code yX6_ask cX6_ask 2 (some .int), Cond.methodLink RX6 61 yX1_askByHand, Cond.instanceMethod yX1_askByHand]
def wsL_law_r9 : List Cond := [Cond.selects RX1 yX1_askByHand yX1_askByHand, Cond.code yX1_askByHand cX1_askByHand 2 (some .int), Cond.methodLink RX1 116 yX0_placeOf, Cond.instanceMethod yX0_placeOf, Cond.selects RX0 yX0_placeOf yX0_placeOf, Cond.code yX0_placeOf cX0_placeOf 3 (some .int), Cond.methodLink RX1 119 yX0_append, Cond.instanceMethod yX0_append, Cond.selects RX0 yX0_append yX0_append, Cond.code yX0_append cX0_append 2 (some .boolean), Cond.methodLink RL 20 yL_drop, Cond.static yL_drop, Cond.code yL_drop cL_drop 4 none, Cond.methodLink RL 116 yX6_unask, Cond.instanceMethod yX6_unask, Cond.selects RX6 yX6_unask yX6_unask, Cond.code yX6_unask cX6_unask 2 (some .int), Cond.methodLink RX6 64 yX1_withdraw, Cond.instanceMethod yX1_withdraw, Cond.selects RX1 yX1_withdraw yX1_withdraw, Cond.code yX1_withdraw cX1_withdraw 2 (some .int), Cond.methodLink RX1 124 yX0_drop, Cond.instanceMethod yX0_drop, Cond.selects RX0 yX0_drop yX0_drop]
def wsL_law_r10 : List Cond := [Cond.code yX0_drop cX0_drop 4 (some .boolean), Cond.methodLink RX0 25 yX0_placeOf, Cond.methodLink RL 24 yL_log, Cond.static yL_log, Cond.code yL_log cL_log 5 none, Cond.methodLink RL 119 yX6_read, Cond.instanceMethod yX6_read, Cond.selects RX6 yX6_read yX6_read, Cond.code yX6_read cX6_read 3 (some .int), Cond.methodLink RX6 67 yX1_hostReads, Cond.instanceMethod yX1_hostReads, Cond.selects RX1 yX1_hostReads yX1_hostReads, Cond.code yX1_hostReads cX1_hostReads 3 (some .int), Cond.constant RX1 127 (99999), Cond.methodLink RX1 128 yX1_pauseCheck, Cond.instanceMethod yX1_pauseCheck, Cond.selects RX1 yX1_pauseCheck yX1_pauseCheck, Cond.code yX1_pauseCheck cX1_pauseCheck 1 none, Cond.methodLink RX1 176 Lib.Math.max.name, Cond.static Lib.Math.max.name, Cond.initialized "java/lang/Math", Cond.code Lib.Math.max.name Lib.Math.max.code 2 (some .int), Cond.methodLink RX1 134 yX3_append, Cond.instanceMethod yX3_append]
def wsL_law_r11 : List Cond := [Cond.selects RX3 yX3_append yX3_append, Cond.code yX3_append cX3_append 4 none, Cond.methodLink RX1 131 yX5_hasWeak, Cond.instanceMethod yX5_hasWeak, Cond.selects RX5 yX5_hasWeak yX5_hasWeak, Cond.code yX5_hasWeak cX5_hasWeak 4 (some .boolean), Cond.methodLink RX1 137 yX1_askByHand, Cond.methodLink RL 28 yL_tick, Cond.static yL_tick, Cond.code yL_tick cL_tick 8 (some .int), Cond.methodLink RL 16 yL_next, Cond.static yL_next, Cond.code yL_next cL_next 9 (some .int), Cond.methodLink RL 10 yL_sum, Cond.static yL_sum, Cond.code yL_sum cL_sum 6 (some .int), Cond.methodLink RL 122 yX6_quiet, Cond.instanceMethod yX6_quiet, Cond.selects RX6 yX6_quiet yX6_quiet, Cond.code yX6_quiet cX6_quiet 2 (some .int), Cond.methodLink RX6 70 yX1_passQuietTicks, Cond.instanceMethod yX1_passQuietTicks, Cond.selects RX1 yX1_passQuietTicks yX1_passQuietTicks, Cond.code yX1_passQuietTicks cX1_passQuietTicks 4 (some .int)]
def wsL_law_r12 : List Cond := [Cond.methodLink RX1 140 yX1_passQuietTick, Cond.instanceMethod yX1_passQuietTick, Cond.selects RX1 yX1_passQuietTick yX1_passQuietTick, Cond.code yX1_passQuietTick cX1_passQuietTick 2 (some .int), Cond.methodLink RX1 144 yX1_chooseSpan, Cond.instanceMethod yX1_chooseSpan, Cond.selects RX1 yX1_chooseSpan yX1_chooseSpan, Cond.code yX1_chooseSpan cX1_chooseSpan 6 (some .int), Cond.methodLink RX1 160 yX1_isDue, Cond.instanceMethod yX1_isDue, Cond.selects RX1 yX1_isDue yX1_isDue, Cond.code yX1_isDue cX1_isDue 2 (some .boolean), Cond.methodLink RX1 166 yX1_ageOf, Cond.instanceMethod yX1_ageOf, Cond.selects RX1 yX1_ageOf yX1_ageOf, Cond.code yX1_ageOf cX1_ageOf 2 (some .int), Cond.methodLink RX1 163 yX1_rankOf, Cond.instanceMethod yX1_rankOf, Cond.selects RX1 yX1_rankOf yX1_rankOf, Cond.code yX1_rankOf cX1_rankOf 2 (some .int), Cond.methodLink RX1 169 yX5_sumOf, Cond.instanceMethod yX5_sumOf, Cond.selects RX5 yX5_sumOf yX5_sumOf, Cond.code yX5_sumOf cX5_sumOf 5 (some .int)]
def wsL_law_r13 : List Cond := [Cond.methodLink RX5 28 Lib.Math.min.name, Cond.static Lib.Math.min.name, Cond.code Lib.Math.min.name Lib.Math.min.code 2 (some .int), Cond.methodLink RX1 147 yX1_beginCheck, Cond.instanceMethod yX1_beginCheck, Cond.selects RX1 yX1_beginCheck yX1_beginCheck, Cond.code yX1_beginCheck cX1_beginCheck 2 none, Cond.methodLink RX1 173 yX1_ticksOfCheck, Cond.instanceMethod yX1_ticksOfCheck, Cond.selects RX1 yX1_ticksOfCheck yX1_ticksOfCheck, Cond.code yX1_ticksOfCheck cX1_ticksOfCheck 2 (some .int), Cond.methodLink RX1 151 yX1_endCheck, Cond.instanceMethod yX1_endCheck, Cond.selects RX1 yX1_endCheck yX1_endCheck, Cond.code yX1_endCheck cX1_endCheck 4 none, Cond.methodLink RX1 154 yX1_clearCheck, Cond.instanceMethod yX1_clearCheck, Cond.selects RX1 yX1_clearCheck yX1_clearCheck, Cond.code yX1_clearCheck cX1_clearCheck 1 none, Cond.methodLink RX1 186 yX1_lookAtSpot, Cond.instanceMethod yX1_lookAtSpot, Cond.selects RX1 yX1_lookAtSpot yX1_lookAtSpot, Cond.code yX1_lookAtSpot cX1_lookAtSpot 4 none, Cond.methodLink RL 125 yX6_giveUp]
def wsL_law_r14 : List Cond := [Cond.instanceMethod yX6_giveUp, Cond.selects RX6 yX6_giveUp yX6_giveUp, Cond.code yX6_giveUp cX6_giveUp 1 (some .int), Cond.methodLink RX6 73 yX1_dropCheck, Cond.instanceMethod yX1_dropCheck, Cond.selects RX1 yX1_dropCheck yX1_dropCheck, Cond.code yX1_dropCheck cX1_dropCheck 2 (some .int), Cond.methodLink RL 128 yX6_setWay, Cond.instanceMethod yX6_setWay, Cond.selects RX6 yX6_setWay yX6_setWay, Cond.code yX6_setWay cX6_setWay 2 (some .int), Cond.methodLink RX6 52 yX1_changeWay, Cond.instanceMethod yX1_changeWay, Cond.selects RX1 yX1_changeWay yX1_changeWay, Cond.code yX1_changeWay cX1_changeWay 3 (some .int), Cond.methodLink RL 131 yX6_addSpares, Cond.instanceMethod yX6_addSpares, Cond.selects RX6 yX6_addSpares yX6_addSpares, Cond.code yX6_addSpares cX6_addSpares 2 (some .int), Cond.methodLink RX6 55 yX1_takeSpares, Cond.instanceMethod yX1_takeSpares, Cond.selects RX1 yX1_takeSpares yX1_takeSpares, Cond.code yX1_takeSpares cX1_takeSpares 2 (some .int), Cond.methodLink RL 134 yX6_set]
def wsL_law_r15 : List Cond := [Cond.instanceMethod yX6_set, Cond.selects RX6 yX6_set yX6_set, Cond.code yX6_set cX6_set 3 (some .int), Cond.methodLink RX6 44 yX1_changeSetting, Cond.instanceMethod yX1_changeSetting, Cond.selects RX1 yX1_changeSetting yX1_changeSetting, Cond.code yX1_changeSetting cX1_changeSetting 4 (some .int), Cond.static yX6_isSetting, Cond.code yX6_isSetting cX6_isSetting 1 (some .boolean), Cond.methodLink RL 137 yL_same, Cond.static yL_same, Cond.code yL_same cL_same 14 (some .boolean), Cond.methodLink RL 50 yX6_count, Cond.instanceMethod yX6_count, Cond.selects RX6 yX6_count yX6_count, Cond.code yX6_count cX6_count 2 (some .int), Cond.methodLink RX6 77 yX1_numberOfDisk, Cond.instanceMethod yX1_numberOfDisk, Cond.selects RX1 yX1_numberOfDisk yX1_numberOfDisk, Cond.code yX1_numberOfDisk cX1_numberOfDisk 2 (some .int), Cond.methodLink RL 56 yX6_setting, Cond.instanceMethod yX6_setting, Cond.selects RX6 yX6_setting yX6_setting, Cond.code yX6_setting cX6_setting 2 (some .int)]
def wsL_law_r16 : List Cond := [Cond.methodLink RX6 80 yX6_isSetting, Cond.methodLink RL 59 yX6_tries, Cond.instanceMethod yX6_tries, Cond.selects RX6 yX6_tries yX6_tries, Cond.code yX6_tries cX6_tries 3 (some .int), Cond.methodLink RX6 88 yX6_isSpan, Cond.methodLink RX6 98 yX5_triesAt, Cond.instanceMethod yX5_triesAt, Cond.selects RX5 yX5_triesAt yX5_triesAt, Cond.code yX5_triesAt cX5_triesAt 5 (some .int), Cond.methodLink RL 63 yX6_span, Cond.instanceMethod yX6_span, Cond.selects RX6 yX6_span yX6_span, Cond.code yX6_span cX6_span 3 (some .int), Cond.methodLink RX6 91 yX1_numberOfSpan, Cond.instanceMethod yX1_numberOfSpan, Cond.selects RX1 yX1_numberOfSpan yX1_numberOfSpan, Cond.code yX1_numberOfSpan cX1_numberOfSpan 3 (some .int), Cond.methodLink RX1 189 yX1_isOverdue, Cond.instanceMethod yX1_isOverdue, Cond.selects RX1 yX1_isOverdue yX1_isOverdue, Cond.code yX1_isOverdue cX1_isOverdue 2 (some .boolean), Cond.methodLink RL 70 yX6_entries, Cond.instanceMethod yX6_entries]
def wsL_law_r17 : List Cond := [Cond.selects RX6 yX6_entries yX6_entries, Cond.code yX6_entries cX6_entries 1 (some .int), Cond.methodLink RL 74 yX6_overdue, Cond.instanceMethod yX6_overdue, Cond.selects RX6 yX6_overdue yX6_overdue, Cond.code yX6_overdue cX6_overdue 1 (some .int), Cond.methodLink RX6 136 yX1_overdueSpans, Cond.instanceMethod yX1_overdueSpans, Cond.selects RX1 yX1_overdueSpans yX1_overdueSpans, Cond.code yX1_overdueSpans cX1_overdueSpans 3 (some .int), Cond.methodLink RL 32 yL_late, Cond.static yL_late, Cond.code yL_late cL_late 4 (some .int), Cond.methodLink RL 77 yX6_nextCheck, Cond.instanceMethod yX6_nextCheck, Cond.selects RX6 yX6_nextCheck yX6_nextCheck, Cond.code yX6_nextCheck cX6_nextCheck 1 (some .int), Cond.methodLink RX6 139 yX1_chooseSpan, Cond.methodLink RL 80 yX6_entry, Cond.instanceMethod yX6_entry, Cond.selects RX6 yX6_entry yX6_entry, Cond.code yX6_entry cX6_entry 3 (some .int), Cond.methodLink RX6 113 yX3_has, Cond.instanceMethod yX3_has]
def wsL_law_r18 : List Cond := [Cond.selects RX3 yX3_has yX3_has, Cond.code yX3_has cX3_has 2 (some .boolean), Cond.methodLink RX6 116 yX3_tickAt, Cond.instanceMethod yX3_tickAt, Cond.selects RX3 yX3_tickAt yX3_tickAt, Cond.code yX3_tickAt cX3_tickAt 2 (some .int), Cond.methodLink RX3 34 yX3_placeOf, Cond.instanceMethod yX3_placeOf, Cond.selects RX3 yX3_placeOf yX3_placeOf, Cond.code yX3_placeOf cX3_placeOf 2 (some .int), Cond.methodLink RX3 38 yJ9_floorMod_7cf53, Cond.static yJ9_floorMod_7cf53, Cond.initialized RJ9, Cond.code yJ9_floorMod_7cf53 cJ9_floorMod_7cf53 3 (some .int), Cond.methodLink RX6 119 yX3_kindAt, Cond.instanceMethod yX3_kindAt, Cond.selects RX3 yX3_kindAt yX3_kindAt, Cond.code yX3_kindAt cX3_kindAt 2 (some .int), Cond.methodLink RX6 122 yX3_spanAt, Cond.instanceMethod yX3_spanAt, Cond.selects RX3 yX3_spanAt yX3_spanAt, Cond.code yX3_spanAt cX3_spanAt 2 (some .int), Cond.methodLink RX6 125 yX6_writeLine, Cond.instanceMethod yX6_writeLine]
def wsL_law_r19 : List Cond := [Cond.selects RX6 yX6_writeLine yX6_writeLine, Cond.code yX6_writeLine cX6_writeLine 2 none, Cond.methodLink RX6 208 yJ4_setLength_d00df, Cond.instanceMethod yJ4_setLength_d00df, Cond.selects RJ4 yJ4_setLength_d00df yJ4_setLength_d00df, Cond.code yJ4_setLength_d00df cJ4_setLength_d00df 2 none, Cond.methodLink RJ4 333 yJ5_setLength_d00df, Cond.sameMethod "java/lang/AbstractStringBuilder" "java/lang/AbstractStringBuilder" "setLength" "(I)V", Cond.superclass RJ4 RJ5, Cond.instanceMethod yJ5_setLength_d00df, Cond.code yJ5_setLength_d00df cJ5_setLength_d00df 2 none, Cond.fieldLink RJ5 79 "java/lang/AbstractStringBuilder" "count" "I", Cond.fieldLink RJ5 73 "java/lang/AbstractStringBuilder" "maybeLatin1" "Z", Cond.methodLink RJ5 100 ⟨"java/lang/AbstractStringBuilder", "ensureCapacityInternal", "(I)V"⟩, Cond.sameMethod "java/lang/AbstractStringBuilder" "java/lang/AbstractStringBuilder" "ensureCapacityInternal" "(I)V", Cond.selects RJ4 ⟨"java/lang/AbstractStringBuilder", "ensureCapacityInternal", "(I)V"⟩ yJ5_ensureCapacityInternal_d00df, Cond.instanceMethod yJ5_ensureCapacityInternal_d00df, Cond.code yJ5_ensureCapacityInternal_d00df cJ5_ensureCapacityInternal_d00df 3 none, Cond.methodLink RJ5 104 ⟨"java/lang/AbstractStringBuilder", "newCapacity", "(I)I"⟩, Cond.sameMethod "java/lang/AbstractStringBuilder" "java/lang/AbstractStringBuilder" "newCapacity" "(I)I", Cond.selects RJ4 ⟨"java/lang/AbstractStringBuilder", "newCapacity", "(I)I"⟩ yJ5_newCapacity_0f7a4, Cond.instanceMethod yJ5_newCapacity_0f7a4, Cond.code yJ5_newCapacity_0f7a4 cJ5_newCapacity_0f7a4 6 (some .int), Cond.constant RJ5 39 (2147483647)]
def wsL_law_r20 : List Cond := [Cond.methodLink RJ5 114 yJ8_newLength_cabcc, Cond.static yJ8_newLength_cabcc, Cond.initialized RJ8, Cond.code yJ8_newLength_cabcc cJ8_newLength_cabcc 4 (some .int), Cond.methodLink RJ8 194 Lib.Math.max.name, Cond.constant RJ8 200 (2147483639), Cond.methodLink RJ8 201 yJ8_hugeLength_7cf53, Cond.static yJ8_hugeLength_7cf53, Cond.code yJ8_hugeLength_7cf53 cJ8_hugeLength_7cf53 3 (some .int), Cond.methodLink RJ5 108 yJ7_copyOf_9075b, Cond.static yJ7_copyOf_9075b, Cond.initialized RJ7, Cond.code yJ7_copyOf_9075b cJ7_copyOf_9075b 3 (some (.array .byte)), Cond.methodLink RJ7 310 ⟨"[B", "clone", "()Ljava/lang/Object;"⟩, Cond.sameMethod "[B" "java/lang/Object" "clone" "()Ljava/lang/Object;", Cond.native ⟨"java/lang/Object", "clone", "()Ljava/lang/Object;"⟩, Cond.instanceMethod ⟨"java/lang/Object", "clone", "()Ljava/lang/Object;"⟩, Cond.selects "[B" ⟨"[B", "clone", "()Ljava/lang/Object;"⟩ ⟨"java/lang/Object", "clone", "()Ljava/lang/Object;"⟩, Cond.classLink RJ7 311 "[B", Cond.methodLink RJ7 304 Lib.Math.min.name, Cond.methodLink RJ7 150 arraycopyName, Cond.methodLink RJ5 83 ⟨"java/lang/AbstractStringBuilder", "isLatin1", "()Z"⟩, Cond.sameMethod "java/lang/AbstractStringBuilder" "java/lang/AbstractStringBuilder" "isLatin1" "()Z", Cond.selects RJ4 ⟨"java/lang/AbstractStringBuilder", "isLatin1", "()Z"⟩ yJ5_isLatin1_aae02]
def wsL_law_r21 : List Cond := [Cond.instanceMethod yJ5_isLatin1_aae02, Cond.code yJ5_isLatin1_aae02 cJ5_isLatin1_aae02 1 (some .boolean), Cond.methodLink RJ5 133 yJ1_fillNull_b72d1, Cond.static yJ1_fillNull_b72d1, Cond.initialized RJ1, Cond.code yJ1_fillNull_b72d1 cJ1_fillNull_b72d1 3 none, Cond.methodLink RJ1 236 yJ7_fill_eb02e, Cond.static yJ7_fill_eb02e, Cond.code yJ7_fill_eb02e cJ7_fill_eb02e 5 none, Cond.methodLink RJ7 13 yJ7_rangeCheck_23922, Cond.static yJ7_rangeCheck_23922, Cond.code yJ7_rangeCheck_23922 cJ7_rangeCheck_23922 3 none, Cond.methodLink RJ5 137 yJ2_fillNull_b72d1, Cond.static yJ2_fillNull_b72d1, Cond.code yJ2_fillNull_b72d1 cJ2_fillNull_b72d1 3 none, Cond.methodLink RJ2 380 yJ7_fill_eb02e, Cond.methodLink RX6 211 yJ4_append_bf812, Cond.instanceMethod yJ4_append_bf812, Cond.selects RJ4 yJ4_append_bf812 yJ4_append_bf812, Cond.code yJ4_append_bf812 cJ4_append_bf812 2 (some (.object "java/lang/StringBuilder")), Cond.methodLink RJ4 53 yJ5_append_c97b9, Cond.sameMethod "java/lang/AbstractStringBuilder" "java/lang/AbstractStringBuilder" "append" "(I)Ljava/lang/AbstractStringBuilder;", Cond.instanceMethod yJ5_append_c97b9, Cond.code yJ5_append_c97b9 cJ5_append_c97b9 4 (some (.object "java/lang/AbstractStringBuilder"))]
def wsL_law_r22 : List Cond := [Cond.methodLink RJ5 245 yJ6_stringSize_0f7a4, Cond.static yJ6_stringSize_0f7a4, Cond.initialized RJ6, Cond.code yJ6_stringSize_0f7a4 cJ6_stringSize_0f7a4 4 (some .int), Cond.methodLink RJ5 248 yJ6_getChars_ba4f3, Cond.static yJ6_getChars_ba4f3, Cond.code yJ6_getChars_ba4f3 cJ6_getChars_ba4f3 7 (some .int), Cond.fieldLink RJ6 83 "java/lang/Integer" "DigitOnes" "[B", Cond.fieldLink RJ6 87 "java/lang/Integer" "DigitTens" "[B", Cond.methodLink RJ5 251 yJ2_getChars_46870, Cond.static yJ2_getChars_46870, Cond.code yJ2_getChars_46870 cJ2_getChars_46870 5 (some .int), Cond.fieldLink RJ2 44 "java/lang/StringUTF16" "$assertionsDisabled" "Z", Cond.methodLink RJ2 96 yJ2_checkBoundsBeginEnd_d044e, Cond.static yJ2_checkBoundsBeginEnd_d044e, Cond.code yJ2_checkBoundsBeginEnd_d044e cJ2_checkBoundsBeginEnd_d044e 3 none, Cond.methodLink RJ2 48 yJ2_length_9d52b, Cond.static yJ2_length_9d52b, Cond.code yJ2_length_9d52b cJ2_length_9d52b 1 (some .int), Cond.methodLink RJ2 241 yJ0_checkBoundsBeginEnd_23922, Cond.static yJ0_checkBoundsBeginEnd_23922, Cond.initialized RJ0, Cond.code yJ0_checkBoundsBeginEnd_23922 cJ0_checkBoundsBeginEnd_23922 3 none, Cond.fieldLink RJ0 1053 "jdk/internal/util/Preconditions" "SIOOBE_FORMATTER" "Ljava/util/function/BiFunction;"]
def wsL_law_r23 : List Cond := [Cond.methodLink RJ0 1062 yJ3_checkFromToIndex_8c36e, Cond.static yJ3_checkFromToIndex_8c36e, Cond.initialized RJ3, Cond.code yJ3_checkFromToIndex_8c36e cJ3_checkFromToIndex_8c36e 4 (some .int), Cond.methodLink RJ2 393 yJ2_getChars_ba4f3, Cond.static yJ2_getChars_ba4f3, Cond.code yJ2_getChars_ba4f3 cJ2_getChars_ba4f3 7 (some .int), Cond.fieldLink RJ2 403 "java/lang/Integer" "DigitOnes" "[B", Cond.fieldLink RJ2 407 "java/lang/Integer" "DigitTens" "[B", Cond.methodLink RJ2 111 yJ2_putChar_b72d1, Cond.static yJ2_putChar_b72d1, Cond.code yJ2_putChar_b72d1 cJ2_putChar_b72d1 3 none, Cond.fieldLink RJ2 59 "java/lang/StringUTF16" "HI_BYTE_SHIFT" "I", Cond.fieldLink RJ2 63 "java/lang/StringUTF16" "LO_BYTE_SHIFT" "I", Cond.methodLink RX6 214 yJ4_append_cf468, Cond.instanceMethod yJ4_append_cf468, Cond.selects RJ4 yJ4_append_cf468 yJ4_append_cf468, Cond.code yJ4_append_cf468 cJ4_append_cf468 2 (some (.object "java/lang/StringBuilder")), Cond.methodLink RJ4 50 yJ5_append_3fe6f, Cond.sameMethod "java/lang/AbstractStringBuilder" "java/lang/AbstractStringBuilder" "append" "(C)Ljava/lang/AbstractStringBuilder;", Cond.instanceMethod yJ5_append_3fe6f, Cond.code yJ5_append_3fe6f cJ5_append_3fe6f 2 (some (.object "java/lang/AbstractStringBuilder")), Cond.methodLink RJ5 191 yJ1_canEncode_fc78d, Cond.static yJ1_canEncode_fc78d]
def wsL_law_r24 : List Cond := [Cond.code yJ1_canEncode_fc78d cJ1_canEncode_fc78d 1 (some .boolean), Cond.methodLink RJ5 195 ⟨"java/lang/AbstractStringBuilder", "inflate", "()V"⟩, Cond.sameMethod "java/lang/AbstractStringBuilder" "java/lang/AbstractStringBuilder" "inflate" "()V", Cond.selects RJ4 ⟨"java/lang/AbstractStringBuilder", "inflate", "()V"⟩ yJ5_inflate_da8c8, Cond.instanceMethod yJ5_inflate_da8c8, Cond.code yJ5_inflate_da8c8 cJ5_inflate_da8c8 2 none, Cond.methodLink RJ5 125 yJ1_inflate_0e8fd, Cond.static yJ1_inflate_0e8fd, Cond.code yJ1_inflate_0e8fd cJ1_inflate_0e8fd 5 none, Cond.methodLink RJ1 240 yJ2_inflate_0e8fd, Cond.static yJ2_inflate_0e8fd, Cond.code yJ2_inflate_0e8fd cJ2_inflate_0e8fd 6 none, Cond.methodLink RJ2 173 yJ2_checkBoundsOffCount_d044e, Cond.static yJ2_checkBoundsOffCount_d044e, Cond.code yJ2_checkBoundsOffCount_d044e cJ2_checkBoundsOffCount_d044e 3 none, Cond.methodLink RJ2 419 yJ0_checkBoundsOffCount_cabcc, Cond.static yJ0_checkBoundsOffCount_cabcc, Cond.code yJ0_checkBoundsOffCount_cabcc cJ0_checkBoundsOffCount_cabcc 3 (some .int), Cond.methodLink RJ0 1065 yJ3_checkFromIndexSize_8c36e, Cond.static yJ3_checkFromIndexSize_8c36e, Cond.code yJ3_checkFromIndexSize_8c36e cJ3_checkFromIndexSize_8c36e 4 (some .int), Cond.methodLink RJ5 197 yJ2_putCharSB_b72d1, Cond.static yJ2_putCharSB_b72d1, Cond.code yJ2_putCharSB_b72d1 cJ2_putCharSB_b72d1 3 none]
def wsL_law_r25 : List Cond := [Cond.methodLink RJ2 67 yJ2_checkIndex_2214a, Cond.static yJ2_checkIndex_2214a, Cond.code yJ2_checkIndex_2214a cJ2_checkIndex_2214a 2 none, Cond.methodLink RJ2 414 yJ0_checkIndex_df160, Cond.static yJ0_checkIndex_df160, Cond.code yJ0_checkIndex_df160 cJ0_checkIndex_df160 2 none, Cond.methodLink RJ0 1059 yJ3_checkIndex_8e157, Cond.static yJ3_checkIndex_8e157, Cond.code yJ3_checkIndex_8e157 cJ3_checkIndex_8e157 3 (some .int), Cond.methodLink RX6 217 yX6_wordOf, Cond.static yX6_wordOf, Cond.code yX6_wordOf cX6_wordOf 1 (some (.object "java/lang/String")), Cond.methodLink RX6 221 yJ4_append_15ec4, Cond.instanceMethod yJ4_append_15ec4, Cond.selects RJ4 yJ4_append_15ec4 yJ4_append_15ec4, Cond.code yJ4_append_15ec4 cJ4_append_15ec4 2 (some (.object "java/lang/StringBuilder")), Cond.methodLink RJ4 29 yJ5_append_cf1ce, Cond.sameMethod "java/lang/AbstractStringBuilder" "java/lang/AbstractStringBuilder" "append" "(Ljava/lang/String;)Ljava/lang/AbstractStringBuilder;", Cond.instanceMethod yJ5_append_cf1ce, Cond.code yJ5_append_cf1ce cJ5_append_cf1ce 3 (some (.object "java/lang/AbstractStringBuilder")), Cond.methodLink RJ5 204 ⟨"java/lang/AbstractStringBuilder", "appendNull", "()Ljava/lang/AbstractStringBuilder;"⟩, Cond.sameMethod "java/lang/AbstractStringBuilder" "java/lang/AbstractStringBuilder" "appendNull" "()Ljava/lang/AbstractStringBuilder;", Cond.selects RJ4 ⟨"java/lang/AbstractStringBuilder", "appendNull", "()Ljava/lang/AbstractStringBuilder;"⟩ yJ5_appendNull_278bc, Cond.instanceMethod yJ5_appendNull_278bc]
def wsL_law_r26 : List Cond := [Cond.code yJ5_appendNull_278bc cJ5_appendNull_278bc 3 (some (.object "java/lang/AbstractStringBuilder")), Cond.methodLink RJ5 226 yJ2_putCharsAt_cd4e5, Cond.static yJ2_putCharsAt_cd4e5, Cond.code yJ2_putCharsAt_cd4e5 cJ2_putCharsAt_cd4e5 7 (some .int), Cond.methodLink RJ5 32 yJ0_length_8abf5, Cond.instanceMethod yJ0_length_8abf5, Cond.selects RJ0 yJ0_length_8abf5 yJ0_length_8abf5, Cond.code yJ0_length_8abf5 cJ0_length_8abf5 1 (some .int), Cond.fieldLink RJ0 9 "java/lang/String" "value" "[B", Cond.methodLink RJ0 335 yJ0_coder_7d493, Cond.instanceMethod yJ0_coder_7d493, Cond.selects RJ0 yJ0_coder_7d493 yJ0_coder_7d493, Cond.code yJ0_coder_7d493 cJ0_coder_7d493 1 (some .byte), Cond.fieldLink RJ0 38 "java/lang/String" "COMPACT_STRINGS" "Z", Cond.fieldLink RJ0 15 "java/lang/String" "coder" "B", Cond.methodLink RJ5 208 ⟨"java/lang/AbstractStringBuilder", "putStringAt", "(ILjava/lang/String;)V"⟩, Cond.sameMethod "java/lang/AbstractStringBuilder" "java/lang/AbstractStringBuilder" "putStringAt" "(ILjava/lang/String;)V", Cond.selects RJ4 ⟨"java/lang/AbstractStringBuilder", "putStringAt", "(ILjava/lang/String;)V"⟩ yJ5_putStringAt_47b60, Cond.instanceMethod yJ5_putStringAt_47b60, Cond.code yJ5_putStringAt_47b60 cJ5_putStringAt_47b60 3 none, Cond.methodLink RJ5 397 ⟨"java/lang/AbstractStringBuilder", "inflateIfNeededFor", "(Ljava/lang/String;)V"⟩, Cond.sameMethod "java/lang/AbstractStringBuilder" "java/lang/AbstractStringBuilder" "inflateIfNeededFor" "(Ljava/lang/String;)V", Cond.selects RJ4 ⟨"java/lang/AbstractStringBuilder", "inflateIfNeededFor", "(Ljava/lang/String;)V"⟩ yJ5_inflateIfNeededFor_a7421, Cond.instanceMethod yJ5_inflateIfNeededFor_a7421]
def wsL_law_r27 : List Cond := [Cond.code yJ5_inflateIfNeededFor_a7421 cJ5_inflateIfNeededFor_a7421 2 none, Cond.methodLink RJ5 40 yJ0_coder_7d493, Cond.methodLink RJ5 399 yJ0_getBytes_840e7, Cond.instanceMethod yJ0_getBytes_840e7, Cond.selects RJ0 yJ0_getBytes_840e7 yJ0_getBytes_840e7, Cond.code yJ0_getBytes_840e7 cJ0_getBytes_840e7 4 none, Cond.methodLink RJ0 212 arraycopyName, Cond.methodLink RJ0 106 yJ1_inflate_0e8fd, Cond.methodLink RX6 129 yJ4_length_8abf5, Cond.instanceMethod yJ4_length_8abf5, Cond.selects RJ4 yJ4_length_8abf5 yJ4_length_8abf5, Cond.code yJ4_length_8abf5 cJ4_length_8abf5 1 (some .int), Cond.methodLink RJ4 343 yJ5_length_8abf5, Cond.sameMethod "java/lang/AbstractStringBuilder" "java/lang/AbstractStringBuilder" "length" "()I", Cond.instanceMethod yJ5_length_8abf5, Cond.code yJ5_length_8abf5 cJ5_length_8abf5 1 (some .int), Cond.methodLink RL 83 yX6_lineAt, Cond.instanceMethod yX6_lineAt, Cond.selects RX6 yX6_lineAt yX6_lineAt, Cond.code yX6_lineAt cX6_lineAt 3 (some .int), Cond.methodLink RX6 132 yJ4_charAt_5068e, Cond.instanceMethod yJ4_charAt_5068e, Cond.selects RJ4 yJ4_charAt_5068e yJ4_charAt_5068e, Cond.code yJ4_charAt_5068e cJ4_charAt_5068e 2 (some .char)]
def wsL_law_r28 : List Cond := [Cond.methodLink RJ4 329 yJ5_charAt_5068e, Cond.sameMethod "java/lang/AbstractStringBuilder" "java/lang/AbstractStringBuilder" "charAt" "(I)C", Cond.instanceMethod yJ5_charAt_5068e, Cond.code yJ5_charAt_5068e cJ5_charAt_5068e 5 (some .char), Cond.methodLink RJ5 138 Lib.Math.min.name, Cond.methodLink RJ5 144 yJ0_checkIndex_df160, Cond.methodLink RJ5 148 yJ2_getChar_3b067, Cond.static yJ2_getChar_3b067, Cond.code yJ2_getChar_3b067 cJ2_getChar_3b067 2 (some .char), Cond.methodLink RL 86 yL_letter, Cond.static yL_letter, Cond.code yL_letter cL_letter 4 (some .int), Cond.constantLong RL 36 (126918051980642), Cond.constantLong RL 38 (126879565963632), Cond.constantLong RL 40 (1935961701), Cond.constantLong RL 42 (7234297646522852722), Cond.constantLong RL 44 (495957668979), Cond.constantLong RL 46 (2003790963), Cond.constantLong RL 48 (255), Cond.methodLink RL 92 yL_then, Cond.static yL_then, Cond.code yL_then cL_then 13 (some .int), Cond.methodLink RL 96 yX6_ifQuiet, Cond.instanceMethod yX6_ifQuiet]
def wsL_law_r29 : List Cond := [Cond.selects RX6 yX6_ifQuiet yX6_ifQuiet, Cond.code yX6_ifQuiet cX6_ifQuiet 2 (some .int), Cond.methodLink RX6 151 yX6_overdueAfter, Cond.instanceMethod yX6_overdueAfter, Cond.selects RX6 yX6_overdueAfter yX6_overdueAfter, Cond.code yX6_overdueAfter cX6_overdueAfter 4 (some .int), Cond.methodLink RX6 142 yX1_copyFrom, Cond.methodLink RX6 145 yX1_passQuietTick, Cond.methodLink RL 99 yX6_bestWay, Cond.instanceMethod yX6_bestWay, Cond.selects RX6 yX6_bestWay yX6_bestWay, Cond.code yX6_bestWay cX6_bestWay 6 (some .int), Cond.methodLink RL 102 yX6_checkedIn, Cond.instanceMethod yX6_checkedIn, Cond.selects RX6 yX6_checkedIn yX6_checkedIn, Cond.code yX6_checkedIn cX6_checkedIn 3 (some .int)]
def wsL_law : List Cond := (wsL_law_r1 ++ (wsL_law_r2 ++ (wsL_law_r3 ++ (wsL_law_r4 ++ (wsL_law_r5 ++ (wsL_law_r6 ++ (wsL_law_r7 ++ (wsL_law_r8 ++ (wsL_law_r9 ++ (wsL_law_r10 ++ (wsL_law_r11 ++ (wsL_law_r12 ++ (wsL_law_r13 ++ (wsL_law_r14 ++ (wsL_law_r15 ++ (wsL_law_r16 ++ (wsL_law_r17 ++ (wsL_law_r18 ++ (wsL_law_r19 ++ (wsL_law_r20 ++ (wsL_law_r21 ++ (wsL_law_r22 ++ (wsL_law_r23 ++ (wsL_law_r24 ++ (wsL_law_r25 ++ (wsL_law_r26 ++ (wsL_law_r27 ++ (wsL_law_r28 ++ wsL_law_r29)))))))))))))))))))))))))))) ++ wsX60 ++ wsX10 ++ wsX20 ++ wsX40 ++ wsJ40 ++ wsX50 ++ wsX00 ++ wsX30 ++ ([] : List Cond)
theorem inlX0 : ∀ w ∈ wsX00, w ∈ wsL_law := fun _ h => List.mem_append_left _ (List.mem_append_left _ (List.mem_append_right _ h))
theorem inlX1 : ∀ w ∈ wsX10, w ∈ wsL_law := fun _ h => List.mem_append_left _ (List.mem_append_left _ (List.mem_append_left _ (List.mem_append_left _ (List.mem_append_left _ (List.mem_append_left _ (List.mem_append_left _ (List.mem_append_right _ h)))))))
theorem inlX2 : ∀ w ∈ wsX20, w ∈ wsL_law := fun _ h => List.mem_append_left _ (List.mem_append_left _ (List.mem_append_left _ (List.mem_append_left _ (List.mem_append_left _ (List.mem_append_left _ (List.mem_append_right _ h))))))
theorem inlX3 : ∀ w ∈ wsX30, w ∈ wsL_law := fun _ h => List.mem_append_left _ (List.mem_append_right _ h)
theorem inlX4 : ∀ w ∈ wsX40, w ∈ wsL_law := fun _ h => List.mem_append_left _ (List.mem_append_left _ (List.mem_append_left _ (List.mem_append_left _ (List.mem_append_left _ (List.mem_append_right _ h)))))
theorem inlX5 : ∀ w ∈ wsX50, w ∈ wsL_law := fun _ h => List.mem_append_left _ (List.mem_append_left _ (List.mem_append_left _ (List.mem_append_right _ h)))
theorem inlX6 : ∀ w ∈ wsX60, w ∈ wsL_law := fun _ h => List.mem_append_left _ (List.mem_append_left _ (List.mem_append_left _ (List.mem_append_left _ (List.mem_append_left _ (List.mem_append_left _ (List.mem_append_left _ (List.mem_append_left _ (List.mem_append_right _ h))))))))
theorem inlJ4 : ∀ w ∈ wsJ40, w ∈ wsL_law := fun _ h => List.mem_append_left _ (List.mem_append_left _ (List.mem_append_left _ (List.mem_append_left _ (List.mem_append_right _ h))))
abbrev vwCl : List vw_C := [(RJ4, TJ4, 4), (RX0, TX0, 2), (RX1, TX1, 17), (RX2, TX2, 2), (RX3, TX3, 5), (RX4, TX4, 8), (RX5, TX5, 3), (RX6, TX6, 5)]
