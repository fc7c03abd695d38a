-- ===== PART A: goes FIRST, ahead of the names: the tables' words, and 'selects' of the private methods out of them =====
/-- a private method of a class that the tables say can be made, by its rows of tables_1 -/
def lw_okq (q : MethodName × Nat) : Prop := (q.1.cls ≠ "java/lang/invoke/MethodHandle" ∧ q.1.cls ≠ "java/lang/invoke/VarHandle") ∧ Cond.instantiable q.1.cls q.2 ∈ tables_1 ∧ Cond.privateMethod q.1 ∈ tables_1 ∧ Cond.instanceMethod q.1 ∈ tables_1
theorem lw_p0 : lw_okq (⟨"PrintRoom", "settingAt", "(I)I"⟩, 6) := ⟨⟨by decide +kernel, by decide +kernel⟩, List.mem_of_getElem? (i := 16) (by decide +kernel), List.mem_of_getElem? (i := 309) (by decide +kernel), List.mem_of_getElem? (i := 310) (by decide +kernel)⟩
def lw_privs_1 : List (MethodName × Nat) := [(⟨"PrintRoom", "settingAt", "(I)I"⟩, 6)]
theorem lw_r1 : ∀ q ∈ lw_privs_1, lw_okq q := List.forall_mem_cons.mpr ⟨lw_p0, fun _ h => absurd h List.not_mem_nil⟩
def lw_privs : List (MethodName × Nat) := lw_privs_1
def lw_tbl : List Cond := k2_sels lw_privs ++ tables_1
theorem lw_privs_ok : ∀ q ∈ lw_privs, lw_okq q := lw_r1
/-! ===== BEGIN words of one list among another's, by their places ===== -/
theorem goodIn_r {big : List Cond} (ws : List Cond) (ps : List Nat) (hp : ws = ps.filterMap (fun i => big[i]?)) (h : ws.all goodWord = true) : GoodIn big ws := by
  intro w hw
  have h1 := List.all_eq_true.mp h w hw
  rw [hp] at hw
  obtain ⟨i, -, hi⟩ := List.mem_filterMap.mp hw
  have hm : w ∈ big := by first | exact List.mem_of_getElem? hi | exact List.getElem?_mem hi
  exact ⟨hm, good_of_word h1⟩
theorem goodIn_app {big a b : List Cond} (ha : GoodIn big a) (hb : GoodIn big b) : GoodIn big (a ++ b) := fun w h => (List.mem_append.mp h).elim (ha w) (hb w)
theorem goodIn_ca {big a b : List Cond} {c : Cond} (ha : GoodIn big (c :: a)) (hb : GoodIn big b) : GoodIn big (c :: (a ++ b)) := fun w h => (List.mem_cons.mp h).elim (fun e => ha w (List.mem_cons.mpr (Or.inl e))) (fun h => (List.mem_append.mp h).elim (fun h => ha w (List.mem_cons.mpr (Or.inr h))) (hb w))
theorem goodIn_sub {big ws : List Cond} (hm : ∀ w ∈ ws, w ∈ big) (h : ws.all goodWord = true) : GoodIn big ws := fun w hw => ⟨hm w hw, good_of_word (List.all_eq_true.mp h w hw)⟩
/-! ===== END ===== -/

/-! ===== BEGIN printed: names, fields, word lists, decode rows ===== -/
def RX0 : String := "PrintRoom$History"
def TX0 : u_T := fun k => match k with
  | 0 => ("PrintRoom$History", "rows", "[LPrintRoom$Machine;", true)
  | _ => ("PrintRoom$History", "states", "I", false)
def tyX0 : Nat → FieldType := fun k => match k with
  | 0 => .array (.object "PrintRoom$Machine")
  | _ => .int
theorem nmX0 : ∀ a, a < 2 → ∀ b, b < 2 → a ≠ b → (TX0 a).2.1 ≠ (TX0 b).2.1 := by decide +kernel
theorem tyX0_ok : ∀ k, k < 2 → parseFieldDescriptor (TX0 k).2.2.1 = some (tyX0 k) := by decide +kernel
abbrev cX0_init : ByteArray := prog_2_method_1_code
def yX0_init : MethodName := ⟨RX0, "<init>", "()V"⟩
abbrev cX0_keep : ByteArray := prog_2_method_2_code
def yX0_keep : MethodName := ⟨RX0, "keep", "(LPrintRoom$Machine;)V"⟩
abbrev cX0_dropOldest : ByteArray := prog_2_method_3_code
def yX0_dropOldest : MethodName := ⟨RX0, "dropOldest", "()V"⟩
abbrev cX0_restore : ByteArray := prog_2_method_4_code
def yX0_restore : MethodName := ⟨RX0, "restore", "(LPrintRoom$Machine;)Z"⟩
def RX1 : String := "PrintRoom$Job"
def TX1 : u_T := fun k => match k with
  | 0 => ("PrintRoom$Job", "number", "I", false)
  | 1 => ("PrintRoom$Job", "pages", "I", false)
  | 2 => ("PrintRoom$Job", "copies", "I", false)
  | 3 => ("PrintRoom$Job", "size", "I", false)
  | 4 => ("PrintRoom$Job", "kind", "I", false)
  | 5 => ("PrintRoom$Job", "how", "I", false)
  | 6 => ("PrintRoom$Job", "onBothSides", "Z", false)
  | 7 => ("PrintRoom$Job", "gathered", "Z", false)
  | 8 => ("PrintRoom$Job", "staplesOfSet", "I", false)
  | 9 => ("PrintRoom$Job", "sheetsOfSet", "I", false)
  | 10 => ("PrintRoom$Job", "sheetsInAll", "I", false)
  | 11 => ("PrintRoom$Job", "priority", "I", false)
  | 12 => ("PrintRoom$Job", "held", "Z", false)
  | 13 => ("PrintRoom$Job", "printed", "I", false)
  | _ => ("PrintRoom$Job", "stapledSets", "I", false)
def tyX1 : Nat → FieldType := fun k => match k with
  | 0 => .int
  | 1 => .int
  | 2 => .int
  | 3 => .int
  | 4 => .int
  | 5 => .int
  | 6 => .boolean
  | 7 => .boolean
  | 8 => .int
  | 9 => .int
  | 10 => .int
  | 11 => .int
  | 12 => .boolean
  | 13 => .int
  | _ => .int
theorem nmX1 : ∀ a, a < 15 → ∀ b, b < 15 → a ≠ b → (TX1 a).2.1 ≠ (TX1 b).2.1 := by decide +kernel
theorem tyX1_ok : ∀ k, k < 15 → parseFieldDescriptor (TX1 k).2.2.1 = some (tyX1 k) := by decide +kernel
abbrev cX1_init : ByteArray := prog_3_method_1_code
def yX1_init : MethodName := ⟨RX1, "<init>", "()V"⟩
abbrev cX1_describe : ByteArray := prog_3_method_2_code
def yX1_describe : MethodName := ⟨RX1, "describe", "(IIIII)V"⟩
abbrev cX1_copyFrom : ByteArray := prog_3_method_3_code
def yX1_copyFrom : MethodName := ⟨RX1, "copyFrom", "(LPrintRoom$Job;)V"⟩
abbrev cX1_isInRange : ByteArray := prog_3_method_4_code
def yX1_isInRange : MethodName := ⟨RX1, "isInRange", "()Z"⟩
abbrev cX1_isOn : ByteArray := prog_3_method_5_code
def yX1_isOn : MethodName := ⟨RX1, "isOn", "(II)Z"⟩
abbrev cX1_staplingRefusal : ByteArray := prog_3_method_6_code
def yX1_staplingRefusal : MethodName := ⟨RX1, "staplingRefusal", "(I)I"⟩
abbrev cX1_hasSetToStaple : ByteArray := prog_3_method_7_code
def yX1_hasSetToStaple : MethodName := ⟨RX1, "hasSetToStaple", "()Z"⟩
abbrev cX1_isFinished : ByteArray := prog_3_method_8_code
def yX1_isFinished : MethodName := ⟨RX1, "isFinished", "()Z"⟩
abbrev cX1_nextSheet : ByteArray := prog_3_method_9_code
def yX1_nextSheet : MethodName := ⟨RX1, "nextSheet", "()I"⟩
abbrev cX1_nextCopy : ByteArray := prog_3_method_10_code
def yX1_nextCopy : MethodName := ⟨RX1, "nextCopy", "()I"⟩
abbrev cX1_sidesOfNextSheet : ByteArray := prog_3_method_11_code
def yX1_sidesOfNextSheet : MethodName := ⟨RX1, "sidesOfNextSheet", "()I"⟩
abbrev cX1_property : ByteArray := prog_3_method_12_code
def yX1_property : MethodName := ⟨RX1, "property", "(I)I"⟩
def RX2 : String := "PrintRoom$JobText"
def TX2 : u_T := fun k => match k with
  | 0 => ("PrintRoom$JobText", "signs", "[C", true)
  | 1 => ("PrintRoom$JobText", "length", "I", false)
  | 2 => ("PrintRoom$JobText", "place", "I", false)
  | 3 => ("PrintRoom$JobText", "jobs", "I", false)
  | 4 => ("PrintRoom$JobText", "faultPlace", "I", false)
  | _ => ("PrintRoom$JobText", "faultReason", "I", false)
def tyX2 : Nat → FieldType := fun k => match k with
  | 0 => .array .char
  | 1 => .int
  | 2 => .int
  | 3 => .int
  | 4 => .int
  | _ => .int
theorem nmX2 : ∀ a, a < 6 → ∀ b, b < 6 → a ≠ b → (TX2 a).2.1 ≠ (TX2 b).2.1 := by decide +kernel
theorem tyX2_ok : ∀ k, k < 6 → parseFieldDescriptor (TX2 k).2.2.1 = some (tyX2 k) := by decide +kernel
abbrev cX2_init : ByteArray := prog_4_method_1_code
def yX2_init : MethodName := ⟨RX2, "<init>", "()V"⟩
abbrev cX2_append : ByteArray := prog_4_method_2_code
def yX2_append : MethodName := ⟨RX2, "append", "(C)V"⟩
abbrev cX2_examine : ByteArray := prog_4_method_3_code
def yX2_examine : MethodName := ⟨RX2, "examine", "(LPrintRoom$Job;LPrintRoom$Machine;)V"⟩
abbrev cX2_reasonOfNext : ByteArray := prog_4_method_4_code
def yX2_reasonOfNext : MethodName := ⟨RX2, "reasonOfNext", "(LPrintRoom$Job;II)I"⟩
abbrev cX2_readJob : ByteArray := prog_4_method_5_code
def yX2_readJob : MethodName := ⟨RX2, "readJob", "(LPrintRoom$Job;)Z"⟩
abbrev cX2_readNumber : ByteArray := prog_4_method_6_code
def yX2_readNumber : MethodName := ⟨RX2, "readNumber", "(Ljava/lang/String;)I"⟩
abbrev cX2_digitAtPlace : ByteArray := prog_4_method_7_code
def yX2_digitAtPlace : MethodName := ⟨RX2, "digitAtPlace", "()I"⟩
abbrev cX2_readHow : ByteArray := prog_4_method_8_code
def yX2_readHow : MethodName := ⟨RX2, "readHow", "()I"⟩
abbrev cX2_readSize : ByteArray := prog_4_method_9_code
def yX2_readSize : MethodName := ⟨RX2, "readSize", "()I"⟩
abbrev cX2_readKind : ByteArray := prog_4_method_10_code
def yX2_readKind : MethodName := ⟨RX2, "readKind", "()I"⟩
abbrev cX2_sizeWord : ByteArray := prog_4_method_11_code
def yX2_sizeWord : MethodName := ⟨RX2, "sizeWord", "(I)Ljava/lang/String;"⟩
abbrev cX2_kindWord : ByteArray := prog_4_method_12_code
def yX2_kindWord : MethodName := ⟨RX2, "kindWord", "(I)Ljava/lang/String;"⟩
abbrev cX2_skips : ByteArray := prog_4_method_13_code
def yX2_skips : MethodName := ⟨RX2, "skips", "(Ljava/lang/String;)Z"⟩
def RX3 : String := "PrintRoom$Ledger"
def TX3 : u_T := fun k => match k with
  | 0 => ("PrintRoom$Ledger", "accounts", "[I", true)
  | 1 => ("PrintRoom$Ledger", "paperSizes", "[I", true)
  | 2 => ("PrintRoom$Ledger", "paperKinds", "[I", true)
  | 3 => ("PrintRoom$Ledger", "paperSheets", "[I", true)
  | 4 => ("PrintRoom$Ledger", "papers", "I", false)
  | _ => ("PrintRoom$Ledger", "finishedSheets", "I", false)
def tyX3 : Nat → FieldType := fun k => match k with
  | 0 => .array .int
  | 1 => .array .int
  | 2 => .array .int
  | 3 => .array .int
  | 4 => .int
  | _ => .int
theorem nmX3 : ∀ a, a < 6 → ∀ b, b < 6 → a ≠ b → (TX3 a).2.1 ≠ (TX3 b).2.1 := by decide +kernel
theorem tyX3_ok : ∀ k, k < 6 → parseFieldDescriptor (TX3 k).2.2.1 = some (tyX3 k) := by decide +kernel
abbrev cX3_init : ByteArray := prog_5_method_1_code
def yX3_init : MethodName := ⟨RX3, "<init>", "()V"⟩
abbrev cX3_copyFrom : ByteArray := prog_5_method_2_code
def yX3_copyFrom : MethodName := ⟨RX3, "copyFrom", "(LPrintRoom$Ledger;)V"⟩
abbrev cX3_add : ByteArray := prog_5_method_3_code
def yX3_add : MethodName := ⟨RX3, "add", "(II)V"⟩
abbrev cX3_addTakenSheet : ByteArray := prog_5_method_4_code
def yX3_addTakenSheet : MethodName := ⟨RX3, "addTakenSheet", "(II)V"⟩
def RX4 : String := "PrintRoom$Machine"
def TX4 : u_T := fun k => match k with
  | 0 => ("PrintRoom$Machine", "trays", "LPrintRoom$Trays;", true)
  | 1 => ("PrintRoom$Machine", "queue", "LPrintRoom$Queue;", true)
  | 2 => ("PrintRoom$Machine", "ledger", "LPrintRoom$Ledger;", true)
  | 3 => ("PrintRoom$Machine", "settings", "[I", true)
  | 4 => ("PrintRoom$Machine", "staplesLeft", "I", false)
  | 5 => ("PrintRoom$Machine", "bin", "I", false)
  | 6 => ("PrintRoom$Machine", "work", "I", false)
  | 7 => ("PrintRoom$Machine", "workJob", "I", false)
  | _ => ("PrintRoom$Machine", "workTicks", "I", false)
def tyX4 : Nat → FieldType := fun k => match k with
  | 0 => .object "PrintRoom$Trays"
  | 1 => .object "PrintRoom$Queue"
  | 2 => .object "PrintRoom$Ledger"
  | 3 => .array .int
  | 4 => .int
  | 5 => .int
  | 6 => .int
  | 7 => .int
  | _ => .int
theorem nmX4 : ∀ a, a < 9 → ∀ b, b < 9 → a ≠ b → (TX4 a).2.1 ≠ (TX4 b).2.1 := by decide +kernel
theorem tyX4_ok : ∀ k, k < 9 → parseFieldDescriptor (TX4 k).2.2.1 = some (tyX4 k) := by decide +kernel
abbrev cX4_init : ByteArray := prog_6_method_1_code
def yX4_init : MethodName := ⟨RX4, "<init>", "()V"⟩
abbrev cX4_copyFrom : ByteArray := prog_6_method_2_code
def yX4_copyFrom : MethodName := ⟨RX4, "copyFrom", "(LPrintRoom$Machine;)V"⟩
abbrev cX4_letGoBy : ByteArray := prog_6_method_3_code
def yX4_letGoBy : MethodName := ⟨RX4, "letGoBy", "(I)V"⟩
abbrev cX4_ticksUntilGone : ByteArray := prog_6_method_4_code
def yX4_ticksUntilGone : MethodName := ⟨RX4, "ticksUntilGone", "(I)I"⟩
abbrev cX4_findWork : ByteArray := prog_6_method_5_code
def yX4_findWork : MethodName := ⟨RX4, "findWork", "()I"⟩
abbrev cX4_stopReason : ByteArray := prog_6_method_6_code
def yX4_stopReason : MethodName := ⟨RX4, "stopReason", "(LPrintRoom$Job;)I"⟩
abbrev cX4_beginSheet : ByteArray := prog_6_method_7_code
def yX4_beginSheet : MethodName := ⟨RX4, "beginSheet", "(LPrintRoom$Job;)V"⟩
abbrev cX4_beginStapling : ByteArray := prog_6_method_8_code
def yX4_beginStapling : MethodName := ⟨RX4, "beginStapling", "(LPrintRoom$Job;)V"⟩
abbrev cX4_goOnWorking : ByteArray := prog_6_method_9_code
def yX4_goOnWorking : MethodName := ⟨RX4, "goOnWorking", "(I)I"⟩
abbrev cX4_finishWork : ByteArray := prog_6_method_10_code
def yX4_finishWork : MethodName := ⟨RX4, "finishWork", "()V"⟩
abbrev cX4_finishSheet : ByteArray := prog_6_method_11_code
def yX4_finishSheet : MethodName := ⟨RX4, "finishSheet", "(LPrintRoom$Job;)V"⟩
abbrev cX4_finishStapling : ByteArray := prog_6_method_12_code
def yX4_finishStapling : MethodName := ⟨RX4, "finishStapling", "(LPrintRoom$Job;)V"⟩
abbrev cX4_removeIfFinished : ByteArray := prog_6_method_13_code
def yX4_removeIfFinished : MethodName := ⟨RX4, "removeIfFinished", "(LPrintRoom$Job;)V"⟩
abbrev cX4_interrupt : ByteArray := prog_6_method_14_code
def yX4_interrupt : MethodName := ⟨RX4, "interrupt", "(LPrintRoom$Job;)V"⟩
abbrev cX4_giveUpWorkOf : ByteArray := prog_6_method_15_code
def yX4_giveUpWorkOf : MethodName := ⟨RX4, "giveUpWorkOf", "(I)V"⟩
abbrev cX4_lackingSheets : ByteArray := prog_6_method_16_code
def yX4_lackingSheets : MethodName := ⟨RX4, "lackingSheets", "(II)I"⟩
def RX5 : String := "PrintRoom$Queue"
def TX5 : u_T := fun k => match k with
  | 0 => ("PrintRoom$Queue", "jobs", "[LPrintRoom$Job;", true)
  | 1 => ("PrintRoom$Queue", "size", "I", false)
  | 2 => ("PrintRoom$Queue", "nextNumber", "I", false)
  | _ => ("PrintRoom$Queue", "latest", "I", false)
def tyX5 : Nat → FieldType := fun k => match k with
  | 0 => .array (.object "PrintRoom$Job")
  | 1 => .int
  | 2 => .int
  | _ => .int
theorem nmX5 : ∀ a, a < 4 → ∀ b, b < 4 → a ≠ b → (TX5 a).2.1 ≠ (TX5 b).2.1 := by decide +kernel
theorem tyX5_ok : ∀ k, k < 4 → parseFieldDescriptor (TX5 k).2.2.1 = some (tyX5 k) := by decide +kernel
abbrev cX5_init : ByteArray := prog_7_method_1_code
def yX5_init : MethodName := ⟨RX5, "<init>", "()V"⟩
abbrev cX5_copyFrom : ByteArray := prog_7_method_2_code
def yX5_copyFrom : MethodName := ⟨RX5, "copyFrom", "(LPrintRoom$Queue;)V"⟩
abbrev cX5_room : ByteArray := prog_7_method_3_code
def yX5_room : MethodName := ⟨RX5, "room", "()I"⟩
abbrev cX5_append : ByteArray := prog_7_method_4_code
def yX5_append : MethodName := ⟨RX5, "append", "(LPrintRoom$Job;)I"⟩
abbrev cX5_find : ByteArray := prog_7_method_5_code
def yX5_find : MethodName := ⟨RX5, "find", "(I)LPrintRoom$Job;"⟩
abbrev cX5_remove : ByteArray := prog_7_method_6_code
def yX5_remove : MethodName := ⟨RX5, "remove", "(LPrintRoom$Job;)V"⟩
abbrev cX5_heldJobs : ByteArray := prog_7_method_7_code
def yX5_heldJobs : MethodName := ⟨RX5, "heldJobs", "()I"⟩
abbrev cX5_isAhead : ByteArray := prog_7_method_8_code
def yX5_isAhead : MethodName := ⟨RX5, "isAhead", "(LPrintRoom$Job;LPrintRoom$Job;)Z"⟩
abbrev cX5_jobsAheadOf : ByteArray := prog_7_method_9_code
def yX5_jobsAheadOf : MethodName := ⟨RX5, "jobsAheadOf", "(LPrintRoom$Job;)I"⟩
abbrev cX5_at : ByteArray := prog_7_method_10_code
def yX5_at : MethodName := ⟨RX5, "at", "(I)LPrintRoom$Job;"⟩
abbrev cX5_next : ByteArray := prog_7_method_11_code
def yX5_next : MethodName := ⟨RX5, "next", "()LPrintRoom$Job;"⟩
abbrev cX5_sheetsToPrint : ByteArray := prog_7_method_12_code
def yX5_sheetsToPrint : MethodName := ⟨RX5, "sheetsToPrint", "(II)I"⟩
def RX6 : String := "PrintRoom$Trays"
def TX6 : u_T := fun k => match k with
  | 0 => ("PrintRoom$Trays", "sizes", "[I", true)
  | 1 => ("PrintRoom$Trays", "kinds", "[I", true)
  | _ => ("PrintRoom$Trays", "sheets", "[I", true)
def tyX6 : Nat → FieldType := fun k => match k with
  | 0 => .array .int
  | 1 => .array .int
  | _ => .array .int
theorem nmX6 : ∀ a, a < 3 → ∀ b, b < 3 → a ≠ b → (TX6 a).2.1 ≠ (TX6 b).2.1 := by decide +kernel
theorem tyX6_ok : ∀ k, k < 3 → parseFieldDescriptor (TX6 k).2.2.1 = some (tyX6 k) := by decide +kernel
abbrev cX6_init : ByteArray := prog_8_method_1_code
def yX6_init : MethodName := ⟨RX6, "<init>", "()V"⟩
abbrev cX6_copyFrom : ByteArray := prog_8_method_2_code
def yX6_copyFrom : MethodName := ⟨RX6, "copyFrom", "(LPrintRoom$Trays;)V"⟩
abbrev cX6_change : ByteArray := prog_8_method_3_code
def yX6_change : MethodName := ⟨RX6, "change", "(III)I"⟩
abbrev cX6_sheetsOf : ByteArray := prog_8_method_4_code
def yX6_sheetsOf : MethodName := ⟨RX6, "sheetsOf", "(II)I"⟩
abbrev cX6_lowestWith : ByteArray := prog_8_method_5_code
def yX6_lowestWith : MethodName := ⟨RX6, "lowestWith", "(II)I"⟩
abbrev cX6_takeSheet : ByteArray := prog_8_method_6_code
def yX6_takeSheet : MethodName := ⟨RX6, "takeSheet", "(II)V"⟩
def RX7 : String := "PrintRoom"
def TX7 : u_T := fun k => match k with
  | 0 => ("PrintRoom", "machine", "LPrintRoom$Machine;", true)
  | 1 => ("PrintRoom", "trial", "LPrintRoom$Machine;", true)
  | 2 => ("PrintRoom", "history", "LPrintRoom$History;", true)
  | 3 => ("PrintRoom", "text", "LPrintRoom$JobText;", true)
  | 4 => ("PrintRoom", "draft", "LPrintRoom$Job;", true)
  | _ => ("PrintRoom", "refusalReason", "I", false)
def tyX7 : Nat → FieldType := fun k => match k with
  | 0 => .object "PrintRoom$Machine"
  | 1 => .object "PrintRoom$Machine"
  | 2 => .object "PrintRoom$History"
  | 3 => .object "PrintRoom$JobText"
  | 4 => .object "PrintRoom$Job"
  | _ => .int
theorem nmX7 : ∀ a, a < 6 → ∀ b, b < 6 → a ≠ b → (TX7 a).2.1 ≠ (TX7 b).2.1 := by decide +kernel
theorem tyX7_ok : ∀ k, k < 6 → parseFieldDescriptor (TX7 k).2.2.1 = some (tyX7 k) := by decide +kernel
abbrev cX7_init : ByteArray := prog_1_method_1_code
def yX7_init : MethodName := ⟨RX7, "<init>", "()V"⟩
abbrev cX7_fill : ByteArray := prog_1_method_2_code
def yX7_fill : MethodName := ⟨RX7, "fill", "(II)I"⟩
abbrev cX7_load : ByteArray := prog_1_method_3_code
def yX7_load : MethodName := ⟨RX7, "load", "(III)I"⟩
abbrev cX7_tray : ByteArray := prog_1_method_4_code
def yX7_tray : MethodName := ⟨RX7, "tray", "(II)I"⟩
abbrev cX7_staples : ByteArray := prog_1_method_5_code
def yX7_staples : MethodName := ⟨RX7, "staples", "(I)I"⟩
abbrev cX7_emptyBin : ByteArray := prog_1_method_6_code
def yX7_emptyBin : MethodName := ⟨RX7, "emptyBin", "()I"⟩
abbrev cX7_set : ByteArray := prog_1_method_7_code
def yX7_set : MethodName := ⟨RX7, "set", "(II)I"⟩
abbrev cX7_job : ByteArray := prog_1_method_8_code
def yX7_job : MethodName := ⟨RX7, "job", "(IIIII)I"⟩
abbrev cX7_refusal : ByteArray := prog_1_method_9_code
def yX7_refusal : MethodName := ⟨RX7, "refusal", "()I"⟩
abbrev cX7_hold : ByteArray := prog_1_method_10_code
def yX7_hold : MethodName := ⟨RX7, "hold", "(II)I"⟩
abbrev cX7_cancel : ByteArray := prog_1_method_11_code
def yX7_cancel : MethodName := ⟨RX7, "cancel", "(I)I"⟩
abbrev cX7_priority : ByteArray := prog_1_method_12_code
def yX7_priority : MethodName := ⟨RX7, "priority", "(II)I"⟩
abbrev cX7_jobInfo : ByteArray := prog_1_method_13_code
def yX7_jobInfo : MethodName := ⟨RX7, "jobInfo", "(II)I"⟩
abbrev cX7_queued : ByteArray := prog_1_method_14_code
def yX7_queued : MethodName := ⟨RX7, "queued", "(I)I"⟩
abbrev cX7_run : ByteArray := prog_1_method_15_code
def yX7_run : MethodName := ⟨RX7, "run", "(I)I"⟩
abbrev cX7_stop : ByteArray := prog_1_method_16_code
def yX7_stop : MethodName := ⟨RX7, "stop", "()I"⟩
abbrev cX7_count : ByteArray := prog_1_method_17_code
def yX7_count : MethodName := ⟨RX7, "count", "(I)I"⟩
abbrev cX7_account : ByteArray := prog_1_method_18_code
def yX7_account : MethodName := ⟨RX7, "account", "(I)I"⟩
abbrev cX7_paper : ByteArray := prog_1_method_19_code
def yX7_paper : MethodName := ⟨RX7, "paper", "(II)I"⟩
abbrev cX7_lacking : ByteArray := prog_1_method_20_code
def yX7_lacking : MethodName := ⟨RX7, "lacking", "(II)I"⟩
abbrev cX7_ticksTo : ByteArray := prog_1_method_21_code
def yX7_ticksTo : MethodName := ⟨RX7, "ticksTo", "(I)I"⟩
abbrev cX7_undo : ByteArray := prog_1_method_22_code
def yX7_undo : MethodName := ⟨RX7, "undo", "()I"⟩
abbrev cX7_type : ByteArray := prog_1_method_23_code
def yX7_type : MethodName := ⟨RX7, "type", "(I)I"⟩
abbrev cX7_fault : ByteArray := prog_1_method_25_code
def yX7_fault : MethodName := ⟨RX7, "fault", "(I)I"⟩
abbrev cX7_settingAt : ByteArray := prog_1_method_27_code
def yX7_settingAt : MethodName := ⟨RX7, "settingAt", "(I)I"⟩
abbrev cX7_isWithin : ByteArray := prog_1_method_28_code
def yX7_isWithin : MethodName := ⟨RX7, "isWithin", "(III)Z"⟩
abbrev cX7_isBelow : ByteArray := prog_1_method_29_code
def yX7_isBelow : MethodName := ⟨RX7, "isBelow", "(II)Z"⟩
abbrev cX7_isPaper : ByteArray := prog_1_method_30_code
def yX7_isPaper : MethodName := ⟨RX7, "isPaper", "(II)Z"⟩
def RX8 : String := "PrintRoomModel"
def TX8 : u_T := fun k => match k with
  | _ => ("", "", "", false)
def tyX8 : Nat → FieldType := fun k => match k with
  | _ => .int
theorem nmX8 : ∀ a, a < 0 → ∀ b, b < 0 → a ≠ b → (TX8 a).2.1 ≠ (TX8 b).2.1 := by decide +kernel
theorem tyX8_ok : ∀ k, k < 0 → parseFieldDescriptor (TX8 k).2.2.1 = some (tyX8 k) := by decide +kernel
def RJ9 : String := "java/lang/Math"
def TJ9 : u_T := fun k => match k with
  | _ => ("", "", "", false)
def tyJ9 : Nat → FieldType := fun k => match k with
  | _ => .int
theorem nmJ9 : ∀ a, a < 0 → ∀ b, b < 0 → a ≠ b → (TJ9 a).2.1 ≠ (TJ9 b).2.1 := by decide +kernel
theorem tyJ9_ok : ∀ k, k < 0 → parseFieldDescriptor (TJ9 k).2.2.1 = some (tyJ9 k) := by decide +kernel
abbrev cJ9_max_7cf53 : ByteArray := prog_11_method_65_code
def yJ9_max_7cf53 : MethodName := ⟨RJ9, "max", "(II)I"⟩
abbrev cJ9_min_7cf53 : ByteArray := prog_11_method_69_code
def yJ9_min_7cf53 : MethodName := ⟨RJ9, "min", "(II)I"⟩
def RJ0 : String := "java/lang/String"
def TJ0 : u_T := fun k => match k with
  | _ => ("", "", "", false)
def tyJ0 : Nat → FieldType := fun k => match k with
  | _ => .int
theorem nmJ0 : ∀ a, a < 0 → ∀ b, b < 0 → a ≠ b → (TJ0 a).2.1 ≠ (TJ0 b).2.1 := by decide +kernel
theorem tyJ0_ok : ∀ k, k < 0 → parseFieldDescriptor (TJ0 k).2.2.1 = some (tyJ0 k) := by decide +kernel
abbrev cJ0_length_8abf5 : ByteArray := prog_12_method_54_code
def yJ0_length_8abf5 : MethodName := ⟨RJ0, "length", "()I"⟩
abbrev cJ0_charAt_5068e : ByteArray := prog_12_method_56_code
def yJ0_charAt_5068e : MethodName := ⟨RJ0, "charAt", "(I)C"⟩
abbrev cJ0_coder_7d493 : ByteArray := prog_12_method_152_code
def yJ0_coder_7d493 : MethodName := ⟨RJ0, "coder", "()B"⟩
abbrev cJ0_isLatin1_aae02 : ByteArray := prog_12_method_154_code
def yJ0_isLatin1_aae02 : MethodName := ⟨RJ0, "isLatin1", "()Z"⟩
abbrev cJ0_checkIndex_df160 : ByteArray := prog_12_method_155_code
def yJ0_checkIndex_df160 : MethodName := ⟨RJ0, "checkIndex", "(II)V"⟩
def RJ1 : String := "java/lang/StringLatin1"
def TJ1 : u_T := fun k => match k with
  | _ => ("", "", "", false)
def tyJ1 : Nat → FieldType := fun k => match k with
  | _ => .int
theorem nmJ1 : ∀ a, a < 0 → ∀ b, b < 0 → a ≠ b → (TJ1 a).2.1 ≠ (TJ1 b).2.1 := by decide +kernel
theorem tyJ1_ok : ∀ k, k < 0 → parseFieldDescriptor (TJ1 k).2.2.1 = some (tyJ1 k) := by decide +kernel
abbrev cJ1_charAt_3b067 : ByteArray := prog_13_method_2_code
def yJ1_charAt_3b067 : MethodName := ⟨RJ1, "charAt", "([BI)C"⟩
def RJ2 : String := "java/lang/StringUTF16"
def TJ2 : u_T := fun k => match k with
  | _ => ("", "", "", false)
def tyJ2 : Nat → FieldType := fun k => match k with
  | _ => .int
theorem nmJ2 : ∀ a, a < 0 → ∀ b, b < 0 → a ≠ b → (TJ2 a).2.1 ≠ (TJ2 b).2.1 := by decide +kernel
theorem tyJ2_ok : ∀ k, k < 0 → parseFieldDescriptor (TJ2 k).2.2.1 = some (tyJ2 k) := by decide +kernel
abbrev cJ2_getChar_3b067 : ByteArray := prog_14_method_5_code
def yJ2_getChar_3b067 : MethodName := ⟨RJ2, "getChar", "([BI)C"⟩
abbrev cJ2_length_9d52b : ByteArray := prog_14_method_6_code
def yJ2_length_9d52b : MethodName := ⟨RJ2, "length", "([B)I"⟩
abbrev cJ2_charAt_3b067 : ByteArray := prog_14_method_83_code
def yJ2_charAt_3b067 : MethodName := ⟨RJ2, "charAt", "([BI)C"⟩
abbrev cJ2_checkIndex_2214a : ByteArray := prog_14_method_91_code
def yJ2_checkIndex_2214a : MethodName := ⟨RJ2, "checkIndex", "(I[B)V"⟩
def RJ10 : String := "java/lang/System"
def TJ10 : u_T := fun k => match k with
  | _ => ("", "", "", false)
def tyJ10 : Nat → FieldType := fun k => match k with
  | _ => .int
theorem nmJ10 : ∀ a, a < 0 → ∀ b, b < 0 → a ≠ b → (TJ10 a).2.1 ≠ (TJ10 b).2.1 := by decide +kernel
theorem tyJ10_ok : ∀ k, k < 0 → parseFieldDescriptor (TJ10 k).2.2.1 = some (tyJ10 k) := by decide +kernel
def RJ3 : String := "jdk/internal/util/Preconditions"
def TJ3 : u_T := fun k => match k with
  | _ => ("", "", "", false)
def tyJ3 : Nat → FieldType := fun k => match k with
  | _ => .int
theorem nmJ3 : ∀ a, a < 0 → ∀ b, b < 0 → a ≠ b → (TJ3 a).2.1 ≠ (TJ3 b).2.1 := by decide +kernel
theorem tyJ3_ok : ∀ k, k < 0 → parseFieldDescriptor (TJ3 k).2.2.1 = some (tyJ3 k) := by decide +kernel
abbrev cJ3_checkIndex_8e157 : ByteArray := prog_16_method_11_code
def yJ3_checkIndex_8e157 : MethodName := ⟨RJ3, "checkIndex", "(IILjava/util/function/BiFunction;)I"⟩
def RL : String := "PrintRoomLaw"
abbrev cL_cell : ByteArray := method_2_code
def yL_cell : MethodName := ⟨RL, "cell", "([II)I"⟩
abbrev cL_low : ByteArray := method_3_code
def yL_low : MethodName := ⟨RL, "low", "(II)I"⟩
abbrev cL_print : ByteArray := method_4_code
def yL_print : MethodName := ⟨RL, "print", "(LPrintRoom;)J"⟩
abbrev cL_refused : ByteArray := method_5_code
def yL_refused : MethodName := ⟨RL, "refused", "(LPrintRoom;)Z"⟩
abbrev cL_areSheets : ByteArray := method_6_code
def yL_areSheets : MethodName := ⟨RL, "areSheets", "(LPrintRoom;)Z"⟩
abbrev cL_areJobs : ByteArray := method_7_code
def yL_areJobs : MethodName := ⟨RL, "areJobs", "(LPrintRoom;)Z"⟩
abbrev cL_isFilled : ByteArray := method_8_code
def yL_isFilled : MethodName := ⟨RL, "isFilled", "(LPrintRoom;II)Z"⟩
abbrev cL_isRun : ByteArray := method_9_code
def yL_isRun : MethodName := ⟨RL, "isRun", "(LPrintRoom;I)Z"⟩
abbrev cL_isFinished : ByteArray := method_10_code
def yL_isFinished : MethodName := ⟨RL, "isFinished", "(LPrintRoom;I)Z"⟩
abbrev cL_acts : ByteArray := method_11_code
def yL_acts : MethodName := ⟨RL, "acts", "(LPrintRoom;II)I"⟩
abbrev cL_law : ByteArray := code
def yL_law : MethodName := ⟨RL, "law", "([I)Z"⟩
abbrev vwCl : List vw_C := [(RX0, TX0, 2), (RX1, TX1, 15), (RX2, TX2, 6), (RX3, TX3, 6), (RX4, TX4, 9), (RX5, TX5, 4), (RX6, TX6, 3), (RX7, TX7, 6)]
