section
/-! ===== BEGIN words of one list among another's, by their places ===== -/
theorem goodIn_r {big : List Cond} (ws : List Cond) (ps : List Nat) (hp : ws = ps.filterMap (fun i => big[i]?)) (h : ws.all goodWord = true) : GoodIn big ws := by
  intro w hw
  have h1 := List.all_eq_true.mp h w hw
  rw [hp] at hw
  obtain ⟨i, -, hi⟩ := List.mem_filterMap.mp hw
  have hm : w ∈ big := by first | exact List.mem_of_getElem? hi | exact List.getElem?_mem hi
  exact ⟨hm, good_of_word h1⟩
theorem goodIn_app {big a b : List Cond} (ha : GoodIn big a) (hb : GoodIn big b) : GoodIn big (a ++ b) := fun w h => (List.mem_append.mp h).elim (ha w) (hb w)
theorem goodIn_ca {big a b : List Cond} {c : Cond} (ha : GoodIn big (c :: a)) (hb : GoodIn big b) : GoodIn big (c :: (a ++ b)) := fun w h => (List.mem_cons.mp h).elim (fun e => ha w (List.mem_cons.mpr (Or.inl e))) (fun h => (List.mem_append.mp h).elim (fun h => ha w (List.mem_cons.mpr (Or.inr h))) (hb w))
theorem goodIn_sub {big ws : List Cond} (hm : ∀ w ∈ ws, w ∈ big) (h : ws.all goodWord = true) : GoodIn big ws := fun w hw => ⟨hm w hw, good_of_word (List.all_eq_true.mp h w hw)⟩
/-! ===== END ===== -/

/-! ===== BEGIN printed: names, fields, word lists, decode rows ===== -/
def RX0 : String := "IslandHeap$Collector"
def TX0 : u_T := fun k => match k with
  | 0 => ("IslandHeap$Collector", "marked", "[Z", true)
  | 1 => ("IslandHeap$Collector", "stack", "[I", true)
  | 2 => ("IslandHeap$Collector", "stacked", "I", false)
  | 3 => ("IslandHeap$Collector", "deepest", "I", false)
  | 4 => ("IslandHeap$Collector", "scans", "I", false)
  | _ => ("IslandHeap$Collector", "overflow", "Z", false)
def tyX0 : Nat → FieldType := fun k => match k with
  | 0 => .array .boolean
  | 1 => .array .int
  | 2 => .int
  | 3 => .int
  | 4 => .int
  | _ => .boolean
abbrev wsX00 : List Cond := u_ws RX0 TX0 6
theorem nmX0 : ∀ a, a < 6 → ∀ b, b < 6 → a ≠ b → (TX0 a).2.1 ≠ (TX0 b).2.1 := by decide +kernel
theorem tyX0_ok : ∀ k, k < 6 → parseFieldDescriptor (TX0 k).2.2.1 = some (tyX0 k) := by decide +kernel
abbrev cX0_init : ByteArray := prog_2_method_1_code
def yX0_init : MethodName := ⟨RX0, "<init>", "()V"⟩
abbrev cX0_mark : ByteArray := prog_2_method_2_code
def yX0_mark : MethodName := ⟨RX0, "mark", "(LIslandHeap$Heap;)V"⟩
abbrev cX0_begin : ByteArray := prog_2_method_3_code
def yX0_begin : MethodName := ⟨RX0, "begin", "()V"⟩
abbrev cX0_visit : ByteArray := prog_2_method_4_code
def yX0_visit : MethodName := ⟨RX0, "visit", "(II)V"⟩
abbrev cX0_drain : ByteArray := prog_2_method_5_code
def yX0_drain : MethodName := ⟨RX0, "drain", "(LIslandHeap$Heap;)V"⟩
abbrev cX0_scan : ByteArray := prog_2_method_6_code
def yX0_scan : MethodName := ⟨RX0, "scan", "(LIslandHeap$Heap;)V"⟩
abbrev cX0_plan : ByteArray := prog_2_method_7_code
def yX0_plan : MethodName := ⟨RX0, "plan", "(LIslandHeap$Heap;)V"⟩
abbrev cX0_planObject : ByteArray := prog_2_method_8_code
def yX0_planObject : MethodName := ⟨RX0, "planObject", "(LIslandHeap$Heap;II)V"⟩
abbrev cX0_redirect : ByteArray := prog_2_method_9_code
def yX0_redirect : MethodName := ⟨RX0, "redirect", "(LIslandHeap$Heap;)V"⟩
abbrev cX0_redirectRow : ByteArray := prog_2_method_10_code
def yX0_redirectRow : MethodName := ⟨RX0, "redirectRow", "(LIslandHeap$Heap;[III)V"⟩
abbrev cX0_slide : ByteArray := prog_2_method_11_code
def yX0_slide : MethodName := ⟨RX0, "slide", "(LIslandHeap$Heap;)V"⟩
def RX1 : String := "IslandHeap$Heap"
def TX1 : u_T := fun k => match k with
  | 0 => ("IslandHeap$Heap", "words", "I", false)
  | 1 => ("IslandHeap$Heap", "depth", "I", false)
  | 2 => ("IslandHeap$Heap", "allocated", "I", false)
  | 3 => ("IslandHeap$Heap", "collections", "I", false)
  | 4 => ("IslandHeap$Heap", "freed", "I", false)
  | 5 => ("IslandHeap$Heap", "owner", "[I", true)
  | 6 => ("IslandHeap$Heap", "fieldCount", "[I", true)
  | 7 => ("IslandHeap$Heap", "dataCount", "[I", true)
  | 8 => ("IslandHeap$Heap", "pinned", "[I", true)
  | 9 => ("IslandHeap$Heap", "age", "[I", true)
  | 10 => ("IslandHeap$Heap", "content", "[I", true)
  | 11 => ("IslandHeap$Heap", "roots", "[I", true)
  | 12 => ("IslandHeap$Heap", "weaks", "[I", true)
  | 13 => ("IslandHeap$Heap", "movedTo", "[I", true)
  | _ => ("IslandHeap$Heap", "reports", "[I", true)
def tyX1 : Nat → FieldType := fun k => match k with
  | 0 => .int
  | 1 => .int
  | 2 => .int
  | 3 => .int
  | 4 => .int
  | 5 => .array .int
  | 6 => .array .int
  | 7 => .array .int
  | 8 => .array .int
  | 9 => .array .int
  | 10 => .array .int
  | 11 => .array .int
  | 12 => .array .int
  | 13 => .array .int
  | _ => .array .int
abbrev wsX10 : List Cond := u_ws RX1 TX1 15
theorem nmX1 : ∀ a, a < 15 → ∀ b, b < 15 → a ≠ b → (TX1 a).2.1 ≠ (TX1 b).2.1 := by decide +kernel
theorem tyX1_ok : ∀ k, k < 15 → parseFieldDescriptor (TX1 k).2.2.1 = some (tyX1 k) := by decide +kernel
abbrev cX1_init : ByteArray := prog_3_method_1_code
def yX1_init : MethodName := ⟨RX1, "<init>", "()V"⟩
abbrev cX1_empty : ByteArray := prog_3_method_2_code
def yX1_empty : MethodName := ⟨RX1, "empty", "(II)V"⟩
abbrev cX1_copyFrom : ByteArray := prog_3_method_3_code
def yX1_copyFrom : MethodName := ⟨RX1, "copyFrom", "(LIslandHeap$Heap;)V"⟩
abbrev cX1_isAddress : ByteArray := prog_3_method_4_code
def yX1_isAddress : MethodName := ⟨RX1, "isAddress", "(I)Z"⟩
abbrev cX1_objectAt : ByteArray := prog_3_method_5_code
def yX1_objectAt : MethodName := ⟨RX1, "objectAt", "(I)I"⟩
abbrev cX1_isObject : ByteArray := prog_3_method_6_code
def yX1_isObject : MethodName := ⟨RX1, "isObject", "(I)Z"⟩
abbrev cX1_isPinned : ByteArray := prog_3_method_7_code
def yX1_isPinned : MethodName := ⟨RX1, "isPinned", "(I)Z"⟩
abbrev cX1_isReference : ByteArray := prog_3_method_8_code
def yX1_isReference : MethodName := ⟨RX1, "isReference", "(I)Z"⟩
abbrev cX1_sizeOf : ByteArray := prog_3_method_9_code
def yX1_sizeOf : MethodName := ⟨RX1, "sizeOf", "(I)I"⟩
abbrev cX1_objectFrom : ByteArray := prog_3_method_10_code
def yX1_objectFrom : MethodName := ⟨RX1, "objectFrom", "(I)I"⟩
abbrev cX1_roomFor : ByteArray := prog_3_method_11_code
def yX1_roomFor : MethodName := ⟨RX1, "roomFor", "(I)I"⟩
abbrev cX1_place : ByteArray := prog_3_method_12_code
def yX1_place : MethodName := ⟨RX1, "place", "(III)V"⟩
abbrev cX1_shift : ByteArray := prog_3_method_13_code
def yX1_shift : MethodName := ⟨RX1, "shift", "(II)V"⟩
abbrev cX1_own : ByteArray := prog_3_method_14_code
def yX1_own : MethodName := ⟨RX1, "own", "(I)V"⟩
abbrev cX1_usedWords : ByteArray := prog_3_method_15_code
def yX1_usedWords : MethodName := ⟨RX1, "usedWords", "()I"⟩
abbrev cX1_objectCount : ByteArray := prog_3_method_16_code
def yX1_objectCount : MethodName := ⟨RX1, "objectCount", "()I"⟩
abbrev cX1_pinnedCount : ByteArray := prog_3_method_17_code
def yX1_pinnedCount : MethodName := ⟨RX1, "pinnedCount", "()I"⟩
def RX2 : String := "IslandHeap$Holes"
def TX2 : u_T := fun k => match k with
  | _ => ("IslandHeap$Holes", "numbers", "[I", true)
def tyX2 : Nat → FieldType := fun k => match k with
  | _ => .array .int
abbrev wsX20 : List Cond := u_ws RX2 TX2 1
theorem nmX2 : ∀ a, a < 1 → ∀ b, b < 1 → a ≠ b → (TX2 a).2.1 ≠ (TX2 b).2.1 := by decide +kernel
theorem tyX2_ok : ∀ k, k < 1 → parseFieldDescriptor (TX2 k).2.2.1 = some (tyX2 k) := by decide +kernel
abbrev cX2_init : ByteArray := prog_4_method_1_code
def yX2_init : MethodName := ⟨RX2, "<init>", "()V"⟩
abbrev cX2_measure : ByteArray := prog_4_method_2_code
def yX2_measure : MethodName := ⟨RX2, "measure", "(LIslandHeap$Heap;)V"⟩
abbrev cX2_include : ByteArray := prog_4_method_3_code
def yX2_include : MethodName := ⟨RX2, "include", "(II)V"⟩
def RX3 : String := "IslandHeap$Reach"
def TX3 : u_T := fun k => match k with
  | 0 => ("IslandHeap$Reach", "steps", "[I", true)
  | 1 => ("IslandHeap$Reach", "queue", "[I", true)
  | _ => ("IslandHeap$Reach", "queued", "I", false)
def tyX3 : Nat → FieldType := fun k => match k with
  | 0 => .array .int
  | 1 => .array .int
  | _ => .int
abbrev wsX30 : List Cond := u_ws RX3 TX3 3
theorem nmX3 : ∀ a, a < 3 → ∀ b, b < 3 → a ≠ b → (TX3 a).2.1 ≠ (TX3 b).2.1 := by decide +kernel
theorem tyX3_ok : ∀ k, k < 3 → parseFieldDescriptor (TX3 k).2.2.1 = some (tyX3 k) := by decide +kernel
abbrev cX3_init : ByteArray := prog_5_method_1_code
def yX3_init : MethodName := ⟨RX3, "<init>", "()V"⟩
abbrev cX3_trace : ByteArray := prog_5_method_2_code
def yX3_trace : MethodName := ⟨RX3, "trace", "(LIslandHeap$Heap;I)V"⟩
abbrev cX3_arrive : ByteArray := prog_5_method_3_code
def yX3_arrive : MethodName := ⟨RX3, "arrive", "(III)V"⟩
abbrev cX3_liveWords : ByteArray := prog_5_method_4_code
def yX3_liveWords : MethodName := ⟨RX3, "liveWords", "(LIslandHeap$Heap;)I"⟩
def RX4 : String := "IslandHeap$Referrers"
def TX4 : u_T := fun k => match k with
  | _ => ("IslandHeap$Referrers", "tallies", "[I", true)
def tyX4 : Nat → FieldType := fun k => match k with
  | _ => .array .int
abbrev wsX40 : List Cond := u_ws RX4 TX4 1
theorem nmX4 : ∀ a, a < 1 → ∀ b, b < 1 → a ≠ b → (TX4 a).2.1 ≠ (TX4 b).2.1 := by decide +kernel
theorem tyX4_ok : ∀ k, k < 1 → parseFieldDescriptor (TX4 k).2.2.1 = some (tyX4 k) := by decide +kernel
abbrev cX4_init : ByteArray := prog_6_method_1_code
def yX4_init : MethodName := ⟨RX4, "<init>", "()V"⟩
abbrev cX4_tally : ByteArray := prog_6_method_2_code
def yX4_tally : MethodName := ⟨RX4, "tally", "(LIslandHeap$Heap;)V"⟩
abbrev cX4_tallyRow : ByteArray := prog_6_method_3_code
def yX4_tallyRow : MethodName := ⟨RX4, "tallyRow", "(LIslandHeap$Heap;[III)V"⟩
def RX5 : String := "IslandHeap$Script"
def TX5 : u_T := fun k => match k with
  | 0 => ("IslandHeap$Script", "letters", "[I", true)
  | 1 => ("IslandHeap$Script", "length", "I", false)
  | 2 => ("IslandHeap$Script", "kinds", "[I", true)
  | 3 => ("IslandHeap$Script", "firsts", "[I", true)
  | 4 => ("IslandHeap$Script", "seconds", "[I", true)
  | 5 => ("IslandHeap$Script", "thirds", "[I", true)
  | 6 => ("IslandHeap$Script", "commands", "I", false)
  | 7 => ("IslandHeap$Script", "faultIndex", "I", false)
  | _ => ("IslandHeap$Script", "position", "I", false)
def tyX5 : Nat → FieldType := fun k => match k with
  | 0 => .array .int
  | 1 => .int
  | 2 => .array .int
  | 3 => .array .int
  | 4 => .array .int
  | 5 => .array .int
  | 6 => .int
  | 7 => .int
  | _ => .int
abbrev wsX50 : List Cond := u_ws RX5 TX5 9
theorem nmX5 : ∀ a, a < 9 → ∀ b, b < 9 → a ≠ b → (TX5 a).2.1 ≠ (TX5 b).2.1 := by decide +kernel
theorem tyX5_ok : ∀ k, k < 9 → parseFieldDescriptor (TX5 k).2.2.1 = some (tyX5 k) := by decide +kernel
abbrev cX5_init : ByteArray := prog_7_method_1_code
def yX5_init : MethodName := ⟨RX5, "<init>", "()V"⟩
abbrev cX5_read : ByteArray := prog_7_method_2_code
def yX5_read : MethodName := ⟨RX5, "read", "()V"⟩
abbrev cX5_readCommand : ByteArray := prog_7_method_3_code
def yX5_readCommand : MethodName := ⟨RX5, "readCommand", "(I)V"⟩
abbrev cX5_readPlace : ByteArray := prog_7_method_4_code
def yX5_readPlace : MethodName := ⟨RX5, "readPlace", "()I"⟩
abbrev cX5_readNumber : ByteArray := prog_7_method_5_code
def yX5_readNumber : MethodName := ⟨RX5, "readNumber", "()I"⟩
abbrev cX5_readDigit : ByteArray := prog_7_method_6_code
def yX5_readDigit : MethodName := ⟨RX5, "readDigit", "()I"⟩
abbrev cX5_readEnd : ByteArray := prog_7_method_7_code
def yX5_readEnd : MethodName := ⟨RX5, "readEnd", "()V"⟩
abbrev cX5_refuse : ByteArray := prog_7_method_8_code
def yX5_refuse : MethodName := ⟨RX5, "refuse", "()V"⟩
abbrev cX5_skipBlanks : ByteArray := prog_7_method_9_code
def yX5_skipBlanks : MethodName := ⟨RX5, "skipBlanks", "()V"⟩
abbrev cX5_letter : ByteArray := prog_7_method_10_code
def yX5_letter : MethodName := ⟨RX5, "letter", "()I"⟩
abbrev cX5_isDigit : ByteArray := prog_7_method_11_code
def yX5_isDigit : MethodName := ⟨RX5, "isDigit", "(I)Z"⟩
def RX6 : String := "IslandHeap"
def TX6 : u_T := fun k => match k with
  | 0 => ("IslandHeap", "heap", "LIslandHeap$Heap;", true)
  | 1 => ("IslandHeap", "saved", "[LIslandHeap$Heap;", true)
  | 2 => ("IslandHeap", "collector", "LIslandHeap$Collector;", true)
  | 3 => ("IslandHeap", "reach", "LIslandHeap$Reach;", true)
  | 4 => ("IslandHeap", "referrers", "LIslandHeap$Referrers;", true)
  | 5 => ("IslandHeap", "holes", "LIslandHeap$Holes;", true)
  | 6 => ("IslandHeap", "script", "LIslandHeap$Script;", true)
  | _ => ("IslandHeap", "latestRefusal", "I", false)
def tyX6 : Nat → FieldType := fun k => match k with
  | 0 => .object "IslandHeap$Heap"
  | 1 => .array (.object "IslandHeap$Heap")
  | 2 => .object "IslandHeap$Collector"
  | 3 => .object "IslandHeap$Reach"
  | 4 => .object "IslandHeap$Referrers"
  | 5 => .object "IslandHeap$Holes"
  | 6 => .object "IslandHeap$Script"
  | _ => .int
abbrev wsX60 : List Cond := u_ws RX6 TX6 8
theorem nmX6 : ∀ a, a < 8 → ∀ b, b < 8 → a ≠ b → (TX6 a).2.1 ≠ (TX6 b).2.1 := by decide +kernel
theorem tyX6_ok : ∀ k, k < 8 → parseFieldDescriptor (TX6 k).2.2.1 = some (tyX6 k) := by decide +kernel
abbrev cX6_init : ByteArray := prog_1_method_1_code
def yX6_init : MethodName := ⟨RX6, "<init>", "()V"⟩
abbrev cX6_reset : ByteArray := prog_1_method_2_code
def yX6_reset : MethodName := ⟨RX6, "reset", "(II)I"⟩
abbrev cX6_alloc : ByteArray := prog_1_method_3_code
def yX6_alloc : MethodName := ⟨RX6, "alloc", "(II)I"⟩
abbrev cX6_object : ByteArray := prog_1_method_4_code
def yX6_object : MethodName := ⟨RX6, "object", "(II)I"⟩
abbrev cX6_next : ByteArray := prog_1_method_5_code
def yX6_next : MethodName := ⟨RX6, "next", "(I)I"⟩
abbrev cX6_setField : ByteArray := prog_1_method_6_code
def yX6_setField : MethodName := ⟨RX6, "setField", "(III)I"⟩
abbrev cX6_field : ByteArray := prog_1_method_7_code
def yX6_field : MethodName := ⟨RX6, "field", "(II)I"⟩
abbrev cX6_setData : ByteArray := prog_1_method_8_code
def yX6_setData : MethodName := ⟨RX6, "setData", "(III)I"⟩
abbrev cX6_data : ByteArray := prog_1_method_9_code
def yX6_data : MethodName := ⟨RX6, "data", "(II)I"⟩
abbrev cX6_pin : ByteArray := prog_1_method_10_code
def yX6_pin : MethodName := ⟨RX6, "pin", "(IZ)I"⟩
abbrev cX6_setRoot : ByteArray := prog_1_method_11_code
def yX6_setRoot : MethodName := ⟨RX6, "setRoot", "(II)I"⟩
abbrev cX6_root : ByteArray := prog_1_method_12_code
def yX6_root : MethodName := ⟨RX6, "root", "(I)I"⟩
abbrev cX6_setWeak : ByteArray := prog_1_method_13_code
def yX6_setWeak : MethodName := ⟨RX6, "setWeak", "(II)I"⟩
abbrev cX6_weak : ByteArray := prog_1_method_14_code
def yX6_weak : MethodName := ⟨RX6, "weak", "(I)I"⟩
abbrev cX6_collect : ByteArray := prog_1_method_15_code
def yX6_collect : MethodName := ⟨RX6, "collect", "()I"⟩
abbrev cX6_moved : ByteArray := prog_1_method_16_code
def yX6_moved : MethodName := ⟨RX6, "moved", "(I)I"⟩
abbrev cX6_report : ByteArray := prog_1_method_17_code
def yX6_report : MethodName := ⟨RX6, "report", "(I)I"⟩
abbrev cX6_garbage : ByteArray := prog_1_method_18_code
def yX6_garbage : MethodName := ⟨RX6, "garbage", "()I"⟩
abbrev cX6_distance : ByteArray := prog_1_method_19_code
def yX6_distance : MethodName := ⟨RX6, "distance", "(I)I"⟩
abbrev cX6_retained : ByteArray := prog_1_method_20_code
def yX6_retained : MethodName := ⟨RX6, "retained", "(I)I"⟩
abbrev cX6_free : ByteArray := prog_1_method_21_code
def yX6_free : MethodName := ⟨RX6, "free", "(I)I"⟩
abbrev cX6_type : ByteArray := prog_1_method_22_code
def yX6_type : MethodName := ⟨RX6, "type", "(I)I"⟩
abbrev cX6_clearText : ByteArray := prog_1_method_23_code
def yX6_clearText : MethodName := ⟨RX6, "clearText", "()I"⟩
abbrev cX6_fault : ByteArray := prog_1_method_24_code
def yX6_fault : MethodName := ⟨RX6, "fault", "()I"⟩
abbrev cX6_run : ByteArray := prog_1_method_25_code
def yX6_run : MethodName := ⟨RX6, "run", "()I"⟩
abbrev cX6_refusal : ByteArray := prog_1_method_26_code
def yX6_refusal : MethodName := ⟨RX6, "refusal", "()I"⟩
abbrev cX6_save : ByteArray := prog_1_method_27_code
def yX6_save : MethodName := ⟨RX6, "save", "(I)I"⟩
abbrev cX6_restore : ByteArray := prog_1_method_28_code
def yX6_restore : MethodName := ⟨RX6, "restore", "(I)I"⟩
abbrev cX6_count : ByteArray := prog_1_method_29_code
def yX6_count : MethodName := ⟨RX6, "count", "(I)I"⟩
abbrev cX6_digest : ByteArray := prog_1_method_30_code
def yX6_digest : MethodName := ⟨RX6, "digest", "()J"⟩
abbrev cX6_absorbObjects : ByteArray := prog_1_method_31_code
def yX6_absorbObjects : MethodName := ⟨RX6, "absorbObjects", "(J)J"⟩
abbrev cX6_absorbRow : ByteArray := prog_1_method_32_code
def yX6_absorbRow : MethodName := ⟨RX6, "absorbRow", "(J[III)J"⟩
abbrev cX6_absorb : ByteArray := prog_1_method_33_code
def yX6_absorb : MethodName := ⟨RX6, "absorb", "(JI)J"⟩
abbrev cX6_property : ByteArray := prog_1_method_34_code
def yX6_property : MethodName := ⟨RX6, "property", "(II)I"⟩
abbrev cX6_fieldWord : ByteArray := prog_1_method_35_code
def yX6_fieldWord : MethodName := ⟨RX6, "fieldWord", "(II)I"⟩
abbrev cX6_dataWord : ByteArray := prog_1_method_36_code
def yX6_dataWord : MethodName := ⟨RX6, "dataWord", "(II)I"⟩
abbrev cX6_exchange : ByteArray := prog_1_method_37_code
def yX6_exchange : MethodName := ⟨RX6, "exchange", "([III)I"⟩
abbrev cX6_isError : ByteArray := prog_1_method_38_code
def yX6_isError : MethodName := ⟨RX6, "isError", "(I)Z"⟩
abbrev cX6_perform : ByteArray := prog_1_method_39_code
def yX6_perform : MethodName := ⟨RX6, "perform", "(I)I"⟩
def RX7 : String := "IslandHeapModel"
def TX7 : u_T := fun k => match k with
  | 0 => ("IslandHeapModel", "m", "[I", true)
  | 1 => ("IslandHeapModel", "old", "[I", true)
  | 2 => ("IslandHeapModel", "saved", "[I", true)
  | 3 => ("IslandHeapModel", "isSaved", "[Z", true)
  | 4 => ("IslandHeapModel", "text", "[I", true)
  | 5 => ("IslandHeapModel", "textLength", "I", false)
  | 6 => ("IslandHeapModel", "refused", "I", false)
  | 7 => ("IslandHeapModel", "far", "[I", true)
  | 8 => ("IslandHeapModel", "marked", "[Z", true)
  | 9 => ("IslandHeapModel", "stack", "[I", true)
  | 10 => ("IslandHeapModel", "top", "I", false)
  | 11 => ("IslandHeapModel", "highest", "I", false)
  | 12 => ("IslandHeapModel", "overflowed", "Z", false)
  | 13 => ("IslandHeapModel", "command", "[I", true)
  | 14 => ("IslandHeapModel", "commands", "I", false)
  | 15 => ("IslandHeapModel", "at", "I", false)
  | 16 => ("IslandHeapModel", "fault", "I", false)
  | _ => ("IslandHeapModel", "hash", "J", false)
def tyX7 : Nat → FieldType := fun k => match k with
  | 0 => .array .int
  | 1 => .array .int
  | 2 => .array .int
  | 3 => .array .boolean
  | 4 => .array .int
  | 5 => .int
  | 6 => .int
  | 7 => .array .int
  | 8 => .array .boolean
  | 9 => .array .int
  | 10 => .int
  | 11 => .int
  | 12 => .boolean
  | 13 => .array .int
  | 14 => .int
  | 15 => .int
  | 16 => .int
  | _ => .long
abbrev wsX70 : List Cond := u_ws RX7 TX7 18
theorem nmX7 : ∀ a, a < 18 → ∀ b, b < 18 → a ≠ b → (TX7 a).2.1 ≠ (TX7 b).2.1 := by decide +kernel
theorem tyX7_ok : ∀ k, k < 18 → parseFieldDescriptor (TX7 k).2.2.1 = some (tyX7 k) := by decide +kernel
abbrev cX7_init : ByteArray := prog_9_method_1_code
def yX7_init : MethodName := ⟨RX7, "<init>", "()V"⟩
abbrev cX7_in : ByteArray := prog_9_method_2_code
def yX7_in : MethodName := ⟨RX7, "in", "(III)Z"⟩
abbrev cX7_begins : ByteArray := prog_9_method_3_code
def yX7_begins : MethodName := ⟨RX7, "begins", "(II)V"⟩
abbrev cX7_reset : ByteArray := prog_9_method_4_code
def yX7_reset : MethodName := ⟨RX7, "reset", "(II)I"⟩
abbrev cX7_objectOf : ByteArray := prog_9_method_5_code
def yX7_objectOf : MethodName := ⟨RX7, "objectOf", "(I)I"⟩
abbrev cX7_isReference : ByteArray := prog_9_method_6_code
def yX7_isReference : MethodName := ⟨RX7, "isReference", "(I)Z"⟩
abbrev cX7_dataOf : ByteArray := prog_9_method_7_code
def yX7_dataOf : MethodName := ⟨RX7, "dataOf", "(I)I"⟩
abbrev cX7_alloc : ByteArray := prog_9_method_8_code
def yX7_alloc : MethodName := ⟨RX7, "alloc", "(II)I"⟩
abbrev cX7_lays : ByteArray := prog_9_method_9_code
def yX7_lays : MethodName := ⟨RX7, "lays", "(III)V"⟩
abbrev cX7_referring : ByteArray := prog_9_method_10_code
def yX7_referring : MethodName := ⟨RX7, "referring", "(I)I"⟩
abbrev cX7_starts : ByteArray := prog_9_method_11_code
def yX7_starts : MethodName := ⟨RX7, "starts", "(II)V"⟩
abbrev cX7_reaches : ByteArray := prog_9_method_12_code
def yX7_reaches : MethodName := ⟨RX7, "reaches", "(I)V"⟩
abbrev cX7_reachedWords : ByteArray := prog_9_method_13_code
def yX7_reachedWords : MethodName := ⟨RX7, "reachedWords", "()I"⟩
abbrev cX7_object : ByteArray := prog_9_method_14_code
def yX7_object : MethodName := ⟨RX7, "object", "(II)I"⟩
abbrev cX7_objectFrom : ByteArray := prog_9_method_15_code
def yX7_objectFrom : MethodName := ⟨RX7, "objectFrom", "(I)I"⟩
abbrev cX7_next : ByteArray := prog_9_method_16_code
def yX7_next : MethodName := ⟨RX7, "next", "(I)I"⟩
abbrev cX7_setField : ByteArray := prog_9_method_17_code
def yX7_setField : MethodName := ⟨RX7, "setField", "(III)I"⟩
abbrev cX7_field : ByteArray := prog_9_method_18_code
def yX7_field : MethodName := ⟨RX7, "field", "(II)I"⟩
abbrev cX7_setData : ByteArray := prog_9_method_19_code
def yX7_setData : MethodName := ⟨RX7, "setData", "(III)I"⟩
abbrev cX7_data : ByteArray := prog_9_method_20_code
def yX7_data : MethodName := ⟨RX7, "data", "(II)I"⟩
abbrev cX7_many : ByteArray := prog_9_method_21_code
def yX7_many : MethodName := ⟨RX7, "many", "(Z)I"⟩
abbrev cX7_pin : ByteArray := prog_9_method_22_code
def yX7_pin : MethodName := ⟨RX7, "pin", "(IZ)I"⟩
abbrev cX7_setsSlot : ByteArray := prog_9_method_23_code
def yX7_setsSlot : MethodName := ⟨RX7, "setsSlot", "(II)I"⟩
abbrev cX7_setRoot : ByteArray := prog_9_method_24_code
def yX7_setRoot : MethodName := ⟨RX7, "setRoot", "(II)I"⟩
abbrev cX7_root : ByteArray := prog_9_method_25_code
def yX7_root : MethodName := ⟨RX7, "root", "(I)I"⟩
abbrev cX7_setWeak : ByteArray := prog_9_method_26_code
def yX7_setWeak : MethodName := ⟨RX7, "setWeak", "(II)I"⟩
abbrev cX7_weak : ByteArray := prog_9_method_27_code
def yX7_weak : MethodName := ⟨RX7, "weak", "(I)I"⟩
abbrev cX7_reach : ByteArray := prog_9_method_28_code
def yX7_reach : MethodName := ⟨RX7, "reach", "(I)V"⟩
abbrev cX7_drains : ByteArray := prog_9_method_29_code
def yX7_drains : MethodName := ⟨RX7, "drains", "()V"⟩
abbrev cX7_scans : ByteArray := prog_9_method_30_code
def yX7_scans : MethodName := ⟨RX7, "scans", "()V"⟩
abbrev cX7_marks : ByteArray := prog_9_method_31_code
def yX7_marks : MethodName := ⟨RX7, "marks", "()I"⟩
abbrev cX7_gone : ByteArray := prog_9_method_32_code
def yX7_gone : MethodName := ⟨RX7, "gone", "(I)I"⟩
abbrev cX7_occupied : ByteArray := prog_9_method_33_code
def yX7_occupied : MethodName := ⟨RX7, "occupied", "()I"⟩
abbrev cX7_collect : ByteArray := prog_9_method_34_code
def yX7_collect : MethodName := ⟨RX7, "collect", "()I"⟩
abbrev cX7_rebuilds : ByteArray := prog_9_method_35_code
def yX7_rebuilds : MethodName := ⟨RX7, "rebuilds", "()V"⟩
abbrev cX7_moved : ByteArray := prog_9_method_36_code
def yX7_moved : MethodName := ⟨RX7, "moved", "(I)I"⟩
abbrev cX7_report : ByteArray := prog_9_method_37_code
def yX7_report : MethodName := ⟨RX7, "report", "(I)I"⟩
abbrev cX7_garbage : ByteArray := prog_9_method_38_code
def yX7_garbage : MethodName := ⟨RX7, "garbage", "()I"⟩
abbrev cX7_distance : ByteArray := prog_9_method_39_code
def yX7_distance : MethodName := ⟨RX7, "distance", "(I)I"⟩
abbrev cX7_retained : ByteArray := prog_9_method_40_code
def yX7_retained : MethodName := ⟨RX7, "retained", "(I)I"⟩
abbrev cX7_free : ByteArray := prog_9_method_41_code
def yX7_free : MethodName := ⟨RX7, "free", "(I)I"⟩
abbrev cX7_type : ByteArray := prog_9_method_42_code
def yX7_type : MethodName := ⟨RX7, "type", "(I)I"⟩
abbrev cX7_clearText : ByteArray := prog_9_method_43_code
def yX7_clearText : MethodName := ⟨RX7, "clearText", "()I"⟩
abbrev cX7_next_ : ByteArray := prog_9_method_44_code
def yX7_next_ : MethodName := ⟨RX7, "next", "()I"⟩
abbrev cX7_blanks : ByteArray := prog_9_method_45_code
def yX7_blanks : MethodName := ⟨RX7, "blanks", "()V"⟩
abbrev cX7_fails : ByteArray := prog_9_method_46_code
def yX7_fails : MethodName := ⟨RX7, "fails", "()V"⟩
abbrev cX7_isDigit : ByteArray := prog_9_method_47_code
def yX7_isDigit : MethodName := ⟨RX7, "isDigit", "()Z"⟩
abbrev cX7_digit : ByteArray := prog_9_method_48_code
def yX7_digit : MethodName := ⟨RX7, "digit", "()I"⟩
abbrev cX7_number : ByteArray := prog_9_method_49_code
def yX7_number : MethodName := ⟨RX7, "number", "()I"⟩
abbrev cX7_place : ByteArray := prog_9_method_50_code
def yX7_place : MethodName := ⟨RX7, "place", "()I"⟩
abbrev cX7_reads : ByteArray := prog_9_method_51_code
def yX7_reads : MethodName := ⟨RX7, "reads", "()V"⟩
abbrev cX7_fault : ByteArray := prog_9_method_52_code
def yX7_fault : MethodName := ⟨RX7, "fault", "()I"⟩
abbrev cX7_does : ByteArray := prog_9_method_53_code
def yX7_does : MethodName := ⟨RX7, "does", "(I)I"⟩
abbrev cX7_run : ByteArray := prog_9_method_54_code
def yX7_run : MethodName := ⟨RX7, "run", "()I"⟩
abbrev cX7_refusal : ByteArray := prog_9_method_55_code
def yX7_refusal : MethodName := ⟨RX7, "refusal", "()I"⟩
abbrev cX7_save : ByteArray := prog_9_method_56_code
def yX7_save : MethodName := ⟨RX7, "save", "(I)I"⟩
abbrev cX7_restore : ByteArray := prog_9_method_57_code
def yX7_restore : MethodName := ⟨RX7, "restore", "(I)I"⟩
abbrev cX7_count : ByteArray := prog_9_method_58_code
def yX7_count : MethodName := ⟨RX7, "count", "(I)I"⟩
abbrev cX7_mixes : ByteArray := prog_9_method_59_code
def yX7_mixes : MethodName := ⟨RX7, "mixes", "(I)V"⟩
abbrev cX7_digest : ByteArray := prog_9_method_60_code
def yX7_digest : MethodName := ⟨RX7, "digest", "()J"⟩
def RJ9 : String := "java/lang/Math"
def TJ9 : u_T := fun k => match k with
  | _ => ("", "", "", false)
def tyJ9 : Nat → FieldType := fun k => match k with
  | _ => .int
abbrev wsJ90 : List Cond := u_ws RJ9 TJ9 0
theorem nmJ9 : ∀ a, a < 0 → ∀ b, b < 0 → a ≠ b → (TJ9 a).2.1 ≠ (TJ9 b).2.1 := by decide +kernel
theorem tyJ9_ok : ∀ k, k < 0 → parseFieldDescriptor (TJ9 k).2.2.1 = some (tyJ9 k) := by decide +kernel
abbrev cJ9_max_7cf53 : ByteArray := prog_10_method_65_code
def yJ9_max_7cf53 : MethodName := ⟨RJ9, "max", "(II)I"⟩
def RJ10 : String := "java/lang/System"
def TJ10 : u_T := fun k => match k with
  | _ => ("", "", "", false)
def tyJ10 : Nat → FieldType := fun k => match k with
  | _ => .int
abbrev wsJ100 : List Cond := u_ws RJ10 TJ10 0
theorem nmJ10 : ∀ a, a < 0 → ∀ b, b < 0 → a ≠ b → (TJ10 a).2.1 ≠ (TJ10 b).2.1 := by decide +kernel
theorem tyJ10_ok : ∀ k, k < 0 → parseFieldDescriptor (TJ10 k).2.2.1 = some (tyJ10 k) := by decide +kernel
def RJ7 : String := "java/util/Arrays"
def TJ7 : u_T := fun k => match k with
  | _ => ("", "", "", false)
def tyJ7 : Nat → FieldType := fun k => match k with
  | _ => .int
abbrev wsJ70 : List Cond := u_ws RJ7 TJ7 0
theorem nmJ7 : ∀ a, a < 0 → ∀ b, b < 0 → a ≠ b → (TJ7 a).2.1 ≠ (TJ7 b).2.1 := by decide +kernel
theorem tyJ7_ok : ∀ k, k < 0 → parseFieldDescriptor (TJ7 k).2.2.1 = some (tyJ7 k) := by decide +kernel
abbrev cJ7_rangeCheck_23922 : ByteArray := prog_12_method_30_code
def yJ7_rangeCheck_23922 : MethodName := ⟨RJ7, "rangeCheck", "(III)V"⟩
abbrev cJ7_fill_53178 : ByteArray := prog_12_method_103_code
def yJ7_fill_53178 : MethodName := ⟨RJ7, "fill", "([II)V"⟩
abbrev cJ7_fill_fda19 : ByteArray := prog_12_method_104_code
def yJ7_fill_fda19 : MethodName := ⟨RJ7, "fill", "([IIII)V"⟩
def wsX0_init : List Cond := .code yX0_init cX0_init 1 none :: ([.methodLink RX0 3 objectInit, .instanceMethod objectInit, .code objectInit ⟨#[0xb1]⟩ 1 none, .arrayClass .boolean, .fieldLink RX0 9 "IslandHeap$Collector" "marked" "[Z", .arrayClass .int, .fieldLink RX0 15 "IslandHeap$Collector" "stack" "[I"] ++ wsX00)
def wsX0_begin : List Cond := .code yX0_begin cX0_begin 2 none :: ([.fieldLink RX0 9 "IslandHeap$Collector" "marked" "[Z", .fieldLink RX0 57 "IslandHeap$Collector" "stacked" "I", .fieldLink RX0 60 "IslandHeap$Collector" "deepest" "I", .fieldLink RX0 63 "IslandHeap$Collector" "scans" "I", .fieldLink RX0 50 "IslandHeap$Collector" "overflow" "Z"] ++ wsX00)
def wsX1_isAddress : List Cond := .code yX1_isAddress cX1_isAddress 2 (some .boolean) :: ([.fieldLink RX1 42 "IslandHeap$Heap" "words" "I"] ++ wsX10)
def wsX1_objectAt : List Cond := .code yX1_objectAt cX1_objectAt 2 (some .int) :: ([.fieldLink RX1 9 "IslandHeap$Heap" "owner" "[I", .methodLink RX1 70 yX1_isAddress, .instanceMethod yX1_isAddress, .selects RX1 yX1_isAddress yX1_isAddress, .initialized RX1, .code yX1_isAddress cX1_isAddress 2 (some .boolean), .fieldLink RX1 42 "IslandHeap$Heap" "words" "I"] ++ wsX10)
def wsX0_visit : List Cond := .code yX0_visit cX0_visit 3 none :: ([.fieldLink RX0 9 "IslandHeap$Collector" "marked" "[Z", .fieldLink RX0 57 "IslandHeap$Collector" "stacked" "I", .fieldLink RX0 50 "IslandHeap$Collector" "overflow" "Z", .fieldLink RX0 15 "IslandHeap$Collector" "stack" "[I", .fieldLink RX0 60 "IslandHeap$Collector" "deepest" "I"] ++ wsX00)
def wsX0_drain : List Cond := .code yX0_drain cX0_drain 5 none :: ([.fieldLink RX0 57 "IslandHeap$Collector" "stacked" "I", .fieldLink RX0 15 "IslandHeap$Collector" "stack" "[I", .fieldLink RX0 66 "IslandHeap$Heap" "fieldCount" "[I", .fieldLink RX0 69 "IslandHeap$Heap" "content" "[I", .fieldLink RX0 31 "IslandHeap$Heap" "depth" "I", .methodLink RX0 27 yX1_objectAt, .instanceMethod yX1_objectAt, .selects RX1 yX1_objectAt yX1_objectAt, .initialized RX1, .code yX1_objectAt cX1_objectAt 2 (some .int), .fieldLink RX1 9 "IslandHeap$Heap" "owner" "[I", .methodLink RX1 70 yX1_isAddress, .instanceMethod yX1_isAddress, .selects RX1 yX1_isAddress yX1_isAddress, .code yX1_isAddress cX1_isAddress 2 (some .boolean), .fieldLink RX1 42 "IslandHeap$Heap" "words" "I", .methodLink RX0 35 yX0_visit, .instanceMethod yX0_visit, .selects RX0 yX0_visit yX0_visit, .initialized RX0, .code yX0_visit cX0_visit 3 none, .fieldLink RX0 9 "IslandHeap$Collector" "marked" "[Z", .fieldLink RX0 50 "IslandHeap$Collector" "overflow" "Z", .fieldLink RX0 60 "IslandHeap$Collector" "deepest" "I"] ++ wsX00 ++ wsX10)
def wsX1_isObject : List Cond := .code yX1_isObject cX1_isObject 2 (some .boolean) :: ([.fieldLink RX1 9 "IslandHeap$Heap" "owner" "[I", .methodLink RX1 70 yX1_isAddress, .instanceMethod yX1_isAddress, .selects RX1 yX1_isAddress yX1_isAddress, .initialized RX1, .code yX1_isAddress cX1_isAddress 2 (some .boolean), .fieldLink RX1 42 "IslandHeap$Heap" "words" "I"] ++ wsX10)
def wsX1_isPinned : List Cond := .code yX1_isPinned cX1_isPinned 2 (some .boolean) :: ([.fieldLink RX1 21 "IslandHeap$Heap" "pinned" "[I", .methodLink RX1 74 yX1_isObject, .instanceMethod yX1_isObject, .selects RX1 yX1_isObject yX1_isObject, .initialized RX1, .code yX1_isObject cX1_isObject 2 (some .boolean), .fieldLink RX1 9 "IslandHeap$Heap" "owner" "[I", .methodLink RX1 70 yX1_isAddress, .instanceMethod yX1_isAddress, .selects RX1 yX1_isAddress yX1_isAddress, .code yX1_isAddress cX1_isAddress 2 (some .boolean), .fieldLink RX1 42 "IslandHeap$Heap" "words" "I"] ++ wsX10)
def wsX0_scan_r1 : List Cond := [Cond.fieldLink RX0 50 "IslandHeap$Collector" "overflow" "Z", Cond.fieldLink RX0 63 "IslandHeap$Collector" "scans" "I", Cond.fieldLink RX0 43 "IslandHeap$Heap" "words" "I", Cond.fieldLink RX0 9 "IslandHeap$Collector" "marked" "[Z", Cond.fieldLink RX0 66 "IslandHeap$Heap" "fieldCount" "[I", Cond.fieldLink RX0 69 "IslandHeap$Heap" "content" "[I", Cond.fieldLink RX0 31 "IslandHeap$Heap" "depth" "I", Cond.methodLink RX0 27 yX1_objectAt, Cond.instanceMethod yX1_objectAt, Cond.selects RX1 yX1_objectAt yX1_objectAt, Cond.initialized RX1, Cond.code yX1_objectAt cX1_objectAt 2 (some .int), Cond.fieldLink RX1 9 "IslandHeap$Heap" "owner" "[I", Cond.methodLink RX1 70 yX1_isAddress, Cond.instanceMethod yX1_isAddress, Cond.selects RX1 yX1_isAddress yX1_isAddress, Cond.code yX1_isAddress cX1_isAddress 2 (some .boolean), Cond.fieldLink RX1 42 "IslandHeap$Heap" "words" "I", Cond.methodLink RX0 35 yX0_visit, Cond.instanceMethod yX0_visit, Cond.selects RX0 yX0_visit yX0_visit, Cond.initialized RX0, Cond.code yX0_visit cX0_visit 3 none, Cond.fieldLink RX0 57 "IslandHeap$Collector" "stacked" "I"]
def wsX0_scan_r2 : List Cond := [Cond.fieldLink RX0 15 "IslandHeap$Collector" "stack" "[I", Cond.fieldLink RX0 60 "IslandHeap$Collector" "deepest" "I", Cond.methodLink RX0 39 yX0_drain, Cond.instanceMethod yX0_drain, Cond.selects RX0 yX0_drain yX0_drain, Cond.code yX0_drain cX0_drain 5 none]
def wsX0_scan : List Cond := .code yX0_scan cX0_scan 4 none :: ((wsX0_scan_r1 ++ wsX0_scan_r2) ++ wsX00 ++ wsX10)
def wsX0_mark_r1 : List Cond := [Cond.fieldLink RX0 22 "IslandHeap$Heap" "roots" "[I", Cond.fieldLink RX0 31 "IslandHeap$Heap" "depth" "I", Cond.fieldLink RX0 43 "IslandHeap$Heap" "words" "I", Cond.fieldLink RX0 50 "IslandHeap$Collector" "overflow" "Z", Cond.methodLink RX0 19 yX0_begin, Cond.instanceMethod yX0_begin, Cond.selects RX0 yX0_begin yX0_begin, Cond.initialized RX0, Cond.code yX0_begin cX0_begin 2 none, Cond.fieldLink RX0 9 "IslandHeap$Collector" "marked" "[Z", Cond.fieldLink RX0 57 "IslandHeap$Collector" "stacked" "I", Cond.fieldLink RX0 60 "IslandHeap$Collector" "deepest" "I", Cond.fieldLink RX0 63 "IslandHeap$Collector" "scans" "I", Cond.methodLink RX0 27 yX1_objectAt, Cond.instanceMethod yX1_objectAt, Cond.selects RX1 yX1_objectAt yX1_objectAt, Cond.initialized RX1, Cond.code yX1_objectAt cX1_objectAt 2 (some .int), Cond.fieldLink RX1 9 "IslandHeap$Heap" "owner" "[I", Cond.methodLink RX1 70 yX1_isAddress, Cond.instanceMethod yX1_isAddress, Cond.selects RX1 yX1_isAddress yX1_isAddress, Cond.code yX1_isAddress cX1_isAddress 2 (some .boolean), Cond.fieldLink RX1 42 "IslandHeap$Heap" "words" "I"]
def wsX0_mark_r2 : List Cond := [Cond.methodLink RX0 35 yX0_visit, Cond.instanceMethod yX0_visit, Cond.selects RX0 yX0_visit yX0_visit, Cond.code yX0_visit cX0_visit 3 none, Cond.fieldLink RX0 15 "IslandHeap$Collector" "stack" "[I", Cond.methodLink RX0 39 yX0_drain, Cond.instanceMethod yX0_drain, Cond.selects RX0 yX0_drain yX0_drain, Cond.code yX0_drain cX0_drain 5 none, Cond.fieldLink RX0 66 "IslandHeap$Heap" "fieldCount" "[I", Cond.fieldLink RX0 69 "IslandHeap$Heap" "content" "[I", Cond.methodLink RX0 46 yX1_isPinned, Cond.instanceMethod yX1_isPinned, Cond.selects RX1 yX1_isPinned yX1_isPinned, Cond.code yX1_isPinned cX1_isPinned 2 (some .boolean), Cond.fieldLink RX1 21 "IslandHeap$Heap" "pinned" "[I", Cond.methodLink RX1 74 yX1_isObject, Cond.instanceMethod yX1_isObject, Cond.selects RX1 yX1_isObject yX1_isObject, Cond.code yX1_isObject cX1_isObject 2 (some .boolean), Cond.methodLink RX0 54 yX0_scan, Cond.instanceMethod yX0_scan, Cond.selects RX0 yX0_scan yX0_scan, Cond.code yX0_scan cX0_scan 4 none]
def wsX0_mark : List Cond := .code yX0_mark cX0_mark 3 none :: ((wsX0_mark_r1 ++ wsX0_mark_r2) ++ wsX10 ++ wsX00)
def wsJ7_fill_53178 : List Cond := .code yJ7_fill_53178 cJ7_fill_53178 4 none :: ([])
def wsX1_sizeOf : List Cond := .code yX1_sizeOf cX1_sizeOf 2 (some .int) :: ([.fieldLink RX1 15 "IslandHeap$Heap" "fieldCount" "[I", .fieldLink RX1 18 "IslandHeap$Heap" "dataCount" "[I"] ++ wsX10)
def wsX0_planObject : List Cond := .code yX0_planObject cX0_planObject 6 none :: ([.fieldLink RX0 72 "IslandHeap$Heap" "movedTo" "[I", .fieldLink RX0 81 "IslandHeap$Heap" "reports" "[I", .methodLink RX0 88 yX1_sizeOf, .instanceMethod yX1_sizeOf, .selects RX1 yX1_sizeOf yX1_sizeOf, .initialized RX1, .code yX1_sizeOf cX1_sizeOf 2 (some .int), .fieldLink RX1 15 "IslandHeap$Heap" "fieldCount" "[I", .fieldLink RX1 18 "IslandHeap$Heap" "dataCount" "[I"] ++ wsX10)
def wsX0_plan_r1 : List Cond := [Cond.fieldLink RX0 72 "IslandHeap$Heap" "movedTo" "[I", Cond.fieldLink RX0 81 "IslandHeap$Heap" "reports" "[I", Cond.fieldLink RX0 63 "IslandHeap$Collector" "scans" "I", Cond.fieldLink RX0 60 "IslandHeap$Collector" "deepest" "I", Cond.fieldLink RX0 43 "IslandHeap$Heap" "words" "I", Cond.fieldLink RX0 9 "IslandHeap$Collector" "marked" "[Z", Cond.methodLink RX0 75 yJ7_fill_53178, Cond.static yJ7_fill_53178, Cond.initialized RJ7, Cond.code yJ7_fill_53178 cJ7_fill_53178 4 none, Cond.methodLink RX0 46 yX1_isPinned, Cond.instanceMethod yX1_isPinned, Cond.selects RX1 yX1_isPinned yX1_isPinned, Cond.initialized RX1, Cond.code yX1_isPinned cX1_isPinned 2 (some .boolean), Cond.fieldLink RX1 21 "IslandHeap$Heap" "pinned" "[I", Cond.methodLink RX1 74 yX1_isObject, Cond.instanceMethod yX1_isObject, Cond.selects RX1 yX1_isObject yX1_isObject, Cond.code yX1_isObject cX1_isObject 2 (some .boolean), Cond.fieldLink RX1 9 "IslandHeap$Heap" "owner" "[I", Cond.methodLink RX1 70 yX1_isAddress, Cond.instanceMethod yX1_isAddress, Cond.selects RX1 yX1_isAddress yX1_isAddress]
def wsX0_plan_r2 : List Cond := [Cond.code yX1_isAddress cX1_isAddress 2 (some .boolean), Cond.fieldLink RX1 42 "IslandHeap$Heap" "words" "I", Cond.methodLink RX0 84 yX0_planObject, Cond.instanceMethod yX0_planObject, Cond.selects RX0 yX0_planObject yX0_planObject, Cond.initialized RX0, Cond.code yX0_planObject cX0_planObject 6 none, Cond.methodLink RX0 88 yX1_sizeOf, Cond.instanceMethod yX1_sizeOf, Cond.selects RX1 yX1_sizeOf yX1_sizeOf, Cond.code yX1_sizeOf cX1_sizeOf 2 (some .int), Cond.fieldLink RX1 15 "IslandHeap$Heap" "fieldCount" "[I", Cond.fieldLink RX1 18 "IslandHeap$Heap" "dataCount" "[I"]
def wsX0_plan : List Cond := .code yX0_plan cX0_plan 5 none :: ((wsX0_plan_r1 ++ wsX0_plan_r2) ++ wsX10 ++ wsX00)
def wsX0_redirectRow : List Cond := .code yX0_redirectRow cX0_redirectRow 6 none :: ([.fieldLink RX0 72 "IslandHeap$Heap" "movedTo" "[I", .methodLink RX0 98 yX1_isAddress, .instanceMethod yX1_isAddress, .selects RX1 yX1_isAddress yX1_isAddress, .initialized RX1, .code yX1_isAddress cX1_isAddress 2 (some .boolean), .fieldLink RX1 42 "IslandHeap$Heap" "words" "I"] ++ wsX10)
def wsX0_redirect : List Cond := .code yX0_redirect cX0_redirect 3 none :: ([.fieldLink RX0 22 "IslandHeap$Heap" "roots" "[I", .fieldLink RX0 95 "IslandHeap$Heap" "weaks" "[I", .fieldLink RX0 43 "IslandHeap$Heap" "words" "I", .fieldLink RX0 9 "IslandHeap$Collector" "marked" "[Z", .fieldLink RX0 69 "IslandHeap$Heap" "content" "[I", .fieldLink RX0 66 "IslandHeap$Heap" "fieldCount" "[I", .methodLink RX0 91 yX0_redirectRow, .instanceMethod yX0_redirectRow, .selects RX0 yX0_redirectRow yX0_redirectRow, .initialized RX0, .code yX0_redirectRow cX0_redirectRow 6 none, .fieldLink RX0 72 "IslandHeap$Heap" "movedTo" "[I", .methodLink RX0 98 yX1_isAddress, .instanceMethod yX1_isAddress, .selects RX1 yX1_isAddress yX1_isAddress, .initialized RX1, .code yX1_isAddress cX1_isAddress 2 (some .boolean), .fieldLink RX1 42 "IslandHeap$Heap" "words" "I"] ++ wsX10 ++ wsX00)
def wsJ7_rangeCheck_23922 : List Cond := .code yJ7_rangeCheck_23922 cJ7_rangeCheck_23922 3 none :: ([])
def wsJ7_fill_fda19 : List Cond := .code yJ7_fill_fda19 cJ7_fill_fda19 5 none :: ([.methodLink RJ7 13 yJ7_rangeCheck_23922, .static yJ7_rangeCheck_23922, .initialized RJ7, .code yJ7_rangeCheck_23922 cJ7_rangeCheck_23922 3 none])
def wsX1_own : List Cond := .code yX1_own cX1_own 2 none :: ([.fieldLink RX1 9 "IslandHeap$Heap" "owner" "[I", .methodLink RX1 88 yX1_sizeOf, .instanceMethod yX1_sizeOf, .selects RX1 yX1_sizeOf yX1_sizeOf, .initialized RX1, .code yX1_sizeOf cX1_sizeOf 2 (some .int), .fieldLink RX1 15 "IslandHeap$Heap" "fieldCount" "[I", .fieldLink RX1 18 "IslandHeap$Heap" "dataCount" "[I", .methodLink RX1 81 yJ7_fill_fda19, .static yJ7_fill_fda19, .initialized RJ7, .code yJ7_fill_fda19 cJ7_fill_fda19 5 none, .methodLink RJ7 13 yJ7_rangeCheck_23922, .static yJ7_rangeCheck_23922, .code yJ7_rangeCheck_23922 cJ7_rangeCheck_23922 3 none] ++ wsX10)
def wsX1_shift_r1 : List Cond := [Cond.fieldLink RX1 15 "IslandHeap$Heap" "fieldCount" "[I", Cond.fieldLink RX1 18 "IslandHeap$Heap" "dataCount" "[I", Cond.fieldLink RX1 21 "IslandHeap$Heap" "pinned" "[I", Cond.fieldLink RX1 24 "IslandHeap$Heap" "age" "[I", Cond.fieldLink RX1 27 "IslandHeap$Heap" "content" "[I", Cond.methodLink RX1 64 arraycopyName, Cond.native arraycopyName, Cond.static arraycopyName, Cond.initialized "java/lang/System", Cond.methodLink RX1 88 yX1_sizeOf, Cond.instanceMethod yX1_sizeOf, Cond.selects RX1 yX1_sizeOf yX1_sizeOf, Cond.initialized RX1, Cond.code yX1_sizeOf cX1_sizeOf 2 (some .int), Cond.methodLink RX1 84 yX1_own, Cond.instanceMethod yX1_own, Cond.selects RX1 yX1_own yX1_own, Cond.code yX1_own cX1_own 2 none, Cond.fieldLink RX1 9 "IslandHeap$Heap" "owner" "[I", Cond.methodLink RX1 81 yJ7_fill_fda19, Cond.static yJ7_fill_fda19, Cond.initialized RJ7, Cond.code yJ7_fill_fda19 cJ7_fill_fda19 5 none, Cond.methodLink RJ7 13 yJ7_rangeCheck_23922]
def wsX1_shift_r2 : List Cond := [Cond.static yJ7_rangeCheck_23922, Cond.code yJ7_rangeCheck_23922 cJ7_rangeCheck_23922 3 none]
def wsX1_shift : List Cond := .code yX1_shift cX1_shift 3 none :: ((wsX1_shift_r1 ++ wsX1_shift_r2) ++ wsX10)
def wsX0_slide_r1 : List Cond := [Cond.fieldLink RX0 101 "IslandHeap$Heap" "owner" "[I", Cond.fieldLink RX0 43 "IslandHeap$Heap" "words" "I", Cond.fieldLink RX0 9 "IslandHeap$Collector" "marked" "[Z", Cond.fieldLink RX0 72 "IslandHeap$Heap" "movedTo" "[I", Cond.methodLink RX0 75 yJ7_fill_53178, Cond.static yJ7_fill_53178, Cond.initialized RJ7, Cond.code yJ7_fill_53178 cJ7_fill_53178 4 none, Cond.methodLink RX0 98 yX1_isAddress, Cond.instanceMethod yX1_isAddress, Cond.selects RX1 yX1_isAddress yX1_isAddress, Cond.initialized RX1, Cond.code yX1_isAddress cX1_isAddress 2 (some .boolean), Cond.fieldLink RX1 42 "IslandHeap$Heap" "words" "I", Cond.methodLink RX0 104 yX1_shift, Cond.instanceMethod yX1_shift, Cond.selects RX1 yX1_shift yX1_shift, Cond.code yX1_shift cX1_shift 3 none, Cond.fieldLink RX1 15 "IslandHeap$Heap" "fieldCount" "[I", Cond.fieldLink RX1 18 "IslandHeap$Heap" "dataCount" "[I", Cond.fieldLink RX1 21 "IslandHeap$Heap" "pinned" "[I", Cond.fieldLink RX1 24 "IslandHeap$Heap" "age" "[I", Cond.fieldLink RX1 27 "IslandHeap$Heap" "content" "[I", Cond.methodLink RX1 64 arraycopyName]
def wsX0_slide_r2 : List Cond := [Cond.native arraycopyName, Cond.static arraycopyName, Cond.initialized "java/lang/System", Cond.methodLink RX1 88 yX1_sizeOf, Cond.instanceMethod yX1_sizeOf, Cond.selects RX1 yX1_sizeOf yX1_sizeOf, Cond.code yX1_sizeOf cX1_sizeOf 2 (some .int), Cond.methodLink RX1 84 yX1_own, Cond.instanceMethod yX1_own, Cond.selects RX1 yX1_own yX1_own, Cond.code yX1_own cX1_own 2 none, Cond.fieldLink RX1 9 "IslandHeap$Heap" "owner" "[I", Cond.methodLink RX1 81 yJ7_fill_fda19, Cond.static yJ7_fill_fda19, Cond.code yJ7_fill_fda19 cJ7_fill_fda19 5 none, Cond.methodLink RJ7 13 yJ7_rangeCheck_23922, Cond.static yJ7_rangeCheck_23922, Cond.code yJ7_rangeCheck_23922 cJ7_rangeCheck_23922 3 none]
def wsX0_slide : List Cond := .code yX0_slide cX0_slide 3 none :: ((wsX0_slide_r1 ++ wsX0_slide_r2) ++ wsX10 ++ wsX00)
def wsX1_init : List Cond := .code yX1_init cX1_init 1 none :: ([.methodLink RX1 3 objectInit, .instanceMethod objectInit, .code objectInit ⟨#[0xb1]⟩ 1 none, .arrayClass .int, .fieldLink RX1 9 "IslandHeap$Heap" "owner" "[I", .fieldLink RX1 15 "IslandHeap$Heap" "fieldCount" "[I", .fieldLink RX1 18 "IslandHeap$Heap" "dataCount" "[I", .fieldLink RX1 21 "IslandHeap$Heap" "pinned" "[I", .fieldLink RX1 24 "IslandHeap$Heap" "age" "[I", .fieldLink RX1 27 "IslandHeap$Heap" "content" "[I", .fieldLink RX1 30 "IslandHeap$Heap" "roots" "[I", .fieldLink RX1 33 "IslandHeap$Heap" "weaks" "[I", .fieldLink RX1 36 "IslandHeap$Heap" "movedTo" "[I", .fieldLink RX1 39 "IslandHeap$Heap" "reports" "[I"] ++ wsX10)
def wsX1_empty : List Cond := .code yX1_empty cX1_empty 3 none :: ([.fieldLink RX1 42 "IslandHeap$Heap" "words" "I", .fieldLink RX1 46 "IslandHeap$Heap" "depth" "I", .fieldLink RX1 49 "IslandHeap$Heap" "allocated" "I", .fieldLink RX1 52 "IslandHeap$Heap" "collections" "I", .fieldLink RX1 55 "IslandHeap$Heap" "freed" "I", .fieldLink RX1 9 "IslandHeap$Heap" "owner" "[I", .fieldLink RX1 30 "IslandHeap$Heap" "roots" "[I", .fieldLink RX1 33 "IslandHeap$Heap" "weaks" "[I", .methodLink RX1 58 yJ7_fill_53178, .static yJ7_fill_53178, .initialized RJ7, .code yJ7_fill_53178 cJ7_fill_53178 4 none] ++ wsX10)
def wsX1_copyFrom : List Cond := .code yX1_copyFrom cX1_copyFrom 2 none :: ([.fieldLink RX1 42 "IslandHeap$Heap" "words" "I", .fieldLink RX1 46 "IslandHeap$Heap" "depth" "I", .fieldLink RX1 49 "IslandHeap$Heap" "allocated" "I", .fieldLink RX1 52 "IslandHeap$Heap" "collections" "I", .fieldLink RX1 55 "IslandHeap$Heap" "freed" "I", .fieldLink RX1 9 "IslandHeap$Heap" "owner" "[I", .methodLink RX1 64 arraycopyName, .native arraycopyName, .static arraycopyName, .initialized "java/lang/System", .fieldLink RX1 15 "IslandHeap$Heap" "fieldCount" "[I", .fieldLink RX1 18 "IslandHeap$Heap" "dataCount" "[I", .fieldLink RX1 21 "IslandHeap$Heap" "pinned" "[I", .fieldLink RX1 24 "IslandHeap$Heap" "age" "[I", .fieldLink RX1 27 "IslandHeap$Heap" "content" "[I", .fieldLink RX1 30 "IslandHeap$Heap" "roots" "[I", .fieldLink RX1 33 "IslandHeap$Heap" "weaks" "[I", .fieldLink RX1 36 "IslandHeap$Heap" "movedTo" "[I", .fieldLink RX1 39 "IslandHeap$Heap" "reports" "[I"] ++ wsX10)
def wsX1_isReference : List Cond := .code yX1_isReference cX1_isReference 2 (some .boolean) :: ([.methodLink RX1 77 yX1_objectAt, .instanceMethod yX1_objectAt, .selects RX1 yX1_objectAt yX1_objectAt, .initialized RX1, .code yX1_objectAt cX1_objectAt 2 (some .int), .fieldLink RX1 9 "IslandHeap$Heap" "owner" "[I", .methodLink RX1 70 yX1_isAddress, .instanceMethod yX1_isAddress, .selects RX1 yX1_isAddress yX1_isAddress, .code yX1_isAddress cX1_isAddress 2 (some .boolean), .fieldLink RX1 42 "IslandHeap$Heap" "words" "I"] ++ wsX10)
def wsX1_objectFrom : List Cond := .code yX1_objectFrom cX1_objectFrom 3 (some .int) :: ([.fieldLink RX1 42 "IslandHeap$Heap" "words" "I", .methodLink RX1 74 yX1_isObject, .instanceMethod yX1_isObject, .selects RX1 yX1_isObject yX1_isObject, .initialized RX1, .code yX1_isObject cX1_isObject 2 (some .boolean), .fieldLink RX1 9 "IslandHeap$Heap" "owner" "[I", .methodLink RX1 70 yX1_isAddress, .instanceMethod yX1_isAddress, .selects RX1 yX1_isAddress yX1_isAddress, .code yX1_isAddress cX1_isAddress 2 (some .boolean)] ++ wsX10)
def wsX1_roomFor : List Cond := .code yX1_roomFor cX1_roomFor 4 (some .int) :: ([.fieldLink RX1 42 "IslandHeap$Heap" "words" "I", .fieldLink RX1 9 "IslandHeap$Heap" "owner" "[I"] ++ wsX10)
def wsX1_place : List Cond := .code yX1_place cX1_place 5 none :: ([.fieldLink RX1 15 "IslandHeap$Heap" "fieldCount" "[I", .fieldLink RX1 18 "IslandHeap$Heap" "dataCount" "[I", .fieldLink RX1 21 "IslandHeap$Heap" "pinned" "[I", .fieldLink RX1 24 "IslandHeap$Heap" "age" "[I", .fieldLink RX1 27 "IslandHeap$Heap" "content" "[I", .fieldLink RX1 49 "IslandHeap$Heap" "allocated" "I", .methodLink RX1 81 yJ7_fill_fda19, .static yJ7_fill_fda19, .initialized RJ7, .code yJ7_fill_fda19 cJ7_fill_fda19 5 none, .methodLink RJ7 13 yJ7_rangeCheck_23922, .static yJ7_rangeCheck_23922, .code yJ7_rangeCheck_23922 cJ7_rangeCheck_23922 3 none, .methodLink RX1 84 yX1_own, .instanceMethod yX1_own, .selects RX1 yX1_own yX1_own, .initialized RX1, .code yX1_own cX1_own 2 none, .fieldLink RX1 9 "IslandHeap$Heap" "owner" "[I", .methodLink RX1 88 yX1_sizeOf, .instanceMethod yX1_sizeOf, .selects RX1 yX1_sizeOf yX1_sizeOf, .code yX1_sizeOf cX1_sizeOf 2 (some .int)] ++ wsX10)
def wsX1_usedWords : List Cond := .code yX1_usedWords cX1_usedWords 3 (some .int) :: ([.fieldLink RX1 42 "IslandHeap$Heap" "words" "I", .fieldLink RX1 9 "IslandHeap$Heap" "owner" "[I"] ++ wsX10)
def wsX1_objectCount : List Cond := .code yX1_objectCount cX1_objectCount 3 (some .int) :: ([.fieldLink RX1 42 "IslandHeap$Heap" "words" "I", .methodLink RX1 74 yX1_isObject, .instanceMethod yX1_isObject, .selects RX1 yX1_isObject yX1_isObject, .initialized RX1, .code yX1_isObject cX1_isObject 2 (some .boolean), .fieldLink RX1 9 "IslandHeap$Heap" "owner" "[I", .methodLink RX1 70 yX1_isAddress, .instanceMethod yX1_isAddress, .selects RX1 yX1_isAddress yX1_isAddress, .code yX1_isAddress cX1_isAddress 2 (some .boolean)] ++ wsX10)
def wsX1_pinnedCount : List Cond := .code yX1_pinnedCount cX1_pinnedCount 3 (some .int) :: ([.fieldLink RX1 42 "IslandHeap$Heap" "words" "I", .methodLink RX1 91 yX1_isPinned, .instanceMethod yX1_isPinned, .selects RX1 yX1_isPinned yX1_isPinned, .initialized RX1, .code yX1_isPinned cX1_isPinned 2 (some .boolean), .fieldLink RX1 21 "IslandHeap$Heap" "pinned" "[I", .methodLink RX1 74 yX1_isObject, .instanceMethod yX1_isObject, .selects RX1 yX1_isObject yX1_isObject, .code yX1_isObject cX1_isObject 2 (some .boolean), .fieldLink RX1 9 "IslandHeap$Heap" "owner" "[I", .methodLink RX1 70 yX1_isAddress, .instanceMethod yX1_isAddress, .selects RX1 yX1_isAddress yX1_isAddress, .code yX1_isAddress cX1_isAddress 2 (some .boolean)] ++ wsX10)
def wsX2_init : List Cond := .code yX2_init cX2_init 1 none :: ([.methodLink RX2 3 objectInit, .instanceMethod objectInit, .code objectInit ⟨#[0xb1]⟩ 1 none, .arrayClass .int, .fieldLink RX2 9 "IslandHeap$Holes" "numbers" "[I"] ++ wsX20)
def wsX2_include : List Cond := .code yX2_include cX2_include 3 none :: ([.fieldLink RX2 9 "IslandHeap$Holes" "numbers" "[I", .methodLink RX2 34 Lib.Math.max.name, .static Lib.Math.max.name, .initialized "java/lang/Math", .code Lib.Math.max.name Lib.Math.max.code 2 (some .int)] ++ wsX20)
def wsX2_measure : List Cond := .code yX2_measure cX2_measure 4 none :: ([.fieldLink RX2 9 "IslandHeap$Holes" "numbers" "[I", .fieldLink RX2 21 "IslandHeap$Heap" "words" "I", .fieldLink RX2 27 "IslandHeap$Heap" "owner" "[I", .methodLink RX2 15 yJ7_fill_53178, .static yJ7_fill_53178, .initialized RJ7, .code yJ7_fill_53178 cJ7_fill_53178 4 none, .methodLink RX2 30 yX2_include, .instanceMethod yX2_include, .selects RX2 yX2_include yX2_include, .initialized RX2, .code yX2_include cX2_include 3 none, .methodLink RX2 34 Lib.Math.max.name, .static Lib.Math.max.name, .initialized "java/lang/Math", .code Lib.Math.max.name Lib.Math.max.code 2 (some .int)] ++ wsX20 ++ wsX10)
def wsX3_init : List Cond := .code yX3_init cX3_init 1 none :: ([.methodLink RX3 3 objectInit, .instanceMethod objectInit, .code objectInit ⟨#[0xb1]⟩ 1 none, .arrayClass .int, .fieldLink RX3 9 "IslandHeap$Reach" "steps" "[I", .fieldLink RX3 15 "IslandHeap$Reach" "queue" "[I"] ++ wsX30)
def wsX3_arrive : List Cond := .code yX3_arrive cX3_arrive 4 none :: ([.fieldLink RX3 9 "IslandHeap$Reach" "steps" "[I", .fieldLink RX3 24 "IslandHeap$Reach" "queued" "I", .fieldLink RX3 15 "IslandHeap$Reach" "queue" "[I"] ++ wsX30)
def wsX3_trace_r1 : List Cond := [Cond.fieldLink RX3 9 "IslandHeap$Reach" "steps" "[I", Cond.fieldLink RX3 24 "IslandHeap$Reach" "queued" "I", Cond.fieldLink RX3 28 "IslandHeap$Heap" "roots" "[I", Cond.fieldLink RX3 41 "IslandHeap$Heap" "words" "I", Cond.fieldLink RX3 15 "IslandHeap$Reach" "queue" "[I", Cond.fieldLink RX3 48 "IslandHeap$Heap" "fieldCount" "[I", Cond.fieldLink RX3 51 "IslandHeap$Heap" "content" "[I", Cond.methodLink RX3 18 yJ7_fill_53178, Cond.static yJ7_fill_53178, Cond.initialized RJ7, Cond.code yJ7_fill_53178 cJ7_fill_53178 4 none, Cond.methodLink RX3 33 yX1_objectAt, Cond.instanceMethod yX1_objectAt, Cond.selects RX1 yX1_objectAt yX1_objectAt, Cond.initialized RX1, Cond.code yX1_objectAt cX1_objectAt 2 (some .int), Cond.fieldLink RX1 9 "IslandHeap$Heap" "owner" "[I", Cond.methodLink RX1 70 yX1_isAddress, Cond.instanceMethod yX1_isAddress, Cond.selects RX1 yX1_isAddress yX1_isAddress, Cond.code yX1_isAddress cX1_isAddress 2 (some .boolean), Cond.fieldLink RX1 42 "IslandHeap$Heap" "words" "I", Cond.methodLink RX3 37 yX3_arrive, Cond.instanceMethod yX3_arrive]
def wsX3_trace_r2 : List Cond := [Cond.selects RX3 yX3_arrive yX3_arrive, Cond.initialized RX3, Cond.code yX3_arrive cX3_arrive 4 none, Cond.methodLink RX3 44 yX1_isPinned, Cond.instanceMethod yX1_isPinned, Cond.selects RX1 yX1_isPinned yX1_isPinned, Cond.code yX1_isPinned cX1_isPinned 2 (some .boolean), Cond.fieldLink RX1 21 "IslandHeap$Heap" "pinned" "[I", Cond.methodLink RX1 74 yX1_isObject, Cond.instanceMethod yX1_isObject, Cond.selects RX1 yX1_isObject yX1_isObject, Cond.code yX1_isObject cX1_isObject 2 (some .boolean)]
def wsX3_trace : List Cond := .code yX3_trace cX3_trace 6 none :: ((wsX3_trace_r1 ++ wsX3_trace_r2) ++ wsX30 ++ wsX10)
def wsX3_liveWords : List Cond := .code yX3_liveWords cX3_liveWords 4 (some .int) :: ([.fieldLink RX3 24 "IslandHeap$Reach" "queued" "I", .fieldLink RX3 15 "IslandHeap$Reach" "queue" "[I", .methodLink RX3 54 yX1_sizeOf, .instanceMethod yX1_sizeOf, .selects RX1 yX1_sizeOf yX1_sizeOf, .initialized RX1, .code yX1_sizeOf cX1_sizeOf 2 (some .int), .fieldLink RX1 15 "IslandHeap$Heap" "fieldCount" "[I", .fieldLink RX1 18 "IslandHeap$Heap" "dataCount" "[I"] ++ wsX30 ++ wsX10)
def wsX4_init : List Cond := .code yX4_init cX4_init 1 none :: ([.methodLink RX4 3 objectInit, .instanceMethod objectInit, .code objectInit ⟨#[0xb1]⟩ 1 none, .arrayClass .int, .fieldLink RX4 9 "IslandHeap$Referrers" "tallies" "[I"] ++ wsX40)
def wsX4_tallyRow : List Cond := .code yX4_tallyRow cX4_tallyRow 7 none :: ([.fieldLink RX4 9 "IslandHeap$Referrers" "tallies" "[I", .methodLink RX4 47 yX1_objectAt, .instanceMethod yX1_objectAt, .selects RX1 yX1_objectAt yX1_objectAt, .initialized RX1, .code yX1_objectAt cX1_objectAt 2 (some .int), .fieldLink RX1 9 "IslandHeap$Heap" "owner" "[I", .methodLink RX1 70 yX1_isAddress, .instanceMethod yX1_isAddress, .selects RX1 yX1_isAddress yX1_isAddress, .code yX1_isAddress cX1_isAddress 2 (some .boolean), .fieldLink RX1 42 "IslandHeap$Heap" "words" "I"] ++ wsX40 ++ wsX10)
def wsX4_tally_r1 : List Cond := [Cond.fieldLink RX4 9 "IslandHeap$Referrers" "tallies" "[I", Cond.fieldLink RX4 21 "IslandHeap$Heap" "roots" "[I", Cond.fieldLink RX4 30 "IslandHeap$Heap" "weaks" "[I", Cond.fieldLink RX4 33 "IslandHeap$Heap" "words" "I", Cond.fieldLink RX4 41 "IslandHeap$Heap" "content" "[I", Cond.fieldLink RX4 44 "IslandHeap$Heap" "fieldCount" "[I", Cond.methodLink RX4 15 yJ7_fill_53178, Cond.static yJ7_fill_53178, Cond.initialized RJ7, Cond.code yJ7_fill_53178 cJ7_fill_53178 4 none, Cond.methodLink RX4 26 yX4_tallyRow, Cond.instanceMethod yX4_tallyRow, Cond.selects RX4 yX4_tallyRow yX4_tallyRow, Cond.initialized RX4, Cond.code yX4_tallyRow cX4_tallyRow 7 none, Cond.methodLink RX4 47 yX1_objectAt, Cond.instanceMethod yX1_objectAt, Cond.selects RX1 yX1_objectAt yX1_objectAt, Cond.initialized RX1, Cond.code yX1_objectAt cX1_objectAt 2 (some .int), Cond.fieldLink RX1 9 "IslandHeap$Heap" "owner" "[I", Cond.methodLink RX1 70 yX1_isAddress, Cond.instanceMethod yX1_isAddress, Cond.selects RX1 yX1_isAddress yX1_isAddress]
def wsX4_tally_r2 : List Cond := [Cond.code yX1_isAddress cX1_isAddress 2 (some .boolean), Cond.fieldLink RX1 42 "IslandHeap$Heap" "words" "I", Cond.methodLink RX4 37 yX1_isObject, Cond.instanceMethod yX1_isObject, Cond.selects RX1 yX1_isObject yX1_isObject, Cond.code yX1_isObject cX1_isObject 2 (some .boolean)]
def wsX4_tally : List Cond := .code yX4_tally cX4_tally 3 none :: ((wsX4_tally_r1 ++ wsX4_tally_r2) ++ wsX40 ++ wsX10)
def wsX5_init : List Cond := .code yX5_init cX5_init 1 none :: ([.methodLink RX5 3 objectInit, .instanceMethod objectInit, .code objectInit ⟨#[0xb1]⟩ 1 none, .arrayClass .int, .fieldLink RX5 9 "IslandHeap$Script" "letters" "[I", .fieldLink RX5 15 "IslandHeap$Script" "kinds" "[I", .fieldLink RX5 18 "IslandHeap$Script" "firsts" "[I", .fieldLink RX5 21 "IslandHeap$Script" "seconds" "[I", .fieldLink RX5 24 "IslandHeap$Script" "thirds" "[I"] ++ wsX50)
def wsX5_skipBlanks : List Cond := .code yX5_skipBlanks cX5_skipBlanks 2 none :: ([.fieldLink RX5 34 "IslandHeap$Script" "position" "I", .fieldLink RX5 40 "IslandHeap$Script" "length" "I", .fieldLink RX5 9 "IslandHeap$Script" "letters" "[I"] ++ wsX50)
def wsX5_letter : List Cond := .code yX5_letter cX5_letter 1 (some .int) :: ([.fieldLink RX5 34 "IslandHeap$Script" "position" "I", .fieldLink RX5 40 "IslandHeap$Script" "length" "I", .fieldLink RX5 9 "IslandHeap$Script" "letters" "[I"] ++ wsX50)
def wsX5_isDigit : List Cond := .code yX5_isDigit cX5_isDigit 1 (some .boolean) :: ([])
def wsX5_refuse : List Cond := .code yX5_refuse cX5_refuse 1 none :: ([.fieldLink RX5 31 "IslandHeap$Script" "faultIndex" "I", .fieldLink RX5 34 "IslandHeap$Script" "position" "I"] ++ wsX50)
def wsX5_readDigit : List Cond := .code yX5_readDigit cX5_readDigit 2 (some .int) :: ([.fieldLink RX5 34 "IslandHeap$Script" "position" "I", .methodLink RX5 37 yX5_skipBlanks, .instanceMethod yX5_skipBlanks, .selects RX5 yX5_skipBlanks yX5_skipBlanks, .initialized RX5, .code yX5_skipBlanks cX5_skipBlanks 2 none, .fieldLink RX5 40 "IslandHeap$Script" "length" "I", .fieldLink RX5 9 "IslandHeap$Script" "letters" "[I", .methodLink RX5 47 yX5_letter, .instanceMethod yX5_letter, .selects RX5 yX5_letter yX5_letter, .code yX5_letter cX5_letter 1 (some .int), .methodLink RX5 66 yX5_isDigit, .static yX5_isDigit, .code yX5_isDigit cX5_isDigit 1 (some .boolean), .methodLink RX5 60 yX5_refuse, .instanceMethod yX5_refuse, .selects RX5 yX5_refuse yX5_refuse, .code yX5_refuse cX5_refuse 1 none, .fieldLink RX5 31 "IslandHeap$Script" "faultIndex" "I"] ++ wsX50)
def wsX5_readNumber : List Cond := .code yX5_readNumber cX5_readNumber 3 (some .int) :: ([.fieldLink RX5 34 "IslandHeap$Script" "position" "I", .methodLink RX5 51 yX5_readDigit, .instanceMethod yX5_readDigit, .selects RX5 yX5_readDigit yX5_readDigit, .initialized RX5, .code yX5_readDigit cX5_readDigit 2 (some .int), .methodLink RX5 37 yX5_skipBlanks, .instanceMethod yX5_skipBlanks, .selects RX5 yX5_skipBlanks yX5_skipBlanks, .code yX5_skipBlanks cX5_skipBlanks 2 none, .fieldLink RX5 40 "IslandHeap$Script" "length" "I", .fieldLink RX5 9 "IslandHeap$Script" "letters" "[I", .methodLink RX5 47 yX5_letter, .instanceMethod yX5_letter, .selects RX5 yX5_letter yX5_letter, .code yX5_letter cX5_letter 1 (some .int), .methodLink RX5 66 yX5_isDigit, .static yX5_isDigit, .code yX5_isDigit cX5_isDigit 1 (some .boolean), .methodLink RX5 60 yX5_refuse, .instanceMethod yX5_refuse, .selects RX5 yX5_refuse yX5_refuse, .code yX5_refuse cX5_refuse 1 none, .fieldLink RX5 31 "IslandHeap$Script" "faultIndex" "I"] ++ wsX50)
def wsX5_readPlace_r1 : List Cond := [Cond.fieldLink RX5 34 "IslandHeap$Script" "position" "I", Cond.methodLink RX5 37 yX5_skipBlanks, Cond.instanceMethod yX5_skipBlanks, Cond.selects RX5 yX5_skipBlanks yX5_skipBlanks, Cond.initialized RX5, Cond.code yX5_skipBlanks cX5_skipBlanks 2 none, Cond.fieldLink RX5 40 "IslandHeap$Script" "length" "I", Cond.fieldLink RX5 9 "IslandHeap$Script" "letters" "[I", Cond.methodLink RX5 47 yX5_letter, Cond.instanceMethod yX5_letter, Cond.selects RX5 yX5_letter yX5_letter, Cond.code yX5_letter cX5_letter 1 (some .int), Cond.methodLink RX5 57 yX5_readNumber, Cond.instanceMethod yX5_readNumber, Cond.selects RX5 yX5_readNumber yX5_readNumber, Cond.code yX5_readNumber cX5_readNumber 3 (some .int), Cond.methodLink RX5 51 yX5_readDigit, Cond.instanceMethod yX5_readDigit, Cond.selects RX5 yX5_readDigit yX5_readDigit, Cond.code yX5_readDigit cX5_readDigit 2 (some .int), Cond.methodLink RX5 66 yX5_isDigit, Cond.static yX5_isDigit, Cond.code yX5_isDigit cX5_isDigit 1 (some .boolean), Cond.methodLink RX5 60 yX5_refuse]
def wsX5_readPlace_r2 : List Cond := [Cond.instanceMethod yX5_refuse, Cond.selects RX5 yX5_refuse yX5_refuse, Cond.code yX5_refuse cX5_refuse 1 none, Cond.fieldLink RX5 31 "IslandHeap$Script" "faultIndex" "I"]
def wsX5_readPlace : List Cond := .code yX5_readPlace cX5_readPlace 1 (some .int) :: ((wsX5_readPlace_r1 ++ wsX5_readPlace_r2) ++ wsX50)
def wsX5_readEnd : List Cond := .code yX5_readEnd cX5_readEnd 1 none :: ([.fieldLink RX5 34 "IslandHeap$Script" "position" "I", .methodLink RX5 37 yX5_skipBlanks, .instanceMethod yX5_skipBlanks, .selects RX5 yX5_skipBlanks yX5_skipBlanks, .initialized RX5, .code yX5_skipBlanks cX5_skipBlanks 2 none, .fieldLink RX5 40 "IslandHeap$Script" "length" "I", .fieldLink RX5 9 "IslandHeap$Script" "letters" "[I", .methodLink RX5 47 yX5_letter, .instanceMethod yX5_letter, .selects RX5 yX5_letter yX5_letter, .code yX5_letter cX5_letter 1 (some .int), .methodLink RX5 60 yX5_refuse, .instanceMethod yX5_refuse, .selects RX5 yX5_refuse yX5_refuse, .code yX5_refuse cX5_refuse 1 none, .fieldLink RX5 31 "IslandHeap$Script" "faultIndex" "I"] ++ wsX50)
def wsX5_readCommand_r1 : List Cond := [Cond.fieldLink RX5 34 "IslandHeap$Script" "position" "I", Cond.fieldLink RX5 18 "IslandHeap$Script" "firsts" "[I", Cond.fieldLink RX5 21 "IslandHeap$Script" "seconds" "[I", Cond.fieldLink RX5 24 "IslandHeap$Script" "thirds" "[I", Cond.fieldLink RX5 15 "IslandHeap$Script" "kinds" "[I", Cond.fieldLink RX5 27 "IslandHeap$Script" "commands" "I", Cond.methodLink RX5 47 yX5_letter, Cond.instanceMethod yX5_letter, Cond.selects RX5 yX5_letter yX5_letter, Cond.initialized RX5, Cond.code yX5_letter cX5_letter 1 (some .int), Cond.fieldLink RX5 40 "IslandHeap$Script" "length" "I", Cond.fieldLink RX5 9 "IslandHeap$Script" "letters" "[I", Cond.methodLink RX5 51 yX5_readDigit, Cond.instanceMethod yX5_readDigit, Cond.selects RX5 yX5_readDigit yX5_readDigit, Cond.code yX5_readDigit cX5_readDigit 2 (some .int), Cond.methodLink RX5 37 yX5_skipBlanks, Cond.instanceMethod yX5_skipBlanks, Cond.selects RX5 yX5_skipBlanks yX5_skipBlanks, Cond.code yX5_skipBlanks cX5_skipBlanks 2 none, Cond.methodLink RX5 66 yX5_isDigit, Cond.static yX5_isDigit, Cond.code yX5_isDigit cX5_isDigit 1 (some .boolean)]
def wsX5_readCommand_r2 : List Cond := [Cond.methodLink RX5 60 yX5_refuse, Cond.instanceMethod yX5_refuse, Cond.selects RX5 yX5_refuse yX5_refuse, Cond.code yX5_refuse cX5_refuse 1 none, Cond.fieldLink RX5 31 "IslandHeap$Script" "faultIndex" "I", Cond.methodLink RX5 54 yX5_readPlace, Cond.instanceMethod yX5_readPlace, Cond.selects RX5 yX5_readPlace yX5_readPlace, Cond.code yX5_readPlace cX5_readPlace 1 (some .int), Cond.methodLink RX5 57 yX5_readNumber, Cond.instanceMethod yX5_readNumber, Cond.selects RX5 yX5_readNumber yX5_readNumber, Cond.code yX5_readNumber cX5_readNumber 3 (some .int), Cond.methodLink RX5 63 yX5_readEnd, Cond.instanceMethod yX5_readEnd, Cond.selects RX5 yX5_readEnd yX5_readEnd, Cond.code yX5_readEnd cX5_readEnd 1 none]
def wsX5_readCommand : List Cond := .code yX5_readCommand cX5_readCommand 3 none :: ((wsX5_readCommand_r1 ++ wsX5_readCommand_r2) ++ wsX50)
def wsX5_read_r1 : List Cond := [Cond.fieldLink RX5 27 "IslandHeap$Script" "commands" "I", Cond.fieldLink RX5 31 "IslandHeap$Script" "faultIndex" "I", Cond.fieldLink RX5 34 "IslandHeap$Script" "position" "I", Cond.fieldLink RX5 40 "IslandHeap$Script" "length" "I", Cond.methodLink RX5 37 yX5_skipBlanks, Cond.instanceMethod yX5_skipBlanks, Cond.selects RX5 yX5_skipBlanks yX5_skipBlanks, Cond.initialized RX5, Cond.code yX5_skipBlanks cX5_skipBlanks 2 none, Cond.fieldLink RX5 9 "IslandHeap$Script" "letters" "[I", Cond.methodLink RX5 43 yX5_readCommand, Cond.instanceMethod yX5_readCommand, Cond.selects RX5 yX5_readCommand yX5_readCommand, Cond.code yX5_readCommand cX5_readCommand 3 none, Cond.fieldLink RX5 18 "IslandHeap$Script" "firsts" "[I", Cond.fieldLink RX5 21 "IslandHeap$Script" "seconds" "[I", Cond.fieldLink RX5 24 "IslandHeap$Script" "thirds" "[I", Cond.fieldLink RX5 15 "IslandHeap$Script" "kinds" "[I", Cond.methodLink RX5 47 yX5_letter, Cond.instanceMethod yX5_letter, Cond.selects RX5 yX5_letter yX5_letter, Cond.code yX5_letter cX5_letter 1 (some .int), Cond.methodLink RX5 51 yX5_readDigit, Cond.instanceMethod yX5_readDigit]
def wsX5_read_r2 : List Cond := [Cond.selects RX5 yX5_readDigit yX5_readDigit, Cond.code yX5_readDigit cX5_readDigit 2 (some .int), Cond.methodLink RX5 66 yX5_isDigit, Cond.static yX5_isDigit, Cond.code yX5_isDigit cX5_isDigit 1 (some .boolean), Cond.methodLink RX5 60 yX5_refuse, Cond.instanceMethod yX5_refuse, Cond.selects RX5 yX5_refuse yX5_refuse, Cond.code yX5_refuse cX5_refuse 1 none, Cond.methodLink RX5 54 yX5_readPlace, Cond.instanceMethod yX5_readPlace, Cond.selects RX5 yX5_readPlace yX5_readPlace, Cond.code yX5_readPlace cX5_readPlace 1 (some .int), Cond.methodLink RX5 57 yX5_readNumber, Cond.instanceMethod yX5_readNumber, Cond.selects RX5 yX5_readNumber yX5_readNumber, Cond.code yX5_readNumber cX5_readNumber 3 (some .int), Cond.methodLink RX5 63 yX5_readEnd, Cond.instanceMethod yX5_readEnd, Cond.selects RX5 yX5_readEnd yX5_readEnd, Cond.code yX5_readEnd cX5_readEnd 1 none]
def wsX5_read : List Cond := .code yX5_read cX5_read 2 none :: ((wsX5_read_r1 ++ wsX5_read_r2) ++ wsX50)
def wsX6_init_r1 : List Cond := [Cond.methodLink RX6 3 objectInit, Cond.instanceMethod objectInit, Cond.code objectInit ⟨#[0xb1]⟩ 1 none, Cond.classLink RX6 9 RX1, Cond.instantiable RX1 15, Cond.initialized RX1, Cond.fieldLink RX6 12 "IslandHeap" "heap" "LIslandHeap$Heap;", Cond.fieldLink RX6 20 "IslandHeap" "saved" "[LIslandHeap$Heap;", Cond.classLink RX6 24 RX0, Cond.instantiable RX0 6, Cond.initialized RX0, Cond.fieldLink RX6 27 "IslandHeap" "collector" "LIslandHeap$Collector;", Cond.classLink RX6 31 RX3, Cond.instantiable RX3 3, Cond.initialized RX3, Cond.fieldLink RX6 34 "IslandHeap" "reach" "LIslandHeap$Reach;", Cond.classLink RX6 38 RX4, Cond.instantiable RX4 1, Cond.initialized RX4, Cond.fieldLink RX6 41 "IslandHeap" "referrers" "LIslandHeap$Referrers;", Cond.classLink RX6 45 RX2, Cond.instantiable RX2 1, Cond.initialized RX2, Cond.fieldLink RX6 48 "IslandHeap" "holes" "LIslandHeap$Holes;"]
def wsX6_init_r2 : List Cond := [Cond.classLink RX6 52 RX5, Cond.instantiable RX5 9, Cond.initialized RX5, Cond.fieldLink RX6 55 "IslandHeap" "script" "LIslandHeap$Script;", Cond.fieldLink RX6 59 "IslandHeap" "latestRefusal" "I", Cond.instanceMethod yX1_init, Cond.code yX1_init cX1_init 1 none, Cond.methodLink RX1 3 objectInit, Cond.arrayClass .int, Cond.fieldLink RX1 9 "IslandHeap$Heap" "owner" "[I", Cond.fieldLink RX1 15 "IslandHeap$Heap" "fieldCount" "[I", Cond.fieldLink RX1 18 "IslandHeap$Heap" "dataCount" "[I", Cond.fieldLink RX1 21 "IslandHeap$Heap" "pinned" "[I", Cond.fieldLink RX1 24 "IslandHeap$Heap" "age" "[I", Cond.fieldLink RX1 27 "IslandHeap$Heap" "content" "[I", Cond.fieldLink RX1 30 "IslandHeap$Heap" "roots" "[I", Cond.fieldLink RX1 33 "IslandHeap$Heap" "weaks" "[I", Cond.fieldLink RX1 36 "IslandHeap$Heap" "movedTo" "[I", Cond.fieldLink RX1 39 "IslandHeap$Heap" "reports" "[I", Cond.methodLink RX6 16 yX1_empty, Cond.instanceMethod yX1_empty, Cond.selects RX1 yX1_empty yX1_empty, Cond.code yX1_empty cX1_empty 3 none, Cond.fieldLink RX1 42 "IslandHeap$Heap" "words" "I"]
def wsX6_init_r3 : List Cond := [Cond.fieldLink RX1 46 "IslandHeap$Heap" "depth" "I", Cond.fieldLink RX1 49 "IslandHeap$Heap" "allocated" "I", Cond.fieldLink RX1 52 "IslandHeap$Heap" "collections" "I", Cond.fieldLink RX1 55 "IslandHeap$Heap" "freed" "I", Cond.methodLink RX1 58 yJ7_fill_53178, Cond.static yJ7_fill_53178, Cond.initialized RJ7, Cond.code yJ7_fill_53178 cJ7_fill_53178 4 none, Cond.instanceMethod yX0_init, Cond.code yX0_init cX0_init 1 none, Cond.methodLink RX0 3 objectInit, Cond.arrayClass .boolean, Cond.fieldLink RX0 9 "IslandHeap$Collector" "marked" "[Z", Cond.fieldLink RX0 15 "IslandHeap$Collector" "stack" "[I", Cond.instanceMethod yX3_init, Cond.code yX3_init cX3_init 1 none, Cond.methodLink RX3 3 objectInit, Cond.fieldLink RX3 9 "IslandHeap$Reach" "steps" "[I", Cond.fieldLink RX3 15 "IslandHeap$Reach" "queue" "[I", Cond.instanceMethod yX4_init, Cond.code yX4_init cX4_init 1 none, Cond.methodLink RX4 3 objectInit, Cond.fieldLink RX4 9 "IslandHeap$Referrers" "tallies" "[I", Cond.instanceMethod yX2_init]
def wsX6_init_r4 : List Cond := [Cond.code yX2_init cX2_init 1 none, Cond.methodLink RX2 3 objectInit, Cond.fieldLink RX2 9 "IslandHeap$Holes" "numbers" "[I", Cond.instanceMethod yX5_init, Cond.code yX5_init cX5_init 1 none, Cond.methodLink RX5 3 objectInit, Cond.fieldLink RX5 9 "IslandHeap$Script" "letters" "[I", Cond.fieldLink RX5 15 "IslandHeap$Script" "kinds" "[I", Cond.fieldLink RX5 18 "IslandHeap$Script" "firsts" "[I", Cond.fieldLink RX5 21 "IslandHeap$Script" "seconds" "[I", Cond.fieldLink RX5 24 "IslandHeap$Script" "thirds" "[I"]
def wsX6_init : List Cond := .code yX6_init cX6_init 1 none :: ((wsX6_init_r1 ++ (wsX6_init_r2 ++ (wsX6_init_r3 ++ wsX6_init_r4))) ++ wsX10 ++ wsX60 ++ wsX00 ++ wsX30 ++ wsX40 ++ wsX20 ++ wsX50)
def wsX6_reset : List Cond := .code yX6_reset cX6_reset 3 (some .int) :: ([.constant RX6 63 (-1000002), .fieldLink RX6 12 "IslandHeap" "heap" "LIslandHeap$Heap;", .methodLink RX6 16 yX1_empty, .instanceMethod yX1_empty, .selects RX1 yX1_empty yX1_empty, .initialized RX1, .code yX1_empty cX1_empty 3 none, .fieldLink RX1 42 "IslandHeap$Heap" "words" "I", .fieldLink RX1 46 "IslandHeap$Heap" "depth" "I", .fieldLink RX1 49 "IslandHeap$Heap" "allocated" "I", .fieldLink RX1 52 "IslandHeap$Heap" "collections" "I", .fieldLink RX1 55 "IslandHeap$Heap" "freed" "I", .fieldLink RX1 9 "IslandHeap$Heap" "owner" "[I", .fieldLink RX1 30 "IslandHeap$Heap" "roots" "[I", .fieldLink RX1 33 "IslandHeap$Heap" "weaks" "[I", .methodLink RX1 58 yJ7_fill_53178, .static yJ7_fill_53178, .initialized RJ7, .code yJ7_fill_53178 cJ7_fill_53178 4 none] ++ wsX60 ++ wsX10)
def wsX6_alloc_r1 : List Cond := [Cond.constant RX6 63 (-1000002), Cond.fieldLink RX6 12 "IslandHeap" "heap" "LIslandHeap$Heap;", Cond.constant RX6 68 (-1000004), Cond.methodLink RX6 64 yX1_roomFor, Cond.instanceMethod yX1_roomFor, Cond.selects RX1 yX1_roomFor yX1_roomFor, Cond.initialized RX1, Cond.code yX1_roomFor cX1_roomFor 4 (some .int), Cond.fieldLink RX1 42 "IslandHeap$Heap" "words" "I", Cond.fieldLink RX1 9 "IslandHeap$Heap" "owner" "[I", Cond.methodLink RX6 69 yX1_place, Cond.instanceMethod yX1_place, Cond.selects RX1 yX1_place yX1_place, Cond.code yX1_place cX1_place 5 none, Cond.fieldLink RX1 15 "IslandHeap$Heap" "fieldCount" "[I", Cond.fieldLink RX1 18 "IslandHeap$Heap" "dataCount" "[I", Cond.fieldLink RX1 21 "IslandHeap$Heap" "pinned" "[I", Cond.fieldLink RX1 24 "IslandHeap$Heap" "age" "[I", Cond.fieldLink RX1 27 "IslandHeap$Heap" "content" "[I", Cond.fieldLink RX1 49 "IslandHeap$Heap" "allocated" "I", Cond.methodLink RX1 81 yJ7_fill_fda19, Cond.static yJ7_fill_fda19, Cond.initialized RJ7, Cond.code yJ7_fill_fda19 cJ7_fill_fda19 5 none]
def wsX6_alloc_r2 : List Cond := [Cond.methodLink RJ7 13 yJ7_rangeCheck_23922, Cond.static yJ7_rangeCheck_23922, Cond.code yJ7_rangeCheck_23922 cJ7_rangeCheck_23922 3 none, Cond.methodLink RX1 84 yX1_own, Cond.instanceMethod yX1_own, Cond.selects RX1 yX1_own yX1_own, Cond.code yX1_own cX1_own 2 none, Cond.methodLink RX1 88 yX1_sizeOf, Cond.instanceMethod yX1_sizeOf, Cond.selects RX1 yX1_sizeOf yX1_sizeOf, Cond.code yX1_sizeOf cX1_sizeOf 2 (some .int)]
def wsX6_alloc : List Cond := .code yX6_alloc cX6_alloc 4 (some .int) :: ((wsX6_alloc_r1 ++ wsX6_alloc_r2) ++ wsX60 ++ wsX10)
def wsX6_property : List Cond := .code yX6_property cX6_property 3 (some .int) :: ([.fieldLink RX6 12 "IslandHeap" "heap" "LIslandHeap$Heap;", .fieldLink RX6 229 "IslandHeap$Heap" "fieldCount" "[I", .fieldLink RX6 232 "IslandHeap$Heap" "dataCount" "[I", .fieldLink RX6 114 "IslandHeap$Heap" "pinned" "[I", .fieldLink RX6 235 "IslandHeap$Heap" "age" "[I", .fieldLink RX6 41 "IslandHeap" "referrers" "LIslandHeap$Referrers;", .fieldLink RX6 238 "IslandHeap$Referrers" "tallies" "[I", .fieldLink RX6 34 "IslandHeap" "reach" "LIslandHeap$Reach;", .fieldLink RX6 162 "IslandHeap$Reach" "steps" "[I", .methodLink RX6 91 yX1_sizeOf, .instanceMethod yX1_sizeOf, .selects RX1 yX1_sizeOf yX1_sizeOf, .initialized RX1, .code yX1_sizeOf cX1_sizeOf 2 (some .int), .fieldLink RX1 15 "IslandHeap$Heap" "fieldCount" "[I", .fieldLink RX1 18 "IslandHeap$Heap" "dataCount" "[I"] ++ wsX60 ++ wsX10 ++ wsX40 ++ wsX30)
def wsX6_object_r1 : List Cond := [Cond.fieldLink RX6 12 "IslandHeap" "heap" "LIslandHeap$Heap;", Cond.constant RX6 63 (-1000002), Cond.fieldLink RX6 41 "IslandHeap" "referrers" "LIslandHeap$Referrers;", Cond.fieldLink RX6 34 "IslandHeap" "reach" "LIslandHeap$Reach;", Cond.methodLink RX6 73 yX1_objectAt, Cond.instanceMethod yX1_objectAt, Cond.selects RX1 yX1_objectAt yX1_objectAt, Cond.initialized RX1, Cond.code yX1_objectAt cX1_objectAt 2 (some .int), Cond.fieldLink RX1 9 "IslandHeap$Heap" "owner" "[I", Cond.methodLink RX1 70 yX1_isAddress, Cond.instanceMethod yX1_isAddress, Cond.selects RX1 yX1_isAddress yX1_isAddress, Cond.code yX1_isAddress cX1_isAddress 2 (some .boolean), Cond.fieldLink RX1 42 "IslandHeap$Heap" "words" "I", Cond.methodLink RX6 76 yX4_tally, Cond.instanceMethod yX4_tally, Cond.selects RX4 yX4_tally yX4_tally, Cond.initialized RX4, Cond.code yX4_tally cX4_tally 3 none, Cond.fieldLink RX4 9 "IslandHeap$Referrers" "tallies" "[I", Cond.fieldLink RX4 21 "IslandHeap$Heap" "roots" "[I", Cond.fieldLink RX4 30 "IslandHeap$Heap" "weaks" "[I", Cond.fieldLink RX4 33 "IslandHeap$Heap" "words" "I"]
def wsX6_object_r2 : List Cond := [Cond.fieldLink RX4 41 "IslandHeap$Heap" "content" "[I", Cond.fieldLink RX4 44 "IslandHeap$Heap" "fieldCount" "[I", Cond.methodLink RX4 15 yJ7_fill_53178, Cond.static yJ7_fill_53178, Cond.initialized RJ7, Cond.code yJ7_fill_53178 cJ7_fill_53178 4 none, Cond.methodLink RX4 26 yX4_tallyRow, Cond.instanceMethod yX4_tallyRow, Cond.selects RX4 yX4_tallyRow yX4_tallyRow, Cond.code yX4_tallyRow cX4_tallyRow 7 none, Cond.methodLink RX4 47 yX1_objectAt, Cond.methodLink RX4 37 yX1_isObject, Cond.instanceMethod yX1_isObject, Cond.selects RX1 yX1_isObject yX1_isObject, Cond.code yX1_isObject cX1_isObject 2 (some .boolean), Cond.methodLink RX6 80 yX3_trace, Cond.instanceMethod yX3_trace, Cond.selects RX3 yX3_trace yX3_trace, Cond.initialized RX3, Cond.code yX3_trace cX3_trace 6 none, Cond.fieldLink RX3 9 "IslandHeap$Reach" "steps" "[I", Cond.fieldLink RX3 24 "IslandHeap$Reach" "queued" "I", Cond.fieldLink RX3 28 "IslandHeap$Heap" "roots" "[I", Cond.fieldLink RX3 41 "IslandHeap$Heap" "words" "I"]
def wsX6_object_r3 : List Cond := [Cond.fieldLink RX3 15 "IslandHeap$Reach" "queue" "[I", Cond.fieldLink RX3 48 "IslandHeap$Heap" "fieldCount" "[I", Cond.fieldLink RX3 51 "IslandHeap$Heap" "content" "[I", Cond.methodLink RX3 18 yJ7_fill_53178, Cond.methodLink RX3 33 yX1_objectAt, Cond.methodLink RX3 37 yX3_arrive, Cond.instanceMethod yX3_arrive, Cond.selects RX3 yX3_arrive yX3_arrive, Cond.code yX3_arrive cX3_arrive 4 none, Cond.methodLink RX3 44 yX1_isPinned, Cond.instanceMethod yX1_isPinned, Cond.selects RX1 yX1_isPinned yX1_isPinned, Cond.code yX1_isPinned cX1_isPinned 2 (some .boolean), Cond.fieldLink RX1 21 "IslandHeap$Heap" "pinned" "[I", Cond.methodLink RX1 74 yX1_isObject, Cond.methodLink RX6 84 yX6_property, Cond.instanceMethod yX6_property, Cond.selects RX6 yX6_property yX6_property, Cond.initialized RX6, Cond.code yX6_property cX6_property 3 (some .int), Cond.fieldLink RX6 229 "IslandHeap$Heap" "fieldCount" "[I", Cond.fieldLink RX6 232 "IslandHeap$Heap" "dataCount" "[I", Cond.fieldLink RX6 114 "IslandHeap$Heap" "pinned" "[I", Cond.fieldLink RX6 235 "IslandHeap$Heap" "age" "[I"]
def wsX6_object_r4 : List Cond := [Cond.fieldLink RX6 238 "IslandHeap$Referrers" "tallies" "[I", Cond.fieldLink RX6 162 "IslandHeap$Reach" "steps" "[I", Cond.methodLink RX6 91 yX1_sizeOf, Cond.instanceMethod yX1_sizeOf, Cond.selects RX1 yX1_sizeOf yX1_sizeOf, Cond.code yX1_sizeOf cX1_sizeOf 2 (some .int), Cond.fieldLink RX1 15 "IslandHeap$Heap" "fieldCount" "[I", Cond.fieldLink RX1 18 "IslandHeap$Heap" "dataCount" "[I"]
def wsX6_object : List Cond := .code yX6_object cX6_object 4 (some .int) :: ((wsX6_object_r1 ++ (wsX6_object_r2 ++ (wsX6_object_r3 ++ wsX6_object_r4))) ++ wsX60 ++ wsX10 ++ wsX40 ++ wsX30)
def wsX6_next_r1 : List Cond := [Cond.fieldLink RX6 12 "IslandHeap" "heap" "LIslandHeap$Heap;", Cond.constant RX6 63 (-1000002), Cond.methodLink RX6 88 yX1_objectFrom, Cond.instanceMethod yX1_objectFrom, Cond.selects RX1 yX1_objectFrom yX1_objectFrom, Cond.initialized RX1, Cond.code yX1_objectFrom cX1_objectFrom 3 (some .int), Cond.fieldLink RX1 42 "IslandHeap$Heap" "words" "I", Cond.methodLink RX1 74 yX1_isObject, Cond.instanceMethod yX1_isObject, Cond.selects RX1 yX1_isObject yX1_isObject, Cond.code yX1_isObject cX1_isObject 2 (some .boolean), Cond.fieldLink RX1 9 "IslandHeap$Heap" "owner" "[I", Cond.methodLink RX1 70 yX1_isAddress, Cond.instanceMethod yX1_isAddress, Cond.selects RX1 yX1_isAddress yX1_isAddress, Cond.code yX1_isAddress cX1_isAddress 2 (some .boolean), Cond.methodLink RX6 73 yX1_objectAt, Cond.instanceMethod yX1_objectAt, Cond.selects RX1 yX1_objectAt yX1_objectAt, Cond.code yX1_objectAt cX1_objectAt 2 (some .int), Cond.methodLink RX6 91 yX1_sizeOf, Cond.instanceMethod yX1_sizeOf, Cond.selects RX1 yX1_sizeOf yX1_sizeOf]
def wsX6_next_r2 : List Cond := [Cond.code yX1_sizeOf cX1_sizeOf 2 (some .int), Cond.fieldLink RX1 15 "IslandHeap$Heap" "fieldCount" "[I", Cond.fieldLink RX1 18 "IslandHeap$Heap" "dataCount" "[I"]
def wsX6_next : List Cond := .code yX6_next cX6_next 3 (some .int) :: ((wsX6_next_r1 ++ wsX6_next_r2) ++ wsX60 ++ wsX10)
def wsX6_fieldWord : List Cond := .code yX6_fieldWord cX6_fieldWord 4 (some .int) :: ([.fieldLink RX6 12 "IslandHeap" "heap" "LIslandHeap$Heap;", .fieldLink RX6 229 "IslandHeap$Heap" "fieldCount" "[I", .methodLink RX6 73 yX1_objectAt, .instanceMethod yX1_objectAt, .selects RX1 yX1_objectAt yX1_objectAt, .initialized RX1, .code yX1_objectAt cX1_objectAt 2 (some .int), .fieldLink RX1 9 "IslandHeap$Heap" "owner" "[I", .methodLink RX1 70 yX1_isAddress, .instanceMethod yX1_isAddress, .selects RX1 yX1_isAddress yX1_isAddress, .code yX1_isAddress cX1_isAddress 2 (some .boolean), .fieldLink RX1 42 "IslandHeap$Heap" "words" "I"] ++ wsX60 ++ wsX10)
def wsX6_exchange : List Cond := .code yX6_exchange cX6_exchange 4 (some .int) :: ([])
def wsX6_setField_r1 : List Cond := [Cond.fieldLink RX6 12 "IslandHeap" "heap" "LIslandHeap$Heap;", Cond.constant RX6 63 (-1000002), Cond.fieldLink RX6 101 "IslandHeap$Heap" "content" "[I", Cond.methodLink RX6 94 yX6_fieldWord, Cond.instanceMethod yX6_fieldWord, Cond.selects RX6 yX6_fieldWord yX6_fieldWord, Cond.initialized RX6, Cond.code yX6_fieldWord cX6_fieldWord 4 (some .int), Cond.fieldLink RX6 229 "IslandHeap$Heap" "fieldCount" "[I", Cond.methodLink RX6 73 yX1_objectAt, Cond.instanceMethod yX1_objectAt, Cond.selects RX1 yX1_objectAt yX1_objectAt, Cond.initialized RX1, Cond.code yX1_objectAt cX1_objectAt 2 (some .int), Cond.fieldLink RX1 9 "IslandHeap$Heap" "owner" "[I", Cond.methodLink RX1 70 yX1_isAddress, Cond.instanceMethod yX1_isAddress, Cond.selects RX1 yX1_isAddress yX1_isAddress, Cond.code yX1_isAddress cX1_isAddress 2 (some .boolean), Cond.fieldLink RX1 42 "IslandHeap$Heap" "words" "I", Cond.methodLink RX6 97 yX1_isReference, Cond.instanceMethod yX1_isReference, Cond.selects RX1 yX1_isReference yX1_isReference, Cond.code yX1_isReference cX1_isReference 2 (some .boolean)]
def wsX6_setField_r2 : List Cond := [Cond.methodLink RX1 77 yX1_objectAt, Cond.methodLink RX6 105 yX6_exchange, Cond.static yX6_exchange, Cond.code yX6_exchange cX6_exchange 4 (some .int)]
def wsX6_setField : List Cond := .code yX6_setField cX6_setField 5 (some .int) :: ((wsX6_setField_r1 ++ wsX6_setField_r2) ++ wsX60 ++ wsX10)
def wsX6_field : List Cond := .code yX6_field cX6_field 4 (some .int) :: ([.constant RX6 63 (-1000002), .fieldLink RX6 12 "IslandHeap" "heap" "LIslandHeap$Heap;", .fieldLink RX6 101 "IslandHeap$Heap" "content" "[I", .methodLink RX6 94 yX6_fieldWord, .instanceMethod yX6_fieldWord, .selects RX6 yX6_fieldWord yX6_fieldWord, .initialized RX6, .code yX6_fieldWord cX6_fieldWord 4 (some .int), .fieldLink RX6 229 "IslandHeap$Heap" "fieldCount" "[I", .methodLink RX6 73 yX1_objectAt, .instanceMethod yX1_objectAt, .selects RX1 yX1_objectAt yX1_objectAt, .initialized RX1, .code yX1_objectAt cX1_objectAt 2 (some .int), .fieldLink RX1 9 "IslandHeap$Heap" "owner" "[I", .methodLink RX1 70 yX1_isAddress, .instanceMethod yX1_isAddress, .selects RX1 yX1_isAddress yX1_isAddress, .code yX1_isAddress cX1_isAddress 2 (some .boolean), .fieldLink RX1 42 "IslandHeap$Heap" "words" "I"] ++ wsX60 ++ wsX10)
def wsX6_dataWord : List Cond := .code yX6_dataWord cX6_dataWord 4 (some .int) :: ([.fieldLink RX6 12 "IslandHeap" "heap" "LIslandHeap$Heap;", .fieldLink RX6 232 "IslandHeap$Heap" "dataCount" "[I", .fieldLink RX6 229 "IslandHeap$Heap" "fieldCount" "[I", .methodLink RX6 73 yX1_objectAt, .instanceMethod yX1_objectAt, .selects RX1 yX1_objectAt yX1_objectAt, .initialized RX1, .code yX1_objectAt cX1_objectAt 2 (some .int), .fieldLink RX1 9 "IslandHeap$Heap" "owner" "[I", .methodLink RX1 70 yX1_isAddress, .instanceMethod yX1_isAddress, .selects RX1 yX1_isAddress yX1_isAddress, .code yX1_isAddress cX1_isAddress 2 (some .boolean), .fieldLink RX1 42 "IslandHeap$Heap" "words" "I"] ++ wsX60 ++ wsX10)
def wsX6_setData_r1 : List Cond := [Cond.constant RX6 112 (-1000000), Cond.constant RX6 113 (1000000), Cond.constant RX6 63 (-1000002), Cond.fieldLink RX6 12 "IslandHeap" "heap" "LIslandHeap$Heap;", Cond.fieldLink RX6 101 "IslandHeap$Heap" "content" "[I", Cond.methodLink RX6 109 yX6_dataWord, Cond.instanceMethod yX6_dataWord, Cond.selects RX6 yX6_dataWord yX6_dataWord, Cond.initialized RX6, Cond.code yX6_dataWord cX6_dataWord 4 (some .int), Cond.fieldLink RX6 232 "IslandHeap$Heap" "dataCount" "[I", Cond.fieldLink RX6 229 "IslandHeap$Heap" "fieldCount" "[I", Cond.methodLink RX6 73 yX1_objectAt, Cond.instanceMethod yX1_objectAt, Cond.selects RX1 yX1_objectAt yX1_objectAt, Cond.initialized RX1, Cond.code yX1_objectAt cX1_objectAt 2 (some .int), Cond.fieldLink RX1 9 "IslandHeap$Heap" "owner" "[I", Cond.methodLink RX1 70 yX1_isAddress, Cond.instanceMethod yX1_isAddress, Cond.selects RX1 yX1_isAddress yX1_isAddress, Cond.code yX1_isAddress cX1_isAddress 2 (some .boolean), Cond.fieldLink RX1 42 "IslandHeap$Heap" "words" "I", Cond.methodLink RX6 105 yX6_exchange]
def wsX6_setData_r2 : List Cond := [Cond.static yX6_exchange, Cond.code yX6_exchange cX6_exchange 4 (some .int)]
def wsX6_setData : List Cond := .code yX6_setData cX6_setData 5 (some .int) :: ((wsX6_setData_r1 ++ wsX6_setData_r2) ++ wsX60 ++ wsX10)
def wsX6_data : List Cond := .code yX6_data cX6_data 4 (some .int) :: ([.constant RX6 63 (-1000002), .fieldLink RX6 12 "IslandHeap" "heap" "LIslandHeap$Heap;", .fieldLink RX6 101 "IslandHeap$Heap" "content" "[I", .methodLink RX6 109 yX6_dataWord, .instanceMethod yX6_dataWord, .selects RX6 yX6_dataWord yX6_dataWord, .initialized RX6, .code yX6_dataWord cX6_dataWord 4 (some .int), .fieldLink RX6 232 "IslandHeap$Heap" "dataCount" "[I", .fieldLink RX6 229 "IslandHeap$Heap" "fieldCount" "[I", .methodLink RX6 73 yX1_objectAt, .instanceMethod yX1_objectAt, .selects RX1 yX1_objectAt yX1_objectAt, .initialized RX1, .code yX1_objectAt cX1_objectAt 2 (some .int), .fieldLink RX1 9 "IslandHeap$Heap" "owner" "[I", .methodLink RX1 70 yX1_isAddress, .instanceMethod yX1_isAddress, .selects RX1 yX1_isAddress yX1_isAddress, .code yX1_isAddress cX1_isAddress 2 (some .boolean), .fieldLink RX1 42 "IslandHeap$Heap" "words" "I"] ++ wsX60 ++ wsX10)
def wsX6_pin_r1 : List Cond := [Cond.fieldLink RX6 12 "IslandHeap" "heap" "LIslandHeap$Heap;", Cond.constant RX6 63 (-1000002), Cond.fieldLink RX6 114 "IslandHeap$Heap" "pinned" "[I", Cond.constant RX6 117 (-1000003), Cond.methodLink RX6 73 yX1_objectAt, Cond.instanceMethod yX1_objectAt, Cond.selects RX1 yX1_objectAt yX1_objectAt, Cond.initialized RX1, Cond.code yX1_objectAt cX1_objectAt 2 (some .int), Cond.fieldLink RX1 9 "IslandHeap$Heap" "owner" "[I", Cond.methodLink RX1 70 yX1_isAddress, Cond.instanceMethod yX1_isAddress, Cond.selects RX1 yX1_isAddress yX1_isAddress, Cond.code yX1_isAddress cX1_isAddress 2 (some .boolean), Cond.fieldLink RX1 42 "IslandHeap$Heap" "words" "I", Cond.methodLink RX6 118 yX1_pinnedCount, Cond.instanceMethod yX1_pinnedCount, Cond.selects RX1 yX1_pinnedCount yX1_pinnedCount, Cond.code yX1_pinnedCount cX1_pinnedCount 3 (some .int), Cond.methodLink RX1 91 yX1_isPinned, Cond.instanceMethod yX1_isPinned, Cond.selects RX1 yX1_isPinned yX1_isPinned, Cond.code yX1_isPinned cX1_isPinned 2 (some .boolean), Cond.fieldLink RX1 21 "IslandHeap$Heap" "pinned" "[I"]
def wsX6_pin_r2 : List Cond := [Cond.methodLink RX1 74 yX1_isObject, Cond.instanceMethod yX1_isObject, Cond.selects RX1 yX1_isObject yX1_isObject, Cond.code yX1_isObject cX1_isObject 2 (some .boolean)]
def wsX6_pin : List Cond := .code yX6_pin cX6_pin 5 (some .int) :: ((wsX6_pin_r1 ++ wsX6_pin_r2) ++ wsX60 ++ wsX10)
def wsX6_setRoot : List Cond := .code yX6_setRoot cX6_setRoot 3 (some .int) :: ([.fieldLink RX6 12 "IslandHeap" "heap" "LIslandHeap$Heap;", .constant RX6 63 (-1000002), .fieldLink RX6 122 "IslandHeap$Heap" "roots" "[I", .methodLink RX6 97 yX1_isReference, .instanceMethod yX1_isReference, .selects RX1 yX1_isReference yX1_isReference, .initialized RX1, .code yX1_isReference cX1_isReference 2 (some .boolean), .methodLink RX1 77 yX1_objectAt, .instanceMethod yX1_objectAt, .selects RX1 yX1_objectAt yX1_objectAt, .code yX1_objectAt cX1_objectAt 2 (some .int), .fieldLink RX1 9 "IslandHeap$Heap" "owner" "[I", .methodLink RX1 70 yX1_isAddress, .instanceMethod yX1_isAddress, .selects RX1 yX1_isAddress yX1_isAddress, .code yX1_isAddress cX1_isAddress 2 (some .boolean), .fieldLink RX1 42 "IslandHeap$Heap" "words" "I", .methodLink RX6 105 yX6_exchange, .static yX6_exchange, .initialized RX6, .code yX6_exchange cX6_exchange 4 (some .int)] ++ wsX60 ++ wsX10)
def wsX6_root : List Cond := .code yX6_root cX6_root 2 (some .int) :: ([.constant RX6 63 (-1000002), .fieldLink RX6 12 "IslandHeap" "heap" "LIslandHeap$Heap;", .fieldLink RX6 122 "IslandHeap$Heap" "roots" "[I"] ++ wsX60 ++ wsX10)
def wsX6_setWeak : List Cond := .code yX6_setWeak cX6_setWeak 3 (some .int) :: ([.fieldLink RX6 12 "IslandHeap" "heap" "LIslandHeap$Heap;", .constant RX6 63 (-1000002), .fieldLink RX6 125 "IslandHeap$Heap" "weaks" "[I", .methodLink RX6 97 yX1_isReference, .instanceMethod yX1_isReference, .selects RX1 yX1_isReference yX1_isReference, .initialized RX1, .code yX1_isReference cX1_isReference 2 (some .boolean), .methodLink RX1 77 yX1_objectAt, .instanceMethod yX1_objectAt, .selects RX1 yX1_objectAt yX1_objectAt, .code yX1_objectAt cX1_objectAt 2 (some .int), .fieldLink RX1 9 "IslandHeap$Heap" "owner" "[I", .methodLink RX1 70 yX1_isAddress, .instanceMethod yX1_isAddress, .selects RX1 yX1_isAddress yX1_isAddress, .code yX1_isAddress cX1_isAddress 2 (some .boolean), .fieldLink RX1 42 "IslandHeap$Heap" "words" "I", .methodLink RX6 105 yX6_exchange, .static yX6_exchange, .initialized RX6, .code yX6_exchange cX6_exchange 4 (some .int)] ++ wsX60 ++ wsX10)
def wsX6_weak : List Cond := .code yX6_weak cX6_weak 2 (some .int) :: ([.constant RX6 63 (-1000002), .fieldLink RX6 12 "IslandHeap" "heap" "LIslandHeap$Heap;", .fieldLink RX6 125 "IslandHeap$Heap" "weaks" "[I"] ++ wsX60 ++ wsX10)
def wsX6_collect_r1 : List Cond := [Cond.fieldLink RX6 12 "IslandHeap" "heap" "LIslandHeap$Heap;", Cond.fieldLink RX6 27 "IslandHeap" "collector" "LIslandHeap$Collector;", Cond.fieldLink RX6 143 "IslandHeap$Heap" "collections" "I", Cond.fieldLink RX6 146 "IslandHeap$Heap" "freed" "I", Cond.methodLink RX6 128 yX1_usedWords, Cond.instanceMethod yX1_usedWords, Cond.selects RX1 yX1_usedWords yX1_usedWords, Cond.initialized RX1, Cond.code yX1_usedWords cX1_usedWords 3 (some .int), Cond.fieldLink RX1 42 "IslandHeap$Heap" "words" "I", Cond.fieldLink RX1 9 "IslandHeap$Heap" "owner" "[I", Cond.methodLink RX6 131 yX0_mark, Cond.instanceMethod yX0_mark, Cond.selects RX0 yX0_mark yX0_mark, Cond.initialized RX0, Cond.code yX0_mark cX0_mark 3 none, Cond.fieldLink RX0 22 "IslandHeap$Heap" "roots" "[I", Cond.fieldLink RX0 31 "IslandHeap$Heap" "depth" "I", Cond.fieldLink RX0 43 "IslandHeap$Heap" "words" "I", Cond.fieldLink RX0 50 "IslandHeap$Collector" "overflow" "Z", Cond.methodLink RX0 19 yX0_begin, Cond.instanceMethod yX0_begin, Cond.selects RX0 yX0_begin yX0_begin, Cond.code yX0_begin cX0_begin 2 none]
def wsX6_collect_r2 : List Cond := [Cond.fieldLink RX0 9 "IslandHeap$Collector" "marked" "[Z", Cond.fieldLink RX0 57 "IslandHeap$Collector" "stacked" "I", Cond.fieldLink RX0 60 "IslandHeap$Collector" "deepest" "I", Cond.fieldLink RX0 63 "IslandHeap$Collector" "scans" "I", Cond.methodLink RX0 27 yX1_objectAt, Cond.instanceMethod yX1_objectAt, Cond.selects RX1 yX1_objectAt yX1_objectAt, Cond.code yX1_objectAt cX1_objectAt 2 (some .int), Cond.methodLink RX1 70 yX1_isAddress, Cond.instanceMethod yX1_isAddress, Cond.selects RX1 yX1_isAddress yX1_isAddress, Cond.code yX1_isAddress cX1_isAddress 2 (some .boolean), Cond.methodLink RX0 35 yX0_visit, Cond.instanceMethod yX0_visit, Cond.selects RX0 yX0_visit yX0_visit, Cond.code yX0_visit cX0_visit 3 none, Cond.fieldLink RX0 15 "IslandHeap$Collector" "stack" "[I", Cond.methodLink RX0 39 yX0_drain, Cond.instanceMethod yX0_drain, Cond.selects RX0 yX0_drain yX0_drain, Cond.code yX0_drain cX0_drain 5 none, Cond.fieldLink RX0 66 "IslandHeap$Heap" "fieldCount" "[I", Cond.fieldLink RX0 69 "IslandHeap$Heap" "content" "[I", Cond.methodLink RX0 46 yX1_isPinned]
def wsX6_collect_r3 : List Cond := [Cond.instanceMethod yX1_isPinned, Cond.selects RX1 yX1_isPinned yX1_isPinned, Cond.code yX1_isPinned cX1_isPinned 2 (some .boolean), Cond.fieldLink RX1 21 "IslandHeap$Heap" "pinned" "[I", Cond.methodLink RX1 74 yX1_isObject, Cond.instanceMethod yX1_isObject, Cond.selects RX1 yX1_isObject yX1_isObject, Cond.code yX1_isObject cX1_isObject 2 (some .boolean), Cond.methodLink RX0 54 yX0_scan, Cond.instanceMethod yX0_scan, Cond.selects RX0 yX0_scan yX0_scan, Cond.code yX0_scan cX0_scan 4 none, Cond.methodLink RX6 134 yX0_plan, Cond.instanceMethod yX0_plan, Cond.selects RX0 yX0_plan yX0_plan, Cond.code yX0_plan cX0_plan 5 none, Cond.fieldLink RX0 72 "IslandHeap$Heap" "movedTo" "[I", Cond.fieldLink RX0 81 "IslandHeap$Heap" "reports" "[I", Cond.methodLink RX0 75 yJ7_fill_53178, Cond.static yJ7_fill_53178, Cond.initialized RJ7, Cond.code yJ7_fill_53178 cJ7_fill_53178 4 none, Cond.methodLink RX0 84 yX0_planObject, Cond.instanceMethod yX0_planObject]
def wsX6_collect_r4 : List Cond := [Cond.selects RX0 yX0_planObject yX0_planObject, Cond.code yX0_planObject cX0_planObject 6 none, Cond.methodLink RX0 88 yX1_sizeOf, Cond.instanceMethod yX1_sizeOf, Cond.selects RX1 yX1_sizeOf yX1_sizeOf, Cond.code yX1_sizeOf cX1_sizeOf 2 (some .int), Cond.fieldLink RX1 15 "IslandHeap$Heap" "fieldCount" "[I", Cond.fieldLink RX1 18 "IslandHeap$Heap" "dataCount" "[I", Cond.methodLink RX6 137 yX0_redirect, Cond.instanceMethod yX0_redirect, Cond.selects RX0 yX0_redirect yX0_redirect, Cond.code yX0_redirect cX0_redirect 3 none, Cond.fieldLink RX0 95 "IslandHeap$Heap" "weaks" "[I", Cond.methodLink RX0 91 yX0_redirectRow, Cond.instanceMethod yX0_redirectRow, Cond.selects RX0 yX0_redirectRow yX0_redirectRow, Cond.code yX0_redirectRow cX0_redirectRow 6 none, Cond.methodLink RX0 98 yX1_isAddress, Cond.methodLink RX6 140 yX0_slide, Cond.instanceMethod yX0_slide, Cond.selects RX0 yX0_slide yX0_slide, Cond.code yX0_slide cX0_slide 3 none, Cond.fieldLink RX0 101 "IslandHeap$Heap" "owner" "[I", Cond.methodLink RX0 104 yX1_shift]
def wsX6_collect_r5 : List Cond := [Cond.instanceMethod yX1_shift, Cond.selects RX1 yX1_shift yX1_shift, Cond.code yX1_shift cX1_shift 3 none, Cond.fieldLink RX1 24 "IslandHeap$Heap" "age" "[I", Cond.fieldLink RX1 27 "IslandHeap$Heap" "content" "[I", Cond.methodLink RX1 64 arraycopyName, Cond.native arraycopyName, Cond.static arraycopyName, Cond.initialized "java/lang/System", Cond.methodLink RX1 88 yX1_sizeOf, Cond.methodLink RX1 84 yX1_own, Cond.instanceMethod yX1_own, Cond.selects RX1 yX1_own yX1_own, Cond.code yX1_own cX1_own 2 none, Cond.methodLink RX1 81 yJ7_fill_fda19, Cond.static yJ7_fill_fda19, Cond.code yJ7_fill_fda19 cJ7_fill_fda19 5 none, Cond.methodLink RJ7 13 yJ7_rangeCheck_23922, Cond.static yJ7_rangeCheck_23922, Cond.code yJ7_rangeCheck_23922 cJ7_rangeCheck_23922 3 none]
def wsX6_collect : List Cond := .code yX6_collect cX6_collect 3 (some .int) :: ((wsX6_collect_r1 ++ (wsX6_collect_r2 ++ (wsX6_collect_r3 ++ (wsX6_collect_r4 ++ wsX6_collect_r5)))) ++ wsX60 ++ wsX10 ++ wsX00)
def wsX6_moved : List Cond := .code yX6_moved cX6_moved 2 (some .int) :: ([.fieldLink RX6 12 "IslandHeap" "heap" "LIslandHeap$Heap;", .constant RX6 63 (-1000002), .fieldLink RX6 143 "IslandHeap$Heap" "collections" "I", .constant RX6 117 (-1000003), .fieldLink RX6 152 "IslandHeap$Heap" "movedTo" "[I", .methodLink RX6 149 yX1_isAddress, .instanceMethod yX1_isAddress, .selects RX1 yX1_isAddress yX1_isAddress, .initialized RX1, .code yX1_isAddress cX1_isAddress 2 (some .boolean), .fieldLink RX1 42 "IslandHeap$Heap" "words" "I"] ++ wsX60 ++ wsX10)
def wsX6_report : List Cond := .code yX6_report cX6_report 2 (some .int) :: ([.constant RX6 63 (-1000002), .fieldLink RX6 12 "IslandHeap" "heap" "LIslandHeap$Heap;", .fieldLink RX6 143 "IslandHeap$Heap" "collections" "I", .constant RX6 117 (-1000003), .fieldLink RX6 155 "IslandHeap$Heap" "reports" "[I"] ++ wsX60 ++ wsX10)
def wsX6_garbage_r1 : List Cond := [Cond.fieldLink RX6 34 "IslandHeap" "reach" "LIslandHeap$Reach;", Cond.fieldLink RX6 12 "IslandHeap" "heap" "LIslandHeap$Heap;", Cond.methodLink RX6 80 yX3_trace, Cond.instanceMethod yX3_trace, Cond.selects RX3 yX3_trace yX3_trace, Cond.initialized RX3, Cond.code yX3_trace cX3_trace 6 none, Cond.fieldLink RX3 9 "IslandHeap$Reach" "steps" "[I", Cond.fieldLink RX3 24 "IslandHeap$Reach" "queued" "I", Cond.fieldLink RX3 28 "IslandHeap$Heap" "roots" "[I", Cond.fieldLink RX3 41 "IslandHeap$Heap" "words" "I", Cond.fieldLink RX3 15 "IslandHeap$Reach" "queue" "[I", Cond.fieldLink RX3 48 "IslandHeap$Heap" "fieldCount" "[I", Cond.fieldLink RX3 51 "IslandHeap$Heap" "content" "[I", Cond.methodLink RX3 18 yJ7_fill_53178, Cond.static yJ7_fill_53178, Cond.initialized RJ7, Cond.code yJ7_fill_53178 cJ7_fill_53178 4 none, Cond.methodLink RX3 33 yX1_objectAt, Cond.instanceMethod yX1_objectAt, Cond.selects RX1 yX1_objectAt yX1_objectAt, Cond.initialized RX1, Cond.code yX1_objectAt cX1_objectAt 2 (some .int), Cond.fieldLink RX1 9 "IslandHeap$Heap" "owner" "[I"]
def wsX6_garbage_r2 : List Cond := [Cond.methodLink RX1 70 yX1_isAddress, Cond.instanceMethod yX1_isAddress, Cond.selects RX1 yX1_isAddress yX1_isAddress, Cond.code yX1_isAddress cX1_isAddress 2 (some .boolean), Cond.fieldLink RX1 42 "IslandHeap$Heap" "words" "I", Cond.methodLink RX3 37 yX3_arrive, Cond.instanceMethod yX3_arrive, Cond.selects RX3 yX3_arrive yX3_arrive, Cond.code yX3_arrive cX3_arrive 4 none, Cond.methodLink RX3 44 yX1_isPinned, Cond.instanceMethod yX1_isPinned, Cond.selects RX1 yX1_isPinned yX1_isPinned, Cond.code yX1_isPinned cX1_isPinned 2 (some .boolean), Cond.fieldLink RX1 21 "IslandHeap$Heap" "pinned" "[I", Cond.methodLink RX1 74 yX1_isObject, Cond.instanceMethod yX1_isObject, Cond.selects RX1 yX1_isObject yX1_isObject, Cond.code yX1_isObject cX1_isObject 2 (some .boolean), Cond.methodLink RX6 128 yX1_usedWords, Cond.instanceMethod yX1_usedWords, Cond.selects RX1 yX1_usedWords yX1_usedWords, Cond.code yX1_usedWords cX1_usedWords 3 (some .int), Cond.methodLink RX6 158 yX3_liveWords, Cond.instanceMethod yX3_liveWords]
def wsX6_garbage_r3 : List Cond := [Cond.selects RX3 yX3_liveWords yX3_liveWords, Cond.code yX3_liveWords cX3_liveWords 4 (some .int), Cond.methodLink RX3 54 yX1_sizeOf, Cond.instanceMethod yX1_sizeOf, Cond.selects RX1 yX1_sizeOf yX1_sizeOf, Cond.code yX1_sizeOf cX1_sizeOf 2 (some .int), Cond.fieldLink RX1 15 "IslandHeap$Heap" "fieldCount" "[I", Cond.fieldLink RX1 18 "IslandHeap$Heap" "dataCount" "[I"]
def wsX6_garbage : List Cond := .code yX6_garbage cX6_garbage 1 (some .int) :: ((wsX6_garbage_r1 ++ (wsX6_garbage_r2 ++ wsX6_garbage_r3)) ++ wsX60 ++ wsX30 ++ wsX10)
def wsX6_distance_r1 : List Cond := [Cond.fieldLink RX6 12 "IslandHeap" "heap" "LIslandHeap$Heap;", Cond.constant RX6 63 (-1000002), Cond.fieldLink RX6 34 "IslandHeap" "reach" "LIslandHeap$Reach;", Cond.fieldLink RX6 162 "IslandHeap$Reach" "steps" "[I", Cond.methodLink RX6 73 yX1_objectAt, Cond.instanceMethod yX1_objectAt, Cond.selects RX1 yX1_objectAt yX1_objectAt, Cond.initialized RX1, Cond.code yX1_objectAt cX1_objectAt 2 (some .int), Cond.fieldLink RX1 9 "IslandHeap$Heap" "owner" "[I", Cond.methodLink RX1 70 yX1_isAddress, Cond.instanceMethod yX1_isAddress, Cond.selects RX1 yX1_isAddress yX1_isAddress, Cond.code yX1_isAddress cX1_isAddress 2 (some .boolean), Cond.fieldLink RX1 42 "IslandHeap$Heap" "words" "I", Cond.methodLink RX6 80 yX3_trace, Cond.instanceMethod yX3_trace, Cond.selects RX3 yX3_trace yX3_trace, Cond.initialized RX3, Cond.code yX3_trace cX3_trace 6 none, Cond.fieldLink RX3 9 "IslandHeap$Reach" "steps" "[I", Cond.fieldLink RX3 24 "IslandHeap$Reach" "queued" "I", Cond.fieldLink RX3 28 "IslandHeap$Heap" "roots" "[I", Cond.fieldLink RX3 41 "IslandHeap$Heap" "words" "I"]
def wsX6_distance_r2 : List Cond := [Cond.fieldLink RX3 15 "IslandHeap$Reach" "queue" "[I", Cond.fieldLink RX3 48 "IslandHeap$Heap" "fieldCount" "[I", Cond.fieldLink RX3 51 "IslandHeap$Heap" "content" "[I", Cond.methodLink RX3 18 yJ7_fill_53178, Cond.static yJ7_fill_53178, Cond.initialized RJ7, Cond.code yJ7_fill_53178 cJ7_fill_53178 4 none, Cond.methodLink RX3 33 yX1_objectAt, Cond.methodLink RX3 37 yX3_arrive, Cond.instanceMethod yX3_arrive, Cond.selects RX3 yX3_arrive yX3_arrive, Cond.code yX3_arrive cX3_arrive 4 none, Cond.methodLink RX3 44 yX1_isPinned, Cond.instanceMethod yX1_isPinned, Cond.selects RX1 yX1_isPinned yX1_isPinned, Cond.code yX1_isPinned cX1_isPinned 2 (some .boolean), Cond.fieldLink RX1 21 "IslandHeap$Heap" "pinned" "[I", Cond.methodLink RX1 74 yX1_isObject, Cond.instanceMethod yX1_isObject, Cond.selects RX1 yX1_isObject yX1_isObject, Cond.code yX1_isObject cX1_isObject 2 (some .boolean)]
def wsX6_distance : List Cond := .code yX6_distance cX6_distance 3 (some .int) :: ((wsX6_distance_r1 ++ wsX6_distance_r2) ++ wsX60 ++ wsX30 ++ wsX10)
def wsX6_retained_r1 : List Cond := [Cond.fieldLink RX6 12 "IslandHeap" "heap" "LIslandHeap$Heap;", Cond.constant RX6 63 (-1000002), Cond.fieldLink RX6 34 "IslandHeap" "reach" "LIslandHeap$Reach;", Cond.methodLink RX6 73 yX1_objectAt, Cond.instanceMethod yX1_objectAt, Cond.selects RX1 yX1_objectAt yX1_objectAt, Cond.initialized RX1, Cond.code yX1_objectAt cX1_objectAt 2 (some .int), Cond.fieldLink RX1 9 "IslandHeap$Heap" "owner" "[I", Cond.methodLink RX1 70 yX1_isAddress, Cond.instanceMethod yX1_isAddress, Cond.selects RX1 yX1_isAddress yX1_isAddress, Cond.code yX1_isAddress cX1_isAddress 2 (some .boolean), Cond.fieldLink RX1 42 "IslandHeap$Heap" "words" "I", Cond.methodLink RX6 80 yX3_trace, Cond.instanceMethod yX3_trace, Cond.selects RX3 yX3_trace yX3_trace, Cond.initialized RX3, Cond.code yX3_trace cX3_trace 6 none, Cond.fieldLink RX3 9 "IslandHeap$Reach" "steps" "[I", Cond.fieldLink RX3 24 "IslandHeap$Reach" "queued" "I", Cond.fieldLink RX3 28 "IslandHeap$Heap" "roots" "[I", Cond.fieldLink RX3 41 "IslandHeap$Heap" "words" "I", Cond.fieldLink RX3 15 "IslandHeap$Reach" "queue" "[I"]
def wsX6_retained_r2 : List Cond := [Cond.fieldLink RX3 48 "IslandHeap$Heap" "fieldCount" "[I", Cond.fieldLink RX3 51 "IslandHeap$Heap" "content" "[I", Cond.methodLink RX3 18 yJ7_fill_53178, Cond.static yJ7_fill_53178, Cond.initialized RJ7, Cond.code yJ7_fill_53178 cJ7_fill_53178 4 none, Cond.methodLink RX3 33 yX1_objectAt, Cond.methodLink RX3 37 yX3_arrive, Cond.instanceMethod yX3_arrive, Cond.selects RX3 yX3_arrive yX3_arrive, Cond.code yX3_arrive cX3_arrive 4 none, Cond.methodLink RX3 44 yX1_isPinned, Cond.instanceMethod yX1_isPinned, Cond.selects RX1 yX1_isPinned yX1_isPinned, Cond.code yX1_isPinned cX1_isPinned 2 (some .boolean), Cond.fieldLink RX1 21 "IslandHeap$Heap" "pinned" "[I", Cond.methodLink RX1 74 yX1_isObject, Cond.instanceMethod yX1_isObject, Cond.selects RX1 yX1_isObject yX1_isObject, Cond.code yX1_isObject cX1_isObject 2 (some .boolean), Cond.methodLink RX6 158 yX3_liveWords, Cond.instanceMethod yX3_liveWords, Cond.selects RX3 yX3_liveWords yX3_liveWords, Cond.code yX3_liveWords cX3_liveWords 4 (some .int)]
def wsX6_retained_r3 : List Cond := [Cond.methodLink RX3 54 yX1_sizeOf, Cond.instanceMethod yX1_sizeOf, Cond.selects RX1 yX1_sizeOf yX1_sizeOf, Cond.code yX1_sizeOf cX1_sizeOf 2 (some .int), Cond.fieldLink RX1 15 "IslandHeap$Heap" "fieldCount" "[I", Cond.fieldLink RX1 18 "IslandHeap$Heap" "dataCount" "[I"]
def wsX6_retained : List Cond := .code yX6_retained cX6_retained 4 (some .int) :: ((wsX6_retained_r1 ++ (wsX6_retained_r2 ++ wsX6_retained_r3)) ++ wsX60 ++ wsX10 ++ wsX30)
def wsX6_free : List Cond := .code yX6_free cX6_free 2 (some .int) :: ([.constant RX6 63 (-1000002), .fieldLink RX6 48 "IslandHeap" "holes" "LIslandHeap$Holes;", .fieldLink RX6 12 "IslandHeap" "heap" "LIslandHeap$Heap;", .fieldLink RX6 168 "IslandHeap$Holes" "numbers" "[I", .methodLink RX6 165 yX2_measure, .instanceMethod yX2_measure, .selects RX2 yX2_measure yX2_measure, .initialized RX2, .code yX2_measure cX2_measure 4 none, .fieldLink RX2 9 "IslandHeap$Holes" "numbers" "[I", .fieldLink RX2 21 "IslandHeap$Heap" "words" "I", .fieldLink RX2 27 "IslandHeap$Heap" "owner" "[I", .methodLink RX2 15 yJ7_fill_53178, .static yJ7_fill_53178, .initialized RJ7, .code yJ7_fill_53178 cJ7_fill_53178 4 none, .methodLink RX2 30 yX2_include, .instanceMethod yX2_include, .selects RX2 yX2_include yX2_include, .code yX2_include cX2_include 3 none, .methodLink RX2 34 Lib.Math.max.name, .static Lib.Math.max.name, .initialized "java/lang/Math", .code Lib.Math.max.name Lib.Math.max.code 2 (some .int)] ++ wsX60 ++ wsX20 ++ wsX10)
def wsX6_type : List Cond := .code yX6_type cX6_type 2 (some .int) :: ([.constant RX6 63 (-1000002), .fieldLink RX6 55 "IslandHeap" "script" "LIslandHeap$Script;", .fieldLink RX6 171 "IslandHeap$Script" "length" "I", .constant RX6 68 (-1000004), .fieldLink RX6 174 "IslandHeap$Script" "letters" "[I"] ++ wsX60 ++ wsX50)
def wsX6_clearText : List Cond := .code yX6_clearText cX6_clearText 2 (some .int) :: ([.fieldLink RX6 55 "IslandHeap" "script" "LIslandHeap$Script;", .fieldLink RX6 171 "IslandHeap$Script" "length" "I"] ++ wsX60 ++ wsX50)
def wsX6_fault_r1 : List Cond := [Cond.fieldLink RX6 55 "IslandHeap" "script" "LIslandHeap$Script;", Cond.fieldLink RX6 180 "IslandHeap$Script" "faultIndex" "I", Cond.methodLink RX6 177 yX5_read, Cond.instanceMethod yX5_read, Cond.selects RX5 yX5_read yX5_read, Cond.initialized RX5, Cond.code yX5_read cX5_read 2 none, Cond.fieldLink RX5 27 "IslandHeap$Script" "commands" "I", Cond.fieldLink RX5 31 "IslandHeap$Script" "faultIndex" "I", Cond.fieldLink RX5 34 "IslandHeap$Script" "position" "I", Cond.fieldLink RX5 40 "IslandHeap$Script" "length" "I", Cond.methodLink RX5 37 yX5_skipBlanks, Cond.instanceMethod yX5_skipBlanks, Cond.selects RX5 yX5_skipBlanks yX5_skipBlanks, Cond.code yX5_skipBlanks cX5_skipBlanks 2 none, Cond.fieldLink RX5 9 "IslandHeap$Script" "letters" "[I", Cond.methodLink RX5 43 yX5_readCommand, Cond.instanceMethod yX5_readCommand, Cond.selects RX5 yX5_readCommand yX5_readCommand, Cond.code yX5_readCommand cX5_readCommand 3 none, Cond.fieldLink RX5 18 "IslandHeap$Script" "firsts" "[I", Cond.fieldLink RX5 21 "IslandHeap$Script" "seconds" "[I", Cond.fieldLink RX5 24 "IslandHeap$Script" "thirds" "[I", Cond.fieldLink RX5 15 "IslandHeap$Script" "kinds" "[I"]
def wsX6_fault_r2 : List Cond := [Cond.methodLink RX5 47 yX5_letter, Cond.instanceMethod yX5_letter, Cond.selects RX5 yX5_letter yX5_letter, Cond.code yX5_letter cX5_letter 1 (some .int), Cond.methodLink RX5 51 yX5_readDigit, Cond.instanceMethod yX5_readDigit, Cond.selects RX5 yX5_readDigit yX5_readDigit, Cond.code yX5_readDigit cX5_readDigit 2 (some .int), Cond.methodLink RX5 66 yX5_isDigit, Cond.static yX5_isDigit, Cond.code yX5_isDigit cX5_isDigit 1 (some .boolean), Cond.methodLink RX5 60 yX5_refuse, Cond.instanceMethod yX5_refuse, Cond.selects RX5 yX5_refuse yX5_refuse, Cond.code yX5_refuse cX5_refuse 1 none, Cond.methodLink RX5 54 yX5_readPlace, Cond.instanceMethod yX5_readPlace, Cond.selects RX5 yX5_readPlace yX5_readPlace, Cond.code yX5_readPlace cX5_readPlace 1 (some .int), Cond.methodLink RX5 57 yX5_readNumber, Cond.instanceMethod yX5_readNumber, Cond.selects RX5 yX5_readNumber yX5_readNumber, Cond.code yX5_readNumber cX5_readNumber 3 (some .int), Cond.methodLink RX5 63 yX5_readEnd]
def wsX6_fault_r3 : List Cond := [Cond.instanceMethod yX5_readEnd, Cond.selects RX5 yX5_readEnd yX5_readEnd, Cond.code yX5_readEnd cX5_readEnd 1 none]
def wsX6_fault : List Cond := .code yX6_fault cX6_fault 1 (some .int) :: ((wsX6_fault_r1 ++ (wsX6_fault_r2 ++ wsX6_fault_r3)) ++ wsX60 ++ wsX50)
def wsX6_perform_r1 : List Cond := [Cond.fieldLink RX6 55 "IslandHeap" "script" "LIslandHeap$Script;", Cond.fieldLink RX6 241 "IslandHeap$Script" "firsts" "[I", Cond.fieldLink RX6 244 "IslandHeap$Script" "seconds" "[I", Cond.fieldLink RX6 247 "IslandHeap$Script" "kinds" "[I", Cond.fieldLink RX6 259 "IslandHeap$Script" "thirds" "[I", Cond.methodLink RX6 250 yX6_alloc, Cond.instanceMethod yX6_alloc, Cond.selects RX6 yX6_alloc yX6_alloc, Cond.initialized RX6, Cond.code yX6_alloc cX6_alloc 4 (some .int), Cond.constant RX6 63 (-1000002), Cond.fieldLink RX6 12 "IslandHeap" "heap" "LIslandHeap$Heap;", Cond.constant RX6 68 (-1000004), Cond.methodLink RX6 64 yX1_roomFor, Cond.instanceMethod yX1_roomFor, Cond.selects RX1 yX1_roomFor yX1_roomFor, Cond.initialized RX1, Cond.code yX1_roomFor cX1_roomFor 4 (some .int), Cond.fieldLink RX1 42 "IslandHeap$Heap" "words" "I", Cond.fieldLink RX1 9 "IslandHeap$Heap" "owner" "[I", Cond.methodLink RX6 69 yX1_place, Cond.instanceMethod yX1_place, Cond.selects RX1 yX1_place yX1_place, Cond.code yX1_place cX1_place 5 none]
def wsX6_perform_r2 : List Cond := [Cond.fieldLink RX1 15 "IslandHeap$Heap" "fieldCount" "[I", Cond.fieldLink RX1 18 "IslandHeap$Heap" "dataCount" "[I", Cond.fieldLink RX1 21 "IslandHeap$Heap" "pinned" "[I", Cond.fieldLink RX1 24 "IslandHeap$Heap" "age" "[I", Cond.fieldLink RX1 27 "IslandHeap$Heap" "content" "[I", Cond.fieldLink RX1 49 "IslandHeap$Heap" "allocated" "I", Cond.methodLink RX1 81 yJ7_fill_fda19, Cond.static yJ7_fill_fda19, Cond.initialized RJ7, Cond.code yJ7_fill_fda19 cJ7_fill_fda19 5 none, Cond.methodLink RJ7 13 yJ7_rangeCheck_23922, Cond.static yJ7_rangeCheck_23922, Cond.code yJ7_rangeCheck_23922 cJ7_rangeCheck_23922 3 none, Cond.methodLink RX1 84 yX1_own, Cond.instanceMethod yX1_own, Cond.selects RX1 yX1_own yX1_own, Cond.code yX1_own cX1_own 2 none, Cond.methodLink RX1 88 yX1_sizeOf, Cond.instanceMethod yX1_sizeOf, Cond.selects RX1 yX1_sizeOf yX1_sizeOf, Cond.code yX1_sizeOf cX1_sizeOf 2 (some .int), Cond.methodLink RX6 253 yX6_setRoot, Cond.instanceMethod yX6_setRoot, Cond.selects RX6 yX6_setRoot yX6_setRoot]
def wsX6_perform_r3 : List Cond := [Cond.code yX6_setRoot cX6_setRoot 3 (some .int), Cond.fieldLink RX6 122 "IslandHeap$Heap" "roots" "[I", Cond.methodLink RX6 97 yX1_isReference, Cond.instanceMethod yX1_isReference, Cond.selects RX1 yX1_isReference yX1_isReference, Cond.code yX1_isReference cX1_isReference 2 (some .boolean), Cond.methodLink RX1 77 yX1_objectAt, Cond.instanceMethod yX1_objectAt, Cond.selects RX1 yX1_objectAt yX1_objectAt, Cond.code yX1_objectAt cX1_objectAt 2 (some .int), Cond.methodLink RX1 70 yX1_isAddress, Cond.instanceMethod yX1_isAddress, Cond.selects RX1 yX1_isAddress yX1_isAddress, Cond.code yX1_isAddress cX1_isAddress 2 (some .boolean), Cond.methodLink RX6 105 yX6_exchange, Cond.static yX6_exchange, Cond.code yX6_exchange cX6_exchange 4 (some .int), Cond.methodLink RX6 256 yX6_setWeak, Cond.instanceMethod yX6_setWeak, Cond.selects RX6 yX6_setWeak yX6_setWeak, Cond.code yX6_setWeak cX6_setWeak 3 (some .int), Cond.fieldLink RX6 125 "IslandHeap$Heap" "weaks" "[I", Cond.methodLink RX6 262 yX6_setField, Cond.instanceMethod yX6_setField]
def wsX6_perform_r4 : List Cond := [Cond.selects RX6 yX6_setField yX6_setField, Cond.code yX6_setField cX6_setField 5 (some .int), Cond.fieldLink RX6 101 "IslandHeap$Heap" "content" "[I", Cond.methodLink RX6 94 yX6_fieldWord, Cond.instanceMethod yX6_fieldWord, Cond.selects RX6 yX6_fieldWord yX6_fieldWord, Cond.code yX6_fieldWord cX6_fieldWord 4 (some .int), Cond.fieldLink RX6 229 "IslandHeap$Heap" "fieldCount" "[I", Cond.methodLink RX6 73 yX1_objectAt, Cond.methodLink RX6 266 yX6_pin, Cond.instanceMethod yX6_pin, Cond.selects RX6 yX6_pin yX6_pin, Cond.code yX6_pin cX6_pin 5 (some .int), Cond.fieldLink RX6 114 "IslandHeap$Heap" "pinned" "[I", Cond.constant RX6 117 (-1000003), Cond.methodLink RX6 118 yX1_pinnedCount, Cond.instanceMethod yX1_pinnedCount, Cond.selects RX1 yX1_pinnedCount yX1_pinnedCount, Cond.code yX1_pinnedCount cX1_pinnedCount 3 (some .int), Cond.methodLink RX1 91 yX1_isPinned, Cond.instanceMethod yX1_isPinned, Cond.selects RX1 yX1_isPinned yX1_isPinned, Cond.code yX1_isPinned cX1_isPinned 2 (some .boolean), Cond.methodLink RX1 74 yX1_isObject]
def wsX6_perform_r5 : List Cond := [Cond.instanceMethod yX1_isObject, Cond.selects RX1 yX1_isObject yX1_isObject, Cond.code yX1_isObject cX1_isObject 2 (some .boolean), Cond.methodLink RX6 270 yX6_collect, Cond.instanceMethod yX6_collect, Cond.selects RX6 yX6_collect yX6_collect, Cond.code yX6_collect cX6_collect 3 (some .int), Cond.fieldLink RX6 27 "IslandHeap" "collector" "LIslandHeap$Collector;", Cond.fieldLink RX6 143 "IslandHeap$Heap" "collections" "I", Cond.fieldLink RX6 146 "IslandHeap$Heap" "freed" "I", Cond.methodLink RX6 128 yX1_usedWords, Cond.instanceMethod yX1_usedWords, Cond.selects RX1 yX1_usedWords yX1_usedWords, Cond.code yX1_usedWords cX1_usedWords 3 (some .int), Cond.methodLink RX6 131 yX0_mark, Cond.instanceMethod yX0_mark, Cond.selects RX0 yX0_mark yX0_mark, Cond.initialized RX0, Cond.code yX0_mark cX0_mark 3 none, Cond.fieldLink RX0 22 "IslandHeap$Heap" "roots" "[I", Cond.fieldLink RX0 31 "IslandHeap$Heap" "depth" "I", Cond.fieldLink RX0 43 "IslandHeap$Heap" "words" "I", Cond.fieldLink RX0 50 "IslandHeap$Collector" "overflow" "Z", Cond.methodLink RX0 19 yX0_begin]
def wsX6_perform_r6 : List Cond := [Cond.instanceMethod yX0_begin, Cond.selects RX0 yX0_begin yX0_begin, Cond.code yX0_begin cX0_begin 2 none, Cond.fieldLink RX0 9 "IslandHeap$Collector" "marked" "[Z", Cond.fieldLink RX0 57 "IslandHeap$Collector" "stacked" "I", Cond.fieldLink RX0 60 "IslandHeap$Collector" "deepest" "I", Cond.fieldLink RX0 63 "IslandHeap$Collector" "scans" "I", Cond.methodLink RX0 27 yX1_objectAt, Cond.methodLink RX0 35 yX0_visit, Cond.instanceMethod yX0_visit, Cond.selects RX0 yX0_visit yX0_visit, Cond.code yX0_visit cX0_visit 3 none, Cond.fieldLink RX0 15 "IslandHeap$Collector" "stack" "[I", Cond.methodLink RX0 39 yX0_drain, Cond.instanceMethod yX0_drain, Cond.selects RX0 yX0_drain yX0_drain, Cond.code yX0_drain cX0_drain 5 none, Cond.fieldLink RX0 66 "IslandHeap$Heap" "fieldCount" "[I", Cond.fieldLink RX0 69 "IslandHeap$Heap" "content" "[I", Cond.methodLink RX0 46 yX1_isPinned, Cond.methodLink RX0 54 yX0_scan, Cond.instanceMethod yX0_scan, Cond.selects RX0 yX0_scan yX0_scan, Cond.code yX0_scan cX0_scan 4 none]
def wsX6_perform_r7 : List Cond := [Cond.methodLink RX6 134 yX0_plan, Cond.instanceMethod yX0_plan, Cond.selects RX0 yX0_plan yX0_plan, Cond.code yX0_plan cX0_plan 5 none, Cond.fieldLink RX0 72 "IslandHeap$Heap" "movedTo" "[I", Cond.fieldLink RX0 81 "IslandHeap$Heap" "reports" "[I", Cond.methodLink RX0 75 yJ7_fill_53178, Cond.static yJ7_fill_53178, Cond.code yJ7_fill_53178 cJ7_fill_53178 4 none, Cond.methodLink RX0 84 yX0_planObject, Cond.instanceMethod yX0_planObject, Cond.selects RX0 yX0_planObject yX0_planObject, Cond.code yX0_planObject cX0_planObject 6 none, Cond.methodLink RX0 88 yX1_sizeOf, Cond.methodLink RX6 137 yX0_redirect, Cond.instanceMethod yX0_redirect, Cond.selects RX0 yX0_redirect yX0_redirect, Cond.code yX0_redirect cX0_redirect 3 none, Cond.fieldLink RX0 95 "IslandHeap$Heap" "weaks" "[I", Cond.methodLink RX0 91 yX0_redirectRow, Cond.instanceMethod yX0_redirectRow, Cond.selects RX0 yX0_redirectRow yX0_redirectRow, Cond.code yX0_redirectRow cX0_redirectRow 6 none, Cond.methodLink RX0 98 yX1_isAddress]
def wsX6_perform_r8 : List Cond := [Cond.methodLink RX6 140 yX0_slide, Cond.instanceMethod yX0_slide, Cond.selects RX0 yX0_slide yX0_slide, Cond.code yX0_slide cX0_slide 3 none, Cond.fieldLink RX0 101 "IslandHeap$Heap" "owner" "[I", Cond.methodLink RX0 104 yX1_shift, Cond.instanceMethod yX1_shift, Cond.selects RX1 yX1_shift yX1_shift, Cond.code yX1_shift cX1_shift 3 none, Cond.methodLink RX1 64 arraycopyName, Cond.native arraycopyName, Cond.static arraycopyName, Cond.initialized "java/lang/System"]
def wsX6_perform : List Cond := .code yX6_perform cX6_perform 4 (some .int) :: ((wsX6_perform_r1 ++ (wsX6_perform_r2 ++ (wsX6_perform_r3 ++ (wsX6_perform_r4 ++ (wsX6_perform_r5 ++ (wsX6_perform_r6 ++ (wsX6_perform_r7 ++ wsX6_perform_r8))))))) ++ wsX60 ++ wsX50 ++ wsX10 ++ wsX00)
def wsX6_isError : List Cond := .code yX6_isError cX6_isError 1 (some .boolean) :: ([.constant RX6 63 (-1000002), .constant RX6 117 (-1000003), .constant RX6 68 (-1000004)])
def wsX6_run_r1 : List Cond := [Cond.fieldLink RX6 55 "IslandHeap" "script" "LIslandHeap$Script;", Cond.fieldLink RX6 180 "IslandHeap$Script" "faultIndex" "I", Cond.constant RX6 117 (-1000003), Cond.fieldLink RX6 59 "IslandHeap" "latestRefusal" "I", Cond.fieldLink RX6 183 "IslandHeap$Script" "commands" "I", Cond.methodLink RX6 177 yX5_read, Cond.instanceMethod yX5_read, Cond.selects RX5 yX5_read yX5_read, Cond.initialized RX5, Cond.code yX5_read cX5_read 2 none, Cond.fieldLink RX5 27 "IslandHeap$Script" "commands" "I", Cond.fieldLink RX5 31 "IslandHeap$Script" "faultIndex" "I", Cond.fieldLink RX5 34 "IslandHeap$Script" "position" "I", Cond.fieldLink RX5 40 "IslandHeap$Script" "length" "I", Cond.methodLink RX5 37 yX5_skipBlanks, Cond.instanceMethod yX5_skipBlanks, Cond.selects RX5 yX5_skipBlanks yX5_skipBlanks, Cond.code yX5_skipBlanks cX5_skipBlanks 2 none, Cond.fieldLink RX5 9 "IslandHeap$Script" "letters" "[I", Cond.methodLink RX5 43 yX5_readCommand, Cond.instanceMethod yX5_readCommand, Cond.selects RX5 yX5_readCommand yX5_readCommand, Cond.code yX5_readCommand cX5_readCommand 3 none, Cond.fieldLink RX5 18 "IslandHeap$Script" "firsts" "[I"]
def wsX6_run_r2 : List Cond := [Cond.fieldLink RX5 21 "IslandHeap$Script" "seconds" "[I", Cond.fieldLink RX5 24 "IslandHeap$Script" "thirds" "[I", Cond.fieldLink RX5 15 "IslandHeap$Script" "kinds" "[I", Cond.methodLink RX5 47 yX5_letter, Cond.instanceMethod yX5_letter, Cond.selects RX5 yX5_letter yX5_letter, Cond.code yX5_letter cX5_letter 1 (some .int), Cond.methodLink RX5 51 yX5_readDigit, Cond.instanceMethod yX5_readDigit, Cond.selects RX5 yX5_readDigit yX5_readDigit, Cond.code yX5_readDigit cX5_readDigit 2 (some .int), Cond.methodLink RX5 66 yX5_isDigit, Cond.static yX5_isDigit, Cond.code yX5_isDigit cX5_isDigit 1 (some .boolean), Cond.methodLink RX5 60 yX5_refuse, Cond.instanceMethod yX5_refuse, Cond.selects RX5 yX5_refuse yX5_refuse, Cond.code yX5_refuse cX5_refuse 1 none, Cond.methodLink RX5 54 yX5_readPlace, Cond.instanceMethod yX5_readPlace, Cond.selects RX5 yX5_readPlace yX5_readPlace, Cond.code yX5_readPlace cX5_readPlace 1 (some .int), Cond.methodLink RX5 57 yX5_readNumber, Cond.instanceMethod yX5_readNumber]
def wsX6_run_r3 : List Cond := [Cond.selects RX5 yX5_readNumber yX5_readNumber, Cond.code yX5_readNumber cX5_readNumber 3 (some .int), Cond.methodLink RX5 63 yX5_readEnd, Cond.instanceMethod yX5_readEnd, Cond.selects RX5 yX5_readEnd yX5_readEnd, Cond.code yX5_readEnd cX5_readEnd 1 none, Cond.methodLink RX6 186 yX6_perform, Cond.instanceMethod yX6_perform, Cond.selects RX6 yX6_perform yX6_perform, Cond.initialized RX6, Cond.code yX6_perform cX6_perform 4 (some .int), Cond.fieldLink RX6 241 "IslandHeap$Script" "firsts" "[I", Cond.fieldLink RX6 244 "IslandHeap$Script" "seconds" "[I", Cond.fieldLink RX6 247 "IslandHeap$Script" "kinds" "[I", Cond.fieldLink RX6 259 "IslandHeap$Script" "thirds" "[I", Cond.methodLink RX6 250 yX6_alloc, Cond.instanceMethod yX6_alloc, Cond.selects RX6 yX6_alloc yX6_alloc, Cond.code yX6_alloc cX6_alloc 4 (some .int), Cond.constant RX6 63 (-1000002), Cond.fieldLink RX6 12 "IslandHeap" "heap" "LIslandHeap$Heap;", Cond.constant RX6 68 (-1000004), Cond.methodLink RX6 64 yX1_roomFor, Cond.instanceMethod yX1_roomFor]
def wsX6_run_r4 : List Cond := [Cond.selects RX1 yX1_roomFor yX1_roomFor, Cond.initialized RX1, Cond.code yX1_roomFor cX1_roomFor 4 (some .int), Cond.fieldLink RX1 42 "IslandHeap$Heap" "words" "I", Cond.fieldLink RX1 9 "IslandHeap$Heap" "owner" "[I", Cond.methodLink RX6 69 yX1_place, Cond.instanceMethod yX1_place, Cond.selects RX1 yX1_place yX1_place, Cond.code yX1_place cX1_place 5 none, Cond.fieldLink RX1 15 "IslandHeap$Heap" "fieldCount" "[I", Cond.fieldLink RX1 18 "IslandHeap$Heap" "dataCount" "[I", Cond.fieldLink RX1 21 "IslandHeap$Heap" "pinned" "[I", Cond.fieldLink RX1 24 "IslandHeap$Heap" "age" "[I", Cond.fieldLink RX1 27 "IslandHeap$Heap" "content" "[I", Cond.fieldLink RX1 49 "IslandHeap$Heap" "allocated" "I", Cond.methodLink RX1 81 yJ7_fill_fda19, Cond.static yJ7_fill_fda19, Cond.initialized RJ7, Cond.code yJ7_fill_fda19 cJ7_fill_fda19 5 none, Cond.methodLink RJ7 13 yJ7_rangeCheck_23922, Cond.static yJ7_rangeCheck_23922, Cond.code yJ7_rangeCheck_23922 cJ7_rangeCheck_23922 3 none, Cond.methodLink RX1 84 yX1_own, Cond.instanceMethod yX1_own]
def wsX6_run_r5 : List Cond := [Cond.selects RX1 yX1_own yX1_own, Cond.code yX1_own cX1_own 2 none, Cond.methodLink RX1 88 yX1_sizeOf, Cond.instanceMethod yX1_sizeOf, Cond.selects RX1 yX1_sizeOf yX1_sizeOf, Cond.code yX1_sizeOf cX1_sizeOf 2 (some .int), Cond.methodLink RX6 253 yX6_setRoot, Cond.instanceMethod yX6_setRoot, Cond.selects RX6 yX6_setRoot yX6_setRoot, Cond.code yX6_setRoot cX6_setRoot 3 (some .int), Cond.fieldLink RX6 122 "IslandHeap$Heap" "roots" "[I", Cond.methodLink RX6 97 yX1_isReference, Cond.instanceMethod yX1_isReference, Cond.selects RX1 yX1_isReference yX1_isReference, Cond.code yX1_isReference cX1_isReference 2 (some .boolean), Cond.methodLink RX1 77 yX1_objectAt, Cond.instanceMethod yX1_objectAt, Cond.selects RX1 yX1_objectAt yX1_objectAt, Cond.code yX1_objectAt cX1_objectAt 2 (some .int), Cond.methodLink RX1 70 yX1_isAddress, Cond.instanceMethod yX1_isAddress, Cond.selects RX1 yX1_isAddress yX1_isAddress, Cond.code yX1_isAddress cX1_isAddress 2 (some .boolean), Cond.methodLink RX6 105 yX6_exchange]
def wsX6_run_r6 : List Cond := [Cond.static yX6_exchange, Cond.code yX6_exchange cX6_exchange 4 (some .int), Cond.methodLink RX6 256 yX6_setWeak, Cond.instanceMethod yX6_setWeak, Cond.selects RX6 yX6_setWeak yX6_setWeak, Cond.code yX6_setWeak cX6_setWeak 3 (some .int), Cond.fieldLink RX6 125 "IslandHeap$Heap" "weaks" "[I", Cond.methodLink RX6 262 yX6_setField, Cond.instanceMethod yX6_setField, Cond.selects RX6 yX6_setField yX6_setField, Cond.code yX6_setField cX6_setField 5 (some .int), Cond.fieldLink RX6 101 "IslandHeap$Heap" "content" "[I", Cond.methodLink RX6 94 yX6_fieldWord, Cond.instanceMethod yX6_fieldWord, Cond.selects RX6 yX6_fieldWord yX6_fieldWord, Cond.code yX6_fieldWord cX6_fieldWord 4 (some .int), Cond.fieldLink RX6 229 "IslandHeap$Heap" "fieldCount" "[I", Cond.methodLink RX6 73 yX1_objectAt, Cond.methodLink RX6 266 yX6_pin, Cond.instanceMethod yX6_pin, Cond.selects RX6 yX6_pin yX6_pin, Cond.code yX6_pin cX6_pin 5 (some .int), Cond.fieldLink RX6 114 "IslandHeap$Heap" "pinned" "[I", Cond.methodLink RX6 118 yX1_pinnedCount]
def wsX6_run_r7 : List Cond := [Cond.instanceMethod yX1_pinnedCount, Cond.selects RX1 yX1_pinnedCount yX1_pinnedCount, Cond.code yX1_pinnedCount cX1_pinnedCount 3 (some .int), Cond.methodLink RX1 91 yX1_isPinned, Cond.instanceMethod yX1_isPinned, Cond.selects RX1 yX1_isPinned yX1_isPinned, Cond.code yX1_isPinned cX1_isPinned 2 (some .boolean), Cond.methodLink RX1 74 yX1_isObject, Cond.instanceMethod yX1_isObject, Cond.selects RX1 yX1_isObject yX1_isObject, Cond.code yX1_isObject cX1_isObject 2 (some .boolean), Cond.methodLink RX6 270 yX6_collect, Cond.instanceMethod yX6_collect, Cond.selects RX6 yX6_collect yX6_collect, Cond.code yX6_collect cX6_collect 3 (some .int), Cond.fieldLink RX6 27 "IslandHeap" "collector" "LIslandHeap$Collector;", Cond.fieldLink RX6 143 "IslandHeap$Heap" "collections" "I", Cond.fieldLink RX6 146 "IslandHeap$Heap" "freed" "I", Cond.methodLink RX6 128 yX1_usedWords, Cond.instanceMethod yX1_usedWords, Cond.selects RX1 yX1_usedWords yX1_usedWords, Cond.code yX1_usedWords cX1_usedWords 3 (some .int), Cond.methodLink RX6 131 yX0_mark, Cond.instanceMethod yX0_mark]
def wsX6_run_r8 : List Cond := [Cond.selects RX0 yX0_mark yX0_mark, Cond.initialized RX0, Cond.code yX0_mark cX0_mark 3 none, Cond.fieldLink RX0 22 "IslandHeap$Heap" "roots" "[I", Cond.fieldLink RX0 31 "IslandHeap$Heap" "depth" "I", Cond.fieldLink RX0 43 "IslandHeap$Heap" "words" "I", Cond.fieldLink RX0 50 "IslandHeap$Collector" "overflow" "Z", Cond.methodLink RX0 19 yX0_begin, Cond.instanceMethod yX0_begin, Cond.selects RX0 yX0_begin yX0_begin, Cond.code yX0_begin cX0_begin 2 none, Cond.fieldLink RX0 9 "IslandHeap$Collector" "marked" "[Z", Cond.fieldLink RX0 57 "IslandHeap$Collector" "stacked" "I", Cond.fieldLink RX0 60 "IslandHeap$Collector" "deepest" "I", Cond.fieldLink RX0 63 "IslandHeap$Collector" "scans" "I", Cond.methodLink RX0 27 yX1_objectAt, Cond.methodLink RX0 35 yX0_visit, Cond.instanceMethod yX0_visit, Cond.selects RX0 yX0_visit yX0_visit, Cond.code yX0_visit cX0_visit 3 none, Cond.fieldLink RX0 15 "IslandHeap$Collector" "stack" "[I", Cond.methodLink RX0 39 yX0_drain, Cond.instanceMethod yX0_drain, Cond.selects RX0 yX0_drain yX0_drain]
def wsX6_run_r9 : List Cond := [Cond.code yX0_drain cX0_drain 5 none, Cond.fieldLink RX0 66 "IslandHeap$Heap" "fieldCount" "[I", Cond.fieldLink RX0 69 "IslandHeap$Heap" "content" "[I", Cond.methodLink RX0 46 yX1_isPinned, Cond.methodLink RX0 54 yX0_scan, Cond.instanceMethod yX0_scan, Cond.selects RX0 yX0_scan yX0_scan, Cond.code yX0_scan cX0_scan 4 none, Cond.methodLink RX6 134 yX0_plan, Cond.instanceMethod yX0_plan, Cond.selects RX0 yX0_plan yX0_plan, Cond.code yX0_plan cX0_plan 5 none, Cond.fieldLink RX0 72 "IslandHeap$Heap" "movedTo" "[I", Cond.fieldLink RX0 81 "IslandHeap$Heap" "reports" "[I", Cond.methodLink RX0 75 yJ7_fill_53178, Cond.static yJ7_fill_53178, Cond.code yJ7_fill_53178 cJ7_fill_53178 4 none, Cond.methodLink RX0 84 yX0_planObject, Cond.instanceMethod yX0_planObject, Cond.selects RX0 yX0_planObject yX0_planObject, Cond.code yX0_planObject cX0_planObject 6 none, Cond.methodLink RX0 88 yX1_sizeOf, Cond.methodLink RX6 137 yX0_redirect, Cond.instanceMethod yX0_redirect]
def wsX6_run_r10 : List Cond := [Cond.selects RX0 yX0_redirect yX0_redirect, Cond.code yX0_redirect cX0_redirect 3 none, Cond.fieldLink RX0 95 "IslandHeap$Heap" "weaks" "[I", Cond.methodLink RX0 91 yX0_redirectRow, Cond.instanceMethod yX0_redirectRow, Cond.selects RX0 yX0_redirectRow yX0_redirectRow, Cond.code yX0_redirectRow cX0_redirectRow 6 none, Cond.methodLink RX0 98 yX1_isAddress, Cond.methodLink RX6 140 yX0_slide, Cond.instanceMethod yX0_slide, Cond.selects RX0 yX0_slide yX0_slide, Cond.code yX0_slide cX0_slide 3 none, Cond.fieldLink RX0 101 "IslandHeap$Heap" "owner" "[I", Cond.methodLink RX0 104 yX1_shift, Cond.instanceMethod yX1_shift, Cond.selects RX1 yX1_shift yX1_shift, Cond.code yX1_shift cX1_shift 3 none, Cond.methodLink RX1 64 arraycopyName, Cond.native arraycopyName, Cond.static arraycopyName, Cond.initialized "java/lang/System", Cond.methodLink RX6 189 yX6_isError, Cond.static yX6_isError, Cond.code yX6_isError cX6_isError 1 (some .boolean)]
def wsX6_run : List Cond := .code yX6_run cX6_run 4 (some .int) :: ((wsX6_run_r1 ++ (wsX6_run_r2 ++ (wsX6_run_r3 ++ (wsX6_run_r4 ++ (wsX6_run_r5 ++ (wsX6_run_r6 ++ (wsX6_run_r7 ++ (wsX6_run_r8 ++ (wsX6_run_r9 ++ wsX6_run_r10))))))))) ++ wsX60 ++ wsX50 ++ wsX10 ++ wsX00)
def wsX6_refusal : List Cond := .code yX6_refusal cX6_refusal 1 (some .int) :: ([.fieldLink RX6 59 "IslandHeap" "latestRefusal" "I"] ++ wsX60)
def wsX6_save_r1 : List Cond := [Cond.constant RX6 63 (-1000002), Cond.fieldLink RX6 20 "IslandHeap" "saved" "[LIslandHeap$Heap;", Cond.classLink RX6 9 RX1, Cond.instantiable RX1 15, Cond.initialized RX1, Cond.fieldLink RX6 12 "IslandHeap" "heap" "LIslandHeap$Heap;", Cond.instanceMethod yX1_init, Cond.code yX1_init cX1_init 1 none, Cond.methodLink RX1 3 objectInit, Cond.instanceMethod objectInit, Cond.code objectInit ⟨#[0xb1]⟩ 1 none, Cond.arrayClass .int, Cond.fieldLink RX1 9 "IslandHeap$Heap" "owner" "[I", Cond.fieldLink RX1 15 "IslandHeap$Heap" "fieldCount" "[I", Cond.fieldLink RX1 18 "IslandHeap$Heap" "dataCount" "[I", Cond.fieldLink RX1 21 "IslandHeap$Heap" "pinned" "[I", Cond.fieldLink RX1 24 "IslandHeap$Heap" "age" "[I", Cond.fieldLink RX1 27 "IslandHeap$Heap" "content" "[I", Cond.fieldLink RX1 30 "IslandHeap$Heap" "roots" "[I", Cond.fieldLink RX1 33 "IslandHeap$Heap" "weaks" "[I", Cond.fieldLink RX1 36 "IslandHeap$Heap" "movedTo" "[I", Cond.fieldLink RX1 39 "IslandHeap$Heap" "reports" "[I", Cond.methodLink RX6 192 yX1_copyFrom, Cond.instanceMethod yX1_copyFrom]
def wsX6_save_r2 : List Cond := [Cond.selects RX1 yX1_copyFrom yX1_copyFrom, Cond.code yX1_copyFrom cX1_copyFrom 2 none, Cond.fieldLink RX1 42 "IslandHeap$Heap" "words" "I", Cond.fieldLink RX1 46 "IslandHeap$Heap" "depth" "I", Cond.fieldLink RX1 49 "IslandHeap$Heap" "allocated" "I", Cond.fieldLink RX1 52 "IslandHeap$Heap" "collections" "I", Cond.fieldLink RX1 55 "IslandHeap$Heap" "freed" "I", Cond.methodLink RX1 64 arraycopyName, Cond.native arraycopyName, Cond.static arraycopyName, Cond.initialized "java/lang/System", Cond.methodLink RX6 195 yX1_objectCount, Cond.instanceMethod yX1_objectCount, Cond.selects RX1 yX1_objectCount yX1_objectCount, Cond.code yX1_objectCount cX1_objectCount 3 (some .int), Cond.methodLink RX1 74 yX1_isObject, Cond.instanceMethod yX1_isObject, Cond.selects RX1 yX1_isObject yX1_isObject, Cond.code yX1_isObject cX1_isObject 2 (some .boolean), Cond.methodLink RX1 70 yX1_isAddress, Cond.instanceMethod yX1_isAddress, Cond.selects RX1 yX1_isAddress yX1_isAddress, Cond.code yX1_isAddress cX1_isAddress 2 (some .boolean)]
def wsX6_save : List Cond := .code yX6_save cX6_save 2 (some .int) :: ((wsX6_save_r1 ++ wsX6_save_r2) ++ wsX60 ++ wsX10)
def wsX6_restore_r1 : List Cond := [Cond.constant RX6 63 (-1000002), Cond.fieldLink RX6 20 "IslandHeap" "saved" "[LIslandHeap$Heap;", Cond.constant RX6 117 (-1000003), Cond.fieldLink RX6 12 "IslandHeap" "heap" "LIslandHeap$Heap;", Cond.methodLink RX6 192 yX1_copyFrom, Cond.instanceMethod yX1_copyFrom, Cond.selects RX1 yX1_copyFrom yX1_copyFrom, Cond.initialized RX1, Cond.code yX1_copyFrom cX1_copyFrom 2 none, Cond.fieldLink RX1 42 "IslandHeap$Heap" "words" "I", Cond.fieldLink RX1 46 "IslandHeap$Heap" "depth" "I", Cond.fieldLink RX1 49 "IslandHeap$Heap" "allocated" "I", Cond.fieldLink RX1 52 "IslandHeap$Heap" "collections" "I", Cond.fieldLink RX1 55 "IslandHeap$Heap" "freed" "I", Cond.fieldLink RX1 9 "IslandHeap$Heap" "owner" "[I", Cond.methodLink RX1 64 arraycopyName, Cond.native arraycopyName, Cond.static arraycopyName, Cond.initialized "java/lang/System", Cond.fieldLink RX1 15 "IslandHeap$Heap" "fieldCount" "[I", Cond.fieldLink RX1 18 "IslandHeap$Heap" "dataCount" "[I", Cond.fieldLink RX1 21 "IslandHeap$Heap" "pinned" "[I", Cond.fieldLink RX1 24 "IslandHeap$Heap" "age" "[I", Cond.fieldLink RX1 27 "IslandHeap$Heap" "content" "[I"]
def wsX6_restore_r2 : List Cond := [Cond.fieldLink RX1 30 "IslandHeap$Heap" "roots" "[I", Cond.fieldLink RX1 33 "IslandHeap$Heap" "weaks" "[I", Cond.fieldLink RX1 36 "IslandHeap$Heap" "movedTo" "[I", Cond.fieldLink RX1 39 "IslandHeap$Heap" "reports" "[I", Cond.methodLink RX6 195 yX1_objectCount, Cond.instanceMethod yX1_objectCount, Cond.selects RX1 yX1_objectCount yX1_objectCount, Cond.code yX1_objectCount cX1_objectCount 3 (some .int), Cond.methodLink RX1 74 yX1_isObject, Cond.instanceMethod yX1_isObject, Cond.selects RX1 yX1_isObject yX1_isObject, Cond.code yX1_isObject cX1_isObject 2 (some .boolean), Cond.methodLink RX1 70 yX1_isAddress, Cond.instanceMethod yX1_isAddress, Cond.selects RX1 yX1_isAddress yX1_isAddress, Cond.code yX1_isAddress cX1_isAddress 2 (some .boolean)]
def wsX6_restore : List Cond := .code yX6_restore cX6_restore 2 (some .int) :: ((wsX6_restore_r1 ++ wsX6_restore_r2) ++ wsX60 ++ wsX10)
def wsX6_count_r1 : List Cond := [Cond.fieldLink RX6 12 "IslandHeap" "heap" "LIslandHeap$Heap;", Cond.fieldLink RX6 198 "IslandHeap$Heap" "words" "I", Cond.fieldLink RX6 201 "IslandHeap$Heap" "depth" "I", Cond.fieldLink RX6 204 "IslandHeap$Heap" "allocated" "I", Cond.fieldLink RX6 143 "IslandHeap$Heap" "collections" "I", Cond.fieldLink RX6 146 "IslandHeap$Heap" "freed" "I", Cond.fieldLink RX6 55 "IslandHeap" "script" "LIslandHeap$Script;", Cond.fieldLink RX6 171 "IslandHeap$Script" "length" "I", Cond.constant RX6 63 (-1000002), Cond.methodLink RX6 195 yX1_objectCount, Cond.instanceMethod yX1_objectCount, Cond.selects RX1 yX1_objectCount yX1_objectCount, Cond.initialized RX1, Cond.code yX1_objectCount cX1_objectCount 3 (some .int), Cond.fieldLink RX1 42 "IslandHeap$Heap" "words" "I", Cond.methodLink RX1 74 yX1_isObject, Cond.instanceMethod yX1_isObject, Cond.selects RX1 yX1_isObject yX1_isObject, Cond.code yX1_isObject cX1_isObject 2 (some .boolean), Cond.fieldLink RX1 9 "IslandHeap$Heap" "owner" "[I", Cond.methodLink RX1 70 yX1_isAddress, Cond.instanceMethod yX1_isAddress, Cond.selects RX1 yX1_isAddress yX1_isAddress, Cond.code yX1_isAddress cX1_isAddress 2 (some .boolean)]
def wsX6_count_r2 : List Cond := [Cond.methodLink RX6 118 yX1_pinnedCount, Cond.instanceMethod yX1_pinnedCount, Cond.selects RX1 yX1_pinnedCount yX1_pinnedCount, Cond.code yX1_pinnedCount cX1_pinnedCount 3 (some .int), Cond.methodLink RX1 91 yX1_isPinned, Cond.instanceMethod yX1_isPinned, Cond.selects RX1 yX1_isPinned yX1_isPinned, Cond.code yX1_isPinned cX1_isPinned 2 (some .boolean), Cond.fieldLink RX1 21 "IslandHeap$Heap" "pinned" "[I"]
def wsX6_count : List Cond := .code yX6_count cX6_count 2 (some .int) :: ((wsX6_count_r1 ++ wsX6_count_r2) ++ wsX60 ++ wsX10 ++ wsX50)
def wsX6_absorb : List Cond := .code yX6_absorb cX6_absorb 3 (some .long) :: ([.constantLong RX6 227 (31)])
def wsX6_absorbRow : List Cond := .code yX6_absorbRow cX6_absorbRow 8 (some .long) :: ([.methodLink RX6 212 yX6_absorb, .static yX6_absorb, .initialized RX6, .code yX6_absorb cX6_absorb 3 (some .long), .constantLong RX6 227 (31)])
def wsX6_absorbObjects_r1 : List Cond := [Cond.fieldLink RX6 41 "IslandHeap" "referrers" "LIslandHeap$Referrers;", Cond.fieldLink RX6 12 "IslandHeap" "heap" "LIslandHeap$Heap;", Cond.fieldLink RX6 34 "IslandHeap" "reach" "LIslandHeap$Reach;", Cond.fieldLink RX6 198 "IslandHeap$Heap" "words" "I", Cond.fieldLink RX6 101 "IslandHeap$Heap" "content" "[I", Cond.methodLink RX6 76 yX4_tally, Cond.instanceMethod yX4_tally, Cond.selects RX4 yX4_tally yX4_tally, Cond.initialized RX4, Cond.code yX4_tally cX4_tally 3 none, Cond.fieldLink RX4 9 "IslandHeap$Referrers" "tallies" "[I", Cond.fieldLink RX4 21 "IslandHeap$Heap" "roots" "[I", Cond.fieldLink RX4 30 "IslandHeap$Heap" "weaks" "[I", Cond.fieldLink RX4 33 "IslandHeap$Heap" "words" "I", Cond.fieldLink RX4 41 "IslandHeap$Heap" "content" "[I", Cond.fieldLink RX4 44 "IslandHeap$Heap" "fieldCount" "[I", Cond.methodLink RX4 15 yJ7_fill_53178, Cond.static yJ7_fill_53178, Cond.initialized RJ7, Cond.code yJ7_fill_53178 cJ7_fill_53178 4 none, Cond.methodLink RX4 26 yX4_tallyRow, Cond.instanceMethod yX4_tallyRow, Cond.selects RX4 yX4_tallyRow yX4_tallyRow, Cond.code yX4_tallyRow cX4_tallyRow 7 none]
def wsX6_absorbObjects_r2 : List Cond := [Cond.methodLink RX4 47 yX1_objectAt, Cond.instanceMethod yX1_objectAt, Cond.selects RX1 yX1_objectAt yX1_objectAt, Cond.initialized RX1, Cond.code yX1_objectAt cX1_objectAt 2 (some .int), Cond.fieldLink RX1 9 "IslandHeap$Heap" "owner" "[I", Cond.methodLink RX1 70 yX1_isAddress, Cond.instanceMethod yX1_isAddress, Cond.selects RX1 yX1_isAddress yX1_isAddress, Cond.code yX1_isAddress cX1_isAddress 2 (some .boolean), Cond.fieldLink RX1 42 "IslandHeap$Heap" "words" "I", Cond.methodLink RX4 37 yX1_isObject, Cond.instanceMethod yX1_isObject, Cond.selects RX1 yX1_isObject yX1_isObject, Cond.code yX1_isObject cX1_isObject 2 (some .boolean), Cond.methodLink RX6 80 yX3_trace, Cond.instanceMethod yX3_trace, Cond.selects RX3 yX3_trace yX3_trace, Cond.initialized RX3, Cond.code yX3_trace cX3_trace 6 none, Cond.fieldLink RX3 9 "IslandHeap$Reach" "steps" "[I", Cond.fieldLink RX3 24 "IslandHeap$Reach" "queued" "I", Cond.fieldLink RX3 28 "IslandHeap$Heap" "roots" "[I", Cond.fieldLink RX3 41 "IslandHeap$Heap" "words" "I"]
def wsX6_absorbObjects_r3 : List Cond := [Cond.fieldLink RX3 15 "IslandHeap$Reach" "queue" "[I", Cond.fieldLink RX3 48 "IslandHeap$Heap" "fieldCount" "[I", Cond.fieldLink RX3 51 "IslandHeap$Heap" "content" "[I", Cond.methodLink RX3 18 yJ7_fill_53178, Cond.methodLink RX3 33 yX1_objectAt, Cond.methodLink RX3 37 yX3_arrive, Cond.instanceMethod yX3_arrive, Cond.selects RX3 yX3_arrive yX3_arrive, Cond.code yX3_arrive cX3_arrive 4 none, Cond.methodLink RX3 44 yX1_isPinned, Cond.instanceMethod yX1_isPinned, Cond.selects RX1 yX1_isPinned yX1_isPinned, Cond.code yX1_isPinned cX1_isPinned 2 (some .boolean), Cond.fieldLink RX1 21 "IslandHeap$Heap" "pinned" "[I", Cond.methodLink RX1 74 yX1_isObject, Cond.methodLink RX6 224 yX1_isObject, Cond.methodLink RX6 84 yX6_property, Cond.instanceMethod yX6_property, Cond.selects RX6 yX6_property yX6_property, Cond.initialized RX6, Cond.code yX6_property cX6_property 3 (some .int), Cond.fieldLink RX6 229 "IslandHeap$Heap" "fieldCount" "[I", Cond.fieldLink RX6 232 "IslandHeap$Heap" "dataCount" "[I", Cond.fieldLink RX6 114 "IslandHeap$Heap" "pinned" "[I"]
def wsX6_absorbObjects_r4 : List Cond := [Cond.fieldLink RX6 235 "IslandHeap$Heap" "age" "[I", Cond.fieldLink RX6 238 "IslandHeap$Referrers" "tallies" "[I", Cond.fieldLink RX6 162 "IslandHeap$Reach" "steps" "[I", Cond.methodLink RX6 91 yX1_sizeOf, Cond.instanceMethod yX1_sizeOf, Cond.selects RX1 yX1_sizeOf yX1_sizeOf, Cond.code yX1_sizeOf cX1_sizeOf 2 (some .int), Cond.fieldLink RX1 15 "IslandHeap$Heap" "fieldCount" "[I", Cond.fieldLink RX1 18 "IslandHeap$Heap" "dataCount" "[I", Cond.methodLink RX6 212 yX6_absorb, Cond.static yX6_absorb, Cond.code yX6_absorb cX6_absorb 3 (some .long), Cond.constantLong RX6 227 (31), Cond.methodLink RX6 216 yX6_absorbRow, Cond.static yX6_absorbRow, Cond.code yX6_absorbRow cX6_absorbRow 8 (some .long)]
def wsX6_absorbObjects : List Cond := .code yX6_absorbObjects cX6_absorbObjects 7 (some .long) :: ((wsX6_absorbObjects_r1 ++ (wsX6_absorbObjects_r2 ++ (wsX6_absorbObjects_r3 ++ wsX6_absorbObjects_r4))) ++ wsX60 ++ wsX10 ++ wsX40 ++ wsX30)
def wsX6_digest_r1 : List Cond := [Cond.constantLong RX6 207 (47), Cond.fieldLink RX6 12 "IslandHeap" "heap" "LIslandHeap$Heap;", Cond.fieldLink RX6 122 "IslandHeap$Heap" "roots" "[I", Cond.fieldLink RX6 125 "IslandHeap$Heap" "weaks" "[I", Cond.fieldLink RX6 48 "IslandHeap" "holes" "LIslandHeap$Holes;", Cond.fieldLink RX6 168 "IslandHeap$Holes" "numbers" "[I", Cond.fieldLink RX6 143 "IslandHeap$Heap" "collections" "I", Cond.fieldLink RX6 155 "IslandHeap$Heap" "reports" "[I", Cond.fieldLink RX6 55 "IslandHeap" "script" "LIslandHeap$Script;", Cond.fieldLink RX6 174 "IslandHeap$Script" "letters" "[I", Cond.fieldLink RX6 171 "IslandHeap$Script" "length" "I", Cond.methodLink RX6 209 yX6_count, Cond.instanceMethod yX6_count, Cond.selects RX6 yX6_count yX6_count, Cond.initialized RX6, Cond.code yX6_count cX6_count 2 (some .int), Cond.fieldLink RX6 198 "IslandHeap$Heap" "words" "I", Cond.fieldLink RX6 201 "IslandHeap$Heap" "depth" "I", Cond.fieldLink RX6 204 "IslandHeap$Heap" "allocated" "I", Cond.fieldLink RX6 146 "IslandHeap$Heap" "freed" "I", Cond.constant RX6 63 (-1000002), Cond.methodLink RX6 195 yX1_objectCount, Cond.instanceMethod yX1_objectCount, Cond.selects RX1 yX1_objectCount yX1_objectCount]
def wsX6_digest_r2 : List Cond := [Cond.initialized RX1, Cond.code yX1_objectCount cX1_objectCount 3 (some .int), Cond.fieldLink RX1 42 "IslandHeap$Heap" "words" "I", Cond.methodLink RX1 74 yX1_isObject, Cond.instanceMethod yX1_isObject, Cond.selects RX1 yX1_isObject yX1_isObject, Cond.code yX1_isObject cX1_isObject 2 (some .boolean), Cond.fieldLink RX1 9 "IslandHeap$Heap" "owner" "[I", Cond.methodLink RX1 70 yX1_isAddress, Cond.instanceMethod yX1_isAddress, Cond.selects RX1 yX1_isAddress yX1_isAddress, Cond.code yX1_isAddress cX1_isAddress 2 (some .boolean), Cond.methodLink RX6 118 yX1_pinnedCount, Cond.instanceMethod yX1_pinnedCount, Cond.selects RX1 yX1_pinnedCount yX1_pinnedCount, Cond.code yX1_pinnedCount cX1_pinnedCount 3 (some .int), Cond.methodLink RX1 91 yX1_isPinned, Cond.instanceMethod yX1_isPinned, Cond.selects RX1 yX1_isPinned yX1_isPinned, Cond.code yX1_isPinned cX1_isPinned 2 (some .boolean), Cond.fieldLink RX1 21 "IslandHeap$Heap" "pinned" "[I", Cond.methodLink RX6 212 yX6_absorb, Cond.static yX6_absorb, Cond.code yX6_absorb cX6_absorb 3 (some .long)]
def wsX6_digest_r3 : List Cond := [Cond.constantLong RX6 227 (31), Cond.methodLink RX6 216 yX6_absorbRow, Cond.static yX6_absorbRow, Cond.code yX6_absorbRow cX6_absorbRow 8 (some .long), Cond.methodLink RX6 220 yX6_absorbObjects, Cond.instanceMethod yX6_absorbObjects, Cond.selects RX6 yX6_absorbObjects yX6_absorbObjects, Cond.code yX6_absorbObjects cX6_absorbObjects 7 (some .long), Cond.fieldLink RX6 41 "IslandHeap" "referrers" "LIslandHeap$Referrers;", Cond.fieldLink RX6 34 "IslandHeap" "reach" "LIslandHeap$Reach;", Cond.fieldLink RX6 101 "IslandHeap$Heap" "content" "[I", Cond.methodLink RX6 76 yX4_tally, Cond.instanceMethod yX4_tally, Cond.selects RX4 yX4_tally yX4_tally, Cond.initialized RX4, Cond.code yX4_tally cX4_tally 3 none, Cond.fieldLink RX4 9 "IslandHeap$Referrers" "tallies" "[I", Cond.fieldLink RX4 21 "IslandHeap$Heap" "roots" "[I", Cond.fieldLink RX4 30 "IslandHeap$Heap" "weaks" "[I", Cond.fieldLink RX4 33 "IslandHeap$Heap" "words" "I", Cond.fieldLink RX4 41 "IslandHeap$Heap" "content" "[I", Cond.fieldLink RX4 44 "IslandHeap$Heap" "fieldCount" "[I", Cond.methodLink RX4 15 yJ7_fill_53178, Cond.static yJ7_fill_53178]
def wsX6_digest_r4 : List Cond := [Cond.initialized RJ7, Cond.code yJ7_fill_53178 cJ7_fill_53178 4 none, Cond.methodLink RX4 26 yX4_tallyRow, Cond.instanceMethod yX4_tallyRow, Cond.selects RX4 yX4_tallyRow yX4_tallyRow, Cond.code yX4_tallyRow cX4_tallyRow 7 none, Cond.methodLink RX4 47 yX1_objectAt, Cond.instanceMethod yX1_objectAt, Cond.selects RX1 yX1_objectAt yX1_objectAt, Cond.code yX1_objectAt cX1_objectAt 2 (some .int), Cond.methodLink RX4 37 yX1_isObject, Cond.methodLink RX6 80 yX3_trace, Cond.instanceMethod yX3_trace, Cond.selects RX3 yX3_trace yX3_trace, Cond.initialized RX3, Cond.code yX3_trace cX3_trace 6 none, Cond.fieldLink RX3 9 "IslandHeap$Reach" "steps" "[I", Cond.fieldLink RX3 24 "IslandHeap$Reach" "queued" "I", Cond.fieldLink RX3 28 "IslandHeap$Heap" "roots" "[I", Cond.fieldLink RX3 41 "IslandHeap$Heap" "words" "I", Cond.fieldLink RX3 15 "IslandHeap$Reach" "queue" "[I", Cond.fieldLink RX3 48 "IslandHeap$Heap" "fieldCount" "[I", Cond.fieldLink RX3 51 "IslandHeap$Heap" "content" "[I", Cond.methodLink RX3 18 yJ7_fill_53178]
def wsX6_digest_r5 : List Cond := [Cond.methodLink RX3 33 yX1_objectAt, Cond.methodLink RX3 37 yX3_arrive, Cond.instanceMethod yX3_arrive, Cond.selects RX3 yX3_arrive yX3_arrive, Cond.code yX3_arrive cX3_arrive 4 none, Cond.methodLink RX3 44 yX1_isPinned, Cond.methodLink RX6 224 yX1_isObject, Cond.methodLink RX6 84 yX6_property, Cond.instanceMethod yX6_property, Cond.selects RX6 yX6_property yX6_property, Cond.code yX6_property cX6_property 3 (some .int), Cond.fieldLink RX6 229 "IslandHeap$Heap" "fieldCount" "[I", Cond.fieldLink RX6 232 "IslandHeap$Heap" "dataCount" "[I", Cond.fieldLink RX6 114 "IslandHeap$Heap" "pinned" "[I", Cond.fieldLink RX6 235 "IslandHeap$Heap" "age" "[I", Cond.fieldLink RX6 238 "IslandHeap$Referrers" "tallies" "[I", Cond.fieldLink RX6 162 "IslandHeap$Reach" "steps" "[I", Cond.methodLink RX6 91 yX1_sizeOf, Cond.instanceMethod yX1_sizeOf, Cond.selects RX1 yX1_sizeOf yX1_sizeOf, Cond.code yX1_sizeOf cX1_sizeOf 2 (some .int), Cond.fieldLink RX1 15 "IslandHeap$Heap" "fieldCount" "[I", Cond.fieldLink RX1 18 "IslandHeap$Heap" "dataCount" "[I", Cond.methodLink RX6 165 yX2_measure]
def wsX6_digest_r6 : List Cond := [Cond.instanceMethod yX2_measure, Cond.selects RX2 yX2_measure yX2_measure, Cond.initialized RX2, Cond.code yX2_measure cX2_measure 4 none, Cond.fieldLink RX2 9 "IslandHeap$Holes" "numbers" "[I", Cond.fieldLink RX2 21 "IslandHeap$Heap" "words" "I", Cond.fieldLink RX2 27 "IslandHeap$Heap" "owner" "[I", Cond.methodLink RX2 15 yJ7_fill_53178, Cond.methodLink RX2 30 yX2_include, Cond.instanceMethod yX2_include, Cond.selects RX2 yX2_include yX2_include, Cond.code yX2_include cX2_include 3 none, Cond.methodLink RX2 34 Lib.Math.max.name, Cond.static Lib.Math.max.name, Cond.initialized "java/lang/Math", Cond.code Lib.Math.max.name Lib.Math.max.code 2 (some .int)]
def wsX6_digest : List Cond := .code yX6_digest cX6_digest 4 (some .long) :: ((wsX6_digest_r1 ++ (wsX6_digest_r2 ++ (wsX6_digest_r3 ++ (wsX6_digest_r4 ++ (wsX6_digest_r5 ++ wsX6_digest_r6))))) ++ wsX60 ++ wsX10 ++ wsX20 ++ wsX50 ++ wsX40 ++ wsX30)
def wsX7_begins : List Cond := .code yX7_begins cX7_begins 4 none :: ([.fieldLink RX7 7 "IslandHeapModel" "m" "[I"] ++ wsX70)
def wsX7_init : List Cond := .code yX7_init cX7_init 1 none :: ([.methodLink RX7 1 objectInit, .instanceMethod objectInit, .code objectInit ⟨#[0xb1]⟩ 1 none, .arrayClass .int, .fieldLink RX7 7 "IslandHeapModel" "m" "[I", .fieldLink RX7 13 "IslandHeapModel" "old" "[I", .fieldLink RX7 16 "IslandHeapModel" "saved" "[I", .arrayClass .boolean, .fieldLink RX7 19 "IslandHeapModel" "isSaved" "[Z", .fieldLink RX7 23 "IslandHeapModel" "text" "[I", .fieldLink RX7 26 "IslandHeapModel" "refused" "I", .fieldLink RX7 30 "IslandHeapModel" "far" "[I", .fieldLink RX7 33 "IslandHeapModel" "marked" "[Z", .fieldLink RX7 36 "IslandHeapModel" "stack" "[I", .fieldLink RX7 39 "IslandHeapModel" "command" "[I", .methodLink RX7 42 yX7_begins, .instanceMethod yX7_begins, .selects RX7 yX7_begins yX7_begins, .initialized RX7, .code yX7_begins cX7_begins 4 none] ++ wsX70)
def wsX7_in : List Cond := .code yX7_in cX7_in 3 (some .boolean) :: ([])
def wsX7_reset : List Cond := .code yX7_reset cX7_reset 3 (some .int) :: ([.constant RX7 50 (-1000002), .methodLink RX7 46 yX7_in, .static yX7_in, .initialized RX7, .code yX7_in cX7_in 3 (some .boolean), .methodLink RX7 42 yX7_begins, .instanceMethod yX7_begins, .selects RX7 yX7_begins yX7_begins, .code yX7_begins cX7_begins 4 none, .fieldLink RX7 7 "IslandHeapModel" "m" "[I"] ++ wsX70)
def wsX7_objectOf : List Cond := .code yX7_objectOf cX7_objectOf 3 (some .int) :: ([.fieldLink RX7 7 "IslandHeapModel" "m" "[I", .methodLink RX7 46 yX7_in, .static yX7_in, .initialized RX7, .code yX7_in cX7_in 3 (some .boolean)] ++ wsX70)
def wsX7_isReference : List Cond := .code yX7_isReference cX7_isReference 2 (some .boolean) :: ([.methodLink RX7 51 yX7_objectOf, .instanceMethod yX7_objectOf, .selects RX7 yX7_objectOf yX7_objectOf, .initialized RX7, .code yX7_objectOf cX7_objectOf 3 (some .int), .fieldLink RX7 7 "IslandHeapModel" "m" "[I", .methodLink RX7 46 yX7_in, .static yX7_in, .code yX7_in cX7_in 3 (some .boolean)] ++ wsX70)
def wsX7_dataOf : List Cond := .code yX7_dataOf cX7_dataOf 2 (some .int) :: ([.fieldLink RX7 7 "IslandHeapModel" "m" "[I"] ++ wsX70)
def wsX7_lays : List Cond := .code yX7_lays cX7_lays 5 none :: ([.fieldLink RX7 7 "IslandHeapModel" "m" "[I"] ++ wsX70)
def wsX7_alloc : List Cond := .code yX7_alloc cX7_alloc 6 (some .int) :: ([.constant RX7 50 (-1000002), .fieldLink RX7 7 "IslandHeapModel" "m" "[I", .constant RX7 59 (-1000004), .methodLink RX7 46 yX7_in, .static yX7_in, .initialized RX7, .code yX7_in cX7_in 3 (some .boolean), .methodLink RX7 55 yX7_lays, .instanceMethod yX7_lays, .selects RX7 yX7_lays yX7_lays, .code yX7_lays cX7_lays 5 none] ++ wsX70)
def wsX7_referring : List Cond := .code yX7_referring cX7_referring 5 (some .int) :: ([.fieldLink RX7 7 "IslandHeapModel" "m" "[I", .methodLink RX7 51 yX7_objectOf, .instanceMethod yX7_objectOf, .selects RX7 yX7_objectOf yX7_objectOf, .initialized RX7, .code yX7_objectOf cX7_objectOf 3 (some .int), .methodLink RX7 46 yX7_in, .static yX7_in, .code yX7_in cX7_in 3 (some .boolean)] ++ wsX70)
def wsX7_starts : List Cond := .code yX7_starts cX7_starts 4 none :: ([.fieldLink RX7 30 "IslandHeapModel" "far" "[I", .methodLink RX7 51 yX7_objectOf, .instanceMethod yX7_objectOf, .selects RX7 yX7_objectOf yX7_objectOf, .initialized RX7, .code yX7_objectOf cX7_objectOf 3 (some .int), .fieldLink RX7 7 "IslandHeapModel" "m" "[I", .methodLink RX7 46 yX7_in, .static yX7_in, .code yX7_in cX7_in 3 (some .boolean)] ++ wsX70)
def wsX7_reaches : List Cond := .code yX7_reaches cX7_reaches 7 none :: ([.fieldLink RX7 30 "IslandHeapModel" "far" "[I", .fieldLink RX7 7 "IslandHeapModel" "m" "[I", .methodLink RX7 60 yX7_starts, .instanceMethod yX7_starts, .selects RX7 yX7_starts yX7_starts, .initialized RX7, .code yX7_starts cX7_starts 4 none, .methodLink RX7 51 yX7_objectOf, .instanceMethod yX7_objectOf, .selects RX7 yX7_objectOf yX7_objectOf, .code yX7_objectOf cX7_objectOf 3 (some .int), .methodLink RX7 46 yX7_in, .static yX7_in, .code yX7_in cX7_in 3 (some .boolean)] ++ wsX70)
def wsX7_reachedWords : List Cond := .code yX7_reachedWords cX7_reachedWords 3 (some .int) :: ([.fieldLink RX7 7 "IslandHeapModel" "m" "[I", .fieldLink RX7 30 "IslandHeapModel" "far" "[I"] ++ wsX70)
def wsX7_object_r1 : List Cond := [Cond.constant RX7 50 (-1000002), Cond.fieldLink RX7 7 "IslandHeapModel" "m" "[I", Cond.fieldLink RX7 30 "IslandHeapModel" "far" "[I", Cond.methodLink RX7 51 yX7_objectOf, Cond.instanceMethod yX7_objectOf, Cond.selects RX7 yX7_objectOf yX7_objectOf, Cond.initialized RX7, Cond.code yX7_objectOf cX7_objectOf 3 (some .int), Cond.methodLink RX7 46 yX7_in, Cond.static yX7_in, Cond.code yX7_in cX7_in 3 (some .boolean), Cond.methodLink RX7 63 yX7_dataOf, Cond.instanceMethod yX7_dataOf, Cond.selects RX7 yX7_dataOf yX7_dataOf, Cond.code yX7_dataOf cX7_dataOf 2 (some .int), Cond.methodLink RX7 66 yX7_referring, Cond.instanceMethod yX7_referring, Cond.selects RX7 yX7_referring yX7_referring, Cond.code yX7_referring cX7_referring 5 (some .int), Cond.methodLink RX7 69 yX7_reaches, Cond.instanceMethod yX7_reaches, Cond.selects RX7 yX7_reaches yX7_reaches, Cond.code yX7_reaches cX7_reaches 7 none, Cond.methodLink RX7 60 yX7_starts]
def wsX7_object_r2 : List Cond := [Cond.instanceMethod yX7_starts, Cond.selects RX7 yX7_starts yX7_starts, Cond.code yX7_starts cX7_starts 4 none]
def wsX7_object : List Cond := .code yX7_object cX7_object 4 (some .int) :: ((wsX7_object_r1 ++ wsX7_object_r2) ++ wsX70)
def wsX7_objectFrom : List Cond := .code yX7_objectFrom cX7_objectFrom 3 (some .int) :: ([.fieldLink RX7 7 "IslandHeapModel" "m" "[I"] ++ wsX70)
def wsX7_next : List Cond := .code yX7_next cX7_next 3 (some .int) :: ([.constant RX7 50 (-1000002), .methodLink RX7 73 yX7_objectFrom, .instanceMethod yX7_objectFrom, .selects RX7 yX7_objectFrom yX7_objectFrom, .initialized RX7, .code yX7_objectFrom cX7_objectFrom 3 (some .int), .fieldLink RX7 7 "IslandHeapModel" "m" "[I", .methodLink RX7 51 yX7_objectOf, .instanceMethod yX7_objectOf, .selects RX7 yX7_objectOf yX7_objectOf, .code yX7_objectOf cX7_objectOf 3 (some .int), .methodLink RX7 46 yX7_in, .static yX7_in, .code yX7_in cX7_in 3 (some .boolean)] ++ wsX70)
def wsX7_setField : List Cond := .code yX7_setField cX7_setField 6 (some .int) :: ([.fieldLink RX7 7 "IslandHeapModel" "m" "[I", .constant RX7 50 (-1000002), .methodLink RX7 51 yX7_objectOf, .instanceMethod yX7_objectOf, .selects RX7 yX7_objectOf yX7_objectOf, .initialized RX7, .code yX7_objectOf cX7_objectOf 3 (some .int), .methodLink RX7 46 yX7_in, .static yX7_in, .code yX7_in cX7_in 3 (some .boolean), .methodLink RX7 76 yX7_isReference, .instanceMethod yX7_isReference, .selects RX7 yX7_isReference yX7_isReference, .code yX7_isReference cX7_isReference 2 (some .boolean)] ++ wsX70)
def wsX7_field : List Cond := .code yX7_field cX7_field 4 (some .int) :: ([.fieldLink RX7 7 "IslandHeapModel" "m" "[I", .constant RX7 50 (-1000002), .methodLink RX7 51 yX7_objectOf, .instanceMethod yX7_objectOf, .selects RX7 yX7_objectOf yX7_objectOf, .initialized RX7, .code yX7_objectOf cX7_objectOf 3 (some .int), .methodLink RX7 46 yX7_in, .static yX7_in, .code yX7_in cX7_in 3 (some .boolean)] ++ wsX70)
def wsX7_setData : List Cond := .code yX7_setData cX7_setData 7 (some .int) :: ([.constant RX7 80 (-1000000), .constant RX7 81 (1000000), .constant RX7 50 (-1000002), .fieldLink RX7 7 "IslandHeapModel" "m" "[I", .methodLink RX7 51 yX7_objectOf, .instanceMethod yX7_objectOf, .selects RX7 yX7_objectOf yX7_objectOf, .initialized RX7, .code yX7_objectOf cX7_objectOf 3 (some .int), .methodLink RX7 46 yX7_in, .static yX7_in, .code yX7_in cX7_in 3 (some .boolean), .methodLink RX7 63 yX7_dataOf, .instanceMethod yX7_dataOf, .selects RX7 yX7_dataOf yX7_dataOf, .code yX7_dataOf cX7_dataOf 2 (some .int)] ++ wsX70)
def wsX7_data : List Cond := .code yX7_data cX7_data 4 (some .int) :: ([.constant RX7 50 (-1000002), .fieldLink RX7 7 "IslandHeapModel" "m" "[I", .methodLink RX7 51 yX7_objectOf, .instanceMethod yX7_objectOf, .selects RX7 yX7_objectOf yX7_objectOf, .initialized RX7, .code yX7_objectOf cX7_objectOf 3 (some .int), .methodLink RX7 46 yX7_in, .static yX7_in, .code yX7_in cX7_in 3 (some .boolean), .methodLink RX7 63 yX7_dataOf, .instanceMethod yX7_dataOf, .selects RX7 yX7_dataOf yX7_dataOf, .code yX7_dataOf cX7_dataOf 2 (some .int)] ++ wsX70)
def wsX7_many : List Cond := .code yX7_many cX7_many 4 (some .int) :: ([.fieldLink RX7 7 "IslandHeapModel" "m" "[I"] ++ wsX70)
def wsX7_pin : List Cond := .code yX7_pin cX7_pin 4 (some .int) :: ([.constant RX7 50 (-1000002), .fieldLink RX7 7 "IslandHeapModel" "m" "[I", .constant RX7 82 (-1000003), .methodLink RX7 51 yX7_objectOf, .instanceMethod yX7_objectOf, .selects RX7 yX7_objectOf yX7_objectOf, .initialized RX7, .code yX7_objectOf cX7_objectOf 3 (some .int), .methodLink RX7 46 yX7_in, .static yX7_in, .code yX7_in cX7_in 3 (some .boolean), .methodLink RX7 83 yX7_many, .instanceMethod yX7_many, .selects RX7 yX7_many yX7_many, .code yX7_many cX7_many 4 (some .int)] ++ wsX70)
def wsX7_setsSlot : List Cond := .code yX7_setsSlot cX7_setsSlot 4 (some .int) :: ([.fieldLink RX7 7 "IslandHeapModel" "m" "[I"] ++ wsX70)
def wsX7_setRoot : List Cond := .code yX7_setRoot cX7_setRoot 3 (some .int) :: ([.constant RX7 50 (-1000002), .methodLink RX7 46 yX7_in, .static yX7_in, .initialized RX7, .code yX7_in cX7_in 3 (some .boolean), .methodLink RX7 76 yX7_isReference, .instanceMethod yX7_isReference, .selects RX7 yX7_isReference yX7_isReference, .code yX7_isReference cX7_isReference 2 (some .boolean), .methodLink RX7 51 yX7_objectOf, .instanceMethod yX7_objectOf, .selects RX7 yX7_objectOf yX7_objectOf, .code yX7_objectOf cX7_objectOf 3 (some .int), .fieldLink RX7 7 "IslandHeapModel" "m" "[I", .methodLink RX7 87 yX7_setsSlot, .instanceMethod yX7_setsSlot, .selects RX7 yX7_setsSlot yX7_setsSlot, .code yX7_setsSlot cX7_setsSlot 4 (some .int)] ++ wsX70)
def wsX7_root : List Cond := .code yX7_root cX7_root 2 (some .int) :: ([.fieldLink RX7 7 "IslandHeapModel" "m" "[I", .constant RX7 50 (-1000002), .methodLink RX7 46 yX7_in, .static yX7_in, .initialized RX7, .code yX7_in cX7_in 3 (some .boolean)] ++ wsX70)
def wsX7_setWeak : List Cond := .code yX7_setWeak cX7_setWeak 3 (some .int) :: ([.constant RX7 50 (-1000002), .methodLink RX7 46 yX7_in, .static yX7_in, .initialized RX7, .code yX7_in cX7_in 3 (some .boolean), .methodLink RX7 76 yX7_isReference, .instanceMethod yX7_isReference, .selects RX7 yX7_isReference yX7_isReference, .code yX7_isReference cX7_isReference 2 (some .boolean), .methodLink RX7 51 yX7_objectOf, .instanceMethod yX7_objectOf, .selects RX7 yX7_objectOf yX7_objectOf, .code yX7_objectOf cX7_objectOf 3 (some .int), .fieldLink RX7 7 "IslandHeapModel" "m" "[I", .methodLink RX7 87 yX7_setsSlot, .instanceMethod yX7_setsSlot, .selects RX7 yX7_setsSlot yX7_setsSlot, .code yX7_setsSlot cX7_setsSlot 4 (some .int)] ++ wsX70)
def wsX7_weak : List Cond := .code yX7_weak cX7_weak 2 (some .int) :: ([.fieldLink RX7 7 "IslandHeapModel" "m" "[I", .constant RX7 50 (-1000002), .methodLink RX7 46 yX7_in, .static yX7_in, .initialized RX7, .code yX7_in cX7_in 3 (some .boolean)] ++ wsX70)
def wsX7_reach : List Cond := .code yX7_reach cX7_reach 3 none :: ([.fieldLink RX7 33 "IslandHeapModel" "marked" "[Z", .fieldLink RX7 91 "IslandHeapModel" "top" "I", .fieldLink RX7 7 "IslandHeapModel" "m" "[I", .fieldLink RX7 94 "IslandHeapModel" "overflowed" "Z", .fieldLink RX7 36 "IslandHeapModel" "stack" "[I", .fieldLink RX7 98 "IslandHeapModel" "highest" "I", .methodLink RX7 51 yX7_objectOf, .instanceMethod yX7_objectOf, .selects RX7 yX7_objectOf yX7_objectOf, .initialized RX7, .code yX7_objectOf cX7_objectOf 3 (some .int), .methodLink RX7 46 yX7_in, .static yX7_in, .code yX7_in cX7_in 3 (some .boolean)] ++ wsX70)
def wsX7_drains : List Cond := .code yX7_drains cX7_drains 3 none :: ([.fieldLink RX7 91 "IslandHeapModel" "top" "I", .fieldLink RX7 36 "IslandHeapModel" "stack" "[I", .fieldLink RX7 7 "IslandHeapModel" "m" "[I", .methodLink RX7 101 yX7_reach, .instanceMethod yX7_reach, .selects RX7 yX7_reach yX7_reach, .initialized RX7, .code yX7_reach cX7_reach 3 none, .fieldLink RX7 33 "IslandHeapModel" "marked" "[Z", .fieldLink RX7 94 "IslandHeapModel" "overflowed" "Z", .fieldLink RX7 98 "IslandHeapModel" "highest" "I", .methodLink RX7 51 yX7_objectOf, .instanceMethod yX7_objectOf, .selects RX7 yX7_objectOf yX7_objectOf, .code yX7_objectOf cX7_objectOf 3 (some .int), .methodLink RX7 46 yX7_in, .static yX7_in, .code yX7_in cX7_in 3 (some .boolean)] ++ wsX70)
def wsX7_scans : List Cond := .code yX7_scans cX7_scans 3 none :: ([.fieldLink RX7 7 "IslandHeapModel" "m" "[I", .fieldLink RX7 33 "IslandHeapModel" "marked" "[Z", .methodLink RX7 101 yX7_reach, .instanceMethod yX7_reach, .selects RX7 yX7_reach yX7_reach, .initialized RX7, .code yX7_reach cX7_reach 3 none, .fieldLink RX7 91 "IslandHeapModel" "top" "I", .fieldLink RX7 94 "IslandHeapModel" "overflowed" "Z", .fieldLink RX7 36 "IslandHeapModel" "stack" "[I", .fieldLink RX7 98 "IslandHeapModel" "highest" "I", .methodLink RX7 51 yX7_objectOf, .instanceMethod yX7_objectOf, .selects RX7 yX7_objectOf yX7_objectOf, .code yX7_objectOf cX7_objectOf 3 (some .int), .methodLink RX7 46 yX7_in, .static yX7_in, .code yX7_in cX7_in 3 (some .boolean), .methodLink RX7 104 yX7_drains, .instanceMethod yX7_drains, .selects RX7 yX7_drains yX7_drains, .code yX7_drains cX7_drains 3 none] ++ wsX70)
def wsX7_marks_r1 : List Cond := [Cond.fieldLink RX7 33 "IslandHeapModel" "marked" "[Z", Cond.fieldLink RX7 91 "IslandHeapModel" "top" "I", Cond.fieldLink RX7 98 "IslandHeapModel" "highest" "I", Cond.fieldLink RX7 94 "IslandHeapModel" "overflowed" "Z", Cond.fieldLink RX7 7 "IslandHeapModel" "m" "[I", Cond.methodLink RX7 101 yX7_reach, Cond.instanceMethod yX7_reach, Cond.selects RX7 yX7_reach yX7_reach, Cond.initialized RX7, Cond.code yX7_reach cX7_reach 3 none, Cond.fieldLink RX7 36 "IslandHeapModel" "stack" "[I", Cond.methodLink RX7 51 yX7_objectOf, Cond.instanceMethod yX7_objectOf, Cond.selects RX7 yX7_objectOf yX7_objectOf, Cond.code yX7_objectOf cX7_objectOf 3 (some .int), Cond.methodLink RX7 46 yX7_in, Cond.static yX7_in, Cond.code yX7_in cX7_in 3 (some .boolean), Cond.methodLink RX7 104 yX7_drains, Cond.instanceMethod yX7_drains, Cond.selects RX7 yX7_drains yX7_drains, Cond.code yX7_drains cX7_drains 3 none, Cond.methodLink RX7 107 yX7_scans, Cond.instanceMethod yX7_scans]
def wsX7_marks_r2 : List Cond := [Cond.selects RX7 yX7_scans yX7_scans, Cond.code yX7_scans cX7_scans 3 none]
def wsX7_marks : List Cond := .code yX7_marks cX7_marks 2 (some .int) :: ((wsX7_marks_r1 ++ wsX7_marks_r2) ++ wsX70)
def wsX7_gone : List Cond := .code yX7_gone cX7_gone 2 (some .int) :: ([.fieldLink RX7 7 "IslandHeapModel" "m" "[I"] ++ wsX70)
def wsX7_occupied : List Cond := .code yX7_occupied cX7_occupied 3 (some .int) :: ([.fieldLink RX7 7 "IslandHeapModel" "m" "[I"] ++ wsX70)
def wsX7_rebuilds : List Cond := .code yX7_rebuilds cX7_rebuilds 5 none :: ([.fieldLink RX7 7 "IslandHeapModel" "m" "[I", .fieldLink RX7 13 "IslandHeapModel" "old" "[I", .fieldLink RX7 33 "IslandHeapModel" "marked" "[Z", .methodLink RX7 120 yX7_gone, .instanceMethod yX7_gone, .selects RX7 yX7_gone yX7_gone, .initialized RX7, .code yX7_gone cX7_gone 2 (some .int)] ++ wsX70)
def wsX7_collect_r1 : List Cond := [Cond.fieldLink RX7 13 "IslandHeapModel" "old" "[I", Cond.fieldLink RX7 7 "IslandHeapModel" "m" "[I", Cond.fieldLink RX7 33 "IslandHeapModel" "marked" "[Z", Cond.fieldLink RX7 98 "IslandHeapModel" "highest" "I", Cond.methodLink RX7 110 yX7_occupied, Cond.instanceMethod yX7_occupied, Cond.selects RX7 yX7_occupied yX7_occupied, Cond.initialized RX7, Cond.code yX7_occupied cX7_occupied 3 (some .int), Cond.methodLink RX7 114 yX7_marks, Cond.instanceMethod yX7_marks, Cond.selects RX7 yX7_marks yX7_marks, Cond.code yX7_marks cX7_marks 2 (some .int), Cond.fieldLink RX7 91 "IslandHeapModel" "top" "I", Cond.fieldLink RX7 94 "IslandHeapModel" "overflowed" "Z", Cond.methodLink RX7 101 yX7_reach, Cond.instanceMethod yX7_reach, Cond.selects RX7 yX7_reach yX7_reach, Cond.code yX7_reach cX7_reach 3 none, Cond.fieldLink RX7 36 "IslandHeapModel" "stack" "[I", Cond.methodLink RX7 51 yX7_objectOf, Cond.instanceMethod yX7_objectOf, Cond.selects RX7 yX7_objectOf yX7_objectOf, Cond.code yX7_objectOf cX7_objectOf 3 (some .int)]
def wsX7_collect_r2 : List Cond := [Cond.methodLink RX7 46 yX7_in, Cond.static yX7_in, Cond.code yX7_in cX7_in 3 (some .boolean), Cond.methodLink RX7 104 yX7_drains, Cond.instanceMethod yX7_drains, Cond.selects RX7 yX7_drains yX7_drains, Cond.code yX7_drains cX7_drains 3 none, Cond.methodLink RX7 107 yX7_scans, Cond.instanceMethod yX7_scans, Cond.selects RX7 yX7_scans yX7_scans, Cond.code yX7_scans cX7_scans 3 none, Cond.methodLink RX7 117 yX7_rebuilds, Cond.instanceMethod yX7_rebuilds, Cond.selects RX7 yX7_rebuilds yX7_rebuilds, Cond.code yX7_rebuilds cX7_rebuilds 5 none, Cond.methodLink RX7 120 yX7_gone, Cond.instanceMethod yX7_gone, Cond.selects RX7 yX7_gone yX7_gone, Cond.code yX7_gone cX7_gone 2 (some .int)]
def wsX7_collect : List Cond := .code yX7_collect cX7_collect 11 (some .int) :: ((wsX7_collect_r1 ++ wsX7_collect_r2) ++ wsX70)
def wsX7_moved : List Cond := .code yX7_moved cX7_moved 2 (some .int) :: ([.fieldLink RX7 7 "IslandHeapModel" "m" "[I", .constant RX7 50 (-1000002), .constant RX7 82 (-1000003), .methodLink RX7 46 yX7_in, .static yX7_in, .initialized RX7, .code yX7_in cX7_in 3 (some .boolean)] ++ wsX70)
def wsX7_report : List Cond := .code yX7_report cX7_report 2 (some .int) :: ([.constant RX7 50 (-1000002), .fieldLink RX7 7 "IslandHeapModel" "m" "[I", .constant RX7 82 (-1000003), .methodLink RX7 46 yX7_in, .static yX7_in, .initialized RX7, .code yX7_in cX7_in 3 (some .boolean)] ++ wsX70)
def wsX7_garbage_r1 : List Cond := [Cond.methodLink RX7 69 yX7_reaches, Cond.instanceMethod yX7_reaches, Cond.selects RX7 yX7_reaches yX7_reaches, Cond.initialized RX7, Cond.code yX7_reaches cX7_reaches 7 none, Cond.fieldLink RX7 30 "IslandHeapModel" "far" "[I", Cond.fieldLink RX7 7 "IslandHeapModel" "m" "[I", Cond.methodLink RX7 60 yX7_starts, Cond.instanceMethod yX7_starts, Cond.selects RX7 yX7_starts yX7_starts, Cond.code yX7_starts cX7_starts 4 none, Cond.methodLink RX7 51 yX7_objectOf, Cond.instanceMethod yX7_objectOf, Cond.selects RX7 yX7_objectOf yX7_objectOf, Cond.code yX7_objectOf cX7_objectOf 3 (some .int), Cond.methodLink RX7 46 yX7_in, Cond.static yX7_in, Cond.code yX7_in cX7_in 3 (some .boolean), Cond.methodLink RX7 110 yX7_occupied, Cond.instanceMethod yX7_occupied, Cond.selects RX7 yX7_occupied yX7_occupied, Cond.code yX7_occupied cX7_occupied 3 (some .int), Cond.methodLink RX7 123 yX7_reachedWords, Cond.instanceMethod yX7_reachedWords]
def wsX7_garbage_r2 : List Cond := [Cond.selects RX7 yX7_reachedWords yX7_reachedWords, Cond.code yX7_reachedWords cX7_reachedWords 3 (some .int)]
def wsX7_garbage : List Cond := .code yX7_garbage cX7_garbage 1 (some .int) :: ((wsX7_garbage_r1 ++ wsX7_garbage_r2) ++ wsX70)
def wsX7_distance : List Cond := .code yX7_distance cX7_distance 3 (some .int) :: ([.constant RX7 50 (-1000002), .fieldLink RX7 30 "IslandHeapModel" "far" "[I", .methodLink RX7 51 yX7_objectOf, .instanceMethod yX7_objectOf, .selects RX7 yX7_objectOf yX7_objectOf, .initialized RX7, .code yX7_objectOf cX7_objectOf 3 (some .int), .fieldLink RX7 7 "IslandHeapModel" "m" "[I", .methodLink RX7 46 yX7_in, .static yX7_in, .code yX7_in cX7_in 3 (some .boolean), .methodLink RX7 69 yX7_reaches, .instanceMethod yX7_reaches, .selects RX7 yX7_reaches yX7_reaches, .code yX7_reaches cX7_reaches 7 none, .methodLink RX7 60 yX7_starts, .instanceMethod yX7_starts, .selects RX7 yX7_starts yX7_starts, .code yX7_starts cX7_starts 4 none] ++ wsX70)
def wsX7_retained : List Cond := .code yX7_retained cX7_retained 4 (some .int) :: ([.constant RX7 50 (-1000002), .fieldLink RX7 30 "IslandHeapModel" "far" "[I", .methodLink RX7 51 yX7_objectOf, .instanceMethod yX7_objectOf, .selects RX7 yX7_objectOf yX7_objectOf, .initialized RX7, .code yX7_objectOf cX7_objectOf 3 (some .int), .fieldLink RX7 7 "IslandHeapModel" "m" "[I", .methodLink RX7 46 yX7_in, .static yX7_in, .code yX7_in cX7_in 3 (some .boolean), .methodLink RX7 69 yX7_reaches, .instanceMethod yX7_reaches, .selects RX7 yX7_reaches yX7_reaches, .code yX7_reaches cX7_reaches 7 none, .methodLink RX7 60 yX7_starts, .instanceMethod yX7_starts, .selects RX7 yX7_starts yX7_starts, .code yX7_starts cX7_starts 4 none, .methodLink RX7 123 yX7_reachedWords, .instanceMethod yX7_reachedWords, .selects RX7 yX7_reachedWords yX7_reachedWords, .code yX7_reachedWords cX7_reachedWords 3 (some .int)] ++ wsX70)
def wsX7_free : List Cond := .code yX7_free cX7_free 9 (some .int) :: ([.constant RX7 50 (-1000002), .fieldLink RX7 7 "IslandHeapModel" "m" "[I", .methodLink RX7 46 yX7_in, .static yX7_in, .initialized RX7, .code yX7_in cX7_in 3 (some .boolean)] ++ wsX70)
def wsX7_type : List Cond := .code yX7_type cX7_type 2 (some .int) :: ([.constant RX7 50 (-1000002), .fieldLink RX7 126 "IslandHeapModel" "textLength" "I", .constant RX7 59 (-1000004), .fieldLink RX7 23 "IslandHeapModel" "text" "[I", .methodLink RX7 46 yX7_in, .static yX7_in, .initialized RX7, .code yX7_in cX7_in 3 (some .boolean)] ++ wsX70)
def wsX7_clearText : List Cond := .code yX7_clearText cX7_clearText 2 (some .int) :: ([.fieldLink RX7 126 "IslandHeapModel" "textLength" "I"] ++ wsX70)
def wsX7_next_ : List Cond := .code yX7_next_ cX7_next_ 1 (some .int) :: ([.fieldLink RX7 129 "IslandHeapModel" "at" "I", .fieldLink RX7 126 "IslandHeapModel" "textLength" "I", .fieldLink RX7 23 "IslandHeapModel" "text" "[I"] ++ wsX70)
def wsX7_blanks : List Cond := .code yX7_blanks cX7_blanks 1 none :: ([.fieldLink RX7 129 "IslandHeapModel" "at" "I", .methodLink RX7 132 yX7_next_, .instanceMethod yX7_next_, .selects RX7 yX7_next_ yX7_next_, .initialized RX7, .code yX7_next_ cX7_next_ 1 (some .int), .fieldLink RX7 126 "IslandHeapModel" "textLength" "I", .fieldLink RX7 23 "IslandHeapModel" "text" "[I"] ++ wsX70)
def wsX7_fails : List Cond := .code yX7_fails cX7_fails 1 none :: ([.fieldLink RX7 135 "IslandHeapModel" "fault" "I", .fieldLink RX7 129 "IslandHeapModel" "at" "I"] ++ wsX70)
def wsX7_isDigit : List Cond := .code yX7_isDigit cX7_isDigit 1 (some .boolean) :: ([.methodLink RX7 132 yX7_next_, .instanceMethod yX7_next_, .selects RX7 yX7_next_ yX7_next_, .initialized RX7, .code yX7_next_ cX7_next_ 1 (some .int), .fieldLink RX7 129 "IslandHeapModel" "at" "I", .fieldLink RX7 126 "IslandHeapModel" "textLength" "I", .fieldLink RX7 23 "IslandHeapModel" "text" "[I", .methodLink RX7 46 yX7_in, .static yX7_in, .code yX7_in cX7_in 3 (some .boolean)] ++ wsX70)
def wsX7_digit : List Cond := .code yX7_digit cX7_digit 2 (some .int) :: ([.fieldLink RX7 135 "IslandHeapModel" "fault" "I", .fieldLink RX7 129 "IslandHeapModel" "at" "I", .methodLink RX7 132 yX7_next_, .instanceMethod yX7_next_, .selects RX7 yX7_next_ yX7_next_, .initialized RX7, .code yX7_next_ cX7_next_ 1 (some .int), .fieldLink RX7 126 "IslandHeapModel" "textLength" "I", .fieldLink RX7 23 "IslandHeapModel" "text" "[I", .methodLink RX7 138 yX7_isDigit, .instanceMethod yX7_isDigit, .selects RX7 yX7_isDigit yX7_isDigit, .code yX7_isDigit cX7_isDigit 1 (some .boolean), .methodLink RX7 46 yX7_in, .static yX7_in, .code yX7_in cX7_in 3 (some .boolean), .methodLink RX7 142 yX7_fails, .instanceMethod yX7_fails, .selects RX7 yX7_fails yX7_fails, .code yX7_fails cX7_fails 1 none, .methodLink RX7 145 yX7_blanks, .instanceMethod yX7_blanks, .selects RX7 yX7_blanks yX7_blanks, .code yX7_blanks cX7_blanks 1 none] ++ wsX70)
def wsX7_number : List Cond := .code yX7_number cX7_number 3 (some .int) :: ([.fieldLink RX7 129 "IslandHeapModel" "at" "I", .fieldLink RX7 135 "IslandHeapModel" "fault" "I", .methodLink RX7 138 yX7_isDigit, .instanceMethod yX7_isDigit, .selects RX7 yX7_isDigit yX7_isDigit, .initialized RX7, .code yX7_isDigit cX7_isDigit 1 (some .boolean), .methodLink RX7 132 yX7_next_, .instanceMethod yX7_next_, .selects RX7 yX7_next_ yX7_next_, .code yX7_next_ cX7_next_ 1 (some .int), .fieldLink RX7 126 "IslandHeapModel" "textLength" "I", .fieldLink RX7 23 "IslandHeapModel" "text" "[I", .methodLink RX7 46 yX7_in, .static yX7_in, .code yX7_in cX7_in 3 (some .boolean), .methodLink RX7 142 yX7_fails, .instanceMethod yX7_fails, .selects RX7 yX7_fails yX7_fails, .code yX7_fails cX7_fails 1 none, .methodLink RX7 145 yX7_blanks, .instanceMethod yX7_blanks, .selects RX7 yX7_blanks yX7_blanks, .code yX7_blanks cX7_blanks 1 none] ++ wsX70)
def wsX7_place_r1 : List Cond := [Cond.fieldLink RX7 135 "IslandHeapModel" "fault" "I", Cond.fieldLink RX7 129 "IslandHeapModel" "at" "I", Cond.methodLink RX7 132 yX7_next_, Cond.instanceMethod yX7_next_, Cond.selects RX7 yX7_next_ yX7_next_, Cond.initialized RX7, Cond.code yX7_next_ cX7_next_ 1 (some .int), Cond.fieldLink RX7 126 "IslandHeapModel" "textLength" "I", Cond.fieldLink RX7 23 "IslandHeapModel" "text" "[I", Cond.methodLink RX7 145 yX7_blanks, Cond.instanceMethod yX7_blanks, Cond.selects RX7 yX7_blanks yX7_blanks, Cond.code yX7_blanks cX7_blanks 1 none, Cond.methodLink RX7 148 yX7_number, Cond.instanceMethod yX7_number, Cond.selects RX7 yX7_number yX7_number, Cond.code yX7_number cX7_number 3 (some .int), Cond.methodLink RX7 138 yX7_isDigit, Cond.instanceMethod yX7_isDigit, Cond.selects RX7 yX7_isDigit yX7_isDigit, Cond.code yX7_isDigit cX7_isDigit 1 (some .boolean), Cond.methodLink RX7 46 yX7_in, Cond.static yX7_in, Cond.code yX7_in cX7_in 3 (some .boolean)]
def wsX7_place_r2 : List Cond := [Cond.methodLink RX7 142 yX7_fails, Cond.instanceMethod yX7_fails, Cond.selects RX7 yX7_fails yX7_fails, Cond.code yX7_fails cX7_fails 1 none]
def wsX7_place : List Cond := .code yX7_place cX7_place 1 (some .int) :: ((wsX7_place_r1 ++ wsX7_place_r2) ++ wsX70)
def wsX7_reads_r1 : List Cond := [Cond.fieldLink RX7 151 "IslandHeapModel" "commands" "I", Cond.fieldLink RX7 39 "IslandHeapModel" "command" "[I", Cond.fieldLink RX7 129 "IslandHeapModel" "at" "I", Cond.fieldLink RX7 135 "IslandHeapModel" "fault" "I", Cond.methodLink RX7 132 yX7_next_, Cond.instanceMethod yX7_next_, Cond.selects RX7 yX7_next_ yX7_next_, Cond.initialized RX7, Cond.code yX7_next_ cX7_next_ 1 (some .int), Cond.fieldLink RX7 126 "IslandHeapModel" "textLength" "I", Cond.fieldLink RX7 23 "IslandHeapModel" "text" "[I", Cond.methodLink RX7 142 yX7_fails, Cond.instanceMethod yX7_fails, Cond.selects RX7 yX7_fails yX7_fails, Cond.code yX7_fails cX7_fails 1 none, Cond.methodLink RX7 145 yX7_blanks, Cond.instanceMethod yX7_blanks, Cond.selects RX7 yX7_blanks yX7_blanks, Cond.code yX7_blanks cX7_blanks 1 none, Cond.methodLink RX7 154 yX7_digit, Cond.instanceMethod yX7_digit, Cond.selects RX7 yX7_digit yX7_digit, Cond.code yX7_digit cX7_digit 2 (some .int), Cond.methodLink RX7 138 yX7_isDigit]
def wsX7_reads_r2 : List Cond := [Cond.instanceMethod yX7_isDigit, Cond.selects RX7 yX7_isDigit yX7_isDigit, Cond.code yX7_isDigit cX7_isDigit 1 (some .boolean), Cond.methodLink RX7 46 yX7_in, Cond.static yX7_in, Cond.code yX7_in cX7_in 3 (some .boolean), Cond.methodLink RX7 157 yX7_place, Cond.instanceMethod yX7_place, Cond.selects RX7 yX7_place yX7_place, Cond.code yX7_place cX7_place 1 (some .int), Cond.methodLink RX7 148 yX7_number, Cond.instanceMethod yX7_number, Cond.selects RX7 yX7_number yX7_number, Cond.code yX7_number cX7_number 3 (some .int)]
def wsX7_reads : List Cond := .code yX7_reads cX7_reads 3 none :: ((wsX7_reads_r1 ++ wsX7_reads_r2) ++ wsX70)
def wsX7_fault_r1 : List Cond := [Cond.fieldLink RX7 129 "IslandHeapModel" "at" "I", Cond.fieldLink RX7 151 "IslandHeapModel" "commands" "I", Cond.fieldLink RX7 135 "IslandHeapModel" "fault" "I", Cond.fieldLink RX7 126 "IslandHeapModel" "textLength" "I", Cond.methodLink RX7 145 yX7_blanks, Cond.instanceMethod yX7_blanks, Cond.selects RX7 yX7_blanks yX7_blanks, Cond.initialized RX7, Cond.code yX7_blanks cX7_blanks 1 none, Cond.methodLink RX7 132 yX7_next_, Cond.instanceMethod yX7_next_, Cond.selects RX7 yX7_next_ yX7_next_, Cond.code yX7_next_ cX7_next_ 1 (some .int), Cond.fieldLink RX7 23 "IslandHeapModel" "text" "[I", Cond.methodLink RX7 160 yX7_reads, Cond.instanceMethod yX7_reads, Cond.selects RX7 yX7_reads yX7_reads, Cond.code yX7_reads cX7_reads 3 none, Cond.fieldLink RX7 39 "IslandHeapModel" "command" "[I", Cond.methodLink RX7 142 yX7_fails, Cond.instanceMethod yX7_fails, Cond.selects RX7 yX7_fails yX7_fails, Cond.code yX7_fails cX7_fails 1 none, Cond.methodLink RX7 154 yX7_digit]
def wsX7_fault_r2 : List Cond := [Cond.instanceMethod yX7_digit, Cond.selects RX7 yX7_digit yX7_digit, Cond.code yX7_digit cX7_digit 2 (some .int), Cond.methodLink RX7 138 yX7_isDigit, Cond.instanceMethod yX7_isDigit, Cond.selects RX7 yX7_isDigit yX7_isDigit, Cond.code yX7_isDigit cX7_isDigit 1 (some .boolean), Cond.methodLink RX7 46 yX7_in, Cond.static yX7_in, Cond.code yX7_in cX7_in 3 (some .boolean), Cond.methodLink RX7 157 yX7_place, Cond.instanceMethod yX7_place, Cond.selects RX7 yX7_place yX7_place, Cond.code yX7_place cX7_place 1 (some .int), Cond.methodLink RX7 148 yX7_number, Cond.instanceMethod yX7_number, Cond.selects RX7 yX7_number yX7_number, Cond.code yX7_number cX7_number 3 (some .int)]
def wsX7_fault : List Cond := .code yX7_fault cX7_fault 1 (some .int) :: ((wsX7_fault_r1 ++ wsX7_fault_r2) ++ wsX70)
def wsX7_does_r1 : List Cond := [Cond.fieldLink RX7 39 "IslandHeapModel" "command" "[I", Cond.methodLink RX7 163 yX7_alloc, Cond.instanceMethod yX7_alloc, Cond.selects RX7 yX7_alloc yX7_alloc, Cond.initialized RX7, Cond.code yX7_alloc cX7_alloc 6 (some .int), Cond.constant RX7 50 (-1000002), Cond.fieldLink RX7 7 "IslandHeapModel" "m" "[I", Cond.constant RX7 59 (-1000004), Cond.methodLink RX7 46 yX7_in, Cond.static yX7_in, Cond.code yX7_in cX7_in 3 (some .boolean), Cond.methodLink RX7 55 yX7_lays, Cond.instanceMethod yX7_lays, Cond.selects RX7 yX7_lays yX7_lays, Cond.code yX7_lays cX7_lays 5 none, Cond.methodLink RX7 166 yX7_setRoot, Cond.instanceMethod yX7_setRoot, Cond.selects RX7 yX7_setRoot yX7_setRoot, Cond.code yX7_setRoot cX7_setRoot 3 (some .int), Cond.methodLink RX7 76 yX7_isReference, Cond.instanceMethod yX7_isReference, Cond.selects RX7 yX7_isReference yX7_isReference, Cond.code yX7_isReference cX7_isReference 2 (some .boolean)]
def wsX7_does_r2 : List Cond := [Cond.methodLink RX7 51 yX7_objectOf, Cond.instanceMethod yX7_objectOf, Cond.selects RX7 yX7_objectOf yX7_objectOf, Cond.code yX7_objectOf cX7_objectOf 3 (some .int), Cond.methodLink RX7 87 yX7_setsSlot, Cond.instanceMethod yX7_setsSlot, Cond.selects RX7 yX7_setsSlot yX7_setsSlot, Cond.code yX7_setsSlot cX7_setsSlot 4 (some .int), Cond.methodLink RX7 169 yX7_setWeak, Cond.instanceMethod yX7_setWeak, Cond.selects RX7 yX7_setWeak yX7_setWeak, Cond.code yX7_setWeak cX7_setWeak 3 (some .int), Cond.methodLink RX7 172 yX7_setField, Cond.instanceMethod yX7_setField, Cond.selects RX7 yX7_setField yX7_setField, Cond.code yX7_setField cX7_setField 6 (some .int), Cond.methodLink RX7 176 yX7_pin, Cond.instanceMethod yX7_pin, Cond.selects RX7 yX7_pin yX7_pin, Cond.code yX7_pin cX7_pin 4 (some .int), Cond.constant RX7 82 (-1000003), Cond.methodLink RX7 83 yX7_many, Cond.instanceMethod yX7_many, Cond.selects RX7 yX7_many yX7_many]
def wsX7_does_r3 : List Cond := [Cond.code yX7_many cX7_many 4 (some .int), Cond.methodLink RX7 180 yX7_collect, Cond.instanceMethod yX7_collect, Cond.selects RX7 yX7_collect yX7_collect, Cond.code yX7_collect cX7_collect 11 (some .int), Cond.fieldLink RX7 13 "IslandHeapModel" "old" "[I", Cond.fieldLink RX7 33 "IslandHeapModel" "marked" "[Z", Cond.fieldLink RX7 98 "IslandHeapModel" "highest" "I", Cond.methodLink RX7 110 yX7_occupied, Cond.instanceMethod yX7_occupied, Cond.selects RX7 yX7_occupied yX7_occupied, Cond.code yX7_occupied cX7_occupied 3 (some .int), Cond.methodLink RX7 114 yX7_marks, Cond.instanceMethod yX7_marks, Cond.selects RX7 yX7_marks yX7_marks, Cond.code yX7_marks cX7_marks 2 (some .int), Cond.fieldLink RX7 91 "IslandHeapModel" "top" "I", Cond.fieldLink RX7 94 "IslandHeapModel" "overflowed" "Z", Cond.methodLink RX7 101 yX7_reach, Cond.instanceMethod yX7_reach, Cond.selects RX7 yX7_reach yX7_reach, Cond.code yX7_reach cX7_reach 3 none, Cond.fieldLink RX7 36 "IslandHeapModel" "stack" "[I", Cond.methodLink RX7 104 yX7_drains]
def wsX7_does_r4 : List Cond := [Cond.instanceMethod yX7_drains, Cond.selects RX7 yX7_drains yX7_drains, Cond.code yX7_drains cX7_drains 3 none, Cond.methodLink RX7 107 yX7_scans, Cond.instanceMethod yX7_scans, Cond.selects RX7 yX7_scans yX7_scans, Cond.code yX7_scans cX7_scans 3 none, Cond.methodLink RX7 117 yX7_rebuilds, Cond.instanceMethod yX7_rebuilds, Cond.selects RX7 yX7_rebuilds yX7_rebuilds, Cond.code yX7_rebuilds cX7_rebuilds 5 none, Cond.methodLink RX7 120 yX7_gone, Cond.instanceMethod yX7_gone, Cond.selects RX7 yX7_gone yX7_gone, Cond.code yX7_gone cX7_gone 2 (some .int)]
def wsX7_does : List Cond := .code yX7_does cX7_does 4 (some .int) :: ((wsX7_does_r1 ++ (wsX7_does_r2 ++ (wsX7_does_r3 ++ wsX7_does_r4))) ++ wsX70)
def wsX7_run_r1 : List Cond := [Cond.constant RX7 82 (-1000003), Cond.fieldLink RX7 26 "IslandHeapModel" "refused" "I", Cond.fieldLink RX7 151 "IslandHeapModel" "commands" "I", Cond.constant RX7 50 (-1000002), Cond.methodLink RX7 183 yX7_fault, Cond.instanceMethod yX7_fault, Cond.selects RX7 yX7_fault yX7_fault, Cond.initialized RX7, Cond.code yX7_fault cX7_fault 1 (some .int), Cond.fieldLink RX7 129 "IslandHeapModel" "at" "I", Cond.fieldLink RX7 135 "IslandHeapModel" "fault" "I", Cond.fieldLink RX7 126 "IslandHeapModel" "textLength" "I", Cond.methodLink RX7 145 yX7_blanks, Cond.instanceMethod yX7_blanks, Cond.selects RX7 yX7_blanks yX7_blanks, Cond.code yX7_blanks cX7_blanks 1 none, Cond.methodLink RX7 132 yX7_next_, Cond.instanceMethod yX7_next_, Cond.selects RX7 yX7_next_ yX7_next_, Cond.code yX7_next_ cX7_next_ 1 (some .int), Cond.fieldLink RX7 23 "IslandHeapModel" "text" "[I", Cond.methodLink RX7 160 yX7_reads, Cond.instanceMethod yX7_reads, Cond.selects RX7 yX7_reads yX7_reads]
def wsX7_run_r2 : List Cond := [Cond.code yX7_reads cX7_reads 3 none, Cond.fieldLink RX7 39 "IslandHeapModel" "command" "[I", Cond.methodLink RX7 142 yX7_fails, Cond.instanceMethod yX7_fails, Cond.selects RX7 yX7_fails yX7_fails, Cond.code yX7_fails cX7_fails 1 none, Cond.methodLink RX7 154 yX7_digit, Cond.instanceMethod yX7_digit, Cond.selects RX7 yX7_digit yX7_digit, Cond.code yX7_digit cX7_digit 2 (some .int), Cond.methodLink RX7 138 yX7_isDigit, Cond.instanceMethod yX7_isDigit, Cond.selects RX7 yX7_isDigit yX7_isDigit, Cond.code yX7_isDigit cX7_isDigit 1 (some .boolean), Cond.methodLink RX7 46 yX7_in, Cond.static yX7_in, Cond.code yX7_in cX7_in 3 (some .boolean), Cond.methodLink RX7 157 yX7_place, Cond.instanceMethod yX7_place, Cond.selects RX7 yX7_place yX7_place, Cond.code yX7_place cX7_place 1 (some .int), Cond.methodLink RX7 148 yX7_number, Cond.instanceMethod yX7_number, Cond.selects RX7 yX7_number yX7_number]
def wsX7_run_r3 : List Cond := [Cond.code yX7_number cX7_number 3 (some .int), Cond.methodLink RX7 185 yX7_does, Cond.instanceMethod yX7_does, Cond.selects RX7 yX7_does yX7_does, Cond.code yX7_does cX7_does 4 (some .int), Cond.methodLink RX7 163 yX7_alloc, Cond.instanceMethod yX7_alloc, Cond.selects RX7 yX7_alloc yX7_alloc, Cond.code yX7_alloc cX7_alloc 6 (some .int), Cond.fieldLink RX7 7 "IslandHeapModel" "m" "[I", Cond.constant RX7 59 (-1000004), Cond.methodLink RX7 55 yX7_lays, Cond.instanceMethod yX7_lays, Cond.selects RX7 yX7_lays yX7_lays, Cond.code yX7_lays cX7_lays 5 none, Cond.methodLink RX7 166 yX7_setRoot, Cond.instanceMethod yX7_setRoot, Cond.selects RX7 yX7_setRoot yX7_setRoot, Cond.code yX7_setRoot cX7_setRoot 3 (some .int), Cond.methodLink RX7 76 yX7_isReference, Cond.instanceMethod yX7_isReference, Cond.selects RX7 yX7_isReference yX7_isReference, Cond.code yX7_isReference cX7_isReference 2 (some .boolean), Cond.methodLink RX7 51 yX7_objectOf]
def wsX7_run_r4 : List Cond := [Cond.instanceMethod yX7_objectOf, Cond.selects RX7 yX7_objectOf yX7_objectOf, Cond.code yX7_objectOf cX7_objectOf 3 (some .int), Cond.methodLink RX7 87 yX7_setsSlot, Cond.instanceMethod yX7_setsSlot, Cond.selects RX7 yX7_setsSlot yX7_setsSlot, Cond.code yX7_setsSlot cX7_setsSlot 4 (some .int), Cond.methodLink RX7 169 yX7_setWeak, Cond.instanceMethod yX7_setWeak, Cond.selects RX7 yX7_setWeak yX7_setWeak, Cond.code yX7_setWeak cX7_setWeak 3 (some .int), Cond.methodLink RX7 172 yX7_setField, Cond.instanceMethod yX7_setField, Cond.selects RX7 yX7_setField yX7_setField, Cond.code yX7_setField cX7_setField 6 (some .int), Cond.methodLink RX7 176 yX7_pin, Cond.instanceMethod yX7_pin, Cond.selects RX7 yX7_pin yX7_pin, Cond.code yX7_pin cX7_pin 4 (some .int), Cond.methodLink RX7 83 yX7_many, Cond.instanceMethod yX7_many, Cond.selects RX7 yX7_many yX7_many, Cond.code yX7_many cX7_many 4 (some .int), Cond.methodLink RX7 180 yX7_collect]
def wsX7_run_r5 : List Cond := [Cond.instanceMethod yX7_collect, Cond.selects RX7 yX7_collect yX7_collect, Cond.code yX7_collect cX7_collect 11 (some .int), Cond.fieldLink RX7 13 "IslandHeapModel" "old" "[I", Cond.fieldLink RX7 33 "IslandHeapModel" "marked" "[Z", Cond.fieldLink RX7 98 "IslandHeapModel" "highest" "I", Cond.methodLink RX7 110 yX7_occupied, Cond.instanceMethod yX7_occupied, Cond.selects RX7 yX7_occupied yX7_occupied, Cond.code yX7_occupied cX7_occupied 3 (some .int), Cond.methodLink RX7 114 yX7_marks, Cond.instanceMethod yX7_marks, Cond.selects RX7 yX7_marks yX7_marks, Cond.code yX7_marks cX7_marks 2 (some .int), Cond.fieldLink RX7 91 "IslandHeapModel" "top" "I", Cond.fieldLink RX7 94 "IslandHeapModel" "overflowed" "Z", Cond.methodLink RX7 101 yX7_reach, Cond.instanceMethod yX7_reach, Cond.selects RX7 yX7_reach yX7_reach, Cond.code yX7_reach cX7_reach 3 none, Cond.fieldLink RX7 36 "IslandHeapModel" "stack" "[I", Cond.methodLink RX7 104 yX7_drains, Cond.instanceMethod yX7_drains, Cond.selects RX7 yX7_drains yX7_drains]
def wsX7_run_r6 : List Cond := [Cond.code yX7_drains cX7_drains 3 none, Cond.methodLink RX7 107 yX7_scans, Cond.instanceMethod yX7_scans, Cond.selects RX7 yX7_scans yX7_scans, Cond.code yX7_scans cX7_scans 3 none, Cond.methodLink RX7 117 yX7_rebuilds, Cond.instanceMethod yX7_rebuilds, Cond.selects RX7 yX7_rebuilds yX7_rebuilds, Cond.code yX7_rebuilds cX7_rebuilds 5 none, Cond.methodLink RX7 120 yX7_gone, Cond.instanceMethod yX7_gone, Cond.selects RX7 yX7_gone yX7_gone, Cond.code yX7_gone cX7_gone 2 (some .int)]
def wsX7_run : List Cond := .code yX7_run cX7_run 4 (some .int) :: ((wsX7_run_r1 ++ (wsX7_run_r2 ++ (wsX7_run_r3 ++ (wsX7_run_r4 ++ (wsX7_run_r5 ++ wsX7_run_r6))))) ++ wsX70)
def wsX7_refusal : List Cond := .code yX7_refusal cX7_refusal 1 (some .int) :: ([.fieldLink RX7 26 "IslandHeapModel" "refused" "I"] ++ wsX70)
def wsX7_save : List Cond := .code yX7_save cX7_save 3 (some .int) :: ([.constant RX7 50 (-1000002), .fieldLink RX7 16 "IslandHeapModel" "saved" "[I", .fieldLink RX7 7 "IslandHeapModel" "m" "[I", .fieldLink RX7 19 "IslandHeapModel" "isSaved" "[Z", .methodLink RX7 46 yX7_in, .static yX7_in, .initialized RX7, .code yX7_in cX7_in 3 (some .boolean), .methodLink RX7 83 yX7_many, .instanceMethod yX7_many, .selects RX7 yX7_many yX7_many, .code yX7_many cX7_many 4 (some .int)] ++ wsX70)
def wsX7_restore : List Cond := .code yX7_restore cX7_restore 3 (some .int) :: ([.constant RX7 50 (-1000002), .fieldLink RX7 19 "IslandHeapModel" "isSaved" "[Z", .constant RX7 82 (-1000003), .fieldLink RX7 7 "IslandHeapModel" "m" "[I", .fieldLink RX7 16 "IslandHeapModel" "saved" "[I", .methodLink RX7 46 yX7_in, .static yX7_in, .initialized RX7, .code yX7_in cX7_in 3 (some .boolean), .methodLink RX7 83 yX7_many, .instanceMethod yX7_many, .selects RX7 yX7_many yX7_many, .code yX7_many cX7_many 4 (some .int)] ++ wsX70)
def wsX7_count : List Cond := .code yX7_count cX7_count 2 (some .int) :: ([.fieldLink RX7 7 "IslandHeapModel" "m" "[I", .fieldLink RX7 126 "IslandHeapModel" "textLength" "I", .constant RX7 50 (-1000002), .methodLink RX7 83 yX7_many, .instanceMethod yX7_many, .selects RX7 yX7_many yX7_many, .initialized RX7, .code yX7_many cX7_many 4 (some .int)] ++ wsX70)
def wsX7_mixes : List Cond := .code yX7_mixes cX7_mixes 2 none :: ([.constantLong RX7 188 (31), .fieldLink RX7 190 "IslandHeapModel" "hash" "J"] ++ wsX70)
def wsX7_digest_r1 : List Cond := [Cond.constantLong RX7 194 (47), Cond.fieldLink RX7 190 "IslandHeapModel" "hash" "J", Cond.fieldLink RX7 7 "IslandHeapModel" "m" "[I", Cond.fieldLink RX7 126 "IslandHeapModel" "textLength" "I", Cond.fieldLink RX7 23 "IslandHeapModel" "text" "[I", Cond.methodLink RX7 196 yX7_count, Cond.instanceMethod yX7_count, Cond.selects RX7 yX7_count yX7_count, Cond.initialized RX7, Cond.code yX7_count cX7_count 2 (some .int), Cond.constant RX7 50 (-1000002), Cond.methodLink RX7 83 yX7_many, Cond.instanceMethod yX7_many, Cond.selects RX7 yX7_many yX7_many, Cond.code yX7_many cX7_many 4 (some .int), Cond.methodLink RX7 199 yX7_mixes, Cond.instanceMethod yX7_mixes, Cond.selects RX7 yX7_mixes yX7_mixes, Cond.code yX7_mixes cX7_mixes 2 none, Cond.constantLong RX7 188 (31), Cond.methodLink RX7 73 yX7_objectFrom, Cond.instanceMethod yX7_objectFrom, Cond.selects RX7 yX7_objectFrom yX7_objectFrom, Cond.code yX7_objectFrom cX7_objectFrom 3 (some .int)]
def wsX7_digest_r2 : List Cond := [Cond.methodLink RX7 202 yX7_object, Cond.instanceMethod yX7_object, Cond.selects RX7 yX7_object yX7_object, Cond.code yX7_object cX7_object 4 (some .int), Cond.fieldLink RX7 30 "IslandHeapModel" "far" "[I", Cond.methodLink RX7 51 yX7_objectOf, Cond.instanceMethod yX7_objectOf, Cond.selects RX7 yX7_objectOf yX7_objectOf, Cond.code yX7_objectOf cX7_objectOf 3 (some .int), Cond.methodLink RX7 46 yX7_in, Cond.static yX7_in, Cond.code yX7_in cX7_in 3 (some .boolean), Cond.methodLink RX7 63 yX7_dataOf, Cond.instanceMethod yX7_dataOf, Cond.selects RX7 yX7_dataOf yX7_dataOf, Cond.code yX7_dataOf cX7_dataOf 2 (some .int), Cond.methodLink RX7 66 yX7_referring, Cond.instanceMethod yX7_referring, Cond.selects RX7 yX7_referring yX7_referring, Cond.code yX7_referring cX7_referring 5 (some .int), Cond.methodLink RX7 69 yX7_reaches, Cond.instanceMethod yX7_reaches, Cond.selects RX7 yX7_reaches yX7_reaches, Cond.code yX7_reaches cX7_reaches 7 none]
def wsX7_digest_r3 : List Cond := [Cond.methodLink RX7 60 yX7_starts, Cond.instanceMethod yX7_starts, Cond.selects RX7 yX7_starts yX7_starts, Cond.code yX7_starts cX7_starts 4 none, Cond.methodLink RX7 205 yX7_free, Cond.instanceMethod yX7_free, Cond.selects RX7 yX7_free yX7_free, Cond.code yX7_free cX7_free 9 (some .int)]
def wsX7_digest : List Cond := .code yX7_digest cX7_digest 3 (some .long) :: ((wsX7_digest_r1 ++ (wsX7_digest_r2 ++ wsX7_digest_r3)) ++ wsX70)
def wsJ9_max_7cf53 : List Cond := .code yJ9_max_7cf53 cJ9_max_7cf53 2 (some .int) :: ([])
abbrev vwCl : List vw_C := [(RX0, TX0, 6), (RX1, TX1, 15), (RX2, TX2, 1), (RX3, TX3, 3), (RX4, TX4, 1), (RX5, TX5, 9), (RX6, TX6, 8), (RX7, TX7, 18)]
end
section
theorem dJ7_rangeCheck_23922_0 : decode cJ7_rangeCheck_23922 0 = .ok (.iload_n 1, 1) := by decide +kernel
theorem dJ7_rangeCheck_23922_1 : decode cJ7_rangeCheck_23922 1 = .ok (.iload_n 2, 1) := by decide +kernel
theorem dJ7_rangeCheck_23922_2 : decode cJ7_rangeCheck_23922 2 = .ok (.if_icmp .le 44, 3) := by decide +kernel
theorem dJ7_rangeCheck_23922_5 : decode cJ7_rangeCheck_23922 5 = .ok (.new 43, 3) := by decide +kernel
theorem dJ7_rangeCheck_23922_8 : decode cJ7_rangeCheck_23922 8 = .ok (.dup, 1) := by decide +kernel
theorem dJ7_rangeCheck_23922_9 : decode cJ7_rangeCheck_23922 9 = .ok (.new 45, 3) := by decide +kernel
theorem dJ7_rangeCheck_23922_12 : decode cJ7_rangeCheck_23922 12 = .ok (.dup, 1) := by decide +kernel
theorem dJ7_rangeCheck_23922_13 : decode cJ7_rangeCheck_23922 13 = .ok (.invokespecial 47, 3) := by decide +kernel
theorem dJ7_rangeCheck_23922_16 : decode cJ7_rangeCheck_23922 16 = .ok (.ldc 48, 2) := by decide +kernel
theorem dJ7_rangeCheck_23922_18 : decode cJ7_rangeCheck_23922 18 = .ok (.invokevirtual 50, 3) := by decide +kernel
theorem dJ7_rangeCheck_23922_21 : decode cJ7_rangeCheck_23922 21 = .ok (.iload_n 1, 1) := by decide +kernel
theorem dJ7_rangeCheck_23922_22 : decode cJ7_rangeCheck_23922 22 = .ok (.invokevirtual 54, 3) := by decide +kernel
theorem dJ7_rangeCheck_23922_25 : decode cJ7_rangeCheck_23922 25 = .ok (.ldc 57, 2) := by decide +kernel
theorem dJ7_rangeCheck_23922_27 : decode cJ7_rangeCheck_23922 27 = .ok (.invokevirtual 50, 3) := by decide +kernel
theorem dJ7_rangeCheck_23922_30 : decode cJ7_rangeCheck_23922 30 = .ok (.iload_n 2, 1) := by decide +kernel
theorem dJ7_rangeCheck_23922_31 : decode cJ7_rangeCheck_23922 31 = .ok (.invokevirtual 54, 3) := by decide +kernel
theorem dJ7_rangeCheck_23922_34 : decode cJ7_rangeCheck_23922 34 = .ok (.ldc 59, 2) := by decide +kernel
theorem dJ7_rangeCheck_23922_36 : decode cJ7_rangeCheck_23922 36 = .ok (.invokevirtual 50, 3) := by decide +kernel
theorem dJ7_rangeCheck_23922_39 : decode cJ7_rangeCheck_23922 39 = .ok (.invokevirtual 61, 3) := by decide +kernel
theorem dJ7_rangeCheck_23922_42 : decode cJ7_rangeCheck_23922 42 = .ok (.invokespecial 65, 3) := by decide +kernel
theorem dJ7_rangeCheck_23922_45 : decode cJ7_rangeCheck_23922 45 = .ok (.athrow, 1) := by decide +kernel
theorem dJ7_rangeCheck_23922_46 : decode cJ7_rangeCheck_23922 46 = .ok (.iload_n 1, 1) := by decide +kernel
theorem dJ7_rangeCheck_23922_47 : decode cJ7_rangeCheck_23922 47 = .ok (.ifCond .ge 12, 3) := by decide +kernel
theorem dJ7_rangeCheck_23922_50 : decode cJ7_rangeCheck_23922 50 = .ok (.new 68, 3) := by decide +kernel
theorem dJ7_rangeCheck_23922_53 : decode cJ7_rangeCheck_23922 53 = .ok (.dup, 1) := by decide +kernel
theorem dJ7_rangeCheck_23922_54 : decode cJ7_rangeCheck_23922 54 = .ok (.iload_n 1, 1) := by decide +kernel
theorem dJ7_rangeCheck_23922_55 : decode cJ7_rangeCheck_23922 55 = .ok (.invokespecial 70, 3) := by decide +kernel
theorem dJ7_rangeCheck_23922_58 : decode cJ7_rangeCheck_23922 58 = .ok (.athrow, 1) := by decide +kernel
theorem dJ7_rangeCheck_23922_59 : decode cJ7_rangeCheck_23922 59 = .ok (.iload_n 2, 1) := by decide +kernel
theorem dJ7_rangeCheck_23922_60 : decode cJ7_rangeCheck_23922 60 = .ok (.iload_n 0, 1) := by decide +kernel
theorem dJ7_rangeCheck_23922_61 : decode cJ7_rangeCheck_23922 61 = .ok (.if_icmp .le 12, 3) := by decide +kernel
theorem dJ7_rangeCheck_23922_64 : decode cJ7_rangeCheck_23922 64 = .ok (.new 68, 3) := by decide +kernel
theorem dJ7_rangeCheck_23922_67 : decode cJ7_rangeCheck_23922 67 = .ok (.dup, 1) := by decide +kernel
theorem dJ7_rangeCheck_23922_68 : decode cJ7_rangeCheck_23922 68 = .ok (.iload_n 2, 1) := by decide +kernel
theorem dJ7_rangeCheck_23922_69 : decode cJ7_rangeCheck_23922 69 = .ok (.invokespecial 70, 3) := by decide +kernel
theorem dJ7_rangeCheck_23922_72 : decode cJ7_rangeCheck_23922 72 = .ok (.athrow, 1) := by decide +kernel
theorem dJ7_rangeCheck_23922_73 : decode cJ7_rangeCheck_23922 73 = .ok (.return_, 1) := by decide +kernel
theorem dJ7_fill_53178_0 : decode cJ7_fill_53178 0 = .ok (.iconst 0, 1) := by decide +kernel
theorem dJ7_fill_53178_1 : decode cJ7_fill_53178 1 = .ok (.istore_n 2, 1) := by decide +kernel
theorem dJ7_fill_53178_2 : decode cJ7_fill_53178 2 = .ok (.aload_n 0, 1) := by decide +kernel
theorem dJ7_fill_53178_3 : decode cJ7_fill_53178 3 = .ok (.arraylength, 1) := by decide +kernel
theorem dJ7_fill_53178_4 : decode cJ7_fill_53178 4 = .ok (.istore_n 3, 1) := by decide +kernel
theorem dJ7_fill_53178_5 : decode cJ7_fill_53178 5 = .ok (.iload_n 2, 1) := by decide +kernel
theorem dJ7_fill_53178_6 : decode cJ7_fill_53178 6 = .ok (.iload_n 3, 1) := by decide +kernel
theorem dJ7_fill_53178_7 : decode cJ7_fill_53178 7 = .ok (.if_icmp .ge 13, 3) := by decide +kernel
theorem dJ7_fill_53178_10 : decode cJ7_fill_53178 10 = .ok (.aload_n 0, 1) := by decide +kernel
theorem dJ7_fill_53178_11 : decode cJ7_fill_53178 11 = .ok (.iload_n 2, 1) := by decide +kernel
theorem dJ7_fill_53178_12 : decode cJ7_fill_53178 12 = .ok (.iload_n 1, 1) := by decide +kernel
theorem dJ7_fill_53178_13 : decode cJ7_fill_53178 13 = .ok (.iastore, 1) := by decide +kernel
theorem dJ7_fill_53178_14 : decode cJ7_fill_53178 14 = .ok (.iinc 2 1, 3) := by decide +kernel
theorem dJ7_fill_53178_17 : decode cJ7_fill_53178 17 = .ok (.goto (-12), 3) := by decide +kernel
theorem dJ7_fill_53178_20 : decode cJ7_fill_53178 20 = .ok (.return_, 1) := by decide +kernel
theorem dJ7_fill_fda19_0 : decode cJ7_fill_fda19 0 = .ok (.aload_n 0, 1) := by decide +kernel
theorem dJ7_fill_fda19_1 : decode cJ7_fill_fda19 1 = .ok (.arraylength, 1) := by decide +kernel
theorem dJ7_fill_fda19_2 : decode cJ7_fill_fda19 2 = .ok (.iload_n 1, 1) := by decide +kernel
theorem dJ7_fill_fda19_3 : decode cJ7_fill_fda19 3 = .ok (.iload_n 2, 1) := by decide +kernel
theorem dJ7_fill_fda19_4 : decode cJ7_fill_fda19 4 = .ok (.invokestatic 13, 3) := by decide +kernel
theorem dJ7_fill_fda19_7 : decode cJ7_fill_fda19 7 = .ok (.iload_n 1, 1) := by decide +kernel
theorem dJ7_fill_fda19_8 : decode cJ7_fill_fda19 8 = .ok (.istore 4, 2) := by decide +kernel
theorem dJ7_fill_fda19_10 : decode cJ7_fill_fda19 10 = .ok (.iload 4, 2) := by decide +kernel
theorem dJ7_fill_fda19_12 : decode cJ7_fill_fda19 12 = .ok (.iload_n 2, 1) := by decide +kernel
theorem dJ7_fill_fda19_13 : decode cJ7_fill_fda19 13 = .ok (.if_icmp .ge 14, 3) := by decide +kernel
theorem dJ7_fill_fda19_16 : decode cJ7_fill_fda19 16 = .ok (.aload_n 0, 1) := by decide +kernel
theorem dJ7_fill_fda19_17 : decode cJ7_fill_fda19 17 = .ok (.iload 4, 2) := by decide +kernel
theorem dJ7_fill_fda19_19 : decode cJ7_fill_fda19 19 = .ok (.iload_n 3, 1) := by decide +kernel
theorem dJ7_fill_fda19_20 : decode cJ7_fill_fda19 20 = .ok (.iastore, 1) := by decide +kernel
theorem dJ7_fill_fda19_21 : decode cJ7_fill_fda19 21 = .ok (.iinc 4 1, 3) := by decide +kernel
theorem dJ7_fill_fda19_24 : decode cJ7_fill_fda19 24 = .ok (.goto (-14), 3) := by decide +kernel
theorem dJ7_fill_fda19_27 : decode cJ7_fill_fda19 27 = .ok (.return_, 1) := by decide +kernel
theorem dJ9_max_7cf53_0 : decode cJ9_max_7cf53 0 = .ok (.iload_n 0, 1) := by decide +kernel
theorem dJ9_max_7cf53_1 : decode cJ9_max_7cf53 1 = .ok (.iload_n 1, 1) := by decide +kernel
theorem dJ9_max_7cf53_2 : decode cJ9_max_7cf53 2 = .ok (.if_icmp .lt 7, 3) := by decide +kernel
theorem dJ9_max_7cf53_5 : decode cJ9_max_7cf53 5 = .ok (.iload_n 0, 1) := by decide +kernel
theorem dJ9_max_7cf53_6 : decode cJ9_max_7cf53 6 = .ok (.goto 4, 3) := by decide +kernel
theorem dJ9_max_7cf53_9 : decode cJ9_max_7cf53 9 = .ok (.iload_n 1, 1) := by decide +kernel
theorem dJ9_max_7cf53_10 : decode cJ9_max_7cf53 10 = .ok (.ireturn, 1) := by decide +kernel
set_option maxRecDepth 20000 in
theorem ggJ7_fill_fda19_J7_rangeCheck_23922 : GoodIn wsJ7_fill_fda19 wsJ7_rangeCheck_23922 := goodIn_r _ [4] (by decide +kernel) (by decide +kernel)
set_option maxRecDepth 20000 in
theorem gJ7_fill_fda19_J7_rangeCheck_23922 : GoodIn wsJ7_fill_fda19 (va_wsS RJ7 13 yJ7_rangeCheck_23922 wsJ7_rangeCheck_23922) := goodIn_app (goodIn_of _ (by decide +kernel)) ggJ7_fill_fda19_J7_rangeCheck_23922
set_option maxRecDepth 20000 in
theorem ggX0_mark_X0_begin : GoodIn wsX0_mark wsX0_begin := goodIn_r _ [9, 10, 11, 12, 13, 4, 64, 65, 66, 67, 68, 69] (by decide +kernel) (by decide +kernel)
set_option maxRecDepth 20000 in
theorem gX0_mark_X0_begin : GoodIn wsX0_mark (wsV RX0 19 RX0 yX0_begin wsX0_begin) := goodIn_app (goodIn_of _ (by decide +kernel)) ggX0_mark_X0_begin
set_option maxRecDepth 20000 in
theorem ggX0_mark_X1_objectAt : GoodIn wsX0_mark wsX1_objectAt := goodIn_r _ [18, 19, 20, 21, 22, 17, 23, 24, 49, 50, 51, 52, 53, 54, 55, 56, 57, 58, 59, 60, 61, 62, 63] (by decide +kernel) (by decide +kernel)
set_option maxRecDepth 20000 in
theorem gX0_mark_X1_objectAt : GoodIn wsX0_mark (wsV RX0 27 RX1 yX1_objectAt wsX1_objectAt) := goodIn_app (goodIn_of _ (by decide +kernel)) ggX0_mark_X1_objectAt
set_option maxRecDepth 20000 in
theorem ggX0_mark_X0_visit : GoodIn wsX0_mark wsX0_visit := goodIn_r _ [28, 10, 11, 4, 29, 12, 64, 65, 66, 67, 68, 69] (by decide +kernel) (by decide +kernel)
set_option maxRecDepth 20000 in
theorem gX0_mark_X0_visit : GoodIn wsX0_mark (wsV RX0 35 RX0 yX0_visit wsX0_visit) := goodIn_app (goodIn_of _ (by decide +kernel)) ggX0_mark_X0_visit
set_option maxRecDepth 20000 in
theorem ggX0_mark_X0_drain : GoodIn wsX0_mark wsX0_drain := goodIn_r _ [33, 11, 29, 34, 35, 2, 14, 15, 16, 17, 18, 19, 20, 21, 22, 23, 24, 25, 26, 27, 8, 28, 10, 4, 12, 64, 65, 66, 67, 68, 69, 49, 50, 51, 52, 53, 54, 55, 56, 57, 58, 59, 60, 61, 62, 63] (by decide +kernel) (by decide +kernel)
set_option maxRecDepth 20000 in
theorem gX0_mark_X0_drain : GoodIn wsX0_mark (wsV RX0 39 RX0 yX0_drain wsX0_drain) := goodIn_app (goodIn_of _ (by decide +kernel)) ggX0_mark_X0_drain
set_option maxRecDepth 20000 in
theorem ggX0_mark_X1_isPinned : GoodIn wsX0_mark wsX1_isPinned := goodIn_r _ [39, 40, 41, 42, 43, 17, 44, 19, 20, 21, 22, 23, 24, 49, 50, 51, 52, 53, 54, 55, 56, 57, 58, 59, 60, 61, 62, 63] (by decide +kernel) (by decide +kernel)
set_option maxRecDepth 20000 in
theorem gX0_mark_X1_isPinned : GoodIn wsX0_mark (wsV RX0 46 RX1 yX1_isPinned wsX1_isPinned) := goodIn_app (goodIn_of _ (by decide +kernel)) ggX0_mark_X1_isPinned
set_option maxRecDepth 20000 in
theorem ggX0_mark_X0_scan : GoodIn wsX0_mark wsX0_scan := goodIn_r _ [48, 4, 13, 3, 10, 34, 35, 2, 14, 15, 16, 17, 18, 19, 20, 21, 22, 23, 24, 25, 26, 27, 8, 28, 11, 29, 12, 30, 31, 32, 33, 64, 65, 66, 67, 68, 69, 49, 50, 51, 52, 53, 54, 55, 56, 57, 58, 59, 60, 61, 62, 63] (by decide +kernel) (by decide +kernel)
set_option maxRecDepth 20000 in
theorem gX0_mark_X0_scan : GoodIn wsX0_mark (wsV RX0 54 RX0 yX0_scan wsX0_scan) := goodIn_app (goodIn_of _ (by decide +kernel)) ggX0_mark_X0_scan
set_option maxRecDepth 20000 in
theorem ggX0_drain_X1_objectAt : GoodIn wsX0_drain wsX1_objectAt := goodIn_r _ [10, 11, 12, 13, 14, 9, 15, 16, 31, 32, 33, 34, 35, 36, 37, 38, 39, 40, 41, 42, 43, 44, 45] (by decide +kernel) (by decide +kernel)
set_option maxRecDepth 20000 in
theorem gX0_drain_X1_objectAt : GoodIn wsX0_drain (wsV RX0 27 RX1 yX1_objectAt wsX1_objectAt) := goodIn_app (goodIn_of _ (by decide +kernel)) ggX0_drain_X1_objectAt
set_option maxRecDepth 20000 in
theorem ggX0_drain_X0_visit : GoodIn wsX0_drain wsX0_visit := goodIn_r _ [21, 22, 1, 23, 2, 24, 25, 26, 27, 28, 29, 30] (by decide +kernel) (by decide +kernel)
set_option maxRecDepth 20000 in
theorem gX0_drain_X0_visit : GoodIn wsX0_drain (wsV RX0 35 RX0 yX0_visit wsX0_visit) := goodIn_app (goodIn_of _ (by decide +kernel)) ggX0_drain_X0_visit
set_option maxRecDepth 20000 in
theorem ggX0_scan_X1_objectAt : GoodIn wsX0_scan wsX1_objectAt := goodIn_r _ [12, 13, 14, 15, 16, 11, 17, 18, 37, 38, 39, 40, 41, 42, 43, 44, 45, 46, 47, 48, 49, 50, 51] (by decide +kernel) (by decide +kernel)
set_option maxRecDepth 20000 in
theorem gX0_scan_X1_objectAt : GoodIn wsX0_scan (wsV RX0 27 RX1 yX1_objectAt wsX1_objectAt) := goodIn_app (goodIn_of _ (by decide +kernel)) ggX0_scan_X1_objectAt
set_option maxRecDepth 20000 in
theorem ggX0_scan_X0_visit : GoodIn wsX0_scan wsX0_visit := goodIn_r _ [23, 4, 24, 1, 25, 26, 31, 32, 33, 34, 35, 36] (by decide +kernel) (by decide +kernel)
set_option maxRecDepth 20000 in
theorem gX0_scan_X0_visit : GoodIn wsX0_scan (wsV RX0 35 RX0 yX0_visit wsX0_visit) := goodIn_app (goodIn_of _ (by decide +kernel)) ggX0_scan_X0_visit
set_option maxRecDepth 20000 in
theorem ggX0_scan_X0_drain : GoodIn wsX0_scan wsX0_drain := goodIn_r _ [30, 24, 25, 5, 6, 7, 8, 9, 10, 11, 12, 13, 14, 15, 16, 17, 18, 19, 20, 21, 22, 23, 4, 1, 26, 31, 32, 33, 34, 35, 36, 37, 38, 39, 40, 41, 42, 43, 44, 45, 46, 47, 48, 49, 50, 51] (by decide +kernel) (by decide +kernel)
set_option maxRecDepth 20000 in
theorem gX0_scan_X0_drain : GoodIn wsX0_scan (wsV RX0 39 RX0 yX0_drain wsX0_drain) := goodIn_app (goodIn_of _ (by decide +kernel)) ggX0_scan_X0_drain
set_option maxRecDepth 20000 in
theorem ggX0_plan_J7_fill_53178 : GoodIn wsX0_plan wsJ7_fill_53178 := goodIn_r _ [10] (by decide +kernel) (by decide +kernel)
set_option maxRecDepth 20000 in
theorem gX0_plan_J7_fill_53178 : GoodIn wsX0_plan (va_wsS RX0 75 yJ7_fill_53178 wsJ7_fill_53178) := goodIn_app (goodIn_of _ (by decide +kernel)) ggX0_plan_J7_fill_53178
set_option maxRecDepth 20000 in
theorem ggX0_plan_X1_isPinned : GoodIn wsX0_plan wsX1_isPinned := goodIn_r _ [15, 16, 17, 18, 19, 14, 20, 21, 22, 23, 24, 25, 26, 38, 39, 40, 41, 42, 43, 44, 45, 46, 47, 48, 49, 50, 51, 52] (by decide +kernel) (by decide +kernel)
set_option maxRecDepth 20000 in
theorem gX0_plan_X1_isPinned : GoodIn wsX0_plan (wsV RX0 46 RX1 yX1_isPinned wsX1_isPinned) := goodIn_app (goodIn_of _ (by decide +kernel)) ggX0_plan_X1_isPinned
set_option maxRecDepth 20000 in
theorem ggX0_plan_X0_planObject : GoodIn wsX0_plan wsX0_planObject := goodIn_r _ [31, 1, 2, 32, 33, 34, 14, 35, 36, 37, 38, 39, 40, 41, 42, 43, 44, 45, 46, 47, 48, 49, 50, 51, 52] (by decide +kernel) (by decide +kernel)
set_option maxRecDepth 20000 in
theorem gX0_plan_X0_planObject : GoodIn wsX0_plan (wsV RX0 84 RX0 yX0_planObject wsX0_planObject) := goodIn_app (goodIn_of _ (by decide +kernel)) ggX0_plan_X0_planObject
set_option maxRecDepth 20000 in
theorem ggX0_plan_X1_sizeOf : GoodIn wsX0_plan wsX1_sizeOf := goodIn_r _ [35, 36, 37, 38, 39, 40, 41, 42, 43, 44, 45, 46, 47, 48, 49, 50, 51, 52] (by decide +kernel) (by decide +kernel)
set_option maxRecDepth 20000 in
theorem gX0_plan_X1_sizeOf : GoodIn wsX0_plan (wsV RX0 88 RX1 yX1_sizeOf wsX1_sizeOf) := goodIn_app (goodIn_of _ (by decide +kernel)) ggX0_plan_X1_sizeOf
set_option maxRecDepth 20000 in
theorem ggX0_planObject_X1_sizeOf : GoodIn wsX0_planObject wsX1_sizeOf := goodIn_r _ [7, 8, 9, 10, 11, 12, 13, 14, 15, 16, 17, 18, 19, 20, 21, 22, 23, 24] (by decide +kernel) (by decide +kernel)
set_option maxRecDepth 20000 in
theorem gX0_planObject_X1_sizeOf : GoodIn wsX0_planObject (wsV RX0 88 RX1 yX1_sizeOf wsX1_sizeOf) := goodIn_app (goodIn_of _ (by decide +kernel)) ggX0_planObject_X1_sizeOf
set_option maxRecDepth 20000 in
theorem ggX0_redirect_X0_redirectRow : GoodIn wsX0_redirect wsX0_redirectRow := goodIn_r _ [11, 12, 13, 14, 15, 16, 17, 18, 19, 20, 21, 22, 23, 24, 25, 26, 27, 28, 29, 30, 31, 32, 33] (by decide +kernel) (by decide +kernel)
set_option maxRecDepth 20000 in
theorem gX0_redirect_X0_redirectRow : GoodIn wsX0_redirect (wsV RX0 91 RX0 yX0_redirectRow wsX0_redirectRow) := goodIn_app (goodIn_of _ (by decide +kernel)) ggX0_redirect_X0_redirectRow
set_option maxRecDepth 20000 in
theorem ggX0_redirectRow_X1_isAddress : GoodIn wsX0_redirectRow wsX1_isAddress := goodIn_r _ [6, 7, 8, 9, 10, 11, 12, 13, 14, 15, 16, 17, 18, 19, 20, 21, 22] (by decide +kernel) (by decide +kernel)
set_option maxRecDepth 20000 in
theorem gX0_redirectRow_X1_isAddress : GoodIn wsX0_redirectRow (wsV RX0 98 RX1 yX1_isAddress wsX1_isAddress) := goodIn_app (goodIn_of _ (by decide +kernel)) ggX0_redirectRow_X1_isAddress
set_option maxRecDepth 20000 in
theorem ggX0_slide_J7_fill_53178 : GoodIn wsX0_slide wsJ7_fill_53178 := goodIn_r _ [8] (by decide +kernel) (by decide +kernel)
set_option maxRecDepth 20000 in
theorem gX0_slide_J7_fill_53178 : GoodIn wsX0_slide (va_wsS RX0 75 yJ7_fill_53178 wsJ7_fill_53178) := goodIn_app (goodIn_of _ (by decide +kernel)) ggX0_slide_J7_fill_53178
set_option maxRecDepth 20000 in
theorem ggX0_slide_X1_isAddress : GoodIn wsX0_slide wsX1_isAddress := goodIn_r _ [13, 14, 43, 44, 45, 46, 47, 48, 49, 50, 51, 52, 53, 54, 55, 56, 57] (by decide +kernel) (by decide +kernel)
set_option maxRecDepth 20000 in
theorem gX0_slide_X1_isAddress : GoodIn wsX0_slide (wsV RX0 98 RX1 yX1_isAddress wsX1_isAddress) := goodIn_app (goodIn_of _ (by decide +kernel)) ggX0_slide_X1_isAddress
set_option maxRecDepth 20000 in
theorem ggX0_slide_X1_shift : GoodIn wsX0_slide wsX1_shift := goodIn_r _ [18, 19, 20, 21, 22, 23, 24, 25, 26, 27, 28, 29, 30, 12, 31, 32, 33, 34, 35, 36, 37, 38, 7, 39, 40, 41, 42, 43, 44, 45, 46, 47, 48, 49, 50, 51, 52, 53, 54, 55, 56, 57] (by decide +kernel) (by decide +kernel)
set_option maxRecDepth 20000 in
theorem gX0_slide_X1_shift : GoodIn wsX0_slide (wsV RX0 104 RX1 yX1_shift wsX1_shift) := goodIn_app (goodIn_of _ (by decide +kernel)) ggX0_slide_X1_shift
theorem dX0_init_0 : decode cX0_init 0 = .ok (.aload_n 0, 1) := by decide +kernel
theorem dX0_init_1 : decode cX0_init 1 = .ok (.invokespecial 3, 3) := by decide +kernel
theorem dX0_init_4 : decode cX0_init 4 = .ok (.aload_n 0, 1) := by decide +kernel
theorem dX0_init_5 : decode cX0_init 5 = .ok (.sipush 200, 3) := by decide +kernel
theorem dX0_init_8 : decode cX0_init 8 = .ok (.newarray .boolean, 2) := by decide +kernel
theorem dX0_init_10 : decode cX0_init 10 = .ok (.putfield 9, 3) := by decide +kernel
theorem dX0_init_13 : decode cX0_init 13 = .ok (.aload_n 0, 1) := by decide +kernel
theorem dX0_init_14 : decode cX0_init 14 = .ok (.bipush 20, 2) := by decide +kernel
theorem dX0_init_16 : decode cX0_init 16 = .ok (.newarray .int, 2) := by decide +kernel
theorem dX0_init_18 : decode cX0_init 18 = .ok (.putfield 15, 3) := by decide +kernel
theorem dX0_init_21 : decode cX0_init 21 = .ok (.return_, 1) := by decide +kernel
theorem dX0_mark_0 : decode cX0_mark 0 = .ok (.aload_n 0, 1) := by decide +kernel
theorem dX0_mark_1 : decode cX0_mark 1 = .ok (.invokevirtual 19, 3) := by decide +kernel
theorem dX0_mark_4 : decode cX0_mark 4 = .ok (.iconst 0, 1) := by decide +kernel
theorem dX0_mark_5 : decode cX0_mark 5 = .ok (.istore_n 2, 1) := by decide +kernel
theorem dX0_mark_6 : decode cX0_mark 6 = .ok (.iload_n 2, 1) := by decide +kernel
theorem dX0_mark_7 : decode cX0_mark 7 = .ok (.bipush 6, 2) := by decide +kernel
theorem dX0_mark_9 : decode cX0_mark 9 = .ok (.if_icmp .ge 32, 3) := by decide +kernel
theorem dX0_mark_12 : decode cX0_mark 12 = .ok (.aload_n 0, 1) := by decide +kernel
theorem dX0_mark_13 : decode cX0_mark 13 = .ok (.aload_n 1, 1) := by decide +kernel
theorem dX0_mark_14 : decode cX0_mark 14 = .ok (.aload_n 1, 1) := by decide +kernel
theorem dX0_mark_15 : decode cX0_mark 15 = .ok (.getfield 22, 3) := by decide +kernel
theorem dX0_mark_18 : decode cX0_mark 18 = .ok (.iload_n 2, 1) := by decide +kernel
theorem dX0_mark_19 : decode cX0_mark 19 = .ok (.iaload, 1) := by decide +kernel
theorem dX0_mark_20 : decode cX0_mark 20 = .ok (.invokevirtual 27, 3) := by decide +kernel
theorem dX0_mark_23 : decode cX0_mark 23 = .ok (.aload_n 1, 1) := by decide +kernel
theorem dX0_mark_24 : decode cX0_mark 24 = .ok (.getfield 31, 3) := by decide +kernel
theorem dX0_mark_27 : decode cX0_mark 27 = .ok (.invokevirtual 35, 3) := by decide +kernel
theorem dX0_mark_30 : decode cX0_mark 30 = .ok (.aload_n 0, 1) := by decide +kernel
theorem dX0_mark_31 : decode cX0_mark 31 = .ok (.aload_n 1, 1) := by decide +kernel
theorem dX0_mark_32 : decode cX0_mark 32 = .ok (.invokevirtual 39, 3) := by decide +kernel
theorem dX0_mark_35 : decode cX0_mark 35 = .ok (.iinc 2 1, 3) := by decide +kernel
theorem dX0_mark_38 : decode cX0_mark 38 = .ok (.goto (-32), 3) := by decide +kernel
theorem dX0_mark_41 : decode cX0_mark 41 = .ok (.iconst 0, 1) := by decide +kernel
theorem dX0_mark_42 : decode cX0_mark 42 = .ok (.istore_n 2, 1) := by decide +kernel
theorem dX0_mark_43 : decode cX0_mark 43 = .ok (.iload_n 2, 1) := by decide +kernel
theorem dX0_mark_44 : decode cX0_mark 44 = .ok (.aload_n 1, 1) := by decide +kernel
theorem dX0_mark_45 : decode cX0_mark 45 = .ok (.getfield 43, 3) := by decide +kernel
theorem dX0_mark_48 : decode cX0_mark 48 = .ok (.if_icmp .ge 31, 3) := by decide +kernel
theorem dX0_mark_51 : decode cX0_mark 51 = .ok (.aload_n 1, 1) := by decide +kernel
theorem dX0_mark_52 : decode cX0_mark 52 = .ok (.iload_n 2, 1) := by decide +kernel
theorem dX0_mark_53 : decode cX0_mark 53 = .ok (.invokevirtual 46, 3) := by decide +kernel
theorem dX0_mark_56 : decode cX0_mark 56 = .ok (.ifCond .eq 17, 3) := by decide +kernel
theorem dX0_mark_59 : decode cX0_mark 59 = .ok (.aload_n 0, 1) := by decide +kernel
theorem dX0_mark_60 : decode cX0_mark 60 = .ok (.iload_n 2, 1) := by decide +kernel
theorem dX0_mark_61 : decode cX0_mark 61 = .ok (.aload_n 1, 1) := by decide +kernel
theorem dX0_mark_62 : decode cX0_mark 62 = .ok (.getfield 31, 3) := by decide +kernel
theorem dX0_mark_65 : decode cX0_mark 65 = .ok (.invokevirtual 35, 3) := by decide +kernel
theorem dX0_mark_68 : decode cX0_mark 68 = .ok (.aload_n 0, 1) := by decide +kernel
theorem dX0_mark_69 : decode cX0_mark 69 = .ok (.aload_n 1, 1) := by decide +kernel
theorem dX0_mark_70 : decode cX0_mark 70 = .ok (.invokevirtual 39, 3) := by decide +kernel
theorem dX0_mark_73 : decode cX0_mark 73 = .ok (.iinc 2 1, 3) := by decide +kernel
theorem dX0_mark_76 : decode cX0_mark 76 = .ok (.goto (-33), 3) := by decide +kernel
theorem dX0_mark_79 : decode cX0_mark 79 = .ok (.iconst 0, 1) := by decide +kernel
theorem dX0_mark_80 : decode cX0_mark 80 = .ok (.istore_n 2, 1) := by decide +kernel
theorem dX0_mark_81 : decode cX0_mark 81 = .ok (.iload_n 2, 1) := by decide +kernel
theorem dX0_mark_82 : decode cX0_mark 82 = .ok (.sipush 200, 3) := by decide +kernel
theorem dX0_mark_85 : decode cX0_mark 85 = .ok (.if_icmp .ge 21, 3) := by decide +kernel
theorem dX0_mark_88 : decode cX0_mark 88 = .ok (.aload_n 0, 1) := by decide +kernel
theorem dX0_mark_89 : decode cX0_mark 89 = .ok (.getfield 50, 3) := by decide +kernel
theorem dX0_mark_92 : decode cX0_mark 92 = .ok (.ifCond .eq 14, 3) := by decide +kernel
theorem dX0_mark_95 : decode cX0_mark 95 = .ok (.aload_n 0, 1) := by decide +kernel
theorem dX0_mark_96 : decode cX0_mark 96 = .ok (.aload_n 1, 1) := by decide +kernel
theorem dX0_mark_97 : decode cX0_mark 97 = .ok (.invokevirtual 54, 3) := by decide +kernel
theorem dX0_mark_100 : decode cX0_mark 100 = .ok (.iinc 2 1, 3) := by decide +kernel
theorem dX0_mark_103 : decode cX0_mark 103 = .ok (.goto (-22), 3) := by decide +kernel
theorem dX0_mark_106 : decode cX0_mark 106 = .ok (.return_, 1) := by decide +kernel
theorem dX0_begin_0 : decode cX0_begin 0 = .ok (.iconst 0, 1) := by decide +kernel
theorem dX0_begin_1 : decode cX0_begin 1 = .ok (.istore_n 1, 1) := by decide +kernel
theorem dX0_begin_2 : decode cX0_begin 2 = .ok (.iload_n 1, 1) := by decide +kernel
theorem dX0_begin_3 : decode cX0_begin 3 = .ok (.sipush 200, 3) := by decide +kernel
theorem dX0_begin_6 : decode cX0_begin 6 = .ok (.if_icmp .ge 16, 3) := by decide +kernel
theorem dX0_begin_9 : decode cX0_begin 9 = .ok (.aload_n 0, 1) := by decide +kernel
theorem dX0_begin_10 : decode cX0_begin 10 = .ok (.getfield 9, 3) := by decide +kernel
theorem dX0_begin_13 : decode cX0_begin 13 = .ok (.iload_n 1, 1) := by decide +kernel
theorem dX0_begin_14 : decode cX0_begin 14 = .ok (.iconst 0, 1) := by decide +kernel
theorem dX0_begin_15 : decode cX0_begin 15 = .ok (.bastore, 1) := by decide +kernel
theorem dX0_begin_16 : decode cX0_begin 16 = .ok (.iinc 1 1, 3) := by decide +kernel
theorem dX0_begin_19 : decode cX0_begin 19 = .ok (.goto (-17), 3) := by decide +kernel
theorem dX0_begin_22 : decode cX0_begin 22 = .ok (.aload_n 0, 1) := by decide +kernel
theorem dX0_begin_23 : decode cX0_begin 23 = .ok (.iconst 0, 1) := by decide +kernel
theorem dX0_begin_24 : decode cX0_begin 24 = .ok (.putfield 57, 3) := by decide +kernel
theorem dX0_begin_27 : decode cX0_begin 27 = .ok (.aload_n 0, 1) := by decide +kernel
theorem dX0_begin_28 : decode cX0_begin 28 = .ok (.iconst 0, 1) := by decide +kernel
theorem dX0_begin_29 : decode cX0_begin 29 = .ok (.putfield 60, 3) := by decide +kernel
theorem dX0_begin_32 : decode cX0_begin 32 = .ok (.aload_n 0, 1) := by decide +kernel
theorem dX0_begin_33 : decode cX0_begin 33 = .ok (.iconst 0, 1) := by decide +kernel
theorem dX0_begin_34 : decode cX0_begin 34 = .ok (.putfield 63, 3) := by decide +kernel
theorem dX0_begin_37 : decode cX0_begin 37 = .ok (.aload_n 0, 1) := by decide +kernel
theorem dX0_begin_38 : decode cX0_begin 38 = .ok (.iconst 0, 1) := by decide +kernel
theorem dX0_begin_39 : decode cX0_begin 39 = .ok (.putfield 50, 3) := by decide +kernel
theorem dX0_begin_42 : decode cX0_begin 42 = .ok (.return_, 1) := by decide +kernel
theorem dX0_visit_0 : decode cX0_visit 0 = .ok (.iload_n 1, 1) := by decide +kernel
theorem dX0_visit_1 : decode cX0_visit 1 = .ok (.iconst (-1), 1) := by decide +kernel
theorem dX0_visit_2 : decode cX0_visit 2 = .ok (.if_icmp .eq 12, 3) := by decide +kernel
theorem dX0_visit_5 : decode cX0_visit 5 = .ok (.aload_n 0, 1) := by decide +kernel
theorem dX0_visit_6 : decode cX0_visit 6 = .ok (.getfield 9, 3) := by decide +kernel
theorem dX0_visit_9 : decode cX0_visit 9 = .ok (.iload_n 1, 1) := by decide +kernel
theorem dX0_visit_10 : decode cX0_visit 10 = .ok (.baload, 1) := by decide +kernel
theorem dX0_visit_11 : decode cX0_visit 11 = .ok (.ifCond .eq 4, 3) := by decide +kernel
theorem dX0_visit_14 : decode cX0_visit 14 = .ok (.return_, 1) := by decide +kernel
theorem dX0_visit_15 : decode cX0_visit 15 = .ok (.aload_n 0, 1) := by decide +kernel
theorem dX0_visit_16 : decode cX0_visit 16 = .ok (.getfield 9, 3) := by decide +kernel
theorem dX0_visit_19 : decode cX0_visit 19 = .ok (.iload_n 1, 1) := by decide +kernel
theorem dX0_visit_20 : decode cX0_visit 20 = .ok (.iconst 1, 1) := by decide +kernel
theorem dX0_visit_21 : decode cX0_visit 21 = .ok (.bastore, 1) := by decide +kernel
theorem dX0_visit_22 : decode cX0_visit 22 = .ok (.aload_n 0, 1) := by decide +kernel
theorem dX0_visit_23 : decode cX0_visit 23 = .ok (.getfield 57, 3) := by decide +kernel
theorem dX0_visit_26 : decode cX0_visit 26 = .ok (.iload_n 2, 1) := by decide +kernel
theorem dX0_visit_27 : decode cX0_visit 27 = .ok (.if_icmp .ge 12, 3) := by decide +kernel
theorem dX0_visit_30 : decode cX0_visit 30 = .ok (.aload_n 0, 1) := by decide +kernel
theorem dX0_visit_31 : decode cX0_visit 31 = .ok (.getfield 57, 3) := by decide +kernel
theorem dX0_visit_34 : decode cX0_visit 34 = .ok (.bipush 20, 2) := by decide +kernel
theorem dX0_visit_36 : decode cX0_visit 36 = .ok (.if_icmp .lt 9, 3) := by decide +kernel
theorem dX0_visit_39 : decode cX0_visit 39 = .ok (.aload_n 0, 1) := by decide +kernel
theorem dX0_visit_40 : decode cX0_visit 40 = .ok (.iconst 1, 1) := by decide +kernel
theorem dX0_visit_41 : decode cX0_visit 41 = .ok (.putfield 50, 3) := by decide +kernel
theorem dX0_visit_44 : decode cX0_visit 44 = .ok (.return_, 1) := by decide +kernel
theorem dX0_visit_45 : decode cX0_visit 45 = .ok (.aload_n 0, 1) := by decide +kernel
theorem dX0_visit_46 : decode cX0_visit 46 = .ok (.getfield 15, 3) := by decide +kernel
theorem dX0_visit_49 : decode cX0_visit 49 = .ok (.aload_n 0, 1) := by decide +kernel
theorem dX0_visit_50 : decode cX0_visit 50 = .ok (.getfield 57, 3) := by decide +kernel
theorem dX0_visit_53 : decode cX0_visit 53 = .ok (.iload_n 1, 1) := by decide +kernel
theorem dX0_visit_54 : decode cX0_visit 54 = .ok (.iastore, 1) := by decide +kernel
theorem dX0_visit_55 : decode cX0_visit 55 = .ok (.aload_n 0, 1) := by decide +kernel
theorem dX0_visit_56 : decode cX0_visit 56 = .ok (.dup, 1) := by decide +kernel
theorem dX0_visit_57 : decode cX0_visit 57 = .ok (.getfield 57, 3) := by decide +kernel
theorem dX0_visit_60 : decode cX0_visit 60 = .ok (.iconst 1, 1) := by decide +kernel
theorem dX0_visit_61 : decode cX0_visit 61 = .ok (.iadd, 1) := by decide +kernel
theorem dX0_visit_62 : decode cX0_visit 62 = .ok (.putfield 57, 3) := by decide +kernel
theorem dX0_visit_65 : decode cX0_visit 65 = .ok (.aload_n 0, 1) := by decide +kernel
theorem dX0_visit_66 : decode cX0_visit 66 = .ok (.getfield 57, 3) := by decide +kernel
theorem dX0_visit_69 : decode cX0_visit 69 = .ok (.aload_n 0, 1) := by decide +kernel
theorem dX0_visit_70 : decode cX0_visit 70 = .ok (.getfield 60, 3) := by decide +kernel
theorem dX0_visit_73 : decode cX0_visit 73 = .ok (.if_icmp .le 11, 3) := by decide +kernel
theorem dX0_visit_76 : decode cX0_visit 76 = .ok (.aload_n 0, 1) := by decide +kernel
theorem dX0_visit_77 : decode cX0_visit 77 = .ok (.aload_n 0, 1) := by decide +kernel
theorem dX0_visit_78 : decode cX0_visit 78 = .ok (.getfield 57, 3) := by decide +kernel
theorem dX0_visit_81 : decode cX0_visit 81 = .ok (.putfield 60, 3) := by decide +kernel
theorem dX0_visit_84 : decode cX0_visit 84 = .ok (.return_, 1) := by decide +kernel
theorem dX0_drain_0 : decode cX0_drain 0 = .ok (.iconst 0, 1) := by decide +kernel
theorem dX0_drain_1 : decode cX0_drain 1 = .ok (.istore_n 2, 1) := by decide +kernel
theorem dX0_drain_2 : decode cX0_drain 2 = .ok (.iload_n 2, 1) := by decide +kernel
theorem dX0_drain_3 : decode cX0_drain 3 = .ok (.sipush 200, 3) := by decide +kernel
theorem dX0_drain_6 : decode cX0_drain 6 = .ok (.if_icmp .ge 79, 3) := by decide +kernel
theorem dX0_drain_9 : decode cX0_drain 9 = .ok (.aload_n 0, 1) := by decide +kernel
theorem dX0_drain_10 : decode cX0_drain 10 = .ok (.getfield 57, 3) := by decide +kernel
theorem dX0_drain_13 : decode cX0_drain 13 = .ok (.ifCond .le 72, 3) := by decide +kernel
theorem dX0_drain_16 : decode cX0_drain 16 = .ok (.aload_n 0, 1) := by decide +kernel
theorem dX0_drain_17 : decode cX0_drain 17 = .ok (.dup, 1) := by decide +kernel
theorem dX0_drain_18 : decode cX0_drain 18 = .ok (.getfield 57, 3) := by decide +kernel
theorem dX0_drain_21 : decode cX0_drain 21 = .ok (.iconst 1, 1) := by decide +kernel
theorem dX0_drain_22 : decode cX0_drain 22 = .ok (.isub, 1) := by decide +kernel
theorem dX0_drain_23 : decode cX0_drain 23 = .ok (.putfield 57, 3) := by decide +kernel
theorem dX0_drain_26 : decode cX0_drain 26 = .ok (.aload_n 0, 1) := by decide +kernel
theorem dX0_drain_27 : decode cX0_drain 27 = .ok (.getfield 15, 3) := by decide +kernel
theorem dX0_drain_30 : decode cX0_drain 30 = .ok (.aload_n 0, 1) := by decide +kernel
theorem dX0_drain_31 : decode cX0_drain 31 = .ok (.getfield 57, 3) := by decide +kernel
theorem dX0_drain_34 : decode cX0_drain 34 = .ok (.iaload, 1) := by decide +kernel
theorem dX0_drain_35 : decode cX0_drain 35 = .ok (.istore_n 3, 1) := by decide +kernel
theorem dX0_drain_36 : decode cX0_drain 36 = .ok (.iconst 0, 1) := by decide +kernel
theorem dX0_drain_37 : decode cX0_drain 37 = .ok (.istore 4, 2) := by decide +kernel
theorem dX0_drain_39 : decode cX0_drain 39 = .ok (.iload 4, 2) := by decide +kernel
theorem dX0_drain_41 : decode cX0_drain 41 = .ok (.aload_n 1, 1) := by decide +kernel
theorem dX0_drain_42 : decode cX0_drain 42 = .ok (.getfield 66, 3) := by decide +kernel
theorem dX0_drain_45 : decode cX0_drain 45 = .ok (.iload_n 3, 1) := by decide +kernel
theorem dX0_drain_46 : decode cX0_drain 46 = .ok (.iaload, 1) := by decide +kernel
theorem dX0_drain_47 : decode cX0_drain 47 = .ok (.if_icmp .ge 32, 3) := by decide +kernel
theorem dX0_drain_50 : decode cX0_drain 50 = .ok (.aload_n 0, 1) := by decide +kernel
theorem dX0_drain_51 : decode cX0_drain 51 = .ok (.aload_n 1, 1) := by decide +kernel
theorem dX0_drain_52 : decode cX0_drain 52 = .ok (.aload_n 1, 1) := by decide +kernel
theorem dX0_drain_53 : decode cX0_drain 53 = .ok (.getfield 69, 3) := by decide +kernel
theorem dX0_drain_56 : decode cX0_drain 56 = .ok (.iload_n 3, 1) := by decide +kernel
theorem dX0_drain_57 : decode cX0_drain 57 = .ok (.iconst 1, 1) := by decide +kernel
theorem dX0_drain_58 : decode cX0_drain 58 = .ok (.iadd, 1) := by decide +kernel
theorem dX0_drain_59 : decode cX0_drain 59 = .ok (.iload 4, 2) := by decide +kernel
theorem dX0_drain_61 : decode cX0_drain 61 = .ok (.iadd, 1) := by decide +kernel
theorem dX0_drain_62 : decode cX0_drain 62 = .ok (.iaload, 1) := by decide +kernel
theorem dX0_drain_63 : decode cX0_drain 63 = .ok (.invokevirtual 27, 3) := by decide +kernel
theorem dX0_drain_66 : decode cX0_drain 66 = .ok (.aload_n 1, 1) := by decide +kernel
theorem dX0_drain_67 : decode cX0_drain 67 = .ok (.getfield 31, 3) := by decide +kernel
theorem dX0_drain_70 : decode cX0_drain 70 = .ok (.invokevirtual 35, 3) := by decide +kernel
theorem dX0_drain_73 : decode cX0_drain 73 = .ok (.iinc 4 1, 3) := by decide +kernel
theorem dX0_drain_76 : decode cX0_drain 76 = .ok (.goto (-37), 3) := by decide +kernel
theorem dX0_drain_79 : decode cX0_drain 79 = .ok (.iinc 2 1, 3) := by decide +kernel
theorem dX0_drain_82 : decode cX0_drain 82 = .ok (.goto (-80), 3) := by decide +kernel
theorem dX0_drain_85 : decode cX0_drain 85 = .ok (.return_, 1) := by decide +kernel
theorem dX0_scan_0 : decode cX0_scan 0 = .ok (.aload_n 0, 1) := by decide +kernel
theorem dX0_scan_1 : decode cX0_scan 1 = .ok (.iconst 0, 1) := by decide +kernel
theorem dX0_scan_2 : decode cX0_scan 2 = .ok (.putfield 50, 3) := by decide +kernel
theorem dX0_scan_5 : decode cX0_scan 5 = .ok (.aload_n 0, 1) := by decide +kernel
theorem dX0_scan_6 : decode cX0_scan 6 = .ok (.dup, 1) := by decide +kernel
theorem dX0_scan_7 : decode cX0_scan 7 = .ok (.getfield 63, 3) := by decide +kernel
theorem dX0_scan_10 : decode cX0_scan 10 = .ok (.iconst 1, 1) := by decide +kernel
theorem dX0_scan_11 : decode cX0_scan 11 = .ok (.iadd, 1) := by decide +kernel
theorem dX0_scan_12 : decode cX0_scan 12 = .ok (.putfield 63, 3) := by decide +kernel
theorem dX0_scan_15 : decode cX0_scan 15 = .ok (.iconst 0, 1) := by decide +kernel
theorem dX0_scan_16 : decode cX0_scan 16 = .ok (.istore_n 2, 1) := by decide +kernel
theorem dX0_scan_17 : decode cX0_scan 17 = .ok (.iload_n 2, 1) := by decide +kernel
theorem dX0_scan_18 : decode cX0_scan 18 = .ok (.aload_n 1, 1) := by decide +kernel
theorem dX0_scan_19 : decode cX0_scan 19 = .ok (.getfield 43, 3) := by decide +kernel
theorem dX0_scan_22 : decode cX0_scan 22 = .ok (.if_icmp .ge 63, 3) := by decide +kernel
theorem dX0_scan_25 : decode cX0_scan 25 = .ok (.aload_n 0, 1) := by decide +kernel
theorem dX0_scan_26 : decode cX0_scan 26 = .ok (.getfield 9, 3) := by decide +kernel
theorem dX0_scan_29 : decode cX0_scan 29 = .ok (.iload_n 2, 1) := by decide +kernel
theorem dX0_scan_30 : decode cX0_scan 30 = .ok (.baload, 1) := by decide +kernel
theorem dX0_scan_31 : decode cX0_scan 31 = .ok (.ifCond .eq 48, 3) := by decide +kernel
theorem dX0_scan_34 : decode cX0_scan 34 = .ok (.iconst 0, 1) := by decide +kernel
theorem dX0_scan_35 : decode cX0_scan 35 = .ok (.istore_n 3, 1) := by decide +kernel
theorem dX0_scan_36 : decode cX0_scan 36 = .ok (.iload_n 3, 1) := by decide +kernel
theorem dX0_scan_37 : decode cX0_scan 37 = .ok (.aload_n 1, 1) := by decide +kernel
theorem dX0_scan_38 : decode cX0_scan 38 = .ok (.getfield 66, 3) := by decide +kernel
theorem dX0_scan_41 : decode cX0_scan 41 = .ok (.iload_n 2, 1) := by decide +kernel
theorem dX0_scan_42 : decode cX0_scan 42 = .ok (.iaload, 1) := by decide +kernel
theorem dX0_scan_43 : decode cX0_scan 43 = .ok (.if_icmp .ge 36, 3) := by decide +kernel
theorem dX0_scan_46 : decode cX0_scan 46 = .ok (.aload_n 0, 1) := by decide +kernel
theorem dX0_scan_47 : decode cX0_scan 47 = .ok (.aload_n 1, 1) := by decide +kernel
theorem dX0_scan_48 : decode cX0_scan 48 = .ok (.aload_n 1, 1) := by decide +kernel
theorem dX0_scan_49 : decode cX0_scan 49 = .ok (.getfield 69, 3) := by decide +kernel
theorem dX0_scan_52 : decode cX0_scan 52 = .ok (.iload_n 2, 1) := by decide +kernel
theorem dX0_scan_53 : decode cX0_scan 53 = .ok (.iconst 1, 1) := by decide +kernel
theorem dX0_scan_54 : decode cX0_scan 54 = .ok (.iadd, 1) := by decide +kernel
theorem dX0_scan_55 : decode cX0_scan 55 = .ok (.iload_n 3, 1) := by decide +kernel
theorem dX0_scan_56 : decode cX0_scan 56 = .ok (.iadd, 1) := by decide +kernel
theorem dX0_scan_57 : decode cX0_scan 57 = .ok (.iaload, 1) := by decide +kernel
theorem dX0_scan_58 : decode cX0_scan 58 = .ok (.invokevirtual 27, 3) := by decide +kernel
theorem dX0_scan_61 : decode cX0_scan 61 = .ok (.aload_n 1, 1) := by decide +kernel
theorem dX0_scan_62 : decode cX0_scan 62 = .ok (.getfield 31, 3) := by decide +kernel
theorem dX0_scan_65 : decode cX0_scan 65 = .ok (.invokevirtual 35, 3) := by decide +kernel
theorem dX0_scan_68 : decode cX0_scan 68 = .ok (.aload_n 0, 1) := by decide +kernel
theorem dX0_scan_69 : decode cX0_scan 69 = .ok (.aload_n 1, 1) := by decide +kernel
theorem dX0_scan_70 : decode cX0_scan 70 = .ok (.invokevirtual 39, 3) := by decide +kernel
theorem dX0_scan_73 : decode cX0_scan 73 = .ok (.iinc 3 1, 3) := by decide +kernel
theorem dX0_scan_76 : decode cX0_scan 76 = .ok (.goto (-40), 3) := by decide +kernel
theorem dX0_scan_79 : decode cX0_scan 79 = .ok (.iinc 2 1, 3) := by decide +kernel
theorem dX0_scan_82 : decode cX0_scan 82 = .ok (.goto (-65), 3) := by decide +kernel
theorem dX0_scan_85 : decode cX0_scan 85 = .ok (.return_, 1) := by decide +kernel
theorem dX0_plan_0 : decode cX0_plan 0 = .ok (.aload_n 1, 1) := by decide +kernel
theorem dX0_plan_1 : decode cX0_plan 1 = .ok (.getfield 72, 3) := by decide +kernel
theorem dX0_plan_4 : decode cX0_plan 4 = .ok (.iconst (-1), 1) := by decide +kernel
theorem dX0_plan_5 : decode cX0_plan 5 = .ok (.invokestatic 75, 3) := by decide +kernel
theorem dX0_plan_8 : decode cX0_plan 8 = .ok (.aload_n 1, 1) := by decide +kernel
theorem dX0_plan_9 : decode cX0_plan 9 = .ok (.getfield 81, 3) := by decide +kernel
theorem dX0_plan_12 : decode cX0_plan 12 = .ok (.iconst 0, 1) := by decide +kernel
theorem dX0_plan_13 : decode cX0_plan 13 = .ok (.invokestatic 75, 3) := by decide +kernel
theorem dX0_plan_16 : decode cX0_plan 16 = .ok (.aload_n 1, 1) := by decide +kernel
theorem dX0_plan_17 : decode cX0_plan 17 = .ok (.getfield 81, 3) := by decide +kernel
theorem dX0_plan_20 : decode cX0_plan 20 = .ok (.iconst 2, 1) := by decide +kernel
theorem dX0_plan_21 : decode cX0_plan 21 = .ok (.aload_n 0, 1) := by decide +kernel
theorem dX0_plan_22 : decode cX0_plan 22 = .ok (.getfield 63, 3) := by decide +kernel
theorem dX0_plan_25 : decode cX0_plan 25 = .ok (.iastore, 1) := by decide +kernel
theorem dX0_plan_26 : decode cX0_plan 26 = .ok (.aload_n 1, 1) := by decide +kernel
theorem dX0_plan_27 : decode cX0_plan 27 = .ok (.getfield 81, 3) := by decide +kernel
theorem dX0_plan_30 : decode cX0_plan 30 = .ok (.iconst 3, 1) := by decide +kernel
theorem dX0_plan_31 : decode cX0_plan 31 = .ok (.aload_n 0, 1) := by decide +kernel
theorem dX0_plan_32 : decode cX0_plan 32 = .ok (.getfield 60, 3) := by decide +kernel
theorem dX0_plan_35 : decode cX0_plan 35 = .ok (.iastore, 1) := by decide +kernel
theorem dX0_plan_36 : decode cX0_plan 36 = .ok (.iconst 0, 1) := by decide +kernel
theorem dX0_plan_37 : decode cX0_plan 37 = .ok (.istore_n 2, 1) := by decide +kernel
theorem dX0_plan_38 : decode cX0_plan 38 = .ok (.iconst 0, 1) := by decide +kernel
theorem dX0_plan_39 : decode cX0_plan 39 = .ok (.istore_n 3, 1) := by decide +kernel
theorem dX0_plan_40 : decode cX0_plan 40 = .ok (.iload_n 3, 1) := by decide +kernel
theorem dX0_plan_41 : decode cX0_plan 41 = .ok (.aload_n 1, 1) := by decide +kernel
theorem dX0_plan_42 : decode cX0_plan 42 = .ok (.getfield 43, 3) := by decide +kernel
theorem dX0_plan_45 : decode cX0_plan 45 = .ok (.if_icmp .ge 50, 3) := by decide +kernel
theorem dX0_plan_48 : decode cX0_plan 48 = .ok (.aload_n 0, 1) := by decide +kernel
theorem dX0_plan_49 : decode cX0_plan 49 = .ok (.getfield 9, 3) := by decide +kernel
theorem dX0_plan_52 : decode cX0_plan 52 = .ok (.iload_n 3, 1) := by decide +kernel
theorem dX0_plan_53 : decode cX0_plan 53 = .ok (.baload, 1) := by decide +kernel
theorem dX0_plan_54 : decode cX0_plan 54 = .ok (.ifCond .eq 35, 3) := by decide +kernel
theorem dX0_plan_57 : decode cX0_plan 57 = .ok (.aload_n 1, 1) := by decide +kernel
theorem dX0_plan_58 : decode cX0_plan 58 = .ok (.iload_n 3, 1) := by decide +kernel
theorem dX0_plan_59 : decode cX0_plan 59 = .ok (.invokevirtual 46, 3) := by decide +kernel
theorem dX0_plan_62 : decode cX0_plan 62 = .ok (.ifCond .eq 7, 3) := by decide +kernel
theorem dX0_plan_65 : decode cX0_plan 65 = .ok (.iload_n 3, 1) := by decide +kernel
theorem dX0_plan_66 : decode cX0_plan 66 = .ok (.goto 4, 3) := by decide +kernel
theorem dX0_plan_69 : decode cX0_plan 69 = .ok (.iload_n 2, 1) := by decide +kernel
theorem dX0_plan_70 : decode cX0_plan 70 = .ok (.istore 4, 2) := by decide +kernel
theorem dX0_plan_72 : decode cX0_plan 72 = .ok (.aload_n 0, 1) := by decide +kernel
theorem dX0_plan_73 : decode cX0_plan 73 = .ok (.aload_n 1, 1) := by decide +kernel
theorem dX0_plan_74 : decode cX0_plan 74 = .ok (.iload_n 3, 1) := by decide +kernel
theorem dX0_plan_75 : decode cX0_plan 75 = .ok (.iload 4, 2) := by decide +kernel
theorem dX0_plan_77 : decode cX0_plan 77 = .ok (.invokevirtual 84, 3) := by decide +kernel
theorem dX0_plan_80 : decode cX0_plan 80 = .ok (.iload 4, 2) := by decide +kernel
theorem dX0_plan_82 : decode cX0_plan 82 = .ok (.aload_n 1, 1) := by decide +kernel
theorem dX0_plan_83 : decode cX0_plan 83 = .ok (.iload_n 3, 1) := by decide +kernel
theorem dX0_plan_84 : decode cX0_plan 84 = .ok (.invokevirtual 88, 3) := by decide +kernel
theorem dX0_plan_87 : decode cX0_plan 87 = .ok (.iadd, 1) := by decide +kernel
theorem dX0_plan_88 : decode cX0_plan 88 = .ok (.istore_n 2, 1) := by decide +kernel
theorem dX0_plan_89 : decode cX0_plan 89 = .ok (.iinc 3 1, 3) := by decide +kernel
theorem dX0_plan_92 : decode cX0_plan 92 = .ok (.goto (-52), 3) := by decide +kernel
theorem dX0_plan_95 : decode cX0_plan 95 = .ok (.return_, 1) := by decide +kernel
theorem dX0_planObject_0 : decode cX0_planObject 0 = .ok (.aload_n 1, 1) := by decide +kernel
theorem dX0_planObject_1 : decode cX0_planObject 1 = .ok (.iload_n 2, 1) := by decide +kernel
theorem dX0_planObject_2 : decode cX0_planObject 2 = .ok (.invokevirtual 88, 3) := by decide +kernel
theorem dX0_planObject_5 : decode cX0_planObject 5 = .ok (.istore 4, 2) := by decide +kernel
theorem dX0_planObject_7 : decode cX0_planObject 7 = .ok (.iconst 0, 1) := by decide +kernel
theorem dX0_planObject_8 : decode cX0_planObject 8 = .ok (.istore 5, 2) := by decide +kernel
theorem dX0_planObject_10 : decode cX0_planObject 10 = .ok (.iload 5, 2) := by decide +kernel
theorem dX0_planObject_12 : decode cX0_planObject 12 = .ok (.iload 4, 2) := by decide +kernel
theorem dX0_planObject_14 : decode cX0_planObject 14 = .ok (.if_icmp .ge 22, 3) := by decide +kernel
theorem dX0_planObject_17 : decode cX0_planObject 17 = .ok (.aload_n 1, 1) := by decide +kernel
theorem dX0_planObject_18 : decode cX0_planObject 18 = .ok (.getfield 72, 3) := by decide +kernel
theorem dX0_planObject_21 : decode cX0_planObject 21 = .ok (.iload_n 2, 1) := by decide +kernel
theorem dX0_planObject_22 : decode cX0_planObject 22 = .ok (.iload 5, 2) := by decide +kernel
theorem dX0_planObject_24 : decode cX0_planObject 24 = .ok (.iadd, 1) := by decide +kernel
theorem dX0_planObject_25 : decode cX0_planObject 25 = .ok (.iload_n 3, 1) := by decide +kernel
theorem dX0_planObject_26 : decode cX0_planObject 26 = .ok (.iload 5, 2) := by decide +kernel
theorem dX0_planObject_28 : decode cX0_planObject 28 = .ok (.iadd, 1) := by decide +kernel
theorem dX0_planObject_29 : decode cX0_planObject 29 = .ok (.iastore, 1) := by decide +kernel
theorem dX0_planObject_30 : decode cX0_planObject 30 = .ok (.iinc 5 1, 3) := by decide +kernel
theorem dX0_planObject_33 : decode cX0_planObject 33 = .ok (.goto (-23), 3) := by decide +kernel
theorem dX0_planObject_36 : decode cX0_planObject 36 = .ok (.aload_n 1, 1) := by decide +kernel
theorem dX0_planObject_37 : decode cX0_planObject 37 = .ok (.getfield 81, 3) := by decide +kernel
theorem dX0_planObject_40 : decode cX0_planObject 40 = .ok (.iconst 0, 1) := by decide +kernel
theorem dX0_planObject_41 : decode cX0_planObject 41 = .ok (.dup2, 1) := by decide +kernel
theorem dX0_planObject_42 : decode cX0_planObject 42 = .ok (.iaload, 1) := by decide +kernel
theorem dX0_planObject_43 : decode cX0_planObject 43 = .ok (.iconst 1, 1) := by decide +kernel
theorem dX0_planObject_44 : decode cX0_planObject 44 = .ok (.iadd, 1) := by decide +kernel
theorem dX0_planObject_45 : decode cX0_planObject 45 = .ok (.iastore, 1) := by decide +kernel
theorem dX0_planObject_46 : decode cX0_planObject 46 = .ok (.aload_n 1, 1) := by decide +kernel
theorem dX0_planObject_47 : decode cX0_planObject 47 = .ok (.getfield 81, 3) := by decide +kernel
theorem dX0_planObject_50 : decode cX0_planObject 50 = .ok (.iconst 1, 1) := by decide +kernel
theorem dX0_planObject_51 : decode cX0_planObject 51 = .ok (.dup2, 1) := by decide +kernel
theorem dX0_planObject_52 : decode cX0_planObject 52 = .ok (.iaload, 1) := by decide +kernel
theorem dX0_planObject_53 : decode cX0_planObject 53 = .ok (.iload 4, 2) := by decide +kernel
theorem dX0_planObject_55 : decode cX0_planObject 55 = .ok (.iadd, 1) := by decide +kernel
theorem dX0_planObject_56 : decode cX0_planObject 56 = .ok (.iastore, 1) := by decide +kernel
theorem dX0_planObject_57 : decode cX0_planObject 57 = .ok (.iload_n 2, 1) := by decide +kernel
theorem dX0_planObject_58 : decode cX0_planObject 58 = .ok (.iload_n 3, 1) := by decide +kernel
theorem dX0_planObject_59 : decode cX0_planObject 59 = .ok (.if_icmp .eq 28, 3) := by decide +kernel
theorem dX0_planObject_62 : decode cX0_planObject 62 = .ok (.aload_n 1, 1) := by decide +kernel
theorem dX0_planObject_63 : decode cX0_planObject 63 = .ok (.getfield 81, 3) := by decide +kernel
theorem dX0_planObject_66 : decode cX0_planObject 66 = .ok (.iconst 4, 1) := by decide +kernel
theorem dX0_planObject_67 : decode cX0_planObject 67 = .ok (.dup2, 1) := by decide +kernel
theorem dX0_planObject_68 : decode cX0_planObject 68 = .ok (.iaload, 1) := by decide +kernel
theorem dX0_planObject_69 : decode cX0_planObject 69 = .ok (.iconst 1, 1) := by decide +kernel
theorem dX0_planObject_70 : decode cX0_planObject 70 = .ok (.iadd, 1) := by decide +kernel
theorem dX0_planObject_71 : decode cX0_planObject 71 = .ok (.iastore, 1) := by decide +kernel
theorem dX0_planObject_72 : decode cX0_planObject 72 = .ok (.aload_n 1, 1) := by decide +kernel
theorem dX0_planObject_73 : decode cX0_planObject 73 = .ok (.getfield 81, 3) := by decide +kernel
theorem dX0_planObject_76 : decode cX0_planObject 76 = .ok (.iconst 5, 1) := by decide +kernel
theorem dX0_planObject_77 : decode cX0_planObject 77 = .ok (.dup2, 1) := by decide +kernel
theorem dX0_planObject_78 : decode cX0_planObject 78 = .ok (.iaload, 1) := by decide +kernel
theorem dX0_planObject_79 : decode cX0_planObject 79 = .ok (.iload 4, 2) := by decide +kernel
theorem dX0_planObject_81 : decode cX0_planObject 81 = .ok (.iload_n 2, 1) := by decide +kernel
theorem dX0_planObject_82 : decode cX0_planObject 82 = .ok (.iload_n 3, 1) := by decide +kernel
theorem dX0_planObject_83 : decode cX0_planObject 83 = .ok (.isub, 1) := by decide +kernel
theorem dX0_planObject_84 : decode cX0_planObject 84 = .ok (.imul, 1) := by decide +kernel
theorem dX0_planObject_85 : decode cX0_planObject 85 = .ok (.iadd, 1) := by decide +kernel
theorem dX0_planObject_86 : decode cX0_planObject 86 = .ok (.iastore, 1) := by decide +kernel
theorem dX0_planObject_87 : decode cX0_planObject 87 = .ok (.return_, 1) := by decide +kernel
theorem dX0_redirect_0 : decode cX0_redirect 0 = .ok (.aload_n 0, 1) := by decide +kernel
theorem dX0_redirect_1 : decode cX0_redirect 1 = .ok (.aload_n 1, 1) := by decide +kernel
theorem dX0_redirect_2 : decode cX0_redirect 2 = .ok (.aload_n 1, 1) := by decide +kernel
theorem dX0_redirect_3 : decode cX0_redirect 3 = .ok (.getfield 22, 3) := by decide +kernel
theorem dX0_redirect_6 : decode cX0_redirect 6 = .ok (.iconst 0, 1) := by decide +kernel
theorem dX0_redirect_7 : decode cX0_redirect 7 = .ok (.bipush 6, 2) := by decide +kernel
theorem dX0_redirect_9 : decode cX0_redirect 9 = .ok (.invokevirtual 91, 3) := by decide +kernel
theorem dX0_redirect_12 : decode cX0_redirect 12 = .ok (.aload_n 0, 1) := by decide +kernel
theorem dX0_redirect_13 : decode cX0_redirect 13 = .ok (.aload_n 1, 1) := by decide +kernel
theorem dX0_redirect_14 : decode cX0_redirect 14 = .ok (.aload_n 1, 1) := by decide +kernel
theorem dX0_redirect_15 : decode cX0_redirect 15 = .ok (.getfield 95, 3) := by decide +kernel
theorem dX0_redirect_18 : decode cX0_redirect 18 = .ok (.iconst 0, 1) := by decide +kernel
theorem dX0_redirect_19 : decode cX0_redirect 19 = .ok (.iconst 4, 1) := by decide +kernel
theorem dX0_redirect_20 : decode cX0_redirect 20 = .ok (.invokevirtual 91, 3) := by decide +kernel
theorem dX0_redirect_23 : decode cX0_redirect 23 = .ok (.iconst 0, 1) := by decide +kernel
theorem dX0_redirect_24 : decode cX0_redirect 24 = .ok (.istore_n 2, 1) := by decide +kernel
theorem dX0_redirect_25 : decode cX0_redirect 25 = .ok (.iload_n 2, 1) := by decide +kernel
theorem dX0_redirect_26 : decode cX0_redirect 26 = .ok (.aload_n 1, 1) := by decide +kernel
theorem dX0_redirect_27 : decode cX0_redirect 27 = .ok (.getfield 43, 3) := by decide +kernel
theorem dX0_redirect_30 : decode cX0_redirect 30 = .ok (.if_icmp .ge 40, 3) := by decide +kernel
theorem dX0_redirect_33 : decode cX0_redirect 33 = .ok (.aload_n 0, 1) := by decide +kernel
theorem dX0_redirect_34 : decode cX0_redirect 34 = .ok (.getfield 9, 3) := by decide +kernel
theorem dX0_redirect_37 : decode cX0_redirect 37 = .ok (.iload_n 2, 1) := by decide +kernel
theorem dX0_redirect_38 : decode cX0_redirect 38 = .ok (.baload, 1) := by decide +kernel
theorem dX0_redirect_39 : decode cX0_redirect 39 = .ok (.ifCond .eq 25, 3) := by decide +kernel
theorem dX0_redirect_42 : decode cX0_redirect 42 = .ok (.aload_n 0, 1) := by decide +kernel
theorem dX0_redirect_43 : decode cX0_redirect 43 = .ok (.aload_n 1, 1) := by decide +kernel
theorem dX0_redirect_44 : decode cX0_redirect 44 = .ok (.aload_n 1, 1) := by decide +kernel
theorem dX0_redirect_45 : decode cX0_redirect 45 = .ok (.getfield 69, 3) := by decide +kernel
theorem dX0_redirect_48 : decode cX0_redirect 48 = .ok (.iload_n 2, 1) := by decide +kernel
theorem dX0_redirect_49 : decode cX0_redirect 49 = .ok (.iconst 1, 1) := by decide +kernel
theorem dX0_redirect_50 : decode cX0_redirect 50 = .ok (.iadd, 1) := by decide +kernel
theorem dX0_redirect_51 : decode cX0_redirect 51 = .ok (.iload_n 2, 1) := by decide +kernel
theorem dX0_redirect_52 : decode cX0_redirect 52 = .ok (.iconst 1, 1) := by decide +kernel
theorem dX0_redirect_53 : decode cX0_redirect 53 = .ok (.iadd, 1) := by decide +kernel
theorem dX0_redirect_54 : decode cX0_redirect 54 = .ok (.aload_n 1, 1) := by decide +kernel
theorem dX0_redirect_55 : decode cX0_redirect 55 = .ok (.getfield 66, 3) := by decide +kernel
theorem dX0_redirect_58 : decode cX0_redirect 58 = .ok (.iload_n 2, 1) := by decide +kernel
theorem dX0_redirect_59 : decode cX0_redirect 59 = .ok (.iaload, 1) := by decide +kernel
theorem dX0_redirect_60 : decode cX0_redirect 60 = .ok (.iadd, 1) := by decide +kernel
theorem dX0_redirect_61 : decode cX0_redirect 61 = .ok (.invokevirtual 91, 3) := by decide +kernel
theorem dX0_redirect_64 : decode cX0_redirect 64 = .ok (.iinc 2 1, 3) := by decide +kernel
theorem dX0_redirect_67 : decode cX0_redirect 67 = .ok (.goto (-42), 3) := by decide +kernel
theorem dX0_redirect_70 : decode cX0_redirect 70 = .ok (.return_, 1) := by decide +kernel
theorem dX0_redirectRow_0 : decode cX0_redirectRow 0 = .ok (.iload_n 3, 1) := by decide +kernel
theorem dX0_redirectRow_1 : decode cX0_redirectRow 1 = .ok (.istore 5, 2) := by decide +kernel
theorem dX0_redirectRow_3 : decode cX0_redirectRow 3 = .ok (.iload 5, 2) := by decide +kernel
theorem dX0_redirectRow_5 : decode cX0_redirectRow 5 = .ok (.iload 4, 2) := by decide +kernel
theorem dX0_redirectRow_7 : decode cX0_redirectRow 7 = .ok (.if_icmp .ge 44, 3) := by decide +kernel
theorem dX0_redirectRow_10 : decode cX0_redirectRow 10 = .ok (.iload 5, 2) := by decide +kernel
theorem dX0_redirectRow_12 : decode cX0_redirectRow 12 = .ok (.aload_n 2, 1) := by decide +kernel
theorem dX0_redirectRow_13 : decode cX0_redirectRow 13 = .ok (.arraylength, 1) := by decide +kernel
theorem dX0_redirectRow_14 : decode cX0_redirectRow 14 = .ok (.if_icmp .ge 37, 3) := by decide +kernel
theorem dX0_redirectRow_17 : decode cX0_redirectRow 17 = .ok (.aload_n 2, 1) := by decide +kernel
theorem dX0_redirectRow_18 : decode cX0_redirectRow 18 = .ok (.iload 5, 2) := by decide +kernel
theorem dX0_redirectRow_20 : decode cX0_redirectRow 20 = .ok (.aload_n 1, 1) := by decide +kernel
theorem dX0_redirectRow_21 : decode cX0_redirectRow 21 = .ok (.aload_n 2, 1) := by decide +kernel
theorem dX0_redirectRow_22 : decode cX0_redirectRow 22 = .ok (.iload 5, 2) := by decide +kernel
theorem dX0_redirectRow_24 : decode cX0_redirectRow 24 = .ok (.iaload, 1) := by decide +kernel
theorem dX0_redirectRow_25 : decode cX0_redirectRow 25 = .ok (.invokevirtual 98, 3) := by decide +kernel
theorem dX0_redirectRow_28 : decode cX0_redirectRow 28 = .ok (.ifCond .eq 15, 3) := by decide +kernel
theorem dX0_redirectRow_31 : decode cX0_redirectRow 31 = .ok (.aload_n 1, 1) := by decide +kernel
theorem dX0_redirectRow_32 : decode cX0_redirectRow 32 = .ok (.getfield 72, 3) := by decide +kernel
theorem dX0_redirectRow_35 : decode cX0_redirectRow 35 = .ok (.aload_n 2, 1) := by decide +kernel
theorem dX0_redirectRow_36 : decode cX0_redirectRow 36 = .ok (.iload 5, 2) := by decide +kernel
theorem dX0_redirectRow_38 : decode cX0_redirectRow 38 = .ok (.iaload, 1) := by decide +kernel
theorem dX0_redirectRow_39 : decode cX0_redirectRow 39 = .ok (.iaload, 1) := by decide +kernel
theorem dX0_redirectRow_40 : decode cX0_redirectRow 40 = .ok (.goto 4, 3) := by decide +kernel
theorem dX0_redirectRow_43 : decode cX0_redirectRow 43 = .ok (.iconst (-1), 1) := by decide +kernel
theorem dX0_redirectRow_44 : decode cX0_redirectRow 44 = .ok (.iastore, 1) := by decide +kernel
theorem dX0_redirectRow_45 : decode cX0_redirectRow 45 = .ok (.iinc 5 1, 3) := by decide +kernel
theorem dX0_redirectRow_48 : decode cX0_redirectRow 48 = .ok (.goto (-45), 3) := by decide +kernel
theorem dX0_redirectRow_51 : decode cX0_redirectRow 51 = .ok (.return_, 1) := by decide +kernel
theorem dX0_slide_0 : decode cX0_slide 0 = .ok (.aload_n 1, 1) := by decide +kernel
theorem dX0_slide_1 : decode cX0_slide 1 = .ok (.getfield 101, 3) := by decide +kernel
theorem dX0_slide_4 : decode cX0_slide 4 = .ok (.iconst (-1), 1) := by decide +kernel
theorem dX0_slide_5 : decode cX0_slide 5 = .ok (.invokestatic 75, 3) := by decide +kernel
theorem dX0_slide_8 : decode cX0_slide 8 = .ok (.iconst 0, 1) := by decide +kernel
theorem dX0_slide_9 : decode cX0_slide 9 = .ok (.istore_n 2, 1) := by decide +kernel
theorem dX0_slide_10 : decode cX0_slide 10 = .ok (.iload_n 2, 1) := by decide +kernel
theorem dX0_slide_11 : decode cX0_slide 11 = .ok (.aload_n 1, 1) := by decide +kernel
theorem dX0_slide_12 : decode cX0_slide 12 = .ok (.getfield 43, 3) := by decide +kernel
theorem dX0_slide_15 : decode cX0_slide 15 = .ok (.if_icmp .ge 42, 3) := by decide +kernel
theorem dX0_slide_18 : decode cX0_slide 18 = .ok (.aload_n 0, 1) := by decide +kernel
theorem dX0_slide_19 : decode cX0_slide 19 = .ok (.getfield 9, 3) := by decide +kernel
theorem dX0_slide_22 : decode cX0_slide 22 = .ok (.iload_n 2, 1) := by decide +kernel
theorem dX0_slide_23 : decode cX0_slide 23 = .ok (.baload, 1) := by decide +kernel
theorem dX0_slide_24 : decode cX0_slide 24 = .ok (.ifCond .eq 27, 3) := by decide +kernel
theorem dX0_slide_27 : decode cX0_slide 27 = .ok (.aload_n 1, 1) := by decide +kernel
theorem dX0_slide_28 : decode cX0_slide 28 = .ok (.aload_n 1, 1) := by decide +kernel
theorem dX0_slide_29 : decode cX0_slide 29 = .ok (.getfield 72, 3) := by decide +kernel
theorem dX0_slide_32 : decode cX0_slide 32 = .ok (.iload_n 2, 1) := by decide +kernel
theorem dX0_slide_33 : decode cX0_slide 33 = .ok (.iaload, 1) := by decide +kernel
theorem dX0_slide_34 : decode cX0_slide 34 = .ok (.invokevirtual 98, 3) := by decide +kernel
theorem dX0_slide_37 : decode cX0_slide 37 = .ok (.ifCond .eq 14, 3) := by decide +kernel
theorem dX0_slide_40 : decode cX0_slide 40 = .ok (.aload_n 1, 1) := by decide +kernel
theorem dX0_slide_41 : decode cX0_slide 41 = .ok (.iload_n 2, 1) := by decide +kernel
theorem dX0_slide_42 : decode cX0_slide 42 = .ok (.aload_n 1, 1) := by decide +kernel
theorem dX0_slide_43 : decode cX0_slide 43 = .ok (.getfield 72, 3) := by decide +kernel
theorem dX0_slide_46 : decode cX0_slide 46 = .ok (.iload_n 2, 1) := by decide +kernel
theorem dX0_slide_47 : decode cX0_slide 47 = .ok (.iaload, 1) := by decide +kernel
theorem dX0_slide_48 : decode cX0_slide 48 = .ok (.invokevirtual 104, 3) := by decide +kernel
theorem dX0_slide_51 : decode cX0_slide 51 = .ok (.iinc 2 1, 3) := by decide +kernel
theorem dX0_slide_54 : decode cX0_slide 54 = .ok (.goto (-44), 3) := by decide +kernel
theorem dX0_slide_57 : decode cX0_slide 57 = .ok (.return_, 1) := by decide +kernel
set_option maxRecDepth 20000 in
theorem ggX1_empty_J7_fill_53178 : GoodIn wsX1_empty wsJ7_fill_53178 := goodIn_r _ [12] (by decide +kernel) (by decide +kernel)
set_option maxRecDepth 20000 in
theorem gX1_empty_J7_fill_53178 : GoodIn wsX1_empty (va_wsS RX1 58 yJ7_fill_53178 wsJ7_fill_53178) := goodIn_app (goodIn_of _ (by decide +kernel)) ggX1_empty_J7_fill_53178
set_option maxRecDepth 20000 in
theorem ggX1_objectAt_X1_isAddress : GoodIn wsX1_objectAt wsX1_isAddress := goodIn_r _ [6, 7, 8, 9, 10, 11, 12, 13, 14, 15, 16, 17, 18, 19, 20, 21, 22] (by decide +kernel) (by decide +kernel)
set_option maxRecDepth 20000 in
theorem gX1_objectAt_X1_isAddress : GoodIn wsX1_objectAt (wsV RX1 70 RX1 yX1_isAddress wsX1_isAddress) := goodIn_app (goodIn_of _ (by decide +kernel)) ggX1_objectAt_X1_isAddress
set_option maxRecDepth 20000 in
theorem ggX1_isObject_X1_isAddress : GoodIn wsX1_isObject wsX1_isAddress := goodIn_r _ [6, 7, 8, 9, 10, 11, 12, 13, 14, 15, 16, 17, 18, 19, 20, 21, 22] (by decide +kernel) (by decide +kernel)
set_option maxRecDepth 20000 in
theorem gX1_isObject_X1_isAddress : GoodIn wsX1_isObject (wsV RX1 70 RX1 yX1_isAddress wsX1_isAddress) := goodIn_app (goodIn_of _ (by decide +kernel)) ggX1_isObject_X1_isAddress
set_option maxRecDepth 20000 in
theorem ggX1_isPinned_X1_isObject : GoodIn wsX1_isPinned wsX1_isObject := goodIn_r _ [6, 7, 8, 9, 10, 5, 11, 12, 13, 14, 15, 16, 17, 18, 19, 20, 21, 22, 23, 24, 25, 26, 27] (by decide +kernel) (by decide +kernel)
set_option maxRecDepth 20000 in
theorem gX1_isPinned_X1_isObject : GoodIn wsX1_isPinned (wsV RX1 74 RX1 yX1_isObject wsX1_isObject) := goodIn_app (goodIn_of _ (by decide +kernel)) ggX1_isPinned_X1_isObject
set_option maxRecDepth 20000 in
theorem ggX1_isReference_X1_objectAt : GoodIn wsX1_isReference wsX1_objectAt := goodIn_r _ [5, 6, 7, 8, 9, 4, 10, 11, 12, 13, 14, 15, 16, 17, 18, 19, 20, 21, 22, 23, 24, 25, 26] (by decide +kernel) (by decide +kernel)
set_option maxRecDepth 20000 in
theorem gX1_isReference_X1_objectAt : GoodIn wsX1_isReference (wsV RX1 77 RX1 yX1_objectAt wsX1_objectAt) := goodIn_app (goodIn_of _ (by decide +kernel)) ggX1_isReference_X1_objectAt
set_option maxRecDepth 20000 in
theorem ggX1_objectFrom_X1_isObject : GoodIn wsX1_objectFrom wsX1_isObject := goodIn_r _ [6, 7, 8, 9, 10, 5, 11, 1, 12, 13, 14, 15, 16, 17, 18, 19, 20, 21, 22, 23, 24, 25, 26] (by decide +kernel) (by decide +kernel)
set_option maxRecDepth 20000 in
theorem gX1_objectFrom_X1_isObject : GoodIn wsX1_objectFrom (wsV RX1 74 RX1 yX1_isObject wsX1_isObject) := goodIn_app (goodIn_of _ (by decide +kernel)) ggX1_objectFrom_X1_isObject
set_option maxRecDepth 20000 in
theorem ggX1_place_J7_fill_fda19 : GoodIn wsX1_place wsJ7_fill_fda19 := goodIn_r _ [10, 11, 12, 9, 13] (by decide +kernel) (by decide +kernel)
set_option maxRecDepth 20000 in
theorem gX1_place_J7_fill_fda19 : GoodIn wsX1_place (va_wsS RX1 81 yJ7_fill_fda19 wsJ7_fill_fda19) := goodIn_app (goodIn_of _ (by decide +kernel)) ggX1_place_J7_fill_fda19
set_option maxRecDepth 20000 in
theorem ggX1_place_X1_own : GoodIn wsX1_place wsX1_own := goodIn_r _ [18, 19, 20, 21, 22, 17, 23, 1, 2, 7, 8, 9, 10, 11, 12, 13, 24, 25, 26, 27, 28, 29, 30, 31, 32, 33, 34, 35, 36, 37, 38] (by decide +kernel) (by decide +kernel)
set_option maxRecDepth 20000 in
theorem gX1_place_X1_own : GoodIn wsX1_place (wsV RX1 84 RX1 yX1_own wsX1_own) := goodIn_app (goodIn_of _ (by decide +kernel)) ggX1_place_X1_own
set_option maxRecDepth 20000 in
theorem ggX1_shift_X1_sizeOf : GoodIn wsX1_shift wsX1_sizeOf := goodIn_r _ [14, 1, 2, 27, 28, 29, 30, 31, 32, 33, 34, 35, 36, 37, 38, 39, 40, 41] (by decide +kernel) (by decide +kernel)
set_option maxRecDepth 20000 in
theorem gX1_shift_X1_sizeOf : GoodIn wsX1_shift (wsV RX1 88 RX1 yX1_sizeOf wsX1_sizeOf) := goodIn_app (goodIn_of _ (by decide +kernel)) ggX1_shift_X1_sizeOf
set_option maxRecDepth 20000 in
theorem ggX1_shift_X1_own : GoodIn wsX1_shift wsX1_own := goodIn_r _ [18, 19, 10, 11, 12, 13, 14, 1, 2, 20, 21, 22, 23, 24, 25, 26, 27, 28, 29, 30, 31, 32, 33, 34, 35, 36, 37, 38, 39, 40, 41] (by decide +kernel) (by decide +kernel)
set_option maxRecDepth 20000 in
theorem gX1_shift_X1_own : GoodIn wsX1_shift (wsV RX1 84 RX1 yX1_own wsX1_own) := goodIn_app (goodIn_of _ (by decide +kernel)) ggX1_shift_X1_own
set_option maxRecDepth 20000 in
theorem ggX1_own_X1_sizeOf : GoodIn wsX1_own wsX1_sizeOf := goodIn_r _ [6, 7, 8, 16, 17, 18, 19, 20, 21, 22, 23, 24, 25, 26, 27, 28, 29, 30] (by decide +kernel) (by decide +kernel)
set_option maxRecDepth 20000 in
theorem gX1_own_X1_sizeOf : GoodIn wsX1_own (wsV RX1 88 RX1 yX1_sizeOf wsX1_sizeOf) := goodIn_app (goodIn_of _ (by decide +kernel)) ggX1_own_X1_sizeOf
set_option maxRecDepth 20000 in
theorem ggX1_own_J7_fill_fda19 : GoodIn wsX1_own wsJ7_fill_fda19 := goodIn_r _ [12, 13, 14, 11, 15] (by decide +kernel) (by decide +kernel)
set_option maxRecDepth 20000 in
theorem gX1_own_J7_fill_fda19 : GoodIn wsX1_own (va_wsS RX1 81 yJ7_fill_fda19 wsJ7_fill_fda19) := goodIn_app (goodIn_of _ (by decide +kernel)) ggX1_own_J7_fill_fda19
set_option maxRecDepth 20000 in
theorem ggX1_objectCount_X1_isObject : GoodIn wsX1_objectCount wsX1_isObject := goodIn_r _ [6, 7, 8, 9, 10, 5, 11, 1, 12, 13, 14, 15, 16, 17, 18, 19, 20, 21, 22, 23, 24, 25, 26] (by decide +kernel) (by decide +kernel)
set_option maxRecDepth 20000 in
theorem gX1_objectCount_X1_isObject : GoodIn wsX1_objectCount (wsV RX1 74 RX1 yX1_isObject wsX1_isObject) := goodIn_app (goodIn_of _ (by decide +kernel)) ggX1_objectCount_X1_isObject
set_option maxRecDepth 20000 in
theorem ggX1_pinnedCount_X1_isPinned : GoodIn wsX1_pinnedCount wsX1_isPinned := goodIn_r _ [6, 7, 8, 9, 10, 5, 11, 12, 13, 14, 15, 16, 1, 17, 18, 19, 20, 21, 22, 23, 24, 25, 26, 27, 28, 29, 30, 31] (by decide +kernel) (by decide +kernel)
set_option maxRecDepth 20000 in
theorem gX1_pinnedCount_X1_isPinned : GoodIn wsX1_pinnedCount (wsV RX1 91 RX1 yX1_isPinned wsX1_isPinned) := goodIn_app (goodIn_of _ (by decide +kernel)) ggX1_pinnedCount_X1_isPinned
theorem dX1_init_0 : decode cX1_init 0 = .ok (.aload_n 0, 1) := by decide +kernel
theorem dX1_init_1 : decode cX1_init 1 = .ok (.invokespecial 3, 3) := by decide +kernel
theorem dX1_init_4 : decode cX1_init 4 = .ok (.aload_n 0, 1) := by decide +kernel
theorem dX1_init_5 : decode cX1_init 5 = .ok (.sipush 200, 3) := by decide +kernel
theorem dX1_init_8 : decode cX1_init 8 = .ok (.newarray .int, 2) := by decide +kernel
theorem dX1_init_10 : decode cX1_init 10 = .ok (.putfield 9, 3) := by decide +kernel
theorem dX1_init_13 : decode cX1_init 13 = .ok (.aload_n 0, 1) := by decide +kernel
theorem dX1_init_14 : decode cX1_init 14 = .ok (.sipush 200, 3) := by decide +kernel
theorem dX1_init_17 : decode cX1_init 17 = .ok (.newarray .int, 2) := by decide +kernel
theorem dX1_init_19 : decode cX1_init 19 = .ok (.putfield 15, 3) := by decide +kernel
theorem dX1_init_22 : decode cX1_init 22 = .ok (.aload_n 0, 1) := by decide +kernel
theorem dX1_init_23 : decode cX1_init 23 = .ok (.sipush 200, 3) := by decide +kernel
theorem dX1_init_26 : decode cX1_init 26 = .ok (.newarray .int, 2) := by decide +kernel
theorem dX1_init_28 : decode cX1_init 28 = .ok (.putfield 18, 3) := by decide +kernel
theorem dX1_init_31 : decode cX1_init 31 = .ok (.aload_n 0, 1) := by decide +kernel
theorem dX1_init_32 : decode cX1_init 32 = .ok (.sipush 200, 3) := by decide +kernel
theorem dX1_init_35 : decode cX1_init 35 = .ok (.newarray .int, 2) := by decide +kernel
theorem dX1_init_37 : decode cX1_init 37 = .ok (.putfield 21, 3) := by decide +kernel
theorem dX1_init_40 : decode cX1_init 40 = .ok (.aload_n 0, 1) := by decide +kernel
theorem dX1_init_41 : decode cX1_init 41 = .ok (.sipush 200, 3) := by decide +kernel
theorem dX1_init_44 : decode cX1_init 44 = .ok (.newarray .int, 2) := by decide +kernel
theorem dX1_init_46 : decode cX1_init 46 = .ok (.putfield 24, 3) := by decide +kernel
theorem dX1_init_49 : decode cX1_init 49 = .ok (.aload_n 0, 1) := by decide +kernel
theorem dX1_init_50 : decode cX1_init 50 = .ok (.sipush 200, 3) := by decide +kernel
theorem dX1_init_53 : decode cX1_init 53 = .ok (.newarray .int, 2) := by decide +kernel
theorem dX1_init_55 : decode cX1_init 55 = .ok (.putfield 27, 3) := by decide +kernel
theorem dX1_init_58 : decode cX1_init 58 = .ok (.aload_n 0, 1) := by decide +kernel
theorem dX1_init_59 : decode cX1_init 59 = .ok (.bipush 6, 2) := by decide +kernel
theorem dX1_init_61 : decode cX1_init 61 = .ok (.newarray .int, 2) := by decide +kernel
theorem dX1_init_63 : decode cX1_init 63 = .ok (.putfield 30, 3) := by decide +kernel
theorem dX1_init_66 : decode cX1_init 66 = .ok (.aload_n 0, 1) := by decide +kernel
theorem dX1_init_67 : decode cX1_init 67 = .ok (.iconst 4, 1) := by decide +kernel
theorem dX1_init_68 : decode cX1_init 68 = .ok (.newarray .int, 2) := by decide +kernel
theorem dX1_init_70 : decode cX1_init 70 = .ok (.putfield 33, 3) := by decide +kernel
theorem dX1_init_73 : decode cX1_init 73 = .ok (.aload_n 0, 1) := by decide +kernel
theorem dX1_init_74 : decode cX1_init 74 = .ok (.sipush 200, 3) := by decide +kernel
theorem dX1_init_77 : decode cX1_init 77 = .ok (.newarray .int, 2) := by decide +kernel
theorem dX1_init_79 : decode cX1_init 79 = .ok (.putfield 36, 3) := by decide +kernel
theorem dX1_init_82 : decode cX1_init 82 = .ok (.aload_n 0, 1) := by decide +kernel
theorem dX1_init_83 : decode cX1_init 83 = .ok (.bipush 6, 2) := by decide +kernel
theorem dX1_init_85 : decode cX1_init 85 = .ok (.newarray .int, 2) := by decide +kernel
theorem dX1_init_87 : decode cX1_init 87 = .ok (.putfield 39, 3) := by decide +kernel
theorem dX1_init_90 : decode cX1_init 90 = .ok (.return_, 1) := by decide +kernel
theorem dX1_empty_0 : decode cX1_empty 0 = .ok (.aload_n 0, 1) := by decide +kernel
theorem dX1_empty_1 : decode cX1_empty 1 = .ok (.iload_n 1, 1) := by decide +kernel
theorem dX1_empty_2 : decode cX1_empty 2 = .ok (.putfield 42, 3) := by decide +kernel
theorem dX1_empty_5 : decode cX1_empty 5 = .ok (.aload_n 0, 1) := by decide +kernel
theorem dX1_empty_6 : decode cX1_empty 6 = .ok (.iload_n 2, 1) := by decide +kernel
theorem dX1_empty_7 : decode cX1_empty 7 = .ok (.putfield 46, 3) := by decide +kernel
theorem dX1_empty_10 : decode cX1_empty 10 = .ok (.aload_n 0, 1) := by decide +kernel
theorem dX1_empty_11 : decode cX1_empty 11 = .ok (.iconst 0, 1) := by decide +kernel
theorem dX1_empty_12 : decode cX1_empty 12 = .ok (.putfield 49, 3) := by decide +kernel
theorem dX1_empty_15 : decode cX1_empty 15 = .ok (.aload_n 0, 1) := by decide +kernel
theorem dX1_empty_16 : decode cX1_empty 16 = .ok (.iconst 0, 1) := by decide +kernel
theorem dX1_empty_17 : decode cX1_empty 17 = .ok (.putfield 52, 3) := by decide +kernel
theorem dX1_empty_20 : decode cX1_empty 20 = .ok (.aload_n 0, 1) := by decide +kernel
theorem dX1_empty_21 : decode cX1_empty 21 = .ok (.iconst 0, 1) := by decide +kernel
theorem dX1_empty_22 : decode cX1_empty 22 = .ok (.putfield 55, 3) := by decide +kernel
theorem dX1_empty_25 : decode cX1_empty 25 = .ok (.aload_n 0, 1) := by decide +kernel
theorem dX1_empty_26 : decode cX1_empty 26 = .ok (.getfield 9, 3) := by decide +kernel
theorem dX1_empty_29 : decode cX1_empty 29 = .ok (.iconst (-1), 1) := by decide +kernel
theorem dX1_empty_30 : decode cX1_empty 30 = .ok (.invokestatic 58, 3) := by decide +kernel
theorem dX1_empty_33 : decode cX1_empty 33 = .ok (.aload_n 0, 1) := by decide +kernel
theorem dX1_empty_34 : decode cX1_empty 34 = .ok (.getfield 30, 3) := by decide +kernel
theorem dX1_empty_37 : decode cX1_empty 37 = .ok (.iconst (-1), 1) := by decide +kernel
theorem dX1_empty_38 : decode cX1_empty 38 = .ok (.invokestatic 58, 3) := by decide +kernel
theorem dX1_empty_41 : decode cX1_empty 41 = .ok (.aload_n 0, 1) := by decide +kernel
theorem dX1_empty_42 : decode cX1_empty 42 = .ok (.getfield 33, 3) := by decide +kernel
theorem dX1_empty_45 : decode cX1_empty 45 = .ok (.iconst (-1), 1) := by decide +kernel
theorem dX1_empty_46 : decode cX1_empty 46 = .ok (.invokestatic 58, 3) := by decide +kernel
theorem dX1_empty_49 : decode cX1_empty 49 = .ok (.return_, 1) := by decide +kernel
theorem dX1_copyFrom_0 : decode cX1_copyFrom 0 = .ok (.aload_n 0, 1) := by decide +kernel
theorem dX1_copyFrom_1 : decode cX1_copyFrom 1 = .ok (.aload_n 1, 1) := by decide +kernel
theorem dX1_copyFrom_2 : decode cX1_copyFrom 2 = .ok (.getfield 42, 3) := by decide +kernel
theorem dX1_copyFrom_5 : decode cX1_copyFrom 5 = .ok (.putfield 42, 3) := by decide +kernel
theorem dX1_copyFrom_8 : decode cX1_copyFrom 8 = .ok (.aload_n 0, 1) := by decide +kernel
theorem dX1_copyFrom_9 : decode cX1_copyFrom 9 = .ok (.aload_n 1, 1) := by decide +kernel
theorem dX1_copyFrom_10 : decode cX1_copyFrom 10 = .ok (.getfield 46, 3) := by decide +kernel
theorem dX1_copyFrom_13 : decode cX1_copyFrom 13 = .ok (.putfield 46, 3) := by decide +kernel
theorem dX1_copyFrom_16 : decode cX1_copyFrom 16 = .ok (.aload_n 0, 1) := by decide +kernel
theorem dX1_copyFrom_17 : decode cX1_copyFrom 17 = .ok (.aload_n 1, 1) := by decide +kernel
theorem dX1_copyFrom_18 : decode cX1_copyFrom 18 = .ok (.getfield 49, 3) := by decide +kernel
theorem dX1_copyFrom_21 : decode cX1_copyFrom 21 = .ok (.putfield 49, 3) := by decide +kernel
theorem dX1_copyFrom_24 : decode cX1_copyFrom 24 = .ok (.aload_n 0, 1) := by decide +kernel
theorem dX1_copyFrom_25 : decode cX1_copyFrom 25 = .ok (.aload_n 1, 1) := by decide +kernel
theorem dX1_copyFrom_26 : decode cX1_copyFrom 26 = .ok (.getfield 52, 3) := by decide +kernel
theorem dX1_copyFrom_29 : decode cX1_copyFrom 29 = .ok (.putfield 52, 3) := by decide +kernel
theorem dX1_copyFrom_32 : decode cX1_copyFrom 32 = .ok (.aload_n 0, 1) := by decide +kernel
theorem dX1_copyFrom_33 : decode cX1_copyFrom 33 = .ok (.aload_n 1, 1) := by decide +kernel
theorem dX1_copyFrom_34 : decode cX1_copyFrom 34 = .ok (.getfield 55, 3) := by decide +kernel
theorem dX1_copyFrom_37 : decode cX1_copyFrom 37 = .ok (.putfield 55, 3) := by decide +kernel
theorem dX1_copyFrom_40 : decode cX1_copyFrom 40 = .ok (.aload_n 1, 1) := by decide +kernel
theorem dX1_copyFrom_41 : decode cX1_copyFrom 41 = .ok (.getfield 9, 3) := by decide +kernel
theorem dX1_copyFrom_44 : decode cX1_copyFrom 44 = .ok (.iconst 0, 1) := by decide +kernel
theorem dX1_copyFrom_45 : decode cX1_copyFrom 45 = .ok (.aload_n 0, 1) := by decide +kernel
theorem dX1_copyFrom_46 : decode cX1_copyFrom 46 = .ok (.getfield 9, 3) := by decide +kernel
theorem dX1_copyFrom_49 : decode cX1_copyFrom 49 = .ok (.iconst 0, 1) := by decide +kernel
theorem dX1_copyFrom_50 : decode cX1_copyFrom 50 = .ok (.sipush 200, 3) := by decide +kernel
theorem dX1_copyFrom_53 : decode cX1_copyFrom 53 = .ok (.invokestatic 64, 3) := by decide +kernel
theorem dX1_copyFrom_56 : decode cX1_copyFrom 56 = .ok (.aload_n 1, 1) := by decide +kernel
theorem dX1_copyFrom_57 : decode cX1_copyFrom 57 = .ok (.getfield 15, 3) := by decide +kernel
theorem dX1_copyFrom_60 : decode cX1_copyFrom 60 = .ok (.iconst 0, 1) := by decide +kernel
theorem dX1_copyFrom_61 : decode cX1_copyFrom 61 = .ok (.aload_n 0, 1) := by decide +kernel
theorem dX1_copyFrom_62 : decode cX1_copyFrom 62 = .ok (.getfield 15, 3) := by decide +kernel
theorem dX1_copyFrom_65 : decode cX1_copyFrom 65 = .ok (.iconst 0, 1) := by decide +kernel
theorem dX1_copyFrom_66 : decode cX1_copyFrom 66 = .ok (.sipush 200, 3) := by decide +kernel
theorem dX1_copyFrom_69 : decode cX1_copyFrom 69 = .ok (.invokestatic 64, 3) := by decide +kernel
theorem dX1_copyFrom_72 : decode cX1_copyFrom 72 = .ok (.aload_n 1, 1) := by decide +kernel
theorem dX1_copyFrom_73 : decode cX1_copyFrom 73 = .ok (.getfield 18, 3) := by decide +kernel
theorem dX1_copyFrom_76 : decode cX1_copyFrom 76 = .ok (.iconst 0, 1) := by decide +kernel
theorem dX1_copyFrom_77 : decode cX1_copyFrom 77 = .ok (.aload_n 0, 1) := by decide +kernel
theorem dX1_copyFrom_78 : decode cX1_copyFrom 78 = .ok (.getfield 18, 3) := by decide +kernel
theorem dX1_copyFrom_81 : decode cX1_copyFrom 81 = .ok (.iconst 0, 1) := by decide +kernel
theorem dX1_copyFrom_82 : decode cX1_copyFrom 82 = .ok (.sipush 200, 3) := by decide +kernel
theorem dX1_copyFrom_85 : decode cX1_copyFrom 85 = .ok (.invokestatic 64, 3) := by decide +kernel
theorem dX1_copyFrom_88 : decode cX1_copyFrom 88 = .ok (.aload_n 1, 1) := by decide +kernel
theorem dX1_copyFrom_89 : decode cX1_copyFrom 89 = .ok (.getfield 21, 3) := by decide +kernel
theorem dX1_copyFrom_92 : decode cX1_copyFrom 92 = .ok (.iconst 0, 1) := by decide +kernel
theorem dX1_copyFrom_93 : decode cX1_copyFrom 93 = .ok (.aload_n 0, 1) := by decide +kernel
theorem dX1_copyFrom_94 : decode cX1_copyFrom 94 = .ok (.getfield 21, 3) := by decide +kernel
theorem dX1_copyFrom_97 : decode cX1_copyFrom 97 = .ok (.iconst 0, 1) := by decide +kernel
theorem dX1_copyFrom_98 : decode cX1_copyFrom 98 = .ok (.sipush 200, 3) := by decide +kernel
theorem dX1_copyFrom_101 : decode cX1_copyFrom 101 = .ok (.invokestatic 64, 3) := by decide +kernel
theorem dX1_copyFrom_104 : decode cX1_copyFrom 104 = .ok (.aload_n 1, 1) := by decide +kernel
theorem dX1_copyFrom_105 : decode cX1_copyFrom 105 = .ok (.getfield 24, 3) := by decide +kernel
theorem dX1_copyFrom_108 : decode cX1_copyFrom 108 = .ok (.iconst 0, 1) := by decide +kernel
theorem dX1_copyFrom_109 : decode cX1_copyFrom 109 = .ok (.aload_n 0, 1) := by decide +kernel
theorem dX1_copyFrom_110 : decode cX1_copyFrom 110 = .ok (.getfield 24, 3) := by decide +kernel
theorem dX1_copyFrom_113 : decode cX1_copyFrom 113 = .ok (.iconst 0, 1) := by decide +kernel
theorem dX1_copyFrom_114 : decode cX1_copyFrom 114 = .ok (.sipush 200, 3) := by decide +kernel
theorem dX1_copyFrom_117 : decode cX1_copyFrom 117 = .ok (.invokestatic 64, 3) := by decide +kernel
theorem dX1_copyFrom_120 : decode cX1_copyFrom 120 = .ok (.aload_n 1, 1) := by decide +kernel
theorem dX1_copyFrom_121 : decode cX1_copyFrom 121 = .ok (.getfield 27, 3) := by decide +kernel
theorem dX1_copyFrom_124 : decode cX1_copyFrom 124 = .ok (.iconst 0, 1) := by decide +kernel
theorem dX1_copyFrom_125 : decode cX1_copyFrom 125 = .ok (.aload_n 0, 1) := by decide +kernel
theorem dX1_copyFrom_126 : decode cX1_copyFrom 126 = .ok (.getfield 27, 3) := by decide +kernel
theorem dX1_copyFrom_129 : decode cX1_copyFrom 129 = .ok (.iconst 0, 1) := by decide +kernel
theorem dX1_copyFrom_130 : decode cX1_copyFrom 130 = .ok (.sipush 200, 3) := by decide +kernel
theorem dX1_copyFrom_133 : decode cX1_copyFrom 133 = .ok (.invokestatic 64, 3) := by decide +kernel
theorem dX1_copyFrom_136 : decode cX1_copyFrom 136 = .ok (.aload_n 1, 1) := by decide +kernel
theorem dX1_copyFrom_137 : decode cX1_copyFrom 137 = .ok (.getfield 30, 3) := by decide +kernel
theorem dX1_copyFrom_140 : decode cX1_copyFrom 140 = .ok (.iconst 0, 1) := by decide +kernel
theorem dX1_copyFrom_141 : decode cX1_copyFrom 141 = .ok (.aload_n 0, 1) := by decide +kernel
theorem dX1_copyFrom_142 : decode cX1_copyFrom 142 = .ok (.getfield 30, 3) := by decide +kernel
theorem dX1_copyFrom_145 : decode cX1_copyFrom 145 = .ok (.iconst 0, 1) := by decide +kernel
theorem dX1_copyFrom_146 : decode cX1_copyFrom 146 = .ok (.bipush 6, 2) := by decide +kernel
theorem dX1_copyFrom_148 : decode cX1_copyFrom 148 = .ok (.invokestatic 64, 3) := by decide +kernel
theorem dX1_copyFrom_151 : decode cX1_copyFrom 151 = .ok (.aload_n 1, 1) := by decide +kernel
theorem dX1_copyFrom_152 : decode cX1_copyFrom 152 = .ok (.getfield 33, 3) := by decide +kernel
theorem dX1_copyFrom_155 : decode cX1_copyFrom 155 = .ok (.iconst 0, 1) := by decide +kernel
theorem dX1_copyFrom_156 : decode cX1_copyFrom 156 = .ok (.aload_n 0, 1) := by decide +kernel
theorem dX1_copyFrom_157 : decode cX1_copyFrom 157 = .ok (.getfield 33, 3) := by decide +kernel
theorem dX1_copyFrom_160 : decode cX1_copyFrom 160 = .ok (.iconst 0, 1) := by decide +kernel
theorem dX1_copyFrom_161 : decode cX1_copyFrom 161 = .ok (.iconst 4, 1) := by decide +kernel
theorem dX1_copyFrom_162 : decode cX1_copyFrom 162 = .ok (.invokestatic 64, 3) := by decide +kernel
theorem dX1_copyFrom_165 : decode cX1_copyFrom 165 = .ok (.aload_n 1, 1) := by decide +kernel
theorem dX1_copyFrom_166 : decode cX1_copyFrom 166 = .ok (.getfield 36, 3) := by decide +kernel
theorem dX1_copyFrom_169 : decode cX1_copyFrom 169 = .ok (.iconst 0, 1) := by decide +kernel
theorem dX1_copyFrom_170 : decode cX1_copyFrom 170 = .ok (.aload_n 0, 1) := by decide +kernel
theorem dX1_copyFrom_171 : decode cX1_copyFrom 171 = .ok (.getfield 36, 3) := by decide +kernel
theorem dX1_copyFrom_174 : decode cX1_copyFrom 174 = .ok (.iconst 0, 1) := by decide +kernel
theorem dX1_copyFrom_175 : decode cX1_copyFrom 175 = .ok (.sipush 200, 3) := by decide +kernel
theorem dX1_copyFrom_178 : decode cX1_copyFrom 178 = .ok (.invokestatic 64, 3) := by decide +kernel
theorem dX1_copyFrom_181 : decode cX1_copyFrom 181 = .ok (.aload_n 1, 1) := by decide +kernel
theorem dX1_copyFrom_182 : decode cX1_copyFrom 182 = .ok (.getfield 39, 3) := by decide +kernel
theorem dX1_copyFrom_185 : decode cX1_copyFrom 185 = .ok (.iconst 0, 1) := by decide +kernel
theorem dX1_copyFrom_186 : decode cX1_copyFrom 186 = .ok (.aload_n 0, 1) := by decide +kernel
theorem dX1_copyFrom_187 : decode cX1_copyFrom 187 = .ok (.getfield 39, 3) := by decide +kernel
theorem dX1_copyFrom_190 : decode cX1_copyFrom 190 = .ok (.iconst 0, 1) := by decide +kernel
theorem dX1_copyFrom_191 : decode cX1_copyFrom 191 = .ok (.bipush 6, 2) := by decide +kernel
theorem dX1_copyFrom_193 : decode cX1_copyFrom 193 = .ok (.invokestatic 64, 3) := by decide +kernel
theorem dX1_copyFrom_196 : decode cX1_copyFrom 196 = .ok (.return_, 1) := by decide +kernel
theorem dX1_isAddress_0 : decode cX1_isAddress 0 = .ok (.iload_n 1, 1) := by decide +kernel
theorem dX1_isAddress_1 : decode cX1_isAddress 1 = .ok (.ifCond .lt 15, 3) := by decide +kernel
theorem dX1_isAddress_4 : decode cX1_isAddress 4 = .ok (.iload_n 1, 1) := by decide +kernel
theorem dX1_isAddress_5 : decode cX1_isAddress 5 = .ok (.aload_n 0, 1) := by decide +kernel
theorem dX1_isAddress_6 : decode cX1_isAddress 6 = .ok (.getfield 42, 3) := by decide +kernel
theorem dX1_isAddress_9 : decode cX1_isAddress 9 = .ok (.if_icmp .ge 7, 3) := by decide +kernel
theorem dX1_isAddress_12 : decode cX1_isAddress 12 = .ok (.iconst 1, 1) := by decide +kernel
theorem dX1_isAddress_13 : decode cX1_isAddress 13 = .ok (.goto 4, 3) := by decide +kernel
theorem dX1_isAddress_16 : decode cX1_isAddress 16 = .ok (.iconst 0, 1) := by decide +kernel
theorem dX1_isAddress_17 : decode cX1_isAddress 17 = .ok (.ireturn, 1) := by decide +kernel
theorem dX1_objectAt_0 : decode cX1_objectAt 0 = .ok (.aload_n 0, 1) := by decide +kernel
theorem dX1_objectAt_1 : decode cX1_objectAt 1 = .ok (.iload_n 1, 1) := by decide +kernel
theorem dX1_objectAt_2 : decode cX1_objectAt 2 = .ok (.invokevirtual 70, 3) := by decide +kernel
theorem dX1_objectAt_5 : decode cX1_objectAt 5 = .ok (.ifCond .eq 12, 3) := by decide +kernel
theorem dX1_objectAt_8 : decode cX1_objectAt 8 = .ok (.aload_n 0, 1) := by decide +kernel
theorem dX1_objectAt_9 : decode cX1_objectAt 9 = .ok (.getfield 9, 3) := by decide +kernel
theorem dX1_objectAt_12 : decode cX1_objectAt 12 = .ok (.iload_n 1, 1) := by decide +kernel
theorem dX1_objectAt_13 : decode cX1_objectAt 13 = .ok (.iaload, 1) := by decide +kernel
theorem dX1_objectAt_14 : decode cX1_objectAt 14 = .ok (.goto 4, 3) := by decide +kernel
theorem dX1_objectAt_17 : decode cX1_objectAt 17 = .ok (.iconst (-1), 1) := by decide +kernel
theorem dX1_objectAt_18 : decode cX1_objectAt 18 = .ok (.ireturn, 1) := by decide +kernel
theorem dX1_isObject_0 : decode cX1_isObject 0 = .ok (.aload_n 0, 1) := by decide +kernel
theorem dX1_isObject_1 : decode cX1_isObject 1 = .ok (.iload_n 1, 1) := by decide +kernel
theorem dX1_isObject_2 : decode cX1_isObject 2 = .ok (.invokevirtual 70, 3) := by decide +kernel
theorem dX1_isObject_5 : decode cX1_isObject 5 = .ok (.ifCond .eq 17, 3) := by decide +kernel
theorem dX1_isObject_8 : decode cX1_isObject 8 = .ok (.aload_n 0, 1) := by decide +kernel
theorem dX1_isObject_9 : decode cX1_isObject 9 = .ok (.getfield 9, 3) := by decide +kernel
theorem dX1_isObject_12 : decode cX1_isObject 12 = .ok (.iload_n 1, 1) := by decide +kernel
theorem dX1_isObject_13 : decode cX1_isObject 13 = .ok (.iaload, 1) := by decide +kernel
theorem dX1_isObject_14 : decode cX1_isObject 14 = .ok (.iload_n 1, 1) := by decide +kernel
theorem dX1_isObject_15 : decode cX1_isObject 15 = .ok (.if_icmp .ne 7, 3) := by decide +kernel
theorem dX1_isObject_18 : decode cX1_isObject 18 = .ok (.iconst 1, 1) := by decide +kernel
theorem dX1_isObject_19 : decode cX1_isObject 19 = .ok (.goto 4, 3) := by decide +kernel
theorem dX1_isObject_22 : decode cX1_isObject 22 = .ok (.iconst 0, 1) := by decide +kernel
theorem dX1_isObject_23 : decode cX1_isObject 23 = .ok (.ireturn, 1) := by decide +kernel
theorem dX1_isPinned_0 : decode cX1_isPinned 0 = .ok (.aload_n 0, 1) := by decide +kernel
theorem dX1_isPinned_1 : decode cX1_isPinned 1 = .ok (.iload_n 1, 1) := by decide +kernel
theorem dX1_isPinned_2 : decode cX1_isPinned 2 = .ok (.invokevirtual 74, 3) := by decide +kernel
theorem dX1_isPinned_5 : decode cX1_isPinned 5 = .ok (.ifCond .eq 16, 3) := by decide +kernel
theorem dX1_isPinned_8 : decode cX1_isPinned 8 = .ok (.aload_n 0, 1) := by decide +kernel
theorem dX1_isPinned_9 : decode cX1_isPinned 9 = .ok (.getfield 21, 3) := by decide +kernel
theorem dX1_isPinned_12 : decode cX1_isPinned 12 = .ok (.iload_n 1, 1) := by decide +kernel
theorem dX1_isPinned_13 : decode cX1_isPinned 13 = .ok (.iaload, 1) := by decide +kernel
theorem dX1_isPinned_14 : decode cX1_isPinned 14 = .ok (.ifCond .eq 7, 3) := by decide +kernel
theorem dX1_isPinned_17 : decode cX1_isPinned 17 = .ok (.iconst 1, 1) := by decide +kernel
theorem dX1_isPinned_18 : decode cX1_isPinned 18 = .ok (.goto 4, 3) := by decide +kernel
theorem dX1_isPinned_21 : decode cX1_isPinned 21 = .ok (.iconst 0, 1) := by decide +kernel
theorem dX1_isPinned_22 : decode cX1_isPinned 22 = .ok (.ireturn, 1) := by decide +kernel
theorem dX1_isReference_0 : decode cX1_isReference 0 = .ok (.iload_n 1, 1) := by decide +kernel
theorem dX1_isReference_1 : decode cX1_isReference 1 = .ok (.iconst (-1), 1) := by decide +kernel
theorem dX1_isReference_2 : decode cX1_isReference 2 = .ok (.if_icmp .eq 12, 3) := by decide +kernel
theorem dX1_isReference_5 : decode cX1_isReference 5 = .ok (.aload_n 0, 1) := by decide +kernel
theorem dX1_isReference_6 : decode cX1_isReference 6 = .ok (.iload_n 1, 1) := by decide +kernel
theorem dX1_isReference_7 : decode cX1_isReference 7 = .ok (.invokevirtual 77, 3) := by decide +kernel
theorem dX1_isReference_10 : decode cX1_isReference 10 = .ok (.iconst (-1), 1) := by decide +kernel
theorem dX1_isReference_11 : decode cX1_isReference 11 = .ok (.if_icmp .eq 7, 3) := by decide +kernel
theorem dX1_isReference_14 : decode cX1_isReference 14 = .ok (.iconst 1, 1) := by decide +kernel
theorem dX1_isReference_15 : decode cX1_isReference 15 = .ok (.goto 4, 3) := by decide +kernel
theorem dX1_isReference_18 : decode cX1_isReference 18 = .ok (.iconst 0, 1) := by decide +kernel
theorem dX1_isReference_19 : decode cX1_isReference 19 = .ok (.ireturn, 1) := by decide +kernel
theorem dX1_sizeOf_0 : decode cX1_sizeOf 0 = .ok (.iconst 1, 1) := by decide +kernel
theorem dX1_sizeOf_1 : decode cX1_sizeOf 1 = .ok (.aload_n 0, 1) := by decide +kernel
theorem dX1_sizeOf_2 : decode cX1_sizeOf 2 = .ok (.getfield 15, 3) := by decide +kernel
theorem dX1_sizeOf_5 : decode cX1_sizeOf 5 = .ok (.iload_n 1, 1) := by decide +kernel
theorem dX1_sizeOf_6 : decode cX1_sizeOf 6 = .ok (.iaload, 1) := by decide +kernel
theorem dX1_sizeOf_7 : decode cX1_sizeOf 7 = .ok (.iadd, 1) := by decide +kernel
theorem dX1_sizeOf_8 : decode cX1_sizeOf 8 = .ok (.aload_n 0, 1) := by decide +kernel
theorem dX1_sizeOf_9 : decode cX1_sizeOf 9 = .ok (.getfield 18, 3) := by decide +kernel
theorem dX1_sizeOf_12 : decode cX1_sizeOf 12 = .ok (.iload_n 1, 1) := by decide +kernel
theorem dX1_sizeOf_13 : decode cX1_sizeOf 13 = .ok (.iaload, 1) := by decide +kernel
theorem dX1_sizeOf_14 : decode cX1_sizeOf 14 = .ok (.iadd, 1) := by decide +kernel
theorem dX1_sizeOf_15 : decode cX1_sizeOf 15 = .ok (.ireturn, 1) := by decide +kernel
theorem dX1_objectFrom_0 : decode cX1_objectFrom 0 = .ok (.iload_n 1, 1) := by decide +kernel
theorem dX1_objectFrom_1 : decode cX1_objectFrom 1 = .ok (.istore_n 2, 1) := by decide +kernel
theorem dX1_objectFrom_2 : decode cX1_objectFrom 2 = .ok (.iload_n 2, 1) := by decide +kernel
theorem dX1_objectFrom_3 : decode cX1_objectFrom 3 = .ok (.aload_n 0, 1) := by decide +kernel
theorem dX1_objectFrom_4 : decode cX1_objectFrom 4 = .ok (.getfield 42, 3) := by decide +kernel
theorem dX1_objectFrom_7 : decode cX1_objectFrom 7 = .ok (.if_icmp .ge 19, 3) := by decide +kernel
theorem dX1_objectFrom_10 : decode cX1_objectFrom 10 = .ok (.aload_n 0, 1) := by decide +kernel
theorem dX1_objectFrom_11 : decode cX1_objectFrom 11 = .ok (.iload_n 2, 1) := by decide +kernel
theorem dX1_objectFrom_12 : decode cX1_objectFrom 12 = .ok (.invokevirtual 74, 3) := by decide +kernel
theorem dX1_objectFrom_15 : decode cX1_objectFrom 15 = .ok (.ifCond .eq 5, 3) := by decide +kernel
theorem dX1_objectFrom_18 : decode cX1_objectFrom 18 = .ok (.iload_n 2, 1) := by decide +kernel
theorem dX1_objectFrom_19 : decode cX1_objectFrom 19 = .ok (.ireturn, 1) := by decide +kernel
theorem dX1_objectFrom_20 : decode cX1_objectFrom 20 = .ok (.iinc 2 1, 3) := by decide +kernel
theorem dX1_objectFrom_23 : decode cX1_objectFrom 23 = .ok (.goto (-21), 3) := by decide +kernel
theorem dX1_objectFrom_26 : decode cX1_objectFrom 26 = .ok (.iconst (-1), 1) := by decide +kernel
theorem dX1_objectFrom_27 : decode cX1_objectFrom 27 = .ok (.ireturn, 1) := by decide +kernel
theorem dX1_roomFor_0 : decode cX1_roomFor 0 = .ok (.iconst 0, 1) := by decide +kernel
theorem dX1_roomFor_1 : decode cX1_roomFor 1 = .ok (.istore_n 2, 1) := by decide +kernel
theorem dX1_roomFor_2 : decode cX1_roomFor 2 = .ok (.iconst 0, 1) := by decide +kernel
theorem dX1_roomFor_3 : decode cX1_roomFor 3 = .ok (.istore_n 3, 1) := by decide +kernel
theorem dX1_roomFor_4 : decode cX1_roomFor 4 = .ok (.iload_n 3, 1) := by decide +kernel
theorem dX1_roomFor_5 : decode cX1_roomFor 5 = .ok (.aload_n 0, 1) := by decide +kernel
theorem dX1_roomFor_6 : decode cX1_roomFor 6 = .ok (.getfield 42, 3) := by decide +kernel
theorem dX1_roomFor_9 : decode cX1_roomFor 9 = .ok (.if_icmp .ge 38, 3) := by decide +kernel
theorem dX1_roomFor_12 : decode cX1_roomFor 12 = .ok (.aload_n 0, 1) := by decide +kernel
theorem dX1_roomFor_13 : decode cX1_roomFor 13 = .ok (.getfield 9, 3) := by decide +kernel
theorem dX1_roomFor_16 : decode cX1_roomFor 16 = .ok (.iload_n 3, 1) := by decide +kernel
theorem dX1_roomFor_17 : decode cX1_roomFor 17 = .ok (.iaload, 1) := by decide +kernel
theorem dX1_roomFor_18 : decode cX1_roomFor 18 = .ok (.iconst (-1), 1) := by decide +kernel
theorem dX1_roomFor_19 : decode cX1_roomFor 19 = .ok (.if_icmp .ne 9, 3) := by decide +kernel
theorem dX1_roomFor_22 : decode cX1_roomFor 22 = .ok (.iload_n 2, 1) := by decide +kernel
theorem dX1_roomFor_23 : decode cX1_roomFor 23 = .ok (.iconst 1, 1) := by decide +kernel
theorem dX1_roomFor_24 : decode cX1_roomFor 24 = .ok (.iadd, 1) := by decide +kernel
theorem dX1_roomFor_25 : decode cX1_roomFor 25 = .ok (.goto 4, 3) := by decide +kernel
theorem dX1_roomFor_28 : decode cX1_roomFor 28 = .ok (.iconst 0, 1) := by decide +kernel
theorem dX1_roomFor_29 : decode cX1_roomFor 29 = .ok (.istore_n 2, 1) := by decide +kernel
theorem dX1_roomFor_30 : decode cX1_roomFor 30 = .ok (.iload_n 2, 1) := by decide +kernel
theorem dX1_roomFor_31 : decode cX1_roomFor 31 = .ok (.iload_n 1, 1) := by decide +kernel
theorem dX1_roomFor_32 : decode cX1_roomFor 32 = .ok (.if_icmp .ne 9, 3) := by decide +kernel
theorem dX1_roomFor_35 : decode cX1_roomFor 35 = .ok (.iload_n 3, 1) := by decide +kernel
theorem dX1_roomFor_36 : decode cX1_roomFor 36 = .ok (.iconst 1, 1) := by decide +kernel
theorem dX1_roomFor_37 : decode cX1_roomFor 37 = .ok (.iadd, 1) := by decide +kernel
theorem dX1_roomFor_38 : decode cX1_roomFor 38 = .ok (.iload_n 1, 1) := by decide +kernel
theorem dX1_roomFor_39 : decode cX1_roomFor 39 = .ok (.isub, 1) := by decide +kernel
theorem dX1_roomFor_40 : decode cX1_roomFor 40 = .ok (.ireturn, 1) := by decide +kernel
theorem dX1_roomFor_41 : decode cX1_roomFor 41 = .ok (.iinc 3 1, 3) := by decide +kernel
theorem dX1_roomFor_44 : decode cX1_roomFor 44 = .ok (.goto (-40), 3) := by decide +kernel
theorem dX1_roomFor_47 : decode cX1_roomFor 47 = .ok (.iconst (-1), 1) := by decide +kernel
theorem dX1_roomFor_48 : decode cX1_roomFor 48 = .ok (.ireturn, 1) := by decide +kernel
theorem dX1_place_0 : decode cX1_place 0 = .ok (.aload_n 0, 1) := by decide +kernel
theorem dX1_place_1 : decode cX1_place 1 = .ok (.getfield 15, 3) := by decide +kernel
theorem dX1_place_4 : decode cX1_place 4 = .ok (.iload_n 1, 1) := by decide +kernel
theorem dX1_place_5 : decode cX1_place 5 = .ok (.iload_n 2, 1) := by decide +kernel
theorem dX1_place_6 : decode cX1_place 6 = .ok (.iastore, 1) := by decide +kernel
theorem dX1_place_7 : decode cX1_place 7 = .ok (.aload_n 0, 1) := by decide +kernel
theorem dX1_place_8 : decode cX1_place 8 = .ok (.getfield 18, 3) := by decide +kernel
theorem dX1_place_11 : decode cX1_place 11 = .ok (.iload_n 1, 1) := by decide +kernel
theorem dX1_place_12 : decode cX1_place 12 = .ok (.iload_n 3, 1) := by decide +kernel
theorem dX1_place_13 : decode cX1_place 13 = .ok (.iastore, 1) := by decide +kernel
theorem dX1_place_14 : decode cX1_place 14 = .ok (.aload_n 0, 1) := by decide +kernel
theorem dX1_place_15 : decode cX1_place 15 = .ok (.getfield 21, 3) := by decide +kernel
theorem dX1_place_18 : decode cX1_place 18 = .ok (.iload_n 1, 1) := by decide +kernel
theorem dX1_place_19 : decode cX1_place 19 = .ok (.iconst 0, 1) := by decide +kernel
theorem dX1_place_20 : decode cX1_place 20 = .ok (.iastore, 1) := by decide +kernel
theorem dX1_place_21 : decode cX1_place 21 = .ok (.aload_n 0, 1) := by decide +kernel
theorem dX1_place_22 : decode cX1_place 22 = .ok (.getfield 24, 3) := by decide +kernel
theorem dX1_place_25 : decode cX1_place 25 = .ok (.iload_n 1, 1) := by decide +kernel
theorem dX1_place_26 : decode cX1_place 26 = .ok (.iconst 0, 1) := by decide +kernel
theorem dX1_place_27 : decode cX1_place 27 = .ok (.iastore, 1) := by decide +kernel
theorem dX1_place_28 : decode cX1_place 28 = .ok (.iload_n 1, 1) := by decide +kernel
theorem dX1_place_29 : decode cX1_place 29 = .ok (.iconst 1, 1) := by decide +kernel
theorem dX1_place_30 : decode cX1_place 30 = .ok (.iadd, 1) := by decide +kernel
theorem dX1_place_31 : decode cX1_place 31 = .ok (.iload_n 2, 1) := by decide +kernel
theorem dX1_place_32 : decode cX1_place 32 = .ok (.iadd, 1) := by decide +kernel
theorem dX1_place_33 : decode cX1_place 33 = .ok (.istore 4, 2) := by decide +kernel
theorem dX1_place_35 : decode cX1_place 35 = .ok (.aload_n 0, 1) := by decide +kernel
theorem dX1_place_36 : decode cX1_place 36 = .ok (.getfield 27, 3) := by decide +kernel
theorem dX1_place_39 : decode cX1_place 39 = .ok (.iload_n 1, 1) := by decide +kernel
theorem dX1_place_40 : decode cX1_place 40 = .ok (.iconst 1, 1) := by decide +kernel
theorem dX1_place_41 : decode cX1_place 41 = .ok (.iadd, 1) := by decide +kernel
theorem dX1_place_42 : decode cX1_place 42 = .ok (.iload 4, 2) := by decide +kernel
theorem dX1_place_44 : decode cX1_place 44 = .ok (.iconst (-1), 1) := by decide +kernel
theorem dX1_place_45 : decode cX1_place 45 = .ok (.invokestatic 81, 3) := by decide +kernel
theorem dX1_place_48 : decode cX1_place 48 = .ok (.aload_n 0, 1) := by decide +kernel
theorem dX1_place_49 : decode cX1_place 49 = .ok (.getfield 27, 3) := by decide +kernel
theorem dX1_place_52 : decode cX1_place 52 = .ok (.iload 4, 2) := by decide +kernel
theorem dX1_place_54 : decode cX1_place 54 = .ok (.iload 4, 2) := by decide +kernel
theorem dX1_place_56 : decode cX1_place 56 = .ok (.iload_n 3, 1) := by decide +kernel
theorem dX1_place_57 : decode cX1_place 57 = .ok (.iadd, 1) := by decide +kernel
theorem dX1_place_58 : decode cX1_place 58 = .ok (.iconst 0, 1) := by decide +kernel
theorem dX1_place_59 : decode cX1_place 59 = .ok (.invokestatic 81, 3) := by decide +kernel
theorem dX1_place_62 : decode cX1_place 62 = .ok (.aload_n 0, 1) := by decide +kernel
theorem dX1_place_63 : decode cX1_place 63 = .ok (.iload_n 1, 1) := by decide +kernel
theorem dX1_place_64 : decode cX1_place 64 = .ok (.invokevirtual 84, 3) := by decide +kernel
theorem dX1_place_67 : decode cX1_place 67 = .ok (.aload_n 0, 1) := by decide +kernel
theorem dX1_place_68 : decode cX1_place 68 = .ok (.dup, 1) := by decide +kernel
theorem dX1_place_69 : decode cX1_place 69 = .ok (.getfield 49, 3) := by decide +kernel
theorem dX1_place_72 : decode cX1_place 72 = .ok (.iconst 1, 1) := by decide +kernel
theorem dX1_place_73 : decode cX1_place 73 = .ok (.iadd, 1) := by decide +kernel
theorem dX1_place_74 : decode cX1_place 74 = .ok (.putfield 49, 3) := by decide +kernel
theorem dX1_place_77 : decode cX1_place 77 = .ok (.return_, 1) := by decide +kernel
theorem dX1_shift_0 : decode cX1_shift 0 = .ok (.aload_n 0, 1) := by decide +kernel
theorem dX1_shift_1 : decode cX1_shift 1 = .ok (.getfield 15, 3) := by decide +kernel
theorem dX1_shift_4 : decode cX1_shift 4 = .ok (.iload_n 2, 1) := by decide +kernel
theorem dX1_shift_5 : decode cX1_shift 5 = .ok (.aload_n 0, 1) := by decide +kernel
theorem dX1_shift_6 : decode cX1_shift 6 = .ok (.getfield 15, 3) := by decide +kernel
theorem dX1_shift_9 : decode cX1_shift 9 = .ok (.iload_n 1, 1) := by decide +kernel
theorem dX1_shift_10 : decode cX1_shift 10 = .ok (.iaload, 1) := by decide +kernel
theorem dX1_shift_11 : decode cX1_shift 11 = .ok (.iastore, 1) := by decide +kernel
theorem dX1_shift_12 : decode cX1_shift 12 = .ok (.aload_n 0, 1) := by decide +kernel
theorem dX1_shift_13 : decode cX1_shift 13 = .ok (.getfield 18, 3) := by decide +kernel
theorem dX1_shift_16 : decode cX1_shift 16 = .ok (.iload_n 2, 1) := by decide +kernel
theorem dX1_shift_17 : decode cX1_shift 17 = .ok (.aload_n 0, 1) := by decide +kernel
theorem dX1_shift_18 : decode cX1_shift 18 = .ok (.getfield 18, 3) := by decide +kernel
theorem dX1_shift_21 : decode cX1_shift 21 = .ok (.iload_n 1, 1) := by decide +kernel
theorem dX1_shift_22 : decode cX1_shift 22 = .ok (.iaload, 1) := by decide +kernel
theorem dX1_shift_23 : decode cX1_shift 23 = .ok (.iastore, 1) := by decide +kernel
theorem dX1_shift_24 : decode cX1_shift 24 = .ok (.aload_n 0, 1) := by decide +kernel
theorem dX1_shift_25 : decode cX1_shift 25 = .ok (.getfield 21, 3) := by decide +kernel
theorem dX1_shift_28 : decode cX1_shift 28 = .ok (.iload_n 2, 1) := by decide +kernel
theorem dX1_shift_29 : decode cX1_shift 29 = .ok (.aload_n 0, 1) := by decide +kernel
theorem dX1_shift_30 : decode cX1_shift 30 = .ok (.getfield 21, 3) := by decide +kernel
theorem dX1_shift_33 : decode cX1_shift 33 = .ok (.iload_n 1, 1) := by decide +kernel
theorem dX1_shift_34 : decode cX1_shift 34 = .ok (.iaload, 1) := by decide +kernel
theorem dX1_shift_35 : decode cX1_shift 35 = .ok (.iastore, 1) := by decide +kernel
theorem dX1_shift_36 : decode cX1_shift 36 = .ok (.aload_n 0, 1) := by decide +kernel
theorem dX1_shift_37 : decode cX1_shift 37 = .ok (.getfield 24, 3) := by decide +kernel
theorem dX1_shift_40 : decode cX1_shift 40 = .ok (.iload_n 2, 1) := by decide +kernel
theorem dX1_shift_41 : decode cX1_shift 41 = .ok (.aload_n 0, 1) := by decide +kernel
theorem dX1_shift_42 : decode cX1_shift 42 = .ok (.getfield 24, 3) := by decide +kernel
theorem dX1_shift_45 : decode cX1_shift 45 = .ok (.iload_n 1, 1) := by decide +kernel
theorem dX1_shift_46 : decode cX1_shift 46 = .ok (.iaload, 1) := by decide +kernel
theorem dX1_shift_47 : decode cX1_shift 47 = .ok (.iconst 1, 1) := by decide +kernel
theorem dX1_shift_48 : decode cX1_shift 48 = .ok (.iadd, 1) := by decide +kernel
theorem dX1_shift_49 : decode cX1_shift 49 = .ok (.iastore, 1) := by decide +kernel
theorem dX1_shift_50 : decode cX1_shift 50 = .ok (.aload_n 0, 1) := by decide +kernel
theorem dX1_shift_51 : decode cX1_shift 51 = .ok (.getfield 27, 3) := by decide +kernel
theorem dX1_shift_54 : decode cX1_shift 54 = .ok (.iload_n 1, 1) := by decide +kernel
theorem dX1_shift_55 : decode cX1_shift 55 = .ok (.aload_n 0, 1) := by decide +kernel
theorem dX1_shift_56 : decode cX1_shift 56 = .ok (.getfield 27, 3) := by decide +kernel
theorem dX1_shift_59 : decode cX1_shift 59 = .ok (.iload_n 2, 1) := by decide +kernel
theorem dX1_shift_60 : decode cX1_shift 60 = .ok (.aload_n 0, 1) := by decide +kernel
theorem dX1_shift_61 : decode cX1_shift 61 = .ok (.iload_n 2, 1) := by decide +kernel
theorem dX1_shift_62 : decode cX1_shift 62 = .ok (.invokevirtual 88, 3) := by decide +kernel
theorem dX1_shift_65 : decode cX1_shift 65 = .ok (.invokestatic 64, 3) := by decide +kernel
theorem dX1_shift_68 : decode cX1_shift 68 = .ok (.aload_n 0, 1) := by decide +kernel
theorem dX1_shift_69 : decode cX1_shift 69 = .ok (.iload_n 2, 1) := by decide +kernel
theorem dX1_shift_70 : decode cX1_shift 70 = .ok (.invokevirtual 84, 3) := by decide +kernel
theorem dX1_shift_73 : decode cX1_shift 73 = .ok (.return_, 1) := by decide +kernel
theorem dX1_own_0 : decode cX1_own 0 = .ok (.aload_n 0, 1) := by decide +kernel
theorem dX1_own_1 : decode cX1_own 1 = .ok (.getfield 9, 3) := by decide +kernel
theorem dX1_own_4 : decode cX1_own 4 = .ok (.iload_n 1, 1) := by decide +kernel
theorem dX1_own_5 : decode cX1_own 5 = .ok (.iload_n 1, 1) := by decide +kernel
theorem dX1_own_6 : decode cX1_own 6 = .ok (.aload_n 0, 1) := by decide +kernel
theorem dX1_own_7 : decode cX1_own 7 = .ok (.iload_n 1, 1) := by decide +kernel
theorem dX1_own_8 : decode cX1_own 8 = .ok (.invokevirtual 88, 3) := by decide +kernel
theorem dX1_own_11 : decode cX1_own 11 = .ok (.iadd, 1) := by decide +kernel
theorem dX1_own_12 : decode cX1_own 12 = .ok (.iload_n 1, 1) := by decide +kernel
theorem dX1_own_13 : decode cX1_own 13 = .ok (.invokestatic 81, 3) := by decide +kernel
theorem dX1_own_16 : decode cX1_own 16 = .ok (.return_, 1) := by decide +kernel
theorem dX1_usedWords_0 : decode cX1_usedWords 0 = .ok (.iconst 0, 1) := by decide +kernel
theorem dX1_usedWords_1 : decode cX1_usedWords 1 = .ok (.istore_n 1, 1) := by decide +kernel
theorem dX1_usedWords_2 : decode cX1_usedWords 2 = .ok (.iconst 0, 1) := by decide +kernel
theorem dX1_usedWords_3 : decode cX1_usedWords 3 = .ok (.istore_n 2, 1) := by decide +kernel
theorem dX1_usedWords_4 : decode cX1_usedWords 4 = .ok (.iload_n 2, 1) := by decide +kernel
theorem dX1_usedWords_5 : decode cX1_usedWords 5 = .ok (.aload_n 0, 1) := by decide +kernel
theorem dX1_usedWords_6 : decode cX1_usedWords 6 = .ok (.getfield 42, 3) := by decide +kernel
theorem dX1_usedWords_9 : decode cX1_usedWords 9 = .ok (.if_icmp .ge 22, 3) := by decide +kernel
theorem dX1_usedWords_12 : decode cX1_usedWords 12 = .ok (.aload_n 0, 1) := by decide +kernel
theorem dX1_usedWords_13 : decode cX1_usedWords 13 = .ok (.getfield 9, 3) := by decide +kernel
theorem dX1_usedWords_16 : decode cX1_usedWords 16 = .ok (.iload_n 2, 1) := by decide +kernel
theorem dX1_usedWords_17 : decode cX1_usedWords 17 = .ok (.iaload, 1) := by decide +kernel
theorem dX1_usedWords_18 : decode cX1_usedWords 18 = .ok (.iconst (-1), 1) := by decide +kernel
theorem dX1_usedWords_19 : decode cX1_usedWords 19 = .ok (.if_icmp .eq 6, 3) := by decide +kernel
theorem dX1_usedWords_22 : decode cX1_usedWords 22 = .ok (.iinc 1 1, 3) := by decide +kernel
theorem dX1_usedWords_25 : decode cX1_usedWords 25 = .ok (.iinc 2 1, 3) := by decide +kernel
theorem dX1_usedWords_28 : decode cX1_usedWords 28 = .ok (.goto (-24), 3) := by decide +kernel
theorem dX1_usedWords_31 : decode cX1_usedWords 31 = .ok (.iload_n 1, 1) := by decide +kernel
theorem dX1_usedWords_32 : decode cX1_usedWords 32 = .ok (.ireturn, 1) := by decide +kernel
theorem dX1_objectCount_0 : decode cX1_objectCount 0 = .ok (.iconst 0, 1) := by decide +kernel
theorem dX1_objectCount_1 : decode cX1_objectCount 1 = .ok (.istore_n 1, 1) := by decide +kernel
theorem dX1_objectCount_2 : decode cX1_objectCount 2 = .ok (.iconst 0, 1) := by decide +kernel
theorem dX1_objectCount_3 : decode cX1_objectCount 3 = .ok (.istore_n 2, 1) := by decide +kernel
theorem dX1_objectCount_4 : decode cX1_objectCount 4 = .ok (.iload_n 2, 1) := by decide +kernel
theorem dX1_objectCount_5 : decode cX1_objectCount 5 = .ok (.aload_n 0, 1) := by decide +kernel
theorem dX1_objectCount_6 : decode cX1_objectCount 6 = .ok (.getfield 42, 3) := by decide +kernel
theorem dX1_objectCount_9 : decode cX1_objectCount 9 = .ok (.if_icmp .ge 20, 3) := by decide +kernel
theorem dX1_objectCount_12 : decode cX1_objectCount 12 = .ok (.aload_n 0, 1) := by decide +kernel
theorem dX1_objectCount_13 : decode cX1_objectCount 13 = .ok (.iload_n 2, 1) := by decide +kernel
theorem dX1_objectCount_14 : decode cX1_objectCount 14 = .ok (.invokevirtual 74, 3) := by decide +kernel
theorem dX1_objectCount_17 : decode cX1_objectCount 17 = .ok (.ifCond .eq 6, 3) := by decide +kernel
theorem dX1_objectCount_20 : decode cX1_objectCount 20 = .ok (.iinc 1 1, 3) := by decide +kernel
theorem dX1_objectCount_23 : decode cX1_objectCount 23 = .ok (.iinc 2 1, 3) := by decide +kernel
theorem dX1_objectCount_26 : decode cX1_objectCount 26 = .ok (.goto (-22), 3) := by decide +kernel
theorem dX1_objectCount_29 : decode cX1_objectCount 29 = .ok (.iload_n 1, 1) := by decide +kernel
theorem dX1_objectCount_30 : decode cX1_objectCount 30 = .ok (.ireturn, 1) := by decide +kernel
theorem dX1_pinnedCount_0 : decode cX1_pinnedCount 0 = .ok (.iconst 0, 1) := by decide +kernel
theorem dX1_pinnedCount_1 : decode cX1_pinnedCount 1 = .ok (.istore_n 1, 1) := by decide +kernel
theorem dX1_pinnedCount_2 : decode cX1_pinnedCount 2 = .ok (.iconst 0, 1) := by decide +kernel
theorem dX1_pinnedCount_3 : decode cX1_pinnedCount 3 = .ok (.istore_n 2, 1) := by decide +kernel
theorem dX1_pinnedCount_4 : decode cX1_pinnedCount 4 = .ok (.iload_n 2, 1) := by decide +kernel
theorem dX1_pinnedCount_5 : decode cX1_pinnedCount 5 = .ok (.aload_n 0, 1) := by decide +kernel
theorem dX1_pinnedCount_6 : decode cX1_pinnedCount 6 = .ok (.getfield 42, 3) := by decide +kernel
theorem dX1_pinnedCount_9 : decode cX1_pinnedCount 9 = .ok (.if_icmp .ge 20, 3) := by decide +kernel
theorem dX1_pinnedCount_12 : decode cX1_pinnedCount 12 = .ok (.aload_n 0, 1) := by decide +kernel
theorem dX1_pinnedCount_13 : decode cX1_pinnedCount 13 = .ok (.iload_n 2, 1) := by decide +kernel
theorem dX1_pinnedCount_14 : decode cX1_pinnedCount 14 = .ok (.invokevirtual 91, 3) := by decide +kernel
theorem dX1_pinnedCount_17 : decode cX1_pinnedCount 17 = .ok (.ifCond .eq 6, 3) := by decide +kernel
theorem dX1_pinnedCount_20 : decode cX1_pinnedCount 20 = .ok (.iinc 1 1, 3) := by decide +kernel
theorem dX1_pinnedCount_23 : decode cX1_pinnedCount 23 = .ok (.iinc 2 1, 3) := by decide +kernel
theorem dX1_pinnedCount_26 : decode cX1_pinnedCount 26 = .ok (.goto (-22), 3) := by decide +kernel
theorem dX1_pinnedCount_29 : decode cX1_pinnedCount 29 = .ok (.iload_n 1, 1) := by decide +kernel
theorem dX1_pinnedCount_30 : decode cX1_pinnedCount 30 = .ok (.ireturn, 1) := by decide +kernel
set_option maxRecDepth 20000 in
theorem ggX2_measure_J7_fill_53178 : GoodIn wsX2_measure wsJ7_fill_53178 := goodIn_r _ [7] (by decide +kernel) (by decide +kernel)
set_option maxRecDepth 20000 in
theorem gX2_measure_J7_fill_53178 : GoodIn wsX2_measure (va_wsS RX2 15 yJ7_fill_53178 wsJ7_fill_53178) := goodIn_app (goodIn_of _ (by decide +kernel)) ggX2_measure_J7_fill_53178
set_option maxRecDepth 20000 in
theorem ggX2_measure_X2_include : GoodIn wsX2_measure wsX2_include := goodIn_r _ [12, 1, 13, 14, 15, 16, 17] (by decide +kernel) (by decide +kernel)
set_option maxRecDepth 20000 in
theorem gX2_measure_X2_include : GoodIn wsX2_measure (wsV RX2 30 RX2 yX2_include wsX2_include) := goodIn_app (goodIn_of _ (by decide +kernel)) ggX2_measure_X2_include
theorem dX2_init_0 : decode cX2_init 0 = .ok (.aload_n 0, 1) := by decide +kernel
theorem dX2_init_1 : decode cX2_init 1 = .ok (.invokespecial 3, 3) := by decide +kernel
theorem dX2_init_4 : decode cX2_init 4 = .ok (.aload_n 0, 1) := by decide +kernel
theorem dX2_init_5 : decode cX2_init 5 = .ok (.iconst 5, 1) := by decide +kernel
theorem dX2_init_6 : decode cX2_init 6 = .ok (.newarray .int, 2) := by decide +kernel
theorem dX2_init_8 : decode cX2_init 8 = .ok (.putfield 9, 3) := by decide +kernel
theorem dX2_init_11 : decode cX2_init 11 = .ok (.return_, 1) := by decide +kernel
theorem dX2_measure_0 : decode cX2_measure 0 = .ok (.aload_n 0, 1) := by decide +kernel
theorem dX2_measure_1 : decode cX2_measure 1 = .ok (.getfield 9, 3) := by decide +kernel
theorem dX2_measure_4 : decode cX2_measure 4 = .ok (.iconst 0, 1) := by decide +kernel
theorem dX2_measure_5 : decode cX2_measure 5 = .ok (.invokestatic 15, 3) := by decide +kernel
theorem dX2_measure_8 : decode cX2_measure 8 = .ok (.aload_n 0, 1) := by decide +kernel
theorem dX2_measure_9 : decode cX2_measure 9 = .ok (.getfield 9, 3) := by decide +kernel
theorem dX2_measure_12 : decode cX2_measure 12 = .ok (.iconst 3, 1) := by decide +kernel
theorem dX2_measure_13 : decode cX2_measure 13 = .ok (.iconst (-1), 1) := by decide +kernel
theorem dX2_measure_14 : decode cX2_measure 14 = .ok (.iastore, 1) := by decide +kernel
theorem dX2_measure_15 : decode cX2_measure 15 = .ok (.iconst 0, 1) := by decide +kernel
theorem dX2_measure_16 : decode cX2_measure 16 = .ok (.istore_n 2, 1) := by decide +kernel
theorem dX2_measure_17 : decode cX2_measure 17 = .ok (.iconst 0, 1) := by decide +kernel
theorem dX2_measure_18 : decode cX2_measure 18 = .ok (.istore_n 3, 1) := by decide +kernel
theorem dX2_measure_19 : decode cX2_measure 19 = .ok (.iload_n 3, 1) := by decide +kernel
theorem dX2_measure_20 : decode cX2_measure 20 = .ok (.aload_n 1, 1) := by decide +kernel
theorem dX2_measure_21 : decode cX2_measure 21 = .ok (.getfield 21, 3) := by decide +kernel
theorem dX2_measure_24 : decode cX2_measure 24 = .ok (.if_icmp .ge 35, 3) := by decide +kernel
theorem dX2_measure_27 : decode cX2_measure 27 = .ok (.aload_n 1, 1) := by decide +kernel
theorem dX2_measure_28 : decode cX2_measure 28 = .ok (.getfield 27, 3) := by decide +kernel
theorem dX2_measure_31 : decode cX2_measure 31 = .ok (.iload_n 3, 1) := by decide +kernel
theorem dX2_measure_32 : decode cX2_measure 32 = .ok (.iaload, 1) := by decide +kernel
theorem dX2_measure_33 : decode cX2_measure 33 = .ok (.iconst (-1), 1) := by decide +kernel
theorem dX2_measure_34 : decode cX2_measure 34 = .ok (.if_icmp .ne 9, 3) := by decide +kernel
theorem dX2_measure_37 : decode cX2_measure 37 = .ok (.iinc 2 1, 3) := by decide +kernel
theorem dX2_measure_40 : decode cX2_measure 40 = .ok (.goto 13, 3) := by decide +kernel
theorem dX2_measure_43 : decode cX2_measure 43 = .ok (.aload_n 0, 1) := by decide +kernel
theorem dX2_measure_44 : decode cX2_measure 44 = .ok (.iload_n 3, 1) := by decide +kernel
theorem dX2_measure_45 : decode cX2_measure 45 = .ok (.iload_n 2, 1) := by decide +kernel
theorem dX2_measure_46 : decode cX2_measure 46 = .ok (.isub, 1) := by decide +kernel
theorem dX2_measure_47 : decode cX2_measure 47 = .ok (.iload_n 2, 1) := by decide +kernel
theorem dX2_measure_48 : decode cX2_measure 48 = .ok (.invokevirtual 30, 3) := by decide +kernel
theorem dX2_measure_51 : decode cX2_measure 51 = .ok (.iconst 0, 1) := by decide +kernel
theorem dX2_measure_52 : decode cX2_measure 52 = .ok (.istore_n 2, 1) := by decide +kernel
theorem dX2_measure_53 : decode cX2_measure 53 = .ok (.iinc 3 1, 3) := by decide +kernel
theorem dX2_measure_56 : decode cX2_measure 56 = .ok (.goto (-37), 3) := by decide +kernel
theorem dX2_measure_59 : decode cX2_measure 59 = .ok (.aload_n 0, 1) := by decide +kernel
theorem dX2_measure_60 : decode cX2_measure 60 = .ok (.aload_n 1, 1) := by decide +kernel
theorem dX2_measure_61 : decode cX2_measure 61 = .ok (.getfield 21, 3) := by decide +kernel
theorem dX2_measure_64 : decode cX2_measure 64 = .ok (.iload_n 2, 1) := by decide +kernel
theorem dX2_measure_65 : decode cX2_measure 65 = .ok (.isub, 1) := by decide +kernel
theorem dX2_measure_66 : decode cX2_measure 66 = .ok (.iload_n 2, 1) := by decide +kernel
theorem dX2_measure_67 : decode cX2_measure 67 = .ok (.invokevirtual 30, 3) := by decide +kernel
theorem dX2_measure_70 : decode cX2_measure 70 = .ok (.return_, 1) := by decide +kernel
theorem dX2_include_0 : decode cX2_include 0 = .ok (.iload_n 2, 1) := by decide +kernel
theorem dX2_include_1 : decode cX2_include 1 = .ok (.ifCond .ne 4, 3) := by decide +kernel
theorem dX2_include_4 : decode cX2_include 4 = .ok (.return_, 1) := by decide +kernel
theorem dX2_include_5 : decode cX2_include 5 = .ok (.aload_n 0, 1) := by decide +kernel
theorem dX2_include_6 : decode cX2_include 6 = .ok (.getfield 9, 3) := by decide +kernel
theorem dX2_include_9 : decode cX2_include 9 = .ok (.iconst 0, 1) := by decide +kernel
theorem dX2_include_10 : decode cX2_include 10 = .ok (.dup2, 1) := by decide +kernel
theorem dX2_include_11 : decode cX2_include 11 = .ok (.iaload, 1) := by decide +kernel
theorem dX2_include_12 : decode cX2_include 12 = .ok (.iload_n 2, 1) := by decide +kernel
theorem dX2_include_13 : decode cX2_include 13 = .ok (.iadd, 1) := by decide +kernel
theorem dX2_include_14 : decode cX2_include 14 = .ok (.iastore, 1) := by decide +kernel
theorem dX2_include_15 : decode cX2_include 15 = .ok (.aload_n 0, 1) := by decide +kernel
theorem dX2_include_16 : decode cX2_include 16 = .ok (.getfield 9, 3) := by decide +kernel
theorem dX2_include_19 : decode cX2_include 19 = .ok (.iconst 1, 1) := by decide +kernel
theorem dX2_include_20 : decode cX2_include 20 = .ok (.dup2, 1) := by decide +kernel
theorem dX2_include_21 : decode cX2_include 21 = .ok (.iaload, 1) := by decide +kernel
theorem dX2_include_22 : decode cX2_include 22 = .ok (.iconst 1, 1) := by decide +kernel
theorem dX2_include_23 : decode cX2_include 23 = .ok (.iadd, 1) := by decide +kernel
theorem dX2_include_24 : decode cX2_include 24 = .ok (.iastore, 1) := by decide +kernel
theorem dX2_include_25 : decode cX2_include 25 = .ok (.aload_n 0, 1) := by decide +kernel
theorem dX2_include_26 : decode cX2_include 26 = .ok (.getfield 9, 3) := by decide +kernel
theorem dX2_include_29 : decode cX2_include 29 = .ok (.iconst 2, 1) := by decide +kernel
theorem dX2_include_30 : decode cX2_include 30 = .ok (.aload_n 0, 1) := by decide +kernel
theorem dX2_include_31 : decode cX2_include 31 = .ok (.getfield 9, 3) := by decide +kernel
theorem dX2_include_34 : decode cX2_include 34 = .ok (.iconst 2, 1) := by decide +kernel
theorem dX2_include_35 : decode cX2_include 35 = .ok (.iaload, 1) := by decide +kernel
theorem dX2_include_36 : decode cX2_include 36 = .ok (.iload_n 2, 1) := by decide +kernel
theorem dX2_include_37 : decode cX2_include 37 = .ok (.invokestatic 34, 3) := by decide +kernel
theorem dX2_include_40 : decode cX2_include 40 = .ok (.iastore, 1) := by decide +kernel
theorem dX2_include_41 : decode cX2_include 41 = .ok (.aload_n 0, 1) := by decide +kernel
theorem dX2_include_42 : decode cX2_include 42 = .ok (.getfield 9, 3) := by decide +kernel
theorem dX2_include_45 : decode cX2_include 45 = .ok (.iconst 3, 1) := by decide +kernel
theorem dX2_include_46 : decode cX2_include 46 = .ok (.iaload, 1) := by decide +kernel
theorem dX2_include_47 : decode cX2_include 47 = .ok (.iconst (-1), 1) := by decide +kernel
theorem dX2_include_48 : decode cX2_include 48 = .ok (.if_icmp .ne 10, 3) := by decide +kernel
theorem dX2_include_51 : decode cX2_include 51 = .ok (.aload_n 0, 1) := by decide +kernel
theorem dX2_include_52 : decode cX2_include 52 = .ok (.getfield 9, 3) := by decide +kernel
theorem dX2_include_55 : decode cX2_include 55 = .ok (.iconst 3, 1) := by decide +kernel
theorem dX2_include_56 : decode cX2_include 56 = .ok (.iload_n 1, 1) := by decide +kernel
theorem dX2_include_57 : decode cX2_include 57 = .ok (.iastore, 1) := by decide +kernel
theorem dX2_include_58 : decode cX2_include 58 = .ok (.aload_n 0, 1) := by decide +kernel
theorem dX2_include_59 : decode cX2_include 59 = .ok (.getfield 9, 3) := by decide +kernel
theorem dX2_include_62 : decode cX2_include 62 = .ok (.iconst 4, 1) := by decide +kernel
theorem dX2_include_63 : decode cX2_include 63 = .ok (.dup2, 1) := by decide +kernel
theorem dX2_include_64 : decode cX2_include 64 = .ok (.iaload, 1) := by decide +kernel
theorem dX2_include_65 : decode cX2_include 65 = .ok (.iload_n 2, 1) := by decide +kernel
theorem dX2_include_66 : decode cX2_include 66 = .ok (.iconst 4, 1) := by decide +kernel
theorem dX2_include_67 : decode cX2_include 67 = .ok (.idiv, 1) := by decide +kernel
theorem dX2_include_68 : decode cX2_include 68 = .ok (.iadd, 1) := by decide +kernel
theorem dX2_include_69 : decode cX2_include 69 = .ok (.iastore, 1) := by decide +kernel
theorem dX2_include_70 : decode cX2_include 70 = .ok (.return_, 1) := by decide +kernel
set_option maxRecDepth 20000 in
theorem ggX3_trace_J7_fill_53178 : GoodIn wsX3_trace wsJ7_fill_53178 := goodIn_r _ [11] (by decide +kernel) (by decide +kernel)
set_option maxRecDepth 20000 in
theorem gX3_trace_J7_fill_53178 : GoodIn wsX3_trace (va_wsS RX3 18 yJ7_fill_53178 wsJ7_fill_53178) := goodIn_app (goodIn_of _ (by decide +kernel)) ggX3_trace_J7_fill_53178
set_option maxRecDepth 20000 in
theorem ggX3_trace_X1_objectAt : GoodIn wsX3_trace wsX1_objectAt := goodIn_r _ [16, 17, 18, 19, 20, 15, 21, 22, 40, 41, 42, 43, 44, 45, 46, 47, 48, 49, 50, 51, 52, 53, 54] (by decide +kernel) (by decide +kernel)
set_option maxRecDepth 20000 in
theorem gX3_trace_X1_objectAt : GoodIn wsX3_trace (wsV RX3 33 RX1 yX1_objectAt wsX1_objectAt) := goodIn_app (goodIn_of _ (by decide +kernel)) ggX3_trace_X1_objectAt
set_option maxRecDepth 20000 in
theorem ggX3_trace_X3_arrive : GoodIn wsX3_trace wsX3_arrive := goodIn_r _ [27, 1, 2, 5, 37, 38, 39] (by decide +kernel) (by decide +kernel)
set_option maxRecDepth 20000 in
theorem gX3_trace_X3_arrive : GoodIn wsX3_trace (wsV RX3 37 RX3 yX3_arrive wsX3_arrive) := goodIn_app (goodIn_of _ (by decide +kernel)) ggX3_trace_X3_arrive
set_option maxRecDepth 20000 in
theorem ggX3_trace_X1_isPinned : GoodIn wsX3_trace wsX1_isPinned := goodIn_r _ [31, 32, 33, 34, 35, 15, 36, 17, 18, 19, 20, 21, 22, 40, 41, 42, 43, 44, 45, 46, 47, 48, 49, 50, 51, 52, 53, 54] (by decide +kernel) (by decide +kernel)
set_option maxRecDepth 20000 in
theorem gX3_trace_X1_isPinned : GoodIn wsX3_trace (wsV RX3 44 RX1 yX1_isPinned wsX1_isPinned) := goodIn_app (goodIn_of _ (by decide +kernel)) ggX3_trace_X1_isPinned
set_option maxRecDepth 20000 in
theorem ggX3_liveWords_X1_sizeOf : GoodIn wsX3_liveWords wsX1_sizeOf := goodIn_r _ [7, 8, 9, 13, 14, 15, 16, 17, 18, 19, 20, 21, 22, 23, 24, 25, 26, 27] (by decide +kernel) (by decide +kernel)
set_option maxRecDepth 20000 in
theorem gX3_liveWords_X1_sizeOf : GoodIn wsX3_liveWords (wsV RX3 54 RX1 yX1_sizeOf wsX1_sizeOf) := goodIn_app (goodIn_of _ (by decide +kernel)) ggX3_liveWords_X1_sizeOf
theorem dX3_init_0 : decode cX3_init 0 = .ok (.aload_n 0, 1) := by decide +kernel
theorem dX3_init_1 : decode cX3_init 1 = .ok (.invokespecial 3, 3) := by decide +kernel
theorem dX3_init_4 : decode cX3_init 4 = .ok (.aload_n 0, 1) := by decide +kernel
theorem dX3_init_5 : decode cX3_init 5 = .ok (.sipush 200, 3) := by decide +kernel
theorem dX3_init_8 : decode cX3_init 8 = .ok (.newarray .int, 2) := by decide +kernel
theorem dX3_init_10 : decode cX3_init 10 = .ok (.putfield 9, 3) := by decide +kernel
theorem dX3_init_13 : decode cX3_init 13 = .ok (.aload_n 0, 1) := by decide +kernel
theorem dX3_init_14 : decode cX3_init 14 = .ok (.sipush 200, 3) := by decide +kernel
theorem dX3_init_17 : decode cX3_init 17 = .ok (.newarray .int, 2) := by decide +kernel
theorem dX3_init_19 : decode cX3_init 19 = .ok (.putfield 15, 3) := by decide +kernel
theorem dX3_init_22 : decode cX3_init 22 = .ok (.return_, 1) := by decide +kernel
theorem dX3_trace_0 : decode cX3_trace 0 = .ok (.aload_n 0, 1) := by decide +kernel
theorem dX3_trace_1 : decode cX3_trace 1 = .ok (.getfield 9, 3) := by decide +kernel
theorem dX3_trace_4 : decode cX3_trace 4 = .ok (.iconst (-1), 1) := by decide +kernel
theorem dX3_trace_5 : decode cX3_trace 5 = .ok (.invokestatic 18, 3) := by decide +kernel
theorem dX3_trace_8 : decode cX3_trace 8 = .ok (.aload_n 0, 1) := by decide +kernel
theorem dX3_trace_9 : decode cX3_trace 9 = .ok (.iconst 0, 1) := by decide +kernel
theorem dX3_trace_10 : decode cX3_trace 10 = .ok (.putfield 24, 3) := by decide +kernel
theorem dX3_trace_13 : decode cX3_trace 13 = .ok (.iconst 0, 1) := by decide +kernel
theorem dX3_trace_14 : decode cX3_trace 14 = .ok (.istore_n 3, 1) := by decide +kernel
theorem dX3_trace_15 : decode cX3_trace 15 = .ok (.iload_n 3, 1) := by decide +kernel
theorem dX3_trace_16 : decode cX3_trace 16 = .ok (.bipush 6, 2) := by decide +kernel
theorem dX3_trace_18 : decode cX3_trace 18 = .ok (.if_icmp .ge 25, 3) := by decide +kernel
theorem dX3_trace_21 : decode cX3_trace 21 = .ok (.aload_n 0, 1) := by decide +kernel
theorem dX3_trace_22 : decode cX3_trace 22 = .ok (.aload_n 1, 1) := by decide +kernel
theorem dX3_trace_23 : decode cX3_trace 23 = .ok (.aload_n 1, 1) := by decide +kernel
theorem dX3_trace_24 : decode cX3_trace 24 = .ok (.getfield 28, 3) := by decide +kernel
theorem dX3_trace_27 : decode cX3_trace 27 = .ok (.iload_n 3, 1) := by decide +kernel
theorem dX3_trace_28 : decode cX3_trace 28 = .ok (.iaload, 1) := by decide +kernel
theorem dX3_trace_29 : decode cX3_trace 29 = .ok (.invokevirtual 33, 3) := by decide +kernel
theorem dX3_trace_32 : decode cX3_trace 32 = .ok (.iconst 0, 1) := by decide +kernel
theorem dX3_trace_33 : decode cX3_trace 33 = .ok (.iload_n 2, 1) := by decide +kernel
theorem dX3_trace_34 : decode cX3_trace 34 = .ok (.invokevirtual 37, 3) := by decide +kernel
theorem dX3_trace_37 : decode cX3_trace 37 = .ok (.iinc 3 1, 3) := by decide +kernel
theorem dX3_trace_40 : decode cX3_trace 40 = .ok (.goto (-25), 3) := by decide +kernel
theorem dX3_trace_43 : decode cX3_trace 43 = .ok (.iconst 0, 1) := by decide +kernel
theorem dX3_trace_44 : decode cX3_trace 44 = .ok (.istore_n 3, 1) := by decide +kernel
theorem dX3_trace_45 : decode cX3_trace 45 = .ok (.iload_n 3, 1) := by decide +kernel
theorem dX3_trace_46 : decode cX3_trace 46 = .ok (.aload_n 1, 1) := by decide +kernel
theorem dX3_trace_47 : decode cX3_trace 47 = .ok (.getfield 41, 3) := by decide +kernel
theorem dX3_trace_50 : decode cX3_trace 50 = .ok (.if_icmp .ge 24, 3) := by decide +kernel
theorem dX3_trace_53 : decode cX3_trace 53 = .ok (.aload_n 1, 1) := by decide +kernel
theorem dX3_trace_54 : decode cX3_trace 54 = .ok (.iload_n 3, 1) := by decide +kernel
theorem dX3_trace_55 : decode cX3_trace 55 = .ok (.invokevirtual 44, 3) := by decide +kernel
theorem dX3_trace_58 : decode cX3_trace 58 = .ok (.ifCond .eq 10, 3) := by decide +kernel
theorem dX3_trace_61 : decode cX3_trace 61 = .ok (.aload_n 0, 1) := by decide +kernel
theorem dX3_trace_62 : decode cX3_trace 62 = .ok (.iload_n 3, 1) := by decide +kernel
theorem dX3_trace_63 : decode cX3_trace 63 = .ok (.iconst 0, 1) := by decide +kernel
theorem dX3_trace_64 : decode cX3_trace 64 = .ok (.iload_n 2, 1) := by decide +kernel
theorem dX3_trace_65 : decode cX3_trace 65 = .ok (.invokevirtual 37, 3) := by decide +kernel
theorem dX3_trace_68 : decode cX3_trace 68 = .ok (.iinc 3 1, 3) := by decide +kernel
theorem dX3_trace_71 : decode cX3_trace 71 = .ok (.goto (-26), 3) := by decide +kernel
theorem dX3_trace_74 : decode cX3_trace 74 = .ok (.iconst 0, 1) := by decide +kernel
theorem dX3_trace_75 : decode cX3_trace 75 = .ok (.istore_n 3, 1) := by decide +kernel
theorem dX3_trace_76 : decode cX3_trace 76 = .ok (.iload_n 3, 1) := by decide +kernel
theorem dX3_trace_77 : decode cX3_trace 77 = .ok (.sipush 200, 3) := by decide +kernel
theorem dX3_trace_80 : decode cX3_trace 80 = .ok (.if_icmp .ge 76, 3) := by decide +kernel
theorem dX3_trace_83 : decode cX3_trace 83 = .ok (.iload_n 3, 1) := by decide +kernel
theorem dX3_trace_84 : decode cX3_trace 84 = .ok (.aload_n 0, 1) := by decide +kernel
theorem dX3_trace_85 : decode cX3_trace 85 = .ok (.getfield 24, 3) := by decide +kernel
theorem dX3_trace_88 : decode cX3_trace 88 = .ok (.if_icmp .ge 68, 3) := by decide +kernel
theorem dX3_trace_91 : decode cX3_trace 91 = .ok (.aload_n 0, 1) := by decide +kernel
theorem dX3_trace_92 : decode cX3_trace 92 = .ok (.getfield 15, 3) := by decide +kernel
theorem dX3_trace_95 : decode cX3_trace 95 = .ok (.iload_n 3, 1) := by decide +kernel
theorem dX3_trace_96 : decode cX3_trace 96 = .ok (.iaload, 1) := by decide +kernel
theorem dX3_trace_97 : decode cX3_trace 97 = .ok (.istore 4, 2) := by decide +kernel
theorem dX3_trace_99 : decode cX3_trace 99 = .ok (.iconst 0, 1) := by decide +kernel
theorem dX3_trace_100 : decode cX3_trace 100 = .ok (.istore 5, 2) := by decide +kernel
theorem dX3_trace_102 : decode cX3_trace 102 = .ok (.iload 5, 2) := by decide +kernel
theorem dX3_trace_104 : decode cX3_trace 104 = .ok (.aload_n 1, 1) := by decide +kernel
theorem dX3_trace_105 : decode cX3_trace 105 = .ok (.getfield 48, 3) := by decide +kernel
theorem dX3_trace_108 : decode cX3_trace 108 = .ok (.iload 4, 2) := by decide +kernel
theorem dX3_trace_110 : decode cX3_trace 110 = .ok (.iaload, 1) := by decide +kernel
theorem dX3_trace_111 : decode cX3_trace 111 = .ok (.if_icmp .ge 39, 3) := by decide +kernel
theorem dX3_trace_114 : decode cX3_trace 114 = .ok (.aload_n 0, 1) := by decide +kernel
theorem dX3_trace_115 : decode cX3_trace 115 = .ok (.aload_n 1, 1) := by decide +kernel
theorem dX3_trace_116 : decode cX3_trace 116 = .ok (.aload_n 1, 1) := by decide +kernel
theorem dX3_trace_117 : decode cX3_trace 117 = .ok (.getfield 51, 3) := by decide +kernel
theorem dX3_trace_120 : decode cX3_trace 120 = .ok (.iload 4, 2) := by decide +kernel
theorem dX3_trace_122 : decode cX3_trace 122 = .ok (.iconst 1, 1) := by decide +kernel
theorem dX3_trace_123 : decode cX3_trace 123 = .ok (.iadd, 1) := by decide +kernel
theorem dX3_trace_124 : decode cX3_trace 124 = .ok (.iload 5, 2) := by decide +kernel
theorem dX3_trace_126 : decode cX3_trace 126 = .ok (.iadd, 1) := by decide +kernel
theorem dX3_trace_127 : decode cX3_trace 127 = .ok (.iaload, 1) := by decide +kernel
theorem dX3_trace_128 : decode cX3_trace 128 = .ok (.invokevirtual 33, 3) := by decide +kernel
theorem dX3_trace_131 : decode cX3_trace 131 = .ok (.aload_n 0, 1) := by decide +kernel
theorem dX3_trace_132 : decode cX3_trace 132 = .ok (.getfield 9, 3) := by decide +kernel
theorem dX3_trace_135 : decode cX3_trace 135 = .ok (.iload 4, 2) := by decide +kernel
theorem dX3_trace_137 : decode cX3_trace 137 = .ok (.iaload, 1) := by decide +kernel
theorem dX3_trace_138 : decode cX3_trace 138 = .ok (.iconst 1, 1) := by decide +kernel
theorem dX3_trace_139 : decode cX3_trace 139 = .ok (.iadd, 1) := by decide +kernel
theorem dX3_trace_140 : decode cX3_trace 140 = .ok (.iload_n 2, 1) := by decide +kernel
theorem dX3_trace_141 : decode cX3_trace 141 = .ok (.invokevirtual 37, 3) := by decide +kernel
theorem dX3_trace_144 : decode cX3_trace 144 = .ok (.iinc 5 1, 3) := by decide +kernel
theorem dX3_trace_147 : decode cX3_trace 147 = .ok (.goto (-45), 3) := by decide +kernel
theorem dX3_trace_150 : decode cX3_trace 150 = .ok (.iinc 3 1, 3) := by decide +kernel
theorem dX3_trace_153 : decode cX3_trace 153 = .ok (.goto (-77), 3) := by decide +kernel
theorem dX3_trace_156 : decode cX3_trace 156 = .ok (.return_, 1) := by decide +kernel
theorem dX3_arrive_0 : decode cX3_arrive 0 = .ok (.iload_n 1, 1) := by decide +kernel
theorem dX3_arrive_1 : decode cX3_arrive 1 = .ok (.iconst (-1), 1) := by decide +kernel
theorem dX3_arrive_2 : decode cX3_arrive 2 = .ok (.if_icmp .eq 28, 3) := by decide +kernel
theorem dX3_arrive_5 : decode cX3_arrive 5 = .ok (.iload_n 1, 1) := by decide +kernel
theorem dX3_arrive_6 : decode cX3_arrive 6 = .ok (.iload_n 3, 1) := by decide +kernel
theorem dX3_arrive_7 : decode cX3_arrive 7 = .ok (.if_icmp .eq 23, 3) := by decide +kernel
theorem dX3_arrive_10 : decode cX3_arrive 10 = .ok (.aload_n 0, 1) := by decide +kernel
theorem dX3_arrive_11 : decode cX3_arrive 11 = .ok (.getfield 9, 3) := by decide +kernel
theorem dX3_arrive_14 : decode cX3_arrive 14 = .ok (.iload_n 1, 1) := by decide +kernel
theorem dX3_arrive_15 : decode cX3_arrive 15 = .ok (.iaload, 1) := by decide +kernel
theorem dX3_arrive_16 : decode cX3_arrive 16 = .ok (.iconst (-1), 1) := by decide +kernel
theorem dX3_arrive_17 : decode cX3_arrive 17 = .ok (.if_icmp .ne 13, 3) := by decide +kernel
theorem dX3_arrive_20 : decode cX3_arrive 20 = .ok (.aload_n 0, 1) := by decide +kernel
theorem dX3_arrive_21 : decode cX3_arrive 21 = .ok (.getfield 24, 3) := by decide +kernel
theorem dX3_arrive_24 : decode cX3_arrive 24 = .ok (.sipush 200, 3) := by decide +kernel
theorem dX3_arrive_27 : decode cX3_arrive 27 = .ok (.if_icmp .lt 4, 3) := by decide +kernel
theorem dX3_arrive_30 : decode cX3_arrive 30 = .ok (.return_, 1) := by decide +kernel
theorem dX3_arrive_31 : decode cX3_arrive 31 = .ok (.aload_n 0, 1) := by decide +kernel
theorem dX3_arrive_32 : decode cX3_arrive 32 = .ok (.getfield 9, 3) := by decide +kernel
theorem dX3_arrive_35 : decode cX3_arrive 35 = .ok (.iload_n 1, 1) := by decide +kernel
theorem dX3_arrive_36 : decode cX3_arrive 36 = .ok (.iload_n 2, 1) := by decide +kernel
theorem dX3_arrive_37 : decode cX3_arrive 37 = .ok (.iastore, 1) := by decide +kernel
theorem dX3_arrive_38 : decode cX3_arrive 38 = .ok (.aload_n 0, 1) := by decide +kernel
theorem dX3_arrive_39 : decode cX3_arrive 39 = .ok (.getfield 15, 3) := by decide +kernel
theorem dX3_arrive_42 : decode cX3_arrive 42 = .ok (.aload_n 0, 1) := by decide +kernel
theorem dX3_arrive_43 : decode cX3_arrive 43 = .ok (.getfield 24, 3) := by decide +kernel
theorem dX3_arrive_46 : decode cX3_arrive 46 = .ok (.iload_n 1, 1) := by decide +kernel
theorem dX3_arrive_47 : decode cX3_arrive 47 = .ok (.iastore, 1) := by decide +kernel
theorem dX3_arrive_48 : decode cX3_arrive 48 = .ok (.aload_n 0, 1) := by decide +kernel
theorem dX3_arrive_49 : decode cX3_arrive 49 = .ok (.dup, 1) := by decide +kernel
theorem dX3_arrive_50 : decode cX3_arrive 50 = .ok (.getfield 24, 3) := by decide +kernel
theorem dX3_arrive_53 : decode cX3_arrive 53 = .ok (.iconst 1, 1) := by decide +kernel
theorem dX3_arrive_54 : decode cX3_arrive 54 = .ok (.iadd, 1) := by decide +kernel
theorem dX3_arrive_55 : decode cX3_arrive 55 = .ok (.putfield 24, 3) := by decide +kernel
theorem dX3_arrive_58 : decode cX3_arrive 58 = .ok (.return_, 1) := by decide +kernel
theorem dX3_liveWords_0 : decode cX3_liveWords 0 = .ok (.iconst 0, 1) := by decide +kernel
theorem dX3_liveWords_1 : decode cX3_liveWords 1 = .ok (.istore_n 2, 1) := by decide +kernel
theorem dX3_liveWords_2 : decode cX3_liveWords 2 = .ok (.iconst 0, 1) := by decide +kernel
theorem dX3_liveWords_3 : decode cX3_liveWords 3 = .ok (.istore_n 3, 1) := by decide +kernel
theorem dX3_liveWords_4 : decode cX3_liveWords 4 = .ok (.iload_n 3, 1) := by decide +kernel
theorem dX3_liveWords_5 : decode cX3_liveWords 5 = .ok (.aload_n 0, 1) := by decide +kernel
theorem dX3_liveWords_6 : decode cX3_liveWords 6 = .ok (.getfield 24, 3) := by decide +kernel
theorem dX3_liveWords_9 : decode cX3_liveWords 9 = .ok (.if_icmp .ge 22, 3) := by decide +kernel
theorem dX3_liveWords_12 : decode cX3_liveWords 12 = .ok (.iload_n 2, 1) := by decide +kernel
theorem dX3_liveWords_13 : decode cX3_liveWords 13 = .ok (.aload_n 1, 1) := by decide +kernel
theorem dX3_liveWords_14 : decode cX3_liveWords 14 = .ok (.aload_n 0, 1) := by decide +kernel
theorem dX3_liveWords_15 : decode cX3_liveWords 15 = .ok (.getfield 15, 3) := by decide +kernel
theorem dX3_liveWords_18 : decode cX3_liveWords 18 = .ok (.iload_n 3, 1) := by decide +kernel
theorem dX3_liveWords_19 : decode cX3_liveWords 19 = .ok (.iaload, 1) := by decide +kernel
theorem dX3_liveWords_20 : decode cX3_liveWords 20 = .ok (.invokevirtual 54, 3) := by decide +kernel
theorem dX3_liveWords_23 : decode cX3_liveWords 23 = .ok (.iadd, 1) := by decide +kernel
theorem dX3_liveWords_24 : decode cX3_liveWords 24 = .ok (.istore_n 2, 1) := by decide +kernel
theorem dX3_liveWords_25 : decode cX3_liveWords 25 = .ok (.iinc 3 1, 3) := by decide +kernel
theorem dX3_liveWords_28 : decode cX3_liveWords 28 = .ok (.goto (-24), 3) := by decide +kernel
theorem dX3_liveWords_31 : decode cX3_liveWords 31 = .ok (.iload_n 2, 1) := by decide +kernel
theorem dX3_liveWords_32 : decode cX3_liveWords 32 = .ok (.ireturn, 1) := by decide +kernel
set_option maxRecDepth 20000 in
theorem ggX4_tally_J7_fill_53178 : GoodIn wsX4_tally wsJ7_fill_53178 := goodIn_r _ [10] (by decide +kernel) (by decide +kernel)
set_option maxRecDepth 20000 in
theorem gX4_tally_J7_fill_53178 : GoodIn wsX4_tally (va_wsS RX4 15 yJ7_fill_53178 wsJ7_fill_53178) := goodIn_app (goodIn_of _ (by decide +kernel)) ggX4_tally_J7_fill_53178
set_option maxRecDepth 20000 in
theorem ggX4_tally_X4_tallyRow : GoodIn wsX4_tally wsX4_tallyRow := goodIn_r _ [15, 1, 16, 17, 18, 19, 20, 21, 22, 23, 24, 25, 26, 31, 32, 33, 34, 35, 36, 37, 38, 39, 40, 41, 42, 43, 44, 45, 46] (by decide +kernel) (by decide +kernel)
set_option maxRecDepth 20000 in
theorem gX4_tally_X4_tallyRow : GoodIn wsX4_tally (wsV RX4 26 RX4 yX4_tallyRow wsX4_tallyRow) := goodIn_app (goodIn_of _ (by decide +kernel)) ggX4_tally_X4_tallyRow
set_option maxRecDepth 20000 in
theorem ggX4_tally_X1_isObject : GoodIn wsX4_tally wsX1_isObject := goodIn_r _ [30, 21, 22, 23, 24, 19, 25, 26, 32, 33, 34, 35, 36, 37, 38, 39, 40, 41, 42, 43, 44, 45, 46] (by decide +kernel) (by decide +kernel)
set_option maxRecDepth 20000 in
theorem gX4_tally_X1_isObject : GoodIn wsX4_tally (wsV RX4 37 RX1 yX1_isObject wsX1_isObject) := goodIn_app (goodIn_of _ (by decide +kernel)) ggX4_tally_X1_isObject
set_option maxRecDepth 20000 in
theorem ggX4_tallyRow_X1_objectAt : GoodIn wsX4_tallyRow wsX1_objectAt := goodIn_r _ [6, 7, 8, 9, 10, 5, 11, 12, 14, 15, 16, 17, 18, 19, 20, 21, 22, 23, 24, 25, 26, 27, 28] (by decide +kernel) (by decide +kernel)
set_option maxRecDepth 20000 in
theorem gX4_tallyRow_X1_objectAt : GoodIn wsX4_tallyRow (wsV RX4 47 RX1 yX1_objectAt wsX1_objectAt) := goodIn_app (goodIn_of _ (by decide +kernel)) ggX4_tallyRow_X1_objectAt
theorem dX4_init_0 : decode cX4_init 0 = .ok (.aload_n 0, 1) := by decide +kernel
theorem dX4_init_1 : decode cX4_init 1 = .ok (.invokespecial 3, 3) := by decide +kernel
theorem dX4_init_4 : decode cX4_init 4 = .ok (.aload_n 0, 1) := by decide +kernel
theorem dX4_init_5 : decode cX4_init 5 = .ok (.sipush 200, 3) := by decide +kernel
theorem dX4_init_8 : decode cX4_init 8 = .ok (.newarray .int, 2) := by decide +kernel
theorem dX4_init_10 : decode cX4_init 10 = .ok (.putfield 9, 3) := by decide +kernel
theorem dX4_init_13 : decode cX4_init 13 = .ok (.return_, 1) := by decide +kernel
theorem dX4_tally_0 : decode cX4_tally 0 = .ok (.aload_n 0, 1) := by decide +kernel
theorem dX4_tally_1 : decode cX4_tally 1 = .ok (.getfield 9, 3) := by decide +kernel
theorem dX4_tally_4 : decode cX4_tally 4 = .ok (.iconst 0, 1) := by decide +kernel
theorem dX4_tally_5 : decode cX4_tally 5 = .ok (.invokestatic 15, 3) := by decide +kernel
theorem dX4_tally_8 : decode cX4_tally 8 = .ok (.aload_n 0, 1) := by decide +kernel
theorem dX4_tally_9 : decode cX4_tally 9 = .ok (.aload_n 1, 1) := by decide +kernel
theorem dX4_tally_10 : decode cX4_tally 10 = .ok (.aload_n 1, 1) := by decide +kernel
theorem dX4_tally_11 : decode cX4_tally 11 = .ok (.getfield 21, 3) := by decide +kernel
theorem dX4_tally_14 : decode cX4_tally 14 = .ok (.iconst 0, 1) := by decide +kernel
theorem dX4_tally_15 : decode cX4_tally 15 = .ok (.bipush 6, 2) := by decide +kernel
theorem dX4_tally_17 : decode cX4_tally 17 = .ok (.invokevirtual 26, 3) := by decide +kernel
theorem dX4_tally_20 : decode cX4_tally 20 = .ok (.aload_n 0, 1) := by decide +kernel
theorem dX4_tally_21 : decode cX4_tally 21 = .ok (.aload_n 1, 1) := by decide +kernel
theorem dX4_tally_22 : decode cX4_tally 22 = .ok (.aload_n 1, 1) := by decide +kernel
theorem dX4_tally_23 : decode cX4_tally 23 = .ok (.getfield 30, 3) := by decide +kernel
theorem dX4_tally_26 : decode cX4_tally 26 = .ok (.iconst 0, 1) := by decide +kernel
theorem dX4_tally_27 : decode cX4_tally 27 = .ok (.iconst 4, 1) := by decide +kernel
theorem dX4_tally_28 : decode cX4_tally 28 = .ok (.invokevirtual 26, 3) := by decide +kernel
theorem dX4_tally_31 : decode cX4_tally 31 = .ok (.iconst 0, 1) := by decide +kernel
theorem dX4_tally_32 : decode cX4_tally 32 = .ok (.istore_n 2, 1) := by decide +kernel
theorem dX4_tally_33 : decode cX4_tally 33 = .ok (.iload_n 2, 1) := by decide +kernel
theorem dX4_tally_34 : decode cX4_tally 34 = .ok (.aload_n 1, 1) := by decide +kernel
theorem dX4_tally_35 : decode cX4_tally 35 = .ok (.getfield 33, 3) := by decide +kernel
theorem dX4_tally_38 : decode cX4_tally 38 = .ok (.if_icmp .ge 39, 3) := by decide +kernel
theorem dX4_tally_41 : decode cX4_tally 41 = .ok (.aload_n 1, 1) := by decide +kernel
theorem dX4_tally_42 : decode cX4_tally 42 = .ok (.iload_n 2, 1) := by decide +kernel
theorem dX4_tally_43 : decode cX4_tally 43 = .ok (.invokevirtual 37, 3) := by decide +kernel
theorem dX4_tally_46 : decode cX4_tally 46 = .ok (.ifCond .eq 25, 3) := by decide +kernel
theorem dX4_tally_49 : decode cX4_tally 49 = .ok (.aload_n 0, 1) := by decide +kernel
theorem dX4_tally_50 : decode cX4_tally 50 = .ok (.aload_n 1, 1) := by decide +kernel
theorem dX4_tally_51 : decode cX4_tally 51 = .ok (.aload_n 1, 1) := by decide +kernel
theorem dX4_tally_52 : decode cX4_tally 52 = .ok (.getfield 41, 3) := by decide +kernel
theorem dX4_tally_55 : decode cX4_tally 55 = .ok (.iload_n 2, 1) := by decide +kernel
theorem dX4_tally_56 : decode cX4_tally 56 = .ok (.iconst 1, 1) := by decide +kernel
theorem dX4_tally_57 : decode cX4_tally 57 = .ok (.iadd, 1) := by decide +kernel
theorem dX4_tally_58 : decode cX4_tally 58 = .ok (.iload_n 2, 1) := by decide +kernel
theorem dX4_tally_59 : decode cX4_tally 59 = .ok (.iconst 1, 1) := by decide +kernel
theorem dX4_tally_60 : decode cX4_tally 60 = .ok (.iadd, 1) := by decide +kernel
theorem dX4_tally_61 : decode cX4_tally 61 = .ok (.aload_n 1, 1) := by decide +kernel
theorem dX4_tally_62 : decode cX4_tally 62 = .ok (.getfield 44, 3) := by decide +kernel
theorem dX4_tally_65 : decode cX4_tally 65 = .ok (.iload_n 2, 1) := by decide +kernel
theorem dX4_tally_66 : decode cX4_tally 66 = .ok (.iaload, 1) := by decide +kernel
theorem dX4_tally_67 : decode cX4_tally 67 = .ok (.iadd, 1) := by decide +kernel
theorem dX4_tally_68 : decode cX4_tally 68 = .ok (.invokevirtual 26, 3) := by decide +kernel
theorem dX4_tally_71 : decode cX4_tally 71 = .ok (.iinc 2 1, 3) := by decide +kernel
theorem dX4_tally_74 : decode cX4_tally 74 = .ok (.goto (-41), 3) := by decide +kernel
theorem dX4_tally_77 : decode cX4_tally 77 = .ok (.return_, 1) := by decide +kernel
theorem dX4_tallyRow_0 : decode cX4_tallyRow 0 = .ok (.iload_n 3, 1) := by decide +kernel
theorem dX4_tallyRow_1 : decode cX4_tallyRow 1 = .ok (.istore 5, 2) := by decide +kernel
theorem dX4_tallyRow_3 : decode cX4_tallyRow 3 = .ok (.iload 5, 2) := by decide +kernel
theorem dX4_tallyRow_5 : decode cX4_tallyRow 5 = .ok (.iload 4, 2) := by decide +kernel
theorem dX4_tallyRow_7 : decode cX4_tallyRow 7 = .ok (.if_icmp .ge 43, 3) := by decide +kernel
theorem dX4_tallyRow_10 : decode cX4_tallyRow 10 = .ok (.iload 5, 2) := by decide +kernel
theorem dX4_tallyRow_12 : decode cX4_tallyRow 12 = .ok (.aload_n 2, 1) := by decide +kernel
theorem dX4_tallyRow_13 : decode cX4_tallyRow 13 = .ok (.arraylength, 1) := by decide +kernel
theorem dX4_tallyRow_14 : decode cX4_tallyRow 14 = .ok (.if_icmp .ge 36, 3) := by decide +kernel
theorem dX4_tallyRow_17 : decode cX4_tallyRow 17 = .ok (.aload_n 1, 1) := by decide +kernel
theorem dX4_tallyRow_18 : decode cX4_tallyRow 18 = .ok (.aload_n 2, 1) := by decide +kernel
theorem dX4_tallyRow_19 : decode cX4_tallyRow 19 = .ok (.iload 5, 2) := by decide +kernel
theorem dX4_tallyRow_21 : decode cX4_tallyRow 21 = .ok (.iaload, 1) := by decide +kernel
theorem dX4_tallyRow_22 : decode cX4_tallyRow 22 = .ok (.invokevirtual 47, 3) := by decide +kernel
theorem dX4_tallyRow_25 : decode cX4_tallyRow 25 = .ok (.istore 6, 2) := by decide +kernel
theorem dX4_tallyRow_27 : decode cX4_tallyRow 27 = .ok (.iload 6, 2) := by decide +kernel
theorem dX4_tallyRow_29 : decode cX4_tallyRow 29 = .ok (.iconst (-1), 1) := by decide +kernel
theorem dX4_tallyRow_30 : decode cX4_tallyRow 30 = .ok (.if_icmp .eq 14, 3) := by decide +kernel
theorem dX4_tallyRow_33 : decode cX4_tallyRow 33 = .ok (.aload_n 0, 1) := by decide +kernel
theorem dX4_tallyRow_34 : decode cX4_tallyRow 34 = .ok (.getfield 9, 3) := by decide +kernel
theorem dX4_tallyRow_37 : decode cX4_tallyRow 37 = .ok (.iload 6, 2) := by decide +kernel
theorem dX4_tallyRow_39 : decode cX4_tallyRow 39 = .ok (.dup2, 1) := by decide +kernel
theorem dX4_tallyRow_40 : decode cX4_tallyRow 40 = .ok (.iaload, 1) := by decide +kernel
theorem dX4_tallyRow_41 : decode cX4_tallyRow 41 = .ok (.iconst 1, 1) := by decide +kernel
theorem dX4_tallyRow_42 : decode cX4_tallyRow 42 = .ok (.iadd, 1) := by decide +kernel
theorem dX4_tallyRow_43 : decode cX4_tallyRow 43 = .ok (.iastore, 1) := by decide +kernel
theorem dX4_tallyRow_44 : decode cX4_tallyRow 44 = .ok (.iinc 5 1, 3) := by decide +kernel
theorem dX4_tallyRow_47 : decode cX4_tallyRow 47 = .ok (.goto (-44), 3) := by decide +kernel
theorem dX4_tallyRow_50 : decode cX4_tallyRow 50 = .ok (.return_, 1) := by decide +kernel
set_option maxRecDepth 20000 in
theorem ggX5_read_X5_skipBlanks : GoodIn wsX5_read wsX5_skipBlanks := goodIn_r _ [9, 3, 4, 10, 46, 47, 48, 49, 50, 51, 52, 53, 54] (by decide +kernel) (by decide +kernel)
set_option maxRecDepth 20000 in
theorem gX5_read_X5_skipBlanks : GoodIn wsX5_read (wsV RX5 37 RX5 yX5_skipBlanks wsX5_skipBlanks) := goodIn_app (goodIn_of _ (by decide +kernel)) ggX5_read_X5_skipBlanks
set_option maxRecDepth 20000 in
theorem ggX5_read_X5_readCommand : GoodIn wsX5_read wsX5_readCommand := goodIn_r _ [14, 3, 15, 16, 17, 18, 1, 19, 20, 21, 8, 22, 4, 10, 23, 24, 25, 26, 5, 6, 7, 9, 27, 28, 29, 30, 31, 32, 33, 2, 34, 35, 36, 37, 38, 39, 40, 41, 42, 43, 44, 45, 46, 47, 48, 49, 50, 51, 52, 53, 54] (by decide +kernel) (by decide +kernel)
set_option maxRecDepth 20000 in
theorem gX5_read_X5_readCommand : GoodIn wsX5_read (wsV RX5 43 RX5 yX5_readCommand wsX5_readCommand) := goodIn_app (goodIn_of _ (by decide +kernel)) ggX5_read_X5_readCommand
set_option maxRecDepth 20000 in
theorem ggX5_readCommand_X5_letter : GoodIn wsX5_readCommand wsX5_letter := goodIn_r _ [11, 1, 12, 13, 42, 43, 44, 45, 46, 47, 48, 49, 50] (by decide +kernel) (by decide +kernel)
set_option maxRecDepth 20000 in
theorem gX5_readCommand_X5_letter : GoodIn wsX5_readCommand (wsV RX5 47 RX5 yX5_letter wsX5_letter) := goodIn_app (goodIn_of _ (by decide +kernel)) ggX5_readCommand_X5_letter
set_option maxRecDepth 20000 in
theorem ggX5_readCommand_X5_readDigit : GoodIn wsX5_readCommand wsX5_readDigit := goodIn_r _ [17, 1, 18, 19, 20, 10, 21, 12, 13, 7, 8, 9, 11, 22, 23, 24, 25, 26, 27, 28, 29, 42, 43, 44, 45, 46, 47, 48, 49, 50] (by decide +kernel) (by decide +kernel)
set_option maxRecDepth 20000 in
theorem gX5_readCommand_X5_readDigit : GoodIn wsX5_readCommand (wsV RX5 51 RX5 yX5_readDigit wsX5_readDigit) := goodIn_app (goodIn_of _ (by decide +kernel)) ggX5_readCommand_X5_readDigit
set_option maxRecDepth 20000 in
theorem ggX5_readCommand_X5_readPlace : GoodIn wsX5_readCommand wsX5_readPlace := goodIn_r _ [33, 1, 18, 19, 20, 10, 21, 12, 13, 7, 8, 9, 11, 34, 35, 36, 37, 14, 15, 16, 17, 22, 23, 24, 25, 26, 27, 28, 29, 42, 43, 44, 45, 46, 47, 48, 49, 50] (by decide +kernel) (by decide +kernel)
set_option maxRecDepth 20000 in
theorem gX5_readCommand_X5_readPlace : GoodIn wsX5_readCommand (wsV RX5 54 RX5 yX5_readPlace wsX5_readPlace) := goodIn_app (goodIn_of _ (by decide +kernel)) ggX5_readCommand_X5_readPlace
set_option maxRecDepth 20000 in
theorem ggX5_readCommand_X5_readNumber : GoodIn wsX5_readCommand wsX5_readNumber := goodIn_r _ [37, 1, 14, 15, 16, 10, 17, 18, 19, 20, 21, 12, 13, 7, 8, 9, 11, 22, 23, 24, 25, 26, 27, 28, 29, 42, 43, 44, 45, 46, 47, 48, 49, 50] (by decide +kernel) (by decide +kernel)
set_option maxRecDepth 20000 in
theorem gX5_readCommand_X5_readNumber : GoodIn wsX5_readCommand (wsV RX5 57 RX5 yX5_readNumber wsX5_readNumber) := goodIn_app (goodIn_of _ (by decide +kernel)) ggX5_readCommand_X5_readNumber
set_option maxRecDepth 20000 in
theorem ggX5_readCommand_X5_refuse : GoodIn wsX5_readCommand wsX5_refuse := goodIn_r _ [28, 29, 1, 42, 43, 44, 45, 46, 47, 48, 49, 50] (by decide +kernel) (by decide +kernel)
set_option maxRecDepth 20000 in
theorem gX5_readCommand_X5_refuse : GoodIn wsX5_readCommand (wsV RX5 60 RX5 yX5_refuse wsX5_refuse) := goodIn_app (goodIn_of _ (by decide +kernel)) ggX5_readCommand_X5_refuse
set_option maxRecDepth 20000 in
theorem ggX5_readCommand_X5_readEnd : GoodIn wsX5_readCommand wsX5_readEnd := goodIn_r _ [41, 1, 18, 19, 20, 10, 21, 12, 13, 7, 8, 9, 11, 25, 26, 27, 28, 29, 42, 43, 44, 45, 46, 47, 48, 49, 50] (by decide +kernel) (by decide +kernel)
set_option maxRecDepth 20000 in
theorem gX5_readCommand_X5_readEnd : GoodIn wsX5_readCommand (wsV RX5 63 RX5 yX5_readEnd wsX5_readEnd) := goodIn_app (goodIn_of _ (by decide +kernel)) ggX5_readCommand_X5_readEnd
set_option maxRecDepth 20000 in
theorem ggX5_readPlace_X5_skipBlanks : GoodIn wsX5_readPlace wsX5_skipBlanks := goodIn_r _ [6, 1, 7, 8, 29, 30, 31, 32, 33, 34, 35, 36, 37] (by decide +kernel) (by decide +kernel)
set_option maxRecDepth 20000 in
theorem gX5_readPlace_X5_skipBlanks : GoodIn wsX5_readPlace (wsV RX5 37 RX5 yX5_skipBlanks wsX5_skipBlanks) := goodIn_app (goodIn_of _ (by decide +kernel)) ggX5_readPlace_X5_skipBlanks
set_option maxRecDepth 20000 in
theorem ggX5_readPlace_X5_letter : GoodIn wsX5_readPlace wsX5_letter := goodIn_r _ [12, 1, 7, 8, 29, 30, 31, 32, 33, 34, 35, 36, 37] (by decide +kernel) (by decide +kernel)
set_option maxRecDepth 20000 in
theorem gX5_readPlace_X5_letter : GoodIn wsX5_readPlace (wsV RX5 47 RX5 yX5_letter wsX5_letter) := goodIn_app (goodIn_of _ (by decide +kernel)) ggX5_readPlace_X5_letter
set_option maxRecDepth 20000 in
theorem ggX5_readPlace_X5_readNumber : GoodIn wsX5_readPlace wsX5_readNumber := goodIn_r _ [16, 1, 17, 18, 19, 5, 20, 2, 3, 4, 6, 7, 8, 9, 10, 11, 12, 21, 22, 23, 24, 25, 26, 27, 28, 29, 30, 31, 32, 33, 34, 35, 36, 37] (by decide +kernel) (by decide +kernel)
set_option maxRecDepth 20000 in
theorem gX5_readPlace_X5_readNumber : GoodIn wsX5_readPlace (wsV RX5 57 RX5 yX5_readNumber wsX5_readNumber) := goodIn_app (goodIn_of _ (by decide +kernel)) ggX5_readPlace_X5_readNumber
set_option maxRecDepth 20000 in
theorem ggX5_readNumber_X5_readDigit : GoodIn wsX5_readNumber wsX5_readDigit := goodIn_r _ [6, 1, 7, 8, 9, 5, 10, 11, 12, 13, 14, 15, 16, 17, 18, 19, 20, 21, 22, 23, 24, 25, 26, 27, 28, 29, 30, 31, 32, 33] (by decide +kernel) (by decide +kernel)
set_option maxRecDepth 20000 in
theorem gX5_readNumber_X5_readDigit : GoodIn wsX5_readNumber (wsV RX5 51 RX5 yX5_readDigit wsX5_readDigit) := goodIn_app (goodIn_of _ (by decide +kernel)) ggX5_readNumber_X5_readDigit
set_option maxRecDepth 20000 in
theorem ggX5_readNumber_X5_letter : GoodIn wsX5_readNumber wsX5_letter := goodIn_r _ [16, 1, 11, 12, 25, 26, 27, 28, 29, 30, 31, 32, 33] (by decide +kernel) (by decide +kernel)
set_option maxRecDepth 20000 in
theorem gX5_readNumber_X5_letter : GoodIn wsX5_readNumber (wsV RX5 47 RX5 yX5_letter wsX5_letter) := goodIn_app (goodIn_of _ (by decide +kernel)) ggX5_readNumber_X5_letter
set_option maxRecDepth 20000 in
theorem ggX5_readNumber_X5_isDigit : GoodIn wsX5_readNumber wsX5_isDigit := goodIn_r _ [19] (by decide +kernel) (by decide +kernel)
set_option maxRecDepth 20000 in
theorem gX5_readNumber_X5_isDigit : GoodIn wsX5_readNumber (va_wsS RX5 66 yX5_isDigit wsX5_isDigit) := goodIn_app (goodIn_of _ (by decide +kernel)) ggX5_readNumber_X5_isDigit
set_option maxRecDepth 20000 in
theorem ggX5_readNumber_X5_refuse : GoodIn wsX5_readNumber wsX5_refuse := goodIn_r _ [23, 24, 1, 25, 26, 27, 28, 29, 30, 31, 32, 33] (by decide +kernel) (by decide +kernel)
set_option maxRecDepth 20000 in
theorem gX5_readNumber_X5_refuse : GoodIn wsX5_readNumber (wsV RX5 60 RX5 yX5_refuse wsX5_refuse) := goodIn_app (goodIn_of _ (by decide +kernel)) ggX5_readNumber_X5_refuse
set_option maxRecDepth 20000 in
theorem ggX5_readDigit_X5_skipBlanks : GoodIn wsX5_readDigit wsX5_skipBlanks := goodIn_r _ [6, 1, 7, 8, 21, 22, 23, 24, 25, 26, 27, 28, 29] (by decide +kernel) (by decide +kernel)
set_option maxRecDepth 20000 in
theorem gX5_readDigit_X5_skipBlanks : GoodIn wsX5_readDigit (wsV RX5 37 RX5 yX5_skipBlanks wsX5_skipBlanks) := goodIn_app (goodIn_of _ (by decide +kernel)) ggX5_readDigit_X5_skipBlanks
set_option maxRecDepth 20000 in
theorem ggX5_readDigit_X5_letter : GoodIn wsX5_readDigit wsX5_letter := goodIn_r _ [12, 1, 7, 8, 21, 22, 23, 24, 25, 26, 27, 28, 29] (by decide +kernel) (by decide +kernel)
set_option maxRecDepth 20000 in
theorem gX5_readDigit_X5_letter : GoodIn wsX5_readDigit (wsV RX5 47 RX5 yX5_letter wsX5_letter) := goodIn_app (goodIn_of _ (by decide +kernel)) ggX5_readDigit_X5_letter
set_option maxRecDepth 20000 in
theorem ggX5_readDigit_X5_isDigit : GoodIn wsX5_readDigit wsX5_isDigit := goodIn_r _ [15] (by decide +kernel) (by decide +kernel)
set_option maxRecDepth 20000 in
theorem gX5_readDigit_X5_isDigit : GoodIn wsX5_readDigit (va_wsS RX5 66 yX5_isDigit wsX5_isDigit) := goodIn_app (goodIn_of _ (by decide +kernel)) ggX5_readDigit_X5_isDigit
set_option maxRecDepth 20000 in
theorem ggX5_readDigit_X5_refuse : GoodIn wsX5_readDigit wsX5_refuse := goodIn_r _ [19, 20, 1, 21, 22, 23, 24, 25, 26, 27, 28, 29] (by decide +kernel) (by decide +kernel)
set_option maxRecDepth 20000 in
theorem gX5_readDigit_X5_refuse : GoodIn wsX5_readDigit (wsV RX5 60 RX5 yX5_refuse wsX5_refuse) := goodIn_app (goodIn_of _ (by decide +kernel)) ggX5_readDigit_X5_refuse
set_option maxRecDepth 20000 in
theorem ggX5_readEnd_X5_skipBlanks : GoodIn wsX5_readEnd wsX5_skipBlanks := goodIn_r _ [6, 1, 7, 8, 18, 19, 20, 21, 22, 23, 24, 25, 26] (by decide +kernel) (by decide +kernel)
set_option maxRecDepth 20000 in
theorem gX5_readEnd_X5_skipBlanks : GoodIn wsX5_readEnd (wsV RX5 37 RX5 yX5_skipBlanks wsX5_skipBlanks) := goodIn_app (goodIn_of _ (by decide +kernel)) ggX5_readEnd_X5_skipBlanks
set_option maxRecDepth 20000 in
theorem ggX5_readEnd_X5_letter : GoodIn wsX5_readEnd wsX5_letter := goodIn_r _ [12, 1, 7, 8, 18, 19, 20, 21, 22, 23, 24, 25, 26] (by decide +kernel) (by decide +kernel)
set_option maxRecDepth 20000 in
theorem gX5_readEnd_X5_letter : GoodIn wsX5_readEnd (wsV RX5 47 RX5 yX5_letter wsX5_letter) := goodIn_app (goodIn_of _ (by decide +kernel)) ggX5_readEnd_X5_letter
set_option maxRecDepth 20000 in
theorem ggX5_readEnd_X5_refuse : GoodIn wsX5_readEnd wsX5_refuse := goodIn_r _ [16, 17, 1, 18, 19, 20, 21, 22, 23, 24, 25, 26] (by decide +kernel) (by decide +kernel)
set_option maxRecDepth 20000 in
theorem gX5_readEnd_X5_refuse : GoodIn wsX5_readEnd (wsV RX5 60 RX5 yX5_refuse wsX5_refuse) := goodIn_app (goodIn_of _ (by decide +kernel)) ggX5_readEnd_X5_refuse
theorem dX5_init_0 : decode cX5_init 0 = .ok (.aload_n 0, 1) := by decide +kernel
theorem dX5_init_1 : decode cX5_init 1 = .ok (.invokespecial 3, 3) := by decide +kernel
theorem dX5_init_4 : decode cX5_init 4 = .ok (.aload_n 0, 1) := by decide +kernel
theorem dX5_init_5 : decode cX5_init 5 = .ok (.bipush 80, 2) := by decide +kernel
theorem dX5_init_7 : decode cX5_init 7 = .ok (.newarray .int, 2) := by decide +kernel
theorem dX5_init_9 : decode cX5_init 9 = .ok (.putfield 9, 3) := by decide +kernel
theorem dX5_init_12 : decode cX5_init 12 = .ok (.aload_n 0, 1) := by decide +kernel
theorem dX5_init_13 : decode cX5_init 13 = .ok (.bipush 40, 2) := by decide +kernel
theorem dX5_init_15 : decode cX5_init 15 = .ok (.newarray .int, 2) := by decide +kernel
theorem dX5_init_17 : decode cX5_init 17 = .ok (.putfield 15, 3) := by decide +kernel
theorem dX5_init_20 : decode cX5_init 20 = .ok (.aload_n 0, 1) := by decide +kernel
theorem dX5_init_21 : decode cX5_init 21 = .ok (.bipush 40, 2) := by decide +kernel
theorem dX5_init_23 : decode cX5_init 23 = .ok (.newarray .int, 2) := by decide +kernel
theorem dX5_init_25 : decode cX5_init 25 = .ok (.putfield 18, 3) := by decide +kernel
theorem dX5_init_28 : decode cX5_init 28 = .ok (.aload_n 0, 1) := by decide +kernel
theorem dX5_init_29 : decode cX5_init 29 = .ok (.bipush 40, 2) := by decide +kernel
theorem dX5_init_31 : decode cX5_init 31 = .ok (.newarray .int, 2) := by decide +kernel
theorem dX5_init_33 : decode cX5_init 33 = .ok (.putfield 21, 3) := by decide +kernel
theorem dX5_init_36 : decode cX5_init 36 = .ok (.aload_n 0, 1) := by decide +kernel
theorem dX5_init_37 : decode cX5_init 37 = .ok (.bipush 40, 2) := by decide +kernel
theorem dX5_init_39 : decode cX5_init 39 = .ok (.newarray .int, 2) := by decide +kernel
theorem dX5_init_41 : decode cX5_init 41 = .ok (.putfield 24, 3) := by decide +kernel
theorem dX5_init_44 : decode cX5_init 44 = .ok (.return_, 1) := by decide +kernel
theorem dX5_read_0 : decode cX5_read 0 = .ok (.aload_n 0, 1) := by decide +kernel
theorem dX5_read_1 : decode cX5_read 1 = .ok (.iconst 0, 1) := by decide +kernel
theorem dX5_read_2 : decode cX5_read 2 = .ok (.putfield 27, 3) := by decide +kernel
theorem dX5_read_5 : decode cX5_read 5 = .ok (.aload_n 0, 1) := by decide +kernel
theorem dX5_read_6 : decode cX5_read 6 = .ok (.iconst (-1), 1) := by decide +kernel
theorem dX5_read_7 : decode cX5_read 7 = .ok (.putfield 31, 3) := by decide +kernel
theorem dX5_read_10 : decode cX5_read 10 = .ok (.aload_n 0, 1) := by decide +kernel
theorem dX5_read_11 : decode cX5_read 11 = .ok (.iconst 0, 1) := by decide +kernel
theorem dX5_read_12 : decode cX5_read 12 = .ok (.putfield 34, 3) := by decide +kernel
theorem dX5_read_15 : decode cX5_read 15 = .ok (.aload_n 0, 1) := by decide +kernel
theorem dX5_read_16 : decode cX5_read 16 = .ok (.invokevirtual 37, 3) := by decide +kernel
theorem dX5_read_19 : decode cX5_read 19 = .ok (.iconst 0, 1) := by decide +kernel
theorem dX5_read_20 : decode cX5_read 20 = .ok (.istore_n 1, 1) := by decide +kernel
theorem dX5_read_21 : decode cX5_read 21 = .ok (.iload_n 1, 1) := by decide +kernel
theorem dX5_read_22 : decode cX5_read 22 = .ok (.bipush 40, 2) := by decide +kernel
theorem dX5_read_24 : decode cX5_read 24 = .ok (.if_icmp .ge 37, 3) := by decide +kernel
theorem dX5_read_27 : decode cX5_read 27 = .ok (.aload_n 0, 1) := by decide +kernel
theorem dX5_read_28 : decode cX5_read 28 = .ok (.getfield 34, 3) := by decide +kernel
theorem dX5_read_31 : decode cX5_read 31 = .ok (.aload_n 0, 1) := by decide +kernel
theorem dX5_read_32 : decode cX5_read 32 = .ok (.getfield 40, 3) := by decide +kernel
theorem dX5_read_35 : decode cX5_read 35 = .ok (.if_icmp .ge 26, 3) := by decide +kernel
theorem dX5_read_38 : decode cX5_read 38 = .ok (.aload_n 0, 1) := by decide +kernel
theorem dX5_read_39 : decode cX5_read 39 = .ok (.getfield 31, 3) := by decide +kernel
theorem dX5_read_42 : decode cX5_read 42 = .ok (.iconst (-1), 1) := by decide +kernel
theorem dX5_read_43 : decode cX5_read 43 = .ok (.if_icmp .ne 18, 3) := by decide +kernel
theorem dX5_read_46 : decode cX5_read 46 = .ok (.aload_n 0, 1) := by decide +kernel
theorem dX5_read_47 : decode cX5_read 47 = .ok (.iload_n 1, 1) := by decide +kernel
theorem dX5_read_48 : decode cX5_read 48 = .ok (.invokevirtual 43, 3) := by decide +kernel
theorem dX5_read_51 : decode cX5_read 51 = .ok (.aload_n 0, 1) := by decide +kernel
theorem dX5_read_52 : decode cX5_read 52 = .ok (.invokevirtual 37, 3) := by decide +kernel
theorem dX5_read_55 : decode cX5_read 55 = .ok (.iinc 1 1, 3) := by decide +kernel
theorem dX5_read_58 : decode cX5_read 58 = .ok (.goto (-37), 3) := by decide +kernel
theorem dX5_read_61 : decode cX5_read 61 = .ok (.return_, 1) := by decide +kernel
theorem dX5_readCommand_0 : decode cX5_readCommand 0 = .ok (.aload_n 0, 1) := by decide +kernel
theorem dX5_readCommand_1 : decode cX5_readCommand 1 = .ok (.invokevirtual 47, 3) := by decide +kernel
theorem dX5_readCommand_4 : decode cX5_readCommand 4 = .ok (.istore_n 2, 1) := by decide +kernel
theorem dX5_readCommand_5 : decode cX5_readCommand 5 = .ok (.aload_n 0, 1) := by decide +kernel
theorem dX5_readCommand_6 : decode cX5_readCommand 6 = .ok (.dup, 1) := by decide +kernel
theorem dX5_readCommand_7 : decode cX5_readCommand 7 = .ok (.getfield 34, 3) := by decide +kernel
theorem dX5_readCommand_10 : decode cX5_readCommand 10 = .ok (.iconst 1, 1) := by decide +kernel
theorem dX5_readCommand_11 : decode cX5_readCommand 11 = .ok (.iadd, 1) := by decide +kernel
theorem dX5_readCommand_12 : decode cX5_readCommand 12 = .ok (.putfield 34, 3) := by decide +kernel
theorem dX5_readCommand_15 : decode cX5_readCommand 15 = .ok (.iload_n 2, 1) := by decide +kernel
theorem dX5_readCommand_16 : decode cX5_readCommand 16 = .ok (.tableswitch 195 99 119 #[192, 195, 195, 146, 195, 195, 195, 195, 195, 195, 195, 100, 195, 179, 195, 123, 195, 195, 179, 195, 123], 100) := by decide +kernel
theorem dX5_readCommand_116 : decode cX5_readCommand 116 = .ok (.aload_n 0, 1) := by decide +kernel
theorem dX5_readCommand_117 : decode cX5_readCommand 117 = .ok (.getfield 18, 3) := by decide +kernel
theorem dX5_readCommand_120 : decode cX5_readCommand 120 = .ok (.iload_n 1, 1) := by decide +kernel
theorem dX5_readCommand_121 : decode cX5_readCommand 121 = .ok (.aload_n 0, 1) := by decide +kernel
theorem dX5_readCommand_122 : decode cX5_readCommand 122 = .ok (.invokevirtual 51, 3) := by decide +kernel
theorem dX5_readCommand_125 : decode cX5_readCommand 125 = .ok (.iastore, 1) := by decide +kernel
theorem dX5_readCommand_126 : decode cX5_readCommand 126 = .ok (.aload_n 0, 1) := by decide +kernel
theorem dX5_readCommand_127 : decode cX5_readCommand 127 = .ok (.getfield 21, 3) := by decide +kernel
theorem dX5_readCommand_130 : decode cX5_readCommand 130 = .ok (.iload_n 1, 1) := by decide +kernel
theorem dX5_readCommand_131 : decode cX5_readCommand 131 = .ok (.aload_n 0, 1) := by decide +kernel
theorem dX5_readCommand_132 : decode cX5_readCommand 132 = .ok (.invokevirtual 51, 3) := by decide +kernel
theorem dX5_readCommand_135 : decode cX5_readCommand 135 = .ok (.iastore, 1) := by decide +kernel
theorem dX5_readCommand_136 : decode cX5_readCommand 136 = .ok (.goto 89, 3) := by decide +kernel
theorem dX5_readCommand_139 : decode cX5_readCommand 139 = .ok (.aload_n 0, 1) := by decide +kernel
theorem dX5_readCommand_140 : decode cX5_readCommand 140 = .ok (.getfield 18, 3) := by decide +kernel
theorem dX5_readCommand_143 : decode cX5_readCommand 143 = .ok (.iload_n 1, 1) := by decide +kernel
theorem dX5_readCommand_144 : decode cX5_readCommand 144 = .ok (.aload_n 0, 1) := by decide +kernel
theorem dX5_readCommand_145 : decode cX5_readCommand 145 = .ok (.invokevirtual 51, 3) := by decide +kernel
theorem dX5_readCommand_148 : decode cX5_readCommand 148 = .ok (.iastore, 1) := by decide +kernel
theorem dX5_readCommand_149 : decode cX5_readCommand 149 = .ok (.aload_n 0, 1) := by decide +kernel
theorem dX5_readCommand_150 : decode cX5_readCommand 150 = .ok (.getfield 21, 3) := by decide +kernel
theorem dX5_readCommand_153 : decode cX5_readCommand 153 = .ok (.iload_n 1, 1) := by decide +kernel
theorem dX5_readCommand_154 : decode cX5_readCommand 154 = .ok (.aload_n 0, 1) := by decide +kernel
theorem dX5_readCommand_155 : decode cX5_readCommand 155 = .ok (.invokevirtual 54, 3) := by decide +kernel
theorem dX5_readCommand_158 : decode cX5_readCommand 158 = .ok (.iastore, 1) := by decide +kernel
theorem dX5_readCommand_159 : decode cX5_readCommand 159 = .ok (.goto 66, 3) := by decide +kernel
theorem dX5_readCommand_162 : decode cX5_readCommand 162 = .ok (.aload_n 0, 1) := by decide +kernel
theorem dX5_readCommand_163 : decode cX5_readCommand 163 = .ok (.getfield 18, 3) := by decide +kernel
theorem dX5_readCommand_166 : decode cX5_readCommand 166 = .ok (.iload_n 1, 1) := by decide +kernel
theorem dX5_readCommand_167 : decode cX5_readCommand 167 = .ok (.aload_n 0, 1) := by decide +kernel
theorem dX5_readCommand_168 : decode cX5_readCommand 168 = .ok (.invokevirtual 57, 3) := by decide +kernel
theorem dX5_readCommand_171 : decode cX5_readCommand 171 = .ok (.iastore, 1) := by decide +kernel
theorem dX5_readCommand_172 : decode cX5_readCommand 172 = .ok (.aload_n 0, 1) := by decide +kernel
theorem dX5_readCommand_173 : decode cX5_readCommand 173 = .ok (.getfield 21, 3) := by decide +kernel
theorem dX5_readCommand_176 : decode cX5_readCommand 176 = .ok (.iload_n 1, 1) := by decide +kernel
theorem dX5_readCommand_177 : decode cX5_readCommand 177 = .ok (.aload_n 0, 1) := by decide +kernel
theorem dX5_readCommand_178 : decode cX5_readCommand 178 = .ok (.invokevirtual 51, 3) := by decide +kernel
theorem dX5_readCommand_181 : decode cX5_readCommand 181 = .ok (.iastore, 1) := by decide +kernel
theorem dX5_readCommand_182 : decode cX5_readCommand 182 = .ok (.aload_n 0, 1) := by decide +kernel
theorem dX5_readCommand_183 : decode cX5_readCommand 183 = .ok (.getfield 24, 3) := by decide +kernel
theorem dX5_readCommand_186 : decode cX5_readCommand 186 = .ok (.iload_n 1, 1) := by decide +kernel
theorem dX5_readCommand_187 : decode cX5_readCommand 187 = .ok (.aload_n 0, 1) := by decide +kernel
theorem dX5_readCommand_188 : decode cX5_readCommand 188 = .ok (.invokevirtual 54, 3) := by decide +kernel
theorem dX5_readCommand_191 : decode cX5_readCommand 191 = .ok (.iastore, 1) := by decide +kernel
theorem dX5_readCommand_192 : decode cX5_readCommand 192 = .ok (.goto 33, 3) := by decide +kernel
theorem dX5_readCommand_195 : decode cX5_readCommand 195 = .ok (.aload_n 0, 1) := by decide +kernel
theorem dX5_readCommand_196 : decode cX5_readCommand 196 = .ok (.getfield 18, 3) := by decide +kernel
theorem dX5_readCommand_199 : decode cX5_readCommand 199 = .ok (.iload_n 1, 1) := by decide +kernel
theorem dX5_readCommand_200 : decode cX5_readCommand 200 = .ok (.aload_n 0, 1) := by decide +kernel
theorem dX5_readCommand_201 : decode cX5_readCommand 201 = .ok (.invokevirtual 57, 3) := by decide +kernel
theorem dX5_readCommand_204 : decode cX5_readCommand 204 = .ok (.iastore, 1) := by decide +kernel
theorem dX5_readCommand_205 : decode cX5_readCommand 205 = .ok (.goto 20, 3) := by decide +kernel
theorem dX5_readCommand_208 : decode cX5_readCommand 208 = .ok (.goto 17, 3) := by decide +kernel
theorem dX5_readCommand_211 : decode cX5_readCommand 211 = .ok (.aload_n 0, 1) := by decide +kernel
theorem dX5_readCommand_212 : decode cX5_readCommand 212 = .ok (.dup, 1) := by decide +kernel
theorem dX5_readCommand_213 : decode cX5_readCommand 213 = .ok (.getfield 34, 3) := by decide +kernel
theorem dX5_readCommand_216 : decode cX5_readCommand 216 = .ok (.iconst 1, 1) := by decide +kernel
theorem dX5_readCommand_217 : decode cX5_readCommand 217 = .ok (.isub, 1) := by decide +kernel
theorem dX5_readCommand_218 : decode cX5_readCommand 218 = .ok (.putfield 34, 3) := by decide +kernel
theorem dX5_readCommand_221 : decode cX5_readCommand 221 = .ok (.aload_n 0, 1) := by decide +kernel
theorem dX5_readCommand_222 : decode cX5_readCommand 222 = .ok (.invokevirtual 60, 3) := by decide +kernel
theorem dX5_readCommand_225 : decode cX5_readCommand 225 = .ok (.aload_n 0, 1) := by decide +kernel
theorem dX5_readCommand_226 : decode cX5_readCommand 226 = .ok (.invokevirtual 63, 3) := by decide +kernel
theorem dX5_readCommand_229 : decode cX5_readCommand 229 = .ok (.aload_n 0, 1) := by decide +kernel
theorem dX5_readCommand_230 : decode cX5_readCommand 230 = .ok (.getfield 15, 3) := by decide +kernel
theorem dX5_readCommand_233 : decode cX5_readCommand 233 = .ok (.iload_n 1, 1) := by decide +kernel
theorem dX5_readCommand_234 : decode cX5_readCommand 234 = .ok (.iload_n 2, 1) := by decide +kernel
theorem dX5_readCommand_235 : decode cX5_readCommand 235 = .ok (.iastore, 1) := by decide +kernel
theorem dX5_readCommand_236 : decode cX5_readCommand 236 = .ok (.aload_n 0, 1) := by decide +kernel
theorem dX5_readCommand_237 : decode cX5_readCommand 237 = .ok (.iload_n 1, 1) := by decide +kernel
theorem dX5_readCommand_238 : decode cX5_readCommand 238 = .ok (.iconst 1, 1) := by decide +kernel
theorem dX5_readCommand_239 : decode cX5_readCommand 239 = .ok (.iadd, 1) := by decide +kernel
theorem dX5_readCommand_240 : decode cX5_readCommand 240 = .ok (.putfield 27, 3) := by decide +kernel
theorem dX5_readCommand_243 : decode cX5_readCommand 243 = .ok (.return_, 1) := by decide +kernel
theorem dX5_readPlace_0 : decode cX5_readPlace 0 = .ok (.aload_n 0, 1) := by decide +kernel
theorem dX5_readPlace_1 : decode cX5_readPlace 1 = .ok (.invokevirtual 37, 3) := by decide +kernel
theorem dX5_readPlace_4 : decode cX5_readPlace 4 = .ok (.aload_n 0, 1) := by decide +kernel
theorem dX5_readPlace_5 : decode cX5_readPlace 5 = .ok (.invokevirtual 47, 3) := by decide +kernel
theorem dX5_readPlace_8 : decode cX5_readPlace 8 = .ok (.bipush 45, 2) := by decide +kernel
theorem dX5_readPlace_10 : decode cX5_readPlace 10 = .ok (.if_icmp .ne 15, 3) := by decide +kernel
theorem dX5_readPlace_13 : decode cX5_readPlace 13 = .ok (.aload_n 0, 1) := by decide +kernel
theorem dX5_readPlace_14 : decode cX5_readPlace 14 = .ok (.dup, 1) := by decide +kernel
theorem dX5_readPlace_15 : decode cX5_readPlace 15 = .ok (.getfield 34, 3) := by decide +kernel
theorem dX5_readPlace_18 : decode cX5_readPlace 18 = .ok (.iconst 1, 1) := by decide +kernel
theorem dX5_readPlace_19 : decode cX5_readPlace 19 = .ok (.iadd, 1) := by decide +kernel
theorem dX5_readPlace_20 : decode cX5_readPlace 20 = .ok (.putfield 34, 3) := by decide +kernel
theorem dX5_readPlace_23 : decode cX5_readPlace 23 = .ok (.iconst (-1), 1) := by decide +kernel
theorem dX5_readPlace_24 : decode cX5_readPlace 24 = .ok (.ireturn, 1) := by decide +kernel
theorem dX5_readPlace_25 : decode cX5_readPlace 25 = .ok (.aload_n 0, 1) := by decide +kernel
theorem dX5_readPlace_26 : decode cX5_readPlace 26 = .ok (.invokevirtual 57, 3) := by decide +kernel
theorem dX5_readPlace_29 : decode cX5_readPlace 29 = .ok (.ireturn, 1) := by decide +kernel
theorem dX5_readNumber_0 : decode cX5_readNumber 0 = .ok (.aload_n 0, 1) := by decide +kernel
theorem dX5_readNumber_1 : decode cX5_readNumber 1 = .ok (.invokevirtual 51, 3) := by decide +kernel
theorem dX5_readNumber_4 : decode cX5_readNumber 4 = .ok (.istore_n 1, 1) := by decide +kernel
theorem dX5_readNumber_5 : decode cX5_readNumber 5 = .ok (.iconst 1, 1) := by decide +kernel
theorem dX5_readNumber_6 : decode cX5_readNumber 6 = .ok (.istore_n 2, 1) := by decide +kernel
theorem dX5_readNumber_7 : decode cX5_readNumber 7 = .ok (.iload_n 2, 1) := by decide +kernel
theorem dX5_readNumber_8 : decode cX5_readNumber 8 = .ok (.iconst 3, 1) := by decide +kernel
theorem dX5_readNumber_9 : decode cX5_readNumber 9 = .ok (.if_icmp .ge 42, 3) := by decide +kernel
theorem dX5_readNumber_12 : decode cX5_readNumber 12 = .ok (.aload_n 0, 1) := by decide +kernel
theorem dX5_readNumber_13 : decode cX5_readNumber 13 = .ok (.invokevirtual 47, 3) := by decide +kernel
theorem dX5_readNumber_16 : decode cX5_readNumber 16 = .ok (.invokestatic 66, 3) := by decide +kernel
theorem dX5_readNumber_19 : decode cX5_readNumber 19 = .ok (.ifCond .eq 32, 3) := by decide +kernel
theorem dX5_readNumber_22 : decode cX5_readNumber 22 = .ok (.bipush 10, 2) := by decide +kernel
theorem dX5_readNumber_24 : decode cX5_readNumber 24 = .ok (.iload_n 1, 1) := by decide +kernel
theorem dX5_readNumber_25 : decode cX5_readNumber 25 = .ok (.imul, 1) := by decide +kernel
theorem dX5_readNumber_26 : decode cX5_readNumber 26 = .ok (.aload_n 0, 1) := by decide +kernel
theorem dX5_readNumber_27 : decode cX5_readNumber 27 = .ok (.invokevirtual 47, 3) := by decide +kernel
theorem dX5_readNumber_30 : decode cX5_readNumber 30 = .ok (.iadd, 1) := by decide +kernel
theorem dX5_readNumber_31 : decode cX5_readNumber 31 = .ok (.bipush 48, 2) := by decide +kernel
theorem dX5_readNumber_33 : decode cX5_readNumber 33 = .ok (.isub, 1) := by decide +kernel
theorem dX5_readNumber_34 : decode cX5_readNumber 34 = .ok (.istore_n 1, 1) := by decide +kernel
theorem dX5_readNumber_35 : decode cX5_readNumber 35 = .ok (.aload_n 0, 1) := by decide +kernel
theorem dX5_readNumber_36 : decode cX5_readNumber 36 = .ok (.dup, 1) := by decide +kernel
theorem dX5_readNumber_37 : decode cX5_readNumber 37 = .ok (.getfield 34, 3) := by decide +kernel
theorem dX5_readNumber_40 : decode cX5_readNumber 40 = .ok (.iconst 1, 1) := by decide +kernel
theorem dX5_readNumber_41 : decode cX5_readNumber 41 = .ok (.iadd, 1) := by decide +kernel
theorem dX5_readNumber_42 : decode cX5_readNumber 42 = .ok (.putfield 34, 3) := by decide +kernel
theorem dX5_readNumber_45 : decode cX5_readNumber 45 = .ok (.iinc 2 1, 3) := by decide +kernel
theorem dX5_readNumber_48 : decode cX5_readNumber 48 = .ok (.goto (-41), 3) := by decide +kernel
theorem dX5_readNumber_51 : decode cX5_readNumber 51 = .ok (.aload_n 0, 1) := by decide +kernel
theorem dX5_readNumber_52 : decode cX5_readNumber 52 = .ok (.invokevirtual 47, 3) := by decide +kernel
theorem dX5_readNumber_55 : decode cX5_readNumber 55 = .ok (.invokestatic 66, 3) := by decide +kernel
theorem dX5_readNumber_58 : decode cX5_readNumber 58 = .ok (.ifCond .eq 7, 3) := by decide +kernel
theorem dX5_readNumber_61 : decode cX5_readNumber 61 = .ok (.aload_n 0, 1) := by decide +kernel
theorem dX5_readNumber_62 : decode cX5_readNumber 62 = .ok (.invokevirtual 60, 3) := by decide +kernel
theorem dX5_readNumber_65 : decode cX5_readNumber 65 = .ok (.iload_n 1, 1) := by decide +kernel
theorem dX5_readNumber_66 : decode cX5_readNumber 66 = .ok (.ireturn, 1) := by decide +kernel
theorem dX5_readDigit_0 : decode cX5_readDigit 0 = .ok (.aload_n 0, 1) := by decide +kernel
theorem dX5_readDigit_1 : decode cX5_readDigit 1 = .ok (.invokevirtual 37, 3) := by decide +kernel
theorem dX5_readDigit_4 : decode cX5_readDigit 4 = .ok (.aload_n 0, 1) := by decide +kernel
theorem dX5_readDigit_5 : decode cX5_readDigit 5 = .ok (.invokevirtual 47, 3) := by decide +kernel
theorem dX5_readDigit_8 : decode cX5_readDigit 8 = .ok (.invokestatic 66, 3) := by decide +kernel
theorem dX5_readDigit_11 : decode cX5_readDigit 11 = .ok (.ifCond .ne 9, 3) := by decide +kernel
theorem dX5_readDigit_14 : decode cX5_readDigit 14 = .ok (.aload_n 0, 1) := by decide +kernel
theorem dX5_readDigit_15 : decode cX5_readDigit 15 = .ok (.invokevirtual 60, 3) := by decide +kernel
theorem dX5_readDigit_18 : decode cX5_readDigit 18 = .ok (.iconst 0, 1) := by decide +kernel
theorem dX5_readDigit_19 : decode cX5_readDigit 19 = .ok (.ireturn, 1) := by decide +kernel
theorem dX5_readDigit_20 : decode cX5_readDigit 20 = .ok (.aload_n 0, 1) := by decide +kernel
theorem dX5_readDigit_21 : decode cX5_readDigit 21 = .ok (.invokevirtual 47, 3) := by decide +kernel
theorem dX5_readDigit_24 : decode cX5_readDigit 24 = .ok (.bipush 48, 2) := by decide +kernel
theorem dX5_readDigit_26 : decode cX5_readDigit 26 = .ok (.isub, 1) := by decide +kernel
theorem dX5_readDigit_27 : decode cX5_readDigit 27 = .ok (.istore_n 1, 1) := by decide +kernel
theorem dX5_readDigit_28 : decode cX5_readDigit 28 = .ok (.aload_n 0, 1) := by decide +kernel
theorem dX5_readDigit_29 : decode cX5_readDigit 29 = .ok (.dup, 1) := by decide +kernel
theorem dX5_readDigit_30 : decode cX5_readDigit 30 = .ok (.getfield 34, 3) := by decide +kernel
theorem dX5_readDigit_33 : decode cX5_readDigit 33 = .ok (.iconst 1, 1) := by decide +kernel
theorem dX5_readDigit_34 : decode cX5_readDigit 34 = .ok (.iadd, 1) := by decide +kernel
theorem dX5_readDigit_35 : decode cX5_readDigit 35 = .ok (.putfield 34, 3) := by decide +kernel
theorem dX5_readDigit_38 : decode cX5_readDigit 38 = .ok (.iload_n 1, 1) := by decide +kernel
theorem dX5_readDigit_39 : decode cX5_readDigit 39 = .ok (.ireturn, 1) := by decide +kernel
theorem dX5_readEnd_0 : decode cX5_readEnd 0 = .ok (.aload_n 0, 1) := by decide +kernel
theorem dX5_readEnd_1 : decode cX5_readEnd 1 = .ok (.invokevirtual 37, 3) := by decide +kernel
theorem dX5_readEnd_4 : decode cX5_readEnd 4 = .ok (.aload_n 0, 1) := by decide +kernel
theorem dX5_readEnd_5 : decode cX5_readEnd 5 = .ok (.invokevirtual 47, 3) := by decide +kernel
theorem dX5_readEnd_8 : decode cX5_readEnd 8 = .ok (.bipush 59, 2) := by decide +kernel
theorem dX5_readEnd_10 : decode cX5_readEnd 10 = .ok (.if_icmp .ne 16, 3) := by decide +kernel
theorem dX5_readEnd_13 : decode cX5_readEnd 13 = .ok (.aload_n 0, 1) := by decide +kernel
theorem dX5_readEnd_14 : decode cX5_readEnd 14 = .ok (.dup, 1) := by decide +kernel
theorem dX5_readEnd_15 : decode cX5_readEnd 15 = .ok (.getfield 34, 3) := by decide +kernel
theorem dX5_readEnd_18 : decode cX5_readEnd 18 = .ok (.iconst 1, 1) := by decide +kernel
theorem dX5_readEnd_19 : decode cX5_readEnd 19 = .ok (.iadd, 1) := by decide +kernel
theorem dX5_readEnd_20 : decode cX5_readEnd 20 = .ok (.putfield 34, 3) := by decide +kernel
theorem dX5_readEnd_23 : decode cX5_readEnd 23 = .ok (.goto 7, 3) := by decide +kernel
theorem dX5_readEnd_26 : decode cX5_readEnd 26 = .ok (.aload_n 0, 1) := by decide +kernel
theorem dX5_readEnd_27 : decode cX5_readEnd 27 = .ok (.invokevirtual 60, 3) := by decide +kernel
theorem dX5_readEnd_30 : decode cX5_readEnd 30 = .ok (.return_, 1) := by decide +kernel
theorem dX5_refuse_0 : decode cX5_refuse 0 = .ok (.aload_n 0, 1) := by decide +kernel
theorem dX5_refuse_1 : decode cX5_refuse 1 = .ok (.getfield 31, 3) := by decide +kernel
theorem dX5_refuse_4 : decode cX5_refuse 4 = .ok (.iconst (-1), 1) := by decide +kernel
theorem dX5_refuse_5 : decode cX5_refuse 5 = .ok (.if_icmp .ne 11, 3) := by decide +kernel
theorem dX5_refuse_8 : decode cX5_refuse 8 = .ok (.aload_n 0, 1) := by decide +kernel
theorem dX5_refuse_9 : decode cX5_refuse 9 = .ok (.aload_n 0, 1) := by decide +kernel
theorem dX5_refuse_10 : decode cX5_refuse 10 = .ok (.getfield 34, 3) := by decide +kernel
theorem dX5_refuse_13 : decode cX5_refuse 13 = .ok (.putfield 31, 3) := by decide +kernel
theorem dX5_refuse_16 : decode cX5_refuse 16 = .ok (.return_, 1) := by decide +kernel
theorem dX5_skipBlanks_0 : decode cX5_skipBlanks 0 = .ok (.aload_n 0, 1) := by decide +kernel
theorem dX5_skipBlanks_1 : decode cX5_skipBlanks 1 = .ok (.getfield 34, 3) := by decide +kernel
theorem dX5_skipBlanks_4 : decode cX5_skipBlanks 4 = .ok (.istore_n 1, 1) := by decide +kernel
theorem dX5_skipBlanks_5 : decode cX5_skipBlanks 5 = .ok (.iload_n 1, 1) := by decide +kernel
theorem dX5_skipBlanks_6 : decode cX5_skipBlanks 6 = .ok (.aload_n 0, 1) := by decide +kernel
theorem dX5_skipBlanks_7 : decode cX5_skipBlanks 7 = .ok (.getfield 40, 3) := by decide +kernel
theorem dX5_skipBlanks_10 : decode cX5_skipBlanks 10 = .ok (.if_icmp .ge 30, 3) := by decide +kernel
theorem dX5_skipBlanks_13 : decode cX5_skipBlanks 13 = .ok (.aload_n 0, 1) := by decide +kernel
theorem dX5_skipBlanks_14 : decode cX5_skipBlanks 14 = .ok (.getfield 9, 3) := by decide +kernel
theorem dX5_skipBlanks_17 : decode cX5_skipBlanks 17 = .ok (.iload_n 1, 1) := by decide +kernel
theorem dX5_skipBlanks_18 : decode cX5_skipBlanks 18 = .ok (.iaload, 1) := by decide +kernel
theorem dX5_skipBlanks_19 : decode cX5_skipBlanks 19 = .ok (.bipush 32, 2) := by decide +kernel
theorem dX5_skipBlanks_21 : decode cX5_skipBlanks 21 = .ok (.if_icmp .ne 19, 3) := by decide +kernel
theorem dX5_skipBlanks_24 : decode cX5_skipBlanks 24 = .ok (.aload_n 0, 1) := by decide +kernel
theorem dX5_skipBlanks_25 : decode cX5_skipBlanks 25 = .ok (.dup, 1) := by decide +kernel
theorem dX5_skipBlanks_26 : decode cX5_skipBlanks 26 = .ok (.getfield 34, 3) := by decide +kernel
theorem dX5_skipBlanks_29 : decode cX5_skipBlanks 29 = .ok (.iconst 1, 1) := by decide +kernel
theorem dX5_skipBlanks_30 : decode cX5_skipBlanks 30 = .ok (.iadd, 1) := by decide +kernel
theorem dX5_skipBlanks_31 : decode cX5_skipBlanks 31 = .ok (.putfield 34, 3) := by decide +kernel
theorem dX5_skipBlanks_34 : decode cX5_skipBlanks 34 = .ok (.iinc 1 1, 3) := by decide +kernel
theorem dX5_skipBlanks_37 : decode cX5_skipBlanks 37 = .ok (.goto (-32), 3) := by decide +kernel
theorem dX5_skipBlanks_40 : decode cX5_skipBlanks 40 = .ok (.return_, 1) := by decide +kernel
theorem dX5_letter_0 : decode cX5_letter 0 = .ok (.aload_n 0, 1) := by decide +kernel
theorem dX5_letter_1 : decode cX5_letter 1 = .ok (.getfield 34, 3) := by decide +kernel
theorem dX5_letter_4 : decode cX5_letter 4 = .ok (.aload_n 0, 1) := by decide +kernel
theorem dX5_letter_5 : decode cX5_letter 5 = .ok (.getfield 40, 3) := by decide +kernel
theorem dX5_letter_8 : decode cX5_letter 8 = .ok (.if_icmp .ge 15, 3) := by decide +kernel
theorem dX5_letter_11 : decode cX5_letter 11 = .ok (.aload_n 0, 1) := by decide +kernel
theorem dX5_letter_12 : decode cX5_letter 12 = .ok (.getfield 9, 3) := by decide +kernel
theorem dX5_letter_15 : decode cX5_letter 15 = .ok (.aload_n 0, 1) := by decide +kernel
theorem dX5_letter_16 : decode cX5_letter 16 = .ok (.getfield 34, 3) := by decide +kernel
theorem dX5_letter_19 : decode cX5_letter 19 = .ok (.iaload, 1) := by decide +kernel
theorem dX5_letter_20 : decode cX5_letter 20 = .ok (.goto 4, 3) := by decide +kernel
theorem dX5_letter_23 : decode cX5_letter 23 = .ok (.iconst (-1), 1) := by decide +kernel
theorem dX5_letter_24 : decode cX5_letter 24 = .ok (.ireturn, 1) := by decide +kernel
theorem dX5_isDigit_0 : decode cX5_isDigit 0 = .ok (.iload_n 0, 1) := by decide +kernel
theorem dX5_isDigit_1 : decode cX5_isDigit 1 = .ok (.bipush 48, 2) := by decide +kernel
theorem dX5_isDigit_3 : decode cX5_isDigit 3 = .ok (.if_icmp .lt 13, 3) := by decide +kernel
theorem dX5_isDigit_6 : decode cX5_isDigit 6 = .ok (.iload_n 0, 1) := by decide +kernel
theorem dX5_isDigit_7 : decode cX5_isDigit 7 = .ok (.bipush 57, 2) := by decide +kernel
theorem dX5_isDigit_9 : decode cX5_isDigit 9 = .ok (.if_icmp .gt 7, 3) := by decide +kernel
theorem dX5_isDigit_12 : decode cX5_isDigit 12 = .ok (.iconst 1, 1) := by decide +kernel
theorem dX5_isDigit_13 : decode cX5_isDigit 13 = .ok (.goto 4, 3) := by decide +kernel
theorem dX5_isDigit_16 : decode cX5_isDigit 16 = .ok (.iconst 0, 1) := by decide +kernel
theorem dX5_isDigit_17 : decode cX5_isDigit 17 = .ok (.ireturn, 1) := by decide +kernel
end
section
set_option maxRecDepth 20000 in
theorem ggX6_init_X1_init : GoodIn wsX6_init wsX1_init := goodIn_r _ [31, 32, 2, 3, 33, 34, 35, 36, 37, 38, 39, 40, 41, 42, 43, 84, 85, 86, 87, 88, 89, 90, 91, 92, 93, 94, 95, 96, 97, 98] (by decide +kernel) (by decide +kernel)
set_option maxRecDepth 20000 in
theorem gX6_init_X1_init_n11 : GoodIn wsX6_init (wsX1_init) := ggX6_init_X1_init
set_option maxRecDepth 20000 in
theorem ggX6_init_X1_empty : GoodIn wsX6_init wsX1_empty := goodIn_r _ [47, 48, 49, 50, 51, 52, 34, 40, 41, 53, 54, 55, 56, 84, 85, 86, 87, 88, 89, 90, 91, 92, 93, 94, 95, 96, 97, 98] (by decide +kernel) (by decide +kernel)
set_option maxRecDepth 20000 in
theorem gX6_init_X1_empty : GoodIn wsX6_init (wsV RX6 16 RX1 yX1_empty wsX1_empty) := goodIn_app (goodIn_of _ (by decide +kernel)) ggX6_init_X1_empty
set_option maxRecDepth 20000 in
theorem ggX6_init_X0_init : GoodIn wsX6_init wsX0_init := goodIn_r _ [58, 59, 2, 3, 60, 61, 33, 62, 107, 108, 109, 110, 111, 112] (by decide +kernel) (by decide +kernel)
set_option maxRecDepth 20000 in
theorem gX6_init_X0_init_n26 : GoodIn wsX6_init (wsX0_init) := ggX6_init_X0_init
set_option maxRecDepth 20000 in
theorem ggX6_init_X3_init : GoodIn wsX6_init wsX3_init := goodIn_r _ [64, 65, 2, 3, 33, 66, 67, 113, 114, 115] (by decide +kernel) (by decide +kernel)
set_option maxRecDepth 20000 in
theorem gX6_init_X3_init_n33 : GoodIn wsX6_init (wsX3_init) := ggX6_init_X3_init
set_option maxRecDepth 20000 in
theorem ggX6_init_X4_init : GoodIn wsX6_init wsX4_init := goodIn_r _ [69, 70, 2, 3, 33, 71, 116] (by decide +kernel) (by decide +kernel)
set_option maxRecDepth 20000 in
theorem gX6_init_X4_init_n40 : GoodIn wsX6_init (wsX4_init) := ggX6_init_X4_init
set_option maxRecDepth 20000 in
theorem ggX6_init_X2_init : GoodIn wsX6_init wsX2_init := goodIn_r _ [73, 74, 2, 3, 33, 75, 117] (by decide +kernel) (by decide +kernel)
set_option maxRecDepth 20000 in
theorem gX6_init_X2_init_n47 : GoodIn wsX6_init (wsX2_init) := ggX6_init_X2_init
set_option maxRecDepth 20000 in
theorem ggX6_init_X5_init : GoodIn wsX6_init wsX5_init := goodIn_r _ [77, 78, 2, 3, 33, 79, 80, 81, 82, 83, 118, 119, 120, 121, 122, 123, 124, 125, 126] (by decide +kernel) (by decide +kernel)
set_option maxRecDepth 20000 in
theorem gX6_init_X5_init_n54 : GoodIn wsX6_init (wsX5_init) := ggX6_init_X5_init
set_option maxRecDepth 20000 in
theorem ggX6_reset_X1_empty : GoodIn wsX6_reset wsX1_empty := goodIn_r _ [7, 8, 9, 10, 11, 12, 13, 14, 15, 16, 17, 18, 19, 28, 29, 30, 31, 32, 33, 34, 35, 36, 37, 38, 39, 40, 41, 42] (by decide +kernel) (by decide +kernel)
set_option maxRecDepth 20000 in
theorem gX6_reset_X1_empty : GoodIn wsX6_reset (wsV RX6 16 RX1 yX1_empty wsX1_empty) := goodIn_app (goodIn_of _ (by decide +kernel)) ggX6_reset_X1_empty
set_option maxRecDepth 20000 in
theorem ggX6_alloc_X1_roomFor : GoodIn wsX6_alloc wsX1_roomFor := goodIn_r _ [8, 9, 10, 44, 45, 46, 47, 48, 49, 50, 51, 52, 53, 54, 55, 56, 57, 58] (by decide +kernel) (by decide +kernel)
set_option maxRecDepth 20000 in
theorem gX6_alloc_X1_roomFor : GoodIn wsX6_alloc (wsV RX6 64 RX1 yX1_roomFor wsX1_roomFor) := goodIn_app (goodIn_of _ (by decide +kernel)) ggX6_alloc_X1_roomFor
set_option maxRecDepth 20000 in
theorem ggX6_alloc_X1_place : GoodIn wsX6_alloc wsX1_place := goodIn_r _ [14, 15, 16, 17, 18, 19, 20, 21, 22, 23, 24, 25, 26, 27, 28, 29, 30, 7, 31, 10, 32, 33, 34, 35, 44, 45, 46, 47, 48, 49, 50, 51, 52, 53, 54, 55, 56, 57, 58] (by decide +kernel) (by decide +kernel)
set_option maxRecDepth 20000 in
theorem gX6_alloc_X1_place : GoodIn wsX6_alloc (wsV RX6 69 RX1 yX1_place wsX1_place) := goodIn_app (goodIn_of _ (by decide +kernel)) ggX6_alloc_X1_place
set_option maxRecDepth 20000 in
theorem ggX6_object_X1_objectAt : GoodIn wsX6_object wsX1_objectAt := goodIn_r _ [9, 10, 11, 12, 13, 8, 14, 15, 89, 90, 91, 92, 93, 94, 95, 96, 97, 98, 99, 100, 101, 102, 103] (by decide +kernel) (by decide +kernel)
set_option maxRecDepth 20000 in
theorem gX6_object_X1_objectAt : GoodIn wsX6_object (wsV RX6 73 RX1 yX1_objectAt wsX1_objectAt) := goodIn_app (goodIn_of _ (by decide +kernel)) ggX6_object_X1_objectAt
set_option maxRecDepth 20000 in
theorem ggX6_object_X4_tally : GoodIn wsX6_object wsX4_tally := goodIn_r _ [20, 21, 22, 23, 24, 25, 26, 27, 28, 29, 30, 31, 32, 33, 19, 34, 35, 6, 7, 8, 9, 10, 11, 12, 13, 14, 15, 36, 37, 38, 39, 104, 89, 90, 91, 92, 93, 94, 95, 96, 97, 98, 99, 100, 101, 102, 103] (by decide +kernel) (by decide +kernel)
set_option maxRecDepth 20000 in
theorem gX6_object_X4_tally : GoodIn wsX6_object (wsV RX6 76 RX4 yX4_tally wsX4_tally) := goodIn_app (goodIn_of _ (by decide +kernel)) ggX6_object_X4_tally
set_option maxRecDepth 20000 in
theorem ggX6_object_X3_trace : GoodIn wsX6_object wsX3_trace := goodIn_r _ [44, 45, 46, 47, 48, 49, 50, 51, 52, 28, 29, 30, 53, 6, 7, 8, 9, 10, 11, 12, 13, 14, 15, 54, 55, 56, 43, 57, 58, 59, 60, 61, 62, 63, 37, 38, 39, 105, 106, 107, 89, 90, 91, 92, 93, 94, 95, 96, 97, 98, 99, 100, 101, 102, 103] (by decide +kernel) (by decide +kernel)
set_option maxRecDepth 20000 in
theorem gX6_object_X3_trace : GoodIn wsX6_object (wsV RX6 80 RX3 yX3_trace wsX3_trace) := goodIn_app (goodIn_of _ (by decide +kernel)) ggX6_object_X3_trace
set_option maxRecDepth 20000 in
theorem ggX6_object_X6_property : GoodIn wsX6_object wsX6_property := goodIn_r _ [68, 1, 69, 70, 71, 72, 3, 73, 4, 74, 75, 76, 77, 8, 78, 79, 80, 81, 82, 83, 84, 85, 86, 87, 88, 89, 90, 91, 92, 93, 94, 95, 96, 97, 98, 99, 100, 101, 102, 103, 104, 105, 106, 107] (by decide +kernel) (by decide +kernel)
set_option maxRecDepth 20000 in
theorem gX6_object_X6_property : GoodIn wsX6_object (wsV RX6 84 RX6 yX6_property wsX6_property) := goodIn_app (goodIn_of _ (by decide +kernel)) ggX6_object_X6_property
set_option maxRecDepth 20000 in
theorem ggX6_next_X1_objectFrom : GoodIn wsX6_next wsX1_objectFrom := goodIn_r _ [7, 8, 9, 10, 11, 6, 12, 13, 14, 15, 16, 17, 36, 37, 38, 39, 40, 41, 42, 43, 44, 45, 46, 47, 48, 49, 50] (by decide +kernel) (by decide +kernel)
set_option maxRecDepth 20000 in
theorem gX6_next_X1_objectFrom : GoodIn wsX6_next (wsV RX6 88 RX1 yX1_objectFrom wsX1_objectFrom) := goodIn_app (goodIn_of _ (by decide +kernel)) ggX6_next_X1_objectFrom
set_option maxRecDepth 20000 in
theorem ggX6_next_X1_objectAt : GoodIn wsX6_next wsX1_objectAt := goodIn_r _ [21, 13, 14, 15, 16, 6, 17, 8, 36, 37, 38, 39, 40, 41, 42, 43, 44, 45, 46, 47, 48, 49, 50] (by decide +kernel) (by decide +kernel)
set_option maxRecDepth 20000 in
theorem gX6_next_X1_objectAt : GoodIn wsX6_next (wsV RX6 73 RX1 yX1_objectAt wsX1_objectAt) := goodIn_app (goodIn_of _ (by decide +kernel)) ggX6_next_X1_objectAt
set_option maxRecDepth 20000 in
theorem ggX6_next_X1_sizeOf : GoodIn wsX6_next wsX1_sizeOf := goodIn_r _ [25, 26, 27, 36, 37, 38, 39, 40, 41, 42, 43, 44, 45, 46, 47, 48, 49, 50] (by decide +kernel) (by decide +kernel)
set_option maxRecDepth 20000 in
theorem gX6_next_X1_sizeOf : GoodIn wsX6_next (wsV RX6 91 RX1 yX1_sizeOf wsX1_sizeOf) := goodIn_app (goodIn_of _ (by decide +kernel)) ggX6_next_X1_sizeOf
set_option maxRecDepth 20000 in
theorem ggX6_setField_X6_fieldWord : GoodIn wsX6_setField wsX6_fieldWord := goodIn_r _ [8, 1, 9, 10, 11, 12, 13, 14, 15, 16, 17, 18, 19, 20, 29, 30, 31, 32, 33, 34, 35, 36, 37, 38, 39, 40, 41, 42, 43, 44, 45, 46, 47, 48, 49, 50, 51] (by decide +kernel) (by decide +kernel)
set_option maxRecDepth 20000 in
theorem gX6_setField_X6_fieldWord : GoodIn wsX6_setField (wsV RX6 94 RX6 yX6_fieldWord wsX6_fieldWord) := goodIn_app (goodIn_of _ (by decide +kernel)) ggX6_setField_X6_fieldWord
set_option maxRecDepth 20000 in
theorem ggX6_setField_X1_isReference : GoodIn wsX6_setField wsX1_isReference := goodIn_r _ [24, 25, 11, 12, 13, 14, 15, 16, 17, 18, 19, 20, 37, 38, 39, 40, 41, 42, 43, 44, 45, 46, 47, 48, 49, 50, 51] (by decide +kernel) (by decide +kernel)
set_option maxRecDepth 20000 in
theorem gX6_setField_X1_isReference : GoodIn wsX6_setField (wsV RX6 97 RX1 yX1_isReference wsX1_isReference) := goodIn_app (goodIn_of _ (by decide +kernel)) ggX6_setField_X1_isReference
set_option maxRecDepth 20000 in
theorem ggX6_setField_X6_exchange : GoodIn wsX6_setField wsX6_exchange := goodIn_r _ [28] (by decide +kernel) (by decide +kernel)
set_option maxRecDepth 20000 in
theorem gX6_setField_X6_exchange : GoodIn wsX6_setField (va_wsS RX6 105 yX6_exchange wsX6_exchange) := goodIn_app (goodIn_of _ (by decide +kernel)) ggX6_setField_X6_exchange
set_option maxRecDepth 20000 in
theorem ggX6_field_X6_fieldWord : GoodIn wsX6_field wsX6_fieldWord := goodIn_r _ [8, 2, 9, 10, 11, 12, 13, 14, 15, 16, 17, 18, 19, 20, 21, 22, 23, 24, 25, 26, 27, 28, 29, 30, 31, 32, 33, 34, 35, 36, 37, 38, 39, 40, 41, 42, 43] (by decide +kernel) (by decide +kernel)
set_option maxRecDepth 20000 in
theorem gX6_field_X6_fieldWord : GoodIn wsX6_field (wsV RX6 94 RX6 yX6_fieldWord wsX6_fieldWord) := goodIn_app (goodIn_of _ (by decide +kernel)) ggX6_field_X6_fieldWord
set_option maxRecDepth 20000 in
theorem ggX6_setData_X6_dataWord : GoodIn wsX6_setData wsX6_dataWord := goodIn_r _ [10, 4, 11, 12, 13, 14, 15, 16, 17, 18, 19, 20, 21, 22, 23, 27, 28, 29, 30, 31, 32, 33, 34, 35, 36, 37, 38, 39, 40, 41, 42, 43, 44, 45, 46, 47, 48, 49] (by decide +kernel) (by decide +kernel)
set_option maxRecDepth 20000 in
theorem gX6_setData_X6_dataWord : GoodIn wsX6_setData (wsV RX6 109 RX6 yX6_dataWord wsX6_dataWord) := goodIn_app (goodIn_of _ (by decide +kernel)) ggX6_setData_X6_dataWord
set_option maxRecDepth 20000 in
theorem ggX6_setData_X6_exchange : GoodIn wsX6_setData wsX6_exchange := goodIn_r _ [26] (by decide +kernel) (by decide +kernel)
set_option maxRecDepth 20000 in
theorem gX6_setData_X6_exchange : GoodIn wsX6_setData (va_wsS RX6 105 yX6_exchange wsX6_exchange) := goodIn_app (goodIn_of _ (by decide +kernel)) ggX6_setData_X6_exchange
set_option maxRecDepth 20000 in
theorem ggX6_data_X6_dataWord : GoodIn wsX6_data wsX6_dataWord := goodIn_r _ [8, 2, 9, 10, 11, 12, 13, 14, 15, 16, 17, 18, 19, 20, 21, 22, 23, 24, 25, 26, 27, 28, 29, 30, 31, 32, 33, 34, 35, 36, 37, 38, 39, 40, 41, 42, 43, 44] (by decide +kernel) (by decide +kernel)
set_option maxRecDepth 20000 in
theorem gX6_data_X6_dataWord : GoodIn wsX6_data (wsV RX6 109 RX6 yX6_dataWord wsX6_dataWord) := goodIn_app (goodIn_of _ (by decide +kernel)) ggX6_data_X6_dataWord
set_option maxRecDepth 20000 in
theorem ggX6_pin_X1_objectAt : GoodIn wsX6_pin wsX1_objectAt := goodIn_r _ [9, 10, 11, 12, 13, 8, 14, 15, 37, 38, 39, 40, 41, 42, 43, 44, 45, 46, 47, 48, 49, 50, 51] (by decide +kernel) (by decide +kernel)
set_option maxRecDepth 20000 in
theorem gX6_pin_X1_objectAt : GoodIn wsX6_pin (wsV RX6 73 RX1 yX1_objectAt wsX1_objectAt) := goodIn_app (goodIn_of _ (by decide +kernel)) ggX6_pin_X1_objectAt
set_option maxRecDepth 20000 in
theorem ggX6_pin_X1_pinnedCount : GoodIn wsX6_pin wsX1_pinnedCount := goodIn_r _ [19, 15, 20, 21, 22, 8, 23, 24, 25, 26, 27, 28, 10, 11, 12, 13, 14, 37, 38, 39, 40, 41, 42, 43, 44, 45, 46, 47, 48, 49, 50, 51] (by decide +kernel) (by decide +kernel)
set_option maxRecDepth 20000 in
theorem gX6_pin_X1_pinnedCount : GoodIn wsX6_pin (wsV RX6 118 RX1 yX1_pinnedCount wsX1_pinnedCount) := goodIn_app (goodIn_of _ (by decide +kernel)) ggX6_pin_X1_pinnedCount
set_option maxRecDepth 20000 in
theorem ggX6_setRoot_X1_isReference : GoodIn wsX6_setRoot wsX1_isReference := goodIn_r _ [8, 9, 10, 11, 7, 12, 13, 14, 15, 16, 17, 18, 31, 32, 33, 34, 35, 36, 37, 38, 39, 40, 41, 42, 43, 44, 45] (by decide +kernel) (by decide +kernel)
set_option maxRecDepth 20000 in
theorem gX6_setRoot_X1_isReference : GoodIn wsX6_setRoot (wsV RX6 97 RX1 yX1_isReference wsX1_isReference) := goodIn_app (goodIn_of _ (by decide +kernel)) ggX6_setRoot_X1_isReference
set_option maxRecDepth 20000 in
theorem ggX6_setRoot_X6_exchange : GoodIn wsX6_setRoot wsX6_exchange := goodIn_r _ [22] (by decide +kernel) (by decide +kernel)
set_option maxRecDepth 20000 in
theorem gX6_setRoot_X6_exchange : GoodIn wsX6_setRoot (va_wsS RX6 105 yX6_exchange wsX6_exchange) := goodIn_app (goodIn_of _ (by decide +kernel)) ggX6_setRoot_X6_exchange
set_option maxRecDepth 20000 in
theorem ggX6_setWeak_X1_isReference : GoodIn wsX6_setWeak wsX1_isReference := goodIn_r _ [8, 9, 10, 11, 7, 12, 13, 14, 15, 16, 17, 18, 31, 32, 33, 34, 35, 36, 37, 38, 39, 40, 41, 42, 43, 44, 45] (by decide +kernel) (by decide +kernel)
set_option maxRecDepth 20000 in
theorem gX6_setWeak_X1_isReference : GoodIn wsX6_setWeak (wsV RX6 97 RX1 yX1_isReference wsX1_isReference) := goodIn_app (goodIn_of _ (by decide +kernel)) ggX6_setWeak_X1_isReference
set_option maxRecDepth 20000 in
theorem ggX6_setWeak_X6_exchange : GoodIn wsX6_setWeak wsX6_exchange := goodIn_r _ [22] (by decide +kernel) (by decide +kernel)
set_option maxRecDepth 20000 in
theorem gX6_setWeak_X6_exchange : GoodIn wsX6_setWeak (va_wsS RX6 105 yX6_exchange wsX6_exchange) := goodIn_app (goodIn_of _ (by decide +kernel)) ggX6_setWeak_X6_exchange
set_option maxRecDepth 20000 in
theorem ggX6_collect_X1_usedWords : GoodIn wsX6_collect wsX1_usedWords := goodIn_r _ [9, 10, 11, 125, 126, 127, 128, 129, 130, 131, 132, 133, 134, 135, 136, 137, 138, 139] (by decide +kernel) (by decide +kernel)
set_option maxRecDepth 20000 in
theorem gX6_collect_X1_usedWords : GoodIn wsX6_collect (wsV RX6 128 RX1 yX1_usedWords wsX1_usedWords) := goodIn_app (goodIn_of _ (by decide +kernel)) ggX6_collect_X1_usedWords
set_option maxRecDepth 20000 in
theorem ggX6_collect_X0_mark : GoodIn wsX6_collect wsX0_mark := goodIn_r _ [16, 17, 18, 19, 20, 21, 22, 23, 15, 24, 25, 26, 27, 28, 29, 30, 31, 8, 32, 11, 33, 34, 35, 36, 10, 37, 38, 39, 40, 41, 42, 43, 44, 45, 46, 47, 48, 49, 50, 51, 52, 53, 54, 55, 56, 57, 58, 59, 60, 125, 126, 127, 128, 129, 130, 131, 132, 133, 134, 135, 136, 137, 138, 139, 140, 141, 142, 143, 144, 145] (by decide +kernel) (by decide +kernel)
set_option maxRecDepth 20000 in
theorem gX6_collect_X0_mark : GoodIn wsX6_collect (wsV RX6 131 RX0 yX0_mark wsX0_mark) := goodIn_app (goodIn_of _ (by decide +kernel)) ggX6_collect_X0_mark
set_option maxRecDepth 20000 in
theorem ggX6_collect_X0_plan : GoodIn wsX6_collect wsX0_plan := goodIn_r _ [64, 65, 66, 28, 27, 19, 25, 67, 68, 69, 70, 48, 49, 50, 8, 51, 52, 53, 54, 55, 56, 11, 33, 34, 35, 36, 10, 71, 72, 73, 15, 74, 75, 76, 77, 78, 79, 80, 125, 126, 127, 128, 129, 130, 131, 132, 133, 134, 135, 136, 137, 138, 139, 140, 141, 142, 143, 144, 145] (by decide +kernel) (by decide +kernel)
set_option maxRecDepth 20000 in
theorem gX6_collect_X0_plan : GoodIn wsX6_collect (wsV RX6 134 RX0 yX0_plan wsX0_plan) := goodIn_app (goodIn_of _ (by decide +kernel)) ggX6_collect_X0_plan
set_option maxRecDepth 20000 in
theorem ggX6_collect_X0_redirect : GoodIn wsX6_collect wsX0_redirect := goodIn_r _ [84, 17, 85, 19, 25, 47, 46, 86, 87, 88, 15, 89, 65, 90, 34, 35, 8, 36, 10, 125, 126, 127, 128, 129, 130, 131, 132, 133, 134, 135, 136, 137, 138, 139, 140, 141, 142, 143, 144, 145] (by decide +kernel) (by decide +kernel)
set_option maxRecDepth 20000 in
theorem gX6_collect_X0_redirect : GoodIn wsX6_collect (wsV RX6 137 RX0 yX0_redirect wsX0_redirect) := goodIn_app (goodIn_of _ (by decide +kernel)) ggX6_collect_X0_redirect
set_option maxRecDepth 20000 in
theorem ggX6_collect_X0_slide : GoodIn wsX6_collect wsX0_slide := goodIn_r _ [94, 95, 19, 25, 65, 67, 68, 69, 70, 90, 34, 35, 8, 36, 10, 96, 97, 98, 99, 79, 80, 52, 100, 101, 102, 103, 104, 105, 106, 76, 77, 78, 107, 108, 109, 110, 11, 111, 112, 113, 114, 115, 116, 125, 126, 127, 128, 129, 130, 131, 132, 133, 134, 135, 136, 137, 138, 139, 140, 141, 142, 143, 144, 145] (by decide +kernel) (by decide +kernel)
set_option maxRecDepth 20000 in
theorem gX6_collect_X0_slide : GoodIn wsX6_collect (wsV RX6 140 RX0 yX0_slide wsX0_slide) := goodIn_app (goodIn_of _ (by decide +kernel)) ggX6_collect_X0_slide
set_option maxRecDepth 20000 in
theorem ggX6_moved_X1_isAddress : GoodIn wsX6_moved wsX1_isAddress := goodIn_r _ [10, 11, 20, 21, 22, 23, 24, 25, 26, 27, 28, 29, 30, 31, 32, 33, 34] (by decide +kernel) (by decide +kernel)
set_option maxRecDepth 20000 in
theorem gX6_moved_X1_isAddress : GoodIn wsX6_moved (wsV RX6 149 RX1 yX1_isAddress wsX1_isAddress) := goodIn_app (goodIn_of _ (by decide +kernel)) ggX6_moved_X1_isAddress
set_option maxRecDepth 20000 in
theorem ggX6_garbage_X3_trace : GoodIn wsX6_garbage wsX3_trace := goodIn_r _ [7, 8, 9, 10, 11, 12, 13, 14, 15, 16, 17, 18, 19, 20, 21, 22, 23, 24, 25, 26, 27, 28, 29, 30, 31, 32, 6, 33, 34, 35, 36, 37, 38, 39, 40, 41, 42, 65, 66, 67, 68, 69, 70, 71, 72, 73, 74, 75, 76, 77, 78, 79, 80, 81, 82] (by decide +kernel) (by decide +kernel)
set_option maxRecDepth 20000 in
theorem gX6_garbage_X3_trace : GoodIn wsX6_garbage (wsV RX6 80 RX3 yX3_trace wsX3_trace) := goodIn_app (goodIn_of _ (by decide +kernel)) ggX6_garbage_X3_trace
set_option maxRecDepth 20000 in
theorem ggX6_garbage_X1_usedWords : GoodIn wsX6_garbage wsX1_usedWords := goodIn_r _ [46, 29, 24, 68, 69, 70, 71, 72, 73, 74, 75, 76, 77, 78, 79, 80, 81, 82] (by decide +kernel) (by decide +kernel)
set_option maxRecDepth 20000 in
theorem gX6_garbage_X1_usedWords : GoodIn wsX6_garbage (wsV RX6 128 RX1 yX1_usedWords wsX1_usedWords) := goodIn_app (goodIn_of _ (by decide +kernel)) ggX6_garbage_X1_usedWords
set_option maxRecDepth 20000 in
theorem ggX6_garbage_X3_liveWords : GoodIn wsX6_garbage wsX3_liveWords := goodIn_r _ [50, 9, 12, 51, 52, 53, 22, 54, 55, 56, 65, 66, 67, 68, 69, 70, 71, 72, 73, 74, 75, 76, 77, 78, 79, 80, 81, 82] (by decide +kernel) (by decide +kernel)
set_option maxRecDepth 20000 in
theorem gX6_garbage_X3_liveWords : GoodIn wsX6_garbage (wsV RX6 158 RX3 yX3_liveWords wsX3_liveWords) := goodIn_app (goodIn_of _ (by decide +kernel)) ggX6_garbage_X3_liveWords
set_option maxRecDepth 20000 in
theorem ggX6_distance_X1_objectAt : GoodIn wsX6_distance wsX1_objectAt := goodIn_r _ [9, 10, 11, 12, 13, 8, 14, 15, 57, 58, 59, 60, 61, 62, 63, 64, 65, 66, 67, 68, 69, 70, 71] (by decide +kernel) (by decide +kernel)
set_option maxRecDepth 20000 in
theorem gX6_distance_X1_objectAt : GoodIn wsX6_distance (wsV RX6 73 RX1 yX1_objectAt wsX1_objectAt) := goodIn_app (goodIn_of _ (by decide +kernel)) ggX6_distance_X1_objectAt
set_option maxRecDepth 20000 in
theorem ggX6_distance_X3_trace : GoodIn wsX6_distance wsX3_trace := goodIn_r _ [20, 21, 22, 23, 24, 25, 26, 27, 28, 29, 30, 31, 32, 6, 7, 8, 9, 10, 11, 12, 13, 14, 15, 33, 34, 35, 19, 36, 37, 38, 39, 40, 41, 42, 43, 44, 45, 54, 55, 56, 57, 58, 59, 60, 61, 62, 63, 64, 65, 66, 67, 68, 69, 70, 71] (by decide +kernel) (by decide +kernel)
set_option maxRecDepth 20000 in
theorem gX6_distance_X3_trace : GoodIn wsX6_distance (wsV RX6 80 RX3 yX3_trace wsX3_trace) := goodIn_app (goodIn_of _ (by decide +kernel)) ggX6_distance_X3_trace
set_option maxRecDepth 20000 in
theorem ggX6_retained_X1_objectAt : GoodIn wsX6_retained wsX1_objectAt := goodIn_r _ [8, 9, 10, 11, 12, 7, 13, 14, 63, 64, 65, 66, 67, 68, 69, 70, 71, 72, 73, 74, 75, 76, 77] (by decide +kernel) (by decide +kernel)
set_option maxRecDepth 20000 in
theorem gX6_retained_X1_objectAt : GoodIn wsX6_retained (wsV RX6 73 RX1 yX1_objectAt wsX1_objectAt) := goodIn_app (goodIn_of _ (by decide +kernel)) ggX6_retained_X1_objectAt
set_option maxRecDepth 20000 in
theorem ggX6_retained_X3_trace : GoodIn wsX6_retained wsX3_trace := goodIn_r _ [19, 20, 21, 22, 23, 24, 25, 26, 27, 28, 29, 30, 31, 5, 6, 7, 8, 9, 10, 11, 12, 13, 14, 32, 33, 34, 18, 35, 36, 37, 38, 39, 40, 41, 42, 43, 44, 78, 79, 80, 63, 64, 65, 66, 67, 68, 69, 70, 71, 72, 73, 74, 75, 76, 77] (by decide +kernel) (by decide +kernel)
set_option maxRecDepth 20000 in
theorem gX6_retained_X3_trace : GoodIn wsX6_retained (wsV RX6 80 RX3 yX3_trace wsX3_trace) := goodIn_app (goodIn_of _ (by decide +kernel)) ggX6_retained_X3_trace
set_option maxRecDepth 20000 in
theorem ggX6_retained_X3_liveWords : GoodIn wsX6_retained wsX3_liveWords := goodIn_r _ [48, 21, 24, 49, 50, 51, 7, 52, 53, 54, 78, 79, 80, 63, 64, 65, 66, 67, 68, 69, 70, 71, 72, 73, 74, 75, 76, 77] (by decide +kernel) (by decide +kernel)
set_option maxRecDepth 20000 in
theorem gX6_retained_X3_liveWords : GoodIn wsX6_retained (wsV RX6 158 RX3 yX3_liveWords wsX3_liveWords) := goodIn_app (goodIn_of _ (by decide +kernel)) ggX6_retained_X3_liveWords
set_option maxRecDepth 20000 in
theorem ggX6_free_X2_measure : GoodIn wsX6_free wsX2_measure := goodIn_r _ [9, 10, 11, 12, 13, 14, 15, 16, 17, 18, 19, 8, 20, 21, 22, 23, 24, 33, 34, 35, 36, 37, 38, 39, 40, 41, 42, 43, 44, 45, 46, 47, 48] (by decide +kernel) (by decide +kernel)
set_option maxRecDepth 20000 in
theorem gX6_free_X2_measure : GoodIn wsX6_free (wsV RX6 165 RX2 yX2_measure wsX2_measure) := goodIn_app (goodIn_of _ (by decide +kernel)) ggX6_free_X2_measure
set_option maxRecDepth 20000 in
theorem ggX6_fault_X5_read : GoodIn wsX6_fault wsX5_read := goodIn_r _ [7, 8, 9, 10, 11, 12, 13, 14, 6, 15, 16, 17, 18, 19, 20, 21, 22, 23, 24, 25, 26, 27, 28, 29, 30, 31, 32, 33, 34, 35, 36, 37, 38, 39, 40, 41, 42, 43, 44, 45, 46, 47, 48, 49, 50, 51, 60, 61, 62, 63, 64, 65, 66, 67, 68] (by decide +kernel) (by decide +kernel)
set_option maxRecDepth 20000 in
theorem gX6_fault_X5_read : GoodIn wsX6_fault (wsV RX6 177 RX5 yX5_read wsX5_read) := goodIn_app (goodIn_of _ (by decide +kernel)) ggX6_fault_X5_read
set_option maxRecDepth 20000 in
theorem ggX6_run_X5_read : GoodIn wsX6_run wsX5_read := goodIn_r _ [10, 11, 12, 13, 14, 15, 16, 17, 9, 18, 19, 20, 21, 22, 23, 24, 25, 26, 27, 28, 29, 30, 31, 32, 33, 34, 35, 36, 37, 38, 39, 40, 41, 42, 43, 44, 45, 46, 47, 48, 49, 50, 51, 52, 53, 54, 249, 250, 251, 252, 253, 254, 255, 256, 257] (by decide +kernel) (by decide +kernel)
set_option maxRecDepth 20000 in
theorem gX6_run_X5_read : GoodIn wsX6_run (wsV RX6 177 RX5 yX5_read wsX5_read) := goodIn_app (goodIn_of _ (by decide +kernel)) ggX6_run_X5_read
set_option maxRecDepth 20000 in
theorem ggX6_run_X6_perform : GoodIn wsX6_run wsX6_perform := goodIn_r _ [59, 1, 60, 61, 62, 63, 64, 65, 66, 58, 67, 68, 69, 70, 71, 72, 73, 74, 75, 76, 77, 78, 79, 80, 81, 82, 83, 84, 85, 86, 87, 88, 89, 90, 91, 92, 93, 94, 95, 96, 97, 98, 99, 100, 101, 102, 103, 104, 105, 106, 107, 108, 109, 110, 111, 112, 113, 114, 115, 116, 117, 118, 119, 120, 121, 122, 123, 124, 125, 126, 127, 128, 129, 130, 131, 132, 133, 134, 135, 136, 137, 138, 139, 140, 141, 142, 143, 3, 144, 145, 146, 147, 148, 149, 150, 151, 152, 153, 154, 155, 156, 157, 158, 159, 160, 161, 162, 163, 164, 165, 166, 167, 168, 169, 170, 171, 172, 173, 174, 175, 176, 177, 178, 179, 180, 181, 182, 183, 184, 185, 186, 187, 188, 189, 190, 191, 192, 193, 194, 195, 196, 197, 198, 199, 200, 201, 202, 203, 204, 205, 206, 207, 208, 209, 210, 211, 212, 213, 214, 215, 216, 217, 218, 219, 220, 221, 222, 223, 224, 225, 226, 227, 228, 229, 230, 231, 232, 233, 234, 235, 236, 237, 241, 242, 243, 244, 245, 246, 247, 248, 249, 250, 251, 252, 253, 254, 255, 256, 257, 258, 259, 260, 261, 262, 263, 264, 265, 266, 267, 268, 269, 270, 271, 272, 273, 274, 275, 276, 277, 278] (by decide +kernel) (by decide +kernel)
set_option maxRecDepth 20000 in
theorem gX6_run_X6_perform : GoodIn wsX6_run (wsV RX6 186 RX6 yX6_perform wsX6_perform) := goodIn_app (goodIn_of _ (by decide +kernel)) ggX6_run_X6_perform
set_option maxRecDepth 20000 in
theorem ggX6_run_X6_isError : GoodIn wsX6_run wsX6_isError := goodIn_r _ [240, 68, 3, 70] (by decide +kernel) (by decide +kernel)
set_option maxRecDepth 20000 in
theorem gX6_run_X6_isError : GoodIn wsX6_run (va_wsS RX6 189 yX6_isError wsX6_isError) := goodIn_app (goodIn_of _ (by decide +kernel)) ggX6_run_X6_isError
set_option maxRecDepth 20000 in
theorem ggX6_save_X1_init : GoodIn wsX6_save wsX1_init := goodIn_r _ [8, 9, 10, 11, 12, 13, 14, 15, 16, 17, 18, 19, 20, 21, 22, 56, 57, 58, 59, 60, 61, 62, 63, 64, 65, 66, 67, 68, 69, 70] (by decide +kernel) (by decide +kernel)
set_option maxRecDepth 20000 in
theorem gX6_save_X1_init_n11 : GoodIn wsX6_save (wsX1_init) := ggX6_save_X1_init
set_option maxRecDepth 20000 in
theorem ggX6_save_X1_copyFrom : GoodIn wsX6_save wsX1_copyFrom := goodIn_r _ [26, 27, 28, 29, 30, 31, 13, 32, 33, 34, 35, 14, 15, 16, 17, 18, 19, 20, 21, 22, 56, 57, 58, 59, 60, 61, 62, 63, 64, 65, 66, 67, 68, 69, 70] (by decide +kernel) (by decide +kernel)
set_option maxRecDepth 20000 in
theorem gX6_save_X1_copyFrom : GoodIn wsX6_save (wsV RX6 192 RX1 yX1_copyFrom wsX1_copyFrom) := goodIn_app (goodIn_of _ (by decide +kernel)) ggX6_save_X1_copyFrom
set_option maxRecDepth 20000 in
theorem ggX6_save_X1_objectCount : GoodIn wsX6_save wsX1_objectCount := goodIn_r _ [39, 27, 40, 41, 42, 5, 43, 13, 44, 45, 46, 47, 56, 57, 58, 59, 60, 61, 62, 63, 64, 65, 66, 67, 68, 69, 70] (by decide +kernel) (by decide +kernel)
set_option maxRecDepth 20000 in
theorem gX6_save_X1_objectCount : GoodIn wsX6_save (wsV RX6 195 RX1 yX1_objectCount wsX1_objectCount) := goodIn_app (goodIn_of _ (by decide +kernel)) ggX6_save_X1_objectCount
set_option maxRecDepth 20000 in
theorem ggX6_restore_X1_copyFrom : GoodIn wsX6_restore wsX1_copyFrom := goodIn_r _ [9, 10, 11, 12, 13, 14, 15, 16, 17, 18, 19, 20, 21, 22, 23, 24, 25, 26, 27, 28, 49, 50, 51, 52, 53, 54, 55, 56, 57, 58, 59, 60, 61, 62, 63] (by decide +kernel) (by decide +kernel)
set_option maxRecDepth 20000 in
theorem gX6_restore_X1_copyFrom : GoodIn wsX6_restore (wsV RX6 192 RX1 yX1_copyFrom wsX1_copyFrom) := goodIn_app (goodIn_of _ (by decide +kernel)) ggX6_restore_X1_copyFrom
set_option maxRecDepth 20000 in
theorem ggX6_restore_X1_objectCount : GoodIn wsX6_restore wsX1_objectCount := goodIn_r _ [32, 10, 33, 34, 35, 8, 36, 15, 37, 38, 39, 40, 49, 50, 51, 52, 53, 54, 55, 56, 57, 58, 59, 60, 61, 62, 63] (by decide +kernel) (by decide +kernel)
set_option maxRecDepth 20000 in
theorem gX6_restore_X1_objectCount : GoodIn wsX6_restore (wsV RX6 195 RX1 yX1_objectCount wsX1_objectCount) := goodIn_app (goodIn_of _ (by decide +kernel)) ggX6_restore_X1_objectCount
set_option maxRecDepth 20000 in
theorem ggX6_count_X1_objectCount : GoodIn wsX6_count wsX1_objectCount := goodIn_r _ [14, 15, 16, 17, 18, 13, 19, 20, 21, 22, 23, 24, 42, 43, 44, 45, 46, 47, 48, 49, 50, 51, 52, 53, 54, 55, 56] (by decide +kernel) (by decide +kernel)
set_option maxRecDepth 20000 in
theorem gX6_count_X1_objectCount : GoodIn wsX6_count (wsV RX6 195 RX1 yX1_objectCount wsX1_objectCount) := goodIn_app (goodIn_of _ (by decide +kernel)) ggX6_count_X1_objectCount
set_option maxRecDepth 20000 in
theorem ggX6_count_X1_pinnedCount : GoodIn wsX6_count wsX1_pinnedCount := goodIn_r _ [28, 15, 29, 30, 31, 13, 32, 33, 16, 17, 18, 19, 20, 21, 22, 23, 24, 42, 43, 44, 45, 46, 47, 48, 49, 50, 51, 52, 53, 54, 55, 56] (by decide +kernel) (by decide +kernel)
set_option maxRecDepth 20000 in
theorem gX6_count_X1_pinnedCount : GoodIn wsX6_count (wsV RX6 118 RX1 yX1_pinnedCount wsX1_pinnedCount) := goodIn_app (goodIn_of _ (by decide +kernel)) ggX6_count_X1_pinnedCount
set_option maxRecDepth 20000 in
theorem ggX6_digest_X6_count : GoodIn wsX6_digest wsX6_count := goodIn_r _ [16, 2, 17, 18, 19, 7, 20, 9, 11, 21, 22, 23, 24, 25, 26, 27, 28, 29, 30, 31, 32, 33, 34, 35, 36, 37, 38, 39, 40, 41, 42, 43, 44, 45, 137, 138, 139, 140, 141, 142, 143, 144, 145, 146, 147, 148, 149, 150, 151, 152, 153, 154, 155, 156, 157, 158, 159, 161, 162, 163, 164, 165, 166, 167, 168, 169] (by decide +kernel) (by decide +kernel)
set_option maxRecDepth 20000 in
theorem gX6_digest_X6_count : GoodIn wsX6_digest (wsV RX6 209 RX6 yX6_count wsX6_count) := goodIn_app (goodIn_of _ (by decide +kernel)) ggX6_digest_X6_count
set_option maxRecDepth 20000 in
theorem ggX6_digest_X6_absorb : GoodIn wsX6_digest wsX6_absorb := goodIn_r _ [48, 49] (by decide +kernel) (by decide +kernel)
set_option maxRecDepth 20000 in
theorem gX6_digest_X6_absorb : GoodIn wsX6_digest (va_wsS RX6 212 yX6_absorb wsX6_absorb) := goodIn_app (goodIn_of _ (by decide +kernel)) ggX6_digest_X6_absorb
set_option maxRecDepth 20000 in
theorem ggX6_digest_X6_absorbRow : GoodIn wsX6_digest wsX6_absorbRow := goodIn_r _ [52, 46, 47, 15, 48, 49] (by decide +kernel) (by decide +kernel)
set_option maxRecDepth 20000 in
theorem gX6_digest_X6_absorbRow : GoodIn wsX6_digest (va_wsS RX6 216 yX6_absorbRow wsX6_absorbRow) := goodIn_app (goodIn_of _ (by decide +kernel)) ggX6_digest_X6_absorbRow
set_option maxRecDepth 20000 in
theorem ggX6_digest_X6_absorbObjects : GoodIn wsX6_digest wsX6_absorbObjects := goodIn_r _ [56, 57, 2, 58, 17, 59, 60, 61, 62, 63, 64, 65, 66, 67, 68, 69, 70, 71, 72, 73, 74, 75, 76, 77, 78, 79, 80, 81, 25, 82, 32, 33, 34, 35, 36, 27, 83, 29, 30, 31, 84, 85, 86, 87, 88, 89, 90, 91, 92, 93, 94, 95, 96, 97, 98, 99, 100, 101, 102, 42, 43, 44, 45, 28, 103, 104, 105, 106, 15, 107, 108, 109, 110, 111, 112, 113, 114, 115, 116, 117, 118, 119, 46, 47, 48, 49, 50, 51, 52, 137, 138, 139, 140, 141, 142, 143, 144, 145, 146, 147, 148, 149, 150, 151, 152, 153, 154, 155, 156, 157, 158, 159, 170, 171, 172, 173] (by decide +kernel) (by decide +kernel)
set_option maxRecDepth 20000 in
theorem gX6_digest_X6_absorbObjects : GoodIn wsX6_digest (wsV RX6 220 RX6 yX6_absorbObjects wsX6_absorbObjects) := goodIn_app (goodIn_of _ (by decide +kernel)) ggX6_digest_X6_absorbObjects
set_option maxRecDepth 20000 in
theorem ggX6_digest_X2_measure : GoodIn wsX6_digest wsX2_measure := goodIn_r _ [124, 125, 126, 127, 128, 72, 73, 74, 129, 130, 131, 123, 132, 133, 134, 135, 136, 160, 145, 146, 147, 148, 149, 150, 151, 152, 153, 154, 155, 156, 157, 158, 159] (by decide +kernel) (by decide +kernel)
set_option maxRecDepth 20000 in
theorem gX6_digest_X2_measure : GoodIn wsX6_digest (wsV RX6 165 RX2 yX2_measure wsX2_measure) := goodIn_app (goodIn_of _ (by decide +kernel)) ggX6_digest_X2_measure
set_option maxRecDepth 20000 in
theorem ggX6_absorbObjects_X4_tally : GoodIn wsX6_absorbObjects wsX4_tally := goodIn_r _ [10, 11, 12, 13, 14, 15, 16, 17, 18, 19, 20, 21, 22, 23, 9, 24, 25, 26, 27, 28, 29, 30, 31, 32, 33, 34, 35, 36, 37, 38, 39, 112, 97, 98, 99, 100, 101, 102, 103, 104, 105, 106, 107, 108, 109, 110, 111] (by decide +kernel) (by decide +kernel)
set_option maxRecDepth 20000 in
theorem gX6_absorbObjects_X4_tally : GoodIn wsX6_absorbObjects (wsV RX6 76 RX4 yX4_tally wsX4_tally) := goodIn_app (goodIn_of _ (by decide +kernel)) ggX6_absorbObjects_X4_tally
set_option maxRecDepth 20000 in
theorem ggX6_absorbObjects_X3_trace : GoodIn wsX6_absorbObjects wsX3_trace := goodIn_r _ [44, 45, 46, 47, 48, 49, 50, 51, 52, 18, 19, 20, 53, 26, 27, 28, 29, 30, 31, 32, 33, 34, 35, 54, 55, 56, 43, 57, 58, 59, 60, 61, 62, 63, 37, 38, 39, 113, 114, 115, 97, 98, 99, 100, 101, 102, 103, 104, 105, 106, 107, 108, 109, 110, 111] (by decide +kernel) (by decide +kernel)
set_option maxRecDepth 20000 in
theorem gX6_absorbObjects_X3_trace : GoodIn wsX6_absorbObjects (wsV RX6 80 RX3 yX3_trace wsX3_trace) := goodIn_app (goodIn_of _ (by decide +kernel)) ggX6_absorbObjects_X3_trace
set_option maxRecDepth 20000 in
theorem ggX6_absorbObjects_X1_isObject : GoodIn wsX6_absorbObjects wsX1_isObject := goodIn_r _ [39, 30, 31, 32, 33, 28, 34, 35, 97, 98, 99, 100, 101, 102, 103, 104, 105, 106, 107, 108, 109, 110, 111] (by decide +kernel) (by decide +kernel)
set_option maxRecDepth 20000 in
theorem gX6_absorbObjects_X1_isObject : GoodIn wsX6_absorbObjects (wsV RX6 224 RX1 yX1_isObject wsX1_isObject) := goodIn_app (goodIn_of _ (by decide +kernel)) ggX6_absorbObjects_X1_isObject
set_option maxRecDepth 20000 in
theorem ggX6_absorbObjects_X6_property : GoodIn wsX6_absorbObjects wsX6_property := goodIn_r _ [69, 2, 70, 71, 72, 73, 1, 74, 3, 75, 76, 77, 78, 28, 79, 80, 81, 89, 90, 91, 92, 93, 94, 95, 96, 97, 98, 99, 100, 101, 102, 103, 104, 105, 106, 107, 108, 109, 110, 111, 112, 113, 114, 115] (by decide +kernel) (by decide +kernel)
set_option maxRecDepth 20000 in
theorem gX6_absorbObjects_X6_property : GoodIn wsX6_absorbObjects (wsV RX6 84 RX6 yX6_property wsX6_property) := goodIn_app (goodIn_of _ (by decide +kernel)) ggX6_absorbObjects_X6_property
set_option maxRecDepth 20000 in
theorem ggX6_absorbObjects_X6_absorb : GoodIn wsX6_absorbObjects wsX6_absorb := goodIn_r _ [84, 85] (by decide +kernel) (by decide +kernel)
set_option maxRecDepth 20000 in
theorem gX6_absorbObjects_X6_absorb : GoodIn wsX6_absorbObjects (va_wsS RX6 212 yX6_absorb wsX6_absorb) := goodIn_app (goodIn_of _ (by decide +kernel)) ggX6_absorbObjects_X6_absorb
set_option maxRecDepth 20000 in
theorem ggX6_absorbObjects_X1_sizeOf : GoodIn wsX6_absorbObjects wsX1_sizeOf := goodIn_r _ [79, 80, 81, 97, 98, 99, 100, 101, 102, 103, 104, 105, 106, 107, 108, 109, 110, 111] (by decide +kernel) (by decide +kernel)
set_option maxRecDepth 20000 in
theorem gX6_absorbObjects_X1_sizeOf : GoodIn wsX6_absorbObjects (wsV RX6 91 RX1 yX1_sizeOf wsX1_sizeOf) := goodIn_app (goodIn_of _ (by decide +kernel)) ggX6_absorbObjects_X1_sizeOf
set_option maxRecDepth 20000 in
theorem ggX6_absorbObjects_X6_absorbRow : GoodIn wsX6_absorbObjects wsX6_absorbRow := goodIn_r _ [88, 82, 83, 68, 84, 85] (by decide +kernel) (by decide +kernel)
set_option maxRecDepth 20000 in
theorem gX6_absorbObjects_X6_absorbRow : GoodIn wsX6_absorbObjects (va_wsS RX6 216 yX6_absorbRow wsX6_absorbRow) := goodIn_app (goodIn_of _ (by decide +kernel)) ggX6_absorbObjects_X6_absorbRow
set_option maxRecDepth 20000 in
theorem ggX6_absorbRow_X6_absorb : GoodIn wsX6_absorbRow wsX6_absorb := goodIn_r _ [4, 5] (by decide +kernel) (by decide +kernel)
set_option maxRecDepth 20000 in
theorem gX6_absorbRow_X6_absorb : GoodIn wsX6_absorbRow (va_wsS RX6 212 yX6_absorb wsX6_absorb) := goodIn_app (goodIn_of _ (by decide +kernel)) ggX6_absorbRow_X6_absorb
set_option maxRecDepth 20000 in
theorem ggX6_property_X1_sizeOf : GoodIn wsX6_property wsX1_sizeOf := goodIn_r _ [14, 15, 16, 25, 26, 27, 28, 29, 30, 31, 32, 33, 34, 35, 36, 37, 38, 39] (by decide +kernel) (by decide +kernel)
set_option maxRecDepth 20000 in
theorem gX6_property_X1_sizeOf : GoodIn wsX6_property (wsV RX6 91 RX1 yX1_sizeOf wsX1_sizeOf) := goodIn_app (goodIn_of _ (by decide +kernel)) ggX6_property_X1_sizeOf
set_option maxRecDepth 20000 in
theorem ggX6_fieldWord_X1_objectAt : GoodIn wsX6_fieldWord wsX1_objectAt := goodIn_r _ [7, 8, 9, 10, 11, 6, 12, 13, 22, 23, 24, 25, 26, 27, 28, 29, 30, 31, 32, 33, 34, 35, 36] (by decide +kernel) (by decide +kernel)
set_option maxRecDepth 20000 in
theorem gX6_fieldWord_X1_objectAt : GoodIn wsX6_fieldWord (wsV RX6 73 RX1 yX1_objectAt wsX1_objectAt) := goodIn_app (goodIn_of _ (by decide +kernel)) ggX6_fieldWord_X1_objectAt
set_option maxRecDepth 20000 in
theorem ggX6_dataWord_X1_objectAt : GoodIn wsX6_dataWord wsX1_objectAt := goodIn_r _ [8, 9, 10, 11, 12, 7, 13, 14, 23, 24, 25, 26, 27, 28, 29, 30, 31, 32, 33, 34, 35, 36, 37] (by decide +kernel) (by decide +kernel)
set_option maxRecDepth 20000 in
theorem gX6_dataWord_X1_objectAt : GoodIn wsX6_dataWord (wsV RX6 73 RX1 yX1_objectAt wsX1_objectAt) := goodIn_app (goodIn_of _ (by decide +kernel)) ggX6_dataWord_X1_objectAt
set_option maxRecDepth 20000 in
theorem ggX6_perform_X6_alloc : GoodIn wsX6_perform wsX6_alloc := goodIn_r _ [10, 11, 12, 13, 14, 15, 16, 17, 18, 19, 20, 21, 22, 23, 24, 25, 26, 27, 28, 29, 30, 31, 32, 33, 34, 35, 36, 37, 38, 39, 40, 41, 42, 43, 44, 45, 182, 183, 184, 185, 186, 187, 188, 189, 199, 200, 201, 202, 203, 204, 205, 206, 207, 208, 209, 210, 211, 212, 213] (by decide +kernel) (by decide +kernel)
set_option maxRecDepth 20000 in
theorem gX6_perform_X6_alloc : GoodIn wsX6_perform (wsV RX6 250 RX6 yX6_alloc wsX6_alloc) := goodIn_app (goodIn_of _ (by decide +kernel)) ggX6_perform_X6_alloc
set_option maxRecDepth 20000 in
theorem ggX6_perform_X6_setRoot : GoodIn wsX6_perform wsX6_setRoot := goodIn_r _ [49, 12, 11, 50, 51, 52, 53, 17, 54, 55, 56, 57, 58, 20, 59, 60, 61, 62, 19, 63, 64, 9, 65, 182, 183, 184, 185, 186, 187, 188, 189, 199, 200, 201, 202, 203, 204, 205, 206, 207, 208, 209, 210, 211, 212, 213] (by decide +kernel) (by decide +kernel)
set_option maxRecDepth 20000 in
theorem gX6_perform_X6_setRoot : GoodIn wsX6_perform (wsV RX6 253 RX6 yX6_setRoot wsX6_setRoot) := goodIn_app (goodIn_of _ (by decide +kernel)) ggX6_perform_X6_setRoot
set_option maxRecDepth 20000 in
theorem ggX6_perform_X6_setWeak : GoodIn wsX6_perform wsX6_setWeak := goodIn_r _ [69, 12, 11, 70, 51, 52, 53, 17, 54, 55, 56, 57, 58, 20, 59, 60, 61, 62, 19, 63, 64, 9, 65, 182, 183, 184, 185, 186, 187, 188, 189, 199, 200, 201, 202, 203, 204, 205, 206, 207, 208, 209, 210, 211, 212, 213] (by decide +kernel) (by decide +kernel)
set_option maxRecDepth 20000 in
theorem gX6_perform_X6_setWeak : GoodIn wsX6_perform (wsV RX6 256 RX6 yX6_setWeak wsX6_setWeak) := goodIn_app (goodIn_of _ (by decide +kernel)) ggX6_perform_X6_setWeak
set_option maxRecDepth 20000 in
theorem ggX6_perform_X6_setField : GoodIn wsX6_perform wsX6_setField := goodIn_r _ [74, 12, 11, 75, 76, 77, 78, 9, 79, 80, 81, 56, 57, 17, 58, 20, 59, 60, 61, 62, 19, 51, 52, 53, 54, 55, 63, 64, 65, 182, 183, 184, 185, 186, 187, 188, 189, 199, 200, 201, 202, 203, 204, 205, 206, 207, 208, 209, 210, 211, 212, 213] (by decide +kernel) (by decide +kernel)
set_option maxRecDepth 20000 in
theorem gX6_perform_X6_setField : GoodIn wsX6_perform (wsV RX6 262 RX6 yX6_setField wsX6_setField) := goodIn_app (goodIn_of _ (by decide +kernel)) ggX6_perform_X6_setField
set_option maxRecDepth 20000 in
theorem ggX6_perform_X6_pin : GoodIn wsX6_perform wsX6_pin := goodIn_r _ [85, 12, 11, 86, 87, 81, 56, 57, 17, 58, 20, 59, 60, 61, 62, 19, 88, 89, 90, 91, 92, 93, 94, 95, 27, 96, 97, 98, 99, 182, 183, 184, 185, 186, 187, 188, 189, 199, 200, 201, 202, 203, 204, 205, 206, 207, 208, 209, 210, 211, 212, 213] (by decide +kernel) (by decide +kernel)
set_option maxRecDepth 20000 in
theorem gX6_perform_X6_pin : GoodIn wsX6_perform (wsV RX6 266 RX6 yX6_pin wsX6_pin) := goodIn_app (goodIn_of _ (by decide +kernel)) ggX6_perform_X6_pin
set_option maxRecDepth 20000 in
theorem ggX6_perform_X6_collect : GoodIn wsX6_perform wsX6_collect := goodIn_r _ [103, 12, 104, 105, 106, 107, 108, 109, 17, 110, 19, 20, 111, 112, 113, 114, 115, 116, 117, 118, 119, 120, 121, 122, 123, 124, 125, 126, 127, 128, 56, 57, 58, 59, 60, 61, 62, 129, 130, 131, 132, 133, 134, 135, 136, 137, 138, 139, 140, 93, 94, 95, 27, 96, 97, 98, 99, 141, 142, 143, 144, 145, 146, 147, 148, 149, 150, 151, 152, 33, 153, 154, 155, 156, 157, 158, 43, 44, 45, 25, 26, 159, 160, 161, 162, 163, 164, 165, 166, 167, 168, 169, 170, 171, 172, 173, 174, 175, 176, 177, 28, 29, 178, 179, 180, 181, 42, 38, 39, 40, 41, 31, 32, 34, 35, 36, 37, 182, 183, 184, 185, 186, 187, 188, 189, 199, 200, 201, 202, 203, 204, 205, 206, 207, 208, 209, 210, 211, 212, 213, 214, 215, 216, 217, 218, 219] (by decide +kernel) (by decide +kernel)
set_option maxRecDepth 20000 in
theorem gX6_perform_X6_collect : GoodIn wsX6_perform (wsV RX6 270 RX6 yX6_collect wsX6_collect) := goodIn_app (goodIn_of _ (by decide +kernel)) ggX6_perform_X6_collect
theorem dX6_init_0 : decode cX6_init 0 = .ok (.aload_n 0, 1) := by decide +kernel
theorem dX6_init_1 : decode cX6_init 1 = .ok (.invokespecial 3, 3) := by decide +kernel
theorem dX6_init_4 : decode cX6_init 4 = .ok (.aload_n 0, 1) := by decide +kernel
theorem dX6_init_5 : decode cX6_init 5 = .ok (.new 9, 3) := by decide +kernel
theorem dX6_init_8 : decode cX6_init 8 = .ok (.dup, 1) := by decide +kernel
theorem dX6_init_9 : decode cX6_init 9 = .ok (.invokespecial 11, 3) := by decide +kernel
theorem dX6_init_12 : decode cX6_init 12 = .ok (.putfield 12, 3) := by decide +kernel
theorem dX6_init_15 : decode cX6_init 15 = .ok (.aload_n 0, 1) := by decide +kernel
theorem dX6_init_16 : decode cX6_init 16 = .ok (.getfield 12, 3) := by decide +kernel
theorem dX6_init_19 : decode cX6_init 19 = .ok (.bipush 100, 2) := by decide +kernel
theorem dX6_init_21 : decode cX6_init 21 = .ok (.bipush 8, 2) := by decide +kernel
theorem dX6_init_23 : decode cX6_init 23 = .ok (.invokevirtual 16, 3) := by decide +kernel
theorem dX6_init_26 : decode cX6_init 26 = .ok (.aload_n 0, 1) := by decide +kernel
theorem dX6_init_27 : decode cX6_init 27 = .ok (.iconst 2, 1) := by decide +kernel
theorem dX6_init_28 : decode cX6_init 28 = .ok (.anewarray 9, 3) := by decide +kernel
theorem dX6_init_31 : decode cX6_init 31 = .ok (.putfield 20, 3) := by decide +kernel
theorem dX6_init_34 : decode cX6_init 34 = .ok (.aload_n 0, 1) := by decide +kernel
theorem dX6_init_35 : decode cX6_init 35 = .ok (.new 24, 3) := by decide +kernel
theorem dX6_init_38 : decode cX6_init 38 = .ok (.dup, 1) := by decide +kernel
theorem dX6_init_39 : decode cX6_init 39 = .ok (.invokespecial 26, 3) := by decide +kernel
theorem dX6_init_42 : decode cX6_init 42 = .ok (.putfield 27, 3) := by decide +kernel
theorem dX6_init_45 : decode cX6_init 45 = .ok (.aload_n 0, 1) := by decide +kernel
theorem dX6_init_46 : decode cX6_init 46 = .ok (.new 31, 3) := by decide +kernel
theorem dX6_init_49 : decode cX6_init 49 = .ok (.dup, 1) := by decide +kernel
theorem dX6_init_50 : decode cX6_init 50 = .ok (.invokespecial 33, 3) := by decide +kernel
theorem dX6_init_53 : decode cX6_init 53 = .ok (.putfield 34, 3) := by decide +kernel
theorem dX6_init_56 : decode cX6_init 56 = .ok (.aload_n 0, 1) := by decide +kernel
theorem dX6_init_57 : decode cX6_init 57 = .ok (.new 38, 3) := by decide +kernel
theorem dX6_init_60 : decode cX6_init 60 = .ok (.dup, 1) := by decide +kernel
theorem dX6_init_61 : decode cX6_init 61 = .ok (.invokespecial 40, 3) := by decide +kernel
theorem dX6_init_64 : decode cX6_init 64 = .ok (.putfield 41, 3) := by decide +kernel
theorem dX6_init_67 : decode cX6_init 67 = .ok (.aload_n 0, 1) := by decide +kernel
theorem dX6_init_68 : decode cX6_init 68 = .ok (.new 45, 3) := by decide +kernel
theorem dX6_init_71 : decode cX6_init 71 = .ok (.dup, 1) := by decide +kernel
theorem dX6_init_72 : decode cX6_init 72 = .ok (.invokespecial 47, 3) := by decide +kernel
theorem dX6_init_75 : decode cX6_init 75 = .ok (.putfield 48, 3) := by decide +kernel
theorem dX6_init_78 : decode cX6_init 78 = .ok (.aload_n 0, 1) := by decide +kernel
theorem dX6_init_79 : decode cX6_init 79 = .ok (.new 52, 3) := by decide +kernel
theorem dX6_init_82 : decode cX6_init 82 = .ok (.dup, 1) := by decide +kernel
theorem dX6_init_83 : decode cX6_init 83 = .ok (.invokespecial 54, 3) := by decide +kernel
theorem dX6_init_86 : decode cX6_init 86 = .ok (.putfield 55, 3) := by decide +kernel
theorem dX6_init_89 : decode cX6_init 89 = .ok (.aload_n 0, 1) := by decide +kernel
theorem dX6_init_90 : decode cX6_init 90 = .ok (.iconst (-1), 1) := by decide +kernel
theorem dX6_init_91 : decode cX6_init 91 = .ok (.putfield 59, 3) := by decide +kernel
theorem dX6_init_94 : decode cX6_init 94 = .ok (.return_, 1) := by decide +kernel
theorem dX6_reset_0 : decode cX6_reset 0 = .ok (.iload_n 1, 1) := by decide +kernel
theorem dX6_reset_1 : decode cX6_reset 1 = .ok (.bipush 8, 2) := by decide +kernel
theorem dX6_reset_3 : decode cX6_reset 3 = .ok (.if_icmp .lt 21, 3) := by decide +kernel
theorem dX6_reset_6 : decode cX6_reset 6 = .ok (.iload_n 1, 1) := by decide +kernel
theorem dX6_reset_7 : decode cX6_reset 7 = .ok (.sipush 200, 3) := by decide +kernel
theorem dX6_reset_10 : decode cX6_reset 10 = .ok (.if_icmp .gt 14, 3) := by decide +kernel
theorem dX6_reset_13 : decode cX6_reset 13 = .ok (.iload_n 2, 1) := by decide +kernel
theorem dX6_reset_14 : decode cX6_reset 14 = .ok (.iconst 1, 1) := by decide +kernel
theorem dX6_reset_15 : decode cX6_reset 15 = .ok (.if_icmp .lt 9, 3) := by decide +kernel
theorem dX6_reset_18 : decode cX6_reset 18 = .ok (.iload_n 2, 1) := by decide +kernel
theorem dX6_reset_19 : decode cX6_reset 19 = .ok (.bipush 20, 2) := by decide +kernel
theorem dX6_reset_21 : decode cX6_reset 21 = .ok (.if_icmp .le 6, 3) := by decide +kernel
theorem dX6_reset_24 : decode cX6_reset 24 = .ok (.ldc 63, 2) := by decide +kernel
theorem dX6_reset_26 : decode cX6_reset 26 = .ok (.ireturn, 1) := by decide +kernel
theorem dX6_reset_27 : decode cX6_reset 27 = .ok (.aload_n 0, 1) := by decide +kernel
theorem dX6_reset_28 : decode cX6_reset 28 = .ok (.getfield 12, 3) := by decide +kernel
theorem dX6_reset_31 : decode cX6_reset 31 = .ok (.iload_n 1, 1) := by decide +kernel
theorem dX6_reset_32 : decode cX6_reset 32 = .ok (.iload_n 2, 1) := by decide +kernel
theorem dX6_reset_33 : decode cX6_reset 33 = .ok (.invokevirtual 16, 3) := by decide +kernel
theorem dX6_reset_36 : decode cX6_reset 36 = .ok (.iload_n 1, 1) := by decide +kernel
theorem dX6_reset_37 : decode cX6_reset 37 = .ok (.ireturn, 1) := by decide +kernel
theorem dX6_alloc_0 : decode cX6_alloc 0 = .ok (.iload_n 1, 1) := by decide +kernel
theorem dX6_alloc_1 : decode cX6_alloc 1 = .ok (.ifCond .lt 19, 3) := by decide +kernel
theorem dX6_alloc_4 : decode cX6_alloc 4 = .ok (.iload_n 1, 1) := by decide +kernel
theorem dX6_alloc_5 : decode cX6_alloc 5 = .ok (.bipush 6, 2) := by decide +kernel
theorem dX6_alloc_7 : decode cX6_alloc 7 = .ok (.if_icmp .gt 13, 3) := by decide +kernel
theorem dX6_alloc_10 : decode cX6_alloc 10 = .ok (.iload_n 2, 1) := by decide +kernel
theorem dX6_alloc_11 : decode cX6_alloc 11 = .ok (.ifCond .lt 9, 3) := by decide +kernel
theorem dX6_alloc_14 : decode cX6_alloc 14 = .ok (.iload_n 2, 1) := by decide +kernel
theorem dX6_alloc_15 : decode cX6_alloc 15 = .ok (.bipush 6, 2) := by decide +kernel
theorem dX6_alloc_17 : decode cX6_alloc 17 = .ok (.if_icmp .le 6, 3) := by decide +kernel
theorem dX6_alloc_20 : decode cX6_alloc 20 = .ok (.ldc 63, 2) := by decide +kernel
theorem dX6_alloc_22 : decode cX6_alloc 22 = .ok (.ireturn, 1) := by decide +kernel
theorem dX6_alloc_23 : decode cX6_alloc 23 = .ok (.aload_n 0, 1) := by decide +kernel
theorem dX6_alloc_24 : decode cX6_alloc 24 = .ok (.getfield 12, 3) := by decide +kernel
theorem dX6_alloc_27 : decode cX6_alloc 27 = .ok (.iconst 1, 1) := by decide +kernel
theorem dX6_alloc_28 : decode cX6_alloc 28 = .ok (.iload_n 1, 1) := by decide +kernel
theorem dX6_alloc_29 : decode cX6_alloc 29 = .ok (.iadd, 1) := by decide +kernel
theorem dX6_alloc_30 : decode cX6_alloc 30 = .ok (.iload_n 2, 1) := by decide +kernel
theorem dX6_alloc_31 : decode cX6_alloc 31 = .ok (.iadd, 1) := by decide +kernel
theorem dX6_alloc_32 : decode cX6_alloc 32 = .ok (.invokevirtual 64, 3) := by decide +kernel
theorem dX6_alloc_35 : decode cX6_alloc 35 = .ok (.istore_n 3, 1) := by decide +kernel
theorem dX6_alloc_36 : decode cX6_alloc 36 = .ok (.iload_n 3, 1) := by decide +kernel
theorem dX6_alloc_37 : decode cX6_alloc 37 = .ok (.iconst (-1), 1) := by decide +kernel
theorem dX6_alloc_38 : decode cX6_alloc 38 = .ok (.if_icmp .ne 6, 3) := by decide +kernel
theorem dX6_alloc_41 : decode cX6_alloc 41 = .ok (.ldc 68, 2) := by decide +kernel
theorem dX6_alloc_43 : decode cX6_alloc 43 = .ok (.ireturn, 1) := by decide +kernel
theorem dX6_alloc_44 : decode cX6_alloc 44 = .ok (.aload_n 0, 1) := by decide +kernel
theorem dX6_alloc_45 : decode cX6_alloc 45 = .ok (.getfield 12, 3) := by decide +kernel
theorem dX6_alloc_48 : decode cX6_alloc 48 = .ok (.iload_n 3, 1) := by decide +kernel
theorem dX6_alloc_49 : decode cX6_alloc 49 = .ok (.iload_n 1, 1) := by decide +kernel
theorem dX6_alloc_50 : decode cX6_alloc 50 = .ok (.iload_n 2, 1) := by decide +kernel
theorem dX6_alloc_51 : decode cX6_alloc 51 = .ok (.invokevirtual 69, 3) := by decide +kernel
theorem dX6_alloc_54 : decode cX6_alloc 54 = .ok (.iload_n 3, 1) := by decide +kernel
theorem dX6_alloc_55 : decode cX6_alloc 55 = .ok (.ireturn, 1) := by decide +kernel
theorem dX6_object_0 : decode cX6_object 0 = .ok (.aload_n 0, 1) := by decide +kernel
theorem dX6_object_1 : decode cX6_object 1 = .ok (.getfield 12, 3) := by decide +kernel
theorem dX6_object_4 : decode cX6_object 4 = .ok (.iload_n 1, 1) := by decide +kernel
theorem dX6_object_5 : decode cX6_object 5 = .ok (.invokevirtual 73, 3) := by decide +kernel
theorem dX6_object_8 : decode cX6_object 8 = .ok (.istore_n 3, 1) := by decide +kernel
theorem dX6_object_9 : decode cX6_object 9 = .ok (.iload_n 3, 1) := by decide +kernel
theorem dX6_object_10 : decode cX6_object 10 = .ok (.iconst (-1), 1) := by decide +kernel
theorem dX6_object_11 : decode cX6_object 11 = .ok (.if_icmp .eq 13, 3) := by decide +kernel
theorem dX6_object_14 : decode cX6_object 14 = .ok (.iload_n 2, 1) := by decide +kernel
theorem dX6_object_15 : decode cX6_object 15 = .ok (.ifCond .lt 9, 3) := by decide +kernel
theorem dX6_object_18 : decode cX6_object 18 = .ok (.iload_n 2, 1) := by decide +kernel
theorem dX6_object_19 : decode cX6_object 19 = .ok (.bipush 8, 2) := by decide +kernel
theorem dX6_object_21 : decode cX6_object 21 = .ok (.if_icmp .lt 6, 3) := by decide +kernel
theorem dX6_object_24 : decode cX6_object 24 = .ok (.ldc 63, 2) := by decide +kernel
theorem dX6_object_26 : decode cX6_object 26 = .ok (.ireturn, 1) := by decide +kernel
theorem dX6_object_27 : decode cX6_object 27 = .ok (.iload_n 2, 1) := by decide +kernel
theorem dX6_object_28 : decode cX6_object 28 = .ok (.bipush 6, 2) := by decide +kernel
theorem dX6_object_30 : decode cX6_object 30 = .ok (.if_icmp .ne 14, 3) := by decide +kernel
theorem dX6_object_33 : decode cX6_object 33 = .ok (.aload_n 0, 1) := by decide +kernel
theorem dX6_object_34 : decode cX6_object 34 = .ok (.getfield 41, 3) := by decide +kernel
theorem dX6_object_37 : decode cX6_object 37 = .ok (.aload_n 0, 1) := by decide +kernel
theorem dX6_object_38 : decode cX6_object 38 = .ok (.getfield 12, 3) := by decide +kernel
theorem dX6_object_41 : decode cX6_object 41 = .ok (.invokevirtual 76, 3) := by decide +kernel
theorem dX6_object_44 : decode cX6_object 44 = .ok (.iload_n 2, 1) := by decide +kernel
theorem dX6_object_45 : decode cX6_object 45 = .ok (.bipush 7, 2) := by decide +kernel
theorem dX6_object_47 : decode cX6_object 47 = .ok (.if_icmp .ne 15, 3) := by decide +kernel
theorem dX6_object_50 : decode cX6_object 50 = .ok (.aload_n 0, 1) := by decide +kernel
theorem dX6_object_51 : decode cX6_object 51 = .ok (.getfield 34, 3) := by decide +kernel
theorem dX6_object_54 : decode cX6_object 54 = .ok (.aload_n 0, 1) := by decide +kernel
theorem dX6_object_55 : decode cX6_object 55 = .ok (.getfield 12, 3) := by decide +kernel
theorem dX6_object_58 : decode cX6_object 58 = .ok (.iconst (-1), 1) := by decide +kernel
theorem dX6_object_59 : decode cX6_object 59 = .ok (.invokevirtual 80, 3) := by decide +kernel
theorem dX6_object_62 : decode cX6_object 62 = .ok (.aload_n 0, 1) := by decide +kernel
theorem dX6_object_63 : decode cX6_object 63 = .ok (.iload_n 3, 1) := by decide +kernel
theorem dX6_object_64 : decode cX6_object 64 = .ok (.iload_n 2, 1) := by decide +kernel
theorem dX6_object_65 : decode cX6_object 65 = .ok (.invokevirtual 84, 3) := by decide +kernel
theorem dX6_object_68 : decode cX6_object 68 = .ok (.ireturn, 1) := by decide +kernel
theorem dX6_next_0 : decode cX6_next 0 = .ok (.iload_n 1, 1) := by decide +kernel
theorem dX6_next_1 : decode cX6_next 1 = .ok (.iconst (-1), 1) := by decide +kernel
theorem dX6_next_2 : decode cX6_next 2 = .ok (.if_icmp .ne 12, 3) := by decide +kernel
theorem dX6_next_5 : decode cX6_next 5 = .ok (.aload_n 0, 1) := by decide +kernel
theorem dX6_next_6 : decode cX6_next 6 = .ok (.getfield 12, 3) := by decide +kernel
theorem dX6_next_9 : decode cX6_next 9 = .ok (.iconst 0, 1) := by decide +kernel
theorem dX6_next_10 : decode cX6_next 10 = .ok (.invokevirtual 88, 3) := by decide +kernel
theorem dX6_next_13 : decode cX6_next 13 = .ok (.ireturn, 1) := by decide +kernel
theorem dX6_next_14 : decode cX6_next 14 = .ok (.aload_n 0, 1) := by decide +kernel
theorem dX6_next_15 : decode cX6_next 15 = .ok (.getfield 12, 3) := by decide +kernel
theorem dX6_next_18 : decode cX6_next 18 = .ok (.iload_n 1, 1) := by decide +kernel
theorem dX6_next_19 : decode cX6_next 19 = .ok (.invokevirtual 73, 3) := by decide +kernel
theorem dX6_next_22 : decode cX6_next 22 = .ok (.istore_n 2, 1) := by decide +kernel
theorem dX6_next_23 : decode cX6_next 23 = .ok (.iload_n 2, 1) := by decide +kernel
theorem dX6_next_24 : decode cX6_next 24 = .ok (.iconst (-1), 1) := by decide +kernel
theorem dX6_next_25 : decode cX6_next 25 = .ok (.if_icmp .ne 6, 3) := by decide +kernel
theorem dX6_next_28 : decode cX6_next 28 = .ok (.ldc 63, 2) := by decide +kernel
theorem dX6_next_30 : decode cX6_next 30 = .ok (.ireturn, 1) := by decide +kernel
theorem dX6_next_31 : decode cX6_next 31 = .ok (.aload_n 0, 1) := by decide +kernel
theorem dX6_next_32 : decode cX6_next 32 = .ok (.getfield 12, 3) := by decide +kernel
theorem dX6_next_35 : decode cX6_next 35 = .ok (.iload_n 2, 1) := by decide +kernel
theorem dX6_next_36 : decode cX6_next 36 = .ok (.aload_n 0, 1) := by decide +kernel
theorem dX6_next_37 : decode cX6_next 37 = .ok (.getfield 12, 3) := by decide +kernel
theorem dX6_next_40 : decode cX6_next 40 = .ok (.iload_n 2, 1) := by decide +kernel
theorem dX6_next_41 : decode cX6_next 41 = .ok (.invokevirtual 91, 3) := by decide +kernel
theorem dX6_next_44 : decode cX6_next 44 = .ok (.iadd, 1) := by decide +kernel
theorem dX6_next_45 : decode cX6_next 45 = .ok (.invokevirtual 88, 3) := by decide +kernel
theorem dX6_next_48 : decode cX6_next 48 = .ok (.ireturn, 1) := by decide +kernel
theorem dX6_setField_0 : decode cX6_setField 0 = .ok (.aload_n 0, 1) := by decide +kernel
theorem dX6_setField_1 : decode cX6_setField 1 = .ok (.iload_n 1, 1) := by decide +kernel
theorem dX6_setField_2 : decode cX6_setField 2 = .ok (.iload_n 2, 1) := by decide +kernel
theorem dX6_setField_3 : decode cX6_setField 3 = .ok (.invokevirtual 94, 3) := by decide +kernel
theorem dX6_setField_6 : decode cX6_setField 6 = .ok (.istore 4, 2) := by decide +kernel
theorem dX6_setField_8 : decode cX6_setField 8 = .ok (.iload 4, 2) := by decide +kernel
theorem dX6_setField_10 : decode cX6_setField 10 = .ok (.iconst (-1), 1) := by decide +kernel
theorem dX6_setField_11 : decode cX6_setField 11 = .ok (.if_icmp .eq 14, 3) := by decide +kernel
theorem dX6_setField_14 : decode cX6_setField 14 = .ok (.aload_n 0, 1) := by decide +kernel
theorem dX6_setField_15 : decode cX6_setField 15 = .ok (.getfield 12, 3) := by decide +kernel
theorem dX6_setField_18 : decode cX6_setField 18 = .ok (.iload_n 3, 1) := by decide +kernel
theorem dX6_setField_19 : decode cX6_setField 19 = .ok (.invokevirtual 97, 3) := by decide +kernel
theorem dX6_setField_22 : decode cX6_setField 22 = .ok (.ifCond .ne 6, 3) := by decide +kernel
theorem dX6_setField_25 : decode cX6_setField 25 = .ok (.ldc 63, 2) := by decide +kernel
theorem dX6_setField_27 : decode cX6_setField 27 = .ok (.ireturn, 1) := by decide +kernel
theorem dX6_setField_28 : decode cX6_setField 28 = .ok (.aload_n 0, 1) := by decide +kernel
theorem dX6_setField_29 : decode cX6_setField 29 = .ok (.getfield 12, 3) := by decide +kernel
theorem dX6_setField_32 : decode cX6_setField 32 = .ok (.getfield 101, 3) := by decide +kernel
theorem dX6_setField_35 : decode cX6_setField 35 = .ok (.iload 4, 2) := by decide +kernel
theorem dX6_setField_37 : decode cX6_setField 37 = .ok (.iload_n 3, 1) := by decide +kernel
theorem dX6_setField_38 : decode cX6_setField 38 = .ok (.invokestatic 105, 3) := by decide +kernel
theorem dX6_setField_41 : decode cX6_setField 41 = .ok (.ireturn, 1) := by decide +kernel
theorem dX6_field_0 : decode cX6_field 0 = .ok (.aload_n 0, 1) := by decide +kernel
theorem dX6_field_1 : decode cX6_field 1 = .ok (.iload_n 1, 1) := by decide +kernel
theorem dX6_field_2 : decode cX6_field 2 = .ok (.iload_n 2, 1) := by decide +kernel
theorem dX6_field_3 : decode cX6_field 3 = .ok (.invokevirtual 94, 3) := by decide +kernel
theorem dX6_field_6 : decode cX6_field 6 = .ok (.istore_n 3, 1) := by decide +kernel
theorem dX6_field_7 : decode cX6_field 7 = .ok (.iload_n 3, 1) := by decide +kernel
theorem dX6_field_8 : decode cX6_field 8 = .ok (.iconst (-1), 1) := by decide +kernel
theorem dX6_field_9 : decode cX6_field 9 = .ok (.if_icmp .ne 8, 3) := by decide +kernel
theorem dX6_field_12 : decode cX6_field 12 = .ok (.ldc 63, 2) := by decide +kernel
theorem dX6_field_14 : decode cX6_field 14 = .ok (.goto 12, 3) := by decide +kernel
theorem dX6_field_17 : decode cX6_field 17 = .ok (.aload_n 0, 1) := by decide +kernel
theorem dX6_field_18 : decode cX6_field 18 = .ok (.getfield 12, 3) := by decide +kernel
theorem dX6_field_21 : decode cX6_field 21 = .ok (.getfield 101, 3) := by decide +kernel
theorem dX6_field_24 : decode cX6_field 24 = .ok (.iload_n 3, 1) := by decide +kernel
theorem dX6_field_25 : decode cX6_field 25 = .ok (.iaload, 1) := by decide +kernel
theorem dX6_field_26 : decode cX6_field 26 = .ok (.ireturn, 1) := by decide +kernel
theorem dX6_setData_0 : decode cX6_setData 0 = .ok (.aload_n 0, 1) := by decide +kernel
theorem dX6_setData_1 : decode cX6_setData 1 = .ok (.iload_n 1, 1) := by decide +kernel
theorem dX6_setData_2 : decode cX6_setData 2 = .ok (.iload_n 2, 1) := by decide +kernel
theorem dX6_setData_3 : decode cX6_setData 3 = .ok (.invokevirtual 109, 3) := by decide +kernel
theorem dX6_setData_6 : decode cX6_setData 6 = .ok (.istore 4, 2) := by decide +kernel
theorem dX6_setData_8 : decode cX6_setData 8 = .ok (.iload 4, 2) := by decide +kernel
theorem dX6_setData_10 : decode cX6_setData 10 = .ok (.iconst (-1), 1) := by decide +kernel
theorem dX6_setData_11 : decode cX6_setData 11 = .ok (.if_icmp .eq 15, 3) := by decide +kernel
theorem dX6_setData_14 : decode cX6_setData 14 = .ok (.iload_n 3, 1) := by decide +kernel
theorem dX6_setData_15 : decode cX6_setData 15 = .ok (.ldc 112, 2) := by decide +kernel
theorem dX6_setData_17 : decode cX6_setData 17 = .ok (.if_icmp .lt 9, 3) := by decide +kernel
theorem dX6_setData_20 : decode cX6_setData 20 = .ok (.iload_n 3, 1) := by decide +kernel
theorem dX6_setData_21 : decode cX6_setData 21 = .ok (.ldc 113, 2) := by decide +kernel
theorem dX6_setData_23 : decode cX6_setData 23 = .ok (.if_icmp .le 6, 3) := by decide +kernel
theorem dX6_setData_26 : decode cX6_setData 26 = .ok (.ldc 63, 2) := by decide +kernel
theorem dX6_setData_28 : decode cX6_setData 28 = .ok (.ireturn, 1) := by decide +kernel
theorem dX6_setData_29 : decode cX6_setData 29 = .ok (.aload_n 0, 1) := by decide +kernel
theorem dX6_setData_30 : decode cX6_setData 30 = .ok (.getfield 12, 3) := by decide +kernel
theorem dX6_setData_33 : decode cX6_setData 33 = .ok (.getfield 101, 3) := by decide +kernel
theorem dX6_setData_36 : decode cX6_setData 36 = .ok (.iload 4, 2) := by decide +kernel
theorem dX6_setData_38 : decode cX6_setData 38 = .ok (.iload_n 3, 1) := by decide +kernel
theorem dX6_setData_39 : decode cX6_setData 39 = .ok (.invokestatic 105, 3) := by decide +kernel
theorem dX6_setData_42 : decode cX6_setData 42 = .ok (.ireturn, 1) := by decide +kernel
theorem dX6_data_0 : decode cX6_data 0 = .ok (.aload_n 0, 1) := by decide +kernel
theorem dX6_data_1 : decode cX6_data 1 = .ok (.iload_n 1, 1) := by decide +kernel
theorem dX6_data_2 : decode cX6_data 2 = .ok (.iload_n 2, 1) := by decide +kernel
theorem dX6_data_3 : decode cX6_data 3 = .ok (.invokevirtual 109, 3) := by decide +kernel
theorem dX6_data_6 : decode cX6_data 6 = .ok (.istore_n 3, 1) := by decide +kernel
theorem dX6_data_7 : decode cX6_data 7 = .ok (.iload_n 3, 1) := by decide +kernel
theorem dX6_data_8 : decode cX6_data 8 = .ok (.iconst (-1), 1) := by decide +kernel
theorem dX6_data_9 : decode cX6_data 9 = .ok (.if_icmp .ne 8, 3) := by decide +kernel
theorem dX6_data_12 : decode cX6_data 12 = .ok (.ldc 63, 2) := by decide +kernel
theorem dX6_data_14 : decode cX6_data 14 = .ok (.goto 12, 3) := by decide +kernel
theorem dX6_data_17 : decode cX6_data 17 = .ok (.aload_n 0, 1) := by decide +kernel
theorem dX6_data_18 : decode cX6_data 18 = .ok (.getfield 12, 3) := by decide +kernel
theorem dX6_data_21 : decode cX6_data 21 = .ok (.getfield 101, 3) := by decide +kernel
theorem dX6_data_24 : decode cX6_data 24 = .ok (.iload_n 3, 1) := by decide +kernel
theorem dX6_data_25 : decode cX6_data 25 = .ok (.iaload, 1) := by decide +kernel
theorem dX6_data_26 : decode cX6_data 26 = .ok (.ireturn, 1) := by decide +kernel
theorem dX6_pin_0 : decode cX6_pin 0 = .ok (.aload_n 0, 1) := by decide +kernel
theorem dX6_pin_1 : decode cX6_pin 1 = .ok (.getfield 12, 3) := by decide +kernel
theorem dX6_pin_4 : decode cX6_pin 4 = .ok (.iload_n 1, 1) := by decide +kernel
theorem dX6_pin_5 : decode cX6_pin 5 = .ok (.invokevirtual 73, 3) := by decide +kernel
theorem dX6_pin_8 : decode cX6_pin 8 = .ok (.istore_n 3, 1) := by decide +kernel
theorem dX6_pin_9 : decode cX6_pin 9 = .ok (.iload_n 3, 1) := by decide +kernel
theorem dX6_pin_10 : decode cX6_pin 10 = .ok (.iconst (-1), 1) := by decide +kernel
theorem dX6_pin_11 : decode cX6_pin 11 = .ok (.if_icmp .ne 6, 3) := by decide +kernel
theorem dX6_pin_14 : decode cX6_pin 14 = .ok (.ldc 63, 2) := by decide +kernel
theorem dX6_pin_16 : decode cX6_pin 16 = .ok (.ireturn, 1) := by decide +kernel
theorem dX6_pin_17 : decode cX6_pin 17 = .ok (.iload_n 2, 1) := by decide +kernel
theorem dX6_pin_18 : decode cX6_pin 18 = .ok (.ifCond .eq 7, 3) := by decide +kernel
theorem dX6_pin_21 : decode cX6_pin 21 = .ok (.iconst 1, 1) := by decide +kernel
theorem dX6_pin_22 : decode cX6_pin 22 = .ok (.goto 4, 3) := by decide +kernel
theorem dX6_pin_25 : decode cX6_pin 25 = .ok (.iconst 0, 1) := by decide +kernel
theorem dX6_pin_26 : decode cX6_pin 26 = .ok (.istore 4, 2) := by decide +kernel
theorem dX6_pin_28 : decode cX6_pin 28 = .ok (.aload_n 0, 1) := by decide +kernel
theorem dX6_pin_29 : decode cX6_pin 29 = .ok (.getfield 12, 3) := by decide +kernel
theorem dX6_pin_32 : decode cX6_pin 32 = .ok (.getfield 114, 3) := by decide +kernel
theorem dX6_pin_35 : decode cX6_pin 35 = .ok (.iload_n 3, 1) := by decide +kernel
theorem dX6_pin_36 : decode cX6_pin 36 = .ok (.iaload, 1) := by decide +kernel
theorem dX6_pin_37 : decode cX6_pin 37 = .ok (.iload 4, 2) := by decide +kernel
theorem dX6_pin_39 : decode cX6_pin 39 = .ok (.if_icmp .ne 6, 3) := by decide +kernel
theorem dX6_pin_42 : decode cX6_pin 42 = .ok (.ldc 117, 2) := by decide +kernel
theorem dX6_pin_44 : decode cX6_pin 44 = .ok (.ireturn, 1) := by decide +kernel
theorem dX6_pin_45 : decode cX6_pin 45 = .ok (.aload_n 0, 1) := by decide +kernel
theorem dX6_pin_46 : decode cX6_pin 46 = .ok (.getfield 12, 3) := by decide +kernel
theorem dX6_pin_49 : decode cX6_pin 49 = .ok (.getfield 114, 3) := by decide +kernel
theorem dX6_pin_52 : decode cX6_pin 52 = .ok (.iload_n 3, 1) := by decide +kernel
theorem dX6_pin_53 : decode cX6_pin 53 = .ok (.iload 4, 2) := by decide +kernel
theorem dX6_pin_55 : decode cX6_pin 55 = .ok (.iastore, 1) := by decide +kernel
theorem dX6_pin_56 : decode cX6_pin 56 = .ok (.aload_n 0, 1) := by decide +kernel
theorem dX6_pin_57 : decode cX6_pin 57 = .ok (.getfield 12, 3) := by decide +kernel
theorem dX6_pin_60 : decode cX6_pin 60 = .ok (.invokevirtual 118, 3) := by decide +kernel
theorem dX6_pin_63 : decode cX6_pin 63 = .ok (.ireturn, 1) := by decide +kernel
theorem dX6_setRoot_0 : decode cX6_setRoot 0 = .ok (.iload_n 1, 1) := by decide +kernel
theorem dX6_setRoot_1 : decode cX6_setRoot 1 = .ok (.ifCond .lt 20, 3) := by decide +kernel
theorem dX6_setRoot_4 : decode cX6_setRoot 4 = .ok (.iload_n 1, 1) := by decide +kernel
theorem dX6_setRoot_5 : decode cX6_setRoot 5 = .ok (.bipush 6, 2) := by decide +kernel
theorem dX6_setRoot_7 : decode cX6_setRoot 7 = .ok (.if_icmp .ge 14, 3) := by decide +kernel
theorem dX6_setRoot_10 : decode cX6_setRoot 10 = .ok (.aload_n 0, 1) := by decide +kernel
theorem dX6_setRoot_11 : decode cX6_setRoot 11 = .ok (.getfield 12, 3) := by decide +kernel
theorem dX6_setRoot_14 : decode cX6_setRoot 14 = .ok (.iload_n 2, 1) := by decide +kernel
theorem dX6_setRoot_15 : decode cX6_setRoot 15 = .ok (.invokevirtual 97, 3) := by decide +kernel
theorem dX6_setRoot_18 : decode cX6_setRoot 18 = .ok (.ifCond .ne 6, 3) := by decide +kernel
theorem dX6_setRoot_21 : decode cX6_setRoot 21 = .ok (.ldc 63, 2) := by decide +kernel
theorem dX6_setRoot_23 : decode cX6_setRoot 23 = .ok (.ireturn, 1) := by decide +kernel
theorem dX6_setRoot_24 : decode cX6_setRoot 24 = .ok (.aload_n 0, 1) := by decide +kernel
theorem dX6_setRoot_25 : decode cX6_setRoot 25 = .ok (.getfield 12, 3) := by decide +kernel
theorem dX6_setRoot_28 : decode cX6_setRoot 28 = .ok (.getfield 122, 3) := by decide +kernel
theorem dX6_setRoot_31 : decode cX6_setRoot 31 = .ok (.iload_n 1, 1) := by decide +kernel
theorem dX6_setRoot_32 : decode cX6_setRoot 32 = .ok (.iload_n 2, 1) := by decide +kernel
theorem dX6_setRoot_33 : decode cX6_setRoot 33 = .ok (.invokestatic 105, 3) := by decide +kernel
theorem dX6_setRoot_36 : decode cX6_setRoot 36 = .ok (.ireturn, 1) := by decide +kernel
theorem dX6_root_0 : decode cX6_root 0 = .ok (.iload_n 1, 1) := by decide +kernel
theorem dX6_root_1 : decode cX6_root 1 = .ok (.ifCond .lt 9, 3) := by decide +kernel
theorem dX6_root_4 : decode cX6_root 4 = .ok (.iload_n 1, 1) := by decide +kernel
theorem dX6_root_5 : decode cX6_root 5 = .ok (.bipush 6, 2) := by decide +kernel
theorem dX6_root_7 : decode cX6_root 7 = .ok (.if_icmp .lt 8, 3) := by decide +kernel
theorem dX6_root_10 : decode cX6_root 10 = .ok (.ldc 63, 2) := by decide +kernel
theorem dX6_root_12 : decode cX6_root 12 = .ok (.goto 12, 3) := by decide +kernel
theorem dX6_root_15 : decode cX6_root 15 = .ok (.aload_n 0, 1) := by decide +kernel
theorem dX6_root_16 : decode cX6_root 16 = .ok (.getfield 12, 3) := by decide +kernel
theorem dX6_root_19 : decode cX6_root 19 = .ok (.getfield 122, 3) := by decide +kernel
theorem dX6_root_22 : decode cX6_root 22 = .ok (.iload_n 1, 1) := by decide +kernel
theorem dX6_root_23 : decode cX6_root 23 = .ok (.iaload, 1) := by decide +kernel
theorem dX6_root_24 : decode cX6_root 24 = .ok (.ireturn, 1) := by decide +kernel
theorem dX6_setWeak_0 : decode cX6_setWeak 0 = .ok (.iload_n 1, 1) := by decide +kernel
theorem dX6_setWeak_1 : decode cX6_setWeak 1 = .ok (.ifCond .lt 19, 3) := by decide +kernel
theorem dX6_setWeak_4 : decode cX6_setWeak 4 = .ok (.iload_n 1, 1) := by decide +kernel
theorem dX6_setWeak_5 : decode cX6_setWeak 5 = .ok (.iconst 4, 1) := by decide +kernel
theorem dX6_setWeak_6 : decode cX6_setWeak 6 = .ok (.if_icmp .ge 14, 3) := by decide +kernel
theorem dX6_setWeak_9 : decode cX6_setWeak 9 = .ok (.aload_n 0, 1) := by decide +kernel
theorem dX6_setWeak_10 : decode cX6_setWeak 10 = .ok (.getfield 12, 3) := by decide +kernel
theorem dX6_setWeak_13 : decode cX6_setWeak 13 = .ok (.iload_n 2, 1) := by decide +kernel
theorem dX6_setWeak_14 : decode cX6_setWeak 14 = .ok (.invokevirtual 97, 3) := by decide +kernel
theorem dX6_setWeak_17 : decode cX6_setWeak 17 = .ok (.ifCond .ne 6, 3) := by decide +kernel
theorem dX6_setWeak_20 : decode cX6_setWeak 20 = .ok (.ldc 63, 2) := by decide +kernel
theorem dX6_setWeak_22 : decode cX6_setWeak 22 = .ok (.ireturn, 1) := by decide +kernel
theorem dX6_setWeak_23 : decode cX6_setWeak 23 = .ok (.aload_n 0, 1) := by decide +kernel
theorem dX6_setWeak_24 : decode cX6_setWeak 24 = .ok (.getfield 12, 3) := by decide +kernel
theorem dX6_setWeak_27 : decode cX6_setWeak 27 = .ok (.getfield 125, 3) := by decide +kernel
theorem dX6_setWeak_30 : decode cX6_setWeak 30 = .ok (.iload_n 1, 1) := by decide +kernel
theorem dX6_setWeak_31 : decode cX6_setWeak 31 = .ok (.iload_n 2, 1) := by decide +kernel
theorem dX6_setWeak_32 : decode cX6_setWeak 32 = .ok (.invokestatic 105, 3) := by decide +kernel
theorem dX6_setWeak_35 : decode cX6_setWeak 35 = .ok (.ireturn, 1) := by decide +kernel
theorem dX6_weak_0 : decode cX6_weak 0 = .ok (.iload_n 1, 1) := by decide +kernel
theorem dX6_weak_1 : decode cX6_weak 1 = .ok (.ifCond .lt 8, 3) := by decide +kernel
theorem dX6_weak_4 : decode cX6_weak 4 = .ok (.iload_n 1, 1) := by decide +kernel
theorem dX6_weak_5 : decode cX6_weak 5 = .ok (.iconst 4, 1) := by decide +kernel
theorem dX6_weak_6 : decode cX6_weak 6 = .ok (.if_icmp .lt 8, 3) := by decide +kernel
theorem dX6_weak_9 : decode cX6_weak 9 = .ok (.ldc 63, 2) := by decide +kernel
theorem dX6_weak_11 : decode cX6_weak 11 = .ok (.goto 12, 3) := by decide +kernel
theorem dX6_weak_14 : decode cX6_weak 14 = .ok (.aload_n 0, 1) := by decide +kernel
theorem dX6_weak_15 : decode cX6_weak 15 = .ok (.getfield 12, 3) := by decide +kernel
theorem dX6_weak_18 : decode cX6_weak 18 = .ok (.getfield 125, 3) := by decide +kernel
theorem dX6_weak_21 : decode cX6_weak 21 = .ok (.iload_n 1, 1) := by decide +kernel
theorem dX6_weak_22 : decode cX6_weak 22 = .ok (.iaload, 1) := by decide +kernel
theorem dX6_weak_23 : decode cX6_weak 23 = .ok (.ireturn, 1) := by decide +kernel
theorem dX6_collect_0 : decode cX6_collect 0 = .ok (.aload_n 0, 1) := by decide +kernel
theorem dX6_collect_1 : decode cX6_collect 1 = .ok (.getfield 12, 3) := by decide +kernel
theorem dX6_collect_4 : decode cX6_collect 4 = .ok (.invokevirtual 128, 3) := by decide +kernel
theorem dX6_collect_7 : decode cX6_collect 7 = .ok (.istore_n 1, 1) := by decide +kernel
theorem dX6_collect_8 : decode cX6_collect 8 = .ok (.aload_n 0, 1) := by decide +kernel
theorem dX6_collect_9 : decode cX6_collect 9 = .ok (.getfield 27, 3) := by decide +kernel
theorem dX6_collect_12 : decode cX6_collect 12 = .ok (.aload_n 0, 1) := by decide +kernel
theorem dX6_collect_13 : decode cX6_collect 13 = .ok (.getfield 12, 3) := by decide +kernel
theorem dX6_collect_16 : decode cX6_collect 16 = .ok (.invokevirtual 131, 3) := by decide +kernel
theorem dX6_collect_19 : decode cX6_collect 19 = .ok (.aload_n 0, 1) := by decide +kernel
theorem dX6_collect_20 : decode cX6_collect 20 = .ok (.getfield 27, 3) := by decide +kernel
theorem dX6_collect_23 : decode cX6_collect 23 = .ok (.aload_n 0, 1) := by decide +kernel
theorem dX6_collect_24 : decode cX6_collect 24 = .ok (.getfield 12, 3) := by decide +kernel
theorem dX6_collect_27 : decode cX6_collect 27 = .ok (.invokevirtual 134, 3) := by decide +kernel
theorem dX6_collect_30 : decode cX6_collect 30 = .ok (.aload_n 0, 1) := by decide +kernel
theorem dX6_collect_31 : decode cX6_collect 31 = .ok (.getfield 27, 3) := by decide +kernel
theorem dX6_collect_34 : decode cX6_collect 34 = .ok (.aload_n 0, 1) := by decide +kernel
theorem dX6_collect_35 : decode cX6_collect 35 = .ok (.getfield 12, 3) := by decide +kernel
theorem dX6_collect_38 : decode cX6_collect 38 = .ok (.invokevirtual 137, 3) := by decide +kernel
theorem dX6_collect_41 : decode cX6_collect 41 = .ok (.aload_n 0, 1) := by decide +kernel
theorem dX6_collect_42 : decode cX6_collect 42 = .ok (.getfield 27, 3) := by decide +kernel
theorem dX6_collect_45 : decode cX6_collect 45 = .ok (.aload_n 0, 1) := by decide +kernel
theorem dX6_collect_46 : decode cX6_collect 46 = .ok (.getfield 12, 3) := by decide +kernel
theorem dX6_collect_49 : decode cX6_collect 49 = .ok (.invokevirtual 140, 3) := by decide +kernel
theorem dX6_collect_52 : decode cX6_collect 52 = .ok (.iload_n 1, 1) := by decide +kernel
theorem dX6_collect_53 : decode cX6_collect 53 = .ok (.aload_n 0, 1) := by decide +kernel
theorem dX6_collect_54 : decode cX6_collect 54 = .ok (.getfield 12, 3) := by decide +kernel
theorem dX6_collect_57 : decode cX6_collect 57 = .ok (.invokevirtual 128, 3) := by decide +kernel
theorem dX6_collect_60 : decode cX6_collect 60 = .ok (.isub, 1) := by decide +kernel
theorem dX6_collect_61 : decode cX6_collect 61 = .ok (.istore_n 2, 1) := by decide +kernel
theorem dX6_collect_62 : decode cX6_collect 62 = .ok (.aload_n 0, 1) := by decide +kernel
theorem dX6_collect_63 : decode cX6_collect 63 = .ok (.getfield 12, 3) := by decide +kernel
theorem dX6_collect_66 : decode cX6_collect 66 = .ok (.dup, 1) := by decide +kernel
theorem dX6_collect_67 : decode cX6_collect 67 = .ok (.getfield 143, 3) := by decide +kernel
theorem dX6_collect_70 : decode cX6_collect 70 = .ok (.iconst 1, 1) := by decide +kernel
theorem dX6_collect_71 : decode cX6_collect 71 = .ok (.iadd, 1) := by decide +kernel
theorem dX6_collect_72 : decode cX6_collect 72 = .ok (.putfield 143, 3) := by decide +kernel
theorem dX6_collect_75 : decode cX6_collect 75 = .ok (.aload_n 0, 1) := by decide +kernel
theorem dX6_collect_76 : decode cX6_collect 76 = .ok (.getfield 12, 3) := by decide +kernel
theorem dX6_collect_79 : decode cX6_collect 79 = .ok (.dup, 1) := by decide +kernel
theorem dX6_collect_80 : decode cX6_collect 80 = .ok (.getfield 146, 3) := by decide +kernel
theorem dX6_collect_83 : decode cX6_collect 83 = .ok (.iload_n 2, 1) := by decide +kernel
theorem dX6_collect_84 : decode cX6_collect 84 = .ok (.iadd, 1) := by decide +kernel
theorem dX6_collect_85 : decode cX6_collect 85 = .ok (.putfield 146, 3) := by decide +kernel
theorem dX6_collect_88 : decode cX6_collect 88 = .ok (.iload_n 2, 1) := by decide +kernel
theorem dX6_collect_89 : decode cX6_collect 89 = .ok (.ireturn, 1) := by decide +kernel
theorem dX6_moved_0 : decode cX6_moved 0 = .ok (.aload_n 0, 1) := by decide +kernel
theorem dX6_moved_1 : decode cX6_moved 1 = .ok (.getfield 12, 3) := by decide +kernel
theorem dX6_moved_4 : decode cX6_moved 4 = .ok (.iload_n 1, 1) := by decide +kernel
theorem dX6_moved_5 : decode cX6_moved 5 = .ok (.invokevirtual 149, 3) := by decide +kernel
theorem dX6_moved_8 : decode cX6_moved 8 = .ok (.ifCond .ne 6, 3) := by decide +kernel
theorem dX6_moved_11 : decode cX6_moved 11 = .ok (.ldc 63, 2) := by decide +kernel
theorem dX6_moved_13 : decode cX6_moved 13 = .ok (.ireturn, 1) := by decide +kernel
theorem dX6_moved_14 : decode cX6_moved 14 = .ok (.aload_n 0, 1) := by decide +kernel
theorem dX6_moved_15 : decode cX6_moved 15 = .ok (.getfield 12, 3) := by decide +kernel
theorem dX6_moved_18 : decode cX6_moved 18 = .ok (.getfield 143, 3) := by decide +kernel
theorem dX6_moved_21 : decode cX6_moved 21 = .ok (.ifCond .ne 8, 3) := by decide +kernel
theorem dX6_moved_24 : decode cX6_moved 24 = .ok (.ldc 117, 2) := by decide +kernel
theorem dX6_moved_26 : decode cX6_moved 26 = .ok (.goto 12, 3) := by decide +kernel
theorem dX6_moved_29 : decode cX6_moved 29 = .ok (.aload_n 0, 1) := by decide +kernel
theorem dX6_moved_30 : decode cX6_moved 30 = .ok (.getfield 12, 3) := by decide +kernel
theorem dX6_moved_33 : decode cX6_moved 33 = .ok (.getfield 152, 3) := by decide +kernel
theorem dX6_moved_36 : decode cX6_moved 36 = .ok (.iload_n 1, 1) := by decide +kernel
theorem dX6_moved_37 : decode cX6_moved 37 = .ok (.iaload, 1) := by decide +kernel
theorem dX6_moved_38 : decode cX6_moved 38 = .ok (.ireturn, 1) := by decide +kernel
theorem dX6_report_0 : decode cX6_report 0 = .ok (.iload_n 1, 1) := by decide +kernel
theorem dX6_report_1 : decode cX6_report 1 = .ok (.ifCond .lt 9, 3) := by decide +kernel
theorem dX6_report_4 : decode cX6_report 4 = .ok (.iload_n 1, 1) := by decide +kernel
theorem dX6_report_5 : decode cX6_report 5 = .ok (.bipush 6, 2) := by decide +kernel
theorem dX6_report_7 : decode cX6_report 7 = .ok (.if_icmp .lt 6, 3) := by decide +kernel
theorem dX6_report_10 : decode cX6_report 10 = .ok (.ldc 63, 2) := by decide +kernel
theorem dX6_report_12 : decode cX6_report 12 = .ok (.ireturn, 1) := by decide +kernel
theorem dX6_report_13 : decode cX6_report 13 = .ok (.aload_n 0, 1) := by decide +kernel
theorem dX6_report_14 : decode cX6_report 14 = .ok (.getfield 12, 3) := by decide +kernel
theorem dX6_report_17 : decode cX6_report 17 = .ok (.getfield 143, 3) := by decide +kernel
theorem dX6_report_20 : decode cX6_report 20 = .ok (.ifCond .ne 8, 3) := by decide +kernel
theorem dX6_report_23 : decode cX6_report 23 = .ok (.ldc 117, 2) := by decide +kernel
theorem dX6_report_25 : decode cX6_report 25 = .ok (.goto 12, 3) := by decide +kernel
theorem dX6_report_28 : decode cX6_report 28 = .ok (.aload_n 0, 1) := by decide +kernel
theorem dX6_report_29 : decode cX6_report 29 = .ok (.getfield 12, 3) := by decide +kernel
theorem dX6_report_32 : decode cX6_report 32 = .ok (.getfield 155, 3) := by decide +kernel
theorem dX6_report_35 : decode cX6_report 35 = .ok (.iload_n 1, 1) := by decide +kernel
theorem dX6_report_36 : decode cX6_report 36 = .ok (.iaload, 1) := by decide +kernel
theorem dX6_report_37 : decode cX6_report 37 = .ok (.ireturn, 1) := by decide +kernel
theorem dX6_garbage_0 : decode cX6_garbage 0 = .ok (.aload_n 0, 1) := by decide +kernel
theorem dX6_garbage_1 : decode cX6_garbage 1 = .ok (.getfield 34, 3) := by decide +kernel
theorem dX6_garbage_4 : decode cX6_garbage 4 = .ok (.aload_n 0, 1) := by decide +kernel
theorem dX6_garbage_5 : decode cX6_garbage 5 = .ok (.getfield 12, 3) := by decide +kernel
theorem dX6_garbage_8 : decode cX6_garbage 8 = .ok (.iconst (-1), 1) := by decide +kernel
theorem dX6_garbage_9 : decode cX6_garbage 9 = .ok (.invokevirtual 80, 3) := by decide +kernel
theorem dX6_garbage_12 : decode cX6_garbage 12 = .ok (.aload_n 0, 1) := by decide +kernel
theorem dX6_garbage_13 : decode cX6_garbage 13 = .ok (.getfield 12, 3) := by decide +kernel
theorem dX6_garbage_16 : decode cX6_garbage 16 = .ok (.invokevirtual 128, 3) := by decide +kernel
theorem dX6_garbage_19 : decode cX6_garbage 19 = .ok (.aload_n 0, 1) := by decide +kernel
theorem dX6_garbage_20 : decode cX6_garbage 20 = .ok (.getfield 34, 3) := by decide +kernel
theorem dX6_garbage_23 : decode cX6_garbage 23 = .ok (.aload_n 0, 1) := by decide +kernel
theorem dX6_garbage_24 : decode cX6_garbage 24 = .ok (.getfield 12, 3) := by decide +kernel
theorem dX6_garbage_27 : decode cX6_garbage 27 = .ok (.invokevirtual 158, 3) := by decide +kernel
theorem dX6_garbage_30 : decode cX6_garbage 30 = .ok (.isub, 1) := by decide +kernel
theorem dX6_garbage_31 : decode cX6_garbage 31 = .ok (.ireturn, 1) := by decide +kernel
theorem dX6_distance_0 : decode cX6_distance 0 = .ok (.aload_n 0, 1) := by decide +kernel
theorem dX6_distance_1 : decode cX6_distance 1 = .ok (.getfield 12, 3) := by decide +kernel
theorem dX6_distance_4 : decode cX6_distance 4 = .ok (.iload_n 1, 1) := by decide +kernel
theorem dX6_distance_5 : decode cX6_distance 5 = .ok (.invokevirtual 73, 3) := by decide +kernel
theorem dX6_distance_8 : decode cX6_distance 8 = .ok (.istore_n 2, 1) := by decide +kernel
theorem dX6_distance_9 : decode cX6_distance 9 = .ok (.iload_n 2, 1) := by decide +kernel
theorem dX6_distance_10 : decode cX6_distance 10 = .ok (.iconst (-1), 1) := by decide +kernel
theorem dX6_distance_11 : decode cX6_distance 11 = .ok (.if_icmp .ne 6, 3) := by decide +kernel
theorem dX6_distance_14 : decode cX6_distance 14 = .ok (.ldc 63, 2) := by decide +kernel
theorem dX6_distance_16 : decode cX6_distance 16 = .ok (.ireturn, 1) := by decide +kernel
theorem dX6_distance_17 : decode cX6_distance 17 = .ok (.aload_n 0, 1) := by decide +kernel
theorem dX6_distance_18 : decode cX6_distance 18 = .ok (.getfield 34, 3) := by decide +kernel
theorem dX6_distance_21 : decode cX6_distance 21 = .ok (.aload_n 0, 1) := by decide +kernel
theorem dX6_distance_22 : decode cX6_distance 22 = .ok (.getfield 12, 3) := by decide +kernel
theorem dX6_distance_25 : decode cX6_distance 25 = .ok (.iconst (-1), 1) := by decide +kernel
theorem dX6_distance_26 : decode cX6_distance 26 = .ok (.invokevirtual 80, 3) := by decide +kernel
theorem dX6_distance_29 : decode cX6_distance 29 = .ok (.aload_n 0, 1) := by decide +kernel
theorem dX6_distance_30 : decode cX6_distance 30 = .ok (.getfield 34, 3) := by decide +kernel
theorem dX6_distance_33 : decode cX6_distance 33 = .ok (.getfield 162, 3) := by decide +kernel
theorem dX6_distance_36 : decode cX6_distance 36 = .ok (.iload_n 2, 1) := by decide +kernel
theorem dX6_distance_37 : decode cX6_distance 37 = .ok (.iaload, 1) := by decide +kernel
theorem dX6_distance_38 : decode cX6_distance 38 = .ok (.ireturn, 1) := by decide +kernel
theorem dX6_retained_0 : decode cX6_retained 0 = .ok (.aload_n 0, 1) := by decide +kernel
theorem dX6_retained_1 : decode cX6_retained 1 = .ok (.getfield 12, 3) := by decide +kernel
theorem dX6_retained_4 : decode cX6_retained 4 = .ok (.iload_n 1, 1) := by decide +kernel
theorem dX6_retained_5 : decode cX6_retained 5 = .ok (.invokevirtual 73, 3) := by decide +kernel
theorem dX6_retained_8 : decode cX6_retained 8 = .ok (.istore_n 2, 1) := by decide +kernel
theorem dX6_retained_9 : decode cX6_retained 9 = .ok (.iload_n 2, 1) := by decide +kernel
theorem dX6_retained_10 : decode cX6_retained 10 = .ok (.iconst (-1), 1) := by decide +kernel
theorem dX6_retained_11 : decode cX6_retained 11 = .ok (.if_icmp .ne 6, 3) := by decide +kernel
theorem dX6_retained_14 : decode cX6_retained 14 = .ok (.ldc 63, 2) := by decide +kernel
theorem dX6_retained_16 : decode cX6_retained 16 = .ok (.ireturn, 1) := by decide +kernel
theorem dX6_retained_17 : decode cX6_retained 17 = .ok (.aload_n 0, 1) := by decide +kernel
theorem dX6_retained_18 : decode cX6_retained 18 = .ok (.getfield 34, 3) := by decide +kernel
theorem dX6_retained_21 : decode cX6_retained 21 = .ok (.aload_n 0, 1) := by decide +kernel
theorem dX6_retained_22 : decode cX6_retained 22 = .ok (.getfield 12, 3) := by decide +kernel
theorem dX6_retained_25 : decode cX6_retained 25 = .ok (.iconst (-1), 1) := by decide +kernel
theorem dX6_retained_26 : decode cX6_retained 26 = .ok (.invokevirtual 80, 3) := by decide +kernel
theorem dX6_retained_29 : decode cX6_retained 29 = .ok (.aload_n 0, 1) := by decide +kernel
theorem dX6_retained_30 : decode cX6_retained 30 = .ok (.getfield 34, 3) := by decide +kernel
theorem dX6_retained_33 : decode cX6_retained 33 = .ok (.aload_n 0, 1) := by decide +kernel
theorem dX6_retained_34 : decode cX6_retained 34 = .ok (.getfield 12, 3) := by decide +kernel
theorem dX6_retained_37 : decode cX6_retained 37 = .ok (.invokevirtual 158, 3) := by decide +kernel
theorem dX6_retained_40 : decode cX6_retained 40 = .ok (.istore_n 3, 1) := by decide +kernel
theorem dX6_retained_41 : decode cX6_retained 41 = .ok (.aload_n 0, 1) := by decide +kernel
theorem dX6_retained_42 : decode cX6_retained 42 = .ok (.getfield 34, 3) := by decide +kernel
theorem dX6_retained_45 : decode cX6_retained 45 = .ok (.aload_n 0, 1) := by decide +kernel
theorem dX6_retained_46 : decode cX6_retained 46 = .ok (.getfield 12, 3) := by decide +kernel
theorem dX6_retained_49 : decode cX6_retained 49 = .ok (.iload_n 2, 1) := by decide +kernel
theorem dX6_retained_50 : decode cX6_retained 50 = .ok (.invokevirtual 80, 3) := by decide +kernel
theorem dX6_retained_53 : decode cX6_retained 53 = .ok (.iload_n 3, 1) := by decide +kernel
theorem dX6_retained_54 : decode cX6_retained 54 = .ok (.aload_n 0, 1) := by decide +kernel
theorem dX6_retained_55 : decode cX6_retained 55 = .ok (.getfield 34, 3) := by decide +kernel
theorem dX6_retained_58 : decode cX6_retained 58 = .ok (.aload_n 0, 1) := by decide +kernel
theorem dX6_retained_59 : decode cX6_retained 59 = .ok (.getfield 12, 3) := by decide +kernel
theorem dX6_retained_62 : decode cX6_retained 62 = .ok (.invokevirtual 158, 3) := by decide +kernel
theorem dX6_retained_65 : decode cX6_retained 65 = .ok (.isub, 1) := by decide +kernel
theorem dX6_retained_66 : decode cX6_retained 66 = .ok (.ireturn, 1) := by decide +kernel
theorem dX6_free_0 : decode cX6_free 0 = .ok (.iload_n 1, 1) := by decide +kernel
theorem dX6_free_1 : decode cX6_free 1 = .ok (.ifCond .lt 8, 3) := by decide +kernel
theorem dX6_free_4 : decode cX6_free 4 = .ok (.iload_n 1, 1) := by decide +kernel
theorem dX6_free_5 : decode cX6_free 5 = .ok (.iconst 5, 1) := by decide +kernel
theorem dX6_free_6 : decode cX6_free 6 = .ok (.if_icmp .lt 6, 3) := by decide +kernel
theorem dX6_free_9 : decode cX6_free 9 = .ok (.ldc 63, 2) := by decide +kernel
theorem dX6_free_11 : decode cX6_free 11 = .ok (.ireturn, 1) := by decide +kernel
theorem dX6_free_12 : decode cX6_free 12 = .ok (.aload_n 0, 1) := by decide +kernel
theorem dX6_free_13 : decode cX6_free 13 = .ok (.getfield 48, 3) := by decide +kernel
theorem dX6_free_16 : decode cX6_free 16 = .ok (.aload_n 0, 1) := by decide +kernel
theorem dX6_free_17 : decode cX6_free 17 = .ok (.getfield 12, 3) := by decide +kernel
theorem dX6_free_20 : decode cX6_free 20 = .ok (.invokevirtual 165, 3) := by decide +kernel
theorem dX6_free_23 : decode cX6_free 23 = .ok (.aload_n 0, 1) := by decide +kernel
theorem dX6_free_24 : decode cX6_free 24 = .ok (.getfield 48, 3) := by decide +kernel
theorem dX6_free_27 : decode cX6_free 27 = .ok (.getfield 168, 3) := by decide +kernel
theorem dX6_free_30 : decode cX6_free 30 = .ok (.iload_n 1, 1) := by decide +kernel
theorem dX6_free_31 : decode cX6_free 31 = .ok (.iaload, 1) := by decide +kernel
theorem dX6_free_32 : decode cX6_free 32 = .ok (.ireturn, 1) := by decide +kernel
theorem dX6_type_0 : decode cX6_type 0 = .ok (.iload_n 1, 1) := by decide +kernel
theorem dX6_type_1 : decode cX6_type 1 = .ok (.ifCond .lt 9, 3) := by decide +kernel
theorem dX6_type_4 : decode cX6_type 4 = .ok (.iload_n 1, 1) := by decide +kernel
theorem dX6_type_5 : decode cX6_type 5 = .ok (.bipush 127, 2) := by decide +kernel
theorem dX6_type_7 : decode cX6_type 7 = .ok (.if_icmp .le 6, 3) := by decide +kernel
theorem dX6_type_10 : decode cX6_type 10 = .ok (.ldc 63, 2) := by decide +kernel
theorem dX6_type_12 : decode cX6_type 12 = .ok (.ireturn, 1) := by decide +kernel
theorem dX6_type_13 : decode cX6_type 13 = .ok (.aload_n 0, 1) := by decide +kernel
theorem dX6_type_14 : decode cX6_type 14 = .ok (.getfield 55, 3) := by decide +kernel
theorem dX6_type_17 : decode cX6_type 17 = .ok (.getfield 171, 3) := by decide +kernel
theorem dX6_type_20 : decode cX6_type 20 = .ok (.bipush 80, 2) := by decide +kernel
theorem dX6_type_22 : decode cX6_type 22 = .ok (.if_icmp .lt 6, 3) := by decide +kernel
theorem dX6_type_25 : decode cX6_type 25 = .ok (.ldc 68, 2) := by decide +kernel
theorem dX6_type_27 : decode cX6_type 27 = .ok (.ireturn, 1) := by decide +kernel
theorem dX6_type_28 : decode cX6_type 28 = .ok (.aload_n 0, 1) := by decide +kernel
theorem dX6_type_29 : decode cX6_type 29 = .ok (.getfield 55, 3) := by decide +kernel
theorem dX6_type_32 : decode cX6_type 32 = .ok (.getfield 174, 3) := by decide +kernel
theorem dX6_type_35 : decode cX6_type 35 = .ok (.aload_n 0, 1) := by decide +kernel
theorem dX6_type_36 : decode cX6_type 36 = .ok (.getfield 55, 3) := by decide +kernel
theorem dX6_type_39 : decode cX6_type 39 = .ok (.getfield 171, 3) := by decide +kernel
theorem dX6_type_42 : decode cX6_type 42 = .ok (.iload_n 1, 1) := by decide +kernel
theorem dX6_type_43 : decode cX6_type 43 = .ok (.iastore, 1) := by decide +kernel
theorem dX6_type_44 : decode cX6_type 44 = .ok (.aload_n 0, 1) := by decide +kernel
theorem dX6_type_45 : decode cX6_type 45 = .ok (.getfield 55, 3) := by decide +kernel
theorem dX6_type_48 : decode cX6_type 48 = .ok (.dup, 1) := by decide +kernel
theorem dX6_type_49 : decode cX6_type 49 = .ok (.getfield 171, 3) := by decide +kernel
theorem dX6_type_52 : decode cX6_type 52 = .ok (.iconst 1, 1) := by decide +kernel
theorem dX6_type_53 : decode cX6_type 53 = .ok (.iadd, 1) := by decide +kernel
theorem dX6_type_54 : decode cX6_type 54 = .ok (.putfield 171, 3) := by decide +kernel
theorem dX6_type_57 : decode cX6_type 57 = .ok (.aload_n 0, 1) := by decide +kernel
theorem dX6_type_58 : decode cX6_type 58 = .ok (.getfield 55, 3) := by decide +kernel
theorem dX6_type_61 : decode cX6_type 61 = .ok (.getfield 171, 3) := by decide +kernel
theorem dX6_type_64 : decode cX6_type 64 = .ok (.ireturn, 1) := by decide +kernel
theorem dX6_clearText_0 : decode cX6_clearText 0 = .ok (.aload_n 0, 1) := by decide +kernel
theorem dX6_clearText_1 : decode cX6_clearText 1 = .ok (.getfield 55, 3) := by decide +kernel
theorem dX6_clearText_4 : decode cX6_clearText 4 = .ok (.getfield 171, 3) := by decide +kernel
theorem dX6_clearText_7 : decode cX6_clearText 7 = .ok (.istore_n 1, 1) := by decide +kernel
theorem dX6_clearText_8 : decode cX6_clearText 8 = .ok (.aload_n 0, 1) := by decide +kernel
theorem dX6_clearText_9 : decode cX6_clearText 9 = .ok (.getfield 55, 3) := by decide +kernel
theorem dX6_clearText_12 : decode cX6_clearText 12 = .ok (.iconst 0, 1) := by decide +kernel
theorem dX6_clearText_13 : decode cX6_clearText 13 = .ok (.putfield 171, 3) := by decide +kernel
theorem dX6_clearText_16 : decode cX6_clearText 16 = .ok (.iload_n 1, 1) := by decide +kernel
theorem dX6_clearText_17 : decode cX6_clearText 17 = .ok (.ireturn, 1) := by decide +kernel
theorem dX6_fault_0 : decode cX6_fault 0 = .ok (.aload_n 0, 1) := by decide +kernel
theorem dX6_fault_1 : decode cX6_fault 1 = .ok (.getfield 55, 3) := by decide +kernel
theorem dX6_fault_4 : decode cX6_fault 4 = .ok (.invokevirtual 177, 3) := by decide +kernel
theorem dX6_fault_7 : decode cX6_fault 7 = .ok (.aload_n 0, 1) := by decide +kernel
theorem dX6_fault_8 : decode cX6_fault 8 = .ok (.getfield 55, 3) := by decide +kernel
theorem dX6_fault_11 : decode cX6_fault 11 = .ok (.getfield 180, 3) := by decide +kernel
theorem dX6_fault_14 : decode cX6_fault 14 = .ok (.ireturn, 1) := by decide +kernel
theorem dX6_run_0 : decode cX6_run 0 = .ok (.aload_n 0, 1) := by decide +kernel
theorem dX6_run_1 : decode cX6_run 1 = .ok (.getfield 55, 3) := by decide +kernel
theorem dX6_run_4 : decode cX6_run 4 = .ok (.invokevirtual 177, 3) := by decide +kernel
theorem dX6_run_7 : decode cX6_run 7 = .ok (.aload_n 0, 1) := by decide +kernel
theorem dX6_run_8 : decode cX6_run 8 = .ok (.getfield 55, 3) := by decide +kernel
theorem dX6_run_11 : decode cX6_run 11 = .ok (.getfield 180, 3) := by decide +kernel
theorem dX6_run_14 : decode cX6_run 14 = .ok (.iconst (-1), 1) := by decide +kernel
theorem dX6_run_15 : decode cX6_run 15 = .ok (.if_icmp .eq 6, 3) := by decide +kernel
theorem dX6_run_18 : decode cX6_run 18 = .ok (.ldc 117, 2) := by decide +kernel
theorem dX6_run_20 : decode cX6_run 20 = .ok (.ireturn, 1) := by decide +kernel
theorem dX6_run_21 : decode cX6_run 21 = .ok (.aload_n 0, 1) := by decide +kernel
theorem dX6_run_22 : decode cX6_run 22 = .ok (.iconst 0, 1) := by decide +kernel
theorem dX6_run_23 : decode cX6_run 23 = .ok (.putfield 59, 3) := by decide +kernel
theorem dX6_run_26 : decode cX6_run 26 = .ok (.iconst 0, 1) := by decide +kernel
theorem dX6_run_27 : decode cX6_run 27 = .ok (.istore_n 1, 1) := by decide +kernel
theorem dX6_run_28 : decode cX6_run 28 = .ok (.iconst 0, 1) := by decide +kernel
theorem dX6_run_29 : decode cX6_run 29 = .ok (.istore_n 2, 1) := by decide +kernel
theorem dX6_run_30 : decode cX6_run 30 = .ok (.iload_n 2, 1) := by decide +kernel
theorem dX6_run_31 : decode cX6_run 31 = .ok (.aload_n 0, 1) := by decide +kernel
theorem dX6_run_32 : decode cX6_run 32 = .ok (.getfield 55, 3) := by decide +kernel
theorem dX6_run_35 : decode cX6_run 35 = .ok (.getfield 183, 3) := by decide +kernel
theorem dX6_run_38 : decode cX6_run 38 = .ok (.if_icmp .ge 40, 3) := by decide +kernel
theorem dX6_run_41 : decode cX6_run 41 = .ok (.aload_n 0, 1) := by decide +kernel
theorem dX6_run_42 : decode cX6_run 42 = .ok (.getfield 59, 3) := by decide +kernel
theorem dX6_run_45 : decode cX6_run 45 = .ok (.ifCond .ne 33, 3) := by decide +kernel
theorem dX6_run_48 : decode cX6_run 48 = .ok (.aload_n 0, 1) := by decide +kernel
theorem dX6_run_49 : decode cX6_run 49 = .ok (.iload_n 2, 1) := by decide +kernel
theorem dX6_run_50 : decode cX6_run 50 = .ok (.invokevirtual 186, 3) := by decide +kernel
theorem dX6_run_53 : decode cX6_run 53 = .ok (.istore_n 3, 1) := by decide +kernel
theorem dX6_run_54 : decode cX6_run 54 = .ok (.iload_n 3, 1) := by decide +kernel
theorem dX6_run_55 : decode cX6_run 55 = .ok (.invokestatic 189, 3) := by decide +kernel
theorem dX6_run_58 : decode cX6_run 58 = .ok (.ifCond .eq 11, 3) := by decide +kernel
theorem dX6_run_61 : decode cX6_run 61 = .ok (.aload_n 0, 1) := by decide +kernel
theorem dX6_run_62 : decode cX6_run 62 = .ok (.iload_n 3, 1) := by decide +kernel
theorem dX6_run_63 : decode cX6_run 63 = .ok (.putfield 59, 3) := by decide +kernel
theorem dX6_run_66 : decode cX6_run 66 = .ok (.goto 6, 3) := by decide +kernel
theorem dX6_run_69 : decode cX6_run 69 = .ok (.iinc 1 1, 3) := by decide +kernel
theorem dX6_run_72 : decode cX6_run 72 = .ok (.iinc 2 1, 3) := by decide +kernel
theorem dX6_run_75 : decode cX6_run 75 = .ok (.goto (-45), 3) := by decide +kernel
theorem dX6_run_78 : decode cX6_run 78 = .ok (.iload_n 1, 1) := by decide +kernel
theorem dX6_run_79 : decode cX6_run 79 = .ok (.ireturn, 1) := by decide +kernel
theorem dX6_refusal_0 : decode cX6_refusal 0 = .ok (.aload_n 0, 1) := by decide +kernel
theorem dX6_refusal_1 : decode cX6_refusal 1 = .ok (.getfield 59, 3) := by decide +kernel
theorem dX6_refusal_4 : decode cX6_refusal 4 = .ok (.ireturn, 1) := by decide +kernel
theorem dX6_save_0 : decode cX6_save 0 = .ok (.iload_n 1, 1) := by decide +kernel
theorem dX6_save_1 : decode cX6_save 1 = .ok (.ifCond .lt 8, 3) := by decide +kernel
theorem dX6_save_4 : decode cX6_save 4 = .ok (.iload_n 1, 1) := by decide +kernel
theorem dX6_save_5 : decode cX6_save 5 = .ok (.iconst 2, 1) := by decide +kernel
theorem dX6_save_6 : decode cX6_save 6 = .ok (.if_icmp .lt 6, 3) := by decide +kernel
theorem dX6_save_9 : decode cX6_save 9 = .ok (.ldc 63, 2) := by decide +kernel
theorem dX6_save_11 : decode cX6_save 11 = .ok (.ireturn, 1) := by decide +kernel
theorem dX6_save_12 : decode cX6_save 12 = .ok (.aload_n 0, 1) := by decide +kernel
theorem dX6_save_13 : decode cX6_save 13 = .ok (.getfield 20, 3) := by decide +kernel
theorem dX6_save_16 : decode cX6_save 16 = .ok (.iload_n 1, 1) := by decide +kernel
theorem dX6_save_17 : decode cX6_save 17 = .ok (.aaload, 1) := by decide +kernel
theorem dX6_save_18 : decode cX6_save 18 = .ok (.ifnonnull 16, 3) := by decide +kernel
theorem dX6_save_21 : decode cX6_save 21 = .ok (.aload_n 0, 1) := by decide +kernel
theorem dX6_save_22 : decode cX6_save 22 = .ok (.getfield 20, 3) := by decide +kernel
theorem dX6_save_25 : decode cX6_save 25 = .ok (.iload_n 1, 1) := by decide +kernel
theorem dX6_save_26 : decode cX6_save 26 = .ok (.new 9, 3) := by decide +kernel
theorem dX6_save_29 : decode cX6_save 29 = .ok (.dup, 1) := by decide +kernel
theorem dX6_save_30 : decode cX6_save 30 = .ok (.invokespecial 11, 3) := by decide +kernel
theorem dX6_save_33 : decode cX6_save 33 = .ok (.aastore, 1) := by decide +kernel
theorem dX6_save_34 : decode cX6_save 34 = .ok (.aload_n 0, 1) := by decide +kernel
theorem dX6_save_35 : decode cX6_save 35 = .ok (.getfield 20, 3) := by decide +kernel
theorem dX6_save_38 : decode cX6_save 38 = .ok (.iload_n 1, 1) := by decide +kernel
theorem dX6_save_39 : decode cX6_save 39 = .ok (.aaload, 1) := by decide +kernel
theorem dX6_save_40 : decode cX6_save 40 = .ok (.aload_n 0, 1) := by decide +kernel
theorem dX6_save_41 : decode cX6_save 41 = .ok (.getfield 12, 3) := by decide +kernel
theorem dX6_save_44 : decode cX6_save 44 = .ok (.invokevirtual 192, 3) := by decide +kernel
theorem dX6_save_47 : decode cX6_save 47 = .ok (.aload_n 0, 1) := by decide +kernel
theorem dX6_save_48 : decode cX6_save 48 = .ok (.getfield 12, 3) := by decide +kernel
theorem dX6_save_51 : decode cX6_save 51 = .ok (.invokevirtual 195, 3) := by decide +kernel
theorem dX6_save_54 : decode cX6_save 54 = .ok (.ireturn, 1) := by decide +kernel
theorem dX6_restore_0 : decode cX6_restore 0 = .ok (.iload_n 1, 1) := by decide +kernel
theorem dX6_restore_1 : decode cX6_restore 1 = .ok (.ifCond .lt 8, 3) := by decide +kernel
theorem dX6_restore_4 : decode cX6_restore 4 = .ok (.iload_n 1, 1) := by decide +kernel
theorem dX6_restore_5 : decode cX6_restore 5 = .ok (.iconst 2, 1) := by decide +kernel
theorem dX6_restore_6 : decode cX6_restore 6 = .ok (.if_icmp .lt 6, 3) := by decide +kernel
theorem dX6_restore_9 : decode cX6_restore 9 = .ok (.ldc 63, 2) := by decide +kernel
theorem dX6_restore_11 : decode cX6_restore 11 = .ok (.ireturn, 1) := by decide +kernel
theorem dX6_restore_12 : decode cX6_restore 12 = .ok (.aload_n 0, 1) := by decide +kernel
theorem dX6_restore_13 : decode cX6_restore 13 = .ok (.getfield 20, 3) := by decide +kernel
theorem dX6_restore_16 : decode cX6_restore 16 = .ok (.iload_n 1, 1) := by decide +kernel
theorem dX6_restore_17 : decode cX6_restore 17 = .ok (.aaload, 1) := by decide +kernel
theorem dX6_restore_18 : decode cX6_restore 18 = .ok (.ifnonnull 6, 3) := by decide +kernel
theorem dX6_restore_21 : decode cX6_restore 21 = .ok (.ldc 117, 2) := by decide +kernel
theorem dX6_restore_23 : decode cX6_restore 23 = .ok (.ireturn, 1) := by decide +kernel
theorem dX6_restore_24 : decode cX6_restore 24 = .ok (.aload_n 0, 1) := by decide +kernel
theorem dX6_restore_25 : decode cX6_restore 25 = .ok (.getfield 12, 3) := by decide +kernel
theorem dX6_restore_28 : decode cX6_restore 28 = .ok (.aload_n 0, 1) := by decide +kernel
theorem dX6_restore_29 : decode cX6_restore 29 = .ok (.getfield 20, 3) := by decide +kernel
theorem dX6_restore_32 : decode cX6_restore 32 = .ok (.iload_n 1, 1) := by decide +kernel
theorem dX6_restore_33 : decode cX6_restore 33 = .ok (.aaload, 1) := by decide +kernel
theorem dX6_restore_34 : decode cX6_restore 34 = .ok (.invokevirtual 192, 3) := by decide +kernel
theorem dX6_restore_37 : decode cX6_restore 37 = .ok (.aload_n 0, 1) := by decide +kernel
theorem dX6_restore_38 : decode cX6_restore 38 = .ok (.getfield 12, 3) := by decide +kernel
theorem dX6_restore_41 : decode cX6_restore 41 = .ok (.invokevirtual 195, 3) := by decide +kernel
theorem dX6_restore_44 : decode cX6_restore 44 = .ok (.ireturn, 1) := by decide +kernel
theorem dX6_count_0 : decode cX6_count 0 = .ok (.iload_n 1, 1) := by decide +kernel
theorem dX6_count_1 : decode cX6_count 1 = .ok (.tableswitch 111 0 7 #[47, 55, 63, 71, 79, 87, 95, 103], 47) := by decide +kernel
theorem dX6_count_48 : decode cX6_count 48 = .ok (.aload_n 0, 1) := by decide +kernel
theorem dX6_count_49 : decode cX6_count 49 = .ok (.getfield 12, 3) := by decide +kernel
theorem dX6_count_52 : decode cX6_count 52 = .ok (.getfield 198, 3) := by decide +kernel
theorem dX6_count_55 : decode cX6_count 55 = .ok (.ireturn, 1) := by decide +kernel
theorem dX6_count_56 : decode cX6_count 56 = .ok (.aload_n 0, 1) := by decide +kernel
theorem dX6_count_57 : decode cX6_count 57 = .ok (.getfield 12, 3) := by decide +kernel
theorem dX6_count_60 : decode cX6_count 60 = .ok (.getfield 201, 3) := by decide +kernel
theorem dX6_count_63 : decode cX6_count 63 = .ok (.ireturn, 1) := by decide +kernel
theorem dX6_count_64 : decode cX6_count 64 = .ok (.aload_n 0, 1) := by decide +kernel
theorem dX6_count_65 : decode cX6_count 65 = .ok (.getfield 12, 3) := by decide +kernel
theorem dX6_count_68 : decode cX6_count 68 = .ok (.invokevirtual 195, 3) := by decide +kernel
theorem dX6_count_71 : decode cX6_count 71 = .ok (.ireturn, 1) := by decide +kernel
theorem dX6_count_72 : decode cX6_count 72 = .ok (.aload_n 0, 1) := by decide +kernel
theorem dX6_count_73 : decode cX6_count 73 = .ok (.getfield 12, 3) := by decide +kernel
theorem dX6_count_76 : decode cX6_count 76 = .ok (.invokevirtual 118, 3) := by decide +kernel
theorem dX6_count_79 : decode cX6_count 79 = .ok (.ireturn, 1) := by decide +kernel
theorem dX6_count_80 : decode cX6_count 80 = .ok (.aload_n 0, 1) := by decide +kernel
theorem dX6_count_81 : decode cX6_count 81 = .ok (.getfield 12, 3) := by decide +kernel
theorem dX6_count_84 : decode cX6_count 84 = .ok (.getfield 204, 3) := by decide +kernel
theorem dX6_count_87 : decode cX6_count 87 = .ok (.ireturn, 1) := by decide +kernel
theorem dX6_count_88 : decode cX6_count 88 = .ok (.aload_n 0, 1) := by decide +kernel
theorem dX6_count_89 : decode cX6_count 89 = .ok (.getfield 12, 3) := by decide +kernel
theorem dX6_count_92 : decode cX6_count 92 = .ok (.getfield 143, 3) := by decide +kernel
theorem dX6_count_95 : decode cX6_count 95 = .ok (.ireturn, 1) := by decide +kernel
theorem dX6_count_96 : decode cX6_count 96 = .ok (.aload_n 0, 1) := by decide +kernel
theorem dX6_count_97 : decode cX6_count 97 = .ok (.getfield 12, 3) := by decide +kernel
theorem dX6_count_100 : decode cX6_count 100 = .ok (.getfield 146, 3) := by decide +kernel
theorem dX6_count_103 : decode cX6_count 103 = .ok (.ireturn, 1) := by decide +kernel
theorem dX6_count_104 : decode cX6_count 104 = .ok (.aload_n 0, 1) := by decide +kernel
theorem dX6_count_105 : decode cX6_count 105 = .ok (.getfield 55, 3) := by decide +kernel
theorem dX6_count_108 : decode cX6_count 108 = .ok (.getfield 171, 3) := by decide +kernel
theorem dX6_count_111 : decode cX6_count 111 = .ok (.ireturn, 1) := by decide +kernel
theorem dX6_count_112 : decode cX6_count 112 = .ok (.ldc 63, 2) := by decide +kernel
theorem dX6_count_114 : decode cX6_count 114 = .ok (.ireturn, 1) := by decide +kernel
theorem dX6_digest_0 : decode cX6_digest 0 = .ok (.ldc2_w 207, 3) := by decide +kernel
theorem dX6_digest_3 : decode cX6_digest 3 = .ok (.lstore_n 1, 1) := by decide +kernel
theorem dX6_digest_4 : decode cX6_digest 4 = .ok (.iconst 0, 1) := by decide +kernel
theorem dX6_digest_5 : decode cX6_digest 5 = .ok (.istore_n 3, 1) := by decide +kernel
theorem dX6_digest_6 : decode cX6_digest 6 = .ok (.iload_n 3, 1) := by decide +kernel
theorem dX6_digest_7 : decode cX6_digest 7 = .ok (.bipush 8, 2) := by decide +kernel
theorem dX6_digest_9 : decode cX6_digest 9 = .ok (.if_icmp .ge 19, 3) := by decide +kernel
theorem dX6_digest_12 : decode cX6_digest 12 = .ok (.lload_n 1, 1) := by decide +kernel
theorem dX6_digest_13 : decode cX6_digest 13 = .ok (.aload_n 0, 1) := by decide +kernel
theorem dX6_digest_14 : decode cX6_digest 14 = .ok (.iload_n 3, 1) := by decide +kernel
theorem dX6_digest_15 : decode cX6_digest 15 = .ok (.invokevirtual 209, 3) := by decide +kernel
theorem dX6_digest_18 : decode cX6_digest 18 = .ok (.invokestatic 212, 3) := by decide +kernel
theorem dX6_digest_21 : decode cX6_digest 21 = .ok (.lstore_n 1, 1) := by decide +kernel
theorem dX6_digest_22 : decode cX6_digest 22 = .ok (.iinc 3 1, 3) := by decide +kernel
theorem dX6_digest_25 : decode cX6_digest 25 = .ok (.goto (-19), 3) := by decide +kernel
theorem dX6_digest_28 : decode cX6_digest 28 = .ok (.lload_n 1, 1) := by decide +kernel
theorem dX6_digest_29 : decode cX6_digest 29 = .ok (.aload_n 0, 1) := by decide +kernel
theorem dX6_digest_30 : decode cX6_digest 30 = .ok (.getfield 12, 3) := by decide +kernel
theorem dX6_digest_33 : decode cX6_digest 33 = .ok (.getfield 122, 3) := by decide +kernel
theorem dX6_digest_36 : decode cX6_digest 36 = .ok (.iconst 0, 1) := by decide +kernel
theorem dX6_digest_37 : decode cX6_digest 37 = .ok (.bipush 6, 2) := by decide +kernel
theorem dX6_digest_39 : decode cX6_digest 39 = .ok (.invokestatic 216, 3) := by decide +kernel
theorem dX6_digest_42 : decode cX6_digest 42 = .ok (.lstore_n 1, 1) := by decide +kernel
theorem dX6_digest_43 : decode cX6_digest 43 = .ok (.lload_n 1, 1) := by decide +kernel
theorem dX6_digest_44 : decode cX6_digest 44 = .ok (.aload_n 0, 1) := by decide +kernel
theorem dX6_digest_45 : decode cX6_digest 45 = .ok (.getfield 12, 3) := by decide +kernel
theorem dX6_digest_48 : decode cX6_digest 48 = .ok (.getfield 125, 3) := by decide +kernel
theorem dX6_digest_51 : decode cX6_digest 51 = .ok (.iconst 0, 1) := by decide +kernel
theorem dX6_digest_52 : decode cX6_digest 52 = .ok (.iconst 4, 1) := by decide +kernel
theorem dX6_digest_53 : decode cX6_digest 53 = .ok (.invokestatic 216, 3) := by decide +kernel
theorem dX6_digest_56 : decode cX6_digest 56 = .ok (.lstore_n 1, 1) := by decide +kernel
theorem dX6_digest_57 : decode cX6_digest 57 = .ok (.aload_n 0, 1) := by decide +kernel
theorem dX6_digest_58 : decode cX6_digest 58 = .ok (.lload_n 1, 1) := by decide +kernel
theorem dX6_digest_59 : decode cX6_digest 59 = .ok (.invokevirtual 220, 3) := by decide +kernel
theorem dX6_digest_62 : decode cX6_digest 62 = .ok (.lstore_n 1, 1) := by decide +kernel
theorem dX6_digest_63 : decode cX6_digest 63 = .ok (.aload_n 0, 1) := by decide +kernel
theorem dX6_digest_64 : decode cX6_digest 64 = .ok (.getfield 48, 3) := by decide +kernel
theorem dX6_digest_67 : decode cX6_digest 67 = .ok (.aload_n 0, 1) := by decide +kernel
theorem dX6_digest_68 : decode cX6_digest 68 = .ok (.getfield 12, 3) := by decide +kernel
theorem dX6_digest_71 : decode cX6_digest 71 = .ok (.invokevirtual 165, 3) := by decide +kernel
theorem dX6_digest_74 : decode cX6_digest 74 = .ok (.lload_n 1, 1) := by decide +kernel
theorem dX6_digest_75 : decode cX6_digest 75 = .ok (.aload_n 0, 1) := by decide +kernel
theorem dX6_digest_76 : decode cX6_digest 76 = .ok (.getfield 48, 3) := by decide +kernel
theorem dX6_digest_79 : decode cX6_digest 79 = .ok (.getfield 168, 3) := by decide +kernel
theorem dX6_digest_82 : decode cX6_digest 82 = .ok (.iconst 0, 1) := by decide +kernel
theorem dX6_digest_83 : decode cX6_digest 83 = .ok (.iconst 5, 1) := by decide +kernel
theorem dX6_digest_84 : decode cX6_digest 84 = .ok (.invokestatic 216, 3) := by decide +kernel
theorem dX6_digest_87 : decode cX6_digest 87 = .ok (.lstore_n 1, 1) := by decide +kernel
theorem dX6_digest_88 : decode cX6_digest 88 = .ok (.aload_n 0, 1) := by decide +kernel
theorem dX6_digest_89 : decode cX6_digest 89 = .ok (.getfield 12, 3) := by decide +kernel
theorem dX6_digest_92 : decode cX6_digest 92 = .ok (.getfield 143, 3) := by decide +kernel
theorem dX6_digest_95 : decode cX6_digest 95 = .ok (.ifCond .le 18, 3) := by decide +kernel
theorem dX6_digest_98 : decode cX6_digest 98 = .ok (.lload_n 1, 1) := by decide +kernel
theorem dX6_digest_99 : decode cX6_digest 99 = .ok (.aload_n 0, 1) := by decide +kernel
theorem dX6_digest_100 : decode cX6_digest 100 = .ok (.getfield 12, 3) := by decide +kernel
theorem dX6_digest_103 : decode cX6_digest 103 = .ok (.getfield 155, 3) := by decide +kernel
theorem dX6_digest_106 : decode cX6_digest 106 = .ok (.iconst 0, 1) := by decide +kernel
theorem dX6_digest_107 : decode cX6_digest 107 = .ok (.bipush 6, 2) := by decide +kernel
theorem dX6_digest_109 : decode cX6_digest 109 = .ok (.invokestatic 216, 3) := by decide +kernel
theorem dX6_digest_112 : decode cX6_digest 112 = .ok (.lstore_n 1, 1) := by decide +kernel
theorem dX6_digest_113 : decode cX6_digest 113 = .ok (.lload_n 1, 1) := by decide +kernel
theorem dX6_digest_114 : decode cX6_digest 114 = .ok (.aload_n 0, 1) := by decide +kernel
theorem dX6_digest_115 : decode cX6_digest 115 = .ok (.getfield 55, 3) := by decide +kernel
theorem dX6_digest_118 : decode cX6_digest 118 = .ok (.getfield 174, 3) := by decide +kernel
theorem dX6_digest_121 : decode cX6_digest 121 = .ok (.iconst 0, 1) := by decide +kernel
theorem dX6_digest_122 : decode cX6_digest 122 = .ok (.aload_n 0, 1) := by decide +kernel
theorem dX6_digest_123 : decode cX6_digest 123 = .ok (.getfield 55, 3) := by decide +kernel
theorem dX6_digest_126 : decode cX6_digest 126 = .ok (.getfield 171, 3) := by decide +kernel
theorem dX6_digest_129 : decode cX6_digest 129 = .ok (.invokestatic 216, 3) := by decide +kernel
theorem dX6_digest_132 : decode cX6_digest 132 = .ok (.lreturn, 1) := by decide +kernel
theorem dX6_absorbObjects_0 : decode cX6_absorbObjects 0 = .ok (.lload_n 1, 1) := by decide +kernel
theorem dX6_absorbObjects_1 : decode cX6_absorbObjects 1 = .ok (.lstore_n 3, 1) := by decide +kernel
theorem dX6_absorbObjects_2 : decode cX6_absorbObjects 2 = .ok (.aload_n 0, 1) := by decide +kernel
theorem dX6_absorbObjects_3 : decode cX6_absorbObjects 3 = .ok (.getfield 41, 3) := by decide +kernel
theorem dX6_absorbObjects_6 : decode cX6_absorbObjects 6 = .ok (.aload_n 0, 1) := by decide +kernel
theorem dX6_absorbObjects_7 : decode cX6_absorbObjects 7 = .ok (.getfield 12, 3) := by decide +kernel
theorem dX6_absorbObjects_10 : decode cX6_absorbObjects 10 = .ok (.invokevirtual 76, 3) := by decide +kernel
theorem dX6_absorbObjects_13 : decode cX6_absorbObjects 13 = .ok (.aload_n 0, 1) := by decide +kernel
theorem dX6_absorbObjects_14 : decode cX6_absorbObjects 14 = .ok (.getfield 34, 3) := by decide +kernel
theorem dX6_absorbObjects_17 : decode cX6_absorbObjects 17 = .ok (.aload_n 0, 1) := by decide +kernel
theorem dX6_absorbObjects_18 : decode cX6_absorbObjects 18 = .ok (.getfield 12, 3) := by decide +kernel
theorem dX6_absorbObjects_21 : decode cX6_absorbObjects 21 = .ok (.iconst (-1), 1) := by decide +kernel
theorem dX6_absorbObjects_22 : decode cX6_absorbObjects 22 = .ok (.invokevirtual 80, 3) := by decide +kernel
theorem dX6_absorbObjects_25 : decode cX6_absorbObjects 25 = .ok (.iconst 0, 1) := by decide +kernel
theorem dX6_absorbObjects_26 : decode cX6_absorbObjects 26 = .ok (.istore 5, 2) := by decide +kernel
theorem dX6_absorbObjects_28 : decode cX6_absorbObjects 28 = .ok (.iload 5, 2) := by decide +kernel
theorem dX6_absorbObjects_30 : decode cX6_absorbObjects 30 = .ok (.aload_n 0, 1) := by decide +kernel
theorem dX6_absorbObjects_31 : decode cX6_absorbObjects 31 = .ok (.getfield 12, 3) := by decide +kernel
theorem dX6_absorbObjects_34 : decode cX6_absorbObjects 34 = .ok (.getfield 198, 3) := by decide +kernel
theorem dX6_absorbObjects_37 : decode cX6_absorbObjects 37 = .ok (.if_icmp .ge 78, 3) := by decide +kernel
theorem dX6_absorbObjects_40 : decode cX6_absorbObjects 40 = .ok (.aload_n 0, 1) := by decide +kernel
theorem dX6_absorbObjects_41 : decode cX6_absorbObjects 41 = .ok (.getfield 12, 3) := by decide +kernel
theorem dX6_absorbObjects_44 : decode cX6_absorbObjects 44 = .ok (.iload 5, 2) := by decide +kernel
theorem dX6_absorbObjects_46 : decode cX6_absorbObjects 46 = .ok (.invokevirtual 224, 3) := by decide +kernel
theorem dX6_absorbObjects_49 : decode cX6_absorbObjects 49 = .ok (.ifCond .eq 60, 3) := by decide +kernel
theorem dX6_absorbObjects_52 : decode cX6_absorbObjects 52 = .ok (.iconst 0, 1) := by decide +kernel
theorem dX6_absorbObjects_53 : decode cX6_absorbObjects 53 = .ok (.istore 6, 2) := by decide +kernel
theorem dX6_absorbObjects_55 : decode cX6_absorbObjects 55 = .ok (.iload 6, 2) := by decide +kernel
theorem dX6_absorbObjects_57 : decode cX6_absorbObjects 57 = .ok (.bipush 8, 2) := by decide +kernel
theorem dX6_absorbObjects_59 : decode cX6_absorbObjects 59 = .ok (.if_icmp .ge 22, 3) := by decide +kernel
theorem dX6_absorbObjects_62 : decode cX6_absorbObjects 62 = .ok (.lload_n 3, 1) := by decide +kernel
theorem dX6_absorbObjects_63 : decode cX6_absorbObjects 63 = .ok (.aload_n 0, 1) := by decide +kernel
theorem dX6_absorbObjects_64 : decode cX6_absorbObjects 64 = .ok (.iload 5, 2) := by decide +kernel
theorem dX6_absorbObjects_66 : decode cX6_absorbObjects 66 = .ok (.iload 6, 2) := by decide +kernel
theorem dX6_absorbObjects_68 : decode cX6_absorbObjects 68 = .ok (.invokevirtual 84, 3) := by decide +kernel
theorem dX6_absorbObjects_71 : decode cX6_absorbObjects 71 = .ok (.invokestatic 212, 3) := by decide +kernel
theorem dX6_absorbObjects_74 : decode cX6_absorbObjects 74 = .ok (.lstore_n 3, 1) := by decide +kernel
theorem dX6_absorbObjects_75 : decode cX6_absorbObjects 75 = .ok (.iinc 6 1, 3) := by decide +kernel
theorem dX6_absorbObjects_78 : decode cX6_absorbObjects 78 = .ok (.goto (-23), 3) := by decide +kernel
theorem dX6_absorbObjects_81 : decode cX6_absorbObjects 81 = .ok (.lload_n 3, 1) := by decide +kernel
theorem dX6_absorbObjects_82 : decode cX6_absorbObjects 82 = .ok (.aload_n 0, 1) := by decide +kernel
theorem dX6_absorbObjects_83 : decode cX6_absorbObjects 83 = .ok (.getfield 12, 3) := by decide +kernel
theorem dX6_absorbObjects_86 : decode cX6_absorbObjects 86 = .ok (.getfield 101, 3) := by decide +kernel
theorem dX6_absorbObjects_89 : decode cX6_absorbObjects 89 = .ok (.iload 5, 2) := by decide +kernel
theorem dX6_absorbObjects_91 : decode cX6_absorbObjects 91 = .ok (.iconst 1, 1) := by decide +kernel
theorem dX6_absorbObjects_92 : decode cX6_absorbObjects 92 = .ok (.iadd, 1) := by decide +kernel
theorem dX6_absorbObjects_93 : decode cX6_absorbObjects 93 = .ok (.iload 5, 2) := by decide +kernel
theorem dX6_absorbObjects_95 : decode cX6_absorbObjects 95 = .ok (.aload_n 0, 1) := by decide +kernel
theorem dX6_absorbObjects_96 : decode cX6_absorbObjects 96 = .ok (.getfield 12, 3) := by decide +kernel
theorem dX6_absorbObjects_99 : decode cX6_absorbObjects 99 = .ok (.iload 5, 2) := by decide +kernel
theorem dX6_absorbObjects_101 : decode cX6_absorbObjects 101 = .ok (.invokevirtual 91, 3) := by decide +kernel
theorem dX6_absorbObjects_104 : decode cX6_absorbObjects 104 = .ok (.iadd, 1) := by decide +kernel
theorem dX6_absorbObjects_105 : decode cX6_absorbObjects 105 = .ok (.invokestatic 216, 3) := by decide +kernel
theorem dX6_absorbObjects_108 : decode cX6_absorbObjects 108 = .ok (.lstore_n 3, 1) := by decide +kernel
theorem dX6_absorbObjects_109 : decode cX6_absorbObjects 109 = .ok (.iinc 5 1, 3) := by decide +kernel
theorem dX6_absorbObjects_112 : decode cX6_absorbObjects 112 = .ok (.goto (-84), 3) := by decide +kernel
theorem dX6_absorbObjects_115 : decode cX6_absorbObjects 115 = .ok (.lload_n 3, 1) := by decide +kernel
theorem dX6_absorbObjects_116 : decode cX6_absorbObjects 116 = .ok (.lreturn, 1) := by decide +kernel
theorem dX6_absorbRow_0 : decode cX6_absorbRow 0 = .ok (.lload_n 0, 1) := by decide +kernel
theorem dX6_absorbRow_1 : decode cX6_absorbRow 1 = .ok (.lstore 5, 2) := by decide +kernel
theorem dX6_absorbRow_3 : decode cX6_absorbRow 3 = .ok (.iload_n 3, 1) := by decide +kernel
theorem dX6_absorbRow_4 : decode cX6_absorbRow 4 = .ok (.istore 7, 2) := by decide +kernel
theorem dX6_absorbRow_6 : decode cX6_absorbRow 6 = .ok (.iload 7, 2) := by decide +kernel
theorem dX6_absorbRow_8 : decode cX6_absorbRow 8 = .ok (.iload 4, 2) := by decide +kernel
theorem dX6_absorbRow_10 : decode cX6_absorbRow 10 = .ok (.if_icmp .ge 27, 3) := by decide +kernel
theorem dX6_absorbRow_13 : decode cX6_absorbRow 13 = .ok (.iload 7, 2) := by decide +kernel
theorem dX6_absorbRow_15 : decode cX6_absorbRow 15 = .ok (.aload_n 2, 1) := by decide +kernel
theorem dX6_absorbRow_16 : decode cX6_absorbRow 16 = .ok (.arraylength, 1) := by decide +kernel
theorem dX6_absorbRow_17 : decode cX6_absorbRow 17 = .ok (.if_icmp .ge 20, 3) := by decide +kernel
theorem dX6_absorbRow_20 : decode cX6_absorbRow 20 = .ok (.lload 5, 2) := by decide +kernel
theorem dX6_absorbRow_22 : decode cX6_absorbRow 22 = .ok (.aload_n 2, 1) := by decide +kernel
theorem dX6_absorbRow_23 : decode cX6_absorbRow 23 = .ok (.iload 7, 2) := by decide +kernel
theorem dX6_absorbRow_25 : decode cX6_absorbRow 25 = .ok (.iaload, 1) := by decide +kernel
theorem dX6_absorbRow_26 : decode cX6_absorbRow 26 = .ok (.invokestatic 212, 3) := by decide +kernel
theorem dX6_absorbRow_29 : decode cX6_absorbRow 29 = .ok (.lstore 5, 2) := by decide +kernel
theorem dX6_absorbRow_31 : decode cX6_absorbRow 31 = .ok (.iinc 7 1, 3) := by decide +kernel
theorem dX6_absorbRow_34 : decode cX6_absorbRow 34 = .ok (.goto (-28), 3) := by decide +kernel
theorem dX6_absorbRow_37 : decode cX6_absorbRow 37 = .ok (.lload 5, 2) := by decide +kernel
theorem dX6_absorbRow_39 : decode cX6_absorbRow 39 = .ok (.lreturn, 1) := by decide +kernel
theorem dX6_absorb_0 : decode cX6_absorb 0 = .ok (.ldc2_w 227, 3) := by decide +kernel
theorem dX6_absorb_3 : decode cX6_absorb 3 = .ok (.lload_n 0, 1) := by decide +kernel
theorem dX6_absorb_4 : decode cX6_absorb 4 = .ok (.lmul, 1) := by decide +kernel
theorem dX6_absorb_5 : decode cX6_absorb 5 = .ok (.iload_n 2, 1) := by decide +kernel
theorem dX6_absorb_6 : decode cX6_absorb 6 = .ok (.i2l, 1) := by decide +kernel
theorem dX6_absorb_7 : decode cX6_absorb 7 = .ok (.ladd, 1) := by decide +kernel
theorem dX6_absorb_8 : decode cX6_absorb 8 = .ok (.lreturn, 1) := by decide +kernel
theorem dX6_property_0 : decode cX6_property 0 = .ok (.iload_n 2, 1) := by decide +kernel
theorem dX6_property_1 : decode cX6_property 1 = .ok (.tableswitch 104 0 6 #[43, 45, 54, 64, 74, 84, 94], 43) := by decide +kernel
theorem dX6_property_44 : decode cX6_property 44 = .ok (.iload_n 1, 1) := by decide +kernel
theorem dX6_property_45 : decode cX6_property 45 = .ok (.ireturn, 1) := by decide +kernel
theorem dX6_property_46 : decode cX6_property 46 = .ok (.aload_n 0, 1) := by decide +kernel
theorem dX6_property_47 : decode cX6_property 47 = .ok (.getfield 12, 3) := by decide +kernel
theorem dX6_property_50 : decode cX6_property 50 = .ok (.iload_n 1, 1) := by decide +kernel
theorem dX6_property_51 : decode cX6_property 51 = .ok (.invokevirtual 91, 3) := by decide +kernel
theorem dX6_property_54 : decode cX6_property 54 = .ok (.ireturn, 1) := by decide +kernel
theorem dX6_property_55 : decode cX6_property 55 = .ok (.aload_n 0, 1) := by decide +kernel
theorem dX6_property_56 : decode cX6_property 56 = .ok (.getfield 12, 3) := by decide +kernel
theorem dX6_property_59 : decode cX6_property 59 = .ok (.getfield 229, 3) := by decide +kernel
theorem dX6_property_62 : decode cX6_property 62 = .ok (.iload_n 1, 1) := by decide +kernel
theorem dX6_property_63 : decode cX6_property 63 = .ok (.iaload, 1) := by decide +kernel
theorem dX6_property_64 : decode cX6_property 64 = .ok (.ireturn, 1) := by decide +kernel
theorem dX6_property_65 : decode cX6_property 65 = .ok (.aload_n 0, 1) := by decide +kernel
theorem dX6_property_66 : decode cX6_property 66 = .ok (.getfield 12, 3) := by decide +kernel
theorem dX6_property_69 : decode cX6_property 69 = .ok (.getfield 232, 3) := by decide +kernel
theorem dX6_property_72 : decode cX6_property 72 = .ok (.iload_n 1, 1) := by decide +kernel
theorem dX6_property_73 : decode cX6_property 73 = .ok (.iaload, 1) := by decide +kernel
theorem dX6_property_74 : decode cX6_property 74 = .ok (.ireturn, 1) := by decide +kernel
theorem dX6_property_75 : decode cX6_property 75 = .ok (.aload_n 0, 1) := by decide +kernel
theorem dX6_property_76 : decode cX6_property 76 = .ok (.getfield 12, 3) := by decide +kernel
theorem dX6_property_79 : decode cX6_property 79 = .ok (.getfield 114, 3) := by decide +kernel
theorem dX6_property_82 : decode cX6_property 82 = .ok (.iload_n 1, 1) := by decide +kernel
theorem dX6_property_83 : decode cX6_property 83 = .ok (.iaload, 1) := by decide +kernel
theorem dX6_property_84 : decode cX6_property 84 = .ok (.ireturn, 1) := by decide +kernel
theorem dX6_property_85 : decode cX6_property 85 = .ok (.aload_n 0, 1) := by decide +kernel
theorem dX6_property_86 : decode cX6_property 86 = .ok (.getfield 12, 3) := by decide +kernel
theorem dX6_property_89 : decode cX6_property 89 = .ok (.getfield 235, 3) := by decide +kernel
theorem dX6_property_92 : decode cX6_property 92 = .ok (.iload_n 1, 1) := by decide +kernel
theorem dX6_property_93 : decode cX6_property 93 = .ok (.iaload, 1) := by decide +kernel
theorem dX6_property_94 : decode cX6_property 94 = .ok (.ireturn, 1) := by decide +kernel
theorem dX6_property_95 : decode cX6_property 95 = .ok (.aload_n 0, 1) := by decide +kernel
theorem dX6_property_96 : decode cX6_property 96 = .ok (.getfield 41, 3) := by decide +kernel
theorem dX6_property_99 : decode cX6_property 99 = .ok (.getfield 238, 3) := by decide +kernel
theorem dX6_property_102 : decode cX6_property 102 = .ok (.iload_n 1, 1) := by decide +kernel
theorem dX6_property_103 : decode cX6_property 103 = .ok (.iaload, 1) := by decide +kernel
theorem dX6_property_104 : decode cX6_property 104 = .ok (.ireturn, 1) := by decide +kernel
theorem dX6_property_105 : decode cX6_property 105 = .ok (.aload_n 0, 1) := by decide +kernel
theorem dX6_property_106 : decode cX6_property 106 = .ok (.getfield 34, 3) := by decide +kernel
theorem dX6_property_109 : decode cX6_property 109 = .ok (.getfield 162, 3) := by decide +kernel
theorem dX6_property_112 : decode cX6_property 112 = .ok (.iload_n 1, 1) := by decide +kernel
theorem dX6_property_113 : decode cX6_property 113 = .ok (.iaload, 1) := by decide +kernel
theorem dX6_property_114 : decode cX6_property 114 = .ok (.iconst (-1), 1) := by decide +kernel
theorem dX6_property_115 : decode cX6_property 115 = .ok (.if_icmp .ne 7, 3) := by decide +kernel
theorem dX6_property_118 : decode cX6_property 118 = .ok (.iconst 0, 1) := by decide +kernel
theorem dX6_property_119 : decode cX6_property 119 = .ok (.goto 4, 3) := by decide +kernel
theorem dX6_property_122 : decode cX6_property 122 = .ok (.iconst 1, 1) := by decide +kernel
theorem dX6_property_123 : decode cX6_property 123 = .ok (.ireturn, 1) := by decide +kernel
theorem dX6_fieldWord_0 : decode cX6_fieldWord 0 = .ok (.aload_n 0, 1) := by decide +kernel
theorem dX6_fieldWord_1 : decode cX6_fieldWord 1 = .ok (.getfield 12, 3) := by decide +kernel
theorem dX6_fieldWord_4 : decode cX6_fieldWord 4 = .ok (.iload_n 1, 1) := by decide +kernel
theorem dX6_fieldWord_5 : decode cX6_fieldWord 5 = .ok (.invokevirtual 73, 3) := by decide +kernel
theorem dX6_fieldWord_8 : decode cX6_fieldWord 8 = .ok (.istore_n 3, 1) := by decide +kernel
theorem dX6_fieldWord_9 : decode cX6_fieldWord 9 = .ok (.iload_n 3, 1) := by decide +kernel
theorem dX6_fieldWord_10 : decode cX6_fieldWord 10 = .ok (.iconst (-1), 1) := by decide +kernel
theorem dX6_fieldWord_11 : decode cX6_fieldWord 11 = .ok (.if_icmp .eq 20, 3) := by decide +kernel
theorem dX6_fieldWord_14 : decode cX6_fieldWord 14 = .ok (.iload_n 2, 1) := by decide +kernel
theorem dX6_fieldWord_15 : decode cX6_fieldWord 15 = .ok (.ifCond .lt 16, 3) := by decide +kernel
theorem dX6_fieldWord_18 : decode cX6_fieldWord 18 = .ok (.iload_n 2, 1) := by decide +kernel
theorem dX6_fieldWord_19 : decode cX6_fieldWord 19 = .ok (.aload_n 0, 1) := by decide +kernel
theorem dX6_fieldWord_20 : decode cX6_fieldWord 20 = .ok (.getfield 12, 3) := by decide +kernel
theorem dX6_fieldWord_23 : decode cX6_fieldWord 23 = .ok (.getfield 229, 3) := by decide +kernel
theorem dX6_fieldWord_26 : decode cX6_fieldWord 26 = .ok (.iload_n 3, 1) := by decide +kernel
theorem dX6_fieldWord_27 : decode cX6_fieldWord 27 = .ok (.iaload, 1) := by decide +kernel
theorem dX6_fieldWord_28 : decode cX6_fieldWord 28 = .ok (.if_icmp .lt 5, 3) := by decide +kernel
theorem dX6_fieldWord_31 : decode cX6_fieldWord 31 = .ok (.iconst (-1), 1) := by decide +kernel
theorem dX6_fieldWord_32 : decode cX6_fieldWord 32 = .ok (.ireturn, 1) := by decide +kernel
theorem dX6_fieldWord_33 : decode cX6_fieldWord 33 = .ok (.iload_n 3, 1) := by decide +kernel
theorem dX6_fieldWord_34 : decode cX6_fieldWord 34 = .ok (.iconst 1, 1) := by decide +kernel
theorem dX6_fieldWord_35 : decode cX6_fieldWord 35 = .ok (.iadd, 1) := by decide +kernel
theorem dX6_fieldWord_36 : decode cX6_fieldWord 36 = .ok (.iload_n 2, 1) := by decide +kernel
theorem dX6_fieldWord_37 : decode cX6_fieldWord 37 = .ok (.iadd, 1) := by decide +kernel
theorem dX6_fieldWord_38 : decode cX6_fieldWord 38 = .ok (.ireturn, 1) := by decide +kernel
theorem dX6_dataWord_0 : decode cX6_dataWord 0 = .ok (.aload_n 0, 1) := by decide +kernel
theorem dX6_dataWord_1 : decode cX6_dataWord 1 = .ok (.getfield 12, 3) := by decide +kernel
theorem dX6_dataWord_4 : decode cX6_dataWord 4 = .ok (.iload_n 1, 1) := by decide +kernel
theorem dX6_dataWord_5 : decode cX6_dataWord 5 = .ok (.invokevirtual 73, 3) := by decide +kernel
theorem dX6_dataWord_8 : decode cX6_dataWord 8 = .ok (.istore_n 3, 1) := by decide +kernel
theorem dX6_dataWord_9 : decode cX6_dataWord 9 = .ok (.iload_n 3, 1) := by decide +kernel
theorem dX6_dataWord_10 : decode cX6_dataWord 10 = .ok (.iconst (-1), 1) := by decide +kernel
theorem dX6_dataWord_11 : decode cX6_dataWord 11 = .ok (.if_icmp .eq 20, 3) := by decide +kernel
theorem dX6_dataWord_14 : decode cX6_dataWord 14 = .ok (.iload_n 2, 1) := by decide +kernel
theorem dX6_dataWord_15 : decode cX6_dataWord 15 = .ok (.ifCond .lt 16, 3) := by decide +kernel
theorem dX6_dataWord_18 : decode cX6_dataWord 18 = .ok (.iload_n 2, 1) := by decide +kernel
theorem dX6_dataWord_19 : decode cX6_dataWord 19 = .ok (.aload_n 0, 1) := by decide +kernel
theorem dX6_dataWord_20 : decode cX6_dataWord 20 = .ok (.getfield 12, 3) := by decide +kernel
theorem dX6_dataWord_23 : decode cX6_dataWord 23 = .ok (.getfield 232, 3) := by decide +kernel
theorem dX6_dataWord_26 : decode cX6_dataWord 26 = .ok (.iload_n 3, 1) := by decide +kernel
theorem dX6_dataWord_27 : decode cX6_dataWord 27 = .ok (.iaload, 1) := by decide +kernel
theorem dX6_dataWord_28 : decode cX6_dataWord 28 = .ok (.if_icmp .lt 5, 3) := by decide +kernel
theorem dX6_dataWord_31 : decode cX6_dataWord 31 = .ok (.iconst (-1), 1) := by decide +kernel
theorem dX6_dataWord_32 : decode cX6_dataWord 32 = .ok (.ireturn, 1) := by decide +kernel
theorem dX6_dataWord_33 : decode cX6_dataWord 33 = .ok (.iload_n 3, 1) := by decide +kernel
theorem dX6_dataWord_34 : decode cX6_dataWord 34 = .ok (.iconst 1, 1) := by decide +kernel
theorem dX6_dataWord_35 : decode cX6_dataWord 35 = .ok (.iadd, 1) := by decide +kernel
theorem dX6_dataWord_36 : decode cX6_dataWord 36 = .ok (.aload_n 0, 1) := by decide +kernel
theorem dX6_dataWord_37 : decode cX6_dataWord 37 = .ok (.getfield 12, 3) := by decide +kernel
theorem dX6_dataWord_40 : decode cX6_dataWord 40 = .ok (.getfield 229, 3) := by decide +kernel
theorem dX6_dataWord_43 : decode cX6_dataWord 43 = .ok (.iload_n 3, 1) := by decide +kernel
theorem dX6_dataWord_44 : decode cX6_dataWord 44 = .ok (.iaload, 1) := by decide +kernel
theorem dX6_dataWord_45 : decode cX6_dataWord 45 = .ok (.iadd, 1) := by decide +kernel
theorem dX6_dataWord_46 : decode cX6_dataWord 46 = .ok (.iload_n 2, 1) := by decide +kernel
theorem dX6_dataWord_47 : decode cX6_dataWord 47 = .ok (.iadd, 1) := by decide +kernel
theorem dX6_dataWord_48 : decode cX6_dataWord 48 = .ok (.ireturn, 1) := by decide +kernel
theorem dX6_exchange_0 : decode cX6_exchange 0 = .ok (.aload_n 0, 1) := by decide +kernel
theorem dX6_exchange_1 : decode cX6_exchange 1 = .ok (.iload_n 1, 1) := by decide +kernel
theorem dX6_exchange_2 : decode cX6_exchange 2 = .ok (.iaload, 1) := by decide +kernel
theorem dX6_exchange_3 : decode cX6_exchange 3 = .ok (.istore_n 3, 1) := by decide +kernel
theorem dX6_exchange_4 : decode cX6_exchange 4 = .ok (.aload_n 0, 1) := by decide +kernel
theorem dX6_exchange_5 : decode cX6_exchange 5 = .ok (.iload_n 1, 1) := by decide +kernel
theorem dX6_exchange_6 : decode cX6_exchange 6 = .ok (.iload_n 2, 1) := by decide +kernel
theorem dX6_exchange_7 : decode cX6_exchange 7 = .ok (.iastore, 1) := by decide +kernel
theorem dX6_exchange_8 : decode cX6_exchange 8 = .ok (.iload_n 3, 1) := by decide +kernel
theorem dX6_exchange_9 : decode cX6_exchange 9 = .ok (.ireturn, 1) := by decide +kernel
theorem dX6_isError_0 : decode cX6_isError 0 = .ok (.iload_n 0, 1) := by decide +kernel
theorem dX6_isError_1 : decode cX6_isError 1 = .ok (.ldc 63, 2) := by decide +kernel
theorem dX6_isError_3 : decode cX6_isError 3 = .ok (.if_icmp .eq 15, 3) := by decide +kernel
theorem dX6_isError_6 : decode cX6_isError 6 = .ok (.iload_n 0, 1) := by decide +kernel
theorem dX6_isError_7 : decode cX6_isError 7 = .ok (.ldc 117, 2) := by decide +kernel
theorem dX6_isError_9 : decode cX6_isError 9 = .ok (.if_icmp .eq 9, 3) := by decide +kernel
theorem dX6_isError_12 : decode cX6_isError 12 = .ok (.iload_n 0, 1) := by decide +kernel
theorem dX6_isError_13 : decode cX6_isError 13 = .ok (.ldc 68, 2) := by decide +kernel
theorem dX6_isError_15 : decode cX6_isError 15 = .ok (.if_icmp .ne 7, 3) := by decide +kernel
theorem dX6_isError_18 : decode cX6_isError 18 = .ok (.iconst 1, 1) := by decide +kernel
theorem dX6_isError_19 : decode cX6_isError 19 = .ok (.goto 4, 3) := by decide +kernel
theorem dX6_isError_22 : decode cX6_isError 22 = .ok (.iconst 0, 1) := by decide +kernel
theorem dX6_isError_23 : decode cX6_isError 23 = .ok (.ireturn, 1) := by decide +kernel
theorem dX6_perform_0 : decode cX6_perform 0 = .ok (.aload_n 0, 1) := by decide +kernel
theorem dX6_perform_1 : decode cX6_perform 1 = .ok (.getfield 55, 3) := by decide +kernel
theorem dX6_perform_4 : decode cX6_perform 4 = .ok (.getfield 241, 3) := by decide +kernel
theorem dX6_perform_7 : decode cX6_perform 7 = .ok (.iload_n 1, 1) := by decide +kernel
theorem dX6_perform_8 : decode cX6_perform 8 = .ok (.iaload, 1) := by decide +kernel
theorem dX6_perform_9 : decode cX6_perform 9 = .ok (.istore_n 2, 1) := by decide +kernel
theorem dX6_perform_10 : decode cX6_perform 10 = .ok (.aload_n 0, 1) := by decide +kernel
theorem dX6_perform_11 : decode cX6_perform 11 = .ok (.getfield 55, 3) := by decide +kernel
theorem dX6_perform_14 : decode cX6_perform 14 = .ok (.getfield 244, 3) := by decide +kernel
theorem dX6_perform_17 : decode cX6_perform 17 = .ok (.iload_n 1, 1) := by decide +kernel
theorem dX6_perform_18 : decode cX6_perform 18 = .ok (.iaload, 1) := by decide +kernel
theorem dX6_perform_19 : decode cX6_perform 19 = .ok (.istore_n 3, 1) := by decide +kernel
theorem dX6_perform_20 : decode cX6_perform 20 = .ok (.aload_n 0, 1) := by decide +kernel
theorem dX6_perform_21 : decode cX6_perform 21 = .ok (.getfield 55, 3) := by decide +kernel
theorem dX6_perform_24 : decode cX6_perform 24 = .ok (.getfield 247, 3) := by decide +kernel
theorem dX6_perform_27 : decode cX6_perform 27 = .ok (.iload_n 1, 1) := by decide +kernel
theorem dX6_perform_28 : decode cX6_perform 28 = .ok (.iaload, 1) := by decide +kernel
theorem dX6_perform_29 : decode cX6_perform 29 = .ok (.tableswitch 138 102 119 #[108, 138, 138, 138, 138, 138, 138, 138, 87, 138, 124, 138, 94, 138, 138, 131, 138, 101], 87) := by decide +kernel
theorem dX6_perform_116 : decode cX6_perform 116 = .ok (.aload_n 0, 1) := by decide +kernel
theorem dX6_perform_117 : decode cX6_perform 117 = .ok (.iload_n 2, 1) := by decide +kernel
theorem dX6_perform_118 : decode cX6_perform 118 = .ok (.iload_n 3, 1) := by decide +kernel
theorem dX6_perform_119 : decode cX6_perform 119 = .ok (.invokevirtual 250, 3) := by decide +kernel
theorem dX6_perform_122 : decode cX6_perform 122 = .ok (.ireturn, 1) := by decide +kernel
theorem dX6_perform_123 : decode cX6_perform 123 = .ok (.aload_n 0, 1) := by decide +kernel
theorem dX6_perform_124 : decode cX6_perform 124 = .ok (.iload_n 2, 1) := by decide +kernel
theorem dX6_perform_125 : decode cX6_perform 125 = .ok (.iload_n 3, 1) := by decide +kernel
theorem dX6_perform_126 : decode cX6_perform 126 = .ok (.invokevirtual 253, 3) := by decide +kernel
theorem dX6_perform_129 : decode cX6_perform 129 = .ok (.ireturn, 1) := by decide +kernel
theorem dX6_perform_130 : decode cX6_perform 130 = .ok (.aload_n 0, 1) := by decide +kernel
theorem dX6_perform_131 : decode cX6_perform 131 = .ok (.iload_n 2, 1) := by decide +kernel
theorem dX6_perform_132 : decode cX6_perform 132 = .ok (.iload_n 3, 1) := by decide +kernel
theorem dX6_perform_133 : decode cX6_perform 133 = .ok (.invokevirtual 256, 3) := by decide +kernel
theorem dX6_perform_136 : decode cX6_perform 136 = .ok (.ireturn, 1) := by decide +kernel
theorem dX6_perform_137 : decode cX6_perform 137 = .ok (.aload_n 0, 1) := by decide +kernel
theorem dX6_perform_138 : decode cX6_perform 138 = .ok (.iload_n 2, 1) := by decide +kernel
theorem dX6_perform_139 : decode cX6_perform 139 = .ok (.iload_n 3, 1) := by decide +kernel
theorem dX6_perform_140 : decode cX6_perform 140 = .ok (.aload_n 0, 1) := by decide +kernel
theorem dX6_perform_141 : decode cX6_perform 141 = .ok (.getfield 55, 3) := by decide +kernel
theorem dX6_perform_144 : decode cX6_perform 144 = .ok (.getfield 259, 3) := by decide +kernel
theorem dX6_perform_147 : decode cX6_perform 147 = .ok (.iload_n 1, 1) := by decide +kernel
theorem dX6_perform_148 : decode cX6_perform 148 = .ok (.iaload, 1) := by decide +kernel
theorem dX6_perform_149 : decode cX6_perform 149 = .ok (.invokevirtual 262, 3) := by decide +kernel
theorem dX6_perform_152 : decode cX6_perform 152 = .ok (.ireturn, 1) := by decide +kernel
theorem dX6_perform_153 : decode cX6_perform 153 = .ok (.aload_n 0, 1) := by decide +kernel
theorem dX6_perform_154 : decode cX6_perform 154 = .ok (.iload_n 2, 1) := by decide +kernel
theorem dX6_perform_155 : decode cX6_perform 155 = .ok (.iconst 1, 1) := by decide +kernel
theorem dX6_perform_156 : decode cX6_perform 156 = .ok (.invokevirtual 266, 3) := by decide +kernel
theorem dX6_perform_159 : decode cX6_perform 159 = .ok (.ireturn, 1) := by decide +kernel
theorem dX6_perform_160 : decode cX6_perform 160 = .ok (.aload_n 0, 1) := by decide +kernel
theorem dX6_perform_161 : decode cX6_perform 161 = .ok (.iload_n 2, 1) := by decide +kernel
theorem dX6_perform_162 : decode cX6_perform 162 = .ok (.iconst 0, 1) := by decide +kernel
theorem dX6_perform_163 : decode cX6_perform 163 = .ok (.invokevirtual 266, 3) := by decide +kernel
theorem dX6_perform_166 : decode cX6_perform 166 = .ok (.ireturn, 1) := by decide +kernel
theorem dX6_perform_167 : decode cX6_perform 167 = .ok (.aload_n 0, 1) := by decide +kernel
theorem dX6_perform_168 : decode cX6_perform 168 = .ok (.invokevirtual 270, 3) := by decide +kernel
theorem dX6_perform_171 : decode cX6_perform 171 = .ok (.ireturn, 1) := by decide +kernel
end
section
set_option maxRecDepth 20000 in
theorem ggX7_init_X7_begins : GoodIn wsX7_init wsX7_begins := goodIn_r _ [20, 5, 21, 22, 23, 24, 25, 26, 27, 28, 29, 30, 31, 32, 33, 34, 35, 36, 37, 38] (by decide +kernel) (by decide +kernel)
set_option maxRecDepth 20000 in
theorem gX7_init_X7_begins : GoodIn wsX7_init (wsV RX7 42 RX7 yX7_begins wsX7_begins) := goodIn_app (goodIn_of _ (by decide +kernel)) ggX7_init_X7_begins
set_option maxRecDepth 20000 in
theorem ggX7_reset_X7_in : GoodIn wsX7_reset wsX7_in := goodIn_r _ [5] (by decide +kernel) (by decide +kernel)
set_option maxRecDepth 20000 in
theorem gX7_reset_X7_in : GoodIn wsX7_reset (va_wsS RX7 46 yX7_in wsX7_in) := goodIn_app (goodIn_of _ (by decide +kernel)) ggX7_reset_X7_in
set_option maxRecDepth 20000 in
theorem ggX7_reset_X7_begins : GoodIn wsX7_reset wsX7_begins := goodIn_r _ [9, 10, 11, 12, 13, 14, 15, 16, 17, 18, 19, 20, 21, 22, 23, 24, 25, 26, 27, 28] (by decide +kernel) (by decide +kernel)
set_option maxRecDepth 20000 in
theorem gX7_reset_X7_begins : GoodIn wsX7_reset (wsV RX7 42 RX7 yX7_begins wsX7_begins) := goodIn_app (goodIn_of _ (by decide +kernel)) ggX7_reset_X7_begins
set_option maxRecDepth 20000 in
theorem ggX7_objectOf_X7_in : GoodIn wsX7_objectOf wsX7_in := goodIn_r _ [5] (by decide +kernel) (by decide +kernel)
set_option maxRecDepth 20000 in
theorem gX7_objectOf_X7_in : GoodIn wsX7_objectOf (va_wsS RX7 46 yX7_in wsX7_in) := goodIn_app (goodIn_of _ (by decide +kernel)) ggX7_objectOf_X7_in
set_option maxRecDepth 20000 in
theorem ggX7_isReference_X7_objectOf : GoodIn wsX7_isReference wsX7_objectOf := goodIn_r _ [5, 6, 7, 8, 4, 9, 10, 11, 12, 13, 14, 15, 16, 17, 18, 19, 20, 21, 22, 23, 24, 25, 26, 27] (by decide +kernel) (by decide +kernel)
set_option maxRecDepth 20000 in
theorem gX7_isReference_X7_objectOf : GoodIn wsX7_isReference (wsV RX7 51 RX7 yX7_objectOf wsX7_objectOf) := goodIn_app (goodIn_of _ (by decide +kernel)) ggX7_isReference_X7_objectOf
set_option maxRecDepth 20000 in
theorem ggX7_alloc_X7_in : GoodIn wsX7_alloc wsX7_in := goodIn_r _ [7] (by decide +kernel) (by decide +kernel)
set_option maxRecDepth 20000 in
theorem gX7_alloc_X7_in : GoodIn wsX7_alloc (va_wsS RX7 46 yX7_in wsX7_in) := goodIn_app (goodIn_of _ (by decide +kernel)) ggX7_alloc_X7_in
set_option maxRecDepth 20000 in
theorem ggX7_alloc_X7_lays : GoodIn wsX7_alloc wsX7_lays := goodIn_r _ [11, 2, 12, 13, 14, 15, 16, 17, 18, 19, 20, 21, 22, 23, 24, 25, 26, 27, 28, 29] (by decide +kernel) (by decide +kernel)
set_option maxRecDepth 20000 in
theorem gX7_alloc_X7_lays : GoodIn wsX7_alloc (wsV RX7 55 RX7 yX7_lays wsX7_lays) := goodIn_app (goodIn_of _ (by decide +kernel)) ggX7_alloc_X7_lays
set_option maxRecDepth 20000 in
theorem ggX7_referring_X7_objectOf : GoodIn wsX7_referring wsX7_objectOf := goodIn_r _ [6, 1, 7, 8, 5, 9, 10, 11, 12, 13, 14, 15, 16, 17, 18, 19, 20, 21, 22, 23, 24, 25, 26, 27] (by decide +kernel) (by decide +kernel)
set_option maxRecDepth 20000 in
theorem gX7_referring_X7_objectOf : GoodIn wsX7_referring (wsV RX7 51 RX7 yX7_objectOf wsX7_objectOf) := goodIn_app (goodIn_of _ (by decide +kernel)) ggX7_referring_X7_objectOf
set_option maxRecDepth 20000 in
theorem ggX7_starts_X7_objectOf : GoodIn wsX7_starts wsX7_objectOf := goodIn_r _ [6, 7, 8, 9, 5, 10, 11, 12, 13, 14, 15, 16, 17, 18, 19, 20, 21, 22, 23, 24, 25, 26, 27, 28] (by decide +kernel) (by decide +kernel)
set_option maxRecDepth 20000 in
theorem gX7_starts_X7_objectOf : GoodIn wsX7_starts (wsV RX7 51 RX7 yX7_objectOf wsX7_objectOf) := goodIn_app (goodIn_of _ (by decide +kernel)) ggX7_starts_X7_objectOf
set_option maxRecDepth 20000 in
theorem ggX7_reaches_X7_starts : GoodIn wsX7_reaches wsX7_starts := goodIn_r _ [7, 1, 8, 9, 10, 6, 11, 2, 12, 13, 14, 15, 16, 17, 18, 19, 20, 21, 22, 23, 24, 25, 26, 27, 28, 29, 30, 31, 32] (by decide +kernel) (by decide +kernel)
set_option maxRecDepth 20000 in
theorem gX7_reaches_X7_starts : GoodIn wsX7_reaches (wsV RX7 60 RX7 yX7_starts wsX7_starts) := goodIn_app (goodIn_of _ (by decide +kernel)) ggX7_reaches_X7_starts
set_option maxRecDepth 20000 in
theorem ggX7_reaches_X7_objectOf : GoodIn wsX7_reaches wsX7_objectOf := goodIn_r _ [11, 2, 12, 13, 6, 14, 15, 16, 17, 18, 19, 20, 21, 22, 23, 24, 25, 26, 27, 28, 29, 30, 31, 32] (by decide +kernel) (by decide +kernel)
set_option maxRecDepth 20000 in
theorem gX7_reaches_X7_objectOf : GoodIn wsX7_reaches (wsV RX7 51 RX7 yX7_objectOf wsX7_objectOf) := goodIn_app (goodIn_of _ (by decide +kernel)) ggX7_reaches_X7_objectOf
set_option maxRecDepth 20000 in
theorem ggX7_object_X7_objectOf : GoodIn wsX7_object wsX7_objectOf := goodIn_r _ [8, 2, 9, 10, 7, 11, 28, 29, 30, 31, 32, 33, 34, 35, 36, 37, 38, 39, 40, 41, 42, 43, 44, 45] (by decide +kernel) (by decide +kernel)
set_option maxRecDepth 20000 in
theorem gX7_object_X7_objectOf : GoodIn wsX7_object (wsV RX7 51 RX7 yX7_objectOf wsX7_objectOf) := goodIn_app (goodIn_of _ (by decide +kernel)) ggX7_object_X7_objectOf
set_option maxRecDepth 20000 in
theorem ggX7_object_X7_in : GoodIn wsX7_object wsX7_in := goodIn_r _ [11] (by decide +kernel) (by decide +kernel)
set_option maxRecDepth 20000 in
theorem gX7_object_X7_in : GoodIn wsX7_object (va_wsS RX7 46 yX7_in wsX7_in) := goodIn_app (goodIn_of _ (by decide +kernel)) ggX7_object_X7_in
set_option maxRecDepth 20000 in
theorem ggX7_object_X7_dataOf : GoodIn wsX7_object wsX7_dataOf := goodIn_r _ [15, 2, 28, 29, 30, 31, 32, 33, 34, 35, 36, 37, 38, 39, 40, 41, 42, 43, 44, 45] (by decide +kernel) (by decide +kernel)
set_option maxRecDepth 20000 in
theorem gX7_object_X7_dataOf : GoodIn wsX7_object (wsV RX7 63 RX7 yX7_dataOf wsX7_dataOf) := goodIn_app (goodIn_of _ (by decide +kernel)) ggX7_object_X7_dataOf
set_option maxRecDepth 20000 in
theorem ggX7_object_X7_referring : GoodIn wsX7_object wsX7_referring := goodIn_r _ [19, 2, 4, 5, 6, 7, 8, 9, 10, 11, 28, 29, 30, 31, 32, 33, 34, 35, 36, 37, 38, 39, 40, 41, 42, 43, 44, 45] (by decide +kernel) (by decide +kernel)
set_option maxRecDepth 20000 in
theorem gX7_object_X7_referring : GoodIn wsX7_object (wsV RX7 66 RX7 yX7_referring wsX7_referring) := goodIn_app (goodIn_of _ (by decide +kernel)) ggX7_object_X7_referring
set_option maxRecDepth 20000 in
theorem ggX7_object_X7_reaches : GoodIn wsX7_object wsX7_reaches := goodIn_r _ [23, 3, 2, 24, 25, 26, 7, 27, 4, 5, 6, 8, 9, 10, 11, 28, 29, 30, 31, 32, 33, 34, 35, 36, 37, 38, 39, 40, 41, 42, 43, 44, 45] (by decide +kernel) (by decide +kernel)
set_option maxRecDepth 20000 in
theorem gX7_object_X7_reaches : GoodIn wsX7_object (wsV RX7 69 RX7 yX7_reaches wsX7_reaches) := goodIn_app (goodIn_of _ (by decide +kernel)) ggX7_object_X7_reaches
set_option maxRecDepth 20000 in
theorem ggX7_next_X7_objectFrom : GoodIn wsX7_next wsX7_objectFrom := goodIn_r _ [6, 7, 15, 16, 17, 18, 19, 20, 21, 22, 23, 24, 25, 26, 27, 28, 29, 30, 31, 32] (by decide +kernel) (by decide +kernel)
set_option maxRecDepth 20000 in
theorem gX7_next_X7_objectFrom : GoodIn wsX7_next (wsV RX7 73 RX7 yX7_objectFrom wsX7_objectFrom) := goodIn_app (goodIn_of _ (by decide +kernel)) ggX7_next_X7_objectFrom
set_option maxRecDepth 20000 in
theorem ggX7_next_X7_objectOf : GoodIn wsX7_next wsX7_objectOf := goodIn_r _ [11, 7, 12, 13, 5, 14, 15, 16, 17, 18, 19, 20, 21, 22, 23, 24, 25, 26, 27, 28, 29, 30, 31, 32] (by decide +kernel) (by decide +kernel)
set_option maxRecDepth 20000 in
theorem gX7_next_X7_objectOf : GoodIn wsX7_next (wsV RX7 51 RX7 yX7_objectOf wsX7_objectOf) := goodIn_app (goodIn_of _ (by decide +kernel)) ggX7_next_X7_objectOf
set_option maxRecDepth 20000 in
theorem ggX7_setField_X7_objectOf : GoodIn wsX7_setField wsX7_objectOf := goodIn_r _ [7, 1, 8, 9, 6, 10, 15, 16, 17, 18, 19, 20, 21, 22, 23, 24, 25, 26, 27, 28, 29, 30, 31, 32] (by decide +kernel) (by decide +kernel)
set_option maxRecDepth 20000 in
theorem gX7_setField_X7_objectOf : GoodIn wsX7_setField (wsV RX7 51 RX7 yX7_objectOf wsX7_objectOf) := goodIn_app (goodIn_of _ (by decide +kernel)) ggX7_setField_X7_objectOf
set_option maxRecDepth 20000 in
theorem ggX7_setField_X7_in : GoodIn wsX7_setField wsX7_in := goodIn_r _ [10] (by decide +kernel) (by decide +kernel)
set_option maxRecDepth 20000 in
theorem gX7_setField_X7_in : GoodIn wsX7_setField (va_wsS RX7 46 yX7_in wsX7_in) := goodIn_app (goodIn_of _ (by decide +kernel)) ggX7_setField_X7_in
set_option maxRecDepth 20000 in
theorem ggX7_setField_X7_isReference : GoodIn wsX7_setField wsX7_isReference := goodIn_r _ [14, 3, 4, 5, 6, 7, 1, 8, 9, 10, 15, 16, 17, 18, 19, 20, 21, 22, 23, 24, 25, 26, 27, 28, 29, 30, 31, 32] (by decide +kernel) (by decide +kernel)
set_option maxRecDepth 20000 in
theorem gX7_setField_X7_isReference : GoodIn wsX7_setField (wsV RX7 76 RX7 yX7_isReference wsX7_isReference) := goodIn_app (goodIn_of _ (by decide +kernel)) ggX7_setField_X7_isReference
set_option maxRecDepth 20000 in
theorem ggX7_field_X7_objectOf : GoodIn wsX7_field wsX7_objectOf := goodIn_r _ [7, 1, 8, 9, 6, 10, 11, 12, 13, 14, 15, 16, 17, 18, 19, 20, 21, 22, 23, 24, 25, 26, 27, 28] (by decide +kernel) (by decide +kernel)
set_option maxRecDepth 20000 in
theorem gX7_field_X7_objectOf : GoodIn wsX7_field (wsV RX7 51 RX7 yX7_objectOf wsX7_objectOf) := goodIn_app (goodIn_of _ (by decide +kernel)) ggX7_field_X7_objectOf
set_option maxRecDepth 20000 in
theorem ggX7_field_X7_in : GoodIn wsX7_field wsX7_in := goodIn_r _ [10] (by decide +kernel) (by decide +kernel)
set_option maxRecDepth 20000 in
theorem gX7_field_X7_in : GoodIn wsX7_field (va_wsS RX7 46 yX7_in wsX7_in) := goodIn_app (goodIn_of _ (by decide +kernel)) ggX7_field_X7_in
set_option maxRecDepth 20000 in
theorem ggX7_setData_X7_objectOf : GoodIn wsX7_setData wsX7_objectOf := goodIn_r _ [9, 4, 10, 11, 8, 12, 17, 18, 19, 20, 21, 22, 23, 24, 25, 26, 27, 28, 29, 30, 31, 32, 33, 34] (by decide +kernel) (by decide +kernel)
set_option maxRecDepth 20000 in
theorem gX7_setData_X7_objectOf : GoodIn wsX7_setData (wsV RX7 51 RX7 yX7_objectOf wsX7_objectOf) := goodIn_app (goodIn_of _ (by decide +kernel)) ggX7_setData_X7_objectOf
set_option maxRecDepth 20000 in
theorem ggX7_setData_X7_dataOf : GoodIn wsX7_setData wsX7_dataOf := goodIn_r _ [16, 4, 17, 18, 19, 20, 21, 22, 23, 24, 25, 26, 27, 28, 29, 30, 31, 32, 33, 34] (by decide +kernel) (by decide +kernel)
set_option maxRecDepth 20000 in
theorem gX7_setData_X7_dataOf : GoodIn wsX7_setData (wsV RX7 63 RX7 yX7_dataOf wsX7_dataOf) := goodIn_app (goodIn_of _ (by decide +kernel)) ggX7_setData_X7_dataOf
set_option maxRecDepth 20000 in
theorem ggX7_setData_X7_in : GoodIn wsX7_setData wsX7_in := goodIn_r _ [12] (by decide +kernel) (by decide +kernel)
set_option maxRecDepth 20000 in
theorem gX7_setData_X7_in : GoodIn wsX7_setData (va_wsS RX7 46 yX7_in wsX7_in) := goodIn_app (goodIn_of _ (by decide +kernel)) ggX7_setData_X7_in
set_option maxRecDepth 20000 in
theorem ggX7_data_X7_objectOf : GoodIn wsX7_data wsX7_objectOf := goodIn_r _ [7, 2, 8, 9, 6, 10, 15, 16, 17, 18, 19, 20, 21, 22, 23, 24, 25, 26, 27, 28, 29, 30, 31, 32] (by decide +kernel) (by decide +kernel)
set_option maxRecDepth 20000 in
theorem gX7_data_X7_objectOf : GoodIn wsX7_data (wsV RX7 51 RX7 yX7_objectOf wsX7_objectOf) := goodIn_app (goodIn_of _ (by decide +kernel)) ggX7_data_X7_objectOf
set_option maxRecDepth 20000 in
theorem ggX7_data_X7_dataOf : GoodIn wsX7_data wsX7_dataOf := goodIn_r _ [14, 2, 15, 16, 17, 18, 19, 20, 21, 22, 23, 24, 25, 26, 27, 28, 29, 30, 31, 32] (by decide +kernel) (by decide +kernel)
set_option maxRecDepth 20000 in
theorem gX7_data_X7_dataOf : GoodIn wsX7_data (wsV RX7 63 RX7 yX7_dataOf wsX7_dataOf) := goodIn_app (goodIn_of _ (by decide +kernel)) ggX7_data_X7_dataOf
set_option maxRecDepth 20000 in
theorem ggX7_data_X7_in : GoodIn wsX7_data wsX7_in := goodIn_r _ [10] (by decide +kernel) (by decide +kernel)
set_option maxRecDepth 20000 in
theorem gX7_data_X7_in : GoodIn wsX7_data (va_wsS RX7 46 yX7_in wsX7_in) := goodIn_app (goodIn_of _ (by decide +kernel)) ggX7_data_X7_in
set_option maxRecDepth 20000 in
theorem ggX7_pin_X7_objectOf : GoodIn wsX7_pin wsX7_objectOf := goodIn_r _ [8, 2, 9, 10, 7, 11, 16, 17, 18, 19, 20, 21, 22, 23, 24, 25, 26, 27, 28, 29, 30, 31, 32, 33] (by decide +kernel) (by decide +kernel)
set_option maxRecDepth 20000 in
theorem gX7_pin_X7_objectOf : GoodIn wsX7_pin (wsV RX7 51 RX7 yX7_objectOf wsX7_objectOf) := goodIn_app (goodIn_of _ (by decide +kernel)) ggX7_pin_X7_objectOf
set_option maxRecDepth 20000 in
theorem ggX7_pin_X7_many : GoodIn wsX7_pin wsX7_many := goodIn_r _ [15, 2, 16, 17, 18, 19, 20, 21, 22, 23, 24, 25, 26, 27, 28, 29, 30, 31, 32, 33] (by decide +kernel) (by decide +kernel)
set_option maxRecDepth 20000 in
theorem gX7_pin_X7_many : GoodIn wsX7_pin (wsV RX7 83 RX7 yX7_many wsX7_many) := goodIn_app (goodIn_of _ (by decide +kernel)) ggX7_pin_X7_many
set_option maxRecDepth 20000 in
theorem ggX7_setRoot_X7_in : GoodIn wsX7_setRoot wsX7_in := goodIn_r _ [5] (by decide +kernel) (by decide +kernel)
set_option maxRecDepth 20000 in
theorem gX7_setRoot_X7_in : GoodIn wsX7_setRoot (va_wsS RX7 46 yX7_in wsX7_in) := goodIn_app (goodIn_of _ (by decide +kernel)) ggX7_setRoot_X7_in
set_option maxRecDepth 20000 in
theorem ggX7_setRoot_X7_isReference : GoodIn wsX7_setRoot wsX7_isReference := goodIn_r _ [9, 10, 11, 12, 4, 13, 14, 2, 3, 5, 19, 20, 21, 22, 23, 24, 25, 26, 27, 28, 29, 30, 31, 32, 33, 34, 35, 36] (by decide +kernel) (by decide +kernel)
set_option maxRecDepth 20000 in
theorem gX7_setRoot_X7_isReference : GoodIn wsX7_setRoot (wsV RX7 76 RX7 yX7_isReference wsX7_isReference) := goodIn_app (goodIn_of _ (by decide +kernel)) ggX7_setRoot_X7_isReference
set_option maxRecDepth 20000 in
theorem ggX7_setRoot_X7_setsSlot : GoodIn wsX7_setRoot wsX7_setsSlot := goodIn_r _ [18, 14, 19, 20, 21, 22, 23, 24, 25, 26, 27, 28, 29, 30, 31, 32, 33, 34, 35, 36] (by decide +kernel) (by decide +kernel)
set_option maxRecDepth 20000 in
theorem gX7_setRoot_X7_setsSlot : GoodIn wsX7_setRoot (wsV RX7 87 RX7 yX7_setsSlot wsX7_setsSlot) := goodIn_app (goodIn_of _ (by decide +kernel)) ggX7_setRoot_X7_setsSlot
set_option maxRecDepth 20000 in
theorem ggX7_root_X7_in : GoodIn wsX7_root wsX7_in := goodIn_r _ [6] (by decide +kernel) (by decide +kernel)
set_option maxRecDepth 20000 in
theorem gX7_root_X7_in : GoodIn wsX7_root (va_wsS RX7 46 yX7_in wsX7_in) := goodIn_app (goodIn_of _ (by decide +kernel)) ggX7_root_X7_in
set_option maxRecDepth 20000 in
theorem ggX7_setWeak_X7_in : GoodIn wsX7_setWeak wsX7_in := goodIn_r _ [5] (by decide +kernel) (by decide +kernel)
set_option maxRecDepth 20000 in
theorem gX7_setWeak_X7_in : GoodIn wsX7_setWeak (va_wsS RX7 46 yX7_in wsX7_in) := goodIn_app (goodIn_of _ (by decide +kernel)) ggX7_setWeak_X7_in
set_option maxRecDepth 20000 in
theorem ggX7_setWeak_X7_isReference : GoodIn wsX7_setWeak wsX7_isReference := goodIn_r _ [9, 10, 11, 12, 4, 13, 14, 2, 3, 5, 19, 20, 21, 22, 23, 24, 25, 26, 27, 28, 29, 30, 31, 32, 33, 34, 35, 36] (by decide +kernel) (by decide +kernel)
set_option maxRecDepth 20000 in
theorem gX7_setWeak_X7_isReference : GoodIn wsX7_setWeak (wsV RX7 76 RX7 yX7_isReference wsX7_isReference) := goodIn_app (goodIn_of _ (by decide +kernel)) ggX7_setWeak_X7_isReference
set_option maxRecDepth 20000 in
theorem ggX7_setWeak_X7_setsSlot : GoodIn wsX7_setWeak wsX7_setsSlot := goodIn_r _ [18, 14, 19, 20, 21, 22, 23, 24, 25, 26, 27, 28, 29, 30, 31, 32, 33, 34, 35, 36] (by decide +kernel) (by decide +kernel)
set_option maxRecDepth 20000 in
theorem gX7_setWeak_X7_setsSlot : GoodIn wsX7_setWeak (wsV RX7 87 RX7 yX7_setsSlot wsX7_setsSlot) := goodIn_app (goodIn_of _ (by decide +kernel)) ggX7_setWeak_X7_setsSlot
set_option maxRecDepth 20000 in
theorem ggX7_weak_X7_in : GoodIn wsX7_weak wsX7_in := goodIn_r _ [6] (by decide +kernel) (by decide +kernel)
set_option maxRecDepth 20000 in
theorem gX7_weak_X7_in : GoodIn wsX7_weak (va_wsS RX7 46 yX7_in wsX7_in) := goodIn_app (goodIn_of _ (by decide +kernel)) ggX7_weak_X7_in
set_option maxRecDepth 20000 in
theorem ggX7_reach_X7_objectOf : GoodIn wsX7_reach wsX7_objectOf := goodIn_r _ [11, 3, 12, 13, 10, 14, 15, 16, 17, 18, 19, 20, 21, 22, 23, 24, 25, 26, 27, 28, 29, 30, 31, 32] (by decide +kernel) (by decide +kernel)
set_option maxRecDepth 20000 in
theorem gX7_reach_X7_objectOf : GoodIn wsX7_reach (wsV RX7 51 RX7 yX7_objectOf wsX7_objectOf) := goodIn_app (goodIn_of _ (by decide +kernel)) ggX7_reach_X7_objectOf
set_option maxRecDepth 20000 in
theorem ggX7_drains_X7_reach : GoodIn wsX7_drains wsX7_reach := goodIn_r _ [8, 9, 1, 3, 10, 2, 11, 12, 13, 14, 7, 15, 16, 17, 18, 19, 20, 21, 22, 23, 24, 25, 26, 27, 28, 29, 30, 31, 32, 33, 34, 35, 36] (by decide +kernel) (by decide +kernel)
set_option maxRecDepth 20000 in
theorem gX7_drains_X7_reach : GoodIn wsX7_drains (wsV RX7 101 RX7 yX7_reach wsX7_reach) := goodIn_app (goodIn_of _ (by decide +kernel)) ggX7_drains_X7_reach
set_option maxRecDepth 20000 in
theorem ggX7_scans_X7_reach : GoodIn wsX7_scans wsX7_reach := goodIn_r _ [7, 2, 8, 1, 9, 10, 11, 12, 13, 14, 6, 15, 16, 17, 18, 23, 24, 25, 26, 27, 28, 29, 30, 31, 32, 33, 34, 35, 36, 37, 38, 39, 40] (by decide +kernel) (by decide +kernel)
set_option maxRecDepth 20000 in
theorem gX7_scans_X7_reach : GoodIn wsX7_scans (wsV RX7 101 RX7 yX7_reach wsX7_reach) := goodIn_app (goodIn_of _ (by decide +kernel)) ggX7_scans_X7_reach
set_option maxRecDepth 20000 in
theorem ggX7_scans_X7_drains : GoodIn wsX7_scans wsX7_drains := goodIn_r _ [22, 8, 10, 1, 3, 4, 5, 6, 7, 2, 9, 11, 12, 13, 14, 15, 16, 17, 18, 23, 24, 25, 26, 27, 28, 29, 30, 31, 32, 33, 34, 35, 36, 37, 38, 39, 40] (by decide +kernel) (by decide +kernel)
set_option maxRecDepth 20000 in
theorem gX7_scans_X7_drains : GoodIn wsX7_scans (wsV RX7 104 RX7 yX7_drains wsX7_drains) := goodIn_app (goodIn_of _ (by decide +kernel)) ggX7_scans_X7_drains
set_option maxRecDepth 20000 in
theorem ggX7_marks_X7_reach : GoodIn wsX7_marks wsX7_reach := goodIn_r _ [10, 1, 2, 5, 4, 11, 3, 12, 13, 14, 9, 15, 16, 17, 18, 27, 28, 29, 30, 31, 32, 33, 34, 35, 36, 37, 38, 39, 40, 41, 42, 43, 44] (by decide +kernel) (by decide +kernel)
set_option maxRecDepth 20000 in
theorem gX7_marks_X7_reach : GoodIn wsX7_marks (wsV RX7 101 RX7 yX7_reach wsX7_reach) := goodIn_app (goodIn_of _ (by decide +kernel)) ggX7_marks_X7_reach
set_option maxRecDepth 20000 in
theorem ggX7_marks_X7_drains : GoodIn wsX7_marks wsX7_drains := goodIn_r _ [22, 2, 11, 5, 6, 7, 8, 9, 10, 1, 4, 3, 12, 13, 14, 15, 16, 17, 18, 27, 28, 29, 30, 31, 32, 33, 34, 35, 36, 37, 38, 39, 40, 41, 42, 43, 44] (by decide +kernel) (by decide +kernel)
set_option maxRecDepth 20000 in
theorem gX7_marks_X7_drains : GoodIn wsX7_marks (wsV RX7 104 RX7 yX7_drains wsX7_drains) := goodIn_app (goodIn_of _ (by decide +kernel)) ggX7_marks_X7_drains
set_option maxRecDepth 20000 in
theorem ggX7_marks_X7_scans : GoodIn wsX7_marks wsX7_scans := goodIn_r _ [26, 5, 1, 6, 7, 8, 9, 10, 2, 4, 11, 3, 12, 13, 14, 15, 16, 17, 18, 19, 20, 21, 22, 27, 28, 29, 30, 31, 32, 33, 34, 35, 36, 37, 38, 39, 40, 41, 42, 43, 44] (by decide +kernel) (by decide +kernel)
set_option maxRecDepth 20000 in
theorem gX7_marks_X7_scans : GoodIn wsX7_marks (wsV RX7 107 RX7 yX7_scans wsX7_scans) := goodIn_app (goodIn_of _ (by decide +kernel)) ggX7_marks_X7_scans
set_option maxRecDepth 20000 in
theorem ggX7_collect_X7_occupied : GoodIn wsX7_collect wsX7_occupied := goodIn_r _ [9, 2, 44, 45, 46, 47, 48, 49, 50, 51, 52, 53, 54, 55, 56, 57, 58, 59, 60, 61] (by decide +kernel) (by decide +kernel)
set_option maxRecDepth 20000 in
theorem gX7_collect_X7_occupied : GoodIn wsX7_collect (wsV RX7 110 RX7 yX7_occupied wsX7_occupied) := goodIn_app (goodIn_of _ (by decide +kernel)) ggX7_collect_X7_occupied
set_option maxRecDepth 20000 in
theorem ggX7_collect_X7_marks : GoodIn wsX7_collect wsX7_marks := goodIn_r _ [13, 3, 14, 4, 15, 2, 16, 17, 18, 8, 19, 20, 21, 22, 23, 24, 25, 26, 27, 28, 29, 30, 31, 32, 33, 34, 35, 44, 45, 46, 47, 48, 49, 50, 51, 52, 53, 54, 55, 56, 57, 58, 59, 60, 61] (by decide +kernel) (by decide +kernel)
set_option maxRecDepth 20000 in
theorem gX7_collect_X7_marks : GoodIn wsX7_collect (wsV RX7 114 RX7 yX7_marks wsX7_marks) := goodIn_app (goodIn_of _ (by decide +kernel)) ggX7_collect_X7_marks
set_option maxRecDepth 20000 in
theorem ggX7_collect_X7_rebuilds : GoodIn wsX7_collect wsX7_rebuilds := goodIn_r _ [39, 2, 1, 3, 40, 41, 42, 8, 43, 44, 45, 46, 47, 48, 49, 50, 51, 52, 53, 54, 55, 56, 57, 58, 59, 60, 61] (by decide +kernel) (by decide +kernel)
set_option maxRecDepth 20000 in
theorem gX7_collect_X7_rebuilds : GoodIn wsX7_collect (wsV RX7 117 RX7 yX7_rebuilds wsX7_rebuilds) := goodIn_app (goodIn_of _ (by decide +kernel)) ggX7_collect_X7_rebuilds
set_option maxRecDepth 20000 in
theorem ggX7_rebuilds_X7_gone : GoodIn wsX7_rebuilds wsX7_gone := goodIn_r _ [8, 1, 9, 10, 11, 12, 13, 14, 15, 16, 17, 18, 19, 20, 21, 22, 23, 24, 25, 26] (by decide +kernel) (by decide +kernel)
set_option maxRecDepth 20000 in
theorem gX7_rebuilds_X7_gone : GoodIn wsX7_rebuilds (wsV RX7 120 RX7 yX7_gone wsX7_gone) := goodIn_app (goodIn_of _ (by decide +kernel)) ggX7_rebuilds_X7_gone
set_option maxRecDepth 20000 in
theorem ggX7_moved_X7_in : GoodIn wsX7_moved wsX7_in := goodIn_r _ [7] (by decide +kernel) (by decide +kernel)
set_option maxRecDepth 20000 in
theorem gX7_moved_X7_in : GoodIn wsX7_moved (va_wsS RX7 46 yX7_in wsX7_in) := goodIn_app (goodIn_of _ (by decide +kernel)) ggX7_moved_X7_in
set_option maxRecDepth 20000 in
theorem ggX7_report_X7_in : GoodIn wsX7_report wsX7_in := goodIn_r _ [7] (by decide +kernel) (by decide +kernel)
set_option maxRecDepth 20000 in
theorem gX7_report_X7_in : GoodIn wsX7_report (va_wsS RX7 46 yX7_in wsX7_in) := goodIn_app (goodIn_of _ (by decide +kernel)) ggX7_report_X7_in
set_option maxRecDepth 20000 in
theorem ggX7_garbage_X7_reaches : GoodIn wsX7_garbage wsX7_reaches := goodIn_r _ [5, 6, 7, 8, 9, 10, 4, 11, 12, 13, 14, 15, 16, 17, 18, 27, 28, 29, 30, 31, 32, 33, 34, 35, 36, 37, 38, 39, 40, 41, 42, 43, 44] (by decide +kernel) (by decide +kernel)
set_option maxRecDepth 20000 in
theorem gX7_garbage_X7_reaches : GoodIn wsX7_garbage (wsV RX7 69 RX7 yX7_reaches wsX7_reaches) := goodIn_app (goodIn_of _ (by decide +kernel)) ggX7_garbage_X7_reaches
set_option maxRecDepth 20000 in
theorem ggX7_garbage_X7_occupied : GoodIn wsX7_garbage wsX7_occupied := goodIn_r _ [22, 7, 27, 28, 29, 30, 31, 32, 33, 34, 35, 36, 37, 38, 39, 40, 41, 42, 43, 44] (by decide +kernel) (by decide +kernel)
set_option maxRecDepth 20000 in
theorem gX7_garbage_X7_occupied : GoodIn wsX7_garbage (wsV RX7 110 RX7 yX7_occupied wsX7_occupied) := goodIn_app (goodIn_of _ (by decide +kernel)) ggX7_garbage_X7_occupied
set_option maxRecDepth 20000 in
theorem ggX7_garbage_X7_reachedWords : GoodIn wsX7_garbage wsX7_reachedWords := goodIn_r _ [26, 7, 6, 27, 28, 29, 30, 31, 32, 33, 34, 35, 36, 37, 38, 39, 40, 41, 42, 43, 44] (by decide +kernel) (by decide +kernel)
set_option maxRecDepth 20000 in
theorem gX7_garbage_X7_reachedWords : GoodIn wsX7_garbage (wsV RX7 123 RX7 yX7_reachedWords wsX7_reachedWords) := goodIn_app (goodIn_of _ (by decide +kernel)) ggX7_garbage_X7_reachedWords
set_option maxRecDepth 20000 in
theorem ggX7_distance_X7_objectOf : GoodIn wsX7_distance wsX7_objectOf := goodIn_r _ [7, 8, 9, 10, 6, 11, 20, 21, 22, 23, 24, 25, 26, 27, 28, 29, 30, 31, 32, 33, 34, 35, 36, 37] (by decide +kernel) (by decide +kernel)
set_option maxRecDepth 20000 in
theorem gX7_distance_X7_objectOf : GoodIn wsX7_distance (wsV RX7 51 RX7 yX7_objectOf wsX7_objectOf) := goodIn_app (goodIn_of _ (by decide +kernel)) ggX7_distance_X7_objectOf
set_option maxRecDepth 20000 in
theorem ggX7_distance_X7_reaches : GoodIn wsX7_distance wsX7_reaches := goodIn_r _ [15, 2, 8, 16, 17, 18, 6, 19, 3, 4, 5, 7, 9, 10, 11, 20, 21, 22, 23, 24, 25, 26, 27, 28, 29, 30, 31, 32, 33, 34, 35, 36, 37] (by decide +kernel) (by decide +kernel)
set_option maxRecDepth 20000 in
theorem gX7_distance_X7_reaches : GoodIn wsX7_distance (wsV RX7 69 RX7 yX7_reaches wsX7_reaches) := goodIn_app (goodIn_of _ (by decide +kernel)) ggX7_distance_X7_reaches
set_option maxRecDepth 20000 in
theorem ggX7_retained_X7_objectOf : GoodIn wsX7_retained wsX7_objectOf := goodIn_r _ [7, 8, 9, 10, 6, 11, 24, 25, 26, 27, 28, 29, 30, 31, 32, 33, 34, 35, 36, 37, 38, 39, 40, 41] (by decide +kernel) (by decide +kernel)
set_option maxRecDepth 20000 in
theorem gX7_retained_X7_objectOf : GoodIn wsX7_retained (wsV RX7 51 RX7 yX7_objectOf wsX7_objectOf) := goodIn_app (goodIn_of _ (by decide +kernel)) ggX7_retained_X7_objectOf
set_option maxRecDepth 20000 in
theorem ggX7_retained_X7_reaches : GoodIn wsX7_retained wsX7_reaches := goodIn_r _ [15, 2, 8, 16, 17, 18, 6, 19, 3, 4, 5, 7, 9, 10, 11, 24, 25, 26, 27, 28, 29, 30, 31, 32, 33, 34, 35, 36, 37, 38, 39, 40, 41] (by decide +kernel) (by decide +kernel)
set_option maxRecDepth 20000 in
theorem gX7_retained_X7_reaches : GoodIn wsX7_retained (wsV RX7 69 RX7 yX7_reaches wsX7_reaches) := goodIn_app (goodIn_of _ (by decide +kernel)) ggX7_retained_X7_reaches
set_option maxRecDepth 20000 in
theorem ggX7_retained_X7_reachedWords : GoodIn wsX7_retained wsX7_reachedWords := goodIn_r _ [23, 8, 2, 24, 25, 26, 27, 28, 29, 30, 31, 32, 33, 34, 35, 36, 37, 38, 39, 40, 41] (by decide +kernel) (by decide +kernel)
set_option maxRecDepth 20000 in
theorem gX7_retained_X7_reachedWords : GoodIn wsX7_retained (wsV RX7 123 RX7 yX7_reachedWords wsX7_reachedWords) := goodIn_app (goodIn_of _ (by decide +kernel)) ggX7_retained_X7_reachedWords
set_option maxRecDepth 20000 in
theorem ggX7_free_X7_in : GoodIn wsX7_free wsX7_in := goodIn_r _ [6] (by decide +kernel) (by decide +kernel)
set_option maxRecDepth 20000 in
theorem gX7_free_X7_in : GoodIn wsX7_free (va_wsS RX7 46 yX7_in wsX7_in) := goodIn_app (goodIn_of _ (by decide +kernel)) ggX7_free_X7_in
set_option maxRecDepth 20000 in
theorem ggX7_type_X7_in : GoodIn wsX7_type wsX7_in := goodIn_r _ [8] (by decide +kernel) (by decide +kernel)
set_option maxRecDepth 20000 in
theorem gX7_type_X7_in : GoodIn wsX7_type (va_wsS RX7 46 yX7_in wsX7_in) := goodIn_app (goodIn_of _ (by decide +kernel)) ggX7_type_X7_in
set_option maxRecDepth 20000 in
theorem ggX7_blanks_X7_next_ : GoodIn wsX7_blanks wsX7_next_ := goodIn_r _ [6, 1, 7, 8, 9, 10, 11, 12, 13, 14, 15, 16, 17, 18, 19, 20, 21, 22, 23, 24, 25, 26] (by decide +kernel) (by decide +kernel)
set_option maxRecDepth 20000 in
theorem gX7_blanks_X7_next_ : GoodIn wsX7_blanks (wsV RX7 132 RX7 yX7_next_ wsX7_next_) := goodIn_app (goodIn_of _ (by decide +kernel)) ggX7_blanks_X7_next_
set_option maxRecDepth 20000 in
theorem ggX7_isDigit_X7_next_ : GoodIn wsX7_isDigit wsX7_next_ := goodIn_r _ [5, 6, 7, 8, 12, 13, 14, 15, 16, 17, 18, 19, 20, 21, 22, 23, 24, 25, 26, 27, 28, 29] (by decide +kernel) (by decide +kernel)
set_option maxRecDepth 20000 in
theorem gX7_isDigit_X7_next_ : GoodIn wsX7_isDigit (wsV RX7 132 RX7 yX7_next_ wsX7_next_) := goodIn_app (goodIn_of _ (by decide +kernel)) ggX7_isDigit_X7_next_
set_option maxRecDepth 20000 in
theorem ggX7_isDigit_X7_in : GoodIn wsX7_isDigit wsX7_in := goodIn_r _ [11] (by decide +kernel) (by decide +kernel)
set_option maxRecDepth 20000 in
theorem gX7_isDigit_X7_in : GoodIn wsX7_isDigit (va_wsS RX7 46 yX7_in wsX7_in) := goodIn_app (goodIn_of _ (by decide +kernel)) ggX7_isDigit_X7_in
set_option maxRecDepth 20000 in
theorem ggX7_digit_X7_next_ : GoodIn wsX7_digit wsX7_next_ := goodIn_r _ [7, 2, 8, 9, 25, 26, 27, 28, 29, 30, 31, 32, 33, 34, 35, 36, 37, 38, 39, 40, 41, 42] (by decide +kernel) (by decide +kernel)
set_option maxRecDepth 20000 in
theorem gX7_digit_X7_next_ : GoodIn wsX7_digit (wsV RX7 132 RX7 yX7_next_ wsX7_next_) := goodIn_app (goodIn_of _ (by decide +kernel)) ggX7_digit_X7_next_
set_option maxRecDepth 20000 in
theorem ggX7_digit_X7_isDigit : GoodIn wsX7_digit wsX7_isDigit := goodIn_r _ [13, 3, 4, 5, 6, 7, 2, 8, 9, 14, 15, 16, 25, 26, 27, 28, 29, 30, 31, 32, 33, 34, 35, 36, 37, 38, 39, 40, 41, 42] (by decide +kernel) (by decide +kernel)
set_option maxRecDepth 20000 in
theorem gX7_digit_X7_isDigit : GoodIn wsX7_digit (wsV RX7 138 RX7 yX7_isDigit wsX7_isDigit) := goodIn_app (goodIn_of _ (by decide +kernel)) ggX7_digit_X7_isDigit
set_option maxRecDepth 20000 in
theorem ggX7_digit_X7_fails : GoodIn wsX7_digit wsX7_fails := goodIn_r _ [20, 1, 2, 25, 26, 27, 28, 29, 30, 31, 32, 33, 34, 35, 36, 37, 38, 39, 40, 41, 42] (by decide +kernel) (by decide +kernel)
set_option maxRecDepth 20000 in
theorem gX7_digit_X7_fails : GoodIn wsX7_digit (wsV RX7 142 RX7 yX7_fails wsX7_fails) := goodIn_app (goodIn_of _ (by decide +kernel)) ggX7_digit_X7_fails
set_option maxRecDepth 20000 in
theorem ggX7_digit_X7_blanks : GoodIn wsX7_digit wsX7_blanks := goodIn_r _ [24, 2, 3, 4, 5, 6, 7, 8, 9, 25, 26, 27, 28, 29, 30, 31, 32, 33, 34, 35, 36, 37, 38, 39, 40, 41, 42] (by decide +kernel) (by decide +kernel)
set_option maxRecDepth 20000 in
theorem gX7_digit_X7_blanks : GoodIn wsX7_digit (wsV RX7 145 RX7 yX7_blanks wsX7_blanks) := goodIn_app (goodIn_of _ (by decide +kernel)) ggX7_digit_X7_blanks
set_option maxRecDepth 20000 in
theorem ggX7_number_X7_isDigit : GoodIn wsX7_number wsX7_isDigit := goodIn_r _ [7, 8, 9, 10, 6, 11, 1, 12, 13, 14, 15, 16, 25, 26, 27, 28, 29, 30, 31, 32, 33, 34, 35, 36, 37, 38, 39, 40, 41, 42] (by decide +kernel) (by decide +kernel)
set_option maxRecDepth 20000 in
theorem gX7_number_X7_isDigit : GoodIn wsX7_number (wsV RX7 138 RX7 yX7_isDigit wsX7_isDigit) := goodIn_app (goodIn_of _ (by decide +kernel)) ggX7_number_X7_isDigit
set_option maxRecDepth 20000 in
theorem ggX7_number_X7_next_ : GoodIn wsX7_number wsX7_next_ := goodIn_r _ [11, 1, 12, 13, 25, 26, 27, 28, 29, 30, 31, 32, 33, 34, 35, 36, 37, 38, 39, 40, 41, 42] (by decide +kernel) (by decide +kernel)
set_option maxRecDepth 20000 in
theorem gX7_number_X7_next_ : GoodIn wsX7_number (wsV RX7 132 RX7 yX7_next_ wsX7_next_) := goodIn_app (goodIn_of _ (by decide +kernel)) ggX7_number_X7_next_
set_option maxRecDepth 20000 in
theorem ggX7_number_X7_fails : GoodIn wsX7_number wsX7_fails := goodIn_r _ [20, 2, 1, 25, 26, 27, 28, 29, 30, 31, 32, 33, 34, 35, 36, 37, 38, 39, 40, 41, 42] (by decide +kernel) (by decide +kernel)
set_option maxRecDepth 20000 in
theorem gX7_number_X7_fails : GoodIn wsX7_number (wsV RX7 142 RX7 yX7_fails wsX7_fails) := goodIn_app (goodIn_of _ (by decide +kernel)) ggX7_number_X7_fails
set_option maxRecDepth 20000 in
theorem ggX7_number_X7_blanks : GoodIn wsX7_number wsX7_blanks := goodIn_r _ [24, 1, 8, 9, 10, 6, 11, 12, 13, 25, 26, 27, 28, 29, 30, 31, 32, 33, 34, 35, 36, 37, 38, 39, 40, 41, 42] (by decide +kernel) (by decide +kernel)
set_option maxRecDepth 20000 in
theorem gX7_number_X7_blanks : GoodIn wsX7_number (wsV RX7 145 RX7 yX7_blanks wsX7_blanks) := goodIn_app (goodIn_of _ (by decide +kernel)) ggX7_number_X7_blanks
set_option maxRecDepth 20000 in
theorem ggX7_place_X7_next_ : GoodIn wsX7_place wsX7_next_ := goodIn_r _ [7, 2, 8, 9, 29, 30, 31, 32, 33, 34, 35, 36, 37, 38, 39, 40, 41, 42, 43, 44, 45, 46] (by decide +kernel) (by decide +kernel)
set_option maxRecDepth 20000 in
theorem gX7_place_X7_next_ : GoodIn wsX7_place (wsV RX7 132 RX7 yX7_next_ wsX7_next_) := goodIn_app (goodIn_of _ (by decide +kernel)) ggX7_place_X7_next_
set_option maxRecDepth 20000 in
theorem ggX7_place_X7_blanks : GoodIn wsX7_place wsX7_blanks := goodIn_r _ [13, 2, 3, 4, 5, 6, 7, 8, 9, 29, 30, 31, 32, 33, 34, 35, 36, 37, 38, 39, 40, 41, 42, 43, 44, 45, 46] (by decide +kernel) (by decide +kernel)
set_option maxRecDepth 20000 in
theorem gX7_place_X7_blanks : GoodIn wsX7_place (wsV RX7 145 RX7 yX7_blanks wsX7_blanks) := goodIn_app (goodIn_of _ (by decide +kernel)) ggX7_place_X7_blanks
set_option maxRecDepth 20000 in
theorem ggX7_place_X7_number : GoodIn wsX7_place wsX7_number := goodIn_r _ [17, 2, 1, 18, 19, 20, 6, 21, 3, 4, 5, 7, 8, 9, 22, 23, 24, 25, 26, 27, 28, 10, 11, 12, 13, 29, 30, 31, 32, 33, 34, 35, 36, 37, 38, 39, 40, 41, 42, 43, 44, 45, 46] (by decide +kernel) (by decide +kernel)
set_option maxRecDepth 20000 in
theorem gX7_place_X7_number : GoodIn wsX7_place (wsV RX7 148 RX7 yX7_number wsX7_number) := goodIn_app (goodIn_of _ (by decide +kernel)) ggX7_place_X7_number
set_option maxRecDepth 20000 in
theorem ggX7_reads_X7_next_ : GoodIn wsX7_reads wsX7_next_ := goodIn_r _ [9, 3, 10, 11, 39, 40, 41, 42, 43, 44, 45, 46, 47, 48, 49, 50, 51, 52, 53, 54, 55, 56] (by decide +kernel) (by decide +kernel)
set_option maxRecDepth 20000 in
theorem gX7_reads_X7_next_ : GoodIn wsX7_reads (wsV RX7 132 RX7 yX7_next_ wsX7_next_) := goodIn_app (goodIn_of _ (by decide +kernel)) ggX7_reads_X7_next_
set_option maxRecDepth 20000 in
theorem ggX7_reads_X7_fails : GoodIn wsX7_reads wsX7_fails := goodIn_r _ [15, 4, 3, 39, 40, 41, 42, 43, 44, 45, 46, 47, 48, 49, 50, 51, 52, 53, 54, 55, 56] (by decide +kernel) (by decide +kernel)
set_option maxRecDepth 20000 in
theorem gX7_reads_X7_fails : GoodIn wsX7_reads (wsV RX7 142 RX7 yX7_fails wsX7_fails) := goodIn_app (goodIn_of _ (by decide +kernel)) ggX7_reads_X7_fails
set_option maxRecDepth 20000 in
theorem ggX7_reads_X7_blanks : GoodIn wsX7_reads wsX7_blanks := goodIn_r _ [19, 3, 5, 6, 7, 8, 9, 10, 11, 39, 40, 41, 42, 43, 44, 45, 46, 47, 48, 49, 50, 51, 52, 53, 54, 55, 56] (by decide +kernel) (by decide +kernel)
set_option maxRecDepth 20000 in
theorem gX7_reads_X7_blanks : GoodIn wsX7_reads (wsV RX7 145 RX7 yX7_blanks wsX7_blanks) := goodIn_app (goodIn_of _ (by decide +kernel)) ggX7_reads_X7_blanks
set_option maxRecDepth 20000 in
theorem ggX7_reads_X7_digit : GoodIn wsX7_reads wsX7_digit := goodIn_r _ [23, 4, 3, 5, 6, 7, 8, 9, 10, 11, 24, 25, 26, 27, 28, 29, 30, 12, 13, 14, 15, 16, 17, 18, 19, 39, 40, 41, 42, 43, 44, 45, 46, 47, 48, 49, 50, 51, 52, 53, 54, 55, 56] (by decide +kernel) (by decide +kernel)
set_option maxRecDepth 20000 in
theorem gX7_reads_X7_digit : GoodIn wsX7_reads (wsV RX7 154 RX7 yX7_digit wsX7_digit) := goodIn_app (goodIn_of _ (by decide +kernel)) ggX7_reads_X7_digit
set_option maxRecDepth 20000 in
theorem ggX7_reads_X7_place : GoodIn wsX7_reads wsX7_place := goodIn_r _ [34, 4, 3, 5, 6, 7, 8, 9, 10, 11, 16, 17, 18, 19, 35, 36, 37, 38, 24, 25, 26, 27, 28, 29, 30, 12, 13, 14, 15, 39, 40, 41, 42, 43, 44, 45, 46, 47, 48, 49, 50, 51, 52, 53, 54, 55, 56] (by decide +kernel) (by decide +kernel)
set_option maxRecDepth 20000 in
theorem gX7_reads_X7_place : GoodIn wsX7_reads (wsV RX7 157 RX7 yX7_place wsX7_place) := goodIn_app (goodIn_of _ (by decide +kernel)) ggX7_reads_X7_place
set_option maxRecDepth 20000 in
theorem ggX7_reads_X7_number : GoodIn wsX7_reads wsX7_number := goodIn_r _ [38, 3, 4, 24, 25, 26, 8, 27, 5, 6, 7, 9, 10, 11, 28, 29, 30, 12, 13, 14, 15, 16, 17, 18, 19, 39, 40, 41, 42, 43, 44, 45, 46, 47, 48, 49, 50, 51, 52, 53, 54, 55, 56] (by decide +kernel) (by decide +kernel)
set_option maxRecDepth 20000 in
theorem gX7_reads_X7_number : GoodIn wsX7_reads (wsV RX7 148 RX7 yX7_number wsX7_number) := goodIn_app (goodIn_of _ (by decide +kernel)) ggX7_reads_X7_number
set_option maxRecDepth 20000 in
theorem ggX7_fault_X7_blanks : GoodIn wsX7_fault wsX7_blanks := goodIn_r _ [9, 1, 10, 11, 12, 8, 13, 4, 14, 43, 44, 45, 46, 47, 48, 49, 50, 51, 52, 53, 54, 55, 56, 57, 58, 59, 60] (by decide +kernel) (by decide +kernel)
set_option maxRecDepth 20000 in
theorem gX7_fault_X7_blanks : GoodIn wsX7_fault (wsV RX7 145 RX7 yX7_blanks wsX7_blanks) := goodIn_app (goodIn_of _ (by decide +kernel)) ggX7_fault_X7_blanks
set_option maxRecDepth 20000 in
theorem ggX7_fault_X7_reads : GoodIn wsX7_fault wsX7_reads := goodIn_r _ [18, 2, 19, 1, 3, 10, 11, 12, 8, 13, 4, 14, 20, 21, 22, 23, 5, 6, 7, 9, 24, 25, 26, 27, 28, 29, 30, 31, 32, 33, 34, 35, 36, 37, 38, 39, 40, 41, 42, 43, 44, 45, 46, 47, 48, 49, 50, 51, 52, 53, 54, 55, 56, 57, 58, 59, 60] (by decide +kernel) (by decide +kernel)
set_option maxRecDepth 20000 in
theorem gX7_fault_X7_reads : GoodIn wsX7_fault (wsV RX7 160 RX7 yX7_reads wsX7_reads) := goodIn_app (goodIn_of _ (by decide +kernel)) ggX7_fault_X7_reads
set_option maxRecDepth 20000 in
theorem ggX7_does_X7_alloc : GoodIn wsX7_does wsX7_alloc := goodIn_r _ [6, 7, 8, 9, 10, 11, 5, 12, 13, 14, 15, 16, 88, 89, 90, 91, 92, 93, 94, 95, 96, 97, 98, 99, 100, 101, 102, 103, 104, 105] (by decide +kernel) (by decide +kernel)
set_option maxRecDepth 20000 in
theorem gX7_does_X7_alloc : GoodIn wsX7_does (wsV RX7 163 RX7 yX7_alloc wsX7_alloc) := goodIn_app (goodIn_of _ (by decide +kernel)) ggX7_does_X7_alloc
set_option maxRecDepth 20000 in
theorem ggX7_does_X7_setRoot : GoodIn wsX7_does wsX7_setRoot := goodIn_r _ [20, 7, 10, 11, 5, 12, 21, 22, 23, 24, 25, 26, 27, 28, 8, 29, 30, 31, 32, 88, 89, 90, 91, 92, 93, 94, 95, 96, 97, 98, 99, 100, 101, 102, 103, 104, 105] (by decide +kernel) (by decide +kernel)
set_option maxRecDepth 20000 in
theorem gX7_does_X7_setRoot : GoodIn wsX7_does (wsV RX7 166 RX7 yX7_setRoot wsX7_setRoot) := goodIn_app (goodIn_of _ (by decide +kernel)) ggX7_does_X7_setRoot
set_option maxRecDepth 20000 in
theorem ggX7_does_X7_setWeak : GoodIn wsX7_does wsX7_setWeak := goodIn_r _ [36, 7, 10, 11, 5, 12, 21, 22, 23, 24, 25, 26, 27, 28, 8, 29, 30, 31, 32, 88, 89, 90, 91, 92, 93, 94, 95, 96, 97, 98, 99, 100, 101, 102, 103, 104, 105] (by decide +kernel) (by decide +kernel)
set_option maxRecDepth 20000 in
theorem gX7_does_X7_setWeak : GoodIn wsX7_does (wsV RX7 169 RX7 yX7_setWeak wsX7_setWeak) := goodIn_app (goodIn_of _ (by decide +kernel)) ggX7_does_X7_setWeak
set_option maxRecDepth 20000 in
theorem ggX7_does_X7_setField : GoodIn wsX7_does wsX7_setField := goodIn_r _ [40, 8, 7, 25, 26, 27, 5, 28, 10, 11, 12, 21, 22, 23, 24, 88, 89, 90, 91, 92, 93, 94, 95, 96, 97, 98, 99, 100, 101, 102, 103, 104, 105] (by decide +kernel) (by decide +kernel)
set_option maxRecDepth 20000 in
theorem gX7_does_X7_setField : GoodIn wsX7_does (wsV RX7 172 RX7 yX7_setField wsX7_setField) := goodIn_app (goodIn_of _ (by decide +kernel)) ggX7_does_X7_setField
set_option maxRecDepth 20000 in
theorem ggX7_does_X7_pin : GoodIn wsX7_does wsX7_pin := goodIn_r _ [44, 7, 8, 45, 25, 26, 27, 5, 28, 10, 11, 12, 46, 47, 48, 49, 88, 89, 90, 91, 92, 93, 94, 95, 96, 97, 98, 99, 100, 101, 102, 103, 104, 105] (by decide +kernel) (by decide +kernel)
set_option maxRecDepth 20000 in
theorem gX7_does_X7_pin : GoodIn wsX7_does (wsV RX7 176 RX7 yX7_pin wsX7_pin) := goodIn_app (goodIn_of _ (by decide +kernel)) ggX7_does_X7_pin
set_option maxRecDepth 20000 in
theorem ggX7_does_X7_collect : GoodIn wsX7_does wsX7_collect := goodIn_r _ [53, 54, 8, 55, 56, 57, 58, 59, 5, 60, 61, 62, 63, 64, 65, 66, 67, 68, 69, 70, 71, 25, 26, 27, 28, 10, 11, 12, 72, 73, 74, 75, 76, 77, 78, 79, 80, 81, 82, 83, 84, 85, 86, 87, 88, 89, 90, 91, 92, 93, 94, 95, 96, 97, 98, 99, 100, 101, 102, 103, 104, 105] (by decide +kernel) (by decide +kernel)
set_option maxRecDepth 20000 in
theorem gX7_does_X7_collect : GoodIn wsX7_does (wsV RX7 180 RX7 yX7_collect wsX7_collect) := goodIn_app (goodIn_of _ (by decide +kernel)) ggX7_does_X7_collect
set_option maxRecDepth 20000 in
theorem ggX7_run_X7_fault : GoodIn wsX7_run wsX7_fault := goodIn_r _ [9, 10, 3, 11, 12, 13, 14, 15, 8, 16, 17, 18, 19, 20, 21, 22, 23, 24, 25, 26, 27, 28, 29, 30, 31, 32, 33, 34, 35, 36, 37, 38, 39, 40, 41, 42, 43, 44, 45, 46, 47, 48, 49, 134, 135, 136, 137, 138, 139, 140, 141, 142, 143, 144, 145, 146, 147, 148, 149, 150, 151] (by decide +kernel) (by decide +kernel)
set_option maxRecDepth 20000 in
theorem gX7_run_X7_fault : GoodIn wsX7_run (wsV RX7 183 RX7 yX7_fault wsX7_fault) := goodIn_app (goodIn_of _ (by decide +kernel)) ggX7_run_X7_fault
set_option maxRecDepth 20000 in
theorem ggX7_run_X7_does : GoodIn wsX7_run wsX7_does := goodIn_r _ [53, 26, 54, 55, 56, 8, 57, 4, 58, 59, 39, 40, 41, 60, 61, 62, 63, 64, 65, 66, 67, 68, 69, 70, 71, 72, 73, 74, 75, 76, 77, 78, 79, 80, 81, 82, 83, 84, 85, 86, 87, 88, 89, 90, 91, 1, 92, 93, 94, 95, 96, 97, 98, 99, 100, 101, 102, 103, 104, 105, 106, 107, 108, 109, 110, 111, 112, 113, 114, 115, 116, 117, 118, 119, 120, 121, 122, 123, 124, 125, 126, 127, 128, 129, 130, 131, 132, 133, 134, 135, 136, 137, 138, 139, 140, 141, 142, 143, 144, 145, 146, 147, 148, 149, 150, 151] (by decide +kernel) (by decide +kernel)
set_option maxRecDepth 20000 in
theorem gX7_run_X7_does : GoodIn wsX7_run (wsV RX7 185 RX7 yX7_does wsX7_does) := goodIn_app (goodIn_of _ (by decide +kernel)) ggX7_run_X7_does
set_option maxRecDepth 20000 in
theorem ggX7_save_X7_in : GoodIn wsX7_save wsX7_in := goodIn_r _ [8] (by decide +kernel) (by decide +kernel)
set_option maxRecDepth 20000 in
theorem gX7_save_X7_in : GoodIn wsX7_save (va_wsS RX7 46 yX7_in wsX7_in) := goodIn_app (goodIn_of _ (by decide +kernel)) ggX7_save_X7_in
set_option maxRecDepth 20000 in
theorem ggX7_save_X7_many : GoodIn wsX7_save wsX7_many := goodIn_r _ [12, 3, 13, 14, 15, 16, 17, 18, 19, 20, 21, 22, 23, 24, 25, 26, 27, 28, 29, 30] (by decide +kernel) (by decide +kernel)
set_option maxRecDepth 20000 in
theorem gX7_save_X7_many : GoodIn wsX7_save (wsV RX7 83 RX7 yX7_many wsX7_many) := goodIn_app (goodIn_of _ (by decide +kernel)) ggX7_save_X7_many
set_option maxRecDepth 20000 in
theorem ggX7_restore_X7_in : GoodIn wsX7_restore wsX7_in := goodIn_r _ [9] (by decide +kernel) (by decide +kernel)
set_option maxRecDepth 20000 in
theorem gX7_restore_X7_in : GoodIn wsX7_restore (va_wsS RX7 46 yX7_in wsX7_in) := goodIn_app (goodIn_of _ (by decide +kernel)) ggX7_restore_X7_in
set_option maxRecDepth 20000 in
theorem ggX7_restore_X7_many : GoodIn wsX7_restore wsX7_many := goodIn_r _ [13, 4, 14, 15, 16, 17, 18, 19, 20, 21, 22, 23, 24, 25, 26, 27, 28, 29, 30, 31] (by decide +kernel) (by decide +kernel)
set_option maxRecDepth 20000 in
theorem gX7_restore_X7_many : GoodIn wsX7_restore (wsV RX7 83 RX7 yX7_many wsX7_many) := goodIn_app (goodIn_of _ (by decide +kernel)) ggX7_restore_X7_many
set_option maxRecDepth 20000 in
theorem ggX7_count_X7_many : GoodIn wsX7_count wsX7_many := goodIn_r _ [8, 1, 9, 10, 11, 12, 13, 14, 15, 16, 17, 18, 19, 20, 21, 22, 23, 24, 25, 26] (by decide +kernel) (by decide +kernel)
set_option maxRecDepth 20000 in
theorem gX7_count_X7_many : GoodIn wsX7_count (wsV RX7 83 RX7 yX7_many wsX7_many) := goodIn_app (goodIn_of _ (by decide +kernel)) ggX7_count_X7_many
set_option maxRecDepth 20000 in
theorem ggX7_digest_X7_count : GoodIn wsX7_digest wsX7_count := goodIn_r _ [10, 3, 4, 11, 12, 13, 14, 9, 15, 57, 58, 59, 60, 61, 62, 63, 64, 65, 66, 67, 68, 69, 70, 71, 72, 73, 74] (by decide +kernel) (by decide +kernel)
set_option maxRecDepth 20000 in
theorem gX7_digest_X7_count : GoodIn wsX7_digest (wsV RX7 196 RX7 yX7_count wsX7_count) := goodIn_app (goodIn_of _ (by decide +kernel)) ggX7_digest_X7_count
set_option maxRecDepth 20000 in
theorem ggX7_digest_X7_mixes : GoodIn wsX7_digest wsX7_mixes := goodIn_r _ [19, 20, 2, 57, 58, 59, 60, 61, 62, 63, 64, 65, 66, 67, 68, 69, 70, 71, 72, 73, 74] (by decide +kernel) (by decide +kernel)
set_option maxRecDepth 20000 in
theorem gX7_digest_X7_mixes : GoodIn wsX7_digest (wsV RX7 199 RX7 yX7_mixes wsX7_mixes) := goodIn_app (goodIn_of _ (by decide +kernel)) ggX7_digest_X7_mixes
set_option maxRecDepth 20000 in
theorem ggX7_digest_X7_objectFrom : GoodIn wsX7_digest wsX7_objectFrom := goodIn_r _ [24, 3, 57, 58, 59, 60, 61, 62, 63, 64, 65, 66, 67, 68, 69, 70, 71, 72, 73, 74] (by decide +kernel) (by decide +kernel)
set_option maxRecDepth 20000 in
theorem gX7_digest_X7_objectFrom : GoodIn wsX7_digest (wsV RX7 73 RX7 yX7_objectFrom wsX7_objectFrom) := goodIn_app (goodIn_of _ (by decide +kernel)) ggX7_digest_X7_objectFrom
set_option maxRecDepth 20000 in
theorem ggX7_digest_X7_object : GoodIn wsX7_digest wsX7_object := goodIn_r _ [28, 11, 3, 29, 30, 31, 32, 9, 33, 34, 35, 36, 37, 38, 39, 40, 41, 42, 43, 44, 45, 46, 47, 48, 49, 50, 51, 52, 57, 58, 59, 60, 61, 62, 63, 64, 65, 66, 67, 68, 69, 70, 71, 72, 73, 74] (by decide +kernel) (by decide +kernel)
set_option maxRecDepth 20000 in
theorem gX7_digest_X7_object : GoodIn wsX7_digest (wsV RX7 202 RX7 yX7_object wsX7_object) := goodIn_app (goodIn_of _ (by decide +kernel)) ggX7_digest_X7_object
set_option maxRecDepth 20000 in
theorem ggX7_digest_X7_free : GoodIn wsX7_digest wsX7_free := goodIn_r _ [56, 11, 3, 34, 35, 9, 36, 57, 58, 59, 60, 61, 62, 63, 64, 65, 66, 67, 68, 69, 70, 71, 72, 73, 74] (by decide +kernel) (by decide +kernel)
set_option maxRecDepth 20000 in
theorem gX7_digest_X7_free : GoodIn wsX7_digest (wsV RX7 205 RX7 yX7_free wsX7_free) := goodIn_app (goodIn_of _ (by decide +kernel)) ggX7_digest_X7_free
theorem dX7_init_0 : decode cX7_init 0 = .ok (.aload_n 0, 1) := by decide +kernel
theorem dX7_init_1 : decode cX7_init 1 = .ok (.invokespecial 1, 3) := by decide +kernel
theorem dX7_init_4 : decode cX7_init 4 = .ok (.aload_n 0, 1) := by decide +kernel
theorem dX7_init_5 : decode cX7_init 5 = .ok (.sipush 1222, 3) := by decide +kernel
theorem dX7_init_8 : decode cX7_init 8 = .ok (.newarray .int, 2) := by decide +kernel
theorem dX7_init_10 : decode cX7_init 10 = .ok (.putfield 7, 3) := by decide +kernel
theorem dX7_init_13 : decode cX7_init 13 = .ok (.aload_n 0, 1) := by decide +kernel
theorem dX7_init_14 : decode cX7_init 14 = .ok (.sipush 1222, 3) := by decide +kernel
theorem dX7_init_17 : decode cX7_init 17 = .ok (.newarray .int, 2) := by decide +kernel
theorem dX7_init_19 : decode cX7_init 19 = .ok (.putfield 13, 3) := by decide +kernel
theorem dX7_init_22 : decode cX7_init 22 = .ok (.aload_n 0, 1) := by decide +kernel
theorem dX7_init_23 : decode cX7_init 23 = .ok (.sipush 2444, 3) := by decide +kernel
theorem dX7_init_26 : decode cX7_init 26 = .ok (.newarray .int, 2) := by decide +kernel
theorem dX7_init_28 : decode cX7_init 28 = .ok (.putfield 16, 3) := by decide +kernel
theorem dX7_init_31 : decode cX7_init 31 = .ok (.aload_n 0, 1) := by decide +kernel
theorem dX7_init_32 : decode cX7_init 32 = .ok (.iconst 2, 1) := by decide +kernel
theorem dX7_init_33 : decode cX7_init 33 = .ok (.newarray .boolean, 2) := by decide +kernel
theorem dX7_init_35 : decode cX7_init 35 = .ok (.putfield 19, 3) := by decide +kernel
theorem dX7_init_38 : decode cX7_init 38 = .ok (.aload_n 0, 1) := by decide +kernel
theorem dX7_init_39 : decode cX7_init 39 = .ok (.bipush 80, 2) := by decide +kernel
theorem dX7_init_41 : decode cX7_init 41 = .ok (.newarray .int, 2) := by decide +kernel
theorem dX7_init_43 : decode cX7_init 43 = .ok (.putfield 23, 3) := by decide +kernel
theorem dX7_init_46 : decode cX7_init 46 = .ok (.aload_n 0, 1) := by decide +kernel
theorem dX7_init_47 : decode cX7_init 47 = .ok (.iconst (-1), 1) := by decide +kernel
theorem dX7_init_48 : decode cX7_init 48 = .ok (.putfield 26, 3) := by decide +kernel
theorem dX7_init_51 : decode cX7_init 51 = .ok (.aload_n 0, 1) := by decide +kernel
theorem dX7_init_52 : decode cX7_init 52 = .ok (.sipush 200, 3) := by decide +kernel
theorem dX7_init_55 : decode cX7_init 55 = .ok (.newarray .int, 2) := by decide +kernel
theorem dX7_init_57 : decode cX7_init 57 = .ok (.putfield 30, 3) := by decide +kernel
theorem dX7_init_60 : decode cX7_init 60 = .ok (.aload_n 0, 1) := by decide +kernel
theorem dX7_init_61 : decode cX7_init 61 = .ok (.sipush 200, 3) := by decide +kernel
theorem dX7_init_64 : decode cX7_init 64 = .ok (.newarray .boolean, 2) := by decide +kernel
theorem dX7_init_66 : decode cX7_init 66 = .ok (.putfield 33, 3) := by decide +kernel
theorem dX7_init_69 : decode cX7_init 69 = .ok (.aload_n 0, 1) := by decide +kernel
theorem dX7_init_70 : decode cX7_init 70 = .ok (.bipush 20, 2) := by decide +kernel
theorem dX7_init_72 : decode cX7_init 72 = .ok (.newarray .int, 2) := by decide +kernel
theorem dX7_init_74 : decode cX7_init 74 = .ok (.putfield 36, 3) := by decide +kernel
theorem dX7_init_77 : decode cX7_init 77 = .ok (.aload_n 0, 1) := by decide +kernel
theorem dX7_init_78 : decode cX7_init 78 = .ok (.sipush 160, 3) := by decide +kernel
theorem dX7_init_81 : decode cX7_init 81 = .ok (.newarray .int, 2) := by decide +kernel
theorem dX7_init_83 : decode cX7_init 83 = .ok (.putfield 39, 3) := by decide +kernel
theorem dX7_init_86 : decode cX7_init 86 = .ok (.aload_n 0, 1) := by decide +kernel
theorem dX7_init_87 : decode cX7_init 87 = .ok (.bipush 100, 2) := by decide +kernel
theorem dX7_init_89 : decode cX7_init 89 = .ok (.bipush 8, 2) := by decide +kernel
theorem dX7_init_91 : decode cX7_init 91 = .ok (.invokevirtual 42, 3) := by decide +kernel
theorem dX7_init_94 : decode cX7_init 94 = .ok (.return_, 1) := by decide +kernel
theorem dX7_in_0 : decode cX7_in 0 = .ok (.iload_n 0, 1) := by decide +kernel
theorem dX7_in_1 : decode cX7_in 1 = .ok (.iload_n 1, 1) := by decide +kernel
theorem dX7_in_2 : decode cX7_in 2 = .ok (.if_icmp .lt 12, 3) := by decide +kernel
theorem dX7_in_5 : decode cX7_in 5 = .ok (.iload_n 0, 1) := by decide +kernel
theorem dX7_in_6 : decode cX7_in 6 = .ok (.iload_n 2, 1) := by decide +kernel
theorem dX7_in_7 : decode cX7_in 7 = .ok (.if_icmp .gt 7, 3) := by decide +kernel
theorem dX7_in_10 : decode cX7_in 10 = .ok (.iconst 1, 1) := by decide +kernel
theorem dX7_in_11 : decode cX7_in 11 = .ok (.goto 4, 3) := by decide +kernel
theorem dX7_in_14 : decode cX7_in 14 = .ok (.iconst 0, 1) := by decide +kernel
theorem dX7_in_15 : decode cX7_in 15 = .ok (.ireturn, 1) := by decide +kernel
theorem dX7_begins_0 : decode cX7_begins 0 = .ok (.iconst 0, 1) := by decide +kernel
theorem dX7_begins_1 : decode cX7_begins 1 = .ok (.istore_n 3, 1) := by decide +kernel
theorem dX7_begins_2 : decode cX7_begins 2 = .ok (.iload_n 3, 1) := by decide +kernel
theorem dX7_begins_3 : decode cX7_begins 3 = .ok (.sipush 1222, 3) := by decide +kernel
theorem dX7_begins_6 : decode cX7_begins 6 = .ok (.if_icmp .ge 34, 3) := by decide +kernel
theorem dX7_begins_9 : decode cX7_begins 9 = .ok (.aload_n 0, 1) := by decide +kernel
theorem dX7_begins_10 : decode cX7_begins 10 = .ok (.getfield 7, 3) := by decide +kernel
theorem dX7_begins_13 : decode cX7_begins 13 = .ok (.iload_n 3, 1) := by decide +kernel
theorem dX7_begins_14 : decode cX7_begins 14 = .ok (.iload_n 3, 1) := by decide +kernel
theorem dX7_begins_15 : decode cX7_begins 15 = .ok (.sipush 1200, 3) := by decide +kernel
theorem dX7_begins_18 : decode cX7_begins 18 = .ok (.if_icmp .lt 14, 3) := by decide +kernel
theorem dX7_begins_21 : decode cX7_begins 21 = .ok (.iload_n 3, 1) := by decide +kernel
theorem dX7_begins_22 : decode cX7_begins 22 = .ok (.sipush 1210, 3) := by decide +kernel
theorem dX7_begins_25 : decode cX7_begins 25 = .ok (.if_icmp .ge 7, 3) := by decide +kernel
theorem dX7_begins_28 : decode cX7_begins 28 = .ok (.iconst (-1), 1) := by decide +kernel
theorem dX7_begins_29 : decode cX7_begins 29 = .ok (.goto 4, 3) := by decide +kernel
theorem dX7_begins_32 : decode cX7_begins 32 = .ok (.iconst 0, 1) := by decide +kernel
theorem dX7_begins_33 : decode cX7_begins 33 = .ok (.iastore, 1) := by decide +kernel
theorem dX7_begins_34 : decode cX7_begins 34 = .ok (.iinc 3 1, 3) := by decide +kernel
theorem dX7_begins_37 : decode cX7_begins 37 = .ok (.goto (-35), 3) := by decide +kernel
theorem dX7_begins_40 : decode cX7_begins 40 = .ok (.aload_n 0, 1) := by decide +kernel
theorem dX7_begins_41 : decode cX7_begins 41 = .ok (.getfield 7, 3) := by decide +kernel
theorem dX7_begins_44 : decode cX7_begins 44 = .ok (.sipush 1216, 3) := by decide +kernel
theorem dX7_begins_47 : decode cX7_begins 47 = .ok (.iload_n 1, 1) := by decide +kernel
theorem dX7_begins_48 : decode cX7_begins 48 = .ok (.iastore, 1) := by decide +kernel
theorem dX7_begins_49 : decode cX7_begins 49 = .ok (.aload_n 0, 1) := by decide +kernel
theorem dX7_begins_50 : decode cX7_begins 50 = .ok (.getfield 7, 3) := by decide +kernel
theorem dX7_begins_53 : decode cX7_begins 53 = .ok (.sipush 1217, 3) := by decide +kernel
theorem dX7_begins_56 : decode cX7_begins 56 = .ok (.iload_n 2, 1) := by decide +kernel
theorem dX7_begins_57 : decode cX7_begins 57 = .ok (.iastore, 1) := by decide +kernel
theorem dX7_begins_58 : decode cX7_begins 58 = .ok (.return_, 1) := by decide +kernel
theorem dX7_reset_0 : decode cX7_reset 0 = .ok (.iload_n 1, 1) := by decide +kernel
theorem dX7_reset_1 : decode cX7_reset 1 = .ok (.bipush 8, 2) := by decide +kernel
theorem dX7_reset_3 : decode cX7_reset 3 = .ok (.sipush 200, 3) := by decide +kernel
theorem dX7_reset_6 : decode cX7_reset 6 = .ok (.invokestatic 46, 3) := by decide +kernel
theorem dX7_reset_9 : decode cX7_reset 9 = .ok (.ifCond .eq 13, 3) := by decide +kernel
theorem dX7_reset_12 : decode cX7_reset 12 = .ok (.iload_n 2, 1) := by decide +kernel
theorem dX7_reset_13 : decode cX7_reset 13 = .ok (.iconst 1, 1) := by decide +kernel
theorem dX7_reset_14 : decode cX7_reset 14 = .ok (.bipush 20, 2) := by decide +kernel
theorem dX7_reset_16 : decode cX7_reset 16 = .ok (.invokestatic 46, 3) := by decide +kernel
theorem dX7_reset_19 : decode cX7_reset 19 = .ok (.ifCond .ne 6, 3) := by decide +kernel
theorem dX7_reset_22 : decode cX7_reset 22 = .ok (.ldc 50, 2) := by decide +kernel
theorem dX7_reset_24 : decode cX7_reset 24 = .ok (.ireturn, 1) := by decide +kernel
theorem dX7_reset_25 : decode cX7_reset 25 = .ok (.aload_n 0, 1) := by decide +kernel
theorem dX7_reset_26 : decode cX7_reset 26 = .ok (.iload_n 1, 1) := by decide +kernel
theorem dX7_reset_27 : decode cX7_reset 27 = .ok (.iload_n 2, 1) := by decide +kernel
theorem dX7_reset_28 : decode cX7_reset 28 = .ok (.invokevirtual 42, 3) := by decide +kernel
theorem dX7_reset_31 : decode cX7_reset 31 = .ok (.iload_n 1, 1) := by decide +kernel
theorem dX7_reset_32 : decode cX7_reset 32 = .ok (.ireturn, 1) := by decide +kernel
theorem dX7_objectOf_0 : decode cX7_objectOf 0 = .ok (.iload_n 1, 1) := by decide +kernel
theorem dX7_objectOf_1 : decode cX7_objectOf 1 = .ok (.iconst 0, 1) := by decide +kernel
theorem dX7_objectOf_2 : decode cX7_objectOf 2 = .ok (.aload_n 0, 1) := by decide +kernel
theorem dX7_objectOf_3 : decode cX7_objectOf 3 = .ok (.getfield 7, 3) := by decide +kernel
theorem dX7_objectOf_6 : decode cX7_objectOf 6 = .ok (.sipush 1216, 3) := by decide +kernel
theorem dX7_objectOf_9 : decode cX7_objectOf 9 = .ok (.iaload, 1) := by decide +kernel
theorem dX7_objectOf_10 : decode cX7_objectOf 10 = .ok (.iconst 1, 1) := by decide +kernel
theorem dX7_objectOf_11 : decode cX7_objectOf 11 = .ok (.isub, 1) := by decide +kernel
theorem dX7_objectOf_12 : decode cX7_objectOf 12 = .ok (.invokestatic 46, 3) := by decide +kernel
theorem dX7_objectOf_15 : decode cX7_objectOf 15 = .ok (.ifCond .ne 5, 3) := by decide +kernel
theorem dX7_objectOf_18 : decode cX7_objectOf 18 = .ok (.iconst (-1), 1) := by decide +kernel
theorem dX7_objectOf_19 : decode cX7_objectOf 19 = .ok (.ireturn, 1) := by decide +kernel
theorem dX7_objectOf_20 : decode cX7_objectOf 20 = .ok (.iload_n 1, 1) := by decide +kernel
theorem dX7_objectOf_21 : decode cX7_objectOf 21 = .ok (.istore_n 2, 1) := by decide +kernel
theorem dX7_objectOf_22 : decode cX7_objectOf 22 = .ok (.iload_n 2, 1) := by decide +kernel
theorem dX7_objectOf_23 : decode cX7_objectOf 23 = .ok (.ifCond .lt 20, 3) := by decide +kernel
theorem dX7_objectOf_26 : decode cX7_objectOf 26 = .ok (.aload_n 0, 1) := by decide +kernel
theorem dX7_objectOf_27 : decode cX7_objectOf 27 = .ok (.getfield 7, 3) := by decide +kernel
theorem dX7_objectOf_30 : decode cX7_objectOf 30 = .ok (.iconst 0, 1) := by decide +kernel
theorem dX7_objectOf_31 : decode cX7_objectOf 31 = .ok (.iload_n 2, 1) := by decide +kernel
theorem dX7_objectOf_32 : decode cX7_objectOf 32 = .ok (.iadd, 1) := by decide +kernel
theorem dX7_objectOf_33 : decode cX7_objectOf 33 = .ok (.iaload, 1) := by decide +kernel
theorem dX7_objectOf_34 : decode cX7_objectOf 34 = .ok (.ifCond .ne 9, 3) := by decide +kernel
theorem dX7_objectOf_37 : decode cX7_objectOf 37 = .ok (.iinc 2 (-1), 3) := by decide +kernel
theorem dX7_objectOf_40 : decode cX7_objectOf 40 = .ok (.goto (-18), 3) := by decide +kernel
theorem dX7_objectOf_43 : decode cX7_objectOf 43 = .ok (.iload_n 2, 1) := by decide +kernel
theorem dX7_objectOf_44 : decode cX7_objectOf 44 = .ok (.ifCond .lt 21, 3) := by decide +kernel
theorem dX7_objectOf_47 : decode cX7_objectOf 47 = .ok (.iload_n 2, 1) := by decide +kernel
theorem dX7_objectOf_48 : decode cX7_objectOf 48 = .ok (.aload_n 0, 1) := by decide +kernel
theorem dX7_objectOf_49 : decode cX7_objectOf 49 = .ok (.getfield 7, 3) := by decide +kernel
theorem dX7_objectOf_52 : decode cX7_objectOf 52 = .ok (.iconst 0, 1) := by decide +kernel
theorem dX7_objectOf_53 : decode cX7_objectOf 53 = .ok (.iload_n 2, 1) := by decide +kernel
theorem dX7_objectOf_54 : decode cX7_objectOf 54 = .ok (.iadd, 1) := by decide +kernel
theorem dX7_objectOf_55 : decode cX7_objectOf 55 = .ok (.iaload, 1) := by decide +kernel
theorem dX7_objectOf_56 : decode cX7_objectOf 56 = .ok (.iadd, 1) := by decide +kernel
theorem dX7_objectOf_57 : decode cX7_objectOf 57 = .ok (.iload_n 1, 1) := by decide +kernel
theorem dX7_objectOf_58 : decode cX7_objectOf 58 = .ok (.if_icmp .le 7, 3) := by decide +kernel
theorem dX7_objectOf_61 : decode cX7_objectOf 61 = .ok (.iload_n 2, 1) := by decide +kernel
theorem dX7_objectOf_62 : decode cX7_objectOf 62 = .ok (.goto 4, 3) := by decide +kernel
theorem dX7_objectOf_65 : decode cX7_objectOf 65 = .ok (.iconst (-1), 1) := by decide +kernel
theorem dX7_objectOf_66 : decode cX7_objectOf 66 = .ok (.ireturn, 1) := by decide +kernel
theorem dX7_isReference_0 : decode cX7_isReference 0 = .ok (.iload_n 1, 1) := by decide +kernel
theorem dX7_isReference_1 : decode cX7_isReference 1 = .ok (.iconst (-1), 1) := by decide +kernel
theorem dX7_isReference_2 : decode cX7_isReference 2 = .ok (.if_icmp .eq 12, 3) := by decide +kernel
theorem dX7_isReference_5 : decode cX7_isReference 5 = .ok (.aload_n 0, 1) := by decide +kernel
theorem dX7_isReference_6 : decode cX7_isReference 6 = .ok (.iload_n 1, 1) := by decide +kernel
theorem dX7_isReference_7 : decode cX7_isReference 7 = .ok (.invokevirtual 51, 3) := by decide +kernel
theorem dX7_isReference_10 : decode cX7_isReference 10 = .ok (.iconst (-1), 1) := by decide +kernel
theorem dX7_isReference_11 : decode cX7_isReference 11 = .ok (.if_icmp .eq 7, 3) := by decide +kernel
theorem dX7_isReference_14 : decode cX7_isReference 14 = .ok (.iconst 1, 1) := by decide +kernel
theorem dX7_isReference_15 : decode cX7_isReference 15 = .ok (.goto 4, 3) := by decide +kernel
theorem dX7_isReference_18 : decode cX7_isReference 18 = .ok (.iconst 0, 1) := by decide +kernel
theorem dX7_isReference_19 : decode cX7_isReference 19 = .ok (.ireturn, 1) := by decide +kernel
theorem dX7_dataOf_0 : decode cX7_dataOf 0 = .ok (.aload_n 0, 1) := by decide +kernel
theorem dX7_dataOf_1 : decode cX7_dataOf 1 = .ok (.getfield 7, 3) := by decide +kernel
theorem dX7_dataOf_4 : decode cX7_dataOf 4 = .ok (.iconst 0, 1) := by decide +kernel
theorem dX7_dataOf_5 : decode cX7_dataOf 5 = .ok (.iload_n 1, 1) := by decide +kernel
theorem dX7_dataOf_6 : decode cX7_dataOf 6 = .ok (.iadd, 1) := by decide +kernel
theorem dX7_dataOf_7 : decode cX7_dataOf 7 = .ok (.iaload, 1) := by decide +kernel
theorem dX7_dataOf_8 : decode cX7_dataOf 8 = .ok (.iconst 1, 1) := by decide +kernel
theorem dX7_dataOf_9 : decode cX7_dataOf 9 = .ok (.isub, 1) := by decide +kernel
theorem dX7_dataOf_10 : decode cX7_dataOf 10 = .ok (.aload_n 0, 1) := by decide +kernel
theorem dX7_dataOf_11 : decode cX7_dataOf 11 = .ok (.getfield 7, 3) := by decide +kernel
theorem dX7_dataOf_14 : decode cX7_dataOf 14 = .ok (.sipush 200, 3) := by decide +kernel
theorem dX7_dataOf_17 : decode cX7_dataOf 17 = .ok (.iload_n 1, 1) := by decide +kernel
theorem dX7_dataOf_18 : decode cX7_dataOf 18 = .ok (.iadd, 1) := by decide +kernel
theorem dX7_dataOf_19 : decode cX7_dataOf 19 = .ok (.iaload, 1) := by decide +kernel
theorem dX7_dataOf_20 : decode cX7_dataOf 20 = .ok (.isub, 1) := by decide +kernel
theorem dX7_dataOf_21 : decode cX7_dataOf 21 = .ok (.ireturn, 1) := by decide +kernel
theorem dX7_alloc_0 : decode cX7_alloc 0 = .ok (.iload_n 1, 1) := by decide +kernel
theorem dX7_alloc_1 : decode cX7_alloc 1 = .ok (.iconst 0, 1) := by decide +kernel
theorem dX7_alloc_2 : decode cX7_alloc 2 = .ok (.bipush 6, 2) := by decide +kernel
theorem dX7_alloc_4 : decode cX7_alloc 4 = .ok (.invokestatic 46, 3) := by decide +kernel
theorem dX7_alloc_7 : decode cX7_alloc 7 = .ok (.ifCond .eq 13, 3) := by decide +kernel
theorem dX7_alloc_10 : decode cX7_alloc 10 = .ok (.iload_n 2, 1) := by decide +kernel
theorem dX7_alloc_11 : decode cX7_alloc 11 = .ok (.iconst 0, 1) := by decide +kernel
theorem dX7_alloc_12 : decode cX7_alloc 12 = .ok (.bipush 6, 2) := by decide +kernel
theorem dX7_alloc_14 : decode cX7_alloc 14 = .ok (.invokestatic 46, 3) := by decide +kernel
theorem dX7_alloc_17 : decode cX7_alloc 17 = .ok (.ifCond .ne 6, 3) := by decide +kernel
theorem dX7_alloc_20 : decode cX7_alloc 20 = .ok (.ldc 50, 2) := by decide +kernel
theorem dX7_alloc_22 : decode cX7_alloc 22 = .ok (.ireturn, 1) := by decide +kernel
theorem dX7_alloc_23 : decode cX7_alloc 23 = .ok (.iconst 1, 1) := by decide +kernel
theorem dX7_alloc_24 : decode cX7_alloc 24 = .ok (.iload_n 1, 1) := by decide +kernel
theorem dX7_alloc_25 : decode cX7_alloc 25 = .ok (.iadd, 1) := by decide +kernel
theorem dX7_alloc_26 : decode cX7_alloc 26 = .ok (.iload_n 2, 1) := by decide +kernel
theorem dX7_alloc_27 : decode cX7_alloc 27 = .ok (.iadd, 1) := by decide +kernel
theorem dX7_alloc_28 : decode cX7_alloc 28 = .ok (.istore_n 3, 1) := by decide +kernel
theorem dX7_alloc_29 : decode cX7_alloc 29 = .ok (.iconst 0, 1) := by decide +kernel
theorem dX7_alloc_30 : decode cX7_alloc 30 = .ok (.istore 4, 2) := by decide +kernel
theorem dX7_alloc_32 : decode cX7_alloc 32 = .ok (.iload 4, 2) := by decide +kernel
theorem dX7_alloc_34 : decode cX7_alloc 34 = .ok (.iload_n 3, 1) := by decide +kernel
theorem dX7_alloc_35 : decode cX7_alloc 35 = .ok (.iadd, 1) := by decide +kernel
theorem dX7_alloc_36 : decode cX7_alloc 36 = .ok (.aload_n 0, 1) := by decide +kernel
theorem dX7_alloc_37 : decode cX7_alloc 37 = .ok (.getfield 7, 3) := by decide +kernel
theorem dX7_alloc_40 : decode cX7_alloc 40 = .ok (.sipush 1216, 3) := by decide +kernel
theorem dX7_alloc_43 : decode cX7_alloc 43 = .ok (.iaload, 1) := by decide +kernel
theorem dX7_alloc_44 : decode cX7_alloc 44 = .ok (.if_icmp .gt 73, 3) := by decide +kernel
theorem dX7_alloc_47 : decode cX7_alloc 47 = .ok (.iconst 0, 1) := by decide +kernel
theorem dX7_alloc_48 : decode cX7_alloc 48 = .ok (.istore 5, 2) := by decide +kernel
theorem dX7_alloc_50 : decode cX7_alloc 50 = .ok (.iload 5, 2) := by decide +kernel
theorem dX7_alloc_52 : decode cX7_alloc 52 = .ok (.iload_n 3, 1) := by decide +kernel
theorem dX7_alloc_53 : decode cX7_alloc 53 = .ok (.if_icmp .ge 24, 3) := by decide +kernel
theorem dX7_alloc_56 : decode cX7_alloc 56 = .ok (.aload_n 0, 1) := by decide +kernel
theorem dX7_alloc_57 : decode cX7_alloc 57 = .ok (.getfield 7, 3) := by decide +kernel
theorem dX7_alloc_60 : decode cX7_alloc 60 = .ok (.iconst 0, 1) := by decide +kernel
theorem dX7_alloc_61 : decode cX7_alloc 61 = .ok (.iload 4, 2) := by decide +kernel
theorem dX7_alloc_63 : decode cX7_alloc 63 = .ok (.iadd, 1) := by decide +kernel
theorem dX7_alloc_64 : decode cX7_alloc 64 = .ok (.iload 5, 2) := by decide +kernel
theorem dX7_alloc_66 : decode cX7_alloc 66 = .ok (.iadd, 1) := by decide +kernel
theorem dX7_alloc_67 : decode cX7_alloc 67 = .ok (.iaload, 1) := by decide +kernel
theorem dX7_alloc_68 : decode cX7_alloc 68 = .ok (.ifCond .ne 9, 3) := by decide +kernel
theorem dX7_alloc_71 : decode cX7_alloc 71 = .ok (.iinc 5 1, 3) := by decide +kernel
theorem dX7_alloc_74 : decode cX7_alloc 74 = .ok (.goto (-24), 3) := by decide +kernel
theorem dX7_alloc_77 : decode cX7_alloc 77 = .ok (.iload 5, 2) := by decide +kernel
theorem dX7_alloc_79 : decode cX7_alloc 79 = .ok (.iload_n 3, 1) := by decide +kernel
theorem dX7_alloc_80 : decode cX7_alloc 80 = .ok (.if_icmp .ne 14, 3) := by decide +kernel
theorem dX7_alloc_83 : decode cX7_alloc 83 = .ok (.aload_n 0, 1) := by decide +kernel
theorem dX7_alloc_84 : decode cX7_alloc 84 = .ok (.iload 4, 2) := by decide +kernel
theorem dX7_alloc_86 : decode cX7_alloc 86 = .ok (.iload_n 1, 1) := by decide +kernel
theorem dX7_alloc_87 : decode cX7_alloc 87 = .ok (.iload_n 2, 1) := by decide +kernel
theorem dX7_alloc_88 : decode cX7_alloc 88 = .ok (.invokevirtual 55, 3) := by decide +kernel
theorem dX7_alloc_91 : decode cX7_alloc 91 = .ok (.iload 4, 2) := by decide +kernel
theorem dX7_alloc_93 : decode cX7_alloc 93 = .ok (.ireturn, 1) := by decide +kernel
theorem dX7_alloc_94 : decode cX7_alloc 94 = .ok (.iload 4, 2) := by decide +kernel
theorem dX7_alloc_96 : decode cX7_alloc 96 = .ok (.iload 5, 2) := by decide +kernel
theorem dX7_alloc_98 : decode cX7_alloc 98 = .ok (.aload_n 0, 1) := by decide +kernel
theorem dX7_alloc_99 : decode cX7_alloc 99 = .ok (.getfield 7, 3) := by decide +kernel
theorem dX7_alloc_102 : decode cX7_alloc 102 = .ok (.iconst 0, 1) := by decide +kernel
theorem dX7_alloc_103 : decode cX7_alloc 103 = .ok (.iload 4, 2) := by decide +kernel
theorem dX7_alloc_105 : decode cX7_alloc 105 = .ok (.iadd, 1) := by decide +kernel
theorem dX7_alloc_106 : decode cX7_alloc 106 = .ok (.iload 5, 2) := by decide +kernel
theorem dX7_alloc_108 : decode cX7_alloc 108 = .ok (.iadd, 1) := by decide +kernel
theorem dX7_alloc_109 : decode cX7_alloc 109 = .ok (.iaload, 1) := by decide +kernel
theorem dX7_alloc_110 : decode cX7_alloc 110 = .ok (.iadd, 1) := by decide +kernel
theorem dX7_alloc_111 : decode cX7_alloc 111 = .ok (.iadd, 1) := by decide +kernel
theorem dX7_alloc_112 : decode cX7_alloc 112 = .ok (.istore 4, 2) := by decide +kernel
theorem dX7_alloc_114 : decode cX7_alloc 114 = .ok (.goto (-82), 3) := by decide +kernel
theorem dX7_alloc_117 : decode cX7_alloc 117 = .ok (.ldc 59, 2) := by decide +kernel
theorem dX7_alloc_119 : decode cX7_alloc 119 = .ok (.ireturn, 1) := by decide +kernel
theorem dX7_lays_0 : decode cX7_lays 0 = .ok (.aload_n 0, 1) := by decide +kernel
theorem dX7_lays_1 : decode cX7_lays 1 = .ok (.getfield 7, 3) := by decide +kernel
theorem dX7_lays_4 : decode cX7_lays 4 = .ok (.iconst 0, 1) := by decide +kernel
theorem dX7_lays_5 : decode cX7_lays 5 = .ok (.iload_n 1, 1) := by decide +kernel
theorem dX7_lays_6 : decode cX7_lays 6 = .ok (.iadd, 1) := by decide +kernel
theorem dX7_lays_7 : decode cX7_lays 7 = .ok (.iconst 1, 1) := by decide +kernel
theorem dX7_lays_8 : decode cX7_lays 8 = .ok (.iload_n 2, 1) := by decide +kernel
theorem dX7_lays_9 : decode cX7_lays 9 = .ok (.iadd, 1) := by decide +kernel
theorem dX7_lays_10 : decode cX7_lays 10 = .ok (.iload_n 3, 1) := by decide +kernel
theorem dX7_lays_11 : decode cX7_lays 11 = .ok (.iadd, 1) := by decide +kernel
theorem dX7_lays_12 : decode cX7_lays 12 = .ok (.iastore, 1) := by decide +kernel
theorem dX7_lays_13 : decode cX7_lays 13 = .ok (.aload_n 0, 1) := by decide +kernel
theorem dX7_lays_14 : decode cX7_lays 14 = .ok (.getfield 7, 3) := by decide +kernel
theorem dX7_lays_17 : decode cX7_lays 17 = .ok (.sipush 200, 3) := by decide +kernel
theorem dX7_lays_20 : decode cX7_lays 20 = .ok (.iload_n 1, 1) := by decide +kernel
theorem dX7_lays_21 : decode cX7_lays 21 = .ok (.iadd, 1) := by decide +kernel
theorem dX7_lays_22 : decode cX7_lays 22 = .ok (.iload_n 2, 1) := by decide +kernel
theorem dX7_lays_23 : decode cX7_lays 23 = .ok (.iastore, 1) := by decide +kernel
theorem dX7_lays_24 : decode cX7_lays 24 = .ok (.aload_n 0, 1) := by decide +kernel
theorem dX7_lays_25 : decode cX7_lays 25 = .ok (.getfield 7, 3) := by decide +kernel
theorem dX7_lays_28 : decode cX7_lays 28 = .ok (.sipush 400, 3) := by decide +kernel
theorem dX7_lays_31 : decode cX7_lays 31 = .ok (.iload_n 1, 1) := by decide +kernel
theorem dX7_lays_32 : decode cX7_lays 32 = .ok (.iadd, 1) := by decide +kernel
theorem dX7_lays_33 : decode cX7_lays 33 = .ok (.iconst 0, 1) := by decide +kernel
theorem dX7_lays_34 : decode cX7_lays 34 = .ok (.iastore, 1) := by decide +kernel
theorem dX7_lays_35 : decode cX7_lays 35 = .ok (.aload_n 0, 1) := by decide +kernel
theorem dX7_lays_36 : decode cX7_lays 36 = .ok (.getfield 7, 3) := by decide +kernel
theorem dX7_lays_39 : decode cX7_lays 39 = .ok (.sipush 600, 3) := by decide +kernel
theorem dX7_lays_42 : decode cX7_lays 42 = .ok (.iload_n 1, 1) := by decide +kernel
theorem dX7_lays_43 : decode cX7_lays 43 = .ok (.iadd, 1) := by decide +kernel
theorem dX7_lays_44 : decode cX7_lays 44 = .ok (.iconst 0, 1) := by decide +kernel
theorem dX7_lays_45 : decode cX7_lays 45 = .ok (.iastore, 1) := by decide +kernel
theorem dX7_lays_46 : decode cX7_lays 46 = .ok (.iconst 1, 1) := by decide +kernel
theorem dX7_lays_47 : decode cX7_lays 47 = .ok (.istore 4, 2) := by decide +kernel
theorem dX7_lays_49 : decode cX7_lays 49 = .ok (.iload 4, 2) := by decide +kernel
theorem dX7_lays_51 : decode cX7_lays 51 = .ok (.iload_n 2, 1) := by decide +kernel
theorem dX7_lays_52 : decode cX7_lays 52 = .ok (.iload_n 3, 1) := by decide +kernel
theorem dX7_lays_53 : decode cX7_lays 53 = .ok (.iadd, 1) := by decide +kernel
theorem dX7_lays_54 : decode cX7_lays 54 = .ok (.if_icmp .gt 33, 3) := by decide +kernel
theorem dX7_lays_57 : decode cX7_lays 57 = .ok (.aload_n 0, 1) := by decide +kernel
theorem dX7_lays_58 : decode cX7_lays 58 = .ok (.getfield 7, 3) := by decide +kernel
theorem dX7_lays_61 : decode cX7_lays 61 = .ok (.sipush 800, 3) := by decide +kernel
theorem dX7_lays_64 : decode cX7_lays 64 = .ok (.iload_n 1, 1) := by decide +kernel
theorem dX7_lays_65 : decode cX7_lays 65 = .ok (.iadd, 1) := by decide +kernel
theorem dX7_lays_66 : decode cX7_lays 66 = .ok (.iload 4, 2) := by decide +kernel
theorem dX7_lays_68 : decode cX7_lays 68 = .ok (.iadd, 1) := by decide +kernel
theorem dX7_lays_69 : decode cX7_lays 69 = .ok (.iload 4, 2) := by decide +kernel
theorem dX7_lays_71 : decode cX7_lays 71 = .ok (.iload_n 2, 1) := by decide +kernel
theorem dX7_lays_72 : decode cX7_lays 72 = .ok (.if_icmp .gt 7, 3) := by decide +kernel
theorem dX7_lays_75 : decode cX7_lays 75 = .ok (.iconst (-1), 1) := by decide +kernel
theorem dX7_lays_76 : decode cX7_lays 76 = .ok (.goto 4, 3) := by decide +kernel
theorem dX7_lays_79 : decode cX7_lays 79 = .ok (.iconst 0, 1) := by decide +kernel
theorem dX7_lays_80 : decode cX7_lays 80 = .ok (.iastore, 1) := by decide +kernel
theorem dX7_lays_81 : decode cX7_lays 81 = .ok (.iinc 4 1, 3) := by decide +kernel
theorem dX7_lays_84 : decode cX7_lays 84 = .ok (.goto (-35), 3) := by decide +kernel
theorem dX7_lays_87 : decode cX7_lays 87 = .ok (.aload_n 0, 1) := by decide +kernel
theorem dX7_lays_88 : decode cX7_lays 88 = .ok (.getfield 7, 3) := by decide +kernel
theorem dX7_lays_91 : decode cX7_lays 91 = .ok (.sipush 1218, 3) := by decide +kernel
theorem dX7_lays_94 : decode cX7_lays 94 = .ok (.dup2, 1) := by decide +kernel
theorem dX7_lays_95 : decode cX7_lays 95 = .ok (.iaload, 1) := by decide +kernel
theorem dX7_lays_96 : decode cX7_lays 96 = .ok (.iconst 1, 1) := by decide +kernel
theorem dX7_lays_97 : decode cX7_lays 97 = .ok (.iadd, 1) := by decide +kernel
theorem dX7_lays_98 : decode cX7_lays 98 = .ok (.iastore, 1) := by decide +kernel
theorem dX7_lays_99 : decode cX7_lays 99 = .ok (.return_, 1) := by decide +kernel
theorem dX7_referring_0 : decode cX7_referring 0 = .ok (.iconst 0, 1) := by decide +kernel
theorem dX7_referring_1 : decode cX7_referring 1 = .ok (.istore_n 2, 1) := by decide +kernel
theorem dX7_referring_2 : decode cX7_referring 2 = .ok (.iconst 0, 1) := by decide +kernel
theorem dX7_referring_3 : decode cX7_referring 3 = .ok (.istore_n 3, 1) := by decide +kernel
theorem dX7_referring_4 : decode cX7_referring 4 = .ok (.iload_n 3, 1) := by decide +kernel
theorem dX7_referring_5 : decode cX7_referring 5 = .ok (.bipush 10, 2) := by decide +kernel
theorem dX7_referring_7 : decode cX7_referring 7 = .ok (.if_icmp .ge 49, 3) := by decide +kernel
theorem dX7_referring_10 : decode cX7_referring 10 = .ok (.iload_n 2, 1) := by decide +kernel
theorem dX7_referring_11 : decode cX7_referring 11 = .ok (.aload_n 0, 1) := by decide +kernel
theorem dX7_referring_12 : decode cX7_referring 12 = .ok (.getfield 7, 3) := by decide +kernel
theorem dX7_referring_15 : decode cX7_referring 15 = .ok (.sipush 1200, 3) := by decide +kernel
theorem dX7_referring_18 : decode cX7_referring 18 = .ok (.iload_n 3, 1) := by decide +kernel
theorem dX7_referring_19 : decode cX7_referring 19 = .ok (.iadd, 1) := by decide +kernel
theorem dX7_referring_20 : decode cX7_referring 20 = .ok (.iaload, 1) := by decide +kernel
theorem dX7_referring_21 : decode cX7_referring 21 = .ok (.iconst (-1), 1) := by decide +kernel
theorem dX7_referring_22 : decode cX7_referring 22 = .ok (.if_icmp .eq 25, 3) := by decide +kernel
theorem dX7_referring_25 : decode cX7_referring 25 = .ok (.aload_n 0, 1) := by decide +kernel
theorem dX7_referring_26 : decode cX7_referring 26 = .ok (.aload_n 0, 1) := by decide +kernel
theorem dX7_referring_27 : decode cX7_referring 27 = .ok (.getfield 7, 3) := by decide +kernel
theorem dX7_referring_30 : decode cX7_referring 30 = .ok (.sipush 1200, 3) := by decide +kernel
theorem dX7_referring_33 : decode cX7_referring 33 = .ok (.iload_n 3, 1) := by decide +kernel
theorem dX7_referring_34 : decode cX7_referring 34 = .ok (.iadd, 1) := by decide +kernel
theorem dX7_referring_35 : decode cX7_referring 35 = .ok (.iaload, 1) := by decide +kernel
theorem dX7_referring_36 : decode cX7_referring 36 = .ok (.invokevirtual 51, 3) := by decide +kernel
theorem dX7_referring_39 : decode cX7_referring 39 = .ok (.iload_n 1, 1) := by decide +kernel
theorem dX7_referring_40 : decode cX7_referring 40 = .ok (.if_icmp .ne 7, 3) := by decide +kernel
theorem dX7_referring_43 : decode cX7_referring 43 = .ok (.iconst 1, 1) := by decide +kernel
theorem dX7_referring_44 : decode cX7_referring 44 = .ok (.goto 4, 3) := by decide +kernel
theorem dX7_referring_47 : decode cX7_referring 47 = .ok (.iconst 0, 1) := by decide +kernel
theorem dX7_referring_48 : decode cX7_referring 48 = .ok (.iadd, 1) := by decide +kernel
theorem dX7_referring_49 : decode cX7_referring 49 = .ok (.istore_n 2, 1) := by decide +kernel
theorem dX7_referring_50 : decode cX7_referring 50 = .ok (.iinc 3 1, 3) := by decide +kernel
theorem dX7_referring_53 : decode cX7_referring 53 = .ok (.goto (-49), 3) := by decide +kernel
theorem dX7_referring_56 : decode cX7_referring 56 = .ok (.iconst 0, 1) := by decide +kernel
theorem dX7_referring_57 : decode cX7_referring 57 = .ok (.istore_n 3, 1) := by decide +kernel
theorem dX7_referring_58 : decode cX7_referring 58 = .ok (.iload_n 3, 1) := by decide +kernel
theorem dX7_referring_59 : decode cX7_referring 59 = .ok (.aload_n 0, 1) := by decide +kernel
theorem dX7_referring_60 : decode cX7_referring 60 = .ok (.getfield 7, 3) := by decide +kernel
theorem dX7_referring_63 : decode cX7_referring 63 = .ok (.sipush 1216, 3) := by decide +kernel
theorem dX7_referring_66 : decode cX7_referring 66 = .ok (.iaload, 1) := by decide +kernel
theorem dX7_referring_67 : decode cX7_referring 67 = .ok (.if_icmp .ge 90, 3) := by decide +kernel
theorem dX7_referring_70 : decode cX7_referring 70 = .ok (.iconst 1, 1) := by decide +kernel
theorem dX7_referring_71 : decode cX7_referring 71 = .ok (.istore 4, 2) := by decide +kernel
theorem dX7_referring_73 : decode cX7_referring 73 = .ok (.iload 4, 2) := by decide +kernel
theorem dX7_referring_75 : decode cX7_referring 75 = .ok (.aload_n 0, 1) := by decide +kernel
theorem dX7_referring_76 : decode cX7_referring 76 = .ok (.getfield 7, 3) := by decide +kernel
theorem dX7_referring_79 : decode cX7_referring 79 = .ok (.sipush 200, 3) := by decide +kernel
theorem dX7_referring_82 : decode cX7_referring 82 = .ok (.iload_n 3, 1) := by decide +kernel
theorem dX7_referring_83 : decode cX7_referring 83 = .ok (.iadd, 1) := by decide +kernel
theorem dX7_referring_84 : decode cX7_referring 84 = .ok (.iaload, 1) := by decide +kernel
theorem dX7_referring_85 : decode cX7_referring 85 = .ok (.if_icmp .gt 66, 3) := by decide +kernel
theorem dX7_referring_88 : decode cX7_referring 88 = .ok (.aload_n 0, 1) := by decide +kernel
theorem dX7_referring_89 : decode cX7_referring 89 = .ok (.getfield 7, 3) := by decide +kernel
theorem dX7_referring_92 : decode cX7_referring 92 = .ok (.iconst 0, 1) := by decide +kernel
theorem dX7_referring_93 : decode cX7_referring 93 = .ok (.iload_n 3, 1) := by decide +kernel
theorem dX7_referring_94 : decode cX7_referring 94 = .ok (.iadd, 1) := by decide +kernel
theorem dX7_referring_95 : decode cX7_referring 95 = .ok (.iaload, 1) := by decide +kernel
theorem dX7_referring_96 : decode cX7_referring 96 = .ok (.ifCond .le 55, 3) := by decide +kernel
theorem dX7_referring_99 : decode cX7_referring 99 = .ok (.iload_n 2, 1) := by decide +kernel
theorem dX7_referring_100 : decode cX7_referring 100 = .ok (.aload_n 0, 1) := by decide +kernel
theorem dX7_referring_101 : decode cX7_referring 101 = .ok (.getfield 7, 3) := by decide +kernel
theorem dX7_referring_104 : decode cX7_referring 104 = .ok (.sipush 800, 3) := by decide +kernel
theorem dX7_referring_107 : decode cX7_referring 107 = .ok (.iload_n 3, 1) := by decide +kernel
theorem dX7_referring_108 : decode cX7_referring 108 = .ok (.iadd, 1) := by decide +kernel
theorem dX7_referring_109 : decode cX7_referring 109 = .ok (.iload 4, 2) := by decide +kernel
theorem dX7_referring_111 : decode cX7_referring 111 = .ok (.iadd, 1) := by decide +kernel
theorem dX7_referring_112 : decode cX7_referring 112 = .ok (.iaload, 1) := by decide +kernel
theorem dX7_referring_113 : decode cX7_referring 113 = .ok (.iconst (-1), 1) := by decide +kernel
theorem dX7_referring_114 : decode cX7_referring 114 = .ok (.if_icmp .eq 28, 3) := by decide +kernel
theorem dX7_referring_117 : decode cX7_referring 117 = .ok (.aload_n 0, 1) := by decide +kernel
theorem dX7_referring_118 : decode cX7_referring 118 = .ok (.aload_n 0, 1) := by decide +kernel
theorem dX7_referring_119 : decode cX7_referring 119 = .ok (.getfield 7, 3) := by decide +kernel
theorem dX7_referring_122 : decode cX7_referring 122 = .ok (.sipush 800, 3) := by decide +kernel
theorem dX7_referring_125 : decode cX7_referring 125 = .ok (.iload_n 3, 1) := by decide +kernel
theorem dX7_referring_126 : decode cX7_referring 126 = .ok (.iadd, 1) := by decide +kernel
theorem dX7_referring_127 : decode cX7_referring 127 = .ok (.iload 4, 2) := by decide +kernel
theorem dX7_referring_129 : decode cX7_referring 129 = .ok (.iadd, 1) := by decide +kernel
theorem dX7_referring_130 : decode cX7_referring 130 = .ok (.iaload, 1) := by decide +kernel
theorem dX7_referring_131 : decode cX7_referring 131 = .ok (.invokevirtual 51, 3) := by decide +kernel
theorem dX7_referring_134 : decode cX7_referring 134 = .ok (.iload_n 1, 1) := by decide +kernel
theorem dX7_referring_135 : decode cX7_referring 135 = .ok (.if_icmp .ne 7, 3) := by decide +kernel
theorem dX7_referring_138 : decode cX7_referring 138 = .ok (.iconst 1, 1) := by decide +kernel
theorem dX7_referring_139 : decode cX7_referring 139 = .ok (.goto 4, 3) := by decide +kernel
theorem dX7_referring_142 : decode cX7_referring 142 = .ok (.iconst 0, 1) := by decide +kernel
theorem dX7_referring_143 : decode cX7_referring 143 = .ok (.iadd, 1) := by decide +kernel
theorem dX7_referring_144 : decode cX7_referring 144 = .ok (.istore_n 2, 1) := by decide +kernel
theorem dX7_referring_145 : decode cX7_referring 145 = .ok (.iinc 4 1, 3) := by decide +kernel
theorem dX7_referring_148 : decode cX7_referring 148 = .ok (.goto (-75), 3) := by decide +kernel
theorem dX7_referring_151 : decode cX7_referring 151 = .ok (.iinc 3 1, 3) := by decide +kernel
theorem dX7_referring_154 : decode cX7_referring 154 = .ok (.goto (-96), 3) := by decide +kernel
theorem dX7_referring_157 : decode cX7_referring 157 = .ok (.iload_n 2, 1) := by decide +kernel
theorem dX7_referring_158 : decode cX7_referring 158 = .ok (.ireturn, 1) := by decide +kernel
theorem dX7_starts_0 : decode cX7_starts 0 = .ok (.iload_n 1, 1) := by decide +kernel
theorem dX7_starts_1 : decode cX7_starts 1 = .ok (.iconst (-1), 1) := by decide +kernel
theorem dX7_starts_2 : decode cX7_starts 2 = .ok (.if_icmp .ne 7, 3) := by decide +kernel
theorem dX7_starts_5 : decode cX7_starts 5 = .ok (.iconst (-1), 1) := by decide +kernel
theorem dX7_starts_6 : decode cX7_starts 6 = .ok (.goto 8, 3) := by decide +kernel
theorem dX7_starts_9 : decode cX7_starts 9 = .ok (.aload_n 0, 1) := by decide +kernel
theorem dX7_starts_10 : decode cX7_starts 10 = .ok (.iload_n 1, 1) := by decide +kernel
theorem dX7_starts_11 : decode cX7_starts 11 = .ok (.invokevirtual 51, 3) := by decide +kernel
theorem dX7_starts_14 : decode cX7_starts 14 = .ok (.istore_n 3, 1) := by decide +kernel
theorem dX7_starts_15 : decode cX7_starts 15 = .ok (.iload_n 3, 1) := by decide +kernel
theorem dX7_starts_16 : decode cX7_starts 16 = .ok (.iconst (-1), 1) := by decide +kernel
theorem dX7_starts_17 : decode cX7_starts 17 = .ok (.if_icmp .eq 15, 3) := by decide +kernel
theorem dX7_starts_20 : decode cX7_starts 20 = .ok (.iload_n 3, 1) := by decide +kernel
theorem dX7_starts_21 : decode cX7_starts 21 = .ok (.iload_n 2, 1) := by decide +kernel
theorem dX7_starts_22 : decode cX7_starts 22 = .ok (.if_icmp .eq 10, 3) := by decide +kernel
theorem dX7_starts_25 : decode cX7_starts 25 = .ok (.aload_n 0, 1) := by decide +kernel
theorem dX7_starts_26 : decode cX7_starts 26 = .ok (.getfield 30, 3) := by decide +kernel
theorem dX7_starts_29 : decode cX7_starts 29 = .ok (.iload_n 3, 1) := by decide +kernel
theorem dX7_starts_30 : decode cX7_starts 30 = .ok (.iconst 0, 1) := by decide +kernel
theorem dX7_starts_31 : decode cX7_starts 31 = .ok (.iastore, 1) := by decide +kernel
theorem dX7_starts_32 : decode cX7_starts 32 = .ok (.return_, 1) := by decide +kernel
theorem dX7_reaches_0 : decode cX7_reaches 0 = .ok (.iconst 0, 1) := by decide +kernel
theorem dX7_reaches_1 : decode cX7_reaches 1 = .ok (.istore_n 2, 1) := by decide +kernel
theorem dX7_reaches_2 : decode cX7_reaches 2 = .ok (.iload_n 2, 1) := by decide +kernel
theorem dX7_reaches_3 : decode cX7_reaches 3 = .ok (.sipush 200, 3) := by decide +kernel
theorem dX7_reaches_6 : decode cX7_reaches 6 = .ok (.if_icmp .ge 16, 3) := by decide +kernel
theorem dX7_reaches_9 : decode cX7_reaches 9 = .ok (.aload_n 0, 1) := by decide +kernel
theorem dX7_reaches_10 : decode cX7_reaches 10 = .ok (.getfield 30, 3) := by decide +kernel
theorem dX7_reaches_13 : decode cX7_reaches 13 = .ok (.iload_n 2, 1) := by decide +kernel
theorem dX7_reaches_14 : decode cX7_reaches 14 = .ok (.iconst (-1), 1) := by decide +kernel
theorem dX7_reaches_15 : decode cX7_reaches 15 = .ok (.iastore, 1) := by decide +kernel
theorem dX7_reaches_16 : decode cX7_reaches 16 = .ok (.iinc 2 1, 3) := by decide +kernel
theorem dX7_reaches_19 : decode cX7_reaches 19 = .ok (.goto (-17), 3) := by decide +kernel
theorem dX7_reaches_22 : decode cX7_reaches 22 = .ok (.iconst 0, 1) := by decide +kernel
theorem dX7_reaches_23 : decode cX7_reaches 23 = .ok (.istore_n 2, 1) := by decide +kernel
theorem dX7_reaches_24 : decode cX7_reaches 24 = .ok (.iload_n 2, 1) := by decide +kernel
theorem dX7_reaches_25 : decode cX7_reaches 25 = .ok (.bipush 6, 2) := by decide +kernel
theorem dX7_reaches_27 : decode cX7_reaches 27 = .ok (.if_icmp .ge 24, 3) := by decide +kernel
theorem dX7_reaches_30 : decode cX7_reaches 30 = .ok (.aload_n 0, 1) := by decide +kernel
theorem dX7_reaches_31 : decode cX7_reaches 31 = .ok (.aload_n 0, 1) := by decide +kernel
theorem dX7_reaches_32 : decode cX7_reaches 32 = .ok (.getfield 7, 3) := by decide +kernel
theorem dX7_reaches_35 : decode cX7_reaches 35 = .ok (.sipush 1200, 3) := by decide +kernel
theorem dX7_reaches_38 : decode cX7_reaches 38 = .ok (.iload_n 2, 1) := by decide +kernel
theorem dX7_reaches_39 : decode cX7_reaches 39 = .ok (.iadd, 1) := by decide +kernel
theorem dX7_reaches_40 : decode cX7_reaches 40 = .ok (.iaload, 1) := by decide +kernel
theorem dX7_reaches_41 : decode cX7_reaches 41 = .ok (.iload_n 1, 1) := by decide +kernel
theorem dX7_reaches_42 : decode cX7_reaches 42 = .ok (.invokevirtual 60, 3) := by decide +kernel
theorem dX7_reaches_45 : decode cX7_reaches 45 = .ok (.iinc 2 1, 3) := by decide +kernel
theorem dX7_reaches_48 : decode cX7_reaches 48 = .ok (.goto (-24), 3) := by decide +kernel
theorem dX7_reaches_51 : decode cX7_reaches 51 = .ok (.iconst 0, 1) := by decide +kernel
theorem dX7_reaches_52 : decode cX7_reaches 52 = .ok (.istore_n 2, 1) := by decide +kernel
theorem dX7_reaches_53 : decode cX7_reaches 53 = .ok (.iload_n 2, 1) := by decide +kernel
theorem dX7_reaches_54 : decode cX7_reaches 54 = .ok (.aload_n 0, 1) := by decide +kernel
theorem dX7_reaches_55 : decode cX7_reaches 55 = .ok (.getfield 7, 3) := by decide +kernel
theorem dX7_reaches_58 : decode cX7_reaches 58 = .ok (.sipush 1216, 3) := by decide +kernel
theorem dX7_reaches_61 : decode cX7_reaches 61 = .ok (.iaload, 1) := by decide +kernel
theorem dX7_reaches_62 : decode cX7_reaches 62 = .ok (.if_icmp .ge 44, 3) := by decide +kernel
theorem dX7_reaches_65 : decode cX7_reaches 65 = .ok (.aload_n 0, 1) := by decide +kernel
theorem dX7_reaches_66 : decode cX7_reaches 66 = .ok (.aload_n 0, 1) := by decide +kernel
theorem dX7_reaches_67 : decode cX7_reaches 67 = .ok (.getfield 7, 3) := by decide +kernel
theorem dX7_reaches_70 : decode cX7_reaches 70 = .ok (.iconst 0, 1) := by decide +kernel
theorem dX7_reaches_71 : decode cX7_reaches 71 = .ok (.iload_n 2, 1) := by decide +kernel
theorem dX7_reaches_72 : decode cX7_reaches 72 = .ok (.iadd, 1) := by decide +kernel
theorem dX7_reaches_73 : decode cX7_reaches 73 = .ok (.iaload, 1) := by decide +kernel
theorem dX7_reaches_74 : decode cX7_reaches 74 = .ok (.ifCond .le 21, 3) := by decide +kernel
theorem dX7_reaches_77 : decode cX7_reaches 77 = .ok (.aload_n 0, 1) := by decide +kernel
theorem dX7_reaches_78 : decode cX7_reaches 78 = .ok (.getfield 7, 3) := by decide +kernel
theorem dX7_reaches_81 : decode cX7_reaches 81 = .ok (.sipush 400, 3) := by decide +kernel
theorem dX7_reaches_84 : decode cX7_reaches 84 = .ok (.iload_n 2, 1) := by decide +kernel
theorem dX7_reaches_85 : decode cX7_reaches 85 = .ok (.iadd, 1) := by decide +kernel
theorem dX7_reaches_86 : decode cX7_reaches 86 = .ok (.iaload, 1) := by decide +kernel
theorem dX7_reaches_87 : decode cX7_reaches 87 = .ok (.iconst 1, 1) := by decide +kernel
theorem dX7_reaches_88 : decode cX7_reaches 88 = .ok (.if_icmp .ne 7, 3) := by decide +kernel
theorem dX7_reaches_91 : decode cX7_reaches 91 = .ok (.iload_n 2, 1) := by decide +kernel
theorem dX7_reaches_92 : decode cX7_reaches 92 = .ok (.goto 4, 3) := by decide +kernel
theorem dX7_reaches_95 : decode cX7_reaches 95 = .ok (.iconst (-1), 1) := by decide +kernel
theorem dX7_reaches_96 : decode cX7_reaches 96 = .ok (.iload_n 1, 1) := by decide +kernel
theorem dX7_reaches_97 : decode cX7_reaches 97 = .ok (.invokevirtual 60, 3) := by decide +kernel
theorem dX7_reaches_100 : decode cX7_reaches 100 = .ok (.iinc 2 1, 3) := by decide +kernel
theorem dX7_reaches_103 : decode cX7_reaches 103 = .ok (.goto (-50), 3) := by decide +kernel
theorem dX7_reaches_106 : decode cX7_reaches 106 = .ok (.iconst 1, 1) := by decide +kernel
theorem dX7_reaches_107 : decode cX7_reaches 107 = .ok (.istore_n 2, 1) := by decide +kernel
theorem dX7_reaches_108 : decode cX7_reaches 108 = .ok (.iconst 0, 1) := by decide +kernel
theorem dX7_reaches_109 : decode cX7_reaches 109 = .ok (.istore_n 3, 1) := by decide +kernel
theorem dX7_reaches_110 : decode cX7_reaches 110 = .ok (.iload_n 2, 1) := by decide +kernel
theorem dX7_reaches_111 : decode cX7_reaches 111 = .ok (.ifCond .eq 158, 3) := by decide +kernel
theorem dX7_reaches_114 : decode cX7_reaches 114 = .ok (.iconst 0, 1) := by decide +kernel
theorem dX7_reaches_115 : decode cX7_reaches 115 = .ok (.istore_n 2, 1) := by decide +kernel
theorem dX7_reaches_116 : decode cX7_reaches 116 = .ok (.iconst 0, 1) := by decide +kernel
theorem dX7_reaches_117 : decode cX7_reaches 117 = .ok (.istore 4, 2) := by decide +kernel
theorem dX7_reaches_119 : decode cX7_reaches 119 = .ok (.iload 4, 2) := by decide +kernel
theorem dX7_reaches_121 : decode cX7_reaches 121 = .ok (.aload_n 0, 1) := by decide +kernel
theorem dX7_reaches_122 : decode cX7_reaches 122 = .ok (.getfield 7, 3) := by decide +kernel
theorem dX7_reaches_125 : decode cX7_reaches 125 = .ok (.sipush 1216, 3) := by decide +kernel
theorem dX7_reaches_128 : decode cX7_reaches 128 = .ok (.iaload, 1) := by decide +kernel
theorem dX7_reaches_129 : decode cX7_reaches 129 = .ok (.if_icmp .ge 134, 3) := by decide +kernel
theorem dX7_reaches_132 : decode cX7_reaches 132 = .ok (.iconst 1, 1) := by decide +kernel
theorem dX7_reaches_133 : decode cX7_reaches 133 = .ok (.istore 5, 2) := by decide +kernel
theorem dX7_reaches_135 : decode cX7_reaches 135 = .ok (.iload 5, 2) := by decide +kernel
theorem dX7_reaches_137 : decode cX7_reaches 137 = .ok (.aload_n 0, 1) := by decide +kernel
theorem dX7_reaches_138 : decode cX7_reaches 138 = .ok (.getfield 7, 3) := by decide +kernel
theorem dX7_reaches_141 : decode cX7_reaches 141 = .ok (.sipush 200, 3) := by decide +kernel
theorem dX7_reaches_144 : decode cX7_reaches 144 = .ok (.iload 4, 2) := by decide +kernel
theorem dX7_reaches_146 : decode cX7_reaches 146 = .ok (.iadd, 1) := by decide +kernel
theorem dX7_reaches_147 : decode cX7_reaches 147 = .ok (.iaload, 1) := by decide +kernel
theorem dX7_reaches_148 : decode cX7_reaches 148 = .ok (.if_icmp .gt 109, 3) := by decide +kernel
theorem dX7_reaches_151 : decode cX7_reaches 151 = .ok (.aload_n 0, 1) := by decide +kernel
theorem dX7_reaches_152 : decode cX7_reaches 152 = .ok (.getfield 7, 3) := by decide +kernel
theorem dX7_reaches_155 : decode cX7_reaches 155 = .ok (.iconst 0, 1) := by decide +kernel
theorem dX7_reaches_156 : decode cX7_reaches 156 = .ok (.iload 4, 2) := by decide +kernel
theorem dX7_reaches_158 : decode cX7_reaches 158 = .ok (.iadd, 1) := by decide +kernel
theorem dX7_reaches_159 : decode cX7_reaches 159 = .ok (.iaload, 1) := by decide +kernel
theorem dX7_reaches_160 : decode cX7_reaches 160 = .ok (.ifCond .le 97, 3) := by decide +kernel
theorem dX7_reaches_163 : decode cX7_reaches 163 = .ok (.aload_n 0, 1) := by decide +kernel
theorem dX7_reaches_164 : decode cX7_reaches 164 = .ok (.getfield 30, 3) := by decide +kernel
theorem dX7_reaches_167 : decode cX7_reaches 167 = .ok (.iload 4, 2) := by decide +kernel
theorem dX7_reaches_169 : decode cX7_reaches 169 = .ok (.iaload, 1) := by decide +kernel
theorem dX7_reaches_170 : decode cX7_reaches 170 = .ok (.iload_n 3, 1) := by decide +kernel
theorem dX7_reaches_171 : decode cX7_reaches 171 = .ok (.if_icmp .ne 86, 3) := by decide +kernel
theorem dX7_reaches_174 : decode cX7_reaches 174 = .ok (.aload_n 0, 1) := by decide +kernel
theorem dX7_reaches_175 : decode cX7_reaches 175 = .ok (.getfield 7, 3) := by decide +kernel
theorem dX7_reaches_178 : decode cX7_reaches 178 = .ok (.sipush 800, 3) := by decide +kernel
theorem dX7_reaches_181 : decode cX7_reaches 181 = .ok (.iload 4, 2) := by decide +kernel
theorem dX7_reaches_183 : decode cX7_reaches 183 = .ok (.iadd, 1) := by decide +kernel
theorem dX7_reaches_184 : decode cX7_reaches 184 = .ok (.iload 5, 2) := by decide +kernel
theorem dX7_reaches_186 : decode cX7_reaches 186 = .ok (.iadd, 1) := by decide +kernel
theorem dX7_reaches_187 : decode cX7_reaches 187 = .ok (.iaload, 1) := by decide +kernel
theorem dX7_reaches_188 : decode cX7_reaches 188 = .ok (.iconst (-1), 1) := by decide +kernel
theorem dX7_reaches_189 : decode cX7_reaches 189 = .ok (.if_icmp .ne 7, 3) := by decide +kernel
theorem dX7_reaches_192 : decode cX7_reaches 192 = .ok (.iconst (-1), 1) := by decide +kernel
theorem dX7_reaches_193 : decode cX7_reaches 193 = .ok (.goto 21, 3) := by decide +kernel
theorem dX7_reaches_196 : decode cX7_reaches 196 = .ok (.aload_n 0, 1) := by decide +kernel
theorem dX7_reaches_197 : decode cX7_reaches 197 = .ok (.aload_n 0, 1) := by decide +kernel
theorem dX7_reaches_198 : decode cX7_reaches 198 = .ok (.getfield 7, 3) := by decide +kernel
theorem dX7_reaches_201 : decode cX7_reaches 201 = .ok (.sipush 800, 3) := by decide +kernel
theorem dX7_reaches_204 : decode cX7_reaches 204 = .ok (.iload 4, 2) := by decide +kernel
theorem dX7_reaches_206 : decode cX7_reaches 206 = .ok (.iadd, 1) := by decide +kernel
theorem dX7_reaches_207 : decode cX7_reaches 207 = .ok (.iload 5, 2) := by decide +kernel
theorem dX7_reaches_209 : decode cX7_reaches 209 = .ok (.iadd, 1) := by decide +kernel
theorem dX7_reaches_210 : decode cX7_reaches 210 = .ok (.iaload, 1) := by decide +kernel
theorem dX7_reaches_211 : decode cX7_reaches 211 = .ok (.invokevirtual 51, 3) := by decide +kernel
theorem dX7_reaches_214 : decode cX7_reaches 214 = .ok (.istore 6, 2) := by decide +kernel
theorem dX7_reaches_216 : decode cX7_reaches 216 = .ok (.iload 6, 2) := by decide +kernel
theorem dX7_reaches_218 : decode cX7_reaches 218 = .ok (.iconst (-1), 1) := by decide +kernel
theorem dX7_reaches_219 : decode cX7_reaches 219 = .ok (.if_icmp .eq 32, 3) := by decide +kernel
theorem dX7_reaches_222 : decode cX7_reaches 222 = .ok (.iload 6, 2) := by decide +kernel
theorem dX7_reaches_224 : decode cX7_reaches 224 = .ok (.iload_n 1, 1) := by decide +kernel
theorem dX7_reaches_225 : decode cX7_reaches 225 = .ok (.if_icmp .eq 26, 3) := by decide +kernel
theorem dX7_reaches_228 : decode cX7_reaches 228 = .ok (.aload_n 0, 1) := by decide +kernel
theorem dX7_reaches_229 : decode cX7_reaches 229 = .ok (.getfield 30, 3) := by decide +kernel
theorem dX7_reaches_232 : decode cX7_reaches 232 = .ok (.iload 6, 2) := by decide +kernel
theorem dX7_reaches_234 : decode cX7_reaches 234 = .ok (.iaload, 1) := by decide +kernel
theorem dX7_reaches_235 : decode cX7_reaches 235 = .ok (.iconst (-1), 1) := by decide +kernel
theorem dX7_reaches_236 : decode cX7_reaches 236 = .ok (.if_icmp .ne 15, 3) := by decide +kernel
theorem dX7_reaches_239 : decode cX7_reaches 239 = .ok (.aload_n 0, 1) := by decide +kernel
theorem dX7_reaches_240 : decode cX7_reaches 240 = .ok (.getfield 30, 3) := by decide +kernel
theorem dX7_reaches_243 : decode cX7_reaches 243 = .ok (.iload 6, 2) := by decide +kernel
theorem dX7_reaches_245 : decode cX7_reaches 245 = .ok (.iload_n 3, 1) := by decide +kernel
theorem dX7_reaches_246 : decode cX7_reaches 246 = .ok (.iconst 1, 1) := by decide +kernel
theorem dX7_reaches_247 : decode cX7_reaches 247 = .ok (.iadd, 1) := by decide +kernel
theorem dX7_reaches_248 : decode cX7_reaches 248 = .ok (.iastore, 1) := by decide +kernel
theorem dX7_reaches_249 : decode cX7_reaches 249 = .ok (.iconst 1, 1) := by decide +kernel
theorem dX7_reaches_250 : decode cX7_reaches 250 = .ok (.istore_n 2, 1) := by decide +kernel
theorem dX7_reaches_251 : decode cX7_reaches 251 = .ok (.iinc 5 1, 3) := by decide +kernel
theorem dX7_reaches_254 : decode cX7_reaches 254 = .ok (.goto (-119), 3) := by decide +kernel
theorem dX7_reaches_257 : decode cX7_reaches 257 = .ok (.iinc 4 1, 3) := by decide +kernel
theorem dX7_reaches_260 : decode cX7_reaches 260 = .ok (.goto (-141), 3) := by decide +kernel
theorem dX7_reaches_263 : decode cX7_reaches 263 = .ok (.iinc 3 1, 3) := by decide +kernel
theorem dX7_reaches_266 : decode cX7_reaches 266 = .ok (.goto (-156), 3) := by decide +kernel
theorem dX7_reaches_269 : decode cX7_reaches 269 = .ok (.return_, 1) := by decide +kernel
theorem dX7_reachedWords_0 : decode cX7_reachedWords 0 = .ok (.iconst 0, 1) := by decide +kernel
theorem dX7_reachedWords_1 : decode cX7_reachedWords 1 = .ok (.istore_n 1, 1) := by decide +kernel
theorem dX7_reachedWords_2 : decode cX7_reachedWords 2 = .ok (.iconst 0, 1) := by decide +kernel
theorem dX7_reachedWords_3 : decode cX7_reachedWords 3 = .ok (.istore_n 2, 1) := by decide +kernel
theorem dX7_reachedWords_4 : decode cX7_reachedWords 4 = .ok (.iload_n 2, 1) := by decide +kernel
theorem dX7_reachedWords_5 : decode cX7_reachedWords 5 = .ok (.aload_n 0, 1) := by decide +kernel
theorem dX7_reachedWords_6 : decode cX7_reachedWords 6 = .ok (.getfield 7, 3) := by decide +kernel
theorem dX7_reachedWords_9 : decode cX7_reachedWords 9 = .ok (.sipush 1216, 3) := by decide +kernel
theorem dX7_reachedWords_12 : decode cX7_reachedWords 12 = .ok (.iaload, 1) := by decide +kernel
theorem dX7_reachedWords_13 : decode cX7_reachedWords 13 = .ok (.if_icmp .ge 34, 3) := by decide +kernel
theorem dX7_reachedWords_16 : decode cX7_reachedWords 16 = .ok (.iload_n 1, 1) := by decide +kernel
theorem dX7_reachedWords_17 : decode cX7_reachedWords 17 = .ok (.aload_n 0, 1) := by decide +kernel
theorem dX7_reachedWords_18 : decode cX7_reachedWords 18 = .ok (.getfield 30, 3) := by decide +kernel
theorem dX7_reachedWords_21 : decode cX7_reachedWords 21 = .ok (.iload_n 2, 1) := by decide +kernel
theorem dX7_reachedWords_22 : decode cX7_reachedWords 22 = .ok (.iaload, 1) := by decide +kernel
theorem dX7_reachedWords_23 : decode cX7_reachedWords 23 = .ok (.iconst (-1), 1) := by decide +kernel
theorem dX7_reachedWords_24 : decode cX7_reachedWords 24 = .ok (.if_icmp .eq 14, 3) := by decide +kernel
theorem dX7_reachedWords_27 : decode cX7_reachedWords 27 = .ok (.aload_n 0, 1) := by decide +kernel
theorem dX7_reachedWords_28 : decode cX7_reachedWords 28 = .ok (.getfield 7, 3) := by decide +kernel
theorem dX7_reachedWords_31 : decode cX7_reachedWords 31 = .ok (.iconst 0, 1) := by decide +kernel
theorem dX7_reachedWords_32 : decode cX7_reachedWords 32 = .ok (.iload_n 2, 1) := by decide +kernel
theorem dX7_reachedWords_33 : decode cX7_reachedWords 33 = .ok (.iadd, 1) := by decide +kernel
theorem dX7_reachedWords_34 : decode cX7_reachedWords 34 = .ok (.iaload, 1) := by decide +kernel
theorem dX7_reachedWords_35 : decode cX7_reachedWords 35 = .ok (.goto 4, 3) := by decide +kernel
theorem dX7_reachedWords_38 : decode cX7_reachedWords 38 = .ok (.iconst 0, 1) := by decide +kernel
theorem dX7_reachedWords_39 : decode cX7_reachedWords 39 = .ok (.iadd, 1) := by decide +kernel
theorem dX7_reachedWords_40 : decode cX7_reachedWords 40 = .ok (.istore_n 1, 1) := by decide +kernel
theorem dX7_reachedWords_41 : decode cX7_reachedWords 41 = .ok (.iinc 2 1, 3) := by decide +kernel
theorem dX7_reachedWords_44 : decode cX7_reachedWords 44 = .ok (.goto (-40), 3) := by decide +kernel
theorem dX7_reachedWords_47 : decode cX7_reachedWords 47 = .ok (.iload_n 1, 1) := by decide +kernel
theorem dX7_reachedWords_48 : decode cX7_reachedWords 48 = .ok (.ireturn, 1) := by decide +kernel
theorem dX7_object_0 : decode cX7_object 0 = .ok (.aload_n 0, 1) := by decide +kernel
theorem dX7_object_1 : decode cX7_object 1 = .ok (.iload_n 1, 1) := by decide +kernel
theorem dX7_object_2 : decode cX7_object 2 = .ok (.invokevirtual 51, 3) := by decide +kernel
theorem dX7_object_5 : decode cX7_object 5 = .ok (.istore_n 3, 1) := by decide +kernel
theorem dX7_object_6 : decode cX7_object 6 = .ok (.iload_n 3, 1) := by decide +kernel
theorem dX7_object_7 : decode cX7_object 7 = .ok (.iconst (-1), 1) := by decide +kernel
theorem dX7_object_8 : decode cX7_object 8 = .ok (.if_icmp .eq 13, 3) := by decide +kernel
theorem dX7_object_11 : decode cX7_object 11 = .ok (.iload_n 2, 1) := by decide +kernel
theorem dX7_object_12 : decode cX7_object 12 = .ok (.iconst 0, 1) := by decide +kernel
theorem dX7_object_13 : decode cX7_object 13 = .ok (.bipush 7, 2) := by decide +kernel
theorem dX7_object_15 : decode cX7_object 15 = .ok (.invokestatic 46, 3) := by decide +kernel
theorem dX7_object_18 : decode cX7_object 18 = .ok (.ifCond .ne 6, 3) := by decide +kernel
theorem dX7_object_21 : decode cX7_object 21 = .ok (.ldc 50, 2) := by decide +kernel
theorem dX7_object_23 : decode cX7_object 23 = .ok (.ireturn, 1) := by decide +kernel
theorem dX7_object_24 : decode cX7_object 24 = .ok (.iload_n 2, 1) := by decide +kernel
theorem dX7_object_25 : decode cX7_object 25 = .ok (.tableswitch 99 0 6 #[43, 45, 54, 65, 71, 82, 93], 43) := by decide +kernel
theorem dX7_object_68 : decode cX7_object 68 = .ok (.iload_n 3, 1) := by decide +kernel
theorem dX7_object_69 : decode cX7_object 69 = .ok (.ireturn, 1) := by decide +kernel
theorem dX7_object_70 : decode cX7_object 70 = .ok (.aload_n 0, 1) := by decide +kernel
theorem dX7_object_71 : decode cX7_object 71 = .ok (.getfield 7, 3) := by decide +kernel
theorem dX7_object_74 : decode cX7_object 74 = .ok (.iconst 0, 1) := by decide +kernel
theorem dX7_object_75 : decode cX7_object 75 = .ok (.iload_n 3, 1) := by decide +kernel
theorem dX7_object_76 : decode cX7_object 76 = .ok (.iadd, 1) := by decide +kernel
theorem dX7_object_77 : decode cX7_object 77 = .ok (.iaload, 1) := by decide +kernel
theorem dX7_object_78 : decode cX7_object 78 = .ok (.ireturn, 1) := by decide +kernel
theorem dX7_object_79 : decode cX7_object 79 = .ok (.aload_n 0, 1) := by decide +kernel
theorem dX7_object_80 : decode cX7_object 80 = .ok (.getfield 7, 3) := by decide +kernel
theorem dX7_object_83 : decode cX7_object 83 = .ok (.sipush 200, 3) := by decide +kernel
theorem dX7_object_86 : decode cX7_object 86 = .ok (.iload_n 3, 1) := by decide +kernel
theorem dX7_object_87 : decode cX7_object 87 = .ok (.iadd, 1) := by decide +kernel
theorem dX7_object_88 : decode cX7_object 88 = .ok (.iaload, 1) := by decide +kernel
theorem dX7_object_89 : decode cX7_object 89 = .ok (.ireturn, 1) := by decide +kernel
theorem dX7_object_90 : decode cX7_object 90 = .ok (.aload_n 0, 1) := by decide +kernel
theorem dX7_object_91 : decode cX7_object 91 = .ok (.iload_n 3, 1) := by decide +kernel
theorem dX7_object_92 : decode cX7_object 92 = .ok (.invokevirtual 63, 3) := by decide +kernel
theorem dX7_object_95 : decode cX7_object 95 = .ok (.ireturn, 1) := by decide +kernel
theorem dX7_object_96 : decode cX7_object 96 = .ok (.aload_n 0, 1) := by decide +kernel
theorem dX7_object_97 : decode cX7_object 97 = .ok (.getfield 7, 3) := by decide +kernel
theorem dX7_object_100 : decode cX7_object 100 = .ok (.sipush 400, 3) := by decide +kernel
theorem dX7_object_103 : decode cX7_object 103 = .ok (.iload_n 3, 1) := by decide +kernel
theorem dX7_object_104 : decode cX7_object 104 = .ok (.iadd, 1) := by decide +kernel
theorem dX7_object_105 : decode cX7_object 105 = .ok (.iaload, 1) := by decide +kernel
theorem dX7_object_106 : decode cX7_object 106 = .ok (.ireturn, 1) := by decide +kernel
theorem dX7_object_107 : decode cX7_object 107 = .ok (.aload_n 0, 1) := by decide +kernel
theorem dX7_object_108 : decode cX7_object 108 = .ok (.getfield 7, 3) := by decide +kernel
theorem dX7_object_111 : decode cX7_object 111 = .ok (.sipush 600, 3) := by decide +kernel
theorem dX7_object_114 : decode cX7_object 114 = .ok (.iload_n 3, 1) := by decide +kernel
theorem dX7_object_115 : decode cX7_object 115 = .ok (.iadd, 1) := by decide +kernel
theorem dX7_object_116 : decode cX7_object 116 = .ok (.iaload, 1) := by decide +kernel
theorem dX7_object_117 : decode cX7_object 117 = .ok (.ireturn, 1) := by decide +kernel
theorem dX7_object_118 : decode cX7_object 118 = .ok (.aload_n 0, 1) := by decide +kernel
theorem dX7_object_119 : decode cX7_object 119 = .ok (.iload_n 3, 1) := by decide +kernel
theorem dX7_object_120 : decode cX7_object 120 = .ok (.invokevirtual 66, 3) := by decide +kernel
theorem dX7_object_123 : decode cX7_object 123 = .ok (.ireturn, 1) := by decide +kernel
theorem dX7_object_124 : decode cX7_object 124 = .ok (.aload_n 0, 1) := by decide +kernel
theorem dX7_object_125 : decode cX7_object 125 = .ok (.iconst (-1), 1) := by decide +kernel
theorem dX7_object_126 : decode cX7_object 126 = .ok (.invokevirtual 69, 3) := by decide +kernel
theorem dX7_object_129 : decode cX7_object 129 = .ok (.aload_n 0, 1) := by decide +kernel
theorem dX7_object_130 : decode cX7_object 130 = .ok (.getfield 30, 3) := by decide +kernel
theorem dX7_object_133 : decode cX7_object 133 = .ok (.iload_n 3, 1) := by decide +kernel
theorem dX7_object_134 : decode cX7_object 134 = .ok (.iaload, 1) := by decide +kernel
theorem dX7_object_135 : decode cX7_object 135 = .ok (.iconst (-1), 1) := by decide +kernel
theorem dX7_object_136 : decode cX7_object 136 = .ok (.if_icmp .eq 7, 3) := by decide +kernel
theorem dX7_object_139 : decode cX7_object 139 = .ok (.iconst 1, 1) := by decide +kernel
theorem dX7_object_140 : decode cX7_object 140 = .ok (.goto 4, 3) := by decide +kernel
theorem dX7_object_143 : decode cX7_object 143 = .ok (.iconst 0, 1) := by decide +kernel
theorem dX7_object_144 : decode cX7_object 144 = .ok (.ireturn, 1) := by decide +kernel
theorem dX7_objectFrom_0 : decode cX7_objectFrom 0 = .ok (.iload_n 1, 1) := by decide +kernel
theorem dX7_objectFrom_1 : decode cX7_objectFrom 1 = .ok (.istore_n 2, 1) := by decide +kernel
theorem dX7_objectFrom_2 : decode cX7_objectFrom 2 = .ok (.iload_n 2, 1) := by decide +kernel
theorem dX7_objectFrom_3 : decode cX7_objectFrom 3 = .ok (.aload_n 0, 1) := by decide +kernel
theorem dX7_objectFrom_4 : decode cX7_objectFrom 4 = .ok (.getfield 7, 3) := by decide +kernel
theorem dX7_objectFrom_7 : decode cX7_objectFrom 7 = .ok (.sipush 1216, 3) := by decide +kernel
theorem dX7_objectFrom_10 : decode cX7_objectFrom 10 = .ok (.iaload, 1) := by decide +kernel
theorem dX7_objectFrom_11 : decode cX7_objectFrom 11 = .ok (.if_icmp .ge 22, 3) := by decide +kernel
theorem dX7_objectFrom_14 : decode cX7_objectFrom 14 = .ok (.aload_n 0, 1) := by decide +kernel
theorem dX7_objectFrom_15 : decode cX7_objectFrom 15 = .ok (.getfield 7, 3) := by decide +kernel
theorem dX7_objectFrom_18 : decode cX7_objectFrom 18 = .ok (.iconst 0, 1) := by decide +kernel
theorem dX7_objectFrom_19 : decode cX7_objectFrom 19 = .ok (.iload_n 2, 1) := by decide +kernel
theorem dX7_objectFrom_20 : decode cX7_objectFrom 20 = .ok (.iadd, 1) := by decide +kernel
theorem dX7_objectFrom_21 : decode cX7_objectFrom 21 = .ok (.iaload, 1) := by decide +kernel
theorem dX7_objectFrom_22 : decode cX7_objectFrom 22 = .ok (.ifCond .le 5, 3) := by decide +kernel
theorem dX7_objectFrom_25 : decode cX7_objectFrom 25 = .ok (.iload_n 2, 1) := by decide +kernel
theorem dX7_objectFrom_26 : decode cX7_objectFrom 26 = .ok (.ireturn, 1) := by decide +kernel
theorem dX7_objectFrom_27 : decode cX7_objectFrom 27 = .ok (.iinc 2 1, 3) := by decide +kernel
theorem dX7_objectFrom_30 : decode cX7_objectFrom 30 = .ok (.goto (-28), 3) := by decide +kernel
theorem dX7_objectFrom_33 : decode cX7_objectFrom 33 = .ok (.iconst (-1), 1) := by decide +kernel
theorem dX7_objectFrom_34 : decode cX7_objectFrom 34 = .ok (.ireturn, 1) := by decide +kernel
theorem dX7_next_0 : decode cX7_next 0 = .ok (.iload_n 1, 1) := by decide +kernel
theorem dX7_next_1 : decode cX7_next 1 = .ok (.iconst (-1), 1) := by decide +kernel
theorem dX7_next_2 : decode cX7_next 2 = .ok (.if_icmp .ne 9, 3) := by decide +kernel
theorem dX7_next_5 : decode cX7_next 5 = .ok (.aload_n 0, 1) := by decide +kernel
theorem dX7_next_6 : decode cX7_next 6 = .ok (.iconst 0, 1) := by decide +kernel
theorem dX7_next_7 : decode cX7_next 7 = .ok (.invokevirtual 73, 3) := by decide +kernel
theorem dX7_next_10 : decode cX7_next 10 = .ok (.ireturn, 1) := by decide +kernel
theorem dX7_next_11 : decode cX7_next 11 = .ok (.aload_n 0, 1) := by decide +kernel
theorem dX7_next_12 : decode cX7_next 12 = .ok (.iload_n 1, 1) := by decide +kernel
theorem dX7_next_13 : decode cX7_next 13 = .ok (.invokevirtual 51, 3) := by decide +kernel
theorem dX7_next_16 : decode cX7_next 16 = .ok (.istore_n 2, 1) := by decide +kernel
theorem dX7_next_17 : decode cX7_next 17 = .ok (.iload_n 2, 1) := by decide +kernel
theorem dX7_next_18 : decode cX7_next 18 = .ok (.iconst (-1), 1) := by decide +kernel
theorem dX7_next_19 : decode cX7_next 19 = .ok (.if_icmp .ne 8, 3) := by decide +kernel
theorem dX7_next_22 : decode cX7_next 22 = .ok (.ldc 50, 2) := by decide +kernel
theorem dX7_next_24 : decode cX7_next 24 = .ok (.goto 10, 3) := by decide +kernel
theorem dX7_next_27 : decode cX7_next 27 = .ok (.aload_n 0, 1) := by decide +kernel
theorem dX7_next_28 : decode cX7_next 28 = .ok (.iload_n 2, 1) := by decide +kernel
theorem dX7_next_29 : decode cX7_next 29 = .ok (.iconst 1, 1) := by decide +kernel
theorem dX7_next_30 : decode cX7_next 30 = .ok (.iadd, 1) := by decide +kernel
theorem dX7_next_31 : decode cX7_next 31 = .ok (.invokevirtual 73, 3) := by decide +kernel
theorem dX7_next_34 : decode cX7_next 34 = .ok (.ireturn, 1) := by decide +kernel
theorem dX7_setField_0 : decode cX7_setField 0 = .ok (.aload_n 0, 1) := by decide +kernel
theorem dX7_setField_1 : decode cX7_setField 1 = .ok (.iload_n 1, 1) := by decide +kernel
theorem dX7_setField_2 : decode cX7_setField 2 = .ok (.invokevirtual 51, 3) := by decide +kernel
theorem dX7_setField_5 : decode cX7_setField 5 = .ok (.istore 4, 2) := by decide +kernel
theorem dX7_setField_7 : decode cX7_setField 7 = .ok (.iload 4, 2) := by decide +kernel
theorem dX7_setField_9 : decode cX7_setField 9 = .ok (.iconst (-1), 1) := by decide +kernel
theorem dX7_setField_10 : decode cX7_setField 10 = .ok (.if_icmp .eq 32, 3) := by decide +kernel
theorem dX7_setField_13 : decode cX7_setField 13 = .ok (.iload_n 2, 1) := by decide +kernel
theorem dX7_setField_14 : decode cX7_setField 14 = .ok (.iconst 0, 1) := by decide +kernel
theorem dX7_setField_15 : decode cX7_setField 15 = .ok (.aload_n 0, 1) := by decide +kernel
theorem dX7_setField_16 : decode cX7_setField 16 = .ok (.getfield 7, 3) := by decide +kernel
theorem dX7_setField_19 : decode cX7_setField 19 = .ok (.sipush 200, 3) := by decide +kernel
theorem dX7_setField_22 : decode cX7_setField 22 = .ok (.iload 4, 2) := by decide +kernel
theorem dX7_setField_24 : decode cX7_setField 24 = .ok (.iadd, 1) := by decide +kernel
theorem dX7_setField_25 : decode cX7_setField 25 = .ok (.iaload, 1) := by decide +kernel
theorem dX7_setField_26 : decode cX7_setField 26 = .ok (.iconst 1, 1) := by decide +kernel
theorem dX7_setField_27 : decode cX7_setField 27 = .ok (.isub, 1) := by decide +kernel
theorem dX7_setField_28 : decode cX7_setField 28 = .ok (.invokestatic 46, 3) := by decide +kernel
theorem dX7_setField_31 : decode cX7_setField 31 = .ok (.ifCond .eq 11, 3) := by decide +kernel
theorem dX7_setField_34 : decode cX7_setField 34 = .ok (.aload_n 0, 1) := by decide +kernel
theorem dX7_setField_35 : decode cX7_setField 35 = .ok (.iload_n 3, 1) := by decide +kernel
theorem dX7_setField_36 : decode cX7_setField 36 = .ok (.invokevirtual 76, 3) := by decide +kernel
theorem dX7_setField_39 : decode cX7_setField 39 = .ok (.ifCond .ne 6, 3) := by decide +kernel
theorem dX7_setField_42 : decode cX7_setField 42 = .ok (.ldc 50, 2) := by decide +kernel
theorem dX7_setField_44 : decode cX7_setField 44 = .ok (.ireturn, 1) := by decide +kernel
theorem dX7_setField_45 : decode cX7_setField 45 = .ok (.aload_n 0, 1) := by decide +kernel
theorem dX7_setField_46 : decode cX7_setField 46 = .ok (.getfield 7, 3) := by decide +kernel
theorem dX7_setField_49 : decode cX7_setField 49 = .ok (.sipush 800, 3) := by decide +kernel
theorem dX7_setField_52 : decode cX7_setField 52 = .ok (.iload 4, 2) := by decide +kernel
theorem dX7_setField_54 : decode cX7_setField 54 = .ok (.iadd, 1) := by decide +kernel
theorem dX7_setField_55 : decode cX7_setField 55 = .ok (.iconst 1, 1) := by decide +kernel
theorem dX7_setField_56 : decode cX7_setField 56 = .ok (.iadd, 1) := by decide +kernel
theorem dX7_setField_57 : decode cX7_setField 57 = .ok (.iload_n 2, 1) := by decide +kernel
theorem dX7_setField_58 : decode cX7_setField 58 = .ok (.iadd, 1) := by decide +kernel
theorem dX7_setField_59 : decode cX7_setField 59 = .ok (.iaload, 1) := by decide +kernel
theorem dX7_setField_60 : decode cX7_setField 60 = .ok (.istore 5, 2) := by decide +kernel
theorem dX7_setField_62 : decode cX7_setField 62 = .ok (.aload_n 0, 1) := by decide +kernel
theorem dX7_setField_63 : decode cX7_setField 63 = .ok (.getfield 7, 3) := by decide +kernel
theorem dX7_setField_66 : decode cX7_setField 66 = .ok (.sipush 800, 3) := by decide +kernel
theorem dX7_setField_69 : decode cX7_setField 69 = .ok (.iload 4, 2) := by decide +kernel
theorem dX7_setField_71 : decode cX7_setField 71 = .ok (.iadd, 1) := by decide +kernel
theorem dX7_setField_72 : decode cX7_setField 72 = .ok (.iconst 1, 1) := by decide +kernel
theorem dX7_setField_73 : decode cX7_setField 73 = .ok (.iadd, 1) := by decide +kernel
theorem dX7_setField_74 : decode cX7_setField 74 = .ok (.iload_n 2, 1) := by decide +kernel
theorem dX7_setField_75 : decode cX7_setField 75 = .ok (.iadd, 1) := by decide +kernel
theorem dX7_setField_76 : decode cX7_setField 76 = .ok (.iload_n 3, 1) := by decide +kernel
theorem dX7_setField_77 : decode cX7_setField 77 = .ok (.iastore, 1) := by decide +kernel
theorem dX7_setField_78 : decode cX7_setField 78 = .ok (.iload 5, 2) := by decide +kernel
theorem dX7_setField_80 : decode cX7_setField 80 = .ok (.ireturn, 1) := by decide +kernel
theorem dX7_field_0 : decode cX7_field 0 = .ok (.aload_n 0, 1) := by decide +kernel
theorem dX7_field_1 : decode cX7_field 1 = .ok (.iload_n 1, 1) := by decide +kernel
theorem dX7_field_2 : decode cX7_field 2 = .ok (.invokevirtual 51, 3) := by decide +kernel
theorem dX7_field_5 : decode cX7_field 5 = .ok (.istore_n 3, 1) := by decide +kernel
theorem dX7_field_6 : decode cX7_field 6 = .ok (.iload_n 3, 1) := by decide +kernel
theorem dX7_field_7 : decode cX7_field 7 = .ok (.iconst (-1), 1) := by decide +kernel
theorem dX7_field_8 : decode cX7_field 8 = .ok (.if_icmp .eq 23, 3) := by decide +kernel
theorem dX7_field_11 : decode cX7_field 11 = .ok (.iload_n 2, 1) := by decide +kernel
theorem dX7_field_12 : decode cX7_field 12 = .ok (.iconst 0, 1) := by decide +kernel
theorem dX7_field_13 : decode cX7_field 13 = .ok (.aload_n 0, 1) := by decide +kernel
theorem dX7_field_14 : decode cX7_field 14 = .ok (.getfield 7, 3) := by decide +kernel
theorem dX7_field_17 : decode cX7_field 17 = .ok (.sipush 200, 3) := by decide +kernel
theorem dX7_field_20 : decode cX7_field 20 = .ok (.iload_n 3, 1) := by decide +kernel
theorem dX7_field_21 : decode cX7_field 21 = .ok (.iadd, 1) := by decide +kernel
theorem dX7_field_22 : decode cX7_field 22 = .ok (.iaload, 1) := by decide +kernel
theorem dX7_field_23 : decode cX7_field 23 = .ok (.iconst 1, 1) := by decide +kernel
theorem dX7_field_24 : decode cX7_field 24 = .ok (.isub, 1) := by decide +kernel
theorem dX7_field_25 : decode cX7_field 25 = .ok (.invokestatic 46, 3) := by decide +kernel
theorem dX7_field_28 : decode cX7_field 28 = .ok (.ifCond .ne 8, 3) := by decide +kernel
theorem dX7_field_31 : decode cX7_field 31 = .ok (.ldc 50, 2) := by decide +kernel
theorem dX7_field_33 : decode cX7_field 33 = .ok (.goto 17, 3) := by decide +kernel
theorem dX7_field_36 : decode cX7_field 36 = .ok (.aload_n 0, 1) := by decide +kernel
theorem dX7_field_37 : decode cX7_field 37 = .ok (.getfield 7, 3) := by decide +kernel
theorem dX7_field_40 : decode cX7_field 40 = .ok (.sipush 800, 3) := by decide +kernel
theorem dX7_field_43 : decode cX7_field 43 = .ok (.iload_n 3, 1) := by decide +kernel
theorem dX7_field_44 : decode cX7_field 44 = .ok (.iadd, 1) := by decide +kernel
theorem dX7_field_45 : decode cX7_field 45 = .ok (.iconst 1, 1) := by decide +kernel
theorem dX7_field_46 : decode cX7_field 46 = .ok (.iadd, 1) := by decide +kernel
theorem dX7_field_47 : decode cX7_field 47 = .ok (.iload_n 2, 1) := by decide +kernel
theorem dX7_field_48 : decode cX7_field 48 = .ok (.iadd, 1) := by decide +kernel
theorem dX7_field_49 : decode cX7_field 49 = .ok (.iaload, 1) := by decide +kernel
theorem dX7_field_50 : decode cX7_field 50 = .ok (.ireturn, 1) := by decide +kernel
theorem dX7_setData_0 : decode cX7_setData 0 = .ok (.aload_n 0, 1) := by decide +kernel
theorem dX7_setData_1 : decode cX7_setData 1 = .ok (.iload_n 1, 1) := by decide +kernel
theorem dX7_setData_2 : decode cX7_setData 2 = .ok (.invokevirtual 51, 3) := by decide +kernel
theorem dX7_setData_5 : decode cX7_setData 5 = .ok (.istore 4, 2) := by decide +kernel
theorem dX7_setData_7 : decode cX7_setData 7 = .ok (.iload 4, 2) := by decide +kernel
theorem dX7_setData_9 : decode cX7_setData 9 = .ok (.iconst (-1), 1) := by decide +kernel
theorem dX7_setData_10 : decode cX7_setData 10 = .ok (.if_icmp .eq 30, 3) := by decide +kernel
theorem dX7_setData_13 : decode cX7_setData 13 = .ok (.iload_n 2, 1) := by decide +kernel
theorem dX7_setData_14 : decode cX7_setData 14 = .ok (.iconst 0, 1) := by decide +kernel
theorem dX7_setData_15 : decode cX7_setData 15 = .ok (.aload_n 0, 1) := by decide +kernel
theorem dX7_setData_16 : decode cX7_setData 16 = .ok (.iload 4, 2) := by decide +kernel
theorem dX7_setData_18 : decode cX7_setData 18 = .ok (.invokevirtual 63, 3) := by decide +kernel
theorem dX7_setData_21 : decode cX7_setData 21 = .ok (.iconst 1, 1) := by decide +kernel
theorem dX7_setData_22 : decode cX7_setData 22 = .ok (.isub, 1) := by decide +kernel
theorem dX7_setData_23 : decode cX7_setData 23 = .ok (.invokestatic 46, 3) := by decide +kernel
theorem dX7_setData_26 : decode cX7_setData 26 = .ok (.ifCond .eq 14, 3) := by decide +kernel
theorem dX7_setData_29 : decode cX7_setData 29 = .ok (.iload_n 3, 1) := by decide +kernel
theorem dX7_setData_30 : decode cX7_setData 30 = .ok (.ldc 80, 2) := by decide +kernel
theorem dX7_setData_32 : decode cX7_setData 32 = .ok (.ldc 81, 2) := by decide +kernel
theorem dX7_setData_34 : decode cX7_setData 34 = .ok (.invokestatic 46, 3) := by decide +kernel
theorem dX7_setData_37 : decode cX7_setData 37 = .ok (.ifCond .ne 6, 3) := by decide +kernel
theorem dX7_setData_40 : decode cX7_setData 40 = .ok (.ldc 50, 2) := by decide +kernel
theorem dX7_setData_42 : decode cX7_setData 42 = .ok (.ireturn, 1) := by decide +kernel
theorem dX7_setData_43 : decode cX7_setData 43 = .ok (.sipush 800, 3) := by decide +kernel
theorem dX7_setData_46 : decode cX7_setData 46 = .ok (.iload 4, 2) := by decide +kernel
theorem dX7_setData_48 : decode cX7_setData 48 = .ok (.iadd, 1) := by decide +kernel
theorem dX7_setData_49 : decode cX7_setData 49 = .ok (.iconst 1, 1) := by decide +kernel
theorem dX7_setData_50 : decode cX7_setData 50 = .ok (.iadd, 1) := by decide +kernel
theorem dX7_setData_51 : decode cX7_setData 51 = .ok (.aload_n 0, 1) := by decide +kernel
theorem dX7_setData_52 : decode cX7_setData 52 = .ok (.getfield 7, 3) := by decide +kernel
theorem dX7_setData_55 : decode cX7_setData 55 = .ok (.sipush 200, 3) := by decide +kernel
theorem dX7_setData_58 : decode cX7_setData 58 = .ok (.iload 4, 2) := by decide +kernel
theorem dX7_setData_60 : decode cX7_setData 60 = .ok (.iadd, 1) := by decide +kernel
theorem dX7_setData_61 : decode cX7_setData 61 = .ok (.iaload, 1) := by decide +kernel
theorem dX7_setData_62 : decode cX7_setData 62 = .ok (.iadd, 1) := by decide +kernel
theorem dX7_setData_63 : decode cX7_setData 63 = .ok (.iload_n 2, 1) := by decide +kernel
theorem dX7_setData_64 : decode cX7_setData 64 = .ok (.iadd, 1) := by decide +kernel
theorem dX7_setData_65 : decode cX7_setData 65 = .ok (.istore 5, 2) := by decide +kernel
theorem dX7_setData_67 : decode cX7_setData 67 = .ok (.aload_n 0, 1) := by decide +kernel
theorem dX7_setData_68 : decode cX7_setData 68 = .ok (.getfield 7, 3) := by decide +kernel
theorem dX7_setData_71 : decode cX7_setData 71 = .ok (.iload 5, 2) := by decide +kernel
theorem dX7_setData_73 : decode cX7_setData 73 = .ok (.iaload, 1) := by decide +kernel
theorem dX7_setData_74 : decode cX7_setData 74 = .ok (.istore 6, 2) := by decide +kernel
theorem dX7_setData_76 : decode cX7_setData 76 = .ok (.aload_n 0, 1) := by decide +kernel
theorem dX7_setData_77 : decode cX7_setData 77 = .ok (.getfield 7, 3) := by decide +kernel
theorem dX7_setData_80 : decode cX7_setData 80 = .ok (.iload 5, 2) := by decide +kernel
theorem dX7_setData_82 : decode cX7_setData 82 = .ok (.iload_n 3, 1) := by decide +kernel
theorem dX7_setData_83 : decode cX7_setData 83 = .ok (.iastore, 1) := by decide +kernel
theorem dX7_setData_84 : decode cX7_setData 84 = .ok (.iload 6, 2) := by decide +kernel
theorem dX7_setData_86 : decode cX7_setData 86 = .ok (.ireturn, 1) := by decide +kernel
theorem dX7_data_0 : decode cX7_data 0 = .ok (.aload_n 0, 1) := by decide +kernel
theorem dX7_data_1 : decode cX7_data 1 = .ok (.iload_n 1, 1) := by decide +kernel
theorem dX7_data_2 : decode cX7_data 2 = .ok (.invokevirtual 51, 3) := by decide +kernel
theorem dX7_data_5 : decode cX7_data 5 = .ok (.istore_n 3, 1) := by decide +kernel
theorem dX7_data_6 : decode cX7_data 6 = .ok (.iload_n 3, 1) := by decide +kernel
theorem dX7_data_7 : decode cX7_data 7 = .ok (.iconst (-1), 1) := by decide +kernel
theorem dX7_data_8 : decode cX7_data 8 = .ok (.if_icmp .eq 18, 3) := by decide +kernel
theorem dX7_data_11 : decode cX7_data 11 = .ok (.iload_n 2, 1) := by decide +kernel
theorem dX7_data_12 : decode cX7_data 12 = .ok (.iconst 0, 1) := by decide +kernel
theorem dX7_data_13 : decode cX7_data 13 = .ok (.aload_n 0, 1) := by decide +kernel
theorem dX7_data_14 : decode cX7_data 14 = .ok (.iload_n 3, 1) := by decide +kernel
theorem dX7_data_15 : decode cX7_data 15 = .ok (.invokevirtual 63, 3) := by decide +kernel
theorem dX7_data_18 : decode cX7_data 18 = .ok (.iconst 1, 1) := by decide +kernel
theorem dX7_data_19 : decode cX7_data 19 = .ok (.isub, 1) := by decide +kernel
theorem dX7_data_20 : decode cX7_data 20 = .ok (.invokestatic 46, 3) := by decide +kernel
theorem dX7_data_23 : decode cX7_data 23 = .ok (.ifCond .ne 8, 3) := by decide +kernel
theorem dX7_data_26 : decode cX7_data 26 = .ok (.ldc 50, 2) := by decide +kernel
theorem dX7_data_28 : decode cX7_data 28 = .ok (.goto 28, 3) := by decide +kernel
theorem dX7_data_31 : decode cX7_data 31 = .ok (.aload_n 0, 1) := by decide +kernel
theorem dX7_data_32 : decode cX7_data 32 = .ok (.getfield 7, 3) := by decide +kernel
theorem dX7_data_35 : decode cX7_data 35 = .ok (.sipush 800, 3) := by decide +kernel
theorem dX7_data_38 : decode cX7_data 38 = .ok (.iload_n 3, 1) := by decide +kernel
theorem dX7_data_39 : decode cX7_data 39 = .ok (.iadd, 1) := by decide +kernel
theorem dX7_data_40 : decode cX7_data 40 = .ok (.iconst 1, 1) := by decide +kernel
theorem dX7_data_41 : decode cX7_data 41 = .ok (.iadd, 1) := by decide +kernel
theorem dX7_data_42 : decode cX7_data 42 = .ok (.aload_n 0, 1) := by decide +kernel
theorem dX7_data_43 : decode cX7_data 43 = .ok (.getfield 7, 3) := by decide +kernel
theorem dX7_data_46 : decode cX7_data 46 = .ok (.sipush 200, 3) := by decide +kernel
theorem dX7_data_49 : decode cX7_data 49 = .ok (.iload_n 3, 1) := by decide +kernel
theorem dX7_data_50 : decode cX7_data 50 = .ok (.iadd, 1) := by decide +kernel
theorem dX7_data_51 : decode cX7_data 51 = .ok (.iaload, 1) := by decide +kernel
theorem dX7_data_52 : decode cX7_data 52 = .ok (.iadd, 1) := by decide +kernel
theorem dX7_data_53 : decode cX7_data 53 = .ok (.iload_n 2, 1) := by decide +kernel
theorem dX7_data_54 : decode cX7_data 54 = .ok (.iadd, 1) := by decide +kernel
theorem dX7_data_55 : decode cX7_data 55 = .ok (.iaload, 1) := by decide +kernel
theorem dX7_data_56 : decode cX7_data 56 = .ok (.ireturn, 1) := by decide +kernel
theorem dX7_many_0 : decode cX7_many 0 = .ok (.iconst 0, 1) := by decide +kernel
theorem dX7_many_1 : decode cX7_many 1 = .ok (.istore_n 2, 1) := by decide +kernel
theorem dX7_many_2 : decode cX7_many 2 = .ok (.iconst 0, 1) := by decide +kernel
theorem dX7_many_3 : decode cX7_many 3 = .ok (.istore_n 3, 1) := by decide +kernel
theorem dX7_many_4 : decode cX7_many 4 = .ok (.iload_n 3, 1) := by decide +kernel
theorem dX7_many_5 : decode cX7_many 5 = .ok (.aload_n 0, 1) := by decide +kernel
theorem dX7_many_6 : decode cX7_many 6 = .ok (.getfield 7, 3) := by decide +kernel
theorem dX7_many_9 : decode cX7_many 9 = .ok (.sipush 1216, 3) := by decide +kernel
theorem dX7_many_12 : decode cX7_many 12 = .ok (.iaload, 1) := by decide +kernel
theorem dX7_many_13 : decode cX7_many 13 = .ok (.if_icmp .ge 46, 3) := by decide +kernel
theorem dX7_many_16 : decode cX7_many 16 = .ok (.iload_n 2, 1) := by decide +kernel
theorem dX7_many_17 : decode cX7_many 17 = .ok (.aload_n 0, 1) := by decide +kernel
theorem dX7_many_18 : decode cX7_many 18 = .ok (.getfield 7, 3) := by decide +kernel
theorem dX7_many_21 : decode cX7_many 21 = .ok (.iconst 0, 1) := by decide +kernel
theorem dX7_many_22 : decode cX7_many 22 = .ok (.iload_n 3, 1) := by decide +kernel
theorem dX7_many_23 : decode cX7_many 23 = .ok (.iadd, 1) := by decide +kernel
theorem dX7_many_24 : decode cX7_many 24 = .ok (.iaload, 1) := by decide +kernel
theorem dX7_many_25 : decode cX7_many 25 = .ok (.ifCond .le 25, 3) := by decide +kernel
theorem dX7_many_28 : decode cX7_many 28 = .ok (.iload_n 1, 1) := by decide +kernel
theorem dX7_many_29 : decode cX7_many 29 = .ok (.ifCond .eq 17, 3) := by decide +kernel
theorem dX7_many_32 : decode cX7_many 32 = .ok (.aload_n 0, 1) := by decide +kernel
theorem dX7_many_33 : decode cX7_many 33 = .ok (.getfield 7, 3) := by decide +kernel
theorem dX7_many_36 : decode cX7_many 36 = .ok (.sipush 400, 3) := by decide +kernel
theorem dX7_many_39 : decode cX7_many 39 = .ok (.iload_n 3, 1) := by decide +kernel
theorem dX7_many_40 : decode cX7_many 40 = .ok (.iadd, 1) := by decide +kernel
theorem dX7_many_41 : decode cX7_many 41 = .ok (.iaload, 1) := by decide +kernel
theorem dX7_many_42 : decode cX7_many 42 = .ok (.iconst 1, 1) := by decide +kernel
theorem dX7_many_43 : decode cX7_many 43 = .ok (.if_icmp .ne 7, 3) := by decide +kernel
theorem dX7_many_46 : decode cX7_many 46 = .ok (.iconst 1, 1) := by decide +kernel
theorem dX7_many_47 : decode cX7_many 47 = .ok (.goto 4, 3) := by decide +kernel
theorem dX7_many_50 : decode cX7_many 50 = .ok (.iconst 0, 1) := by decide +kernel
theorem dX7_many_51 : decode cX7_many 51 = .ok (.iadd, 1) := by decide +kernel
theorem dX7_many_52 : decode cX7_many 52 = .ok (.istore_n 2, 1) := by decide +kernel
theorem dX7_many_53 : decode cX7_many 53 = .ok (.iinc 3 1, 3) := by decide +kernel
theorem dX7_many_56 : decode cX7_many 56 = .ok (.goto (-52), 3) := by decide +kernel
theorem dX7_many_59 : decode cX7_many 59 = .ok (.iload_n 2, 1) := by decide +kernel
theorem dX7_many_60 : decode cX7_many 60 = .ok (.ireturn, 1) := by decide +kernel
theorem dX7_pin_0 : decode cX7_pin 0 = .ok (.aload_n 0, 1) := by decide +kernel
theorem dX7_pin_1 : decode cX7_pin 1 = .ok (.iload_n 1, 1) := by decide +kernel
theorem dX7_pin_2 : decode cX7_pin 2 = .ok (.invokevirtual 51, 3) := by decide +kernel
theorem dX7_pin_5 : decode cX7_pin 5 = .ok (.istore_n 3, 1) := by decide +kernel
theorem dX7_pin_6 : decode cX7_pin 6 = .ok (.iload_n 3, 1) := by decide +kernel
theorem dX7_pin_7 : decode cX7_pin 7 = .ok (.iconst (-1), 1) := by decide +kernel
theorem dX7_pin_8 : decode cX7_pin 8 = .ok (.if_icmp .ne 6, 3) := by decide +kernel
theorem dX7_pin_11 : decode cX7_pin 11 = .ok (.ldc 50, 2) := by decide +kernel
theorem dX7_pin_13 : decode cX7_pin 13 = .ok (.ireturn, 1) := by decide +kernel
theorem dX7_pin_14 : decode cX7_pin 14 = .ok (.aload_n 0, 1) := by decide +kernel
theorem dX7_pin_15 : decode cX7_pin 15 = .ok (.getfield 7, 3) := by decide +kernel
theorem dX7_pin_18 : decode cX7_pin 18 = .ok (.sipush 400, 3) := by decide +kernel
theorem dX7_pin_21 : decode cX7_pin 21 = .ok (.iload_n 3, 1) := by decide +kernel
theorem dX7_pin_22 : decode cX7_pin 22 = .ok (.iadd, 1) := by decide +kernel
theorem dX7_pin_23 : decode cX7_pin 23 = .ok (.iaload, 1) := by decide +kernel
theorem dX7_pin_24 : decode cX7_pin 24 = .ok (.iload_n 2, 1) := by decide +kernel
theorem dX7_pin_25 : decode cX7_pin 25 = .ok (.ifCond .eq 7, 3) := by decide +kernel
theorem dX7_pin_28 : decode cX7_pin 28 = .ok (.iconst 1, 1) := by decide +kernel
theorem dX7_pin_29 : decode cX7_pin 29 = .ok (.goto 4, 3) := by decide +kernel
theorem dX7_pin_32 : decode cX7_pin 32 = .ok (.iconst 0, 1) := by decide +kernel
theorem dX7_pin_33 : decode cX7_pin 33 = .ok (.if_icmp .ne 6, 3) := by decide +kernel
theorem dX7_pin_36 : decode cX7_pin 36 = .ok (.ldc 82, 2) := by decide +kernel
theorem dX7_pin_38 : decode cX7_pin 38 = .ok (.ireturn, 1) := by decide +kernel
theorem dX7_pin_39 : decode cX7_pin 39 = .ok (.aload_n 0, 1) := by decide +kernel
theorem dX7_pin_40 : decode cX7_pin 40 = .ok (.getfield 7, 3) := by decide +kernel
theorem dX7_pin_43 : decode cX7_pin 43 = .ok (.sipush 400, 3) := by decide +kernel
theorem dX7_pin_46 : decode cX7_pin 46 = .ok (.iload_n 3, 1) := by decide +kernel
theorem dX7_pin_47 : decode cX7_pin 47 = .ok (.iadd, 1) := by decide +kernel
theorem dX7_pin_48 : decode cX7_pin 48 = .ok (.iload_n 2, 1) := by decide +kernel
theorem dX7_pin_49 : decode cX7_pin 49 = .ok (.ifCond .eq 7, 3) := by decide +kernel
theorem dX7_pin_52 : decode cX7_pin 52 = .ok (.iconst 1, 1) := by decide +kernel
theorem dX7_pin_53 : decode cX7_pin 53 = .ok (.goto 4, 3) := by decide +kernel
theorem dX7_pin_56 : decode cX7_pin 56 = .ok (.iconst 0, 1) := by decide +kernel
theorem dX7_pin_57 : decode cX7_pin 57 = .ok (.iastore, 1) := by decide +kernel
theorem dX7_pin_58 : decode cX7_pin 58 = .ok (.aload_n 0, 1) := by decide +kernel
theorem dX7_pin_59 : decode cX7_pin 59 = .ok (.iconst 1, 1) := by decide +kernel
theorem dX7_pin_60 : decode cX7_pin 60 = .ok (.invokevirtual 83, 3) := by decide +kernel
theorem dX7_pin_63 : decode cX7_pin 63 = .ok (.ireturn, 1) := by decide +kernel
theorem dX7_setsSlot_0 : decode cX7_setsSlot 0 = .ok (.aload_n 0, 1) := by decide +kernel
theorem dX7_setsSlot_1 : decode cX7_setsSlot 1 = .ok (.getfield 7, 3) := by decide +kernel
theorem dX7_setsSlot_4 : decode cX7_setsSlot 4 = .ok (.iload_n 1, 1) := by decide +kernel
theorem dX7_setsSlot_5 : decode cX7_setsSlot 5 = .ok (.iaload, 1) := by decide +kernel
theorem dX7_setsSlot_6 : decode cX7_setsSlot 6 = .ok (.istore_n 3, 1) := by decide +kernel
theorem dX7_setsSlot_7 : decode cX7_setsSlot 7 = .ok (.aload_n 0, 1) := by decide +kernel
theorem dX7_setsSlot_8 : decode cX7_setsSlot 8 = .ok (.getfield 7, 3) := by decide +kernel
theorem dX7_setsSlot_11 : decode cX7_setsSlot 11 = .ok (.iload_n 1, 1) := by decide +kernel
theorem dX7_setsSlot_12 : decode cX7_setsSlot 12 = .ok (.iload_n 2, 1) := by decide +kernel
theorem dX7_setsSlot_13 : decode cX7_setsSlot 13 = .ok (.iastore, 1) := by decide +kernel
theorem dX7_setsSlot_14 : decode cX7_setsSlot 14 = .ok (.iload_n 3, 1) := by decide +kernel
theorem dX7_setsSlot_15 : decode cX7_setsSlot 15 = .ok (.ireturn, 1) := by decide +kernel
theorem dX7_setRoot_0 : decode cX7_setRoot 0 = .ok (.iload_n 1, 1) := by decide +kernel
theorem dX7_setRoot_1 : decode cX7_setRoot 1 = .ok (.iconst 0, 1) := by decide +kernel
theorem dX7_setRoot_2 : decode cX7_setRoot 2 = .ok (.iconst 5, 1) := by decide +kernel
theorem dX7_setRoot_3 : decode cX7_setRoot 3 = .ok (.invokestatic 46, 3) := by decide +kernel
theorem dX7_setRoot_6 : decode cX7_setRoot 6 = .ok (.ifCond .eq 24, 3) := by decide +kernel
theorem dX7_setRoot_9 : decode cX7_setRoot 9 = .ok (.aload_n 0, 1) := by decide +kernel
theorem dX7_setRoot_10 : decode cX7_setRoot 10 = .ok (.iload_n 2, 1) := by decide +kernel
theorem dX7_setRoot_11 : decode cX7_setRoot 11 = .ok (.invokevirtual 76, 3) := by decide +kernel
theorem dX7_setRoot_14 : decode cX7_setRoot 14 = .ok (.ifCond .eq 16, 3) := by decide +kernel
theorem dX7_setRoot_17 : decode cX7_setRoot 17 = .ok (.aload_n 0, 1) := by decide +kernel
theorem dX7_setRoot_18 : decode cX7_setRoot 18 = .ok (.sipush 1200, 3) := by decide +kernel
theorem dX7_setRoot_21 : decode cX7_setRoot 21 = .ok (.iload_n 1, 1) := by decide +kernel
theorem dX7_setRoot_22 : decode cX7_setRoot 22 = .ok (.iadd, 1) := by decide +kernel
theorem dX7_setRoot_23 : decode cX7_setRoot 23 = .ok (.iload_n 2, 1) := by decide +kernel
theorem dX7_setRoot_24 : decode cX7_setRoot 24 = .ok (.invokevirtual 87, 3) := by decide +kernel
theorem dX7_setRoot_27 : decode cX7_setRoot 27 = .ok (.goto 5, 3) := by decide +kernel
theorem dX7_setRoot_30 : decode cX7_setRoot 30 = .ok (.ldc 50, 2) := by decide +kernel
theorem dX7_setRoot_32 : decode cX7_setRoot 32 = .ok (.ireturn, 1) := by decide +kernel
theorem dX7_root_0 : decode cX7_root 0 = .ok (.iload_n 1, 1) := by decide +kernel
theorem dX7_root_1 : decode cX7_root 1 = .ok (.iconst 0, 1) := by decide +kernel
theorem dX7_root_2 : decode cX7_root 2 = .ok (.iconst 5, 1) := by decide +kernel
theorem dX7_root_3 : decode cX7_root 3 = .ok (.invokestatic 46, 3) := by decide +kernel
theorem dX7_root_6 : decode cX7_root 6 = .ok (.ifCond .eq 16, 3) := by decide +kernel
theorem dX7_root_9 : decode cX7_root 9 = .ok (.aload_n 0, 1) := by decide +kernel
theorem dX7_root_10 : decode cX7_root 10 = .ok (.getfield 7, 3) := by decide +kernel
theorem dX7_root_13 : decode cX7_root 13 = .ok (.sipush 1200, 3) := by decide +kernel
theorem dX7_root_16 : decode cX7_root 16 = .ok (.iload_n 1, 1) := by decide +kernel
theorem dX7_root_17 : decode cX7_root 17 = .ok (.iadd, 1) := by decide +kernel
theorem dX7_root_18 : decode cX7_root 18 = .ok (.iaload, 1) := by decide +kernel
theorem dX7_root_19 : decode cX7_root 19 = .ok (.goto 5, 3) := by decide +kernel
theorem dX7_root_22 : decode cX7_root 22 = .ok (.ldc 50, 2) := by decide +kernel
theorem dX7_root_24 : decode cX7_root 24 = .ok (.ireturn, 1) := by decide +kernel
theorem dX7_setWeak_0 : decode cX7_setWeak 0 = .ok (.iload_n 1, 1) := by decide +kernel
theorem dX7_setWeak_1 : decode cX7_setWeak 1 = .ok (.iconst 0, 1) := by decide +kernel
theorem dX7_setWeak_2 : decode cX7_setWeak 2 = .ok (.iconst 3, 1) := by decide +kernel
theorem dX7_setWeak_3 : decode cX7_setWeak 3 = .ok (.invokestatic 46, 3) := by decide +kernel
theorem dX7_setWeak_6 : decode cX7_setWeak 6 = .ok (.ifCond .eq 24, 3) := by decide +kernel
theorem dX7_setWeak_9 : decode cX7_setWeak 9 = .ok (.aload_n 0, 1) := by decide +kernel
theorem dX7_setWeak_10 : decode cX7_setWeak 10 = .ok (.iload_n 2, 1) := by decide +kernel
theorem dX7_setWeak_11 : decode cX7_setWeak 11 = .ok (.invokevirtual 76, 3) := by decide +kernel
theorem dX7_setWeak_14 : decode cX7_setWeak 14 = .ok (.ifCond .eq 16, 3) := by decide +kernel
theorem dX7_setWeak_17 : decode cX7_setWeak 17 = .ok (.aload_n 0, 1) := by decide +kernel
theorem dX7_setWeak_18 : decode cX7_setWeak 18 = .ok (.sipush 1206, 3) := by decide +kernel
theorem dX7_setWeak_21 : decode cX7_setWeak 21 = .ok (.iload_n 1, 1) := by decide +kernel
theorem dX7_setWeak_22 : decode cX7_setWeak 22 = .ok (.iadd, 1) := by decide +kernel
theorem dX7_setWeak_23 : decode cX7_setWeak 23 = .ok (.iload_n 2, 1) := by decide +kernel
theorem dX7_setWeak_24 : decode cX7_setWeak 24 = .ok (.invokevirtual 87, 3) := by decide +kernel
theorem dX7_setWeak_27 : decode cX7_setWeak 27 = .ok (.goto 5, 3) := by decide +kernel
theorem dX7_setWeak_30 : decode cX7_setWeak 30 = .ok (.ldc 50, 2) := by decide +kernel
theorem dX7_setWeak_32 : decode cX7_setWeak 32 = .ok (.ireturn, 1) := by decide +kernel
theorem dX7_weak_0 : decode cX7_weak 0 = .ok (.iload_n 1, 1) := by decide +kernel
theorem dX7_weak_1 : decode cX7_weak 1 = .ok (.iconst 0, 1) := by decide +kernel
theorem dX7_weak_2 : decode cX7_weak 2 = .ok (.iconst 3, 1) := by decide +kernel
theorem dX7_weak_3 : decode cX7_weak 3 = .ok (.invokestatic 46, 3) := by decide +kernel
theorem dX7_weak_6 : decode cX7_weak 6 = .ok (.ifCond .eq 16, 3) := by decide +kernel
theorem dX7_weak_9 : decode cX7_weak 9 = .ok (.aload_n 0, 1) := by decide +kernel
theorem dX7_weak_10 : decode cX7_weak 10 = .ok (.getfield 7, 3) := by decide +kernel
theorem dX7_weak_13 : decode cX7_weak 13 = .ok (.sipush 1206, 3) := by decide +kernel
theorem dX7_weak_16 : decode cX7_weak 16 = .ok (.iload_n 1, 1) := by decide +kernel
theorem dX7_weak_17 : decode cX7_weak 17 = .ok (.iadd, 1) := by decide +kernel
theorem dX7_weak_18 : decode cX7_weak 18 = .ok (.iaload, 1) := by decide +kernel
theorem dX7_weak_19 : decode cX7_weak 19 = .ok (.goto 5, 3) := by decide +kernel
theorem dX7_weak_22 : decode cX7_weak 22 = .ok (.ldc 50, 2) := by decide +kernel
theorem dX7_weak_24 : decode cX7_weak 24 = .ok (.ireturn, 1) := by decide +kernel
theorem dX7_reach_0 : decode cX7_reach 0 = .ok (.iload_n 1, 1) := by decide +kernel
theorem dX7_reach_1 : decode cX7_reach 1 = .ok (.iconst (-1), 1) := by decide +kernel
theorem dX7_reach_2 : decode cX7_reach 2 = .ok (.if_icmp .ne 7, 3) := by decide +kernel
theorem dX7_reach_5 : decode cX7_reach 5 = .ok (.iconst (-1), 1) := by decide +kernel
theorem dX7_reach_6 : decode cX7_reach 6 = .ok (.goto 8, 3) := by decide +kernel
theorem dX7_reach_9 : decode cX7_reach 9 = .ok (.aload_n 0, 1) := by decide +kernel
theorem dX7_reach_10 : decode cX7_reach 10 = .ok (.iload_n 1, 1) := by decide +kernel
theorem dX7_reach_11 : decode cX7_reach 11 = .ok (.invokevirtual 51, 3) := by decide +kernel
theorem dX7_reach_14 : decode cX7_reach 14 = .ok (.istore_n 2, 1) := by decide +kernel
theorem dX7_reach_15 : decode cX7_reach 15 = .ok (.iload_n 2, 1) := by decide +kernel
theorem dX7_reach_16 : decode cX7_reach 16 = .ok (.iconst (-1), 1) := by decide +kernel
theorem dX7_reach_17 : decode cX7_reach 17 = .ok (.if_icmp .eq 12, 3) := by decide +kernel
theorem dX7_reach_20 : decode cX7_reach 20 = .ok (.aload_n 0, 1) := by decide +kernel
theorem dX7_reach_21 : decode cX7_reach 21 = .ok (.getfield 33, 3) := by decide +kernel
theorem dX7_reach_24 : decode cX7_reach 24 = .ok (.iload_n 2, 1) := by decide +kernel
theorem dX7_reach_25 : decode cX7_reach 25 = .ok (.baload, 1) := by decide +kernel
theorem dX7_reach_26 : decode cX7_reach 26 = .ok (.ifCond .eq 4, 3) := by decide +kernel
theorem dX7_reach_29 : decode cX7_reach 29 = .ok (.return_, 1) := by decide +kernel
theorem dX7_reach_30 : decode cX7_reach 30 = .ok (.aload_n 0, 1) := by decide +kernel
theorem dX7_reach_31 : decode cX7_reach 31 = .ok (.getfield 33, 3) := by decide +kernel
theorem dX7_reach_34 : decode cX7_reach 34 = .ok (.iload_n 2, 1) := by decide +kernel
theorem dX7_reach_35 : decode cX7_reach 35 = .ok (.iconst 1, 1) := by decide +kernel
theorem dX7_reach_36 : decode cX7_reach 36 = .ok (.bastore, 1) := by decide +kernel
theorem dX7_reach_37 : decode cX7_reach 37 = .ok (.aload_n 0, 1) := by decide +kernel
theorem dX7_reach_38 : decode cX7_reach 38 = .ok (.getfield 91, 3) := by decide +kernel
theorem dX7_reach_41 : decode cX7_reach 41 = .ok (.aload_n 0, 1) := by decide +kernel
theorem dX7_reach_42 : decode cX7_reach 42 = .ok (.getfield 7, 3) := by decide +kernel
theorem dX7_reach_45 : decode cX7_reach 45 = .ok (.sipush 1217, 3) := by decide +kernel
theorem dX7_reach_48 : decode cX7_reach 48 = .ok (.iaload, 1) := by decide +kernel
theorem dX7_reach_49 : decode cX7_reach 49 = .ok (.if_icmp .ne 9, 3) := by decide +kernel
theorem dX7_reach_52 : decode cX7_reach 52 = .ok (.aload_n 0, 1) := by decide +kernel
theorem dX7_reach_53 : decode cX7_reach 53 = .ok (.iconst 1, 1) := by decide +kernel
theorem dX7_reach_54 : decode cX7_reach 54 = .ok (.putfield 94, 3) := by decide +kernel
theorem dX7_reach_57 : decode cX7_reach 57 = .ok (.return_, 1) := by decide +kernel
theorem dX7_reach_58 : decode cX7_reach 58 = .ok (.aload_n 0, 1) := by decide +kernel
theorem dX7_reach_59 : decode cX7_reach 59 = .ok (.getfield 36, 3) := by decide +kernel
theorem dX7_reach_62 : decode cX7_reach 62 = .ok (.aload_n 0, 1) := by decide +kernel
theorem dX7_reach_63 : decode cX7_reach 63 = .ok (.getfield 91, 3) := by decide +kernel
theorem dX7_reach_66 : decode cX7_reach 66 = .ok (.iload_n 2, 1) := by decide +kernel
theorem dX7_reach_67 : decode cX7_reach 67 = .ok (.iastore, 1) := by decide +kernel
theorem dX7_reach_68 : decode cX7_reach 68 = .ok (.aload_n 0, 1) := by decide +kernel
theorem dX7_reach_69 : decode cX7_reach 69 = .ok (.dup, 1) := by decide +kernel
theorem dX7_reach_70 : decode cX7_reach 70 = .ok (.getfield 91, 3) := by decide +kernel
theorem dX7_reach_73 : decode cX7_reach 73 = .ok (.iconst 1, 1) := by decide +kernel
theorem dX7_reach_74 : decode cX7_reach 74 = .ok (.iadd, 1) := by decide +kernel
theorem dX7_reach_75 : decode cX7_reach 75 = .ok (.putfield 91, 3) := by decide +kernel
theorem dX7_reach_78 : decode cX7_reach 78 = .ok (.aload_n 0, 1) := by decide +kernel
theorem dX7_reach_79 : decode cX7_reach 79 = .ok (.aload_n 0, 1) := by decide +kernel
theorem dX7_reach_80 : decode cX7_reach 80 = .ok (.getfield 91, 3) := by decide +kernel
theorem dX7_reach_83 : decode cX7_reach 83 = .ok (.aload_n 0, 1) := by decide +kernel
theorem dX7_reach_84 : decode cX7_reach 84 = .ok (.getfield 98, 3) := by decide +kernel
theorem dX7_reach_87 : decode cX7_reach 87 = .ok (.if_icmp .le 10, 3) := by decide +kernel
theorem dX7_reach_90 : decode cX7_reach 90 = .ok (.aload_n 0, 1) := by decide +kernel
theorem dX7_reach_91 : decode cX7_reach 91 = .ok (.getfield 91, 3) := by decide +kernel
theorem dX7_reach_94 : decode cX7_reach 94 = .ok (.goto 7, 3) := by decide +kernel
theorem dX7_reach_97 : decode cX7_reach 97 = .ok (.aload_n 0, 1) := by decide +kernel
theorem dX7_reach_98 : decode cX7_reach 98 = .ok (.getfield 98, 3) := by decide +kernel
theorem dX7_reach_101 : decode cX7_reach 101 = .ok (.putfield 98, 3) := by decide +kernel
theorem dX7_reach_104 : decode cX7_reach 104 = .ok (.return_, 1) := by decide +kernel
theorem dX7_drains_0 : decode cX7_drains 0 = .ok (.aload_n 0, 1) := by decide +kernel
theorem dX7_drains_1 : decode cX7_drains 1 = .ok (.getfield 91, 3) := by decide +kernel
theorem dX7_drains_4 : decode cX7_drains 4 = .ok (.ifCond .le 64, 3) := by decide +kernel
theorem dX7_drains_7 : decode cX7_drains 7 = .ok (.aload_n 0, 1) := by decide +kernel
theorem dX7_drains_8 : decode cX7_drains 8 = .ok (.dup, 1) := by decide +kernel
theorem dX7_drains_9 : decode cX7_drains 9 = .ok (.getfield 91, 3) := by decide +kernel
theorem dX7_drains_12 : decode cX7_drains 12 = .ok (.iconst 1, 1) := by decide +kernel
theorem dX7_drains_13 : decode cX7_drains 13 = .ok (.isub, 1) := by decide +kernel
theorem dX7_drains_14 : decode cX7_drains 14 = .ok (.putfield 91, 3) := by decide +kernel
theorem dX7_drains_17 : decode cX7_drains 17 = .ok (.aload_n 0, 1) := by decide +kernel
theorem dX7_drains_18 : decode cX7_drains 18 = .ok (.getfield 36, 3) := by decide +kernel
theorem dX7_drains_21 : decode cX7_drains 21 = .ok (.aload_n 0, 1) := by decide +kernel
theorem dX7_drains_22 : decode cX7_drains 22 = .ok (.getfield 91, 3) := by decide +kernel
theorem dX7_drains_25 : decode cX7_drains 25 = .ok (.iaload, 1) := by decide +kernel
theorem dX7_drains_26 : decode cX7_drains 26 = .ok (.istore_n 1, 1) := by decide +kernel
theorem dX7_drains_27 : decode cX7_drains 27 = .ok (.iconst 1, 1) := by decide +kernel
theorem dX7_drains_28 : decode cX7_drains 28 = .ok (.istore_n 2, 1) := by decide +kernel
theorem dX7_drains_29 : decode cX7_drains 29 = .ok (.iload_n 2, 1) := by decide +kernel
theorem dX7_drains_30 : decode cX7_drains 30 = .ok (.aload_n 0, 1) := by decide +kernel
theorem dX7_drains_31 : decode cX7_drains 31 = .ok (.getfield 7, 3) := by decide +kernel
theorem dX7_drains_34 : decode cX7_drains 34 = .ok (.sipush 200, 3) := by decide +kernel
theorem dX7_drains_37 : decode cX7_drains 37 = .ok (.iload_n 1, 1) := by decide +kernel
theorem dX7_drains_38 : decode cX7_drains 38 = .ok (.iadd, 1) := by decide +kernel
theorem dX7_drains_39 : decode cX7_drains 39 = .ok (.iaload, 1) := by decide +kernel
theorem dX7_drains_40 : decode cX7_drains 40 = .ok (.if_icmp .gt 25, 3) := by decide +kernel
theorem dX7_drains_43 : decode cX7_drains 43 = .ok (.aload_n 0, 1) := by decide +kernel
theorem dX7_drains_44 : decode cX7_drains 44 = .ok (.aload_n 0, 1) := by decide +kernel
theorem dX7_drains_45 : decode cX7_drains 45 = .ok (.getfield 7, 3) := by decide +kernel
theorem dX7_drains_48 : decode cX7_drains 48 = .ok (.sipush 800, 3) := by decide +kernel
theorem dX7_drains_51 : decode cX7_drains 51 = .ok (.iload_n 1, 1) := by decide +kernel
theorem dX7_drains_52 : decode cX7_drains 52 = .ok (.iadd, 1) := by decide +kernel
theorem dX7_drains_53 : decode cX7_drains 53 = .ok (.iload_n 2, 1) := by decide +kernel
theorem dX7_drains_54 : decode cX7_drains 54 = .ok (.iadd, 1) := by decide +kernel
theorem dX7_drains_55 : decode cX7_drains 55 = .ok (.iaload, 1) := by decide +kernel
theorem dX7_drains_56 : decode cX7_drains 56 = .ok (.invokevirtual 101, 3) := by decide +kernel
theorem dX7_drains_59 : decode cX7_drains 59 = .ok (.iinc 2 1, 3) := by decide +kernel
theorem dX7_drains_62 : decode cX7_drains 62 = .ok (.goto (-33), 3) := by decide +kernel
theorem dX7_drains_65 : decode cX7_drains 65 = .ok (.goto (-65), 3) := by decide +kernel
theorem dX7_drains_68 : decode cX7_drains 68 = .ok (.return_, 1) := by decide +kernel
theorem dX7_scans_0 : decode cX7_scans 0 = .ok (.iconst 0, 1) := by decide +kernel
theorem dX7_scans_1 : decode cX7_scans 1 = .ok (.istore_n 1, 1) := by decide +kernel
theorem dX7_scans_2 : decode cX7_scans 2 = .ok (.iload_n 1, 1) := by decide +kernel
theorem dX7_scans_3 : decode cX7_scans 3 = .ok (.aload_n 0, 1) := by decide +kernel
theorem dX7_scans_4 : decode cX7_scans 4 = .ok (.getfield 7, 3) := by decide +kernel
theorem dX7_scans_7 : decode cX7_scans 7 = .ok (.sipush 1216, 3) := by decide +kernel
theorem dX7_scans_10 : decode cX7_scans 10 = .ok (.iaload, 1) := by decide +kernel
theorem dX7_scans_11 : decode cX7_scans 11 = .ok (.if_icmp .ge 71, 3) := by decide +kernel
theorem dX7_scans_14 : decode cX7_scans 14 = .ok (.iconst 1, 1) := by decide +kernel
theorem dX7_scans_15 : decode cX7_scans 15 = .ok (.istore_n 2, 1) := by decide +kernel
theorem dX7_scans_16 : decode cX7_scans 16 = .ok (.iload_n 2, 1) := by decide +kernel
theorem dX7_scans_17 : decode cX7_scans 17 = .ok (.aload_n 0, 1) := by decide +kernel
theorem dX7_scans_18 : decode cX7_scans 18 = .ok (.getfield 7, 3) := by decide +kernel
theorem dX7_scans_21 : decode cX7_scans 21 = .ok (.sipush 200, 3) := by decide +kernel
theorem dX7_scans_24 : decode cX7_scans 24 = .ok (.iload_n 1, 1) := by decide +kernel
theorem dX7_scans_25 : decode cX7_scans 25 = .ok (.iadd, 1) := by decide +kernel
theorem dX7_scans_26 : decode cX7_scans 26 = .ok (.iaload, 1) := by decide +kernel
theorem dX7_scans_27 : decode cX7_scans 27 = .ok (.if_icmp .gt 49, 3) := by decide +kernel
theorem dX7_scans_30 : decode cX7_scans 30 = .ok (.aload_n 0, 1) := by decide +kernel
theorem dX7_scans_31 : decode cX7_scans 31 = .ok (.getfield 7, 3) := by decide +kernel
theorem dX7_scans_34 : decode cX7_scans 34 = .ok (.iconst 0, 1) := by decide +kernel
theorem dX7_scans_35 : decode cX7_scans 35 = .ok (.iload_n 1, 1) := by decide +kernel
theorem dX7_scans_36 : decode cX7_scans 36 = .ok (.iadd, 1) := by decide +kernel
theorem dX7_scans_37 : decode cX7_scans 37 = .ok (.iaload, 1) := by decide +kernel
theorem dX7_scans_38 : decode cX7_scans 38 = .ok (.ifCond .le 38, 3) := by decide +kernel
theorem dX7_scans_41 : decode cX7_scans 41 = .ok (.aload_n 0, 1) := by decide +kernel
theorem dX7_scans_42 : decode cX7_scans 42 = .ok (.getfield 33, 3) := by decide +kernel
theorem dX7_scans_45 : decode cX7_scans 45 = .ok (.iload_n 1, 1) := by decide +kernel
theorem dX7_scans_46 : decode cX7_scans 46 = .ok (.baload, 1) := by decide +kernel
theorem dX7_scans_47 : decode cX7_scans 47 = .ok (.ifCond .eq 29, 3) := by decide +kernel
theorem dX7_scans_50 : decode cX7_scans 50 = .ok (.aload_n 0, 1) := by decide +kernel
theorem dX7_scans_51 : decode cX7_scans 51 = .ok (.aload_n 0, 1) := by decide +kernel
theorem dX7_scans_52 : decode cX7_scans 52 = .ok (.getfield 7, 3) := by decide +kernel
theorem dX7_scans_55 : decode cX7_scans 55 = .ok (.sipush 800, 3) := by decide +kernel
theorem dX7_scans_58 : decode cX7_scans 58 = .ok (.iload_n 1, 1) := by decide +kernel
theorem dX7_scans_59 : decode cX7_scans 59 = .ok (.iadd, 1) := by decide +kernel
theorem dX7_scans_60 : decode cX7_scans 60 = .ok (.iload_n 2, 1) := by decide +kernel
theorem dX7_scans_61 : decode cX7_scans 61 = .ok (.iadd, 1) := by decide +kernel
theorem dX7_scans_62 : decode cX7_scans 62 = .ok (.iaload, 1) := by decide +kernel
theorem dX7_scans_63 : decode cX7_scans 63 = .ok (.invokevirtual 101, 3) := by decide +kernel
theorem dX7_scans_66 : decode cX7_scans 66 = .ok (.aload_n 0, 1) := by decide +kernel
theorem dX7_scans_67 : decode cX7_scans 67 = .ok (.invokevirtual 104, 3) := by decide +kernel
theorem dX7_scans_70 : decode cX7_scans 70 = .ok (.iinc 2 1, 3) := by decide +kernel
theorem dX7_scans_73 : decode cX7_scans 73 = .ok (.goto (-57), 3) := by decide +kernel
theorem dX7_scans_76 : decode cX7_scans 76 = .ok (.iinc 1 1, 3) := by decide +kernel
theorem dX7_scans_79 : decode cX7_scans 79 = .ok (.goto (-77), 3) := by decide +kernel
theorem dX7_scans_82 : decode cX7_scans 82 = .ok (.return_, 1) := by decide +kernel
theorem dX7_marks_0 : decode cX7_marks 0 = .ok (.iconst 0, 1) := by decide +kernel
theorem dX7_marks_1 : decode cX7_marks 1 = .ok (.istore_n 1, 1) := by decide +kernel
theorem dX7_marks_2 : decode cX7_marks 2 = .ok (.iload_n 1, 1) := by decide +kernel
theorem dX7_marks_3 : decode cX7_marks 3 = .ok (.sipush 200, 3) := by decide +kernel
theorem dX7_marks_6 : decode cX7_marks 6 = .ok (.if_icmp .ge 16, 3) := by decide +kernel
theorem dX7_marks_9 : decode cX7_marks 9 = .ok (.aload_n 0, 1) := by decide +kernel
theorem dX7_marks_10 : decode cX7_marks 10 = .ok (.getfield 33, 3) := by decide +kernel
theorem dX7_marks_13 : decode cX7_marks 13 = .ok (.iload_n 1, 1) := by decide +kernel
theorem dX7_marks_14 : decode cX7_marks 14 = .ok (.iconst 0, 1) := by decide +kernel
theorem dX7_marks_15 : decode cX7_marks 15 = .ok (.bastore, 1) := by decide +kernel
theorem dX7_marks_16 : decode cX7_marks 16 = .ok (.iinc 1 1, 3) := by decide +kernel
theorem dX7_marks_19 : decode cX7_marks 19 = .ok (.goto (-17), 3) := by decide +kernel
theorem dX7_marks_22 : decode cX7_marks 22 = .ok (.aload_n 0, 1) := by decide +kernel
theorem dX7_marks_23 : decode cX7_marks 23 = .ok (.iconst 0, 1) := by decide +kernel
theorem dX7_marks_24 : decode cX7_marks 24 = .ok (.putfield 91, 3) := by decide +kernel
theorem dX7_marks_27 : decode cX7_marks 27 = .ok (.aload_n 0, 1) := by decide +kernel
theorem dX7_marks_28 : decode cX7_marks 28 = .ok (.iconst 0, 1) := by decide +kernel
theorem dX7_marks_29 : decode cX7_marks 29 = .ok (.putfield 98, 3) := by decide +kernel
theorem dX7_marks_32 : decode cX7_marks 32 = .ok (.aload_n 0, 1) := by decide +kernel
theorem dX7_marks_33 : decode cX7_marks 33 = .ok (.iconst 0, 1) := by decide +kernel
theorem dX7_marks_34 : decode cX7_marks 34 = .ok (.putfield 94, 3) := by decide +kernel
theorem dX7_marks_37 : decode cX7_marks 37 = .ok (.iconst 0, 1) := by decide +kernel
theorem dX7_marks_38 : decode cX7_marks 38 = .ok (.istore_n 1, 1) := by decide +kernel
theorem dX7_marks_39 : decode cX7_marks 39 = .ok (.iload_n 1, 1) := by decide +kernel
theorem dX7_marks_40 : decode cX7_marks 40 = .ok (.bipush 6, 2) := by decide +kernel
theorem dX7_marks_42 : decode cX7_marks 42 = .ok (.if_icmp .ge 27, 3) := by decide +kernel
theorem dX7_marks_45 : decode cX7_marks 45 = .ok (.aload_n 0, 1) := by decide +kernel
theorem dX7_marks_46 : decode cX7_marks 46 = .ok (.aload_n 0, 1) := by decide +kernel
theorem dX7_marks_47 : decode cX7_marks 47 = .ok (.getfield 7, 3) := by decide +kernel
theorem dX7_marks_50 : decode cX7_marks 50 = .ok (.sipush 1200, 3) := by decide +kernel
theorem dX7_marks_53 : decode cX7_marks 53 = .ok (.iload_n 1, 1) := by decide +kernel
theorem dX7_marks_54 : decode cX7_marks 54 = .ok (.iadd, 1) := by decide +kernel
theorem dX7_marks_55 : decode cX7_marks 55 = .ok (.iaload, 1) := by decide +kernel
theorem dX7_marks_56 : decode cX7_marks 56 = .ok (.invokevirtual 101, 3) := by decide +kernel
theorem dX7_marks_59 : decode cX7_marks 59 = .ok (.aload_n 0, 1) := by decide +kernel
theorem dX7_marks_60 : decode cX7_marks 60 = .ok (.invokevirtual 104, 3) := by decide +kernel
theorem dX7_marks_63 : decode cX7_marks 63 = .ok (.iinc 1 1, 3) := by decide +kernel
theorem dX7_marks_66 : decode cX7_marks 66 = .ok (.goto (-27), 3) := by decide +kernel
theorem dX7_marks_69 : decode cX7_marks 69 = .ok (.iconst 0, 1) := by decide +kernel
theorem dX7_marks_70 : decode cX7_marks 70 = .ok (.istore_n 1, 1) := by decide +kernel
theorem dX7_marks_71 : decode cX7_marks 71 = .ok (.iload_n 1, 1) := by decide +kernel
theorem dX7_marks_72 : decode cX7_marks 72 = .ok (.aload_n 0, 1) := by decide +kernel
theorem dX7_marks_73 : decode cX7_marks 73 = .ok (.getfield 7, 3) := by decide +kernel
theorem dX7_marks_76 : decode cX7_marks 76 = .ok (.sipush 1216, 3) := by decide +kernel
theorem dX7_marks_79 : decode cX7_marks 79 = .ok (.iaload, 1) := by decide +kernel
theorem dX7_marks_80 : decode cX7_marks 80 = .ok (.if_icmp .ge 47, 3) := by decide +kernel
theorem dX7_marks_83 : decode cX7_marks 83 = .ok (.aload_n 0, 1) := by decide +kernel
theorem dX7_marks_84 : decode cX7_marks 84 = .ok (.aload_n 0, 1) := by decide +kernel
theorem dX7_marks_85 : decode cX7_marks 85 = .ok (.getfield 7, 3) := by decide +kernel
theorem dX7_marks_88 : decode cX7_marks 88 = .ok (.iconst 0, 1) := by decide +kernel
theorem dX7_marks_89 : decode cX7_marks 89 = .ok (.iload_n 1, 1) := by decide +kernel
theorem dX7_marks_90 : decode cX7_marks 90 = .ok (.iadd, 1) := by decide +kernel
theorem dX7_marks_91 : decode cX7_marks 91 = .ok (.iaload, 1) := by decide +kernel
theorem dX7_marks_92 : decode cX7_marks 92 = .ok (.ifCond .le 21, 3) := by decide +kernel
theorem dX7_marks_95 : decode cX7_marks 95 = .ok (.aload_n 0, 1) := by decide +kernel
theorem dX7_marks_96 : decode cX7_marks 96 = .ok (.getfield 7, 3) := by decide +kernel
theorem dX7_marks_99 : decode cX7_marks 99 = .ok (.sipush 400, 3) := by decide +kernel
theorem dX7_marks_102 : decode cX7_marks 102 = .ok (.iload_n 1, 1) := by decide +kernel
theorem dX7_marks_103 : decode cX7_marks 103 = .ok (.iadd, 1) := by decide +kernel
theorem dX7_marks_104 : decode cX7_marks 104 = .ok (.iaload, 1) := by decide +kernel
theorem dX7_marks_105 : decode cX7_marks 105 = .ok (.iconst 1, 1) := by decide +kernel
theorem dX7_marks_106 : decode cX7_marks 106 = .ok (.if_icmp .ne 7, 3) := by decide +kernel
theorem dX7_marks_109 : decode cX7_marks 109 = .ok (.iload_n 1, 1) := by decide +kernel
theorem dX7_marks_110 : decode cX7_marks 110 = .ok (.goto 4, 3) := by decide +kernel
theorem dX7_marks_113 : decode cX7_marks 113 = .ok (.iconst (-1), 1) := by decide +kernel
theorem dX7_marks_114 : decode cX7_marks 114 = .ok (.invokevirtual 101, 3) := by decide +kernel
theorem dX7_marks_117 : decode cX7_marks 117 = .ok (.aload_n 0, 1) := by decide +kernel
theorem dX7_marks_118 : decode cX7_marks 118 = .ok (.invokevirtual 104, 3) := by decide +kernel
theorem dX7_marks_121 : decode cX7_marks 121 = .ok (.iinc 1 1, 3) := by decide +kernel
theorem dX7_marks_124 : decode cX7_marks 124 = .ok (.goto (-53), 3) := by decide +kernel
theorem dX7_marks_127 : decode cX7_marks 127 = .ok (.iconst 0, 1) := by decide +kernel
theorem dX7_marks_128 : decode cX7_marks 128 = .ok (.istore_n 1, 1) := by decide +kernel
theorem dX7_marks_129 : decode cX7_marks 129 = .ok (.aload_n 0, 1) := by decide +kernel
theorem dX7_marks_130 : decode cX7_marks 130 = .ok (.getfield 94, 3) := by decide +kernel
theorem dX7_marks_133 : decode cX7_marks 133 = .ok (.ifCond .eq 18, 3) := by decide +kernel
theorem dX7_marks_136 : decode cX7_marks 136 = .ok (.aload_n 0, 1) := by decide +kernel
theorem dX7_marks_137 : decode cX7_marks 137 = .ok (.iconst 0, 1) := by decide +kernel
theorem dX7_marks_138 : decode cX7_marks 138 = .ok (.putfield 94, 3) := by decide +kernel
theorem dX7_marks_141 : decode cX7_marks 141 = .ok (.iinc 1 1, 3) := by decide +kernel
theorem dX7_marks_144 : decode cX7_marks 144 = .ok (.aload_n 0, 1) := by decide +kernel
theorem dX7_marks_145 : decode cX7_marks 145 = .ok (.invokevirtual 107, 3) := by decide +kernel
theorem dX7_marks_148 : decode cX7_marks 148 = .ok (.goto (-19), 3) := by decide +kernel
theorem dX7_marks_151 : decode cX7_marks 151 = .ok (.iload_n 1, 1) := by decide +kernel
theorem dX7_marks_152 : decode cX7_marks 152 = .ok (.ireturn, 1) := by decide +kernel
theorem dX7_gone_0 : decode cX7_gone 0 = .ok (.iload_n 1, 1) := by decide +kernel
theorem dX7_gone_1 : decode cX7_gone 1 = .ok (.iconst (-1), 1) := by decide +kernel
theorem dX7_gone_2 : decode cX7_gone 2 = .ok (.if_icmp .ne 7, 3) := by decide +kernel
theorem dX7_gone_5 : decode cX7_gone 5 = .ok (.iconst (-1), 1) := by decide +kernel
theorem dX7_gone_6 : decode cX7_gone 6 = .ok (.goto 13, 3) := by decide +kernel
theorem dX7_gone_9 : decode cX7_gone 9 = .ok (.aload_n 0, 1) := by decide +kernel
theorem dX7_gone_10 : decode cX7_gone 10 = .ok (.getfield 7, 3) := by decide +kernel
theorem dX7_gone_13 : decode cX7_gone 13 = .ok (.sipush 1000, 3) := by decide +kernel
theorem dX7_gone_16 : decode cX7_gone 16 = .ok (.iload_n 1, 1) := by decide +kernel
theorem dX7_gone_17 : decode cX7_gone 17 = .ok (.iadd, 1) := by decide +kernel
theorem dX7_gone_18 : decode cX7_gone 18 = .ok (.iaload, 1) := by decide +kernel
theorem dX7_gone_19 : decode cX7_gone 19 = .ok (.ireturn, 1) := by decide +kernel
theorem dX7_occupied_0 : decode cX7_occupied 0 = .ok (.iconst 0, 1) := by decide +kernel
theorem dX7_occupied_1 : decode cX7_occupied 1 = .ok (.istore_n 1, 1) := by decide +kernel
theorem dX7_occupied_2 : decode cX7_occupied 2 = .ok (.iconst 0, 1) := by decide +kernel
theorem dX7_occupied_3 : decode cX7_occupied 3 = .ok (.istore_n 2, 1) := by decide +kernel
theorem dX7_occupied_4 : decode cX7_occupied 4 = .ok (.iload_n 2, 1) := by decide +kernel
theorem dX7_occupied_5 : decode cX7_occupied 5 = .ok (.aload_n 0, 1) := by decide +kernel
theorem dX7_occupied_6 : decode cX7_occupied 6 = .ok (.getfield 7, 3) := by decide +kernel
theorem dX7_occupied_9 : decode cX7_occupied 9 = .ok (.sipush 1216, 3) := by decide +kernel
theorem dX7_occupied_12 : decode cX7_occupied 12 = .ok (.iaload, 1) := by decide +kernel
theorem dX7_occupied_13 : decode cX7_occupied 13 = .ok (.if_icmp .ge 20, 3) := by decide +kernel
theorem dX7_occupied_16 : decode cX7_occupied 16 = .ok (.iload_n 1, 1) := by decide +kernel
theorem dX7_occupied_17 : decode cX7_occupied 17 = .ok (.aload_n 0, 1) := by decide +kernel
theorem dX7_occupied_18 : decode cX7_occupied 18 = .ok (.getfield 7, 3) := by decide +kernel
theorem dX7_occupied_21 : decode cX7_occupied 21 = .ok (.iconst 0, 1) := by decide +kernel
theorem dX7_occupied_22 : decode cX7_occupied 22 = .ok (.iload_n 2, 1) := by decide +kernel
theorem dX7_occupied_23 : decode cX7_occupied 23 = .ok (.iadd, 1) := by decide +kernel
theorem dX7_occupied_24 : decode cX7_occupied 24 = .ok (.iaload, 1) := by decide +kernel
theorem dX7_occupied_25 : decode cX7_occupied 25 = .ok (.iadd, 1) := by decide +kernel
theorem dX7_occupied_26 : decode cX7_occupied 26 = .ok (.istore_n 1, 1) := by decide +kernel
theorem dX7_occupied_27 : decode cX7_occupied 27 = .ok (.iinc 2 1, 3) := by decide +kernel
theorem dX7_occupied_30 : decode cX7_occupied 30 = .ok (.goto (-26), 3) := by decide +kernel
theorem dX7_occupied_33 : decode cX7_occupied 33 = .ok (.iload_n 1, 1) := by decide +kernel
theorem dX7_occupied_34 : decode cX7_occupied 34 = .ok (.ireturn, 1) := by decide +kernel
theorem dX7_collect_0 : decode cX7_collect 0 = .ok (.aload_n 0, 1) := by decide +kernel
theorem dX7_collect_1 : decode cX7_collect 1 = .ok (.invokevirtual 110, 3) := by decide +kernel
theorem dX7_collect_4 : decode cX7_collect 4 = .ok (.istore_n 1, 1) := by decide +kernel
theorem dX7_collect_5 : decode cX7_collect 5 = .ok (.aload_n 0, 1) := by decide +kernel
theorem dX7_collect_6 : decode cX7_collect 6 = .ok (.invokevirtual 114, 3) := by decide +kernel
end
section
theorem dX7_collect_9 : decode cX7_collect 9 = .ok (.istore_n 2, 1) := by decide +kernel
theorem dX7_collect_10 : decode cX7_collect 10 = .ok (.iconst 0, 1) := by decide +kernel
theorem dX7_collect_11 : decode cX7_collect 11 = .ok (.istore_n 3, 1) := by decide +kernel
theorem dX7_collect_12 : decode cX7_collect 12 = .ok (.iload_n 3, 1) := by decide +kernel
theorem dX7_collect_13 : decode cX7_collect 13 = .ok (.sipush 1222, 3) := by decide +kernel
theorem dX7_collect_16 : decode cX7_collect 16 = .ok (.if_icmp .ge 21, 3) := by decide +kernel
theorem dX7_collect_19 : decode cX7_collect 19 = .ok (.aload_n 0, 1) := by decide +kernel
theorem dX7_collect_20 : decode cX7_collect 20 = .ok (.getfield 13, 3) := by decide +kernel
theorem dX7_collect_23 : decode cX7_collect 23 = .ok (.iload_n 3, 1) := by decide +kernel
theorem dX7_collect_24 : decode cX7_collect 24 = .ok (.aload_n 0, 1) := by decide +kernel
theorem dX7_collect_25 : decode cX7_collect 25 = .ok (.getfield 7, 3) := by decide +kernel
theorem dX7_collect_28 : decode cX7_collect 28 = .ok (.iload_n 3, 1) := by decide +kernel
theorem dX7_collect_29 : decode cX7_collect 29 = .ok (.iaload, 1) := by decide +kernel
theorem dX7_collect_30 : decode cX7_collect 30 = .ok (.iastore, 1) := by decide +kernel
theorem dX7_collect_31 : decode cX7_collect 31 = .ok (.iinc 3 1, 3) := by decide +kernel
theorem dX7_collect_34 : decode cX7_collect 34 = .ok (.goto (-22), 3) := by decide +kernel
theorem dX7_collect_37 : decode cX7_collect 37 = .ok (.iconst 0, 1) := by decide +kernel
theorem dX7_collect_38 : decode cX7_collect 38 = .ok (.istore_n 3, 1) := by decide +kernel
theorem dX7_collect_39 : decode cX7_collect 39 = .ok (.iload_n 3, 1) := by decide +kernel
theorem dX7_collect_40 : decode cX7_collect 40 = .ok (.sipush 200, 3) := by decide +kernel
theorem dX7_collect_43 : decode cX7_collect 43 = .ok (.if_icmp .ge 20, 3) := by decide +kernel
theorem dX7_collect_46 : decode cX7_collect 46 = .ok (.aload_n 0, 1) := by decide +kernel
theorem dX7_collect_47 : decode cX7_collect 47 = .ok (.getfield 7, 3) := by decide +kernel
theorem dX7_collect_50 : decode cX7_collect 50 = .ok (.sipush 1000, 3) := by decide +kernel
theorem dX7_collect_53 : decode cX7_collect 53 = .ok (.iload_n 3, 1) := by decide +kernel
theorem dX7_collect_54 : decode cX7_collect 54 = .ok (.iadd, 1) := by decide +kernel
theorem dX7_collect_55 : decode cX7_collect 55 = .ok (.iconst (-1), 1) := by decide +kernel
theorem dX7_collect_56 : decode cX7_collect 56 = .ok (.iastore, 1) := by decide +kernel
theorem dX7_collect_57 : decode cX7_collect 57 = .ok (.iinc 3 1, 3) := by decide +kernel
theorem dX7_collect_60 : decode cX7_collect 60 = .ok (.goto (-21), 3) := by decide +kernel
theorem dX7_collect_63 : decode cX7_collect 63 = .ok (.iconst 0, 1) := by decide +kernel
theorem dX7_collect_64 : decode cX7_collect 64 = .ok (.istore_n 3, 1) := by decide +kernel
theorem dX7_collect_65 : decode cX7_collect 65 = .ok (.iconst 0, 1) := by decide +kernel
theorem dX7_collect_66 : decode cX7_collect 66 = .ok (.istore 4, 2) := by decide +kernel
theorem dX7_collect_68 : decode cX7_collect 68 = .ok (.iconst 0, 1) := by decide +kernel
theorem dX7_collect_69 : decode cX7_collect 69 = .ok (.istore 5, 2) := by decide +kernel
theorem dX7_collect_71 : decode cX7_collect 71 = .ok (.iconst 0, 1) := by decide +kernel
theorem dX7_collect_72 : decode cX7_collect 72 = .ok (.istore 6, 2) := by decide +kernel
theorem dX7_collect_74 : decode cX7_collect 74 = .ok (.iconst 0, 1) := by decide +kernel
theorem dX7_collect_75 : decode cX7_collect 75 = .ok (.istore 7, 2) := by decide +kernel
theorem dX7_collect_77 : decode cX7_collect 77 = .ok (.iconst 0, 1) := by decide +kernel
theorem dX7_collect_78 : decode cX7_collect 78 = .ok (.istore 8, 2) := by decide +kernel
theorem dX7_collect_80 : decode cX7_collect 80 = .ok (.iload 8, 2) := by decide +kernel
theorem dX7_collect_82 : decode cX7_collect 82 = .ok (.aload_n 0, 1) := by decide +kernel
theorem dX7_collect_83 : decode cX7_collect 83 = .ok (.getfield 7, 3) := by decide +kernel
theorem dX7_collect_86 : decode cX7_collect 86 = .ok (.sipush 1216, 3) := by decide +kernel
theorem dX7_collect_89 : decode cX7_collect 89 = .ok (.iaload, 1) := by decide +kernel
theorem dX7_collect_90 : decode cX7_collect 90 = .ok (.if_icmp .ge 163, 3) := by decide +kernel
theorem dX7_collect_93 : decode cX7_collect 93 = .ok (.aload_n 0, 1) := by decide +kernel
theorem dX7_collect_94 : decode cX7_collect 94 = .ok (.getfield 13, 3) := by decide +kernel
theorem dX7_collect_97 : decode cX7_collect 97 = .ok (.iconst 0, 1) := by decide +kernel
theorem dX7_collect_98 : decode cX7_collect 98 = .ok (.iload 8, 2) := by decide +kernel
theorem dX7_collect_100 : decode cX7_collect 100 = .ok (.iadd, 1) := by decide +kernel
theorem dX7_collect_101 : decode cX7_collect 101 = .ok (.iaload, 1) := by decide +kernel
theorem dX7_collect_102 : decode cX7_collect 102 = .ok (.ifCond .le 145, 3) := by decide +kernel
theorem dX7_collect_105 : decode cX7_collect 105 = .ok (.aload_n 0, 1) := by decide +kernel
theorem dX7_collect_106 : decode cX7_collect 106 = .ok (.getfield 33, 3) := by decide +kernel
theorem dX7_collect_109 : decode cX7_collect 109 = .ok (.iload 8, 2) := by decide +kernel
theorem dX7_collect_111 : decode cX7_collect 111 = .ok (.baload, 1) := by decide +kernel
theorem dX7_collect_112 : decode cX7_collect 112 = .ok (.ifCond .eq 135, 3) := by decide +kernel
theorem dX7_collect_115 : decode cX7_collect 115 = .ok (.aload_n 0, 1) := by decide +kernel
theorem dX7_collect_116 : decode cX7_collect 116 = .ok (.getfield 13, 3) := by decide +kernel
theorem dX7_collect_119 : decode cX7_collect 119 = .ok (.sipush 400, 3) := by decide +kernel
theorem dX7_collect_122 : decode cX7_collect 122 = .ok (.iload 8, 2) := by decide +kernel
theorem dX7_collect_124 : decode cX7_collect 124 = .ok (.iadd, 1) := by decide +kernel
theorem dX7_collect_125 : decode cX7_collect 125 = .ok (.iaload, 1) := by decide +kernel
theorem dX7_collect_126 : decode cX7_collect 126 = .ok (.iconst 1, 1) := by decide +kernel
theorem dX7_collect_127 : decode cX7_collect 127 = .ok (.if_icmp .ne 8, 3) := by decide +kernel
theorem dX7_collect_130 : decode cX7_collect 130 = .ok (.iload 8, 2) := by decide +kernel
theorem dX7_collect_132 : decode cX7_collect 132 = .ok (.goto 4, 3) := by decide +kernel
theorem dX7_collect_135 : decode cX7_collect 135 = .ok (.iload_n 3, 1) := by decide +kernel
theorem dX7_collect_136 : decode cX7_collect 136 = .ok (.istore 9, 2) := by decide +kernel
theorem dX7_collect_138 : decode cX7_collect 138 = .ok (.iconst 0, 1) := by decide +kernel
theorem dX7_collect_139 : decode cX7_collect 139 = .ok (.istore 10, 2) := by decide +kernel
theorem dX7_collect_141 : decode cX7_collect 141 = .ok (.iload 10, 2) := by decide +kernel
theorem dX7_collect_143 : decode cX7_collect 143 = .ok (.aload_n 0, 1) := by decide +kernel
theorem dX7_collect_144 : decode cX7_collect 144 = .ok (.getfield 13, 3) := by decide +kernel
theorem dX7_collect_147 : decode cX7_collect 147 = .ok (.iconst 0, 1) := by decide +kernel
theorem dX7_collect_148 : decode cX7_collect 148 = .ok (.iload 8, 2) := by decide +kernel
theorem dX7_collect_150 : decode cX7_collect 150 = .ok (.iadd, 1) := by decide +kernel
theorem dX7_collect_151 : decode cX7_collect 151 = .ok (.iaload, 1) := by decide +kernel
theorem dX7_collect_152 : decode cX7_collect 152 = .ok (.if_icmp .ge 28, 3) := by decide +kernel
theorem dX7_collect_155 : decode cX7_collect 155 = .ok (.aload_n 0, 1) := by decide +kernel
theorem dX7_collect_156 : decode cX7_collect 156 = .ok (.getfield 7, 3) := by decide +kernel
theorem dX7_collect_159 : decode cX7_collect 159 = .ok (.sipush 1000, 3) := by decide +kernel
theorem dX7_collect_162 : decode cX7_collect 162 = .ok (.iload 8, 2) := by decide +kernel
theorem dX7_collect_164 : decode cX7_collect 164 = .ok (.iadd, 1) := by decide +kernel
theorem dX7_collect_165 : decode cX7_collect 165 = .ok (.iload 10, 2) := by decide +kernel
theorem dX7_collect_167 : decode cX7_collect 167 = .ok (.iadd, 1) := by decide +kernel
theorem dX7_collect_168 : decode cX7_collect 168 = .ok (.iload 9, 2) := by decide +kernel
theorem dX7_collect_170 : decode cX7_collect 170 = .ok (.iload 10, 2) := by decide +kernel
theorem dX7_collect_172 : decode cX7_collect 172 = .ok (.iadd, 1) := by decide +kernel
theorem dX7_collect_173 : decode cX7_collect 173 = .ok (.iastore, 1) := by decide +kernel
theorem dX7_collect_174 : decode cX7_collect 174 = .ok (.iinc 10 1, 3) := by decide +kernel
theorem dX7_collect_177 : decode cX7_collect 177 = .ok (.goto (-36), 3) := by decide +kernel
theorem dX7_collect_180 : decode cX7_collect 180 = .ok (.iload 9, 2) := by decide +kernel
theorem dX7_collect_182 : decode cX7_collect 182 = .ok (.aload_n 0, 1) := by decide +kernel
theorem dX7_collect_183 : decode cX7_collect 183 = .ok (.getfield 13, 3) := by decide +kernel
theorem dX7_collect_186 : decode cX7_collect 186 = .ok (.iconst 0, 1) := by decide +kernel
theorem dX7_collect_187 : decode cX7_collect 187 = .ok (.iload 8, 2) := by decide +kernel
theorem dX7_collect_189 : decode cX7_collect 189 = .ok (.iadd, 1) := by decide +kernel
theorem dX7_collect_190 : decode cX7_collect 190 = .ok (.iaload, 1) := by decide +kernel
theorem dX7_collect_191 : decode cX7_collect 191 = .ok (.iadd, 1) := by decide +kernel
theorem dX7_collect_192 : decode cX7_collect 192 = .ok (.istore_n 3, 1) := by decide +kernel
theorem dX7_collect_193 : decode cX7_collect 193 = .ok (.iinc 4 1, 3) := by decide +kernel
theorem dX7_collect_196 : decode cX7_collect 196 = .ok (.iload 5, 2) := by decide +kernel
theorem dX7_collect_198 : decode cX7_collect 198 = .ok (.aload_n 0, 1) := by decide +kernel
theorem dX7_collect_199 : decode cX7_collect 199 = .ok (.getfield 13, 3) := by decide +kernel
theorem dX7_collect_202 : decode cX7_collect 202 = .ok (.iconst 0, 1) := by decide +kernel
theorem dX7_collect_203 : decode cX7_collect 203 = .ok (.iload 8, 2) := by decide +kernel
theorem dX7_collect_205 : decode cX7_collect 205 = .ok (.iadd, 1) := by decide +kernel
theorem dX7_collect_206 : decode cX7_collect 206 = .ok (.iaload, 1) := by decide +kernel
theorem dX7_collect_207 : decode cX7_collect 207 = .ok (.iadd, 1) := by decide +kernel
theorem dX7_collect_208 : decode cX7_collect 208 = .ok (.istore 5, 2) := by decide +kernel
theorem dX7_collect_210 : decode cX7_collect 210 = .ok (.iload 6, 2) := by decide +kernel
theorem dX7_collect_212 : decode cX7_collect 212 = .ok (.iload 9, 2) := by decide +kernel
theorem dX7_collect_214 : decode cX7_collect 214 = .ok (.iload 8, 2) := by decide +kernel
theorem dX7_collect_216 : decode cX7_collect 216 = .ok (.if_icmp .ne 7, 3) := by decide +kernel
theorem dX7_collect_219 : decode cX7_collect 219 = .ok (.iconst 0, 1) := by decide +kernel
theorem dX7_collect_220 : decode cX7_collect 220 = .ok (.goto 4, 3) := by decide +kernel
theorem dX7_collect_223 : decode cX7_collect 223 = .ok (.iconst 1, 1) := by decide +kernel
theorem dX7_collect_224 : decode cX7_collect 224 = .ok (.iadd, 1) := by decide +kernel
theorem dX7_collect_225 : decode cX7_collect 225 = .ok (.istore 6, 2) := by decide +kernel
theorem dX7_collect_227 : decode cX7_collect 227 = .ok (.iload 7, 2) := by decide +kernel
theorem dX7_collect_229 : decode cX7_collect 229 = .ok (.iload 8, 2) := by decide +kernel
theorem dX7_collect_231 : decode cX7_collect 231 = .ok (.iload 9, 2) := by decide +kernel
theorem dX7_collect_233 : decode cX7_collect 233 = .ok (.isub, 1) := by decide +kernel
theorem dX7_collect_234 : decode cX7_collect 234 = .ok (.aload_n 0, 1) := by decide +kernel
theorem dX7_collect_235 : decode cX7_collect 235 = .ok (.getfield 13, 3) := by decide +kernel
theorem dX7_collect_238 : decode cX7_collect 238 = .ok (.iconst 0, 1) := by decide +kernel
theorem dX7_collect_239 : decode cX7_collect 239 = .ok (.iload 8, 2) := by decide +kernel
theorem dX7_collect_241 : decode cX7_collect 241 = .ok (.iadd, 1) := by decide +kernel
theorem dX7_collect_242 : decode cX7_collect 242 = .ok (.iaload, 1) := by decide +kernel
theorem dX7_collect_243 : decode cX7_collect 243 = .ok (.imul, 1) := by decide +kernel
theorem dX7_collect_244 : decode cX7_collect 244 = .ok (.iadd, 1) := by decide +kernel
theorem dX7_collect_245 : decode cX7_collect 245 = .ok (.istore 7, 2) := by decide +kernel
theorem dX7_collect_247 : decode cX7_collect 247 = .ok (.iinc 8 1, 3) := by decide +kernel
theorem dX7_collect_250 : decode cX7_collect 250 = .ok (.goto (-170), 3) := by decide +kernel
theorem dX7_collect_253 : decode cX7_collect 253 = .ok (.aload_n 0, 1) := by decide +kernel
theorem dX7_collect_254 : decode cX7_collect 254 = .ok (.invokevirtual 117, 3) := by decide +kernel
theorem dX7_collect_257 : decode cX7_collect 257 = .ok (.aload_n 0, 1) := by decide +kernel
theorem dX7_collect_258 : decode cX7_collect 258 = .ok (.getfield 7, 3) := by decide +kernel
theorem dX7_collect_261 : decode cX7_collect 261 = .ok (.sipush 1210, 3) := by decide +kernel
theorem dX7_collect_264 : decode cX7_collect 264 = .ok (.iload 4, 2) := by decide +kernel
theorem dX7_collect_266 : decode cX7_collect 266 = .ok (.iastore, 1) := by decide +kernel
theorem dX7_collect_267 : decode cX7_collect 267 = .ok (.aload_n 0, 1) := by decide +kernel
theorem dX7_collect_268 : decode cX7_collect 268 = .ok (.getfield 7, 3) := by decide +kernel
theorem dX7_collect_271 : decode cX7_collect 271 = .ok (.sipush 1211, 3) := by decide +kernel
theorem dX7_collect_274 : decode cX7_collect 274 = .ok (.iload 5, 2) := by decide +kernel
theorem dX7_collect_276 : decode cX7_collect 276 = .ok (.iastore, 1) := by decide +kernel
theorem dX7_collect_277 : decode cX7_collect 277 = .ok (.aload_n 0, 1) := by decide +kernel
theorem dX7_collect_278 : decode cX7_collect 278 = .ok (.getfield 7, 3) := by decide +kernel
theorem dX7_collect_281 : decode cX7_collect 281 = .ok (.sipush 1212, 3) := by decide +kernel
theorem dX7_collect_284 : decode cX7_collect 284 = .ok (.iload_n 2, 1) := by decide +kernel
theorem dX7_collect_285 : decode cX7_collect 285 = .ok (.iastore, 1) := by decide +kernel
theorem dX7_collect_286 : decode cX7_collect 286 = .ok (.aload_n 0, 1) := by decide +kernel
theorem dX7_collect_287 : decode cX7_collect 287 = .ok (.getfield 7, 3) := by decide +kernel
theorem dX7_collect_290 : decode cX7_collect 290 = .ok (.sipush 1213, 3) := by decide +kernel
theorem dX7_collect_293 : decode cX7_collect 293 = .ok (.aload_n 0, 1) := by decide +kernel
theorem dX7_collect_294 : decode cX7_collect 294 = .ok (.getfield 98, 3) := by decide +kernel
theorem dX7_collect_297 : decode cX7_collect 297 = .ok (.iastore, 1) := by decide +kernel
theorem dX7_collect_298 : decode cX7_collect 298 = .ok (.aload_n 0, 1) := by decide +kernel
theorem dX7_collect_299 : decode cX7_collect 299 = .ok (.getfield 7, 3) := by decide +kernel
theorem dX7_collect_302 : decode cX7_collect 302 = .ok (.sipush 1214, 3) := by decide +kernel
theorem dX7_collect_305 : decode cX7_collect 305 = .ok (.iload 6, 2) := by decide +kernel
theorem dX7_collect_307 : decode cX7_collect 307 = .ok (.iastore, 1) := by decide +kernel
theorem dX7_collect_308 : decode cX7_collect 308 = .ok (.aload_n 0, 1) := by decide +kernel
theorem dX7_collect_309 : decode cX7_collect 309 = .ok (.getfield 7, 3) := by decide +kernel
theorem dX7_collect_312 : decode cX7_collect 312 = .ok (.sipush 1215, 3) := by decide +kernel
theorem dX7_collect_315 : decode cX7_collect 315 = .ok (.iload 7, 2) := by decide +kernel
theorem dX7_collect_317 : decode cX7_collect 317 = .ok (.iastore, 1) := by decide +kernel
theorem dX7_collect_318 : decode cX7_collect 318 = .ok (.aload_n 0, 1) := by decide +kernel
theorem dX7_collect_319 : decode cX7_collect 319 = .ok (.getfield 7, 3) := by decide +kernel
theorem dX7_collect_322 : decode cX7_collect 322 = .ok (.sipush 1221, 3) := by decide +kernel
theorem dX7_collect_325 : decode cX7_collect 325 = .ok (.iconst 1, 1) := by decide +kernel
theorem dX7_collect_326 : decode cX7_collect 326 = .ok (.iastore, 1) := by decide +kernel
theorem dX7_collect_327 : decode cX7_collect 327 = .ok (.aload_n 0, 1) := by decide +kernel
theorem dX7_collect_328 : decode cX7_collect 328 = .ok (.getfield 7, 3) := by decide +kernel
theorem dX7_collect_331 : decode cX7_collect 331 = .ok (.sipush 1219, 3) := by decide +kernel
theorem dX7_collect_334 : decode cX7_collect 334 = .ok (.dup2, 1) := by decide +kernel
theorem dX7_collect_335 : decode cX7_collect 335 = .ok (.iaload, 1) := by decide +kernel
theorem dX7_collect_336 : decode cX7_collect 336 = .ok (.iconst 1, 1) := by decide +kernel
theorem dX7_collect_337 : decode cX7_collect 337 = .ok (.iadd, 1) := by decide +kernel
theorem dX7_collect_338 : decode cX7_collect 338 = .ok (.iastore, 1) := by decide +kernel
theorem dX7_collect_339 : decode cX7_collect 339 = .ok (.aload_n 0, 1) := by decide +kernel
theorem dX7_collect_340 : decode cX7_collect 340 = .ok (.getfield 7, 3) := by decide +kernel
theorem dX7_collect_343 : decode cX7_collect 343 = .ok (.sipush 1220, 3) := by decide +kernel
theorem dX7_collect_346 : decode cX7_collect 346 = .ok (.dup2, 1) := by decide +kernel
theorem dX7_collect_347 : decode cX7_collect 347 = .ok (.iaload, 1) := by decide +kernel
theorem dX7_collect_348 : decode cX7_collect 348 = .ok (.iload_n 1, 1) := by decide +kernel
theorem dX7_collect_349 : decode cX7_collect 349 = .ok (.iload 5, 2) := by decide +kernel
theorem dX7_collect_351 : decode cX7_collect 351 = .ok (.isub, 1) := by decide +kernel
theorem dX7_collect_352 : decode cX7_collect 352 = .ok (.iadd, 1) := by decide +kernel
theorem dX7_collect_353 : decode cX7_collect 353 = .ok (.iastore, 1) := by decide +kernel
theorem dX7_collect_354 : decode cX7_collect 354 = .ok (.iload_n 1, 1) := by decide +kernel
theorem dX7_collect_355 : decode cX7_collect 355 = .ok (.iload 5, 2) := by decide +kernel
theorem dX7_collect_357 : decode cX7_collect 357 = .ok (.isub, 1) := by decide +kernel
theorem dX7_collect_358 : decode cX7_collect 358 = .ok (.ireturn, 1) := by decide +kernel
theorem dX7_rebuilds_0 : decode cX7_rebuilds 0 = .ok (.iconst 0, 1) := by decide +kernel
theorem dX7_rebuilds_1 : decode cX7_rebuilds 1 = .ok (.istore_n 1, 1) := by decide +kernel
theorem dX7_rebuilds_2 : decode cX7_rebuilds 2 = .ok (.iload_n 1, 1) := by decide +kernel
theorem dX7_rebuilds_3 : decode cX7_rebuilds 3 = .ok (.sipush 1000, 3) := by decide +kernel
theorem dX7_rebuilds_6 : decode cX7_rebuilds 6 = .ok (.if_icmp .ge 16, 3) := by decide +kernel
theorem dX7_rebuilds_9 : decode cX7_rebuilds 9 = .ok (.aload_n 0, 1) := by decide +kernel
theorem dX7_rebuilds_10 : decode cX7_rebuilds 10 = .ok (.getfield 7, 3) := by decide +kernel
theorem dX7_rebuilds_13 : decode cX7_rebuilds 13 = .ok (.iload_n 1, 1) := by decide +kernel
theorem dX7_rebuilds_14 : decode cX7_rebuilds 14 = .ok (.iconst 0, 1) := by decide +kernel
theorem dX7_rebuilds_15 : decode cX7_rebuilds 15 = .ok (.iastore, 1) := by decide +kernel
theorem dX7_rebuilds_16 : decode cX7_rebuilds 16 = .ok (.iinc 1 1, 3) := by decide +kernel
theorem dX7_rebuilds_19 : decode cX7_rebuilds 19 = .ok (.goto (-17), 3) := by decide +kernel
theorem dX7_rebuilds_22 : decode cX7_rebuilds 22 = .ok (.iconst 0, 1) := by decide +kernel
theorem dX7_rebuilds_23 : decode cX7_rebuilds 23 = .ok (.istore_n 1, 1) := by decide +kernel
theorem dX7_rebuilds_24 : decode cX7_rebuilds 24 = .ok (.iload_n 1, 1) := by decide +kernel
theorem dX7_rebuilds_25 : decode cX7_rebuilds 25 = .ok (.aload_n 0, 1) := by decide +kernel
theorem dX7_rebuilds_26 : decode cX7_rebuilds 26 = .ok (.getfield 7, 3) := by decide +kernel
theorem dX7_rebuilds_29 : decode cX7_rebuilds 29 = .ok (.sipush 1216, 3) := by decide +kernel
theorem dX7_rebuilds_32 : decode cX7_rebuilds 32 = .ok (.iaload, 1) := by decide +kernel
theorem dX7_rebuilds_33 : decode cX7_rebuilds 33 = .ok (.if_icmp .ge 189, 3) := by decide +kernel
theorem dX7_rebuilds_36 : decode cX7_rebuilds 36 = .ok (.aload_n 0, 1) := by decide +kernel
theorem dX7_rebuilds_37 : decode cX7_rebuilds 37 = .ok (.getfield 13, 3) := by decide +kernel
theorem dX7_rebuilds_40 : decode cX7_rebuilds 40 = .ok (.iconst 0, 1) := by decide +kernel
theorem dX7_rebuilds_41 : decode cX7_rebuilds 41 = .ok (.iload_n 1, 1) := by decide +kernel
theorem dX7_rebuilds_42 : decode cX7_rebuilds 42 = .ok (.iadd, 1) := by decide +kernel
theorem dX7_rebuilds_43 : decode cX7_rebuilds 43 = .ok (.iaload, 1) := by decide +kernel
theorem dX7_rebuilds_44 : decode cX7_rebuilds 44 = .ok (.ifCond .le 172, 3) := by decide +kernel
theorem dX7_rebuilds_47 : decode cX7_rebuilds 47 = .ok (.aload_n 0, 1) := by decide +kernel
theorem dX7_rebuilds_48 : decode cX7_rebuilds 48 = .ok (.getfield 33, 3) := by decide +kernel
theorem dX7_rebuilds_51 : decode cX7_rebuilds 51 = .ok (.iload_n 1, 1) := by decide +kernel
theorem dX7_rebuilds_52 : decode cX7_rebuilds 52 = .ok (.baload, 1) := by decide +kernel
theorem dX7_rebuilds_53 : decode cX7_rebuilds 53 = .ok (.ifCond .eq 163, 3) := by decide +kernel
theorem dX7_rebuilds_56 : decode cX7_rebuilds 56 = .ok (.aload_n 0, 1) := by decide +kernel
theorem dX7_rebuilds_57 : decode cX7_rebuilds 57 = .ok (.getfield 7, 3) := by decide +kernel
theorem dX7_rebuilds_60 : decode cX7_rebuilds 60 = .ok (.sipush 1000, 3) := by decide +kernel
theorem dX7_rebuilds_63 : decode cX7_rebuilds 63 = .ok (.iload_n 1, 1) := by decide +kernel
theorem dX7_rebuilds_64 : decode cX7_rebuilds 64 = .ok (.iadd, 1) := by decide +kernel
theorem dX7_rebuilds_65 : decode cX7_rebuilds 65 = .ok (.iaload, 1) := by decide +kernel
theorem dX7_rebuilds_66 : decode cX7_rebuilds 66 = .ok (.istore_n 2, 1) := by decide +kernel
theorem dX7_rebuilds_67 : decode cX7_rebuilds 67 = .ok (.aload_n 0, 1) := by decide +kernel
theorem dX7_rebuilds_68 : decode cX7_rebuilds 68 = .ok (.getfield 7, 3) := by decide +kernel
theorem dX7_rebuilds_71 : decode cX7_rebuilds 71 = .ok (.iconst 0, 1) := by decide +kernel
theorem dX7_rebuilds_72 : decode cX7_rebuilds 72 = .ok (.iload_n 2, 1) := by decide +kernel
theorem dX7_rebuilds_73 : decode cX7_rebuilds 73 = .ok (.iadd, 1) := by decide +kernel
theorem dX7_rebuilds_74 : decode cX7_rebuilds 74 = .ok (.aload_n 0, 1) := by decide +kernel
theorem dX7_rebuilds_75 : decode cX7_rebuilds 75 = .ok (.getfield 13, 3) := by decide +kernel
theorem dX7_rebuilds_78 : decode cX7_rebuilds 78 = .ok (.iconst 0, 1) := by decide +kernel
theorem dX7_rebuilds_79 : decode cX7_rebuilds 79 = .ok (.iload_n 1, 1) := by decide +kernel
theorem dX7_rebuilds_80 : decode cX7_rebuilds 80 = .ok (.iadd, 1) := by decide +kernel
theorem dX7_rebuilds_81 : decode cX7_rebuilds 81 = .ok (.iaload, 1) := by decide +kernel
theorem dX7_rebuilds_82 : decode cX7_rebuilds 82 = .ok (.iastore, 1) := by decide +kernel
theorem dX7_rebuilds_83 : decode cX7_rebuilds 83 = .ok (.aload_n 0, 1) := by decide +kernel
theorem dX7_rebuilds_84 : decode cX7_rebuilds 84 = .ok (.getfield 7, 3) := by decide +kernel
theorem dX7_rebuilds_87 : decode cX7_rebuilds 87 = .ok (.sipush 200, 3) := by decide +kernel
theorem dX7_rebuilds_90 : decode cX7_rebuilds 90 = .ok (.iload_n 2, 1) := by decide +kernel
theorem dX7_rebuilds_91 : decode cX7_rebuilds 91 = .ok (.iadd, 1) := by decide +kernel
theorem dX7_rebuilds_92 : decode cX7_rebuilds 92 = .ok (.aload_n 0, 1) := by decide +kernel
theorem dX7_rebuilds_93 : decode cX7_rebuilds 93 = .ok (.getfield 13, 3) := by decide +kernel
theorem dX7_rebuilds_96 : decode cX7_rebuilds 96 = .ok (.sipush 200, 3) := by decide +kernel
theorem dX7_rebuilds_99 : decode cX7_rebuilds 99 = .ok (.iload_n 1, 1) := by decide +kernel
theorem dX7_rebuilds_100 : decode cX7_rebuilds 100 = .ok (.iadd, 1) := by decide +kernel
theorem dX7_rebuilds_101 : decode cX7_rebuilds 101 = .ok (.iaload, 1) := by decide +kernel
theorem dX7_rebuilds_102 : decode cX7_rebuilds 102 = .ok (.iastore, 1) := by decide +kernel
theorem dX7_rebuilds_103 : decode cX7_rebuilds 103 = .ok (.aload_n 0, 1) := by decide +kernel
theorem dX7_rebuilds_104 : decode cX7_rebuilds 104 = .ok (.getfield 7, 3) := by decide +kernel
theorem dX7_rebuilds_107 : decode cX7_rebuilds 107 = .ok (.sipush 400, 3) := by decide +kernel
theorem dX7_rebuilds_110 : decode cX7_rebuilds 110 = .ok (.iload_n 2, 1) := by decide +kernel
theorem dX7_rebuilds_111 : decode cX7_rebuilds 111 = .ok (.iadd, 1) := by decide +kernel
theorem dX7_rebuilds_112 : decode cX7_rebuilds 112 = .ok (.aload_n 0, 1) := by decide +kernel
theorem dX7_rebuilds_113 : decode cX7_rebuilds 113 = .ok (.getfield 13, 3) := by decide +kernel
theorem dX7_rebuilds_116 : decode cX7_rebuilds 116 = .ok (.sipush 400, 3) := by decide +kernel
theorem dX7_rebuilds_119 : decode cX7_rebuilds 119 = .ok (.iload_n 1, 1) := by decide +kernel
theorem dX7_rebuilds_120 : decode cX7_rebuilds 120 = .ok (.iadd, 1) := by decide +kernel
theorem dX7_rebuilds_121 : decode cX7_rebuilds 121 = .ok (.iaload, 1) := by decide +kernel
theorem dX7_rebuilds_122 : decode cX7_rebuilds 122 = .ok (.iastore, 1) := by decide +kernel
theorem dX7_rebuilds_123 : decode cX7_rebuilds 123 = .ok (.aload_n 0, 1) := by decide +kernel
theorem dX7_rebuilds_124 : decode cX7_rebuilds 124 = .ok (.getfield 7, 3) := by decide +kernel
theorem dX7_rebuilds_127 : decode cX7_rebuilds 127 = .ok (.sipush 600, 3) := by decide +kernel
theorem dX7_rebuilds_130 : decode cX7_rebuilds 130 = .ok (.iload_n 2, 1) := by decide +kernel
theorem dX7_rebuilds_131 : decode cX7_rebuilds 131 = .ok (.iadd, 1) := by decide +kernel
theorem dX7_rebuilds_132 : decode cX7_rebuilds 132 = .ok (.aload_n 0, 1) := by decide +kernel
theorem dX7_rebuilds_133 : decode cX7_rebuilds 133 = .ok (.getfield 13, 3) := by decide +kernel
theorem dX7_rebuilds_136 : decode cX7_rebuilds 136 = .ok (.sipush 600, 3) := by decide +kernel
theorem dX7_rebuilds_139 : decode cX7_rebuilds 139 = .ok (.iload_n 1, 1) := by decide +kernel
theorem dX7_rebuilds_140 : decode cX7_rebuilds 140 = .ok (.iadd, 1) := by decide +kernel
theorem dX7_rebuilds_141 : decode cX7_rebuilds 141 = .ok (.iaload, 1) := by decide +kernel
theorem dX7_rebuilds_142 : decode cX7_rebuilds 142 = .ok (.iconst 1, 1) := by decide +kernel
theorem dX7_rebuilds_143 : decode cX7_rebuilds 143 = .ok (.iadd, 1) := by decide +kernel
theorem dX7_rebuilds_144 : decode cX7_rebuilds 144 = .ok (.iastore, 1) := by decide +kernel
theorem dX7_rebuilds_145 : decode cX7_rebuilds 145 = .ok (.iconst 1, 1) := by decide +kernel
theorem dX7_rebuilds_146 : decode cX7_rebuilds 146 = .ok (.istore_n 3, 1) := by decide +kernel
theorem dX7_rebuilds_147 : decode cX7_rebuilds 147 = .ok (.iload_n 3, 1) := by decide +kernel
theorem dX7_rebuilds_148 : decode cX7_rebuilds 148 = .ok (.aload_n 0, 1) := by decide +kernel
theorem dX7_rebuilds_149 : decode cX7_rebuilds 149 = .ok (.getfield 13, 3) := by decide +kernel
theorem dX7_rebuilds_152 : decode cX7_rebuilds 152 = .ok (.iconst 0, 1) := by decide +kernel
theorem dX7_rebuilds_153 : decode cX7_rebuilds 153 = .ok (.iload_n 1, 1) := by decide +kernel
theorem dX7_rebuilds_154 : decode cX7_rebuilds 154 = .ok (.iadd, 1) := by decide +kernel
theorem dX7_rebuilds_155 : decode cX7_rebuilds 155 = .ok (.iaload, 1) := by decide +kernel
theorem dX7_rebuilds_156 : decode cX7_rebuilds 156 = .ok (.if_icmp .ge 60, 3) := by decide +kernel
theorem dX7_rebuilds_159 : decode cX7_rebuilds 159 = .ok (.aload_n 0, 1) := by decide +kernel
theorem dX7_rebuilds_160 : decode cX7_rebuilds 160 = .ok (.getfield 13, 3) := by decide +kernel
theorem dX7_rebuilds_163 : decode cX7_rebuilds 163 = .ok (.sipush 800, 3) := by decide +kernel
theorem dX7_rebuilds_166 : decode cX7_rebuilds 166 = .ok (.iload_n 1, 1) := by decide +kernel
theorem dX7_rebuilds_167 : decode cX7_rebuilds 167 = .ok (.iadd, 1) := by decide +kernel
theorem dX7_rebuilds_168 : decode cX7_rebuilds 168 = .ok (.iload_n 3, 1) := by decide +kernel
theorem dX7_rebuilds_169 : decode cX7_rebuilds 169 = .ok (.iadd, 1) := by decide +kernel
theorem dX7_rebuilds_170 : decode cX7_rebuilds 170 = .ok (.iaload, 1) := by decide +kernel
theorem dX7_rebuilds_171 : decode cX7_rebuilds 171 = .ok (.istore 4, 2) := by decide +kernel
theorem dX7_rebuilds_173 : decode cX7_rebuilds 173 = .ok (.aload_n 0, 1) := by decide +kernel
theorem dX7_rebuilds_174 : decode cX7_rebuilds 174 = .ok (.getfield 7, 3) := by decide +kernel
theorem dX7_rebuilds_177 : decode cX7_rebuilds 177 = .ok (.sipush 800, 3) := by decide +kernel
theorem dX7_rebuilds_180 : decode cX7_rebuilds 180 = .ok (.iload_n 2, 1) := by decide +kernel
theorem dX7_rebuilds_181 : decode cX7_rebuilds 181 = .ok (.iadd, 1) := by decide +kernel
theorem dX7_rebuilds_182 : decode cX7_rebuilds 182 = .ok (.iload_n 3, 1) := by decide +kernel
theorem dX7_rebuilds_183 : decode cX7_rebuilds 183 = .ok (.iadd, 1) := by decide +kernel
theorem dX7_rebuilds_184 : decode cX7_rebuilds 184 = .ok (.iload_n 3, 1) := by decide +kernel
theorem dX7_rebuilds_185 : decode cX7_rebuilds 185 = .ok (.aload_n 0, 1) := by decide +kernel
theorem dX7_rebuilds_186 : decode cX7_rebuilds 186 = .ok (.getfield 13, 3) := by decide +kernel
theorem dX7_rebuilds_189 : decode cX7_rebuilds 189 = .ok (.sipush 200, 3) := by decide +kernel
theorem dX7_rebuilds_192 : decode cX7_rebuilds 192 = .ok (.iload_n 1, 1) := by decide +kernel
theorem dX7_rebuilds_193 : decode cX7_rebuilds 193 = .ok (.iadd, 1) := by decide +kernel
theorem dX7_rebuilds_194 : decode cX7_rebuilds 194 = .ok (.iaload, 1) := by decide +kernel
theorem dX7_rebuilds_195 : decode cX7_rebuilds 195 = .ok (.if_icmp .gt 12, 3) := by decide +kernel
theorem dX7_rebuilds_198 : decode cX7_rebuilds 198 = .ok (.aload_n 0, 1) := by decide +kernel
theorem dX7_rebuilds_199 : decode cX7_rebuilds 199 = .ok (.iload 4, 2) := by decide +kernel
theorem dX7_rebuilds_201 : decode cX7_rebuilds 201 = .ok (.invokevirtual 120, 3) := by decide +kernel
theorem dX7_rebuilds_204 : decode cX7_rebuilds 204 = .ok (.goto 5, 3) := by decide +kernel
theorem dX7_rebuilds_207 : decode cX7_rebuilds 207 = .ok (.iload 4, 2) := by decide +kernel
theorem dX7_rebuilds_209 : decode cX7_rebuilds 209 = .ok (.iastore, 1) := by decide +kernel
theorem dX7_rebuilds_210 : decode cX7_rebuilds 210 = .ok (.iinc 3 1, 3) := by decide +kernel
theorem dX7_rebuilds_213 : decode cX7_rebuilds 213 = .ok (.goto (-66), 3) := by decide +kernel
theorem dX7_rebuilds_216 : decode cX7_rebuilds 216 = .ok (.iinc 1 1, 3) := by decide +kernel
theorem dX7_rebuilds_219 : decode cX7_rebuilds 219 = .ok (.goto (-195), 3) := by decide +kernel
theorem dX7_rebuilds_222 : decode cX7_rebuilds 222 = .ok (.iconst 0, 1) := by decide +kernel
theorem dX7_rebuilds_223 : decode cX7_rebuilds 223 = .ok (.istore_n 1, 1) := by decide +kernel
theorem dX7_rebuilds_224 : decode cX7_rebuilds 224 = .ok (.iload_n 1, 1) := by decide +kernel
theorem dX7_rebuilds_225 : decode cX7_rebuilds 225 = .ok (.bipush 10, 2) := by decide +kernel
theorem dX7_rebuilds_227 : decode cX7_rebuilds 227 = .ok (.if_icmp .ge 33, 3) := by decide +kernel
theorem dX7_rebuilds_230 : decode cX7_rebuilds 230 = .ok (.aload_n 0, 1) := by decide +kernel
theorem dX7_rebuilds_231 : decode cX7_rebuilds 231 = .ok (.getfield 7, 3) := by decide +kernel
theorem dX7_rebuilds_234 : decode cX7_rebuilds 234 = .ok (.sipush 1200, 3) := by decide +kernel
theorem dX7_rebuilds_237 : decode cX7_rebuilds 237 = .ok (.iload_n 1, 1) := by decide +kernel
theorem dX7_rebuilds_238 : decode cX7_rebuilds 238 = .ok (.iadd, 1) := by decide +kernel
theorem dX7_rebuilds_239 : decode cX7_rebuilds 239 = .ok (.aload_n 0, 1) := by decide +kernel
theorem dX7_rebuilds_240 : decode cX7_rebuilds 240 = .ok (.aload_n 0, 1) := by decide +kernel
theorem dX7_rebuilds_241 : decode cX7_rebuilds 241 = .ok (.getfield 13, 3) := by decide +kernel
theorem dX7_rebuilds_244 : decode cX7_rebuilds 244 = .ok (.sipush 1200, 3) := by decide +kernel
theorem dX7_rebuilds_247 : decode cX7_rebuilds 247 = .ok (.iload_n 1, 1) := by decide +kernel
theorem dX7_rebuilds_248 : decode cX7_rebuilds 248 = .ok (.iadd, 1) := by decide +kernel
theorem dX7_rebuilds_249 : decode cX7_rebuilds 249 = .ok (.iaload, 1) := by decide +kernel
theorem dX7_rebuilds_250 : decode cX7_rebuilds 250 = .ok (.invokevirtual 120, 3) := by decide +kernel
theorem dX7_rebuilds_253 : decode cX7_rebuilds 253 = .ok (.iastore, 1) := by decide +kernel
theorem dX7_rebuilds_254 : decode cX7_rebuilds 254 = .ok (.iinc 1 1, 3) := by decide +kernel
theorem dX7_rebuilds_257 : decode cX7_rebuilds 257 = .ok (.goto (-33), 3) := by decide +kernel
theorem dX7_rebuilds_260 : decode cX7_rebuilds 260 = .ok (.return_, 1) := by decide +kernel
theorem dX7_moved_0 : decode cX7_moved 0 = .ok (.iload_n 1, 1) := by decide +kernel
theorem dX7_moved_1 : decode cX7_moved 1 = .ok (.iconst 0, 1) := by decide +kernel
theorem dX7_moved_2 : decode cX7_moved 2 = .ok (.aload_n 0, 1) := by decide +kernel
theorem dX7_moved_3 : decode cX7_moved 3 = .ok (.getfield 7, 3) := by decide +kernel
theorem dX7_moved_6 : decode cX7_moved 6 = .ok (.sipush 1216, 3) := by decide +kernel
theorem dX7_moved_9 : decode cX7_moved 9 = .ok (.iaload, 1) := by decide +kernel
theorem dX7_moved_10 : decode cX7_moved 10 = .ok (.iconst 1, 1) := by decide +kernel
theorem dX7_moved_11 : decode cX7_moved 11 = .ok (.isub, 1) := by decide +kernel
theorem dX7_moved_12 : decode cX7_moved 12 = .ok (.invokestatic 46, 3) := by decide +kernel
theorem dX7_moved_15 : decode cX7_moved 15 = .ok (.ifCond .ne 6, 3) := by decide +kernel
theorem dX7_moved_18 : decode cX7_moved 18 = .ok (.ldc 50, 2) := by decide +kernel
theorem dX7_moved_20 : decode cX7_moved 20 = .ok (.ireturn, 1) := by decide +kernel
theorem dX7_moved_21 : decode cX7_moved 21 = .ok (.aload_n 0, 1) := by decide +kernel
theorem dX7_moved_22 : decode cX7_moved 22 = .ok (.getfield 7, 3) := by decide +kernel
theorem dX7_moved_25 : decode cX7_moved 25 = .ok (.sipush 1221, 3) := by decide +kernel
theorem dX7_moved_28 : decode cX7_moved 28 = .ok (.iaload, 1) := by decide +kernel
theorem dX7_moved_29 : decode cX7_moved 29 = .ok (.iconst 1, 1) := by decide +kernel
theorem dX7_moved_30 : decode cX7_moved 30 = .ok (.if_icmp .ne 16, 3) := by decide +kernel
theorem dX7_moved_33 : decode cX7_moved 33 = .ok (.aload_n 0, 1) := by decide +kernel
theorem dX7_moved_34 : decode cX7_moved 34 = .ok (.getfield 7, 3) := by decide +kernel
theorem dX7_moved_37 : decode cX7_moved 37 = .ok (.sipush 1000, 3) := by decide +kernel
theorem dX7_moved_40 : decode cX7_moved 40 = .ok (.iload_n 1, 1) := by decide +kernel
theorem dX7_moved_41 : decode cX7_moved 41 = .ok (.iadd, 1) := by decide +kernel
theorem dX7_moved_42 : decode cX7_moved 42 = .ok (.iaload, 1) := by decide +kernel
theorem dX7_moved_43 : decode cX7_moved 43 = .ok (.goto 5, 3) := by decide +kernel
theorem dX7_moved_46 : decode cX7_moved 46 = .ok (.ldc 82, 2) := by decide +kernel
theorem dX7_moved_48 : decode cX7_moved 48 = .ok (.ireturn, 1) := by decide +kernel
theorem dX7_report_0 : decode cX7_report 0 = .ok (.iload_n 1, 1) := by decide +kernel
theorem dX7_report_1 : decode cX7_report 1 = .ok (.iconst 0, 1) := by decide +kernel
theorem dX7_report_2 : decode cX7_report 2 = .ok (.iconst 5, 1) := by decide +kernel
theorem dX7_report_3 : decode cX7_report 3 = .ok (.invokestatic 46, 3) := by decide +kernel
theorem dX7_report_6 : decode cX7_report 6 = .ok (.ifCond .ne 6, 3) := by decide +kernel
theorem dX7_report_9 : decode cX7_report 9 = .ok (.ldc 50, 2) := by decide +kernel
theorem dX7_report_11 : decode cX7_report 11 = .ok (.ireturn, 1) := by decide +kernel
theorem dX7_report_12 : decode cX7_report 12 = .ok (.aload_n 0, 1) := by decide +kernel
theorem dX7_report_13 : decode cX7_report 13 = .ok (.getfield 7, 3) := by decide +kernel
theorem dX7_report_16 : decode cX7_report 16 = .ok (.sipush 1221, 3) := by decide +kernel
theorem dX7_report_19 : decode cX7_report 19 = .ok (.iaload, 1) := by decide +kernel
theorem dX7_report_20 : decode cX7_report 20 = .ok (.iconst 1, 1) := by decide +kernel
theorem dX7_report_21 : decode cX7_report 21 = .ok (.if_icmp .ne 16, 3) := by decide +kernel
theorem dX7_report_24 : decode cX7_report 24 = .ok (.aload_n 0, 1) := by decide +kernel
theorem dX7_report_25 : decode cX7_report 25 = .ok (.getfield 7, 3) := by decide +kernel
theorem dX7_report_28 : decode cX7_report 28 = .ok (.sipush 1210, 3) := by decide +kernel
theorem dX7_report_31 : decode cX7_report 31 = .ok (.iload_n 1, 1) := by decide +kernel
theorem dX7_report_32 : decode cX7_report 32 = .ok (.iadd, 1) := by decide +kernel
theorem dX7_report_33 : decode cX7_report 33 = .ok (.iaload, 1) := by decide +kernel
theorem dX7_report_34 : decode cX7_report 34 = .ok (.goto 5, 3) := by decide +kernel
theorem dX7_report_37 : decode cX7_report 37 = .ok (.ldc 82, 2) := by decide +kernel
theorem dX7_report_39 : decode cX7_report 39 = .ok (.ireturn, 1) := by decide +kernel
theorem dX7_garbage_0 : decode cX7_garbage 0 = .ok (.aload_n 0, 1) := by decide +kernel
theorem dX7_garbage_1 : decode cX7_garbage 1 = .ok (.iconst (-1), 1) := by decide +kernel
theorem dX7_garbage_2 : decode cX7_garbage 2 = .ok (.invokevirtual 69, 3) := by decide +kernel
theorem dX7_garbage_5 : decode cX7_garbage 5 = .ok (.aload_n 0, 1) := by decide +kernel
theorem dX7_garbage_6 : decode cX7_garbage 6 = .ok (.invokevirtual 110, 3) := by decide +kernel
theorem dX7_garbage_9 : decode cX7_garbage 9 = .ok (.aload_n 0, 1) := by decide +kernel
theorem dX7_garbage_10 : decode cX7_garbage 10 = .ok (.invokevirtual 123, 3) := by decide +kernel
theorem dX7_garbage_13 : decode cX7_garbage 13 = .ok (.isub, 1) := by decide +kernel
theorem dX7_garbage_14 : decode cX7_garbage 14 = .ok (.ireturn, 1) := by decide +kernel
theorem dX7_distance_0 : decode cX7_distance 0 = .ok (.aload_n 0, 1) := by decide +kernel
theorem dX7_distance_1 : decode cX7_distance 1 = .ok (.iload_n 1, 1) := by decide +kernel
theorem dX7_distance_2 : decode cX7_distance 2 = .ok (.invokevirtual 51, 3) := by decide +kernel
theorem dX7_distance_5 : decode cX7_distance 5 = .ok (.istore_n 2, 1) := by decide +kernel
theorem dX7_distance_6 : decode cX7_distance 6 = .ok (.iload_n 2, 1) := by decide +kernel
theorem dX7_distance_7 : decode cX7_distance 7 = .ok (.iconst (-1), 1) := by decide +kernel
theorem dX7_distance_8 : decode cX7_distance 8 = .ok (.if_icmp .ne 6, 3) := by decide +kernel
theorem dX7_distance_11 : decode cX7_distance 11 = .ok (.ldc 50, 2) := by decide +kernel
theorem dX7_distance_13 : decode cX7_distance 13 = .ok (.ireturn, 1) := by decide +kernel
theorem dX7_distance_14 : decode cX7_distance 14 = .ok (.aload_n 0, 1) := by decide +kernel
theorem dX7_distance_15 : decode cX7_distance 15 = .ok (.iconst (-1), 1) := by decide +kernel
theorem dX7_distance_16 : decode cX7_distance 16 = .ok (.invokevirtual 69, 3) := by decide +kernel
theorem dX7_distance_19 : decode cX7_distance 19 = .ok (.aload_n 0, 1) := by decide +kernel
theorem dX7_distance_20 : decode cX7_distance 20 = .ok (.getfield 30, 3) := by decide +kernel
theorem dX7_distance_23 : decode cX7_distance 23 = .ok (.iload_n 2, 1) := by decide +kernel
theorem dX7_distance_24 : decode cX7_distance 24 = .ok (.iaload, 1) := by decide +kernel
theorem dX7_distance_25 : decode cX7_distance 25 = .ok (.ireturn, 1) := by decide +kernel
theorem dX7_retained_0 : decode cX7_retained 0 = .ok (.aload_n 0, 1) := by decide +kernel
theorem dX7_retained_1 : decode cX7_retained 1 = .ok (.iload_n 1, 1) := by decide +kernel
theorem dX7_retained_2 : decode cX7_retained 2 = .ok (.invokevirtual 51, 3) := by decide +kernel
theorem dX7_retained_5 : decode cX7_retained 5 = .ok (.istore_n 2, 1) := by decide +kernel
theorem dX7_retained_6 : decode cX7_retained 6 = .ok (.iload_n 2, 1) := by decide +kernel
theorem dX7_retained_7 : decode cX7_retained 7 = .ok (.iconst (-1), 1) := by decide +kernel
theorem dX7_retained_8 : decode cX7_retained 8 = .ok (.if_icmp .ne 6, 3) := by decide +kernel
theorem dX7_retained_11 : decode cX7_retained 11 = .ok (.ldc 50, 2) := by decide +kernel
theorem dX7_retained_13 : decode cX7_retained 13 = .ok (.ireturn, 1) := by decide +kernel
theorem dX7_retained_14 : decode cX7_retained 14 = .ok (.aload_n 0, 1) := by decide +kernel
theorem dX7_retained_15 : decode cX7_retained 15 = .ok (.iconst (-1), 1) := by decide +kernel
theorem dX7_retained_16 : decode cX7_retained 16 = .ok (.invokevirtual 69, 3) := by decide +kernel
theorem dX7_retained_19 : decode cX7_retained 19 = .ok (.aload_n 0, 1) := by decide +kernel
theorem dX7_retained_20 : decode cX7_retained 20 = .ok (.invokevirtual 123, 3) := by decide +kernel
theorem dX7_retained_23 : decode cX7_retained 23 = .ok (.istore_n 3, 1) := by decide +kernel
theorem dX7_retained_24 : decode cX7_retained 24 = .ok (.aload_n 0, 1) := by decide +kernel
theorem dX7_retained_25 : decode cX7_retained 25 = .ok (.getfield 30, 3) := by decide +kernel
theorem dX7_retained_28 : decode cX7_retained 28 = .ok (.iload_n 2, 1) := by decide +kernel
theorem dX7_retained_29 : decode cX7_retained 29 = .ok (.iaload, 1) := by decide +kernel
theorem dX7_retained_30 : decode cX7_retained 30 = .ok (.iconst (-1), 1) := by decide +kernel
theorem dX7_retained_31 : decode cX7_retained 31 = .ok (.if_icmp .ne 5, 3) := by decide +kernel
theorem dX7_retained_34 : decode cX7_retained 34 = .ok (.iconst 0, 1) := by decide +kernel
theorem dX7_retained_35 : decode cX7_retained 35 = .ok (.ireturn, 1) := by decide +kernel
theorem dX7_retained_36 : decode cX7_retained 36 = .ok (.aload_n 0, 1) := by decide +kernel
theorem dX7_retained_37 : decode cX7_retained 37 = .ok (.iload_n 2, 1) := by decide +kernel
theorem dX7_retained_38 : decode cX7_retained 38 = .ok (.invokevirtual 69, 3) := by decide +kernel
theorem dX7_retained_41 : decode cX7_retained 41 = .ok (.iload_n 3, 1) := by decide +kernel
theorem dX7_retained_42 : decode cX7_retained 42 = .ok (.aload_n 0, 1) := by decide +kernel
theorem dX7_retained_43 : decode cX7_retained 43 = .ok (.invokevirtual 123, 3) := by decide +kernel
theorem dX7_retained_46 : decode cX7_retained 46 = .ok (.isub, 1) := by decide +kernel
theorem dX7_retained_47 : decode cX7_retained 47 = .ok (.ireturn, 1) := by decide +kernel
theorem dX7_free_0 : decode cX7_free 0 = .ok (.iload_n 1, 1) := by decide +kernel
theorem dX7_free_1 : decode cX7_free 1 = .ok (.iconst 0, 1) := by decide +kernel
theorem dX7_free_2 : decode cX7_free 2 = .ok (.iconst 4, 1) := by decide +kernel
theorem dX7_free_3 : decode cX7_free 3 = .ok (.invokestatic 46, 3) := by decide +kernel
theorem dX7_free_6 : decode cX7_free 6 = .ok (.ifCond .ne 6, 3) := by decide +kernel
theorem dX7_free_9 : decode cX7_free 9 = .ok (.ldc 50, 2) := by decide +kernel
theorem dX7_free_11 : decode cX7_free 11 = .ok (.ireturn, 1) := by decide +kernel
theorem dX7_free_12 : decode cX7_free 12 = .ok (.iconst 0, 1) := by decide +kernel
theorem dX7_free_13 : decode cX7_free 13 = .ok (.istore_n 2, 1) := by decide +kernel
theorem dX7_free_14 : decode cX7_free 14 = .ok (.iconst 0, 1) := by decide +kernel
theorem dX7_free_15 : decode cX7_free 15 = .ok (.istore_n 3, 1) := by decide +kernel
theorem dX7_free_16 : decode cX7_free 16 = .ok (.iconst 0, 1) := by decide +kernel
theorem dX7_free_17 : decode cX7_free 17 = .ok (.istore 4, 2) := by decide +kernel
theorem dX7_free_19 : decode cX7_free 19 = .ok (.iconst (-1), 1) := by decide +kernel
theorem dX7_free_20 : decode cX7_free 20 = .ok (.istore 5, 2) := by decide +kernel
theorem dX7_free_22 : decode cX7_free 22 = .ok (.iconst 0, 1) := by decide +kernel
theorem dX7_free_23 : decode cX7_free 23 = .ok (.istore 6, 2) := by decide +kernel
theorem dX7_free_25 : decode cX7_free 25 = .ok (.iconst 0, 1) := by decide +kernel
theorem dX7_free_26 : decode cX7_free 26 = .ok (.istore 7, 2) := by decide +kernel
theorem dX7_free_28 : decode cX7_free 28 = .ok (.iload 7, 2) := by decide +kernel
theorem dX7_free_30 : decode cX7_free 30 = .ok (.aload_n 0, 1) := by decide +kernel
theorem dX7_free_31 : decode cX7_free 31 = .ok (.getfield 7, 3) := by decide +kernel
theorem dX7_free_34 : decode cX7_free 34 = .ok (.sipush 1216, 3) := by decide +kernel
theorem dX7_free_37 : decode cX7_free 37 = .ok (.iaload, 1) := by decide +kernel
theorem dX7_free_38 : decode cX7_free 38 = .ok (.if_icmp .ge 147, 3) := by decide +kernel
theorem dX7_free_41 : decode cX7_free 41 = .ok (.iconst 0, 1) := by decide +kernel
theorem dX7_free_42 : decode cX7_free 42 = .ok (.istore 8, 2) := by decide +kernel
theorem dX7_free_44 : decode cX7_free 44 = .ok (.iload 7, 2) := by decide +kernel
theorem dX7_free_46 : decode cX7_free 46 = .ok (.iload 8, 2) := by decide +kernel
theorem dX7_free_48 : decode cX7_free 48 = .ok (.iadd, 1) := by decide +kernel
theorem dX7_free_49 : decode cX7_free 49 = .ok (.aload_n 0, 1) := by decide +kernel
theorem dX7_free_50 : decode cX7_free 50 = .ok (.getfield 7, 3) := by decide +kernel
theorem dX7_free_53 : decode cX7_free 53 = .ok (.sipush 1216, 3) := by decide +kernel
theorem dX7_free_56 : decode cX7_free 56 = .ok (.iaload, 1) := by decide +kernel
theorem dX7_free_57 : decode cX7_free 57 = .ok (.if_icmp .ge 24, 3) := by decide +kernel
theorem dX7_free_60 : decode cX7_free 60 = .ok (.aload_n 0, 1) := by decide +kernel
theorem dX7_free_61 : decode cX7_free 61 = .ok (.getfield 7, 3) := by decide +kernel
theorem dX7_free_64 : decode cX7_free 64 = .ok (.iconst 0, 1) := by decide +kernel
theorem dX7_free_65 : decode cX7_free 65 = .ok (.iload 7, 2) := by decide +kernel
theorem dX7_free_67 : decode cX7_free 67 = .ok (.iadd, 1) := by decide +kernel
theorem dX7_free_68 : decode cX7_free 68 = .ok (.iload 8, 2) := by decide +kernel
theorem dX7_free_70 : decode cX7_free 70 = .ok (.iadd, 1) := by decide +kernel
theorem dX7_free_71 : decode cX7_free 71 = .ok (.iaload, 1) := by decide +kernel
theorem dX7_free_72 : decode cX7_free 72 = .ok (.ifCond .ne 9, 3) := by decide +kernel
theorem dX7_free_75 : decode cX7_free 75 = .ok (.iinc 8 1, 3) := by decide +kernel
theorem dX7_free_78 : decode cX7_free 78 = .ok (.goto (-34), 3) := by decide +kernel
theorem dX7_free_81 : decode cX7_free 81 = .ok (.iload 8, 2) := by decide +kernel
theorem dX7_free_83 : decode cX7_free 83 = .ok (.ifCond .le 14, 3) := by decide +kernel
theorem dX7_free_86 : decode cX7_free 86 = .ok (.iload 5, 2) := by decide +kernel
theorem dX7_free_88 : decode cX7_free 88 = .ok (.iconst (-1), 1) := by decide +kernel
theorem dX7_free_89 : decode cX7_free 89 = .ok (.if_icmp .ne 8, 3) := by decide +kernel
theorem dX7_free_92 : decode cX7_free 92 = .ok (.iload 7, 2) := by decide +kernel
theorem dX7_free_94 : decode cX7_free 94 = .ok (.goto 5, 3) := by decide +kernel
theorem dX7_free_97 : decode cX7_free 97 = .ok (.iload 5, 2) := by decide +kernel
theorem dX7_free_99 : decode cX7_free 99 = .ok (.istore 5, 2) := by decide +kernel
theorem dX7_free_101 : decode cX7_free 101 = .ok (.iload_n 2, 1) := by decide +kernel
theorem dX7_free_102 : decode cX7_free 102 = .ok (.iload 8, 2) := by decide +kernel
theorem dX7_free_104 : decode cX7_free 104 = .ok (.iadd, 1) := by decide +kernel
theorem dX7_free_105 : decode cX7_free 105 = .ok (.istore_n 2, 1) := by decide +kernel
theorem dX7_free_106 : decode cX7_free 106 = .ok (.iload_n 3, 1) := by decide +kernel
theorem dX7_free_107 : decode cX7_free 107 = .ok (.iload 8, 2) := by decide +kernel
theorem dX7_free_109 : decode cX7_free 109 = .ok (.ifCond .le 7, 3) := by decide +kernel
theorem dX7_free_112 : decode cX7_free 112 = .ok (.iconst 1, 1) := by decide +kernel
theorem dX7_free_113 : decode cX7_free 113 = .ok (.goto 4, 3) := by decide +kernel
theorem dX7_free_116 : decode cX7_free 116 = .ok (.iconst 0, 1) := by decide +kernel
theorem dX7_free_117 : decode cX7_free 117 = .ok (.iadd, 1) := by decide +kernel
theorem dX7_free_118 : decode cX7_free 118 = .ok (.istore_n 3, 1) := by decide +kernel
theorem dX7_free_119 : decode cX7_free 119 = .ok (.iload 8, 2) := by decide +kernel
theorem dX7_free_121 : decode cX7_free 121 = .ok (.iload 4, 2) := by decide +kernel
theorem dX7_free_123 : decode cX7_free 123 = .ok (.if_icmp .le 8, 3) := by decide +kernel
theorem dX7_free_126 : decode cX7_free 126 = .ok (.iload 8, 2) := by decide +kernel
theorem dX7_free_128 : decode cX7_free 128 = .ok (.goto 5, 3) := by decide +kernel
theorem dX7_free_131 : decode cX7_free 131 = .ok (.iload 4, 2) := by decide +kernel
theorem dX7_free_133 : decode cX7_free 133 = .ok (.istore 4, 2) := by decide +kernel
theorem dX7_free_135 : decode cX7_free 135 = .ok (.iload 6, 2) := by decide +kernel
theorem dX7_free_137 : decode cX7_free 137 = .ok (.iload 8, 2) := by decide +kernel
theorem dX7_free_139 : decode cX7_free 139 = .ok (.iconst 4, 1) := by decide +kernel
theorem dX7_free_140 : decode cX7_free 140 = .ok (.idiv, 1) := by decide +kernel
theorem dX7_free_141 : decode cX7_free 141 = .ok (.iadd, 1) := by decide +kernel
theorem dX7_free_142 : decode cX7_free 142 = .ok (.istore 6, 2) := by decide +kernel
theorem dX7_free_144 : decode cX7_free 144 = .ok (.iload 7, 2) := by decide +kernel
theorem dX7_free_146 : decode cX7_free 146 = .ok (.iload 8, 2) := by decide +kernel
theorem dX7_free_148 : decode cX7_free 148 = .ok (.iadd, 1) := by decide +kernel
theorem dX7_free_149 : decode cX7_free 149 = .ok (.istore 7, 2) := by decide +kernel
theorem dX7_free_151 : decode cX7_free 151 = .ok (.iload 7, 2) := by decide +kernel
theorem dX7_free_153 : decode cX7_free 153 = .ok (.iload 7, 2) := by decide +kernel
theorem dX7_free_155 : decode cX7_free 155 = .ok (.aload_n 0, 1) := by decide +kernel
theorem dX7_free_156 : decode cX7_free 156 = .ok (.getfield 7, 3) := by decide +kernel
theorem dX7_free_159 : decode cX7_free 159 = .ok (.sipush 1216, 3) := by decide +kernel
theorem dX7_free_162 : decode cX7_free 162 = .ok (.iaload, 1) := by decide +kernel
theorem dX7_free_163 : decode cX7_free 163 = .ok (.if_icmp .ge 15, 3) := by decide +kernel
theorem dX7_free_166 : decode cX7_free 166 = .ok (.aload_n 0, 1) := by decide +kernel
theorem dX7_free_167 : decode cX7_free 167 = .ok (.getfield 7, 3) := by decide +kernel
theorem dX7_free_170 : decode cX7_free 170 = .ok (.iconst 0, 1) := by decide +kernel
theorem dX7_free_171 : decode cX7_free 171 = .ok (.iload 7, 2) := by decide +kernel
theorem dX7_free_173 : decode cX7_free 173 = .ok (.iadd, 1) := by decide +kernel
theorem dX7_free_174 : decode cX7_free 174 = .ok (.iaload, 1) := by decide +kernel
theorem dX7_free_175 : decode cX7_free 175 = .ok (.goto 4, 3) := by decide +kernel
theorem dX7_free_178 : decode cX7_free 178 = .ok (.iconst 0, 1) := by decide +kernel
theorem dX7_free_179 : decode cX7_free 179 = .ok (.iadd, 1) := by decide +kernel
theorem dX7_free_180 : decode cX7_free 180 = .ok (.istore 7, 2) := by decide +kernel
theorem dX7_free_182 : decode cX7_free 182 = .ok (.goto (-154), 3) := by decide +kernel
theorem dX7_free_185 : decode cX7_free 185 = .ok (.iload_n 1, 1) := by decide +kernel
theorem dX7_free_186 : decode cX7_free 186 = .ok (.ifCond .ne 7, 3) := by decide +kernel
theorem dX7_free_189 : decode cX7_free 189 = .ok (.iload_n 2, 1) := by decide +kernel
theorem dX7_free_190 : decode cX7_free 190 = .ok (.goto 34, 3) := by decide +kernel
theorem dX7_free_193 : decode cX7_free 193 = .ok (.iload_n 1, 1) := by decide +kernel
theorem dX7_free_194 : decode cX7_free 194 = .ok (.iconst 1, 1) := by decide +kernel
theorem dX7_free_195 : decode cX7_free 195 = .ok (.if_icmp .ne 7, 3) := by decide +kernel
theorem dX7_free_198 : decode cX7_free 198 = .ok (.iload_n 3, 1) := by decide +kernel
theorem dX7_free_199 : decode cX7_free 199 = .ok (.goto 25, 3) := by decide +kernel
theorem dX7_free_202 : decode cX7_free 202 = .ok (.iload_n 1, 1) := by decide +kernel
theorem dX7_free_203 : decode cX7_free 203 = .ok (.iconst 2, 1) := by decide +kernel
theorem dX7_free_204 : decode cX7_free 204 = .ok (.if_icmp .ne 8, 3) := by decide +kernel
theorem dX7_free_207 : decode cX7_free 207 = .ok (.iload 4, 2) := by decide +kernel
theorem dX7_free_209 : decode cX7_free 209 = .ok (.goto 15, 3) := by decide +kernel
theorem dX7_free_212 : decode cX7_free 212 = .ok (.iload_n 1, 1) := by decide +kernel
theorem dX7_free_213 : decode cX7_free 213 = .ok (.iconst 3, 1) := by decide +kernel
theorem dX7_free_214 : decode cX7_free 214 = .ok (.if_icmp .ne 8, 3) := by decide +kernel
theorem dX7_free_217 : decode cX7_free 217 = .ok (.iload 5, 2) := by decide +kernel
theorem dX7_free_219 : decode cX7_free 219 = .ok (.goto 5, 3) := by decide +kernel
theorem dX7_free_222 : decode cX7_free 222 = .ok (.iload 6, 2) := by decide +kernel
theorem dX7_free_224 : decode cX7_free 224 = .ok (.ireturn, 1) := by decide +kernel
theorem dX7_type_0 : decode cX7_type 0 = .ok (.iload_n 1, 1) := by decide +kernel
theorem dX7_type_1 : decode cX7_type 1 = .ok (.iconst 0, 1) := by decide +kernel
theorem dX7_type_2 : decode cX7_type 2 = .ok (.bipush 127, 2) := by decide +kernel
theorem dX7_type_4 : decode cX7_type 4 = .ok (.invokestatic 46, 3) := by decide +kernel
theorem dX7_type_7 : decode cX7_type 7 = .ok (.ifCond .ne 6, 3) := by decide +kernel
theorem dX7_type_10 : decode cX7_type 10 = .ok (.ldc 50, 2) := by decide +kernel
theorem dX7_type_12 : decode cX7_type 12 = .ok (.ireturn, 1) := by decide +kernel
theorem dX7_type_13 : decode cX7_type 13 = .ok (.aload_n 0, 1) := by decide +kernel
theorem dX7_type_14 : decode cX7_type 14 = .ok (.getfield 126, 3) := by decide +kernel
theorem dX7_type_17 : decode cX7_type 17 = .ok (.bipush 80, 2) := by decide +kernel
theorem dX7_type_19 : decode cX7_type 19 = .ok (.if_icmp .ne 6, 3) := by decide +kernel
theorem dX7_type_22 : decode cX7_type 22 = .ok (.ldc 59, 2) := by decide +kernel
theorem dX7_type_24 : decode cX7_type 24 = .ok (.ireturn, 1) := by decide +kernel
theorem dX7_type_25 : decode cX7_type 25 = .ok (.aload_n 0, 1) := by decide +kernel
theorem dX7_type_26 : decode cX7_type 26 = .ok (.getfield 23, 3) := by decide +kernel
theorem dX7_type_29 : decode cX7_type 29 = .ok (.aload_n 0, 1) := by decide +kernel
theorem dX7_type_30 : decode cX7_type 30 = .ok (.getfield 126, 3) := by decide +kernel
theorem dX7_type_33 : decode cX7_type 33 = .ok (.iload_n 1, 1) := by decide +kernel
theorem dX7_type_34 : decode cX7_type 34 = .ok (.iastore, 1) := by decide +kernel
theorem dX7_type_35 : decode cX7_type 35 = .ok (.aload_n 0, 1) := by decide +kernel
theorem dX7_type_36 : decode cX7_type 36 = .ok (.dup, 1) := by decide +kernel
theorem dX7_type_37 : decode cX7_type 37 = .ok (.getfield 126, 3) := by decide +kernel
theorem dX7_type_40 : decode cX7_type 40 = .ok (.iconst 1, 1) := by decide +kernel
theorem dX7_type_41 : decode cX7_type 41 = .ok (.iadd, 1) := by decide +kernel
theorem dX7_type_42 : decode cX7_type 42 = .ok (.putfield 126, 3) := by decide +kernel
theorem dX7_type_45 : decode cX7_type 45 = .ok (.aload_n 0, 1) := by decide +kernel
theorem dX7_type_46 : decode cX7_type 46 = .ok (.getfield 126, 3) := by decide +kernel
theorem dX7_type_49 : decode cX7_type 49 = .ok (.ireturn, 1) := by decide +kernel
theorem dX7_clearText_0 : decode cX7_clearText 0 = .ok (.aload_n 0, 1) := by decide +kernel
theorem dX7_clearText_1 : decode cX7_clearText 1 = .ok (.getfield 126, 3) := by decide +kernel
theorem dX7_clearText_4 : decode cX7_clearText 4 = .ok (.istore_n 1, 1) := by decide +kernel
theorem dX7_clearText_5 : decode cX7_clearText 5 = .ok (.aload_n 0, 1) := by decide +kernel
theorem dX7_clearText_6 : decode cX7_clearText 6 = .ok (.iconst 0, 1) := by decide +kernel
theorem dX7_clearText_7 : decode cX7_clearText 7 = .ok (.putfield 126, 3) := by decide +kernel
theorem dX7_clearText_10 : decode cX7_clearText 10 = .ok (.iload_n 1, 1) := by decide +kernel
theorem dX7_clearText_11 : decode cX7_clearText 11 = .ok (.ireturn, 1) := by decide +kernel
theorem dX7_next__0 : decode cX7_next_ 0 = .ok (.aload_n 0, 1) := by decide +kernel
theorem dX7_next__1 : decode cX7_next_ 1 = .ok (.getfield 129, 3) := by decide +kernel
theorem dX7_next__4 : decode cX7_next_ 4 = .ok (.aload_n 0, 1) := by decide +kernel
theorem dX7_next__5 : decode cX7_next_ 5 = .ok (.getfield 126, 3) := by decide +kernel
theorem dX7_next__8 : decode cX7_next_ 8 = .ok (.if_icmp .ge 15, 3) := by decide +kernel
theorem dX7_next__11 : decode cX7_next_ 11 = .ok (.aload_n 0, 1) := by decide +kernel
theorem dX7_next__12 : decode cX7_next_ 12 = .ok (.getfield 23, 3) := by decide +kernel
theorem dX7_next__15 : decode cX7_next_ 15 = .ok (.aload_n 0, 1) := by decide +kernel
theorem dX7_next__16 : decode cX7_next_ 16 = .ok (.getfield 129, 3) := by decide +kernel
theorem dX7_next__19 : decode cX7_next_ 19 = .ok (.iaload, 1) := by decide +kernel
theorem dX7_next__20 : decode cX7_next_ 20 = .ok (.goto 4, 3) := by decide +kernel
theorem dX7_next__23 : decode cX7_next_ 23 = .ok (.iconst (-1), 1) := by decide +kernel
theorem dX7_next__24 : decode cX7_next_ 24 = .ok (.ireturn, 1) := by decide +kernel
theorem dX7_blanks_0 : decode cX7_blanks 0 = .ok (.aload_n 0, 1) := by decide +kernel
theorem dX7_blanks_1 : decode cX7_blanks 1 = .ok (.invokevirtual 132, 3) := by decide +kernel
theorem dX7_blanks_4 : decode cX7_blanks 4 = .ok (.bipush 32, 2) := by decide +kernel
theorem dX7_blanks_6 : decode cX7_blanks 6 = .ok (.if_icmp .ne 16, 3) := by decide +kernel
theorem dX7_blanks_9 : decode cX7_blanks 9 = .ok (.aload_n 0, 1) := by decide +kernel
theorem dX7_blanks_10 : decode cX7_blanks 10 = .ok (.dup, 1) := by decide +kernel
theorem dX7_blanks_11 : decode cX7_blanks 11 = .ok (.getfield 129, 3) := by decide +kernel
theorem dX7_blanks_14 : decode cX7_blanks 14 = .ok (.iconst 1, 1) := by decide +kernel
theorem dX7_blanks_15 : decode cX7_blanks 15 = .ok (.iadd, 1) := by decide +kernel
theorem dX7_blanks_16 : decode cX7_blanks 16 = .ok (.putfield 129, 3) := by decide +kernel
theorem dX7_blanks_19 : decode cX7_blanks 19 = .ok (.goto (-19), 3) := by decide +kernel
theorem dX7_blanks_22 : decode cX7_blanks 22 = .ok (.return_, 1) := by decide +kernel
theorem dX7_fails_0 : decode cX7_fails 0 = .ok (.aload_n 0, 1) := by decide +kernel
theorem dX7_fails_1 : decode cX7_fails 1 = .ok (.aload_n 0, 1) := by decide +kernel
theorem dX7_fails_2 : decode cX7_fails 2 = .ok (.getfield 135, 3) := by decide +kernel
theorem dX7_fails_5 : decode cX7_fails 5 = .ok (.iconst (-1), 1) := by decide +kernel
theorem dX7_fails_6 : decode cX7_fails 6 = .ok (.if_icmp .ne 10, 3) := by decide +kernel
theorem dX7_fails_9 : decode cX7_fails 9 = .ok (.aload_n 0, 1) := by decide +kernel
theorem dX7_fails_10 : decode cX7_fails 10 = .ok (.getfield 129, 3) := by decide +kernel
theorem dX7_fails_13 : decode cX7_fails 13 = .ok (.goto 7, 3) := by decide +kernel
theorem dX7_fails_16 : decode cX7_fails 16 = .ok (.aload_n 0, 1) := by decide +kernel
theorem dX7_fails_17 : decode cX7_fails 17 = .ok (.getfield 135, 3) := by decide +kernel
theorem dX7_fails_20 : decode cX7_fails 20 = .ok (.putfield 135, 3) := by decide +kernel
theorem dX7_fails_23 : decode cX7_fails 23 = .ok (.return_, 1) := by decide +kernel
theorem dX7_isDigit_0 : decode cX7_isDigit 0 = .ok (.aload_n 0, 1) := by decide +kernel
theorem dX7_isDigit_1 : decode cX7_isDigit 1 = .ok (.invokevirtual 132, 3) := by decide +kernel
theorem dX7_isDigit_4 : decode cX7_isDigit 4 = .ok (.bipush 48, 2) := by decide +kernel
theorem dX7_isDigit_6 : decode cX7_isDigit 6 = .ok (.bipush 57, 2) := by decide +kernel
theorem dX7_isDigit_8 : decode cX7_isDigit 8 = .ok (.invokestatic 46, 3) := by decide +kernel
theorem dX7_isDigit_11 : decode cX7_isDigit 11 = .ok (.ireturn, 1) := by decide +kernel
theorem dX7_digit_0 : decode cX7_digit 0 = .ok (.aload_n 0, 1) := by decide +kernel
theorem dX7_digit_1 : decode cX7_digit 1 = .ok (.invokevirtual 132, 3) := by decide +kernel
theorem dX7_digit_4 : decode cX7_digit 4 = .ok (.bipush 48, 2) := by decide +kernel
theorem dX7_digit_6 : decode cX7_digit 6 = .ok (.isub, 1) := by decide +kernel
theorem dX7_digit_7 : decode cX7_digit 7 = .ok (.istore_n 1, 1) := by decide +kernel
theorem dX7_digit_8 : decode cX7_digit 8 = .ok (.aload_n 0, 1) := by decide +kernel
theorem dX7_digit_9 : decode cX7_digit 9 = .ok (.getfield 135, 3) := by decide +kernel
theorem dX7_digit_12 : decode cX7_digit 12 = .ok (.iconst (-1), 1) := by decide +kernel
theorem dX7_digit_13 : decode cX7_digit 13 = .ok (.if_icmp .ne 10, 3) := by decide +kernel
theorem dX7_digit_16 : decode cX7_digit 16 = .ok (.aload_n 0, 1) := by decide +kernel
theorem dX7_digit_17 : decode cX7_digit 17 = .ok (.invokevirtual 138, 3) := by decide +kernel
theorem dX7_digit_20 : decode cX7_digit 20 = .ok (.ifCond .ne 9, 3) := by decide +kernel
theorem dX7_digit_23 : decode cX7_digit 23 = .ok (.aload_n 0, 1) := by decide +kernel
theorem dX7_digit_24 : decode cX7_digit 24 = .ok (.invokevirtual 142, 3) := by decide +kernel
theorem dX7_digit_27 : decode cX7_digit 27 = .ok (.iconst 0, 1) := by decide +kernel
theorem dX7_digit_28 : decode cX7_digit 28 = .ok (.ireturn, 1) := by decide +kernel
theorem dX7_digit_29 : decode cX7_digit 29 = .ok (.aload_n 0, 1) := by decide +kernel
theorem dX7_digit_30 : decode cX7_digit 30 = .ok (.dup, 1) := by decide +kernel
theorem dX7_digit_31 : decode cX7_digit 31 = .ok (.getfield 129, 3) := by decide +kernel
theorem dX7_digit_34 : decode cX7_digit 34 = .ok (.iconst 1, 1) := by decide +kernel
theorem dX7_digit_35 : decode cX7_digit 35 = .ok (.iadd, 1) := by decide +kernel
theorem dX7_digit_36 : decode cX7_digit 36 = .ok (.putfield 129, 3) := by decide +kernel
theorem dX7_digit_39 : decode cX7_digit 39 = .ok (.aload_n 0, 1) := by decide +kernel
theorem dX7_digit_40 : decode cX7_digit 40 = .ok (.invokevirtual 145, 3) := by decide +kernel
theorem dX7_digit_43 : decode cX7_digit 43 = .ok (.iload_n 1, 1) := by decide +kernel
theorem dX7_digit_44 : decode cX7_digit 44 = .ok (.ireturn, 1) := by decide +kernel
theorem dX7_number_0 : decode cX7_number 0 = .ok (.aload_n 0, 1) := by decide +kernel
theorem dX7_number_1 : decode cX7_number 1 = .ok (.getfield 129, 3) := by decide +kernel
theorem dX7_number_4 : decode cX7_number 4 = .ok (.istore_n 1, 1) := by decide +kernel
theorem dX7_number_5 : decode cX7_number 5 = .ok (.iconst 0, 1) := by decide +kernel
theorem dX7_number_6 : decode cX7_number 6 = .ok (.istore_n 2, 1) := by decide +kernel
theorem dX7_number_7 : decode cX7_number 7 = .ok (.aload_n 0, 1) := by decide +kernel
theorem dX7_number_8 : decode cX7_number 8 = .ok (.getfield 135, 3) := by decide +kernel
theorem dX7_number_11 : decode cX7_number 11 = .ok (.iconst (-1), 1) := by decide +kernel
theorem dX7_number_12 : decode cX7_number 12 = .ok (.if_icmp .ne 46, 3) := by decide +kernel
theorem dX7_number_15 : decode cX7_number 15 = .ok (.aload_n 0, 1) := by decide +kernel
theorem dX7_number_16 : decode cX7_number 16 = .ok (.invokevirtual 138, 3) := by decide +kernel
theorem dX7_number_19 : decode cX7_number 19 = .ok (.ifCond .eq 39, 3) := by decide +kernel
theorem dX7_number_22 : decode cX7_number 22 = .ok (.aload_n 0, 1) := by decide +kernel
theorem dX7_number_23 : decode cX7_number 23 = .ok (.getfield 129, 3) := by decide +kernel
theorem dX7_number_26 : decode cX7_number 26 = .ok (.iload_n 1, 1) := by decide +kernel
theorem dX7_number_27 : decode cX7_number 27 = .ok (.iconst 3, 1) := by decide +kernel
theorem dX7_number_28 : decode cX7_number 28 = .ok (.iadd, 1) := by decide +kernel
theorem dX7_number_29 : decode cX7_number 29 = .ok (.if_icmp .ge 29, 3) := by decide +kernel
theorem dX7_number_32 : decode cX7_number 32 = .ok (.bipush 10, 2) := by decide +kernel
theorem dX7_number_34 : decode cX7_number 34 = .ok (.iload_n 2, 1) := by decide +kernel
theorem dX7_number_35 : decode cX7_number 35 = .ok (.imul, 1) := by decide +kernel
theorem dX7_number_36 : decode cX7_number 36 = .ok (.aload_n 0, 1) := by decide +kernel
theorem dX7_number_37 : decode cX7_number 37 = .ok (.invokevirtual 132, 3) := by decide +kernel
theorem dX7_number_40 : decode cX7_number 40 = .ok (.iadd, 1) := by decide +kernel
theorem dX7_number_41 : decode cX7_number 41 = .ok (.bipush 48, 2) := by decide +kernel
theorem dX7_number_43 : decode cX7_number 43 = .ok (.isub, 1) := by decide +kernel
theorem dX7_number_44 : decode cX7_number 44 = .ok (.istore_n 2, 1) := by decide +kernel
theorem dX7_number_45 : decode cX7_number 45 = .ok (.aload_n 0, 1) := by decide +kernel
theorem dX7_number_46 : decode cX7_number 46 = .ok (.dup, 1) := by decide +kernel
theorem dX7_number_47 : decode cX7_number 47 = .ok (.getfield 129, 3) := by decide +kernel
theorem dX7_number_50 : decode cX7_number 50 = .ok (.iconst 1, 1) := by decide +kernel
theorem dX7_number_51 : decode cX7_number 51 = .ok (.iadd, 1) := by decide +kernel
theorem dX7_number_52 : decode cX7_number 52 = .ok (.putfield 129, 3) := by decide +kernel
theorem dX7_number_55 : decode cX7_number 55 = .ok (.goto (-48), 3) := by decide +kernel
theorem dX7_number_58 : decode cX7_number 58 = .ok (.aload_n 0, 1) := by decide +kernel
theorem dX7_number_59 : decode cX7_number 59 = .ok (.getfield 129, 3) := by decide +kernel
theorem dX7_number_62 : decode cX7_number 62 = .ok (.iload_n 1, 1) := by decide +kernel
theorem dX7_number_63 : decode cX7_number 63 = .ok (.if_icmp .eq 10, 3) := by decide +kernel
theorem dX7_number_66 : decode cX7_number 66 = .ok (.aload_n 0, 1) := by decide +kernel
theorem dX7_number_67 : decode cX7_number 67 = .ok (.invokevirtual 138, 3) := by decide +kernel
theorem dX7_number_70 : decode cX7_number 70 = .ok (.ifCond .eq 7, 3) := by decide +kernel
theorem dX7_number_73 : decode cX7_number 73 = .ok (.aload_n 0, 1) := by decide +kernel
theorem dX7_number_74 : decode cX7_number 74 = .ok (.invokevirtual 142, 3) := by decide +kernel
theorem dX7_number_77 : decode cX7_number 77 = .ok (.aload_n 0, 1) := by decide +kernel
theorem dX7_number_78 : decode cX7_number 78 = .ok (.invokevirtual 145, 3) := by decide +kernel
theorem dX7_number_81 : decode cX7_number 81 = .ok (.iload_n 2, 1) := by decide +kernel
theorem dX7_number_82 : decode cX7_number 82 = .ok (.ireturn, 1) := by decide +kernel
theorem dX7_place_0 : decode cX7_place 0 = .ok (.aload_n 0, 1) := by decide +kernel
theorem dX7_place_1 : decode cX7_place 1 = .ok (.getfield 135, 3) := by decide +kernel
theorem dX7_place_4 : decode cX7_place 4 = .ok (.iconst (-1), 1) := by decide +kernel
theorem dX7_place_5 : decode cX7_place 5 = .ok (.if_icmp .ne 28, 3) := by decide +kernel
theorem dX7_place_8 : decode cX7_place 8 = .ok (.aload_n 0, 1) := by decide +kernel
theorem dX7_place_9 : decode cX7_place 9 = .ok (.invokevirtual 132, 3) := by decide +kernel
theorem dX7_place_12 : decode cX7_place 12 = .ok (.bipush 45, 2) := by decide +kernel
theorem dX7_place_14 : decode cX7_place 14 = .ok (.if_icmp .ne 19, 3) := by decide +kernel
theorem dX7_place_17 : decode cX7_place 17 = .ok (.aload_n 0, 1) := by decide +kernel
theorem dX7_place_18 : decode cX7_place 18 = .ok (.dup, 1) := by decide +kernel
theorem dX7_place_19 : decode cX7_place 19 = .ok (.getfield 129, 3) := by decide +kernel
theorem dX7_place_22 : decode cX7_place 22 = .ok (.iconst 1, 1) := by decide +kernel
theorem dX7_place_23 : decode cX7_place 23 = .ok (.iadd, 1) := by decide +kernel
theorem dX7_place_24 : decode cX7_place 24 = .ok (.putfield 129, 3) := by decide +kernel
theorem dX7_place_27 : decode cX7_place 27 = .ok (.aload_n 0, 1) := by decide +kernel
theorem dX7_place_28 : decode cX7_place 28 = .ok (.invokevirtual 145, 3) := by decide +kernel
theorem dX7_place_31 : decode cX7_place 31 = .ok (.iconst (-1), 1) := by decide +kernel
theorem dX7_place_32 : decode cX7_place 32 = .ok (.ireturn, 1) := by decide +kernel
theorem dX7_place_33 : decode cX7_place 33 = .ok (.aload_n 0, 1) := by decide +kernel
theorem dX7_place_34 : decode cX7_place 34 = .ok (.invokevirtual 148, 3) := by decide +kernel
theorem dX7_place_37 : decode cX7_place 37 = .ok (.ireturn, 1) := by decide +kernel
theorem dX7_reads_0 : decode cX7_reads 0 = .ok (.aload_n 0, 1) := by decide +kernel
theorem dX7_reads_1 : decode cX7_reads 1 = .ok (.invokevirtual 132, 3) := by decide +kernel
theorem dX7_reads_4 : decode cX7_reads 4 = .ok (.istore_n 1, 1) := by decide +kernel
theorem dX7_reads_5 : decode cX7_reads 5 = .ok (.iconst 4, 1) := by decide +kernel
theorem dX7_reads_6 : decode cX7_reads 6 = .ok (.aload_n 0, 1) := by decide +kernel
theorem dX7_reads_7 : decode cX7_reads 7 = .ok (.getfield 151, 3) := by decide +kernel
theorem dX7_reads_10 : decode cX7_reads 10 = .ok (.imul, 1) := by decide +kernel
theorem dX7_reads_11 : decode cX7_reads 11 = .ok (.istore_n 2, 1) := by decide +kernel
theorem dX7_reads_12 : decode cX7_reads 12 = .ok (.iload_n 1, 1) := by decide +kernel
theorem dX7_reads_13 : decode cX7_reads 13 = .ok (.bipush 110, 2) := by decide +kernel
theorem dX7_reads_15 : decode cX7_reads 15 = .ok (.if_icmp .eq 44, 3) := by decide +kernel
theorem dX7_reads_18 : decode cX7_reads 18 = .ok (.iload_n 1, 1) := by decide +kernel
theorem dX7_reads_19 : decode cX7_reads 19 = .ok (.bipush 114, 2) := by decide +kernel
theorem dX7_reads_21 : decode cX7_reads 21 = .ok (.if_icmp .eq 38, 3) := by decide +kernel
theorem dX7_reads_24 : decode cX7_reads 24 = .ok (.iload_n 1, 1) := by decide +kernel
theorem dX7_reads_25 : decode cX7_reads 25 = .ok (.bipush 119, 2) := by decide +kernel
theorem dX7_reads_27 : decode cX7_reads 27 = .ok (.if_icmp .eq 32, 3) := by decide +kernel
theorem dX7_reads_30 : decode cX7_reads 30 = .ok (.iload_n 1, 1) := by decide +kernel
theorem dX7_reads_31 : decode cX7_reads 31 = .ok (.bipush 102, 2) := by decide +kernel
theorem dX7_reads_33 : decode cX7_reads 33 = .ok (.if_icmp .eq 26, 3) := by decide +kernel
theorem dX7_reads_36 : decode cX7_reads 36 = .ok (.iload_n 1, 1) := by decide +kernel
theorem dX7_reads_37 : decode cX7_reads 37 = .ok (.bipush 112, 2) := by decide +kernel
theorem dX7_reads_39 : decode cX7_reads 39 = .ok (.if_icmp .eq 20, 3) := by decide +kernel
theorem dX7_reads_42 : decode cX7_reads 42 = .ok (.iload_n 1, 1) := by decide +kernel
theorem dX7_reads_43 : decode cX7_reads 43 = .ok (.bipush 117, 2) := by decide +kernel
theorem dX7_reads_45 : decode cX7_reads 45 = .ok (.if_icmp .eq 14, 3) := by decide +kernel
theorem dX7_reads_48 : decode cX7_reads 48 = .ok (.iload_n 1, 1) := by decide +kernel
theorem dX7_reads_49 : decode cX7_reads 49 = .ok (.bipush 99, 2) := by decide +kernel
theorem dX7_reads_51 : decode cX7_reads 51 = .ok (.if_icmp .eq 8, 3) := by decide +kernel
theorem dX7_reads_54 : decode cX7_reads 54 = .ok (.aload_n 0, 1) := by decide +kernel
theorem dX7_reads_55 : decode cX7_reads 55 = .ok (.invokevirtual 142, 3) := by decide +kernel
theorem dX7_reads_58 : decode cX7_reads 58 = .ok (.return_, 1) := by decide +kernel
theorem dX7_reads_59 : decode cX7_reads 59 = .ok (.aload_n 0, 1) := by decide +kernel
theorem dX7_reads_60 : decode cX7_reads 60 = .ok (.getfield 39, 3) := by decide +kernel
theorem dX7_reads_63 : decode cX7_reads 63 = .ok (.iload_n 2, 1) := by decide +kernel
theorem dX7_reads_64 : decode cX7_reads 64 = .ok (.iload_n 1, 1) := by decide +kernel
theorem dX7_reads_65 : decode cX7_reads 65 = .ok (.iastore, 1) := by decide +kernel
theorem dX7_reads_66 : decode cX7_reads 66 = .ok (.aload_n 0, 1) := by decide +kernel
theorem dX7_reads_67 : decode cX7_reads 67 = .ok (.dup, 1) := by decide +kernel
theorem dX7_reads_68 : decode cX7_reads 68 = .ok (.getfield 129, 3) := by decide +kernel
theorem dX7_reads_71 : decode cX7_reads 71 = .ok (.iconst 1, 1) := by decide +kernel
theorem dX7_reads_72 : decode cX7_reads 72 = .ok (.iadd, 1) := by decide +kernel
theorem dX7_reads_73 : decode cX7_reads 73 = .ok (.putfield 129, 3) := by decide +kernel
theorem dX7_reads_76 : decode cX7_reads 76 = .ok (.aload_n 0, 1) := by decide +kernel
theorem dX7_reads_77 : decode cX7_reads 77 = .ok (.invokevirtual 145, 3) := by decide +kernel
theorem dX7_reads_80 : decode cX7_reads 80 = .ok (.iload_n 1, 1) := by decide +kernel
theorem dX7_reads_81 : decode cX7_reads 81 = .ok (.bipush 110, 2) := by decide +kernel
theorem dX7_reads_83 : decode cX7_reads 83 = .ok (.if_icmp .ne 30, 3) := by decide +kernel
theorem dX7_reads_86 : decode cX7_reads 86 = .ok (.aload_n 0, 1) := by decide +kernel
theorem dX7_reads_87 : decode cX7_reads 87 = .ok (.getfield 39, 3) := by decide +kernel
theorem dX7_reads_90 : decode cX7_reads 90 = .ok (.iload_n 2, 1) := by decide +kernel
theorem dX7_reads_91 : decode cX7_reads 91 = .ok (.iconst 1, 1) := by decide +kernel
theorem dX7_reads_92 : decode cX7_reads 92 = .ok (.iadd, 1) := by decide +kernel
theorem dX7_reads_93 : decode cX7_reads 93 = .ok (.aload_n 0, 1) := by decide +kernel
theorem dX7_reads_94 : decode cX7_reads 94 = .ok (.invokevirtual 154, 3) := by decide +kernel
theorem dX7_reads_97 : decode cX7_reads 97 = .ok (.iastore, 1) := by decide +kernel
theorem dX7_reads_98 : decode cX7_reads 98 = .ok (.aload_n 0, 1) := by decide +kernel
theorem dX7_reads_99 : decode cX7_reads 99 = .ok (.getfield 39, 3) := by decide +kernel
theorem dX7_reads_102 : decode cX7_reads 102 = .ok (.iload_n 2, 1) := by decide +kernel
theorem dX7_reads_103 : decode cX7_reads 103 = .ok (.iconst 2, 1) := by decide +kernel
theorem dX7_reads_104 : decode cX7_reads 104 = .ok (.iadd, 1) := by decide +kernel
theorem dX7_reads_105 : decode cX7_reads 105 = .ok (.aload_n 0, 1) := by decide +kernel
theorem dX7_reads_106 : decode cX7_reads 106 = .ok (.invokevirtual 154, 3) := by decide +kernel
theorem dX7_reads_109 : decode cX7_reads 109 = .ok (.iastore, 1) := by decide +kernel
theorem dX7_reads_110 : decode cX7_reads 110 = .ok (.goto 105, 3) := by decide +kernel
theorem dX7_reads_113 : decode cX7_reads 113 = .ok (.iload_n 1, 1) := by decide +kernel
theorem dX7_reads_114 : decode cX7_reads 114 = .ok (.bipush 114, 2) := by decide +kernel
theorem dX7_reads_116 : decode cX7_reads 116 = .ok (.if_icmp .eq 9, 3) := by decide +kernel
theorem dX7_reads_119 : decode cX7_reads 119 = .ok (.iload_n 1, 1) := by decide +kernel
theorem dX7_reads_120 : decode cX7_reads 120 = .ok (.bipush 119, 2) := by decide +kernel
theorem dX7_reads_122 : decode cX7_reads 122 = .ok (.if_icmp .ne 30, 3) := by decide +kernel
theorem dX7_reads_125 : decode cX7_reads 125 = .ok (.aload_n 0, 1) := by decide +kernel
theorem dX7_reads_126 : decode cX7_reads 126 = .ok (.getfield 39, 3) := by decide +kernel
theorem dX7_reads_129 : decode cX7_reads 129 = .ok (.iload_n 2, 1) := by decide +kernel
theorem dX7_reads_130 : decode cX7_reads 130 = .ok (.iconst 1, 1) := by decide +kernel
theorem dX7_reads_131 : decode cX7_reads 131 = .ok (.iadd, 1) := by decide +kernel
theorem dX7_reads_132 : decode cX7_reads 132 = .ok (.aload_n 0, 1) := by decide +kernel
theorem dX7_reads_133 : decode cX7_reads 133 = .ok (.invokevirtual 154, 3) := by decide +kernel
theorem dX7_reads_136 : decode cX7_reads 136 = .ok (.iastore, 1) := by decide +kernel
theorem dX7_reads_137 : decode cX7_reads 137 = .ok (.aload_n 0, 1) := by decide +kernel
theorem dX7_reads_138 : decode cX7_reads 138 = .ok (.getfield 39, 3) := by decide +kernel
theorem dX7_reads_141 : decode cX7_reads 141 = .ok (.iload_n 2, 1) := by decide +kernel
theorem dX7_reads_142 : decode cX7_reads 142 = .ok (.iconst 2, 1) := by decide +kernel
theorem dX7_reads_143 : decode cX7_reads 143 = .ok (.iadd, 1) := by decide +kernel
theorem dX7_reads_144 : decode cX7_reads 144 = .ok (.aload_n 0, 1) := by decide +kernel
theorem dX7_reads_145 : decode cX7_reads 145 = .ok (.invokevirtual 157, 3) := by decide +kernel
theorem dX7_reads_148 : decode cX7_reads 148 = .ok (.iastore, 1) := by decide +kernel
theorem dX7_reads_149 : decode cX7_reads 149 = .ok (.goto 66, 3) := by decide +kernel
theorem dX7_reads_152 : decode cX7_reads 152 = .ok (.iload_n 1, 1) := by decide +kernel
theorem dX7_reads_153 : decode cX7_reads 153 = .ok (.bipush 102, 2) := by decide +kernel
theorem dX7_reads_155 : decode cX7_reads 155 = .ok (.if_icmp .ne 42, 3) := by decide +kernel
theorem dX7_reads_158 : decode cX7_reads 158 = .ok (.aload_n 0, 1) := by decide +kernel
theorem dX7_reads_159 : decode cX7_reads 159 = .ok (.getfield 39, 3) := by decide +kernel
theorem dX7_reads_162 : decode cX7_reads 162 = .ok (.iload_n 2, 1) := by decide +kernel
theorem dX7_reads_163 : decode cX7_reads 163 = .ok (.iconst 1, 1) := by decide +kernel
theorem dX7_reads_164 : decode cX7_reads 164 = .ok (.iadd, 1) := by decide +kernel
theorem dX7_reads_165 : decode cX7_reads 165 = .ok (.aload_n 0, 1) := by decide +kernel
theorem dX7_reads_166 : decode cX7_reads 166 = .ok (.invokevirtual 148, 3) := by decide +kernel
theorem dX7_reads_169 : decode cX7_reads 169 = .ok (.iastore, 1) := by decide +kernel
theorem dX7_reads_170 : decode cX7_reads 170 = .ok (.aload_n 0, 1) := by decide +kernel
theorem dX7_reads_171 : decode cX7_reads 171 = .ok (.getfield 39, 3) := by decide +kernel
theorem dX7_reads_174 : decode cX7_reads 174 = .ok (.iload_n 2, 1) := by decide +kernel
theorem dX7_reads_175 : decode cX7_reads 175 = .ok (.iconst 2, 1) := by decide +kernel
theorem dX7_reads_176 : decode cX7_reads 176 = .ok (.iadd, 1) := by decide +kernel
theorem dX7_reads_177 : decode cX7_reads 177 = .ok (.aload_n 0, 1) := by decide +kernel
theorem dX7_reads_178 : decode cX7_reads 178 = .ok (.invokevirtual 154, 3) := by decide +kernel
theorem dX7_reads_181 : decode cX7_reads 181 = .ok (.iastore, 1) := by decide +kernel
theorem dX7_reads_182 : decode cX7_reads 182 = .ok (.aload_n 0, 1) := by decide +kernel
theorem dX7_reads_183 : decode cX7_reads 183 = .ok (.getfield 39, 3) := by decide +kernel
theorem dX7_reads_186 : decode cX7_reads 186 = .ok (.iload_n 2, 1) := by decide +kernel
theorem dX7_reads_187 : decode cX7_reads 187 = .ok (.iconst 3, 1) := by decide +kernel
theorem dX7_reads_188 : decode cX7_reads 188 = .ok (.iadd, 1) := by decide +kernel
theorem dX7_reads_189 : decode cX7_reads 189 = .ok (.aload_n 0, 1) := by decide +kernel
theorem dX7_reads_190 : decode cX7_reads 190 = .ok (.invokevirtual 157, 3) := by decide +kernel
theorem dX7_reads_193 : decode cX7_reads 193 = .ok (.iastore, 1) := by decide +kernel
theorem dX7_reads_194 : decode cX7_reads 194 = .ok (.goto 21, 3) := by decide +kernel
theorem dX7_reads_197 : decode cX7_reads 197 = .ok (.iload_n 1, 1) := by decide +kernel
theorem dX7_reads_198 : decode cX7_reads 198 = .ok (.bipush 99, 2) := by decide +kernel
theorem dX7_reads_200 : decode cX7_reads 200 = .ok (.if_icmp .eq 15, 3) := by decide +kernel
theorem dX7_reads_203 : decode cX7_reads 203 = .ok (.aload_n 0, 1) := by decide +kernel
theorem dX7_reads_204 : decode cX7_reads 204 = .ok (.getfield 39, 3) := by decide +kernel
theorem dX7_reads_207 : decode cX7_reads 207 = .ok (.iload_n 2, 1) := by decide +kernel
theorem dX7_reads_208 : decode cX7_reads 208 = .ok (.iconst 1, 1) := by decide +kernel
theorem dX7_reads_209 : decode cX7_reads 209 = .ok (.iadd, 1) := by decide +kernel
theorem dX7_reads_210 : decode cX7_reads 210 = .ok (.aload_n 0, 1) := by decide +kernel
theorem dX7_reads_211 : decode cX7_reads 211 = .ok (.invokevirtual 148, 3) := by decide +kernel
theorem dX7_reads_214 : decode cX7_reads 214 = .ok (.iastore, 1) := by decide +kernel
theorem dX7_reads_215 : decode cX7_reads 215 = .ok (.aload_n 0, 1) := by decide +kernel
theorem dX7_reads_216 : decode cX7_reads 216 = .ok (.getfield 135, 3) := by decide +kernel
theorem dX7_reads_219 : decode cX7_reads 219 = .ok (.iconst (-1), 1) := by decide +kernel
theorem dX7_reads_220 : decode cX7_reads 220 = .ok (.if_icmp .ne 29, 3) := by decide +kernel
theorem dX7_reads_223 : decode cX7_reads 223 = .ok (.aload_n 0, 1) := by decide +kernel
theorem dX7_reads_224 : decode cX7_reads 224 = .ok (.invokevirtual 132, 3) := by decide +kernel
theorem dX7_reads_227 : decode cX7_reads 227 = .ok (.bipush 59, 2) := by decide +kernel
theorem dX7_reads_229 : decode cX7_reads 229 = .ok (.if_icmp .ne 20, 3) := by decide +kernel
theorem dX7_reads_232 : decode cX7_reads 232 = .ok (.aload_n 0, 1) := by decide +kernel
theorem dX7_reads_233 : decode cX7_reads 233 = .ok (.dup, 1) := by decide +kernel
theorem dX7_reads_234 : decode cX7_reads 234 = .ok (.getfield 129, 3) := by decide +kernel
theorem dX7_reads_237 : decode cX7_reads 237 = .ok (.iconst 1, 1) := by decide +kernel
theorem dX7_reads_238 : decode cX7_reads 238 = .ok (.iadd, 1) := by decide +kernel
theorem dX7_reads_239 : decode cX7_reads 239 = .ok (.putfield 129, 3) := by decide +kernel
theorem dX7_reads_242 : decode cX7_reads 242 = .ok (.aload_n 0, 1) := by decide +kernel
theorem dX7_reads_243 : decode cX7_reads 243 = .ok (.invokevirtual 145, 3) := by decide +kernel
theorem dX7_reads_246 : decode cX7_reads 246 = .ok (.goto 7, 3) := by decide +kernel
theorem dX7_reads_249 : decode cX7_reads 249 = .ok (.aload_n 0, 1) := by decide +kernel
theorem dX7_reads_250 : decode cX7_reads 250 = .ok (.invokevirtual 142, 3) := by decide +kernel
theorem dX7_reads_253 : decode cX7_reads 253 = .ok (.aload_n 0, 1) := by decide +kernel
theorem dX7_reads_254 : decode cX7_reads 254 = .ok (.dup, 1) := by decide +kernel
theorem dX7_reads_255 : decode cX7_reads 255 = .ok (.getfield 151, 3) := by decide +kernel
theorem dX7_reads_258 : decode cX7_reads 258 = .ok (.iconst 1, 1) := by decide +kernel
theorem dX7_reads_259 : decode cX7_reads 259 = .ok (.iadd, 1) := by decide +kernel
theorem dX7_reads_260 : decode cX7_reads 260 = .ok (.putfield 151, 3) := by decide +kernel
theorem dX7_reads_263 : decode cX7_reads 263 = .ok (.return_, 1) := by decide +kernel
theorem dX7_fault_0 : decode cX7_fault 0 = .ok (.aload_n 0, 1) := by decide +kernel
theorem dX7_fault_1 : decode cX7_fault 1 = .ok (.iconst 0, 1) := by decide +kernel
theorem dX7_fault_2 : decode cX7_fault 2 = .ok (.putfield 129, 3) := by decide +kernel
theorem dX7_fault_5 : decode cX7_fault 5 = .ok (.aload_n 0, 1) := by decide +kernel
theorem dX7_fault_6 : decode cX7_fault 6 = .ok (.iconst 0, 1) := by decide +kernel
theorem dX7_fault_7 : decode cX7_fault 7 = .ok (.putfield 151, 3) := by decide +kernel
theorem dX7_fault_10 : decode cX7_fault 10 = .ok (.aload_n 0, 1) := by decide +kernel
theorem dX7_fault_11 : decode cX7_fault 11 = .ok (.iconst (-1), 1) := by decide +kernel
theorem dX7_fault_12 : decode cX7_fault 12 = .ok (.putfield 135, 3) := by decide +kernel
theorem dX7_fault_15 : decode cX7_fault 15 = .ok (.aload_n 0, 1) := by decide +kernel
theorem dX7_fault_16 : decode cX7_fault 16 = .ok (.invokevirtual 145, 3) := by decide +kernel
theorem dX7_fault_19 : decode cX7_fault 19 = .ok (.aload_n 0, 1) := by decide +kernel
theorem dX7_fault_20 : decode cX7_fault 20 = .ok (.getfield 135, 3) := by decide +kernel
theorem dX7_fault_23 : decode cX7_fault 23 = .ok (.iconst (-1), 1) := by decide +kernel
theorem dX7_fault_24 : decode cX7_fault 24 = .ok (.if_icmp .ne 21, 3) := by decide +kernel
theorem dX7_fault_27 : decode cX7_fault 27 = .ok (.aload_n 0, 1) := by decide +kernel
theorem dX7_fault_28 : decode cX7_fault 28 = .ok (.getfield 129, 3) := by decide +kernel
theorem dX7_fault_31 : decode cX7_fault 31 = .ok (.aload_n 0, 1) := by decide +kernel
theorem dX7_fault_32 : decode cX7_fault 32 = .ok (.getfield 126, 3) := by decide +kernel
theorem dX7_fault_35 : decode cX7_fault 35 = .ok (.if_icmp .ge 10, 3) := by decide +kernel
theorem dX7_fault_38 : decode cX7_fault 38 = .ok (.aload_n 0, 1) := by decide +kernel
theorem dX7_fault_39 : decode cX7_fault 39 = .ok (.invokevirtual 160, 3) := by decide +kernel
theorem dX7_fault_42 : decode cX7_fault 42 = .ok (.goto (-23), 3) := by decide +kernel
theorem dX7_fault_45 : decode cX7_fault 45 = .ok (.aload_n 0, 1) := by decide +kernel
theorem dX7_fault_46 : decode cX7_fault 46 = .ok (.getfield 135, 3) := by decide +kernel
theorem dX7_fault_49 : decode cX7_fault 49 = .ok (.ireturn, 1) := by decide +kernel
theorem dX7_does_0 : decode cX7_does 0 = .ok (.aload_n 0, 1) := by decide +kernel
theorem dX7_does_1 : decode cX7_does 1 = .ok (.getfield 39, 3) := by decide +kernel
theorem dX7_does_4 : decode cX7_does 4 = .ok (.iconst 4, 1) := by decide +kernel
theorem dX7_does_5 : decode cX7_does 5 = .ok (.iload_n 1, 1) := by decide +kernel
theorem dX7_does_6 : decode cX7_does 6 = .ok (.imul, 1) := by decide +kernel
theorem dX7_does_7 : decode cX7_does 7 = .ok (.iconst 1, 1) := by decide +kernel
theorem dX7_does_8 : decode cX7_does 8 = .ok (.iadd, 1) := by decide +kernel
theorem dX7_does_9 : decode cX7_does 9 = .ok (.iaload, 1) := by decide +kernel
theorem dX7_does_10 : decode cX7_does 10 = .ok (.istore_n 2, 1) := by decide +kernel
theorem dX7_does_11 : decode cX7_does 11 = .ok (.aload_n 0, 1) := by decide +kernel
theorem dX7_does_12 : decode cX7_does 12 = .ok (.getfield 39, 3) := by decide +kernel
theorem dX7_does_15 : decode cX7_does 15 = .ok (.iconst 4, 1) := by decide +kernel
theorem dX7_does_16 : decode cX7_does 16 = .ok (.iload_n 1, 1) := by decide +kernel
theorem dX7_does_17 : decode cX7_does 17 = .ok (.imul, 1) := by decide +kernel
theorem dX7_does_18 : decode cX7_does 18 = .ok (.iconst 2, 1) := by decide +kernel
theorem dX7_does_19 : decode cX7_does 19 = .ok (.iadd, 1) := by decide +kernel
theorem dX7_does_20 : decode cX7_does 20 = .ok (.iaload, 1) := by decide +kernel
theorem dX7_does_21 : decode cX7_does 21 = .ok (.istore_n 3, 1) := by decide +kernel
theorem dX7_does_22 : decode cX7_does 22 = .ok (.aload_n 0, 1) := by decide +kernel
theorem dX7_does_23 : decode cX7_does 23 = .ok (.getfield 39, 3) := by decide +kernel
theorem dX7_does_26 : decode cX7_does 26 = .ok (.iconst 4, 1) := by decide +kernel
theorem dX7_does_27 : decode cX7_does 27 = .ok (.iload_n 1, 1) := by decide +kernel
theorem dX7_does_28 : decode cX7_does 28 = .ok (.imul, 1) := by decide +kernel
theorem dX7_does_29 : decode cX7_does 29 = .ok (.iaload, 1) := by decide +kernel
theorem dX7_does_30 : decode cX7_does 30 = .ok (.tableswitch 138 102 119 #[107, 138, 138, 138, 138, 138, 138, 138, 86, 138, 124, 138, 93, 138, 138, 131, 138, 100], 86) := by decide +kernel
theorem dX7_does_116 : decode cX7_does 116 = .ok (.aload_n 0, 1) := by decide +kernel
theorem dX7_does_117 : decode cX7_does 117 = .ok (.iload_n 2, 1) := by decide +kernel
theorem dX7_does_118 : decode cX7_does 118 = .ok (.iload_n 3, 1) := by decide +kernel
theorem dX7_does_119 : decode cX7_does 119 = .ok (.invokevirtual 163, 3) := by decide +kernel
theorem dX7_does_122 : decode cX7_does 122 = .ok (.ireturn, 1) := by decide +kernel
theorem dX7_does_123 : decode cX7_does 123 = .ok (.aload_n 0, 1) := by decide +kernel
theorem dX7_does_124 : decode cX7_does 124 = .ok (.iload_n 2, 1) := by decide +kernel
theorem dX7_does_125 : decode cX7_does 125 = .ok (.iload_n 3, 1) := by decide +kernel
theorem dX7_does_126 : decode cX7_does 126 = .ok (.invokevirtual 166, 3) := by decide +kernel
theorem dX7_does_129 : decode cX7_does 129 = .ok (.ireturn, 1) := by decide +kernel
theorem dX7_does_130 : decode cX7_does 130 = .ok (.aload_n 0, 1) := by decide +kernel
theorem dX7_does_131 : decode cX7_does 131 = .ok (.iload_n 2, 1) := by decide +kernel
theorem dX7_does_132 : decode cX7_does 132 = .ok (.iload_n 3, 1) := by decide +kernel
theorem dX7_does_133 : decode cX7_does 133 = .ok (.invokevirtual 169, 3) := by decide +kernel
theorem dX7_does_136 : decode cX7_does 136 = .ok (.ireturn, 1) := by decide +kernel
theorem dX7_does_137 : decode cX7_does 137 = .ok (.aload_n 0, 1) := by decide +kernel
theorem dX7_does_138 : decode cX7_does 138 = .ok (.iload_n 2, 1) := by decide +kernel
theorem dX7_does_139 : decode cX7_does 139 = .ok (.iload_n 3, 1) := by decide +kernel
theorem dX7_does_140 : decode cX7_does 140 = .ok (.aload_n 0, 1) := by decide +kernel
theorem dX7_does_141 : decode cX7_does 141 = .ok (.getfield 39, 3) := by decide +kernel
theorem dX7_does_144 : decode cX7_does 144 = .ok (.iconst 4, 1) := by decide +kernel
theorem dX7_does_145 : decode cX7_does 145 = .ok (.iload_n 1, 1) := by decide +kernel
theorem dX7_does_146 : decode cX7_does 146 = .ok (.imul, 1) := by decide +kernel
theorem dX7_does_147 : decode cX7_does 147 = .ok (.iconst 3, 1) := by decide +kernel
theorem dX7_does_148 : decode cX7_does 148 = .ok (.iadd, 1) := by decide +kernel
theorem dX7_does_149 : decode cX7_does 149 = .ok (.iaload, 1) := by decide +kernel
theorem dX7_does_150 : decode cX7_does 150 = .ok (.invokevirtual 172, 3) := by decide +kernel
theorem dX7_does_153 : decode cX7_does 153 = .ok (.ireturn, 1) := by decide +kernel
theorem dX7_does_154 : decode cX7_does 154 = .ok (.aload_n 0, 1) := by decide +kernel
theorem dX7_does_155 : decode cX7_does 155 = .ok (.iload_n 2, 1) := by decide +kernel
theorem dX7_does_156 : decode cX7_does 156 = .ok (.iconst 1, 1) := by decide +kernel
theorem dX7_does_157 : decode cX7_does 157 = .ok (.invokevirtual 176, 3) := by decide +kernel
theorem dX7_does_160 : decode cX7_does 160 = .ok (.ireturn, 1) := by decide +kernel
theorem dX7_does_161 : decode cX7_does 161 = .ok (.aload_n 0, 1) := by decide +kernel
theorem dX7_does_162 : decode cX7_does 162 = .ok (.iload_n 2, 1) := by decide +kernel
theorem dX7_does_163 : decode cX7_does 163 = .ok (.iconst 0, 1) := by decide +kernel
theorem dX7_does_164 : decode cX7_does 164 = .ok (.invokevirtual 176, 3) := by decide +kernel
theorem dX7_does_167 : decode cX7_does 167 = .ok (.ireturn, 1) := by decide +kernel
theorem dX7_does_168 : decode cX7_does 168 = .ok (.aload_n 0, 1) := by decide +kernel
theorem dX7_does_169 : decode cX7_does 169 = .ok (.invokevirtual 180, 3) := by decide +kernel
theorem dX7_does_172 : decode cX7_does 172 = .ok (.ireturn, 1) := by decide +kernel
theorem dX7_run_0 : decode cX7_run 0 = .ok (.aload_n 0, 1) := by decide +kernel
theorem dX7_run_1 : decode cX7_run 1 = .ok (.invokevirtual 183, 3) := by decide +kernel
theorem dX7_run_4 : decode cX7_run 4 = .ok (.iconst (-1), 1) := by decide +kernel
theorem dX7_run_5 : decode cX7_run 5 = .ok (.if_icmp .eq 6, 3) := by decide +kernel
theorem dX7_run_8 : decode cX7_run 8 = .ok (.ldc 82, 2) := by decide +kernel
theorem dX7_run_10 : decode cX7_run 10 = .ok (.ireturn, 1) := by decide +kernel
theorem dX7_run_11 : decode cX7_run 11 = .ok (.aload_n 0, 1) := by decide +kernel
theorem dX7_run_12 : decode cX7_run 12 = .ok (.iconst 0, 1) := by decide +kernel
theorem dX7_run_13 : decode cX7_run 13 = .ok (.putfield 26, 3) := by decide +kernel
theorem dX7_run_16 : decode cX7_run 16 = .ok (.iconst 0, 1) := by decide +kernel
theorem dX7_run_17 : decode cX7_run 17 = .ok (.istore_n 1, 1) := by decide +kernel
theorem dX7_run_18 : decode cX7_run 18 = .ok (.iconst 0, 1) := by decide +kernel
theorem dX7_run_19 : decode cX7_run 19 = .ok (.istore_n 2, 1) := by decide +kernel
theorem dX7_run_20 : decode cX7_run 20 = .ok (.iload_n 2, 1) := by decide +kernel
theorem dX7_run_21 : decode cX7_run 21 = .ok (.aload_n 0, 1) := by decide +kernel
theorem dX7_run_22 : decode cX7_run 22 = .ok (.getfield 151, 3) := by decide +kernel
theorem dX7_run_25 : decode cX7_run 25 = .ok (.if_icmp .ge 51, 3) := by decide +kernel
theorem dX7_run_28 : decode cX7_run 28 = .ok (.aload_n 0, 1) := by decide +kernel
theorem dX7_run_29 : decode cX7_run 29 = .ok (.getfield 26, 3) := by decide +kernel
theorem dX7_run_32 : decode cX7_run 32 = .ok (.ifCond .ne 44, 3) := by decide +kernel
theorem dX7_run_35 : decode cX7_run 35 = .ok (.aload_n 0, 1) := by decide +kernel
theorem dX7_run_36 : decode cX7_run 36 = .ok (.iload_n 2, 1) := by decide +kernel
theorem dX7_run_37 : decode cX7_run 37 = .ok (.invokevirtual 185, 3) := by decide +kernel
theorem dX7_run_40 : decode cX7_run 40 = .ok (.istore_n 3, 1) := by decide +kernel
theorem dX7_run_41 : decode cX7_run 41 = .ok (.aload_n 0, 1) := by decide +kernel
theorem dX7_run_42 : decode cX7_run 42 = .ok (.iload_n 3, 1) := by decide +kernel
theorem dX7_run_43 : decode cX7_run 43 = .ok (.ldc 50, 2) := by decide +kernel
theorem dX7_run_45 : decode cX7_run 45 = .ok (.if_icmp .gt 7, 3) := by decide +kernel
theorem dX7_run_48 : decode cX7_run 48 = .ok (.iload_n 3, 1) := by decide +kernel
theorem dX7_run_49 : decode cX7_run 49 = .ok (.goto 4, 3) := by decide +kernel
theorem dX7_run_52 : decode cX7_run 52 = .ok (.iconst 0, 1) := by decide +kernel
theorem dX7_run_53 : decode cX7_run 53 = .ok (.putfield 26, 3) := by decide +kernel
theorem dX7_run_56 : decode cX7_run 56 = .ok (.iload_n 1, 1) := by decide +kernel
theorem dX7_run_57 : decode cX7_run 57 = .ok (.iload_n 3, 1) := by decide +kernel
theorem dX7_run_58 : decode cX7_run 58 = .ok (.ldc 50, 2) := by decide +kernel
theorem dX7_run_60 : decode cX7_run 60 = .ok (.if_icmp .gt 7, 3) := by decide +kernel
theorem dX7_run_63 : decode cX7_run 63 = .ok (.iconst 0, 1) := by decide +kernel
theorem dX7_run_64 : decode cX7_run 64 = .ok (.goto 4, 3) := by decide +kernel
theorem dX7_run_67 : decode cX7_run 67 = .ok (.iconst 1, 1) := by decide +kernel
theorem dX7_run_68 : decode cX7_run 68 = .ok (.iadd, 1) := by decide +kernel
theorem dX7_run_69 : decode cX7_run 69 = .ok (.istore_n 1, 1) := by decide +kernel
theorem dX7_run_70 : decode cX7_run 70 = .ok (.iinc 2 1, 3) := by decide +kernel
theorem dX7_run_73 : decode cX7_run 73 = .ok (.goto (-53), 3) := by decide +kernel
theorem dX7_run_76 : decode cX7_run 76 = .ok (.iload_n 1, 1) := by decide +kernel
theorem dX7_run_77 : decode cX7_run 77 = .ok (.ireturn, 1) := by decide +kernel
theorem dX7_refusal_0 : decode cX7_refusal 0 = .ok (.aload_n 0, 1) := by decide +kernel
theorem dX7_refusal_1 : decode cX7_refusal 1 = .ok (.getfield 26, 3) := by decide +kernel
theorem dX7_refusal_4 : decode cX7_refusal 4 = .ok (.ireturn, 1) := by decide +kernel
theorem dX7_save_0 : decode cX7_save 0 = .ok (.iload_n 1, 1) := by decide +kernel
theorem dX7_save_1 : decode cX7_save 1 = .ok (.iconst 0, 1) := by decide +kernel
theorem dX7_save_2 : decode cX7_save 2 = .ok (.iconst 1, 1) := by decide +kernel
theorem dX7_save_3 : decode cX7_save 3 = .ok (.invokestatic 46, 3) := by decide +kernel
theorem dX7_save_6 : decode cX7_save 6 = .ok (.ifCond .ne 6, 3) := by decide +kernel
theorem dX7_save_9 : decode cX7_save 9 = .ok (.ldc 50, 2) := by decide +kernel
theorem dX7_save_11 : decode cX7_save 11 = .ok (.ireturn, 1) := by decide +kernel
theorem dX7_save_12 : decode cX7_save 12 = .ok (.iconst 0, 1) := by decide +kernel
theorem dX7_save_13 : decode cX7_save 13 = .ok (.istore_n 2, 1) := by decide +kernel
theorem dX7_save_14 : decode cX7_save 14 = .ok (.iload_n 2, 1) := by decide +kernel
theorem dX7_save_15 : decode cX7_save 15 = .ok (.sipush 1222, 3) := by decide +kernel
theorem dX7_save_18 : decode cX7_save 18 = .ok (.if_icmp .ge 27, 3) := by decide +kernel
theorem dX7_save_21 : decode cX7_save 21 = .ok (.aload_n 0, 1) := by decide +kernel
theorem dX7_save_22 : decode cX7_save 22 = .ok (.getfield 16, 3) := by decide +kernel
theorem dX7_save_25 : decode cX7_save 25 = .ok (.sipush 1222, 3) := by decide +kernel
theorem dX7_save_28 : decode cX7_save 28 = .ok (.iload_n 1, 1) := by decide +kernel
theorem dX7_save_29 : decode cX7_save 29 = .ok (.imul, 1) := by decide +kernel
theorem dX7_save_30 : decode cX7_save 30 = .ok (.iload_n 2, 1) := by decide +kernel
theorem dX7_save_31 : decode cX7_save 31 = .ok (.iadd, 1) := by decide +kernel
theorem dX7_save_32 : decode cX7_save 32 = .ok (.aload_n 0, 1) := by decide +kernel
theorem dX7_save_33 : decode cX7_save 33 = .ok (.getfield 7, 3) := by decide +kernel
theorem dX7_save_36 : decode cX7_save 36 = .ok (.iload_n 2, 1) := by decide +kernel
theorem dX7_save_37 : decode cX7_save 37 = .ok (.iaload, 1) := by decide +kernel
theorem dX7_save_38 : decode cX7_save 38 = .ok (.iastore, 1) := by decide +kernel
theorem dX7_save_39 : decode cX7_save 39 = .ok (.iinc 2 1, 3) := by decide +kernel
theorem dX7_save_42 : decode cX7_save 42 = .ok (.goto (-28), 3) := by decide +kernel
theorem dX7_save_45 : decode cX7_save 45 = .ok (.aload_n 0, 1) := by decide +kernel
theorem dX7_save_46 : decode cX7_save 46 = .ok (.getfield 19, 3) := by decide +kernel
theorem dX7_save_49 : decode cX7_save 49 = .ok (.iload_n 1, 1) := by decide +kernel
theorem dX7_save_50 : decode cX7_save 50 = .ok (.iconst 1, 1) := by decide +kernel
theorem dX7_save_51 : decode cX7_save 51 = .ok (.bastore, 1) := by decide +kernel
theorem dX7_save_52 : decode cX7_save 52 = .ok (.aload_n 0, 1) := by decide +kernel
theorem dX7_save_53 : decode cX7_save 53 = .ok (.iconst 0, 1) := by decide +kernel
theorem dX7_save_54 : decode cX7_save 54 = .ok (.invokevirtual 83, 3) := by decide +kernel
theorem dX7_save_57 : decode cX7_save 57 = .ok (.ireturn, 1) := by decide +kernel
theorem dX7_restore_0 : decode cX7_restore 0 = .ok (.iload_n 1, 1) := by decide +kernel
theorem dX7_restore_1 : decode cX7_restore 1 = .ok (.iconst 0, 1) := by decide +kernel
theorem dX7_restore_2 : decode cX7_restore 2 = .ok (.iconst 1, 1) := by decide +kernel
theorem dX7_restore_3 : decode cX7_restore 3 = .ok (.invokestatic 46, 3) := by decide +kernel
theorem dX7_restore_6 : decode cX7_restore 6 = .ok (.ifCond .ne 6, 3) := by decide +kernel
theorem dX7_restore_9 : decode cX7_restore 9 = .ok (.ldc 50, 2) := by decide +kernel
theorem dX7_restore_11 : decode cX7_restore 11 = .ok (.ireturn, 1) := by decide +kernel
theorem dX7_restore_12 : decode cX7_restore 12 = .ok (.aload_n 0, 1) := by decide +kernel
theorem dX7_restore_13 : decode cX7_restore 13 = .ok (.getfield 19, 3) := by decide +kernel
theorem dX7_restore_16 : decode cX7_restore 16 = .ok (.iload_n 1, 1) := by decide +kernel
theorem dX7_restore_17 : decode cX7_restore 17 = .ok (.baload, 1) := by decide +kernel
theorem dX7_restore_18 : decode cX7_restore 18 = .ok (.ifCond .ne 6, 3) := by decide +kernel
theorem dX7_restore_21 : decode cX7_restore 21 = .ok (.ldc 82, 2) := by decide +kernel
theorem dX7_restore_23 : decode cX7_restore 23 = .ok (.ireturn, 1) := by decide +kernel
theorem dX7_restore_24 : decode cX7_restore 24 = .ok (.iconst 0, 1) := by decide +kernel
theorem dX7_restore_25 : decode cX7_restore 25 = .ok (.istore_n 2, 1) := by decide +kernel
theorem dX7_restore_26 : decode cX7_restore 26 = .ok (.iload_n 2, 1) := by decide +kernel
theorem dX7_restore_27 : decode cX7_restore 27 = .ok (.sipush 1222, 3) := by decide +kernel
theorem dX7_restore_30 : decode cX7_restore 30 = .ok (.if_icmp .ge 27, 3) := by decide +kernel
theorem dX7_restore_33 : decode cX7_restore 33 = .ok (.aload_n 0, 1) := by decide +kernel
theorem dX7_restore_34 : decode cX7_restore 34 = .ok (.getfield 7, 3) := by decide +kernel
theorem dX7_restore_37 : decode cX7_restore 37 = .ok (.iload_n 2, 1) := by decide +kernel
theorem dX7_restore_38 : decode cX7_restore 38 = .ok (.aload_n 0, 1) := by decide +kernel
theorem dX7_restore_39 : decode cX7_restore 39 = .ok (.getfield 16, 3) := by decide +kernel
theorem dX7_restore_42 : decode cX7_restore 42 = .ok (.sipush 1222, 3) := by decide +kernel
theorem dX7_restore_45 : decode cX7_restore 45 = .ok (.iload_n 1, 1) := by decide +kernel
theorem dX7_restore_46 : decode cX7_restore 46 = .ok (.imul, 1) := by decide +kernel
theorem dX7_restore_47 : decode cX7_restore 47 = .ok (.iload_n 2, 1) := by decide +kernel
theorem dX7_restore_48 : decode cX7_restore 48 = .ok (.iadd, 1) := by decide +kernel
theorem dX7_restore_49 : decode cX7_restore 49 = .ok (.iaload, 1) := by decide +kernel
theorem dX7_restore_50 : decode cX7_restore 50 = .ok (.iastore, 1) := by decide +kernel
theorem dX7_restore_51 : decode cX7_restore 51 = .ok (.iinc 2 1, 3) := by decide +kernel
theorem dX7_restore_54 : decode cX7_restore 54 = .ok (.goto (-28), 3) := by decide +kernel
theorem dX7_restore_57 : decode cX7_restore 57 = .ok (.aload_n 0, 1) := by decide +kernel
theorem dX7_restore_58 : decode cX7_restore 58 = .ok (.iconst 0, 1) := by decide +kernel
theorem dX7_restore_59 : decode cX7_restore 59 = .ok (.invokevirtual 83, 3) := by decide +kernel
theorem dX7_restore_62 : decode cX7_restore 62 = .ok (.ireturn, 1) := by decide +kernel
theorem dX7_count_0 : decode cX7_count 0 = .ok (.iload_n 1, 1) := by decide +kernel
theorem dX7_count_1 : decode cX7_count 1 = .ok (.tableswitch 109 0 7 #[47, 56, 65, 71, 77, 86, 95, 104], 47) := by decide +kernel
theorem dX7_count_48 : decode cX7_count 48 = .ok (.aload_n 0, 1) := by decide +kernel
theorem dX7_count_49 : decode cX7_count 49 = .ok (.getfield 7, 3) := by decide +kernel
theorem dX7_count_52 : decode cX7_count 52 = .ok (.sipush 1216, 3) := by decide +kernel
theorem dX7_count_55 : decode cX7_count 55 = .ok (.iaload, 1) := by decide +kernel
theorem dX7_count_56 : decode cX7_count 56 = .ok (.ireturn, 1) := by decide +kernel
theorem dX7_count_57 : decode cX7_count 57 = .ok (.aload_n 0, 1) := by decide +kernel
theorem dX7_count_58 : decode cX7_count 58 = .ok (.getfield 7, 3) := by decide +kernel
theorem dX7_count_61 : decode cX7_count 61 = .ok (.sipush 1217, 3) := by decide +kernel
theorem dX7_count_64 : decode cX7_count 64 = .ok (.iaload, 1) := by decide +kernel
theorem dX7_count_65 : decode cX7_count 65 = .ok (.ireturn, 1) := by decide +kernel
theorem dX7_count_66 : decode cX7_count 66 = .ok (.aload_n 0, 1) := by decide +kernel
theorem dX7_count_67 : decode cX7_count 67 = .ok (.iconst 0, 1) := by decide +kernel
theorem dX7_count_68 : decode cX7_count 68 = .ok (.invokevirtual 83, 3) := by decide +kernel
theorem dX7_count_71 : decode cX7_count 71 = .ok (.ireturn, 1) := by decide +kernel
theorem dX7_count_72 : decode cX7_count 72 = .ok (.aload_n 0, 1) := by decide +kernel
theorem dX7_count_73 : decode cX7_count 73 = .ok (.iconst 1, 1) := by decide +kernel
theorem dX7_count_74 : decode cX7_count 74 = .ok (.invokevirtual 83, 3) := by decide +kernel
theorem dX7_count_77 : decode cX7_count 77 = .ok (.ireturn, 1) := by decide +kernel
theorem dX7_count_78 : decode cX7_count 78 = .ok (.aload_n 0, 1) := by decide +kernel
theorem dX7_count_79 : decode cX7_count 79 = .ok (.getfield 7, 3) := by decide +kernel
theorem dX7_count_82 : decode cX7_count 82 = .ok (.sipush 1218, 3) := by decide +kernel
theorem dX7_count_85 : decode cX7_count 85 = .ok (.iaload, 1) := by decide +kernel
theorem dX7_count_86 : decode cX7_count 86 = .ok (.ireturn, 1) := by decide +kernel
theorem dX7_count_87 : decode cX7_count 87 = .ok (.aload_n 0, 1) := by decide +kernel
theorem dX7_count_88 : decode cX7_count 88 = .ok (.getfield 7, 3) := by decide +kernel
theorem dX7_count_91 : decode cX7_count 91 = .ok (.sipush 1219, 3) := by decide +kernel
theorem dX7_count_94 : decode cX7_count 94 = .ok (.iaload, 1) := by decide +kernel
theorem dX7_count_95 : decode cX7_count 95 = .ok (.ireturn, 1) := by decide +kernel
theorem dX7_count_96 : decode cX7_count 96 = .ok (.aload_n 0, 1) := by decide +kernel
theorem dX7_count_97 : decode cX7_count 97 = .ok (.getfield 7, 3) := by decide +kernel
theorem dX7_count_100 : decode cX7_count 100 = .ok (.sipush 1220, 3) := by decide +kernel
theorem dX7_count_103 : decode cX7_count 103 = .ok (.iaload, 1) := by decide +kernel
theorem dX7_count_104 : decode cX7_count 104 = .ok (.ireturn, 1) := by decide +kernel
theorem dX7_count_105 : decode cX7_count 105 = .ok (.aload_n 0, 1) := by decide +kernel
theorem dX7_count_106 : decode cX7_count 106 = .ok (.getfield 126, 3) := by decide +kernel
theorem dX7_count_109 : decode cX7_count 109 = .ok (.ireturn, 1) := by decide +kernel
theorem dX7_count_110 : decode cX7_count 110 = .ok (.ldc 50, 2) := by decide +kernel
theorem dX7_count_112 : decode cX7_count 112 = .ok (.ireturn, 1) := by decide +kernel
theorem dX7_mixes_0 : decode cX7_mixes 0 = .ok (.aload_n 0, 1) := by decide +kernel
theorem dX7_mixes_1 : decode cX7_mixes 1 = .ok (.ldc2_w 188, 3) := by decide +kernel
theorem dX7_mixes_4 : decode cX7_mixes 4 = .ok (.aload_n 0, 1) := by decide +kernel
theorem dX7_mixes_5 : decode cX7_mixes 5 = .ok (.getfield 190, 3) := by decide +kernel
theorem dX7_mixes_8 : decode cX7_mixes 8 = .ok (.lmul, 1) := by decide +kernel
theorem dX7_mixes_9 : decode cX7_mixes 9 = .ok (.iload_n 1, 1) := by decide +kernel
theorem dX7_mixes_10 : decode cX7_mixes 10 = .ok (.i2l, 1) := by decide +kernel
theorem dX7_mixes_11 : decode cX7_mixes 11 = .ok (.ladd, 1) := by decide +kernel
theorem dX7_mixes_12 : decode cX7_mixes 12 = .ok (.putfield 190, 3) := by decide +kernel
theorem dX7_mixes_15 : decode cX7_mixes 15 = .ok (.return_, 1) := by decide +kernel
theorem dX7_digest_0 : decode cX7_digest 0 = .ok (.aload_n 0, 1) := by decide +kernel
theorem dX7_digest_1 : decode cX7_digest 1 = .ok (.ldc2_w 194, 3) := by decide +kernel
theorem dX7_digest_4 : decode cX7_digest 4 = .ok (.putfield 190, 3) := by decide +kernel
theorem dX7_digest_7 : decode cX7_digest 7 = .ok (.iconst 0, 1) := by decide +kernel
theorem dX7_digest_8 : decode cX7_digest 8 = .ok (.istore_n 1, 1) := by decide +kernel
theorem dX7_digest_9 : decode cX7_digest 9 = .ok (.iload_n 1, 1) := by decide +kernel
theorem dX7_digest_10 : decode cX7_digest 10 = .ok (.bipush 8, 2) := by decide +kernel
theorem dX7_digest_12 : decode cX7_digest 12 = .ok (.if_icmp .ge 18, 3) := by decide +kernel
theorem dX7_digest_15 : decode cX7_digest 15 = .ok (.aload_n 0, 1) := by decide +kernel
theorem dX7_digest_16 : decode cX7_digest 16 = .ok (.aload_n 0, 1) := by decide +kernel
theorem dX7_digest_17 : decode cX7_digest 17 = .ok (.iload_n 1, 1) := by decide +kernel
theorem dX7_digest_18 : decode cX7_digest 18 = .ok (.invokevirtual 196, 3) := by decide +kernel
theorem dX7_digest_21 : decode cX7_digest 21 = .ok (.invokevirtual 199, 3) := by decide +kernel
theorem dX7_digest_24 : decode cX7_digest 24 = .ok (.iinc 1 1, 3) := by decide +kernel
theorem dX7_digest_27 : decode cX7_digest 27 = .ok (.goto (-18), 3) := by decide +kernel
theorem dX7_digest_30 : decode cX7_digest 30 = .ok (.iconst 0, 1) := by decide +kernel
theorem dX7_digest_31 : decode cX7_digest 31 = .ok (.istore_n 1, 1) := by decide +kernel
theorem dX7_digest_32 : decode cX7_digest 32 = .ok (.iload_n 1, 1) := by decide +kernel
theorem dX7_digest_33 : decode cX7_digest 33 = .ok (.bipush 10, 2) := by decide +kernel
theorem dX7_digest_35 : decode cX7_digest 35 = .ok (.if_icmp .ge 23, 3) := by decide +kernel
theorem dX7_digest_38 : decode cX7_digest 38 = .ok (.aload_n 0, 1) := by decide +kernel
theorem dX7_digest_39 : decode cX7_digest 39 = .ok (.aload_n 0, 1) := by decide +kernel
theorem dX7_digest_40 : decode cX7_digest 40 = .ok (.getfield 7, 3) := by decide +kernel
theorem dX7_digest_43 : decode cX7_digest 43 = .ok (.sipush 1200, 3) := by decide +kernel
theorem dX7_digest_46 : decode cX7_digest 46 = .ok (.iload_n 1, 1) := by decide +kernel
theorem dX7_digest_47 : decode cX7_digest 47 = .ok (.iadd, 1) := by decide +kernel
theorem dX7_digest_48 : decode cX7_digest 48 = .ok (.iaload, 1) := by decide +kernel
theorem dX7_digest_49 : decode cX7_digest 49 = .ok (.invokevirtual 199, 3) := by decide +kernel
theorem dX7_digest_52 : decode cX7_digest 52 = .ok (.iinc 1 1, 3) := by decide +kernel
theorem dX7_digest_55 : decode cX7_digest 55 = .ok (.goto (-23), 3) := by decide +kernel
theorem dX7_digest_58 : decode cX7_digest 58 = .ok (.aload_n 0, 1) := by decide +kernel
theorem dX7_digest_59 : decode cX7_digest 59 = .ok (.iconst 0, 1) := by decide +kernel
theorem dX7_digest_60 : decode cX7_digest 60 = .ok (.invokevirtual 73, 3) := by decide +kernel
theorem dX7_digest_63 : decode cX7_digest 63 = .ok (.istore_n 1, 1) := by decide +kernel
theorem dX7_digest_64 : decode cX7_digest 64 = .ok (.iload_n 1, 1) := by decide +kernel
theorem dX7_digest_65 : decode cX7_digest 65 = .ok (.iconst (-1), 1) := by decide +kernel
theorem dX7_digest_66 : decode cX7_digest 66 = .ok (.if_icmp .eq 74, 3) := by decide +kernel
theorem dX7_digest_69 : decode cX7_digest 69 = .ok (.iconst 0, 1) := by decide +kernel
theorem dX7_digest_70 : decode cX7_digest 70 = .ok (.istore_n 2, 1) := by decide +kernel
theorem dX7_digest_71 : decode cX7_digest 71 = .ok (.iload_n 2, 1) := by decide +kernel
theorem dX7_digest_72 : decode cX7_digest 72 = .ok (.bipush 8, 2) := by decide +kernel
theorem dX7_digest_74 : decode cX7_digest 74 = .ok (.if_icmp .ge 19, 3) := by decide +kernel
theorem dX7_digest_77 : decode cX7_digest 77 = .ok (.aload_n 0, 1) := by decide +kernel
theorem dX7_digest_78 : decode cX7_digest 78 = .ok (.aload_n 0, 1) := by decide +kernel
theorem dX7_digest_79 : decode cX7_digest 79 = .ok (.iload_n 1, 1) := by decide +kernel
theorem dX7_digest_80 : decode cX7_digest 80 = .ok (.iload_n 2, 1) := by decide +kernel
theorem dX7_digest_81 : decode cX7_digest 81 = .ok (.invokevirtual 202, 3) := by decide +kernel
theorem dX7_digest_84 : decode cX7_digest 84 = .ok (.invokevirtual 199, 3) := by decide +kernel
theorem dX7_digest_87 : decode cX7_digest 87 = .ok (.iinc 2 1, 3) := by decide +kernel
theorem dX7_digest_90 : decode cX7_digest 90 = .ok (.goto (-19), 3) := by decide +kernel
theorem dX7_digest_93 : decode cX7_digest 93 = .ok (.iconst 1, 1) := by decide +kernel
theorem dX7_digest_94 : decode cX7_digest 94 = .ok (.istore_n 2, 1) := by decide +kernel
theorem dX7_digest_95 : decode cX7_digest 95 = .ok (.iload_n 2, 1) := by decide +kernel
theorem dX7_digest_96 : decode cX7_digest 96 = .ok (.aload_n 0, 1) := by decide +kernel
theorem dX7_digest_97 : decode cX7_digest 97 = .ok (.getfield 7, 3) := by decide +kernel
theorem dX7_digest_100 : decode cX7_digest 100 = .ok (.iconst 0, 1) := by decide +kernel
theorem dX7_digest_101 : decode cX7_digest 101 = .ok (.iload_n 1, 1) := by decide +kernel
theorem dX7_digest_102 : decode cX7_digest 102 = .ok (.iadd, 1) := by decide +kernel
theorem dX7_digest_103 : decode cX7_digest 103 = .ok (.iaload, 1) := by decide +kernel
theorem dX7_digest_104 : decode cX7_digest 104 = .ok (.if_icmp .ge 25, 3) := by decide +kernel
theorem dX7_digest_107 : decode cX7_digest 107 = .ok (.aload_n 0, 1) := by decide +kernel
theorem dX7_digest_108 : decode cX7_digest 108 = .ok (.aload_n 0, 1) := by decide +kernel
theorem dX7_digest_109 : decode cX7_digest 109 = .ok (.getfield 7, 3) := by decide +kernel
theorem dX7_digest_112 : decode cX7_digest 112 = .ok (.sipush 800, 3) := by decide +kernel
theorem dX7_digest_115 : decode cX7_digest 115 = .ok (.iload_n 1, 1) := by decide +kernel
theorem dX7_digest_116 : decode cX7_digest 116 = .ok (.iadd, 1) := by decide +kernel
theorem dX7_digest_117 : decode cX7_digest 117 = .ok (.iload_n 2, 1) := by decide +kernel
theorem dX7_digest_118 : decode cX7_digest 118 = .ok (.iadd, 1) := by decide +kernel
theorem dX7_digest_119 : decode cX7_digest 119 = .ok (.iaload, 1) := by decide +kernel
theorem dX7_digest_120 : decode cX7_digest 120 = .ok (.invokevirtual 199, 3) := by decide +kernel
theorem dX7_digest_123 : decode cX7_digest 123 = .ok (.iinc 2 1, 3) := by decide +kernel
theorem dX7_digest_126 : decode cX7_digest 126 = .ok (.goto (-31), 3) := by decide +kernel
theorem dX7_digest_129 : decode cX7_digest 129 = .ok (.aload_n 0, 1) := by decide +kernel
theorem dX7_digest_130 : decode cX7_digest 130 = .ok (.iload_n 1, 1) := by decide +kernel
theorem dX7_digest_131 : decode cX7_digest 131 = .ok (.iconst 1, 1) := by decide +kernel
theorem dX7_digest_132 : decode cX7_digest 132 = .ok (.iadd, 1) := by decide +kernel
theorem dX7_digest_133 : decode cX7_digest 133 = .ok (.invokevirtual 73, 3) := by decide +kernel
theorem dX7_digest_136 : decode cX7_digest 136 = .ok (.istore_n 1, 1) := by decide +kernel
theorem dX7_digest_137 : decode cX7_digest 137 = .ok (.goto (-73), 3) := by decide +kernel
theorem dX7_digest_140 : decode cX7_digest 140 = .ok (.iconst 0, 1) := by decide +kernel
theorem dX7_digest_141 : decode cX7_digest 141 = .ok (.istore_n 1, 1) := by decide +kernel
theorem dX7_digest_142 : decode cX7_digest 142 = .ok (.iload_n 1, 1) := by decide +kernel
theorem dX7_digest_143 : decode cX7_digest 143 = .ok (.iconst 5, 1) := by decide +kernel
theorem dX7_digest_144 : decode cX7_digest 144 = .ok (.if_icmp .ge 18, 3) := by decide +kernel
theorem dX7_digest_147 : decode cX7_digest 147 = .ok (.aload_n 0, 1) := by decide +kernel
theorem dX7_digest_148 : decode cX7_digest 148 = .ok (.aload_n 0, 1) := by decide +kernel
theorem dX7_digest_149 : decode cX7_digest 149 = .ok (.iload_n 1, 1) := by decide +kernel
theorem dX7_digest_150 : decode cX7_digest 150 = .ok (.invokevirtual 205, 3) := by decide +kernel
theorem dX7_digest_153 : decode cX7_digest 153 = .ok (.invokevirtual 199, 3) := by decide +kernel
theorem dX7_digest_156 : decode cX7_digest 156 = .ok (.iinc 1 1, 3) := by decide +kernel
theorem dX7_digest_159 : decode cX7_digest 159 = .ok (.goto (-17), 3) := by decide +kernel
theorem dX7_digest_162 : decode cX7_digest 162 = .ok (.iconst 0, 1) := by decide +kernel
theorem dX7_digest_163 : decode cX7_digest 163 = .ok (.istore_n 1, 1) := by decide +kernel
theorem dX7_digest_164 : decode cX7_digest 164 = .ok (.iload_n 1, 1) := by decide +kernel
theorem dX7_digest_165 : decode cX7_digest 165 = .ok (.bipush 6, 2) := by decide +kernel
theorem dX7_digest_167 : decode cX7_digest 167 = .ok (.if_icmp .ge 35, 3) := by decide +kernel
theorem dX7_digest_170 : decode cX7_digest 170 = .ok (.aload_n 0, 1) := by decide +kernel
theorem dX7_digest_171 : decode cX7_digest 171 = .ok (.getfield 7, 3) := by decide +kernel
theorem dX7_digest_174 : decode cX7_digest 174 = .ok (.sipush 1221, 3) := by decide +kernel
theorem dX7_digest_177 : decode cX7_digest 177 = .ok (.iaload, 1) := by decide +kernel
theorem dX7_digest_178 : decode cX7_digest 178 = .ok (.iconst 1, 1) := by decide +kernel
theorem dX7_digest_179 : decode cX7_digest 179 = .ok (.if_icmp .ne 23, 3) := by decide +kernel
theorem dX7_digest_182 : decode cX7_digest 182 = .ok (.aload_n 0, 1) := by decide +kernel
theorem dX7_digest_183 : decode cX7_digest 183 = .ok (.aload_n 0, 1) := by decide +kernel
theorem dX7_digest_184 : decode cX7_digest 184 = .ok (.getfield 7, 3) := by decide +kernel
theorem dX7_digest_187 : decode cX7_digest 187 = .ok (.sipush 1210, 3) := by decide +kernel
theorem dX7_digest_190 : decode cX7_digest 190 = .ok (.iload_n 1, 1) := by decide +kernel
theorem dX7_digest_191 : decode cX7_digest 191 = .ok (.iadd, 1) := by decide +kernel
theorem dX7_digest_192 : decode cX7_digest 192 = .ok (.iaload, 1) := by decide +kernel
theorem dX7_digest_193 : decode cX7_digest 193 = .ok (.invokevirtual 199, 3) := by decide +kernel
theorem dX7_digest_196 : decode cX7_digest 196 = .ok (.iinc 1 1, 3) := by decide +kernel
theorem dX7_digest_199 : decode cX7_digest 199 = .ok (.goto (-35), 3) := by decide +kernel
theorem dX7_digest_202 : decode cX7_digest 202 = .ok (.iconst 0, 1) := by decide +kernel
theorem dX7_digest_203 : decode cX7_digest 203 = .ok (.istore_n 1, 1) := by decide +kernel
theorem dX7_digest_204 : decode cX7_digest 204 = .ok (.iload_n 1, 1) := by decide +kernel
theorem dX7_digest_205 : decode cX7_digest 205 = .ok (.aload_n 0, 1) := by decide +kernel
theorem dX7_digest_206 : decode cX7_digest 206 = .ok (.getfield 126, 3) := by decide +kernel
theorem dX7_digest_209 : decode cX7_digest 209 = .ok (.if_icmp .ge 19, 3) := by decide +kernel
theorem dX7_digest_212 : decode cX7_digest 212 = .ok (.aload_n 0, 1) := by decide +kernel
theorem dX7_digest_213 : decode cX7_digest 213 = .ok (.aload_n 0, 1) := by decide +kernel
theorem dX7_digest_214 : decode cX7_digest 214 = .ok (.getfield 23, 3) := by decide +kernel
theorem dX7_digest_217 : decode cX7_digest 217 = .ok (.iload_n 1, 1) := by decide +kernel
theorem dX7_digest_218 : decode cX7_digest 218 = .ok (.iaload, 1) := by decide +kernel
theorem dX7_digest_219 : decode cX7_digest 219 = .ok (.invokevirtual 199, 3) := by decide +kernel
theorem dX7_digest_222 : decode cX7_digest 222 = .ok (.iinc 1 1, 3) := by decide +kernel
theorem dX7_digest_225 : decode cX7_digest 225 = .ok (.goto (-21), 3) := by decide +kernel
theorem dX7_digest_228 : decode cX7_digest 228 = .ok (.aload_n 0, 1) := by decide +kernel
theorem dX7_digest_229 : decode cX7_digest 229 = .ok (.getfield 190, 3) := by decide +kernel
theorem dX7_digest_232 : decode cX7_digest 232 = .ok (.lreturn, 1) := by decide +kernel
end
section
theorem zz_last : True := trivial
end
