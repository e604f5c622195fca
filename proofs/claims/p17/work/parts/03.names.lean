/-! ===== BEGIN printed: names, fields, word lists, decode rows ===== -/
def RX0 : String := "KeeperTree$Journal"
def TX0 : u_T := fun k => match k with
  | 0 => ("KeeperTree$Journal", "columns", "[[I", true)
  | 1 => ("KeeperTree$Journal", "time", "I", false)
  | _ => ("KeeperTree$Journal", "size", "I", false)
def tyX0 : Nat → FieldType := fun k => match k with
  | 0 => .array (.array .int)
  | 1 => .int
  | _ => .int
abbrev wsX00 : List Cond := u_ws RX0 TX0 3
theorem nmX0 : ∀ a, a < 3 → ∀ b, b < 3 → a ≠ b → (TX0 a).2.1 ≠ (TX0 b).2.1 := by decide +kernel
theorem tyX0_ok : ∀ k, k < 3 → parseFieldDescriptor (TX0 k).2.2.1 = some (tyX0 k) := by decide +kernel
abbrev cX0_init : ByteArray := prog_2_method_1_code
def yX0_init : MethodName := ⟨RX0, "<init>", "()V"⟩
abbrev cX0_tell : ByteArray := prog_2_method_2_code
def yX0_tell : MethodName := ⟨RX0, "tell", "(III)V"⟩
abbrev cX0_told : ByteArray := prog_2_method_3_code
def yX0_told : MethodName := ⟨RX0, "told", "(II)I"⟩
def RX1 : String := "KeeperTree$Keeper"
def TX1 : u_T := fun k => match k with
  | 0 => ("KeeperTree$Node", "number", "I", true)
  | 1 => ("KeeperTree$Node", "owner", "LKeeperTree$Keeper;", true)
  | 2 => ("KeeperTree$Node", "depth", "I", true)
  | 3 => ("KeeperTree$Node", "kind", "I", true)
  | 4 => ("KeeperTree$Node", "state", "I", false)
  | 5 => ("KeeperTree$Keeper", "row", "Ljava/util/ArrayList;", true)
  | 6 => ("KeeperTree$Keeper", "restarts", "LKeeperTree$RestartTimes;", true)
  | 7 => ("KeeperTree$Keeper", "strategy", "I", false)
  | 8 => ("KeeperTree$Keeper", "\x72", "I", false)
  | _ => ("KeeperTree$Keeper", "t", "I", false)
def tyX1 : Nat → FieldType := fun k => match k with
  | 0 => .int
  | 1 => .object "KeeperTree$Keeper"
  | 2 => .int
  | 3 => .int
  | 4 => .int
  | 5 => .object "java/util/ArrayList"
  | 6 => .object "KeeperTree$RestartTimes"
  | 7 => .int
  | 8 => .int
  | _ => .int
abbrev wsX10 : List Cond := u_ws RX1 TX1 10
theorem nmX1 : ∀ a, a < 10 → ∀ b, b < 10 → a ≠ b → (TX1 a).2.1 ≠ (TX1 b).2.1 := by decide +kernel
theorem tyX1_ok : ∀ k, k < 10 → parseFieldDescriptor (TX1 k).2.2.1 = some (tyX1 k) := by decide +kernel
abbrev cX1_init : ByteArray := prog_3_method_1_code
def yX1_init : MethodName := ⟨RX1, "<init>", "(ILKeeperTree$Keeper;IIII)V"⟩
abbrev cX1_rise : ByteArray := prog_3_method_2_code
def yX1_rise : MethodName := ⟨RX1, "rise", "(LKeeperTree$Journal;)Z"⟩
abbrev cX1_fall : ByteArray := prog_3_method_3_code
def yX1_fall : MethodName := ⟨RX1, "fall", "(LKeeperTree$Journal;)V"⟩
abbrev cX1_perish : ByteArray := prog_3_method_4_code
def yX1_perish : MethodName := ⟨RX1, "perish", "(LKeeperTree$Journal;)I"⟩
abbrev cX1_vanish : ByteArray := prog_3_method_5_code
def yX1_vanish : MethodName := ⟨RX1, "vanish", "()I"⟩
abbrev cX1_placeOf : ByteArray := prog_3_method_6_code
def yX1_placeOf : MethodName := ⟨RX1, "placeOf", "(LKeeperTree$Node;)I"⟩
abbrev cX1_recentRestarts : ByteArray := prog_3_method_7_code
def yX1_recentRestarts : MethodName := ⟨RX1, "recentRestarts", "(I)I"⟩
abbrev cX1_giveUp : ByteArray := prog_3_method_8_code
def yX1_giveUp : MethodName := ⟨RX1, "giveUp", "(LKeeperTree$Journal;)V"⟩
abbrev cX1_release : ByteArray := prog_3_method_9_code
def yX1_release : MethodName := ⟨RX1, "release", "(LKeeperTree$Node;LKeeperTree$Journal;)V"⟩
abbrev cX1_dismiss : ByteArray := prog_3_method_10_code
def yX1_dismiss : MethodName := ⟨RX1, "dismiss", "(LKeeperTree$Node;LKeeperTree$Journal;)I"⟩
abbrev cX1_releaseFrom : ByteArray := prog_3_method_11_code
def yX1_releaseFrom : MethodName := ⟨RX1, "releaseFrom", "(ILKeeperTree$Journal;)V"⟩
abbrev cX1_riseFrom : ByteArray := prog_3_method_12_code
def yX1_riseFrom : MethodName := ⟨RX1, "riseFrom", "(ILKeeperTree$Journal;)LKeeperTree$Node;"⟩
abbrev cX1_fallAll : ByteArray := prog_3_method_13_code
def yX1_fallAll : MethodName := ⟨RX1, "fallAll", "(LKeeperTree$Journal;)V"⟩
def RX2 : String := "KeeperTree$Node"
def TX2 : u_T := fun k => match k with
  | _ => ("", "", "", false)
def tyX2 : Nat → FieldType := fun k => match k with
  | _ => .int
abbrev wsX20 : List Cond := u_ws RX2 TX2 0
theorem nmX2 : ∀ a, a < 0 → ∀ b, b < 0 → a ≠ b → (TX2 a).2.1 ≠ (TX2 b).2.1 := by decide +kernel
theorem tyX2_ok : ∀ k, k < 0 → parseFieldDescriptor (TX2 k).2.2.1 = some (tyX2 k) := by decide +kernel
abbrev cX2_init : ByteArray := prog_4_method_1_code
def yX2_init : MethodName := ⟨RX2, "<init>", "(ILKeeperTree$Keeper;I)V"⟩
abbrev cX2_settle : ByteArray := prog_4_method_3_code
def yX2_settle : MethodName := ⟨RX2, "settle", "(ZLKeeperTree$Journal;)Z"⟩
def RX3 : String := "KeeperTree$RestartTimes"
def TX3 : u_T := fun k => match k with
  | 0 => ("KeeperTree$RestartTimes", "times", "[I", false)
  | _ => ("KeeperTree$RestartTimes", "size", "I", false)
def tyX3 : Nat → FieldType := fun k => match k with
  | 0 => .array .int
  | _ => .int
abbrev wsX30 : List Cond := u_ws RX3 TX3 2
theorem nmX3 : ∀ a, a < 2 → ∀ b, b < 2 → a ≠ b → (TX3 a).2.1 ≠ (TX3 b).2.1 := by decide +kernel
theorem tyX3_ok : ∀ k, k < 2 → parseFieldDescriptor (TX3 k).2.2.1 = some (tyX3 k) := by decide +kernel
abbrev cX3_init : ByteArray := prog_5_method_1_code
def yX3_init : MethodName := ⟨RX3, "<init>", "()V"⟩
abbrev cX3_add : ByteArray := prog_5_method_2_code
def yX3_add : MethodName := ⟨RX3, "add", "(I)V"⟩
abbrev cX3_notBefore : ByteArray := prog_5_method_3_code
def yX3_notBefore : MethodName := ⟨RX3, "notBefore", "(I)I"⟩
abbrev cX3_clear : ByteArray := prog_5_method_4_code
def yX3_clear : MethodName := ⟨RX3, "clear", "()V"⟩
abbrev cX3_makeRoom : ByteArray := prog_5_method_5_code
def yX3_makeRoom : MethodName := ⟨RX3, "makeRoom", "(I)V"⟩
def RX4 : String := "KeeperTree$Worker"
def TX4 : u_T := fun k => match k with
  | 0 => ("KeeperTree$Node", "number", "I", true)
  | 1 => ("KeeperTree$Node", "owner", "LKeeperTree$Keeper;", true)
  | 2 => ("KeeperTree$Node", "depth", "I", true)
  | 3 => ("KeeperTree$Node", "kind", "I", true)
  | 4 => ("KeeperTree$Node", "state", "I", false)
  | 5 => ("KeeperTree$Worker", "patience", "I", true)
  | 6 => ("KeeperTree$Worker", "startUnits", "I", true)
  | 7 => ("KeeperTree$Worker", "stopUnits", "I", true)
  | _ => ("KeeperTree$Worker", "failures", "I", false)
def tyX4 : Nat → FieldType := fun k => match k with
  | 0 => .int
  | 1 => .object "KeeperTree$Keeper"
  | 2 => .int
  | 3 => .int
  | 4 => .int
  | 5 => .int
  | 6 => .int
  | 7 => .int
  | _ => .int
abbrev wsX40 : List Cond := u_ws RX4 TX4 9
theorem nmX4 : ∀ a, a < 9 → ∀ b, b < 9 → a ≠ b → (TX4 a).2.1 ≠ (TX4 b).2.1 := by decide +kernel
theorem tyX4_ok : ∀ k, k < 9 → parseFieldDescriptor (TX4 k).2.2.1 = some (tyX4 k) := by decide +kernel
abbrev cX4_init : ByteArray := prog_6_method_1_code
def yX4_init : MethodName := ⟨RX4, "<init>", "(ILKeeperTree$Keeper;IIIII)V"⟩
abbrev cX4_rise : ByteArray := prog_6_method_2_code
def yX4_rise : MethodName := ⟨RX4, "rise", "(LKeeperTree$Journal;)Z"⟩
abbrev cX4_fall : ByteArray := prog_6_method_3_code
def yX4_fall : MethodName := ⟨RX4, "fall", "(LKeeperTree$Journal;)V"⟩
abbrev cX4_perish : ByteArray := prog_6_method_4_code
def yX4_perish : MethodName := ⟨RX4, "perish", "(LKeeperTree$Journal;)I"⟩
abbrev cX4_vanish : ByteArray := prog_6_method_5_code
def yX4_vanish : MethodName := ⟨RX4, "vanish", "()I"⟩
def RX5 : String := "KeeperTree"
def TX5 : u_T := fun k => match k with
  | 0 => ("KeeperTree", "journal", "LKeeperTree$Journal;", true)
  | 1 => ("KeeperTree", "nodes", "[LKeeperTree$Node;", true)
  | 2 => ("KeeperTree", "top", "LKeeperTree$Keeper;", true)
  | 3 => ("KeeperTree", "made", "I", false)
  | 4 => ("KeeperTree", "restartsInAll", "I", false)
  | _ => ("KeeperTree", "gaveUpInAll", "I", false)
def tyX5 : Nat → FieldType := fun k => match k with
  | 0 => .object "KeeperTree$Journal"
  | 1 => .array (.object "KeeperTree$Node")
  | 2 => .object "KeeperTree$Keeper"
  | 3 => .int
  | 4 => .int
  | _ => .int
abbrev wsX50 : List Cond := u_ws RX5 TX5 6
theorem nmX5 : ∀ a, a < 6 → ∀ b, b < 6 → a ≠ b → (TX5 a).2.1 ≠ (TX5 b).2.1 := by decide +kernel
theorem tyX5_ok : ∀ k, k < 6 → parseFieldDescriptor (TX5 k).2.2.1 = some (tyX5 k) := by decide +kernel
abbrev cX5_init : ByteArray := prog_1_method_1_code
def yX5_init : MethodName := ⟨RX5, "<init>", "()V"⟩
abbrev cX5_first : ByteArray := prog_1_method_2_code
def yX5_first : MethodName := ⟨RX5, "first", "(III)V"⟩
abbrev cX5_keeper : ByteArray := prog_1_method_3_code
def yX5_keeper : MethodName := ⟨RX5, "keeper", "(IIIII)I"⟩
abbrev cX5_worker : ByteArray := prog_1_method_4_code
def yX5_worker : MethodName := ⟨RX5, "worker", "(IIIIII)I"⟩
abbrev cX5_failing : ByteArray := prog_1_method_5_code
def yX5_failing : MethodName := ⟨RX5, "failing", "(II)I"⟩
abbrev cX5_begin : ByteArray := prog_1_method_6_code
def yX5_begin : MethodName := ⟨RX5, "begin", "()Z"⟩
abbrev cX5_ends : ByteArray := prog_1_method_7_code
def yX5_ends : MethodName := ⟨RX5, "ends", "(II)V"⟩
abbrev cX5_kill : ByteArray := prog_1_method_8_code
def yX5_kill : MethodName := ⟨RX5, "kill", "(I)I"⟩
abbrev cX5_stop : ByteArray := prog_1_method_9_code
def yX5_stop : MethodName := ⟨RX5, "stop", "(I)V"⟩
abbrev cX5_again : ByteArray := prog_1_method_10_code
def yX5_again : MethodName := ⟨RX5, "again", "(I)Z"⟩
abbrev cX5_remove : ByteArray := prog_1_method_11_code
def yX5_remove : MethodName := ⟨RX5, "remove", "(I)I"⟩
abbrev cX5_pass : ByteArray := prog_1_method_12_code
def yX5_pass : MethodName := ⟨RX5, "pass", "(I)I"⟩
abbrev cX5_state : ByteArray := prog_1_method_13_code
def yX5_state : MethodName := ⟨RX5, "state", "(I)I"⟩
abbrev cX5_about : ByteArray := prog_1_method_14_code
def yX5_about : MethodName := ⟨RX5, "about", "(II)I"⟩
abbrev cX5_child : ByteArray := prog_1_method_15_code
def yX5_child : MethodName := ⟨RX5, "child", "(II)I"⟩
abbrev cX5_event : ByteArray := prog_1_method_16_code
def yX5_event : MethodName := ⟨RX5, "event", "(II)I"⟩
abbrev cX5_total : ByteArray := prog_1_method_17_code
def yX5_total : MethodName := ⟨RX5, "total", "(I)I"⟩
abbrev cX5_wantWithin : ByteArray := prog_1_method_18_code
def yX5_wantWithin : MethodName := ⟨RX5, "wantWithin", "(III)V"⟩
abbrev cX5_wantBounds : ByteArray := prog_1_method_19_code
def yX5_wantBounds : MethodName := ⟨RX5, "wantBounds", "(III)V"⟩
abbrev cX5_wantState : ByteArray := prog_1_method_20_code
def yX5_wantState : MethodName := ⟨RX5, "wantState", "(Z)V"⟩
abbrev cX5_madeNode : ByteArray := prog_1_method_21_code
def yX5_madeNode : MethodName := ⟨RX5, "madeNode", "(I)LKeeperTree$Node;"⟩
abbrev cX5_nodeAt : ByteArray := prog_1_method_22_code
def yX5_nodeAt : MethodName := ⟨RX5, "nodeAt", "(I)LKeeperTree$Node;"⟩
abbrev cX5_keeperAt : ByteArray := prog_1_method_23_code
def yX5_keeperAt : MethodName := ⟨RX5, "keeperAt", "(I)LKeeperTree$Keeper;"⟩
abbrev cX5_workerAt : ByteArray := prog_1_method_24_code
def yX5_workerAt : MethodName := ⟨RX5, "workerAt", "(I)LKeeperTree$Worker;"⟩
abbrev cX5_ownerOf : ByteArray := prog_1_method_25_code
def yX5_ownerOf : MethodName := ⟨RX5, "ownerOf", "(LKeeperTree$Node;)LKeeperTree$Keeper;"⟩
abbrev cX5_hasRoomBelow : ByteArray := prog_1_method_26_code
def yX5_hasRoomBelow : MethodName := ⟨RX5, "hasRoomBelow", "(LKeeperTree$Keeper;)Z"⟩
abbrev cX5_join : ByteArray := prog_1_method_27_code
def yX5_join : MethodName := ⟨RX5, "join", "(LKeeperTree$Node;LKeeperTree$Keeper;)V"⟩
abbrev cX5_countIn : ByteArray := prog_1_method_28_code
def yX5_countIn : MethodName := ⟨RX5, "countIn", "(I)I"⟩
abbrev cX5_handleEnd : ByteArray := prog_1_method_29_code
def yX5_handleEnd : MethodName := ⟨RX5, "handleEnd", "(LKeeperTree$Node;I)V"⟩
abbrev cX5_restartOrGiveUp : ByteArray := prog_1_method_30_code
def yX5_restartOrGiveUp : MethodName := ⟨RX5, "restartOrGiveUp", "(LKeeperTree$Keeper;LKeeperTree$Node;)Z"⟩
def RX6 : String := "KeeperTreeModel"
def TX6 : u_T := fun k => match k with
  | 0 => ("KeeperTreeModel", "code", "I", false)
  | 1 => ("KeeperTreeModel", "made", "I", false)
  | 2 => ("KeeperTreeModel", "keeps", "[Z", true)
  | 3 => ("KeeperTreeModel", "parent", "[I", true)
  | 4 => ("KeeperTreeModel", "depth", "[I", true)
  | 5 => ("KeeperTreeModel", "state", "[I", true)
  | 6 => ("KeeperTreeModel", "kind", "[I", true)
  | 7 => ("KeeperTreeModel", "strategy", "[I", true)
  | 8 => ("KeeperTreeModel", "bound", "[I", true)
  | 9 => ("KeeperTreeModel", "span", "[I", true)
  | 10 => ("KeeperTreeModel", "patience", "[I", true)
  | 11 => ("KeeperTreeModel", "start", "[I", true)
  | 12 => ("KeeperTreeModel", "stop", "[I", true)
  | 13 => ("KeeperTreeModel", "fails", "[I", true)
  | 14 => ("KeeperTreeModel", "row", "[I", true)
  | 15 => ("KeeperTreeModel", "many", "[I", true)
  | 16 => ("KeeperTreeModel", "times", "[I", true)
  | 17 => ("KeeperTreeModel", "counted", "[I", true)
  | 18 => ("KeeperTreeModel", "time", "I", false)
  | 19 => ("KeeperTreeModel", "events", "I", false)
  | 20 => ("KeeperTreeModel", "event", "[I", true)
  | 21 => ("KeeperTreeModel", "restarts", "I", false)
  | 22 => ("KeeperTreeModel", "gaveUp", "I", false)
  | 23 => ("KeeperTreeModel", "way", "[I", true)
  | _ => ("KeeperTreeModel", "at", "[I", true)
def tyX6 : Nat → FieldType := fun k => match k with
  | 0 => .int
  | 1 => .int
  | 2 => .array .boolean
  | 3 => .array .int
  | 4 => .array .int
  | 5 => .array .int
  | 6 => .array .int
  | 7 => .array .int
  | 8 => .array .int
  | 9 => .array .int
  | 10 => .array .int
  | 11 => .array .int
  | 12 => .array .int
  | 13 => .array .int
  | 14 => .array .int
  | 15 => .array .int
  | 16 => .array .int
  | 17 => .array .int
  | 18 => .int
  | 19 => .int
  | 20 => .array .int
  | 21 => .int
  | 22 => .int
  | 23 => .array .int
  | _ => .array .int
abbrev wsX60 : List Cond := u_ws RX6 TX6 25
theorem nmX6 : ∀ a, a < 25 → ∀ b, b < 25 → a ≠ b → (TX6 a).2.1 ≠ (TX6 b).2.1 := by decide +kernel
theorem tyX6_ok : ∀ k, k < 25 → parseFieldDescriptor (TX6 k).2.2.1 = some (tyX6 k) := by decide +kernel
abbrev cX6_init : ByteArray := prog_8_method_1_code
def yX6_init : MethodName := ⟨RX6, "<init>", "()V"⟩
abbrev cX6_thrown : ByteArray := prog_8_method_2_code
def yX6_thrown : MethodName := ⟨RX6, "thrown", "()I"⟩
abbrev cX6_refuses : ByteArray := prog_8_method_3_code
def yX6_refuses : MethodName := ⟨RX6, "refuses", "(I)Z"⟩
abbrev cX6_isNode : ByteArray := prog_8_method_4_code
def yX6_isNode : MethodName := ⟨RX6, "isNode", "(I)Z"⟩
abbrev cX6_isKeeper : ByteArray := prog_8_method_5_code
def yX6_isKeeper : MethodName := ⟨RX6, "isKeeper", "(I)Z"⟩
abbrev cX6_isWorker : ByteArray := prog_8_method_6_code
def yX6_isWorker : MethodName := ⟨RX6, "isWorker", "(I)Z"⟩
abbrev cX6_in : ByteArray := prog_8_method_7_code
def yX6_in : MethodName := ⟨RX6, "in", "(III)Z"⟩
abbrev cX6_note : ByteArray := prog_8_method_8_code
def yX6_note : MethodName := ⟨RX6, "note", "(III)V"⟩
abbrev cX6_starts : ByteArray := prog_8_method_9_code
def yX6_starts : MethodName := ⟨RX6, "starts", "(I)Z"⟩
abbrev cX6_stopsBelow : ByteArray := prog_8_method_10_code
def yX6_stopsBelow : MethodName := ⟨RX6, "stopsBelow", "(III)V"⟩
abbrev cX6_ceases : ByteArray := prog_8_method_11_code
def yX6_ceases : MethodName := ⟨RX6, "ceases", "(IIZ)I"⟩
abbrev cX6_place : ByteArray := prog_8_method_12_code
def yX6_place : MethodName := ⟨RX6, "place", "(I)I"⟩
abbrev cX6_goes : ByteArray := prog_8_method_13_code
def yX6_goes : MethodName := ⟨RX6, "goes", "(I)I"⟩
abbrev cX6_counts : ByteArray := prog_8_method_14_code
def yX6_counts : MethodName := ⟨RX6, "counts", "(I)Z"⟩
abbrev cX6_handles : ByteArray := prog_8_method_15_code
def yX6_handles : MethodName := ⟨RX6, "handles", "(II)V"⟩
abbrev cX6_restarts : ByteArray := prog_8_method_16_code
def yX6_restarts : MethodName := ⟨RX6, "restarts", "(II)I"⟩
abbrev cX6_isKeeping : ByteArray := prog_8_method_17_code
def yX6_isKeeping : MethodName := ⟨RX6, "isKeeping", "(III)Z"⟩
abbrev cX6_first : ByteArray := prog_8_method_18_code
def yX6_first : MethodName := ⟨RX6, "first", "(III)V"⟩
abbrev cX6_child : ByteArray := prog_8_method_19_code
def yX6_child : MethodName := ⟨RX6, "child", "(IIZ)I"⟩
abbrev cX6_keeper : ByteArray := prog_8_method_20_code
def yX6_keeper : MethodName := ⟨RX6, "keeper", "(IIIII)I"⟩
abbrev cX6_worker : ByteArray := prog_8_method_21_code
def yX6_worker : MethodName := ⟨RX6, "worker", "(IIIIII)I"⟩
abbrev cX6_failing : ByteArray := prog_8_method_22_code
def yX6_failing : MethodName := ⟨RX6, "failing", "(II)I"⟩
abbrev cX6_begin : ByteArray := prog_8_method_23_code
def yX6_begin : MethodName := ⟨RX6, "begin", "()Z"⟩
abbrev cX6_ends : ByteArray := prog_8_method_24_code
def yX6_ends : MethodName := ⟨RX6, "ends", "(II)V"⟩
abbrev cX6_kill : ByteArray := prog_8_method_25_code
def yX6_kill : MethodName := ⟨RX6, "kill", "(I)I"⟩
abbrev cX6_stop : ByteArray := prog_8_method_26_code
def yX6_stop : MethodName := ⟨RX6, "stop", "(I)V"⟩
abbrev cX6_again : ByteArray := prog_8_method_27_code
def yX6_again : MethodName := ⟨RX6, "again", "(I)Z"⟩
abbrev cX6_remove : ByteArray := prog_8_method_28_code
def yX6_remove : MethodName := ⟨RX6, "remove", "(I)I"⟩
abbrev cX6_pass : ByteArray := prog_8_method_29_code
def yX6_pass : MethodName := ⟨RX6, "pass", "(I)I"⟩
abbrev cX6_state : ByteArray := prog_8_method_30_code
def yX6_state : MethodName := ⟨RX6, "state", "(I)I"⟩
abbrev cX6_about : ByteArray := prog_8_method_31_code
def yX6_about : MethodName := ⟨RX6, "about", "(II)I"⟩
abbrev cX6_child_ : ByteArray := prog_8_method_32_code
def yX6_child_ : MethodName := ⟨RX6, "child", "(II)I"⟩
abbrev cX6_event : ByteArray := prog_8_method_33_code
def yX6_event : MethodName := ⟨RX6, "event", "(II)I"⟩
abbrev cX6_total : ByteArray := prog_8_method_34_code
def yX6_total : MethodName := ⟨RX6, "total", "(I)I"⟩
def RJx145de : String := "java/io/Serializable"
def TJx145de : u_T := fun k => match k with
  | _ => ("", "", "", false)
def tyJx145de : Nat → FieldType := fun k => match k with
  | _ => .int
abbrev wsJx145de0 : List Cond := u_ws RJx145de TJx145de 0
theorem nmJx145de : ∀ a, a < 0 → ∀ b, b < 0 → a ≠ b → (TJx145de a).2.1 ≠ (TJx145de b).2.1 := by decide +kernel
theorem tyJx145de_ok : ∀ k, k < 0 → parseFieldDescriptor (TJx145de k).2.2.1 = some (tyJx145de k) := by decide +kernel
def RJx8e188 : String := "java/lang/Cloneable"
def TJx8e188 : u_T := fun k => match k with
  | _ => ("", "", "", false)
def tyJx8e188 : Nat → FieldType := fun k => match k with
  | _ => .int
abbrev wsJx8e1880 : List Cond := u_ws RJx8e188 TJx8e188 0
theorem nmJx8e188 : ∀ a, a < 0 → ∀ b, b < 0 → a ≠ b → (TJx8e188 a).2.1 ≠ (TJx8e188 b).2.1 := by decide +kernel
theorem tyJx8e188_ok : ∀ k, k < 0 → parseFieldDescriptor (TJx8e188 k).2.2.1 = some (tyJx8e188 k) := by decide +kernel
def RJxab1ab : String := "java/lang/Iterable"
def TJxab1ab : u_T := fun k => match k with
  | _ => ("", "", "", false)
def tyJxab1ab : Nat → FieldType := fun k => match k with
  | _ => .int
abbrev wsJxab1ab0 : List Cond := u_ws RJxab1ab TJxab1ab 0
theorem nmJxab1ab : ∀ a, a < 0 → ∀ b, b < 0 → a ≠ b → (TJxab1ab a).2.1 ≠ (TJxab1ab b).2.1 := by decide +kernel
theorem tyJxab1ab_ok : ∀ k, k < 0 → parseFieldDescriptor (TJxab1ab k).2.2.1 = some (tyJxab1ab k) := by decide +kernel
def RJ9 : String := "java/lang/Math"
def TJ9 : u_T := fun k => match k with
  | _ => ("", "", "", false)
def tyJ9 : Nat → FieldType := fun k => match k with
  | _ => .int
abbrev wsJ90 : List Cond := u_ws RJ9 TJ9 0
theorem nmJ9 : ∀ a, a < 0 → ∀ b, b < 0 → a ≠ b → (TJ9 a).2.1 ≠ (TJ9 b).2.1 := by decide +kernel
theorem tyJ9_ok : ∀ k, k < 0 → parseFieldDescriptor (TJ9 k).2.2.1 = some (tyJ9 k) := by decide +kernel
abbrev cJ9_max_7cf53 : ByteArray := prog_15_method_65_code
def yJ9_max_7cf53 : MethodName := ⟨RJ9, "max", "(II)I"⟩
abbrev cJ9_min_7cf53 : ByteArray := prog_15_method_69_code
def yJ9_min_7cf53 : MethodName := ⟨RJ9, "min", "(II)I"⟩
def RJ10 : String := "java/lang/System"
def TJ10 : u_T := fun k => match k with
  | _ => ("", "", "", false)
def tyJ10 : Nat → FieldType := fun k => match k with
  | _ => .int
abbrev wsJ100 : List Cond := u_ws RJ10 TJ10 0
theorem nmJ10 : ∀ a, a < 0 → ∀ b, b < 0 → a ≠ b → (TJ10 a).2.1 ≠ (TJ10 b).2.1 := by decide +kernel
theorem tyJ10_ok : ∀ k, k < 0 → parseFieldDescriptor (TJ10 k).2.2.1 = some (tyJ10 k) := by decide +kernel
def RJxa1e45 : String := "java/util/AbstractCollection"
def TJxa1e45 : u_T := fun k => match k with
  | _ => ("", "", "", false)
def tyJxa1e45 : Nat → FieldType := fun k => match k with
  | _ => .int
abbrev wsJxa1e450 : List Cond := u_ws RJxa1e45 TJxa1e45 0
theorem nmJxa1e45 : ∀ a, a < 0 → ∀ b, b < 0 → a ≠ b → (TJxa1e45 a).2.1 ≠ (TJxa1e45 b).2.1 := by decide +kernel
theorem tyJxa1e45_ok : ∀ k, k < 0 → parseFieldDescriptor (TJxa1e45 k).2.2.1 = some (tyJxa1e45 k) := by decide +kernel
abbrev cJxa1e45_init_da8c8 : ByteArray := prog_19_method_1_code
def yJxa1e45_init_da8c8 : MethodName := ⟨RJxa1e45, "<init>", "()V"⟩
def RJxc12de : String := "java/util/AbstractList"
def TJxc12de : u_T := fun k => match k with
  | _ => ("", "", "", false)
def tyJxc12de : Nat → FieldType := fun k => match k with
  | _ => .int
abbrev wsJxc12de0 : List Cond := u_ws RJxc12de TJxc12de 0
theorem nmJxc12de : ∀ a, a < 0 → ∀ b, b < 0 → a ≠ b → (TJxc12de a).2.1 ≠ (TJxc12de b).2.1 := by decide +kernel
theorem tyJxc12de_ok : ∀ k, k < 0 → parseFieldDescriptor (TJxc12de k).2.2.1 = some (tyJxc12de k) := by decide +kernel
abbrev cJxc12de_init_da8c8 : ByteArray := prog_20_method_1_code
def yJxc12de_init_da8c8 : MethodName := ⟨RJxc12de, "<init>", "()V"⟩
def RJx4a65c : String := "java/util/ArrayList"
def TJx4a65c : u_T := fun k => match k with
  | 0 => ("java/util/AbstractList", "modCount", "I", false)
  | 1 => ("java/util/ArrayList", "elementData", "[Ljava/lang/Object;", false)
  | _ => ("java/util/ArrayList", "size", "I", false)
def tyJx4a65c : Nat → FieldType := fun k => match k with
  | 0 => .int
  | 1 => .array (.object "java/lang/Object")
  | _ => .int
abbrev wsJx4a65c0 : List Cond := u_ws RJx4a65c TJx4a65c 3
theorem nmJx4a65c : ∀ a, a < 3 → ∀ b, b < 3 → a ≠ b → (TJx4a65c a).2.1 ≠ (TJx4a65c b).2.1 := by decide +kernel
theorem tyJx4a65c_ok : ∀ k, k < 3 → parseFieldDescriptor (TJx4a65c k).2.2.1 = some (tyJx4a65c k) := by decide +kernel
abbrev cJx4a65c_init_da8c8 : ByteArray := prog_21_method_2_code
def yJx4a65c_init_da8c8 : MethodName := ⟨RJx4a65c, "<init>", "()V"⟩
abbrev cJx4a65c_grow_92f84 : ByteArray := prog_21_method_6_code
def yJx4a65c_grow_92f84 : MethodName := ⟨RJx4a65c, "grow", "(I)[Ljava/lang/Object;"⟩
abbrev cJx4a65c_grow_d5877 : ByteArray := prog_21_method_7_code
def yJx4a65c_grow_d5877 : MethodName := ⟨RJx4a65c, "grow", "()[Ljava/lang/Object;"⟩
abbrev cJx4a65c_size_8abf5 : ByteArray := prog_21_method_8_code
def yJx4a65c_size_8abf5 : MethodName := ⟨RJx4a65c, "size", "()I"⟩
abbrev cJx4a65c_elementData_915e3 : ByteArray := prog_21_method_18_code
def yJx4a65c_elementData_915e3 : MethodName := ⟨RJx4a65c, "elementData", "(I)Ljava/lang/Object;"⟩
abbrev cJx4a65c_get_915e3 : ByteArray := prog_21_method_20_code
def yJx4a65c_get_915e3 : MethodName := ⟨RJx4a65c, "get", "(I)Ljava/lang/Object;"⟩
abbrev cJx4a65c_add_72be8 : ByteArray := prog_21_method_24_code
def yJx4a65c_add_72be8 : MethodName := ⟨RJx4a65c, "add", "(Ljava/lang/Object;[Ljava/lang/Object;I)V"⟩
abbrev cJx4a65c_add_9ea2d : ByteArray := prog_21_method_25_code
def yJx4a65c_add_9ea2d : MethodName := ⟨RJx4a65c, "add", "(Ljava/lang/Object;)Z"⟩
abbrev cJx4a65c_remove_915e3 : ByteArray := prog_21_method_29_code
def yJx4a65c_remove_915e3 : MethodName := ⟨RJx4a65c, "remove", "(I)Ljava/lang/Object;"⟩
abbrev cJx4a65c_fastRemove_b59b0 : ByteArray := prog_21_method_39_code
def yJx4a65c_fastRemove_b59b0 : MethodName := ⟨RJx4a65c, "fastRemove", "([Ljava/lang/Object;I)V"⟩
def RJ7 : String := "java/util/Arrays"
def TJ7 : u_T := fun k => match k with
  | _ => ("", "", "", false)
def tyJ7 : Nat → FieldType := fun k => match k with
  | _ => .int
abbrev wsJ70 : List Cond := u_ws RJ7 TJ7 0
theorem nmJ7 : ∀ a, a < 0 → ∀ b, b < 0 → a ≠ b → (TJ7 a).2.1 ≠ (TJ7 b).2.1 := by decide +kernel
theorem tyJ7_ok : ∀ k, k < 0 → parseFieldDescriptor (TJ7 k).2.2.1 = some (tyJ7 k) := by decide +kernel
abbrev cJ7_copyOf_1904c : ByteArray := prog_22_method_119_code
def yJ7_copyOf_1904c : MethodName := ⟨RJ7, "copyOf", "([Ljava/lang/Object;I)[Ljava/lang/Object;"⟩
abbrev cJ7_copyOf_6403c : ByteArray := prog_22_method_120_code
def yJ7_copyOf_6403c : MethodName := ⟨RJ7, "copyOf", "([Ljava/lang/Object;ILjava/lang/Class;)[Ljava/lang/Object;"⟩
def RJx5ef63 : String := "java/util/Collection"
def TJx5ef63 : u_T := fun k => match k with
  | _ => ("", "", "", false)
def tyJx5ef63 : Nat → FieldType := fun k => match k with
  | _ => .int
abbrev wsJx5ef630 : List Cond := u_ws RJx5ef63 TJx5ef63 0
theorem nmJx5ef63 : ∀ a, a < 0 → ∀ b, b < 0 → a ≠ b → (TJx5ef63 a).2.1 ≠ (TJx5ef63 b).2.1 := by decide +kernel
theorem tyJx5ef63_ok : ∀ k, k < 0 → parseFieldDescriptor (TJx5ef63 k).2.2.1 = some (tyJx5ef63 k) := by decide +kernel
def RJxbd725 : String := "java/util/List"
def TJxbd725 : u_T := fun k => match k with
  | _ => ("", "", "", false)
def tyJxbd725 : Nat → FieldType := fun k => match k with
  | _ => .int
abbrev wsJxbd7250 : List Cond := u_ws RJxbd725 TJxbd725 0
theorem nmJxbd725 : ∀ a, a < 0 → ∀ b, b < 0 → a ≠ b → (TJxbd725 a).2.1 ≠ (TJxbd725 b).2.1 := by decide +kernel
theorem tyJxbd725_ok : ∀ k, k < 0 → parseFieldDescriptor (TJxbd725 k).2.2.1 = some (tyJxbd725 k) := by decide +kernel
def RJ15 : String := "java/util/Objects"
def TJ15 : u_T := fun k => match k with
  | _ => ("", "", "", false)
def tyJ15 : Nat → FieldType := fun k => match k with
  | _ => .int
abbrev wsJ150 : List Cond := u_ws RJ15 TJ15 0
theorem nmJ15 : ∀ a, a < 0 → ∀ b, b < 0 → a ≠ b → (TJ15 a).2.1 ≠ (TJ15 b).2.1 := by decide +kernel
theorem tyJ15_ok : ∀ k, k < 0 → parseFieldDescriptor (TJ15 k).2.2.1 = some (tyJ15 k) := by decide +kernel
abbrev cJ15_checkIndex_7cf53 : ByteArray := prog_25_method_17_code
def yJ15_checkIndex_7cf53 : MethodName := ⟨RJ15, "checkIndex", "(II)I"⟩
def RJxf0a74 : String := "java/util/RandomAccess"
def TJxf0a74 : u_T := fun k => match k with
  | _ => ("", "", "", false)
def tyJxf0a74 : Nat → FieldType := fun k => match k with
  | _ => .int
abbrev wsJxf0a740 : List Cond := u_ws RJxf0a74 TJxf0a74 0
theorem nmJxf0a74 : ∀ a, a < 0 → ∀ b, b < 0 → a ≠ b → (TJxf0a74 a).2.1 ≠ (TJxf0a74 b).2.1 := by decide +kernel
theorem tyJxf0a74_ok : ∀ k, k < 0 → parseFieldDescriptor (TJxf0a74 k).2.2.1 = some (tyJxf0a74 k) := by decide +kernel
def RJxa66e6 : String := "java/util/SequencedCollection"
def TJxa66e6 : u_T := fun k => match k with
  | _ => ("", "", "", false)
def tyJxa66e6 : Nat → FieldType := fun k => match k with
  | _ => .int
abbrev wsJxa66e60 : List Cond := u_ws RJxa66e6 TJxa66e6 0
theorem nmJxa66e6 : ∀ a, a < 0 → ∀ b, b < 0 → a ≠ b → (TJxa66e6 a).2.1 ≠ (TJxa66e6 b).2.1 := by decide +kernel
theorem tyJxa66e6_ok : ∀ k, k < 0 → parseFieldDescriptor (TJxa66e6 k).2.2.1 = some (tyJxa66e6 k) := by decide +kernel
def RJ8 : String := "jdk/internal/util/ArraysSupport"
def TJ8 : u_T := fun k => match k with
  | _ => ("", "", "", false)
def tyJ8 : Nat → FieldType := fun k => match k with
  | _ => .int
abbrev wsJ80 : List Cond := u_ws RJ8 TJ8 0
theorem nmJ8 : ∀ a, a < 0 → ∀ b, b < 0 → a ≠ b → (TJ8 a).2.1 ≠ (TJ8 b).2.1 := by decide +kernel
theorem tyJ8_ok : ∀ k, k < 0 → parseFieldDescriptor (TJ8 k).2.2.1 = some (tyJ8 k) := by decide +kernel
abbrev cJ8_newLength_cabcc : ByteArray := prog_28_method_27_code
def yJ8_newLength_cabcc : MethodName := ⟨RJ8, "newLength", "(III)I"⟩
abbrev cJ8_hugeLength_7cf53 : ByteArray := prog_28_method_28_code
def yJ8_hugeLength_7cf53 : MethodName := ⟨RJ8, "hugeLength", "(II)I"⟩
def RJ3 : String := "jdk/internal/util/Preconditions"
def TJ3 : u_T := fun k => match k with
  | _ => ("", "", "", false)
def tyJ3 : Nat → FieldType := fun k => match k with
  | _ => .int
abbrev wsJ30 : List Cond := u_ws RJ3 TJ3 0
theorem nmJ3 : ∀ a, a < 0 → ∀ b, b < 0 → a ≠ b → (TJ3 a).2.1 ≠ (TJ3 b).2.1 := by decide +kernel
theorem tyJ3_ok : ∀ k, k < 0 → parseFieldDescriptor (TJ3 k).2.2.1 = some (tyJ3 k) := by decide +kernel
abbrev cJ3_checkIndex_8e157 : ByteArray := prog_29_method_11_code
def yJ3_checkIndex_8e157 : MethodName := ⟨RJ3, "checkIndex", "(IILjava/util/function/BiFunction;)I"⟩
def RL : String := "KeeperTreeLaw"
abbrev cL_first : ByteArray := method_3_code
def yL_first : MethodName := ⟨RL, "first", "(LKeeperTree;III)I"⟩
abbrev cL_keeper : ByteArray := method_4_code
def yL_keeper : MethodName := ⟨RL, "keeper", "(LKeeperTree;IIIII[J)I"⟩
abbrev cL_worker : ByteArray := method_5_code
def yL_worker : MethodName := ⟨RL, "worker", "(LKeeperTree;IIIIII[J)I"⟩
abbrev cL_failing : ByteArray := method_6_code
def yL_failing : MethodName := ⟨RL, "failing", "(LKeeperTree;II[J)I"⟩
abbrev cL_begin : ByteArray := method_7_code
def yL_begin : MethodName := ⟨RL, "begin", "(LKeeperTree;[J)I"⟩
abbrev cL_ends : ByteArray := method_8_code
def yL_ends : MethodName := ⟨RL, "ends", "(LKeeperTree;II)I"⟩
abbrev cL_kill : ByteArray := method_9_code
def yL_kill : MethodName := ⟨RL, "kill", "(LKeeperTree;I[J)I"⟩
abbrev cL_stop : ByteArray := method_10_code
def yL_stop : MethodName := ⟨RL, "stop", "(LKeeperTree;I)I"⟩
abbrev cL_again : ByteArray := method_11_code
def yL_again : MethodName := ⟨RL, "again", "(LKeeperTree;I[J)I"⟩
abbrev cL_remove : ByteArray := method_12_code
def yL_remove : MethodName := ⟨RL, "remove", "(LKeeperTree;I[J)I"⟩
abbrev cL_pass : ByteArray := method_13_code
def yL_pass : MethodName := ⟨RL, "pass", "(LKeeperTree;I[J)I"⟩
abbrev cL_state : ByteArray := method_14_code
def yL_state : MethodName := ⟨RL, "state", "(LKeeperTree;I[J)I"⟩
abbrev cL_about : ByteArray := method_15_code
def yL_about : MethodName := ⟨RL, "about", "(LKeeperTree;II[J)I"⟩
abbrev cL_child : ByteArray := method_16_code
def yL_child : MethodName := ⟨RL, "child", "(LKeeperTree;II[J)I"⟩
abbrev cL_event : ByteArray := method_17_code
def yL_event : MethodName := ⟨RL, "event", "(LKeeperTree;II[J)I"⟩
abbrev cL_total : ByteArray := method_18_code
def yL_total : MethodName := ⟨RL, "total", "(LKeeperTree;I[J)I"⟩
abbrev cL_law : ByteArray := code
def yL_law : MethodName := ⟨RL, "law", "([I)Z"⟩
abbrev vwCl : List vw_C := [(RJx4a65c, TJx4a65c, 3), (RX0, TX0, 3), (RX1, TX1, 10), (RX3, TX3, 2), (RX4, TX4, 9), (RX5, TX5, 6), (RX6, TX6, 25)]
