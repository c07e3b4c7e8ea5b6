theorem goodIn_r {big : List Cond} (ws : List Cond) (ps : List Nat) (hp : ws = ps.filterMap (fun i => big[i]?)) (h : ws.all goodWord = true) : GoodIn big ws := by
  intro w hw
  have h1 := List.all_eq_true.mp h w hw
  rw [hp] at hw
  obtain ⟨i, -, hi⟩ := List.mem_filterMap.mp hw
  have hm : w ∈ big := by first | exact List.mem_of_getElem? hi | exact List.getElem?_mem hi
  exact ⟨hm, good_of_word h1⟩
theorem goodIn_app {big a b : List Cond} (ha : GoodIn big a) (hb : GoodIn big b) : GoodIn big (a ++ b) := fun w h => (List.mem_append.mp h).elim (ha w) (hb w)
theorem goodIn_ca {big a b : List Cond} {c : Cond} (ha : GoodIn big (c :: a)) (hb : GoodIn big b) : GoodIn big (c :: (a ++ b)) := fun w h => (List.mem_cons.mp h).elim (fun e => ha w (List.mem_cons.mpr (Or.inl e))) (fun h => (List.mem_append.mp h).elim (fun h => ha w (List.mem_cons.mpr (Or.inr h))) (hb w))
theorem goodIn_sub {big ws : List Cond} (hm : ∀ w ∈ ws, w ∈ big) (h : ws.all goodWord = true) : GoodIn big ws := fun w hw => ⟨hm w hw, good_of_word (List.all_eq_true.mp h w hw)⟩
def RX0 : String := "ReplicaSessions$History"
def TX0 : u_T := fun k => match k with
  | 0 => ("ReplicaSessions$History", "states", "[LReplicaSessions$State;", true)
  | 1 => ("ReplicaSessions$History", "oldest", "I", false)
  | _ => ("ReplicaSessions$History", "count", "I", false)
def tyX0 : Nat → FieldType := fun k => match k with
  | 0 => .array (.object "ReplicaSessions$State")
  | 1 => .int
  | _ => .int
abbrev wsX00 : List Cond := u_ws RX0 TX0 3
theorem nmX0 : ∀ a, a < 3 → ∀ b, b < 3 → a ≠ b → (TX0 a).2.1 ≠ (TX0 b).2.1 := by decide +kernel
theorem tyX0_ok : ∀ k, k < 3 → parseFieldDescriptor (TX0 k).2.2.1 = some (tyX0 k) := by decide +kernel
abbrev cX0_init : ByteArray := prog_2_method_1_code
def yX0_init : MethodName := ⟨RX0, "<init>", "()V"⟩
abbrev cX0_prepare : ByteArray := prog_2_method_2_code
def yX0_prepare : MethodName := ⟨RX0, "prepare", "(LReplicaSessions$State;)V"⟩
abbrev cX0_keepUnlessError : ByteArray := prog_2_method_3_code
def yX0_keepUnlessError : MethodName := ⟨RX0, "keepUnlessError", "(I)I"⟩
abbrev cX0_stateAfterOldest : ByteArray := prog_2_method_5_code
def yX0_stateAfterOldest : MethodName := ⟨RX0, "stateAfterOldest", "(I)LReplicaSessions$State;"⟩
def RX1 : String := "ReplicaSessions$Log"
def TX1 : u_T := fun k => match k with
  | 0 => ("ReplicaSessions$Log", "count", "I", false)
  | 1 => ("ReplicaSessions$Log", "keys", "[I", true)
  | 2 => ("ReplicaSessions$Log", "values", "[I", true)
  | _ => ("ReplicaSessions$Log", "writers", "[I", true)
def tyX1 : Nat → FieldType := fun k => match k with
  | 0 => .int
  | 1 => .array .int
  | 2 => .array .int
  | _ => .array .int
abbrev wsX10 : List Cond := u_ws RX1 TX1 4
theorem nmX1 : ∀ a, a < 4 → ∀ b, b < 4 → a ≠ b → (TX1 a).2.1 ≠ (TX1 b).2.1 := by decide +kernel
theorem tyX1_ok : ∀ k, k < 4 → parseFieldDescriptor (TX1 k).2.2.1 = some (tyX1 k) := by decide +kernel
abbrev cX1_init : ByteArray := prog_3_method_1_code
def yX1_init : MethodName := ⟨RX1, "<init>", "()V"⟩
abbrev cX1_contains : ByteArray := prog_3_method_2_code
def yX1_contains : MethodName := ⟨RX1, "contains", "(I)Z"⟩
abbrev cX1_keyOf : ByteArray := prog_3_method_3_code
def yX1_keyOf : MethodName := ⟨RX1, "keyOf", "(I)I"⟩
abbrev cX1_valueOf : ByteArray := prog_3_method_4_code
def yX1_valueOf : MethodName := ⟨RX1, "valueOf", "(I)I"⟩
abbrev cX1_add : ByteArray := prog_3_method_6_code
def yX1_add : MethodName := ⟨RX1, "add", "(III)I"⟩
abbrev cX1_versionAt : ByteArray := prog_3_method_7_code
def yX1_versionAt : MethodName := ⟨RX1, "versionAt", "(II)I"⟩
abbrev cX1_countAfter : ByteArray := prog_3_method_8_code
def yX1_countAfter : MethodName := ⟨RX1, "countAfter", "(II)I"⟩
abbrev cX1_copyFrom : ByteArray := prog_3_method_9_code
def yX1_copyFrom : MethodName := ⟨RX1, "copyFrom", "(LReplicaSessions$Log;)V"⟩
def RX2 : String := "ReplicaSessions$Replica"
def TX2 : u_T := fun k => match k with
  | 0 => ("ReplicaSessions$Replica", "isThere", "Z", false)
  | 1 => ("ReplicaSessions$Replica", "position", "I", false)
  | 2 => ("ReplicaSessions$Replica", "rate", "I", false)
  | 3 => ("ReplicaSessions$Replica", "isStopped", "Z", false)
  | _ => ("ReplicaSessions$Replica", "answerCount", "I", false)
def tyX2 : Nat → FieldType := fun k => match k with
  | 0 => .boolean
  | 1 => .int
  | 2 => .int
  | 3 => .boolean
  | _ => .int
abbrev wsX20 : List Cond := u_ws RX2 TX2 5
theorem nmX2 : ∀ a, a < 5 → ∀ b, b < 5 → a ≠ b → (TX2 a).2.1 ≠ (TX2 b).2.1 := by decide +kernel
theorem tyX2_ok : ∀ k, k < 5 → parseFieldDescriptor (TX2 k).2.2.1 = some (tyX2 k) := by decide +kernel
abbrev cX2_init : ByteArray := prog_4_method_1_code
def yX2_init : MethodName := ⟨RX2, "<init>", "()V"⟩
abbrev cX2_begin : ByteArray := prog_4_method_2_code
def yX2_begin : MethodName := ⟨RX2, "begin", "(II)V"⟩
abbrev cX2_ticksTo : ByteArray := prog_4_method_3_code
def yX2_ticksTo : MethodName := ⟨RX2, "ticksTo", "(I)I"⟩
abbrev cX2_passTicks : ByteArray := prog_4_method_4_code
def yX2_passTicks : MethodName := ⟨RX2, "passTicks", "(II)V"⟩
abbrev cX2_copyFrom : ByteArray := prog_4_method_5_code
def yX2_copyFrom : MethodName := ⟨RX2, "copyFrom", "(LReplicaSessions$Replica;)V"⟩
def RX3 : String := "ReplicaSessions$Session"
def TX3 : u_T := fun k => match k with
  | 0 => ("ReplicaSessions$Session", "isOpen", "Z", false)
  | 1 => ("ReplicaSessions$Session", "home", "I", false)
  | 2 => ("ReplicaSessions$Session", "options", "I", false)
  | 3 => ("ReplicaSessions$Session", "bound", "I", false)
  | 4 => ("ReplicaSessions$Session", "ownMark", "I", false)
  | 5 => ("ReplicaSessions$Session", "seenMark", "I", false)
  | 6 => ("ReplicaSessions$Session", "readCount", "I", false)
  | 7 => ("ReplicaSessions$Session", "undoingReads", "I", false)
  | 8 => ("ReplicaSessions$Session", "readsGoneBack", "I", false)
  | 9 => ("ReplicaSessions$Session", "latestWrites", "[I", true)
  | _ => ("ReplicaSessions$Session", "greatestReads", "[I", true)
def tyX3 : Nat → FieldType := fun k => match k with
  | 0 => .boolean
  | 1 => .int
  | 2 => .int
  | 3 => .int
  | 4 => .int
  | 5 => .int
  | 6 => .int
  | 7 => .int
  | 8 => .int
  | 9 => .array .int
  | _ => .array .int
abbrev wsX30 : List Cond := u_ws RX3 TX3 11
theorem nmX3 : ∀ a, a < 11 → ∀ b, b < 11 → a ≠ b → (TX3 a).2.1 ≠ (TX3 b).2.1 := by decide +kernel
theorem tyX3_ok : ∀ k, k < 11 → parseFieldDescriptor (TX3 k).2.2.1 = some (tyX3 k) := by decide +kernel
abbrev cX3_init : ByteArray := prog_5_method_1_code
def yX3_init : MethodName := ⟨RX3, "<init>", "()V"⟩
abbrev cX3_begin : ByteArray := prog_5_method_2_code
def yX3_begin : MethodName := ⟨RX3, "begin", "(III)V"⟩
abbrev cX3_has : ByteArray := prog_5_method_3_code
def yX3_has : MethodName := ⟨RX3, "has", "(I)Z"⟩
abbrev cX3_need : ByteArray := prog_5_method_4_code
def yX3_need : MethodName := ⟨RX3, "need", "()I"⟩
abbrev cX3_noteWrite : ByteArray := prog_5_method_5_code
def yX3_noteWrite : MethodName := ⟨RX3, "noteWrite", "(II)V"⟩
abbrev cX3_noteRead : ByteArray := prog_5_method_6_code
def yX3_noteRead : MethodName := ⟨RX3, "noteRead", "(III)V"⟩
abbrev cX3_copyFrom : ByteArray := prog_5_method_7_code
def yX3_copyFrom : MethodName := ⟨RX3, "copyFrom", "(LReplicaSessions$Session;)V"⟩
def RX4 : String := "ReplicaSessions$State"
def TX4 : u_T := fun k => match k with
  | 0 => ("ReplicaSessions$State", "log", "LReplicaSessions$Log;", true)
  | 1 => ("ReplicaSessions$State", "replicas", "[LReplicaSessions$Replica;", true)
  | 2 => ("ReplicaSessions$State", "sessions", "[LReplicaSessions$Session;", true)
  | 3 => ("ReplicaSessions$State", "primaryAnswers", "I", false)
  | 4 => ("ReplicaSessions$State", "latestPlace", "I", false)
  | 5 => ("ReplicaSessions$State", "latestVersion", "I", false)
  | _ => ("ReplicaSessions$State", "latestTicks", "I", false)
def tyX4 : Nat → FieldType := fun k => match k with
  | 0 => .object "ReplicaSessions$Log"
  | 1 => .array (.object "ReplicaSessions$Replica")
  | 2 => .array (.object "ReplicaSessions$Session")
  | 3 => .int
  | 4 => .int
  | 5 => .int
  | _ => .int
abbrev wsX40 : List Cond := u_ws RX4 TX4 7
theorem nmX4 : ∀ a, a < 7 → ∀ b, b < 7 → a ≠ b → (TX4 a).2.1 ≠ (TX4 b).2.1 := by decide +kernel
theorem tyX4_ok : ∀ k, k < 7 → parseFieldDescriptor (TX4 k).2.2.1 = some (tyX4 k) := by decide +kernel
abbrev cX4_init : ByteArray := prog_6_method_1_code
def yX4_init : MethodName := ⟨RX4, "<init>", "()V"⟩
abbrev cX4_findReplica : ByteArray := prog_6_method_2_code
def yX4_findReplica : MethodName := ⟨RX4, "findReplica", "(I)LReplicaSessions$Replica;"⟩
abbrev cX4_findSession : ByteArray := prog_6_method_3_code
def yX4_findSession : MethodName := ⟨RX4, "findSession", "(I)LReplicaSessions$Session;"⟩
abbrev cX4_takeFreeReplica : ByteArray := prog_6_method_4_code
def yX4_takeFreeReplica : MethodName := ⟨RX4, "takeFreeReplica", "(II)I"⟩
abbrev cX4_takeFreeSession : ByteArray := prog_6_method_5_code
def yX4_takeFreeSession : MethodName := ⟨RX4, "takeFreeSession", "(III)I"⟩
abbrev cX4_replicaMask : ByteArray := prog_6_method_6_code
def yX4_replicaMask : MethodName := ⟨RX4, "replicaMask", "()I"⟩
abbrev cX4_sessionMask : ByteArray := prog_6_method_7_code
def yX4_sessionMask : MethodName := ⟨RX4, "sessionMask", "()I"⟩
abbrev cX4_countSessionsAt : ByteArray := prog_6_method_8_code
def yX4_countSessionsAt : MethodName := ⟨RX4, "countSessionsAt", "(I)I"⟩
abbrev cX4_sendSessionsToPrimary : ByteArray := prog_6_method_9_code
def yX4_sendSessionsToPrimary : MethodName := ⟨RX4, "sendSessionsToPrimary", "(I)I"⟩
abbrev cX4_hasPlace : ByteArray := prog_6_method_10_code
def yX4_hasPlace : MethodName := ⟨RX4, "hasPlace", "(I)Z"⟩
abbrev cX4_positionOf : ByteArray := prog_6_method_11_code
def yX4_positionOf : MethodName := ⟨RX4, "positionOf", "(I)I"⟩
abbrev cX4_passTicks : ByteArray := prog_6_method_12_code
def yX4_passTicks : MethodName := ⟨RX4, "passTicks", "(I)V"⟩
abbrev cX4_countCaughtUp : ByteArray := prog_6_method_13_code
def yX4_countCaughtUp : MethodName := ⟨RX4, "countCaughtUp", "()I"⟩
abbrev cX4_neededPosition : ByteArray := prog_6_method_14_code
def yX4_neededPosition : MethodName := ⟨RX4, "neededPosition", "(LReplicaSessions$Session;I)I"⟩
abbrev cX4_waitOf : ByteArray := prog_6_method_15_code
def yX4_waitOf : MethodName := ⟨RX4, "waitOf", "(LReplicaSessions$Session;II)I"⟩
abbrev cX4_answer : ByteArray := prog_6_method_16_code
def yX4_answer : MethodName := ⟨RX4, "answer", "(LReplicaSessions$Session;III)I"⟩
abbrev cX4_countAnswer : ByteArray := prog_6_method_17_code
def yX4_countAnswer : MethodName := ⟨RX4, "countAnswer", "(I)V"⟩
abbrev cX4_copyFrom : ByteArray := prog_6_method_18_code
def yX4_copyFrom : MethodName := ⟨RX4, "copyFrom", "(LReplicaSessions$State;)V"⟩
def RX5 : String := "ReplicaSessions$Text"
def TX5 : u_T := fun k => match k with
  | 0 => ("ReplicaSessions$Text", "codes", "[I", true)
  | 1 => ("ReplicaSessions$Text", "count", "I", false)
  | 2 => ("ReplicaSessions$Text", "at", "I", false)
  | 3 => ("ReplicaSessions$Text", "letter", "I", false)
  | 4 => ("ReplicaSessions$Text", "arguments", "[I", true)
  | _ => ("ReplicaSessions$Text", "argumentCount", "I", false)
def tyX5 : Nat → FieldType := fun k => match k with
  | 0 => .array .int
  | 1 => .int
  | 2 => .int
  | 3 => .int
  | 4 => .array .int
  | _ => .int
abbrev wsX50 : List Cond := u_ws RX5 TX5 6
theorem nmX5 : ∀ a, a < 6 → ∀ b, b < 6 → a ≠ b → (TX5 a).2.1 ≠ (TX5 b).2.1 := by decide +kernel
theorem tyX5_ok : ∀ k, k < 6 → parseFieldDescriptor (TX5 k).2.2.1 = some (tyX5 k) := by decide +kernel
abbrev cX5_init : ByteArray := prog_7_method_1_code
def yX5_init : MethodName := ⟨RX5, "<init>", "()V"⟩
def RX6 : String := "ReplicaSessions"
def TX6 : u_T := fun k => match k with
  | 0 => ("ReplicaSessions", "now", "LReplicaSessions$State;", true)
  | 1 => ("ReplicaSessions", "saved", "LReplicaSessions$State;", true)
  | 2 => ("ReplicaSessions", "isSaved", "Z", false)
  | 3 => ("ReplicaSessions", "history", "LReplicaSessions$History;", true)
  | _ => ("ReplicaSessions", "text", "LReplicaSessions$Text;", true)
def tyX6 : Nat → FieldType := fun k => match k with
  | 0 => .object "ReplicaSessions$State"
  | 1 => .object "ReplicaSessions$State"
  | 2 => .boolean
  | 3 => .object "ReplicaSessions$History"
  | _ => .object "ReplicaSessions$Text"
abbrev wsX60 : List Cond := u_ws RX6 TX6 5
theorem nmX6 : ∀ a, a < 5 → ∀ b, b < 5 → a ≠ b → (TX6 a).2.1 ≠ (TX6 b).2.1 := by decide +kernel
theorem tyX6_ok : ∀ k, k < 5 → parseFieldDescriptor (TX6 k).2.2.1 = some (tyX6 k) := by decide +kernel
abbrev cX6_init : ByteArray := prog_1_method_1_code
def yX6_init : MethodName := ⟨RX6, "<init>", "()V"⟩
abbrev cX6_addReplica : ByteArray := prog_1_method_2_code
def yX6_addReplica : MethodName := ⟨RX6, "addReplica", "(II)I"⟩
abbrev cX6_drop : ByteArray := prog_1_method_3_code
def yX6_drop : MethodName := ⟨RX6, "drop", "(I)I"⟩
abbrev cX6_setRate : ByteArray := prog_1_method_4_code
def yX6_setRate : MethodName := ⟨RX6, "setRate", "(II)I"⟩
abbrev cX6_stop : ByteArray := prog_1_method_5_code
def yX6_stop : MethodName := ⟨RX6, "stop", "(IZ)I"⟩
abbrev cX6_jumpBack : ByteArray := prog_1_method_6_code
def yX6_jumpBack : MethodName := ⟨RX6, "jumpBack", "(II)I"⟩
abbrev cX6_tick : ByteArray := prog_1_method_7_code
def yX6_tick : MethodName := ⟨RX6, "tick", "(I)I"⟩
abbrev cX6_replicas : ByteArray := prog_1_method_8_code
def yX6_replicas : MethodName := ⟨RX6, "replicas", "()I"⟩
abbrev cX6_replica : ByteArray := prog_1_method_9_code
def yX6_replica : MethodName := ⟨RX6, "replica", "(II)I"⟩
abbrev cX6_length : ByteArray := prog_1_method_10_code
def yX6_length : MethodName := ⟨RX6, "length", "()I"⟩
abbrev cX6_position : ByteArray := prog_1_method_12_code
def yX6_position : MethodName := ⟨RX6, "position", "(I)I"⟩
abbrev cX6_version : ByteArray := prog_1_method_13_code
def yX6_version : MethodName := ⟨RX6, "version", "(II)I"⟩
abbrev cX6_value : ByteArray := prog_1_method_14_code
def yX6_value : MethodName := ⟨RX6, "value", "(II)I"⟩
abbrev cX6_missing : ByteArray := prog_1_method_15_code
def yX6_missing : MethodName := ⟨RX6, "missing", "(II)I"⟩
abbrev cX6_answers : ByteArray := prog_1_method_16_code
def yX6_answers : MethodName := ⟨RX6, "answers", "(I)I"⟩
abbrev cX6_open : ByteArray := prog_1_method_17_code
def yX6_open : MethodName := ⟨RX6, "open", "(III)I"⟩
abbrev cX6_close : ByteArray := prog_1_method_18_code
def yX6_close : MethodName := ⟨RX6, "close", "(I)I"⟩
abbrev cX6_move : ByteArray := prog_1_method_19_code
def yX6_move : MethodName := ⟨RX6, "move", "(II)I"⟩
abbrev cX6_change : ByteArray := prog_1_method_20_code
def yX6_change : MethodName := ⟨RX6, "change", "(III)I"⟩
abbrev cX6_hand : ByteArray := prog_1_method_21_code
def yX6_hand : MethodName := ⟨RX6, "hand", "(II)I"⟩
abbrev cX6_sessions : ByteArray := prog_1_method_22_code
def yX6_sessions : MethodName := ⟨RX6, "sessions", "()I"⟩
abbrev cX6_session : ByteArray := prog_1_method_23_code
def yX6_session : MethodName := ⟨RX6, "session", "(II)I"⟩
abbrev cX6_write : ByteArray := prog_1_method_24_code
def yX6_write : MethodName := ⟨RX6, "write", "(III)I"⟩
abbrev cX6_read : ByteArray := prog_1_method_25_code
def yX6_read : MethodName := ⟨RX6, "read", "(II)I"⟩
abbrev cX6_readAt : ByteArray := prog_1_method_26_code
def yX6_readAt : MethodName := ⟨RX6, "readAt", "(III)I"⟩
abbrev cX6_latest : ByteArray := prog_1_method_27_code
def yX6_latest : MethodName := ⟨RX6, "latest", "(I)I"⟩
abbrev cX6_waitFor : ByteArray := prog_1_method_28_code
def yX6_waitFor : MethodName := ⟨RX6, "waitFor", "(III)I"⟩
abbrev cX6_bestReplica : ByteArray := prog_1_method_29_code
def yX6_bestReplica : MethodName := ⟨RX6, "bestReplica", "(II)I"⟩
abbrev cX6_keysAfter : ByteArray := prog_1_method_30_code
def yX6_keysAfter : MethodName := ⟨RX6, "keysAfter", "(III)I"⟩
abbrev cX6_catchUp : ByteArray := prog_1_method_31_code
def yX6_catchUp : MethodName := ⟨RX6, "catchUp", "()I"⟩
abbrev cX6_startReplica : ByteArray := prog_1_method_39_code
def yX6_startReplica : MethodName := ⟨RX6, "startReplica", "(II)I"⟩
abbrev cX6_removeReplica : ByteArray := prog_1_method_40_code
def yX6_removeReplica : MethodName := ⟨RX6, "removeReplica", "(I)I"⟩
abbrev cX6_changeRate : ByteArray := prog_1_method_41_code
def yX6_changeRate : MethodName := ⟨RX6, "changeRate", "(II)I"⟩
abbrev cX6_changeStopped : ByteArray := prog_1_method_42_code
def yX6_changeStopped : MethodName := ⟨RX6, "changeStopped", "(IZ)I"⟩
abbrev cX6_setBack : ByteArray := prog_1_method_43_code
def yX6_setBack : MethodName := ⟨RX6, "setBack", "(II)I"⟩
abbrev cX6_letTicksPass : ByteArray := prog_1_method_44_code
def yX6_letTicksPass : MethodName := ⟨RX6, "letTicksPass", "(I)I"⟩
abbrev cX6_startSession : ByteArray := prog_1_method_45_code
def yX6_startSession : MethodName := ⟨RX6, "startSession", "(III)I"⟩
abbrev cX6_endSession : ByteArray := prog_1_method_46_code
def yX6_endSession : MethodName := ⟨RX6, "endSession", "(I)I"⟩
abbrev cX6_changeHome : ByteArray := prog_1_method_47_code
def yX6_changeHome : MethodName := ⟨RX6, "changeHome", "(II)I"⟩
abbrev cX6_changeOptions : ByteArray := prog_1_method_48_code
def yX6_changeOptions : MethodName := ⟨RX6, "changeOptions", "(III)I"⟩
abbrev cX6_handMarks : ByteArray := prog_1_method_49_code
def yX6_handMarks : MethodName := ⟨RX6, "handMarks", "(II)I"⟩
abbrev cX6_addWrite : ByteArray := prog_1_method_50_code
def yX6_addWrite : MethodName := ⟨RX6, "addWrite", "(III)I"⟩
abbrev cX6_readAtHome : ByteArray := prog_1_method_51_code
def yX6_readAtHome : MethodName := ⟨RX6, "readAtHome", "(II)I"⟩
abbrev cX6_readAtPlace : ByteArray := prog_1_method_52_code
def yX6_readAtPlace : MethodName := ⟨RX6, "readAtPlace", "(III)I"⟩
abbrev cX6_isWithin : ByteArray := prog_1_method_54_code
def yX6_isWithin : MethodName := ⟨RX6, "isWithin", "(III)Z"⟩
abbrev cX6_isKey : ByteArray := prog_1_method_55_code
def yX6_isKey : MethodName := ⟨RX6, "isKey", "(I)Z"⟩
abbrev cX6_isError : ByteArray := prog_1_method_56_code
def yX6_isError : MethodName := ⟨RX6, "isError", "(I)Z"⟩
def RX7 : String := "ReplicaSessionsModel"
def TX7 : u_T := fun k => match k with
  | _ => ("", "", "", false)
def tyX7 : Nat → FieldType := fun k => match k with
  | _ => .int
abbrev wsX70 : List Cond := u_ws RX7 TX7 0
theorem nmX7 : ∀ a, a < 0 → ∀ b, b < 0 → a ≠ b → (TX7 a).2.1 ≠ (TX7 b).2.1 := by decide +kernel
theorem tyX7_ok : ∀ k, k < 0 → parseFieldDescriptor (TX7 k).2.2.1 = some (tyX7 k) := by decide +kernel
def RJ9 : String := "java/lang/Math"
def TJ9 : u_T := fun k => match k with
  | _ => ("", "", "", false)
def tyJ9 : Nat → FieldType := fun k => match k with
  | _ => .int
abbrev wsJ90 : List Cond := u_ws RJ9 TJ9 0
theorem nmJ9 : ∀ a, a < 0 → ∀ b, b < 0 → a ≠ b → (TJ9 a).2.1 ≠ (TJ9 b).2.1 := by decide +kernel
theorem tyJ9_ok : ∀ k, k < 0 → parseFieldDescriptor (TJ9 k).2.2.1 = some (tyJ9 k) := by decide +kernel
abbrev cJ9_floorMod_7cf53 : ByteArray := prog_10_method_50_code
def yJ9_floorMod_7cf53 : MethodName := ⟨RJ9, "floorMod", "(II)I"⟩
abbrev cJ9_max_7cf53 : ByteArray := prog_10_method_65_code
def yJ9_max_7cf53 : MethodName := ⟨RJ9, "max", "(II)I"⟩
abbrev cJ9_min_7cf53 : ByteArray := prog_10_method_69_code
def yJ9_min_7cf53 : MethodName := ⟨RJ9, "min", "(II)I"⟩
def RJ10 : String := "java/lang/System"
def TJ10 : u_T := fun k => match k with
  | _ => ("", "", "", false)
def tyJ10 : Nat → FieldType := fun k => match k with
  | _ => .int
abbrev wsJ100 : List Cond := u_ws RJ10 TJ10 0
theorem nmJ10 : ∀ a, a < 0 → ∀ b, b < 0 → a ≠ b → (TJ10 a).2.1 ≠ (TJ10 b).2.1 := by decide +kernel
theorem tyJ10_ok : ∀ k, k < 0 → parseFieldDescriptor (TJ10 k).2.2.1 = some (tyJ10 k) := by decide +kernel
def RJ7 : String := "java/util/Arrays"
def TJ7 : u_T := fun k => match k with
  | _ => ("", "", "", false)
def tyJ7 : Nat → FieldType := fun k => match k with
  | _ => .int
abbrev wsJ70 : List Cond := u_ws RJ7 TJ7 0
theorem nmJ7 : ∀ a, a < 0 → ∀ b, b < 0 → a ≠ b → (TJ7 a).2.1 ≠ (TJ7 b).2.1 := by decide +kernel
theorem tyJ7_ok : ∀ k, k < 0 → parseFieldDescriptor (TJ7 k).2.2.1 = some (tyJ7 k) := by decide +kernel
abbrev cJ7_fill_53178 : ByteArray := prog_12_method_103_code
def yJ7_fill_53178 : MethodName := ⟨RJ7, "fill", "([II)V"⟩
def RL : String := "ReplicaSessionsLaw"
abbrev cL_cell : ByteArray := method_2_code
def yL_cell : MethodName := ⟨RL, "cell", "([II)I"⟩
abbrev cL_low : ByteArray := method_3_code
def yL_low : MethodName := ⟨RL, "low", "(II)I"⟩
abbrev cL_at : ByteArray := method_4_code
def yL_at : MethodName := ⟨RL, "at", "([I[II)I"⟩
abbrev cL_version : ByteArray := method_5_code
def yL_version : MethodName := ⟨RL, "version", "([III)I"⟩
abbrev cL_value : ByteArray := method_6_code
def yL_value : MethodName := ⟨RL, "value", "([II)I"⟩
abbrev cL_need : ByteArray := method_7_code
def yL_need : MethodName := ⟨RL, "need", "([II)I"⟩
abbrev cL_can : ByteArray := method_8_code
def yL_can : MethodName := ⟨RL, "can", "([I[IIII)Z"⟩
abbrev cL_step : ByteArray := method_9_code
def yL_step : MethodName := ⟨RL, "step", "([I[III)I"⟩
abbrev cL_wait : ByteArray := method_10_code
def yL_wait : MethodName := ⟨RL, "wait", "([I[I[I[IIII)I"⟩
abbrev cL_pass : ByteArray := method_11_code
def yL_pass : MethodName := ⟨RL, "pass", "([I[II)V"⟩
abbrev cL_wrote : ByteArray := method_12_code
def yL_wrote : MethodName := ⟨RL, "wrote", "([I[I[III)I"⟩
abbrev cL_answer : ByteArray := method_13_code
def yL_answer : MethodName := ⟨RL, "answer", "([I[I[I[I[IIIII)I"⟩
abbrev cL_isPlace : ByteArray := method_14_code
def yL_isPlace : MethodName := ⟨RL, "isPlace", "([II)Z"⟩
abbrev cL_place : ByteArray := method_15_code
def yL_place : MethodName := ⟨RL, "place", "([II)I"⟩
abbrev cL_places : ByteArray := method_16_code
def yL_places : MethodName := ⟨RL, "places", "(LReplicaSessions;[I[I[I[II)Z"⟩
abbrev cL_sessions : ByteArray := method_17_code
def yL_sessions : MethodName := ⟨RL, "sessions", "(LReplicaSessions;[I[I[I[III)Z"⟩
abbrev cL_law : ByteArray := code
def yL_law : MethodName := ⟨RL, "law", "([I)Z"⟩
abbrev vwCl : List vw_C := [(RX0, TX0, 3), (RX1, TX1, 4), (RX2, TX2, 5), (RX3, TX3, 11), (RX4, TX4, 7), (RX5, TX5, 6), (RX6, TX6, 5)]
