def RX0 : String := "PulseRows$BouncingSwitch"
def TX0 : u_T := fun k => match k with
  | 0 => ("PulseRows$BouncingSwitch", "state", "Z", false)
  | 1 => ("PulseRows$BouncingSwitch", "lastLevel", "Z", false)
  | 2 => ("PulseRows$BouncingSwitch", "levelSince", "J", false)
  | _ => ("PulseRows$BouncingSwitch", "toldLast", "J", false)
def tyX0 : Nat → FieldType := fun k => match k with
  | 0 => .boolean
  | 1 => .boolean
  | 2 => .long
  | _ => .long
abbrev wsX00 : List Cond := u_ws RX0 TX0 4
theorem nmX0 : ∀ a, a < 4 → ∀ b, b < 4 → a ≠ b → (TX0 a).2.1 ≠ (TX0 b).2.1 := by decide +kernel
theorem tyX0_ok : ∀ k, k < 4 → parseFieldDescriptor (TX0 k).2.2.1 = some (tyX0 k) := by decide +kernel
abbrev cX0_init : ByteArray := prog_2_method_1_code
def yX0_init : MethodName := ⟨RX0, "<init>", "()V"⟩
abbrev cX0_lastTime : ByteArray := prog_2_method_2_code
def yX0_lastTime : MethodName := ⟨RX0, "lastTime", "()J"⟩
abbrev cX0_tell : ByteArray := prog_2_method_3_code
def yX0_tell : MethodName := ⟨RX0, "tell", "(ZJ)Z"⟩
def RX1 : String := "PulseRows$FaultLog"
def TX1 : u_T := fun k => match k with
  | 0 => ("PulseRows$FaultLog", "count", "I", false)
  | 1 => ("PulseRows$FaultLog", "streak", "I", false)
  | _ => ("PulseRows$FaultLog", "mark", "Z", false)
def tyX1 : Nat → FieldType := fun k => match k with
  | 0 => .int
  | 1 => .int
  | _ => .boolean
abbrev wsX10 : List Cond := u_ws RX1 TX1 3
theorem nmX1 : ∀ a, a < 3 → ∀ b, b < 3 → a ≠ b → (TX1 a).2.1 ≠ (TX1 b).2.1 := by decide +kernel
theorem tyX1_ok : ∀ k, k < 3 → parseFieldDescriptor (TX1 k).2.2.1 = some (tyX1 k) := by decide +kernel
abbrev cX1_init : ByteArray := prog_3_method_1_code
def yX1_init : MethodName := ⟨RX1, "<init>", "()V"⟩
abbrev cX1_add : ByteArray := prog_3_method_2_code
def yX1_add : MethodName := ⟨RX1, "add", "()V"⟩
abbrev cX1_endStreak : ByteArray := prog_3_method_3_code
def yX1_endStreak : MethodName := ⟨RX1, "endStreak", "()V"⟩
abbrev cX1_total : ByteArray := prog_3_method_4_code
def yX1_total : MethodName := ⟨RX1, "total", "()I"⟩
abbrev cX1_hasMark : ByteArray := prog_3_method_5_code
def yX1_hasMark : MethodName := ⟨RX1, "hasMark", "()Z"⟩
def RX2 : String := "PulseRows$SlowChannel"
def TX2 : u_T := fun k => match k with
  | 0 => ("PulseRows$SlowChannel", "messages", "[I", true)
  | 1 => ("PulseRows$SlowChannel", "messageCount", "I", false)
  | 2 => ("PulseRows$SlowChannel", "bits", "I", false)
  | _ => ("PulseRows$SlowChannel", "bitCount", "I", false)
def tyX2 : Nat → FieldType := fun k => match k with
  | 0 => .array .int
  | 1 => .int
  | 2 => .int
  | _ => .int
abbrev wsX20 : List Cond := u_ws RX2 TX2 4
theorem nmX2 : ∀ a, a < 4 → ∀ b, b < 4 → a ≠ b → (TX2 a).2.1 ≠ (TX2 b).2.1 := by decide +kernel
theorem tyX2_ok : ∀ k, k < 4 → parseFieldDescriptor (TX2 k).2.2.1 = some (tyX2 k) := by decide +kernel
abbrev cX2_init : ByteArray := prog_4_method_1_code
def yX2_init : MethodName := ⟨RX2, "<init>", "()V"⟩
abbrev cX2_take : ByteArray := prog_4_method_2_code
def yX2_take : MethodName := ⟨RX2, "take", "(I)Z"⟩
abbrev cX2_dropRow : ByteArray := prog_4_method_3_code
def yX2_dropRow : MethodName := ⟨RX2, "dropRow", "()V"⟩
abbrev cX2_size : ByteArray := prog_4_method_4_code
def yX2_size : MethodName := ⟨RX2, "size", "()I"⟩
abbrev cX2_messageAt : ByteArray := prog_4_method_5_code
def yX2_messageAt : MethodName := ⟨RX2, "messageAt", "(I)I"⟩
abbrev cX2_finishRow : ByteArray := prog_4_method_6_code
def yX2_finishRow : MethodName := ⟨RX2, "finishRow", "(I)Z"⟩
def RX3 : String := "PulseRows$Wheel"
def TX3 : u_T := fun k => match k with
  | 0 => ("PulseRows$Wheel", "trackA", "Z", false)
  | 1 => ("PulseRows$Wheel", "trackB", "Z", false)
  | _ => ("PulseRows$Wheel", "steps", "I", false)
def tyX3 : Nat → FieldType := fun k => match k with
  | 0 => .boolean
  | 1 => .boolean
  | _ => .int
abbrev wsX30 : List Cond := u_ws RX3 TX3 3
theorem nmX3 : ∀ a, a < 3 → ∀ b, b < 3 → a ≠ b → (TX3 a).2.1 ≠ (TX3 b).2.1 := by decide +kernel
theorem tyX3_ok : ∀ k, k < 3 → parseFieldDescriptor (TX3 k).2.2.1 = some (tyX3 k) := by decide +kernel
abbrev cX3_init : ByteArray := prog_5_method_1_code
def yX3_init : MethodName := ⟨RX3, "<init>", "()V"⟩
abbrev cX3_moveTo : ByteArray := prog_5_method_2_code
def yX3_moveTo : MethodName := ⟨RX3, "moveTo", "(ZZ)Z"⟩
abbrev cX3_position : ByteArray := prog_5_method_3_code
def yX3_position : MethodName := ⟨RX3, "position", "()I"⟩
def RX4 : String := "PulseRows"
def TX4 : u_T := fun k => match k with
  | 0 => ("PulseRows", "tolerance", "I", true)
  | 1 => ("PulseRows", "faultLog", "LPulseRows$FaultLog;", true)
  | 2 => ("PulseRows", "slowChannel", "LPulseRows$SlowChannel;", true)
  | 3 => ("PulseRows", "bouncingSwitch", "LPulseRows$BouncingSwitch;", true)
  | 4 => ("PulseRows", "wheel", "LPulseRows$Wheel;", true)
  | 5 => ("PulseRows", "frames", "[I", true)
  | 6 => ("PulseRows", "frameCount", "I", false)
  | 7 => ("PulseRows", "lastEdge", "J", false)
  | 8 => ("PulseRows", "calibration", "J", false)
  | 9 => ("PulseRows", "inFrame", "Z", false)
  | 10 => ("PulseRows", "nibbles", "I", false)
  | _ => ("PulseRows", "nibbleCount", "I", false)
def tyX4 : Nat → FieldType := fun k => match k with
  | 0 => .int
  | 1 => .object "PulseRows$FaultLog"
  | 2 => .object "PulseRows$SlowChannel"
  | 3 => .object "PulseRows$BouncingSwitch"
  | 4 => .object "PulseRows$Wheel"
  | 5 => .array .int
  | 6 => .int
  | 7 => .long
  | 8 => .long
  | 9 => .boolean
  | 10 => .int
  | _ => .int
abbrev wsX40 : List Cond := u_ws RX4 TX4 12
theorem nmX4 : ∀ a, a < 12 → ∀ b, b < 12 → a ≠ b → (TX4 a).2.1 ≠ (TX4 b).2.1 := by decide +kernel
theorem tyX4_ok : ∀ k, k < 12 → parseFieldDescriptor (TX4 k).2.2.1 = some (tyX4 k) := by decide +kernel
abbrev cX4_init : ByteArray := prog_1_method_1_code
def yX4_init : MethodName := ⟨RX4, "<init>", "(I)V"⟩
abbrev cX4_edge : ByteArray := prog_1_method_2_code
def yX4_edge : MethodName := ⟨RX4, "edge", "(J)I"⟩
abbrev cX4_nibble : ByteArray := prog_1_method_3_code
def yX4_nibble : MethodName := ⟨RX4, "nibble", "(I)I"⟩
abbrev cX4_check : ByteArray := prog_1_method_4_code
def yX4_check : MethodName := ⟨RX4, "check", "(I)I"⟩
abbrev cX4_slow : ByteArray := prog_1_method_5_code
def yX4_slow : MethodName := ⟨RX4, "slow", "(I)I"⟩
abbrev cX4_row : ByteArray := prog_1_method_6_code
def yX4_row : MethodName := ⟨RX4, "row", "(II)I"⟩
abbrev cX4_calibrate : ByteArray := prog_1_method_7_code
def yX4_calibrate : MethodName := ⟨RX4, "calibrate", "(J)I"⟩
abbrev cX4_parity : ByteArray := prog_1_method_8_code
def yX4_parity : MethodName := ⟨RX4, "parity", "(I)I"⟩
abbrev cX4_bounce : ByteArray := prog_1_method_9_code
def yX4_bounce : MethodName := ⟨RX4, "bounce", "(ZJ)I"⟩
abbrev cX4_faults : ByteArray := prog_1_method_10_code
def yX4_faults : MethodName := ⟨RX4, "faults", "()I"⟩
abbrev cX4_marked : ByteArray := prog_1_method_11_code
def yX4_marked : MethodName := ⟨RX4, "marked", "()Z"⟩
abbrev cX4_turn : ByteArray := prog_1_method_12_code
def yX4_turn : MethodName := ⟨RX4, "turn", "(ZZ)I"⟩
abbrev cX4_isOutsideTime : ByteArray := prog_1_method_13_code
def yX4_isOutsideTime : MethodName := ⟨RX4, "isOutsideTime", "(J)Z"⟩
abbrev cX4_hasFrame : ByteArray := prog_1_method_14_code
def yX4_hasFrame : MethodName := ⟨RX4, "hasFrame", "(I)Z"⟩
abbrev cX4_takeCalibration : ByteArray := prog_1_method_15_code
def yX4_takeCalibration : MethodName := ⟨RX4, "takeCalibration", "(J)V"⟩
abbrev cX4_isTaken : ByteArray := prog_1_method_16_code
def yX4_isTaken : MethodName := ⟨RX4, "isTaken", "(J)Z"⟩
abbrev cX4_takeNibble : ByteArray := prog_1_method_17_code
def yX4_takeNibble : MethodName := ⟨RX4, "takeNibble", "(J)V"⟩
abbrev cX4_nibbleOf : ByteArray := prog_1_method_18_code
def yX4_nibbleOf : MethodName := ⟨RX4, "nibbleOf", "(JJ)I"⟩
abbrev cX4_finishFrame : ByteArray := prog_1_method_19_code
def yX4_finishFrame : MethodName := ⟨RX4, "finishFrame", "(I)V"⟩
abbrev cX4_keepFrame : ByteArray := prog_1_method_20_code
def yX4_keepFrame : MethodName := ⟨RX4, "keepFrame", "(I)V"⟩
abbrev cX4_statusOf : ByteArray := prog_1_method_21_code
def yX4_statusOf : MethodName := ⟨RX4, "statusOf", "(I)I"⟩
abbrev cX4_dataOf : ByteArray := prog_1_method_22_code
def yX4_dataOf : MethodName := ⟨RX4, "dataOf", "(I)I"⟩
abbrev cX4_isRight : ByteArray := prog_1_method_23_code
def yX4_isRight : MethodName := ⟨RX4, "isRight", "(I)Z"⟩
abbrev cX4_nibbleAt : ByteArray := prog_1_method_24_code
def yX4_nibbleAt : MethodName := ⟨RX4, "nibbleAt", "(II)I"⟩
abbrev cX4_checking : ByteArray := prog_1_method_25_code
def yX4_checking : MethodName := ⟨RX4, "checking", "(II)I"⟩
def RX5 : String := "PulseRowsModel"
def TX5 : u_T := fun k => match k with
  | 0 => ("PulseRowsModel", "code", "I", false)
  | 1 => ("PulseRowsModel", "tolerance", "J", true)
  | 2 => ("PulseRowsModel", "edged", "Z", false)
  | 3 => ("PulseRowsModel", "edge", "J", false)
  | 4 => ("PulseRowsModel", "awaited", "I", false)
  | 5 => ("PulseRowsModel", "taken", "J", false)
  | 6 => ("PulseRowsModel", "unit", "J", false)
  | 7 => ("PulseRowsModel", "now", "[I", true)
  | 8 => ("PulseRowsModel", "some", "Z", false)
  | 9 => ("PulseRowsModel", "last", "[I", true)
  | 10 => ("PulseRowsModel", "frames", "I", false)
  | 11 => ("PulseRowsModel", "status", "[I", true)
  | 12 => ("PulseRowsModel", "data", "[I", true)
  | 13 => ("PulseRowsModel", "right", "[Z", true)
  | 14 => ("PulseRowsModel", "bits", "I", false)
  | 15 => ("PulseRowsModel", "bit", "[I", true)
  | 16 => ("PulseRowsModel", "messages", "I", false)
  | 17 => ("PulseRowsModel", "message", "[I", true)
  | 18 => ("PulseRowsModel", "faults", "I", false)
  | 19 => ("PulseRowsModel", "behind", "I", false)
  | 20 => ("PulseRowsModel", "marked", "Z", false)
  | 21 => ("PulseRowsModel", "state", "Z", false)
  | 22 => ("PulseRowsModel", "level", "Z", false)
  | 23 => ("PulseRowsModel", "since", "J", false)
  | 24 => ("PulseRowsModel", "told", "J", false)
  | 25 => ("PulseRowsModel", "first", "Z", false)
  | 26 => ("PulseRowsModel", "second", "Z", false)
  | _ => ("PulseRowsModel", "steps", "I", false)
def tyX5 : Nat → FieldType := fun k => match k with
  | 0 => .int
  | 1 => .long
  | 2 => .boolean
  | 3 => .long
  | 4 => .int
  | 5 => .long
  | 6 => .long
  | 7 => .array .int
  | 8 => .boolean
  | 9 => .array .int
  | 10 => .int
  | 11 => .array .int
  | 12 => .array .int
  | 13 => .array .boolean
  | 14 => .int
  | 15 => .array .int
  | 16 => .int
  | 17 => .array .int
  | 18 => .int
  | 19 => .int
  | 20 => .boolean
  | 21 => .boolean
  | 22 => .boolean
  | 23 => .long
  | 24 => .long
  | 25 => .boolean
  | 26 => .boolean
  | _ => .int
abbrev wsX50 : List Cond := u_ws RX5 TX5 28
theorem nmX5 : ∀ a, a < 28 → ∀ b, b < 28 → a ≠ b → (TX5 a).2.1 ≠ (TX5 b).2.1 := by decide +kernel
theorem tyX5_ok : ∀ k, k < 28 → parseFieldDescriptor (TX5 k).2.2.1 = some (tyX5 k) := by decide +kernel
abbrev cX5_init : ByteArray := prog_7_method_1_code
def yX5_init : MethodName := ⟨RX5, "<init>", "(I)V"⟩
abbrev cX5_thrown : ByteArray := prog_7_method_2_code
def yX5_thrown : MethodName := ⟨RX5, "thrown", "()I"⟩
abbrev cX5_turned : ByteArray := prog_7_method_3_code
def yX5_turned : MethodName := ⟨RX5, "turned", "(I)I"⟩
abbrev cX5_fits : ByteArray := prog_7_method_4_code
def yX5_fits : MethodName := ⟨RX5, "fits", "(J)Z"⟩
abbrev cX5_fault : ByteArray := prog_7_method_5_code
def yX5_fault : MethodName := ⟨RX5, "fault", "()V"⟩
abbrev cX5_slowBit : ByteArray := prog_7_method_6_code
def yX5_slowBit : MethodName := ⟨RX5, "slowBit", "(I)V"⟩
abbrev cX5_frameDone : ByteArray := prog_7_method_7_code
def yX5_frameDone : MethodName := ⟨RX5, "frameDone", "()V"⟩
abbrev cX5_edge : ByteArray := prog_7_method_8_code
def yX5_edge : MethodName := ⟨RX5, "edge", "(J)I"⟩
abbrev cX5_nibble : ByteArray := prog_7_method_9_code
def yX5_nibble : MethodName := ⟨RX5, "nibble", "(I)I"⟩
abbrev cX5_check : ByteArray := prog_7_method_10_code
def yX5_check : MethodName := ⟨RX5, "check", "(I)I"⟩
abbrev cX5_slow : ByteArray := prog_7_method_11_code
def yX5_slow : MethodName := ⟨RX5, "slow", "(I)I"⟩
abbrev cX5_row : ByteArray := prog_7_method_12_code
def yX5_row : MethodName := ⟨RX5, "row", "(II)I"⟩
abbrev cX5_calibrate : ByteArray := prog_7_method_13_code
def yX5_calibrate : MethodName := ⟨RX5, "calibrate", "(J)I"⟩
abbrev cX5_parity : ByteArray := prog_7_method_14_code
def yX5_parity : MethodName := ⟨RX5, "parity", "(I)I"⟩
abbrev cX5_bounce : ByteArray := prog_7_method_15_code
def yX5_bounce : MethodName := ⟨RX5, "bounce", "(ZJ)I"⟩
abbrev cX5_place : ByteArray := prog_7_method_16_code
def yX5_place : MethodName := ⟨RX5, "place", "(ZZ)I"⟩
abbrev cX5_turn : ByteArray := prog_7_method_17_code
def yX5_turn : MethodName := ⟨RX5, "turn", "(ZZ)I"⟩
abbrev cX5_faults : ByteArray := prog_7_method_18_code
def yX5_faults : MethodName := ⟨RX5, "faults", "()I"⟩
abbrev cX5_marked : ByteArray := prog_7_method_19_code
def yX5_marked : MethodName := ⟨RX5, "marked", "()Z"⟩
def RJx00060 : String := "java/lang/ArrayIndexOutOfBoundsException"
def TJx00060 : u_T := fun k => match k with
  | 0 => ("java/lang/Throwable", "cause", "Ljava/lang/Throwable;", false)
  | 1 => ("java/lang/Throwable", "stackTrace", "[Ljava/lang/StackTraceElement;", false)
  | 2 => ("java/lang/Throwable", "suppressedExceptions", "Ljava/util/List;", false)
  | 3 => ("java/lang/Throwable", "detailMessage", "Ljava/lang/String;", false)
  | 4 => ("java/lang/Throwable", "backtrace", "Ljava/lang/Object;", false)
  | _ => ("java/lang/Throwable", "depth", "I", false)
def tyJx00060 : Nat → FieldType := fun k => match k with
  | 0 => .object "java/lang/Throwable"
  | 1 => .array (.object "java/lang/StackTraceElement")
  | 2 => .object "java/util/List"
  | 3 => .object "java/lang/String"
  | 4 => .object "java/lang/Object"
  | _ => .int
abbrev wsJx000600 : List Cond := u_ws RJx00060 TJx00060 6
theorem nmJx00060 : ∀ a, a < 6 → ∀ b, b < 6 → a ≠ b → (TJx00060 a).2.1 ≠ (TJx00060 b).2.1 := by decide +kernel
theorem tyJx00060_ok : ∀ k, k < 6 → parseFieldDescriptor (TJx00060 k).2.2.1 = some (tyJx00060 k) := by decide +kernel
abbrev cJx00060_init_a7421 : ByteArray := prog_9_method_2_code
def yJx00060_init_a7421 : MethodName := ⟨RJx00060, "<init>", "(Ljava/lang/String;)V"⟩
def RJ6 : String := "java/lang/Integer"
def TJ6 : u_T := fun k => match k with
  | _ => ("", "", "", false)
def tyJ6 : Nat → FieldType := fun k => match k with
  | _ => .int
abbrev wsJ60 : List Cond := u_ws RJ6 TJ6 0
theorem nmJ6 : ∀ a, a < 0 → ∀ b, b < 0 → a ≠ b → (TJ6 a).2.1 ≠ (TJ6 b).2.1 := by decide +kernel
theorem tyJ6_ok : ∀ k, k < 0 → parseFieldDescriptor (TJ6 k).2.2.1 = some (tyJ6 k) := by decide +kernel
abbrev cJ6_bitCount_0f7a4 : ByteArray := prog_12_method_49_code
def yJ6_bitCount_0f7a4 : MethodName := ⟨RJ6, "bitCount", "(I)I"⟩
def RJ9 : String := "java/lang/Math"
def TJ9 : u_T := fun k => match k with
  | _ => ("", "", "", false)
def tyJ9 : Nat → FieldType := fun k => match k with
  | _ => .int
abbrev wsJ90 : List Cond := u_ws RJ9 TJ9 0
theorem nmJ9 : ∀ a, a < 0 → ∀ b, b < 0 → a ≠ b → (TJ9 a).2.1 ≠ (TJ9 b).2.1 := by decide +kernel
theorem tyJ9_ok : ∀ k, k < 0 → parseFieldDescriptor (TJ9 k).2.2.1 = some (tyJ9 k) := by decide +kernel
abbrev cJ9_abs_067f4 : ByteArray := prog_13_method_61_code
def yJ9_abs_067f4 : MethodName := ⟨RJ9, "abs", "(J)J"⟩
def RJ0 : String := "java/lang/String"
def TJ0 : u_T := fun k => match k with
  | _ => ("", "", "", false)
def tyJ0 : Nat → FieldType := fun k => match k with
  | _ => .int
abbrev wsJ00 : List Cond := u_ws RJ0 TJ0 0
theorem nmJ0 : ∀ a, a < 0 → ∀ b, b < 0 → a ≠ b → (TJ0 a).2.1 ≠ (TJ0 b).2.1 := by decide +kernel
theorem tyJ0_ok : ∀ k, k < 0 → parseFieldDescriptor (TJ0 k).2.2.1 = some (tyJ0 k) := by decide +kernel
def RL : String := "PulseRowsLaw"
abbrev cL_cell : ByteArray := method_2_code
def yL_cell : MethodName := ⟨RL, "cell", "([II)I"⟩
abbrev cL_nibble : ByteArray := method_3_code
def yL_nibble : MethodName := ⟨RL, "nibble", "(LPulseRows;I[J)I"⟩
abbrev cL_calibrate : ByteArray := method_4_code
def yL_calibrate : MethodName := ⟨RL, "calibrate", "(LPulseRows;J[J)I"⟩
abbrev cL_law : ByteArray := code
def yL_law : MethodName := ⟨RL, "law", "([I)Z"⟩
def wsX0_init : List Cond := .code yX0_init cX0_init 1 none :: ([.methodLink RX0 1 objectInit, .instanceMethod objectInit, .code objectInit ⟨#[0xb1]⟩ 1 none])
def wsX0_lastTime : List Cond := .code yX0_lastTime cX0_lastTime 1 (some .long) :: ([.fieldLink RX0 7 "PulseRows$BouncingSwitch" "toldLast" "J"] ++ wsX00)
def wsX0_tell : List Cond := .code yX0_tell cX0_tell 4 (some .boolean) :: ([.fieldLink RX0 7 "PulseRows$BouncingSwitch" "toldLast" "J", .fieldLink RX0 13 "PulseRows$BouncingSwitch" "lastLevel" "Z", .fieldLink RX0 17 "PulseRows$BouncingSwitch" "levelSince" "J", .fieldLink RX0 20 "PulseRows$BouncingSwitch" "state" "Z", .constantLong RX0 23 (10)] ++ wsX00)
def wsX1_init : List Cond := .code yX1_init cX1_init 1 none :: ([.methodLink RX1 1 objectInit, .instanceMethod objectInit, .code objectInit ⟨#[0xb1]⟩ 1 none])
def wsX1_add : List Cond := .code yX1_add cX1_add 1 none :: ([.fieldLink RX1 7 "PulseRows$FaultLog" "count" "I", .fieldLink RX1 13 "PulseRows$FaultLog" "streak" "I", .fieldLink RX1 16 "PulseRows$FaultLog" "mark" "Z"] ++ wsX10)
def wsX1_endStreak : List Cond := .code yX1_endStreak cX1_endStreak 1 none :: ([.fieldLink RX1 13 "PulseRows$FaultLog" "streak" "I"] ++ wsX10)
def wsX1_total : List Cond := .code yX1_total cX1_total 1 (some .int) :: ([.fieldLink RX1 7 "PulseRows$FaultLog" "count" "I"] ++ wsX10)
def wsX1_hasMark : List Cond := .code yX1_hasMark cX1_hasMark 1 (some .boolean) :: ([.fieldLink RX1 16 "PulseRows$FaultLog" "mark" "Z"] ++ wsX10)
def wsX2_init : List Cond := .code yX2_init cX2_init 1 none :: ([.methodLink RX2 3 objectInit, .instanceMethod objectInit, .code objectInit ⟨#[0xb1]⟩ 1 none, .arrayClass .int, .fieldLink RX2 11 "PulseRows$SlowChannel" "messages" "[I"] ++ wsX20)
def wsX2_dropRow : List Cond := .code yX2_dropRow cX2_dropRow 1 none :: ([.fieldLink RX2 22 "PulseRows$SlowChannel" "bits" "I", .fieldLink RX2 18 "PulseRows$SlowChannel" "bitCount" "I"] ++ wsX20)
def wsX4_nibbleAt : List Cond := .code yX4_nibbleAt cX4_nibbleAt 2 (some .int) :: ([])
def wsX4_checking : List Cond := .code yX4_checking cX4_checking 4 (some .int) :: ([.fieldLink RX4 192 "PulseRows" "CHECK_TABLE" "[I", .methodLink RX4 83 yX4_nibbleAt, .static yX4_nibbleAt, .initialized RX4, .code yX4_nibbleAt cX4_nibbleAt 2 (some .int)])
def wsX2_finishRow : List Cond := .code yX2_finishRow cX2_finishRow 3 (some .boolean) :: ([.fieldLink RX2 29 "PulseRows$SlowChannel" "messageCount" "I", .fieldLink RX2 11 "PulseRows$SlowChannel" "messages" "[I", .static yX4_checking, .initialized RX4, .code yX4_checking cX4_checking 4 (some .int), .fieldLink RX4 192 "PulseRows" "CHECK_TABLE" "[I", .methodLink RX4 83 yX4_nibbleAt, .static yX4_nibbleAt, .code yX4_nibbleAt cX4_nibbleAt 2 (some .int)] ++ wsX20)
def wsX2_take : List Cond := .code yX2_take cX2_take 3 (some .boolean) :: ([.fieldLink RX2 18 "PulseRows$SlowChannel" "bitCount" "I", .fieldLink RX2 22 "PulseRows$SlowChannel" "bits" "I", .methodLink RX2 15 yX2_dropRow, .instanceMethod yX2_dropRow, .selects RX2 yX2_dropRow yX2_dropRow, .initialized RX2, .code yX2_dropRow cX2_dropRow 1 none, .methodLink RX2 25 yX2_finishRow, .instanceMethod yX2_finishRow, .selects RX2 yX2_finishRow yX2_finishRow, .code yX2_finishRow cX2_finishRow 3 (some .boolean), .fieldLink RX2 29 "PulseRows$SlowChannel" "messageCount" "I", .fieldLink RX2 11 "PulseRows$SlowChannel" "messages" "[I", .static yX4_checking, .initialized RX4, .code yX4_checking cX4_checking 4 (some .int), .fieldLink RX4 192 "PulseRows" "CHECK_TABLE" "[I", .methodLink RX4 83 yX4_nibbleAt, .static yX4_nibbleAt, .code yX4_nibbleAt cX4_nibbleAt 2 (some .int)] ++ wsX20)
def wsX2_size : List Cond := .code yX2_size cX2_size 1 (some .int) :: ([.fieldLink RX2 29 "PulseRows$SlowChannel" "messageCount" "I"] ++ wsX20)
def wsX2_messageAt : List Cond := .code yX2_messageAt cX2_messageAt 3 (some .int) :: ([.fieldLink RX2 29 "PulseRows$SlowChannel" "messageCount" "I", .fieldLink RX2 11 "PulseRows$SlowChannel" "messages" "[I"] ++ wsX20)
def wsX3_init : List Cond := .code yX3_init cX3_init 1 none :: ([.methodLink RX3 1 objectInit, .instanceMethod objectInit, .code objectInit ⟨#[0xb1]⟩ 1 none])
def wsX3_moveTo : List Cond := .code yX3_moveTo cX3_moveTo 6 (some .boolean) :: ([.fieldLink RX3 7 "PulseRows$Wheel" "trackA" "Z", .fieldLink RX3 13 "PulseRows$Wheel" "trackB" "Z", .fieldLink RX3 16 "PulseRows$Wheel" "steps" "I"] ++ wsX30)
def wsX3_position : List Cond := .code yX3_position cX3_position 1 (some .int) :: ([.fieldLink RX3 16 "PulseRows$Wheel" "steps" "I"] ++ wsX30)
def wsX4_init_r1 : List Cond := [Cond.methodLink RX4 1 objectInit, Cond.instanceMethod objectInit, Cond.code objectInit ⟨#[0xb1]⟩ 1 none, Cond.fieldLink RX4 9 "PulseRows" "tolerance" "I", Cond.classLink RX4 13 RX1, Cond.instantiable RX1 3, Cond.initialized RX1, Cond.fieldLink RX4 16 "PulseRows" "faultLog" "LPulseRows$FaultLog;", Cond.classLink RX4 20 RX2, Cond.instantiable RX2 4, Cond.initialized RX2, Cond.fieldLink RX4 23 "PulseRows" "slowChannel" "LPulseRows$SlowChannel;", Cond.classLink RX4 27 RX0, Cond.instantiable RX0 4, Cond.initialized RX0, Cond.fieldLink RX4 30 "PulseRows" "bouncingSwitch" "LPulseRows$BouncingSwitch;", Cond.classLink RX4 34 RX3, Cond.instantiable RX3 3, Cond.initialized RX3, Cond.fieldLink RX4 37 "PulseRows" "wheel" "LPulseRows$Wheel;", Cond.arrayClass .int, Cond.fieldLink RX4 41 "PulseRows" "frames" "[I", Cond.constantLong RX4 45 (-1), Cond.fieldLink RX4 47 "PulseRows" "lastEdge" "J"]
def wsX4_init_r2 : List Cond := [Cond.instanceMethod yX1_init, Cond.code yX1_init cX1_init 1 none, Cond.methodLink RX1 1 objectInit, Cond.instanceMethod yX2_init, Cond.code yX2_init cX2_init 1 none, Cond.methodLink RX2 3 objectInit, Cond.fieldLink RX2 11 "PulseRows$SlowChannel" "messages" "[I", Cond.instanceMethod yX0_init, Cond.code yX0_init cX0_init 1 none, Cond.methodLink RX0 1 objectInit, Cond.instanceMethod yX3_init, Cond.code yX3_init cX3_init 1 none, Cond.methodLink RX3 1 objectInit]
def wsX4_init : List Cond := .code yX4_init cX4_init 3 none :: ((wsX4_init_r1 ++ wsX4_init_r2) ++ wsX40 ++ wsX10 ++ wsX20 ++ wsX00 ++ wsX30)
def wsX4_isOutsideTime : List Cond := .code yX4_isOutsideTime cX4_isOutsideTime 2 (some .boolean) :: ([.constantLong RX4 147 (1152921504606846976)])
def wsX4_nibbleOf : List Cond := .code yX4_nibbleOf cX4_nibbleOf 8 (some .int) :: ([.constantLong RX4 155 (56), .constantLong RX4 173 (2), .constantLong RX4 175 (12), .constantLong RX4 177 (15)])
def wsX4_keepFrame : List Cond := .code yX4_keepFrame cX4_keepFrame 2 none :: ([.fieldLink RX4 69 "PulseRows" "frameCount" "I", .fieldLink RX4 41 "PulseRows" "frames" "[I"] ++ wsX40)
def wsX4_dataOf : List Cond := .code yX4_dataOf cX4_dataOf 1 (some .int) :: ([.constant RX4 191 (16777215)])
def wsX4_isRight : List Cond := .code yX4_isRight cX4_isRight 1 (some .boolean) :: ([.methodLink RX4 101 yX4_dataOf, .static yX4_dataOf, .initialized RX4, .code yX4_dataOf cX4_dataOf 1 (some .int), .constant RX4 191 (16777215), .methodLink RX4 87 yX4_checking, .static yX4_checking, .code yX4_checking cX4_checking 4 (some .int), .fieldLink RX4 192 "PulseRows" "CHECK_TABLE" "[I", .methodLink RX4 83 yX4_nibbleAt, .static yX4_nibbleAt, .code yX4_nibbleAt cX4_nibbleAt 2 (some .int)])
def wsX4_statusOf : List Cond := .code yX4_statusOf cX4_statusOf 1 (some .int) :: ([.methodLink RX4 83 yX4_nibbleAt, .static yX4_nibbleAt, .initialized RX4, .code yX4_nibbleAt cX4_nibbleAt 2 (some .int)])
def wsX4_finishFrame_r1 : List Cond := [Cond.fieldLink RX4 23 "PulseRows" "slowChannel" "LPulseRows$SlowChannel;", Cond.fieldLink RX4 16 "PulseRows" "faultLog" "LPulseRows$FaultLog;", Cond.methodLink RX4 179 yX4_keepFrame, Cond.instanceMethod yX4_keepFrame, Cond.selects RX4 yX4_keepFrame yX4_keepFrame, Cond.initialized RX4, Cond.code yX4_keepFrame cX4_keepFrame 2 none, Cond.fieldLink RX4 69 "PulseRows" "frameCount" "I", Cond.fieldLink RX4 41 "PulseRows" "frames" "[I", Cond.methodLink RX4 104 yX4_isRight, Cond.static yX4_isRight, Cond.code yX4_isRight cX4_isRight 1 (some .boolean), Cond.methodLink RX4 101 yX4_dataOf, Cond.static yX4_dataOf, Cond.code yX4_dataOf cX4_dataOf 1 (some .int), Cond.constant RX4 191 (16777215), Cond.methodLink RX4 87 yX4_checking, Cond.static yX4_checking, Cond.code yX4_checking cX4_checking 4 (some .int), Cond.fieldLink RX4 192 "PulseRows" "CHECK_TABLE" "[I", Cond.methodLink RX4 83 yX4_nibbleAt, Cond.static yX4_nibbleAt, Cond.code yX4_nibbleAt cX4_nibbleAt 2 (some .int), Cond.methodLink RX4 182 yX2_dropRow]
def wsX4_finishFrame_r2 : List Cond := [Cond.instanceMethod yX2_dropRow, Cond.selects RX2 yX2_dropRow yX2_dropRow, Cond.initialized RX2, Cond.code yX2_dropRow cX2_dropRow 1 none, Cond.fieldLink RX2 22 "PulseRows$SlowChannel" "bits" "I", Cond.fieldLink RX2 18 "PulseRows$SlowChannel" "bitCount" "I", Cond.methodLink RX4 141 yX1_add, Cond.instanceMethod yX1_add, Cond.selects RX1 yX1_add yX1_add, Cond.initialized RX1, Cond.code yX1_add cX1_add 1 none, Cond.fieldLink RX1 7 "PulseRows$FaultLog" "count" "I", Cond.fieldLink RX1 13 "PulseRows$FaultLog" "streak" "I", Cond.fieldLink RX1 16 "PulseRows$FaultLog" "mark" "Z", Cond.methodLink RX4 185 yX1_endStreak, Cond.instanceMethod yX1_endStreak, Cond.selects RX1 yX1_endStreak yX1_endStreak, Cond.code yX1_endStreak cX1_endStreak 1 none, Cond.methodLink RX4 98 yX4_statusOf, Cond.static yX4_statusOf, Cond.code yX4_statusOf cX4_statusOf 1 (some .int), Cond.methodLink RX4 188 yX2_take, Cond.instanceMethod yX2_take, Cond.selects RX2 yX2_take yX2_take]
def wsX4_finishFrame_r3 : List Cond := [Cond.code yX2_take cX2_take 3 (some .boolean), Cond.methodLink RX2 15 yX2_dropRow, Cond.methodLink RX2 25 yX2_finishRow, Cond.instanceMethod yX2_finishRow, Cond.selects RX2 yX2_finishRow yX2_finishRow, Cond.code yX2_finishRow cX2_finishRow 3 (some .boolean), Cond.fieldLink RX2 29 "PulseRows$SlowChannel" "messageCount" "I", Cond.fieldLink RX2 11 "PulseRows$SlowChannel" "messages" "[I"]
def wsX4_finishFrame : List Cond := .code yX4_finishFrame cX4_finishFrame 2 none :: ((wsX4_finishFrame_r1 ++ (wsX4_finishFrame_r2 ++ wsX4_finishFrame_r3)) ++ wsX40 ++ wsX20 ++ wsX10)
def wsX4_takeNibble_r1 : List Cond := [Cond.fieldLink RX4 152 "PulseRows" "calibration" "J", Cond.fieldLink RX4 55 "PulseRows" "inFrame" "Z", Cond.fieldLink RX4 66 "PulseRows" "nibbleCount" "I", Cond.fieldLink RX4 16 "PulseRows" "faultLog" "LPulseRows$FaultLog;", Cond.fieldLink RX4 149 "PulseRows" "nibbles" "I", Cond.methodLink RX4 165 yX4_nibbleOf, Cond.static yX4_nibbleOf, Cond.initialized RX4, Cond.code yX4_nibbleOf cX4_nibbleOf 8 (some .int), Cond.constantLong RX4 155 (56), Cond.constantLong RX4 173 (2), Cond.constantLong RX4 175 (12), Cond.constantLong RX4 177 (15), Cond.methodLink RX4 141 yX1_add, Cond.instanceMethod yX1_add, Cond.selects RX1 yX1_add yX1_add, Cond.initialized RX1, Cond.code yX1_add cX1_add 1 none, Cond.fieldLink RX1 7 "PulseRows$FaultLog" "count" "I", Cond.fieldLink RX1 13 "PulseRows$FaultLog" "streak" "I", Cond.fieldLink RX1 16 "PulseRows$FaultLog" "mark" "Z", Cond.methodLink RX4 169 yX4_finishFrame, Cond.instanceMethod yX4_finishFrame, Cond.selects RX4 yX4_finishFrame yX4_finishFrame]
def wsX4_takeNibble_r2 : List Cond := [Cond.code yX4_finishFrame cX4_finishFrame 2 none, Cond.fieldLink RX4 23 "PulseRows" "slowChannel" "LPulseRows$SlowChannel;", Cond.methodLink RX4 179 yX4_keepFrame, Cond.instanceMethod yX4_keepFrame, Cond.selects RX4 yX4_keepFrame yX4_keepFrame, Cond.code yX4_keepFrame cX4_keepFrame 2 none, Cond.fieldLink RX4 69 "PulseRows" "frameCount" "I", Cond.fieldLink RX4 41 "PulseRows" "frames" "[I", Cond.methodLink RX4 104 yX4_isRight, Cond.static yX4_isRight, Cond.code yX4_isRight cX4_isRight 1 (some .boolean), Cond.methodLink RX4 101 yX4_dataOf, Cond.static yX4_dataOf, Cond.code yX4_dataOf cX4_dataOf 1 (some .int), Cond.constant RX4 191 (16777215), Cond.methodLink RX4 87 yX4_checking, Cond.static yX4_checking, Cond.code yX4_checking cX4_checking 4 (some .int), Cond.fieldLink RX4 192 "PulseRows" "CHECK_TABLE" "[I", Cond.methodLink RX4 83 yX4_nibbleAt, Cond.static yX4_nibbleAt, Cond.code yX4_nibbleAt cX4_nibbleAt 2 (some .int), Cond.methodLink RX4 182 yX2_dropRow, Cond.instanceMethod yX2_dropRow]
def wsX4_takeNibble_r3 : List Cond := [Cond.selects RX2 yX2_dropRow yX2_dropRow, Cond.initialized RX2, Cond.code yX2_dropRow cX2_dropRow 1 none, Cond.fieldLink RX2 22 "PulseRows$SlowChannel" "bits" "I", Cond.fieldLink RX2 18 "PulseRows$SlowChannel" "bitCount" "I", Cond.methodLink RX4 185 yX1_endStreak, Cond.instanceMethod yX1_endStreak, Cond.selects RX1 yX1_endStreak yX1_endStreak, Cond.code yX1_endStreak cX1_endStreak 1 none, Cond.methodLink RX4 98 yX4_statusOf, Cond.static yX4_statusOf, Cond.code yX4_statusOf cX4_statusOf 1 (some .int), Cond.methodLink RX4 188 yX2_take, Cond.instanceMethod yX2_take, Cond.selects RX2 yX2_take yX2_take, Cond.code yX2_take cX2_take 3 (some .boolean), Cond.methodLink RX2 15 yX2_dropRow, Cond.methodLink RX2 25 yX2_finishRow, Cond.instanceMethod yX2_finishRow, Cond.selects RX2 yX2_finishRow yX2_finishRow, Cond.code yX2_finishRow cX2_finishRow 3 (some .boolean), Cond.fieldLink RX2 29 "PulseRows$SlowChannel" "messageCount" "I", Cond.fieldLink RX2 11 "PulseRows$SlowChannel" "messages" "[I"]
def wsX4_takeNibble : List Cond := .code yX4_takeNibble cX4_takeNibble 4 none :: ((wsX4_takeNibble_r1 ++ (wsX4_takeNibble_r2 ++ wsX4_takeNibble_r3)) ++ wsX40 ++ wsX10 ++ wsX20)
def wsX4_isTaken : List Cond := .code yX4_isTaken cX4_isTaken 3 (some .boolean) :: ([.constantLong RX4 155 (56), .constantLong RX4 115 (56000), .fieldLink RX4 152 "PulseRows" "calibration" "J", .constantLong RX4 157 (100), .methodLink RX4 159 Lib.MathLoose.abs_long.x, .static Lib.MathLoose.abs_long.x, .initialized "java/lang/Math", .code Lib.MathLoose.abs_long.x Lib.MathLoose.abs_long.code 2 (some .long), .fieldLink RX4 9 "PulseRows" "tolerance" "I"] ++ wsX40)
def wsX4_takeCalibration_r1 : List Cond := [Cond.fieldLink RX4 149 "PulseRows" "nibbles" "I", Cond.fieldLink RX4 66 "PulseRows" "nibbleCount" "I", Cond.fieldLink RX4 55 "PulseRows" "inFrame" "Z", Cond.fieldLink RX4 152 "PulseRows" "calibration" "J", Cond.fieldLink RX4 16 "PulseRows" "faultLog" "LPulseRows$FaultLog;", Cond.methodLink RX4 112 yX4_isTaken, Cond.instanceMethod yX4_isTaken, Cond.selects RX4 yX4_isTaken yX4_isTaken, Cond.initialized RX4, Cond.code yX4_isTaken cX4_isTaken 3 (some .boolean), Cond.constantLong RX4 155 (56), Cond.constantLong RX4 115 (56000), Cond.constantLong RX4 157 (100), Cond.methodLink RX4 159 Lib.MathLoose.abs_long.x, Cond.static Lib.MathLoose.abs_long.x, Cond.initialized "java/lang/Math", Cond.code Lib.MathLoose.abs_long.x Lib.MathLoose.abs_long.code 2 (some .long), Cond.fieldLink RX4 9 "PulseRows" "tolerance" "I", Cond.methodLink RX4 141 yX1_add, Cond.instanceMethod yX1_add, Cond.selects RX1 yX1_add yX1_add, Cond.initialized RX1, Cond.code yX1_add cX1_add 1 none, Cond.fieldLink RX1 7 "PulseRows$FaultLog" "count" "I"]
def wsX4_takeCalibration_r2 : List Cond := [Cond.fieldLink RX1 13 "PulseRows$FaultLog" "streak" "I", Cond.fieldLink RX1 16 "PulseRows$FaultLog" "mark" "Z"]
def wsX4_takeCalibration : List Cond := .code yX4_takeCalibration cX4_takeCalibration 3 none :: ((wsX4_takeCalibration_r1 ++ wsX4_takeCalibration_r2) ++ wsX40 ++ wsX10)
def wsX4_edge_r1 : List Cond := [Cond.fieldLink RX4 47 "PulseRows" "lastEdge" "J", Cond.fieldLink RX4 55 "PulseRows" "inFrame" "Z", Cond.fieldLink RX4 66 "PulseRows" "nibbleCount" "I", Cond.methodLink RX4 51 yX4_isOutsideTime, Cond.static yX4_isOutsideTime, Cond.initialized RX4, Cond.code yX4_isOutsideTime cX4_isOutsideTime 2 (some .boolean), Cond.constantLong RX4 147 (1152921504606846976), Cond.methodLink RX4 59 yX4_takeNibble, Cond.instanceMethod yX4_takeNibble, Cond.selects RX4 yX4_takeNibble yX4_takeNibble, Cond.code yX4_takeNibble cX4_takeNibble 4 none, Cond.fieldLink RX4 152 "PulseRows" "calibration" "J", Cond.fieldLink RX4 16 "PulseRows" "faultLog" "LPulseRows$FaultLog;", Cond.fieldLink RX4 149 "PulseRows" "nibbles" "I", Cond.methodLink RX4 165 yX4_nibbleOf, Cond.static yX4_nibbleOf, Cond.code yX4_nibbleOf cX4_nibbleOf 8 (some .int), Cond.constantLong RX4 155 (56), Cond.constantLong RX4 173 (2), Cond.constantLong RX4 175 (12), Cond.constantLong RX4 177 (15), Cond.methodLink RX4 141 yX1_add, Cond.instanceMethod yX1_add]
def wsX4_edge_r2 : List Cond := [Cond.selects RX1 yX1_add yX1_add, Cond.initialized RX1, Cond.code yX1_add cX1_add 1 none, Cond.fieldLink RX1 7 "PulseRows$FaultLog" "count" "I", Cond.fieldLink RX1 13 "PulseRows$FaultLog" "streak" "I", Cond.fieldLink RX1 16 "PulseRows$FaultLog" "mark" "Z", Cond.methodLink RX4 169 yX4_finishFrame, Cond.instanceMethod yX4_finishFrame, Cond.selects RX4 yX4_finishFrame yX4_finishFrame, Cond.code yX4_finishFrame cX4_finishFrame 2 none, Cond.fieldLink RX4 23 "PulseRows" "slowChannel" "LPulseRows$SlowChannel;", Cond.methodLink RX4 179 yX4_keepFrame, Cond.instanceMethod yX4_keepFrame, Cond.selects RX4 yX4_keepFrame yX4_keepFrame, Cond.code yX4_keepFrame cX4_keepFrame 2 none, Cond.fieldLink RX4 69 "PulseRows" "frameCount" "I", Cond.fieldLink RX4 41 "PulseRows" "frames" "[I", Cond.methodLink RX4 104 yX4_isRight, Cond.static yX4_isRight, Cond.code yX4_isRight cX4_isRight 1 (some .boolean), Cond.methodLink RX4 101 yX4_dataOf, Cond.static yX4_dataOf, Cond.code yX4_dataOf cX4_dataOf 1 (some .int), Cond.constant RX4 191 (16777215)]
def wsX4_edge_r3 : List Cond := [Cond.methodLink RX4 87 yX4_checking, Cond.static yX4_checking, Cond.code yX4_checking cX4_checking 4 (some .int), Cond.fieldLink RX4 192 "PulseRows" "CHECK_TABLE" "[I", Cond.methodLink RX4 83 yX4_nibbleAt, Cond.static yX4_nibbleAt, Cond.code yX4_nibbleAt cX4_nibbleAt 2 (some .int), Cond.methodLink RX4 182 yX2_dropRow, Cond.instanceMethod yX2_dropRow, Cond.selects RX2 yX2_dropRow yX2_dropRow, Cond.initialized RX2, Cond.code yX2_dropRow cX2_dropRow 1 none, Cond.fieldLink RX2 22 "PulseRows$SlowChannel" "bits" "I", Cond.fieldLink RX2 18 "PulseRows$SlowChannel" "bitCount" "I", Cond.methodLink RX4 185 yX1_endStreak, Cond.instanceMethod yX1_endStreak, Cond.selects RX1 yX1_endStreak yX1_endStreak, Cond.code yX1_endStreak cX1_endStreak 1 none, Cond.methodLink RX4 98 yX4_statusOf, Cond.static yX4_statusOf, Cond.code yX4_statusOf cX4_statusOf 1 (some .int), Cond.methodLink RX4 188 yX2_take, Cond.instanceMethod yX2_take, Cond.selects RX2 yX2_take yX2_take]
def wsX4_edge_r4 : List Cond := [Cond.code yX2_take cX2_take 3 (some .boolean), Cond.methodLink RX2 15 yX2_dropRow, Cond.methodLink RX2 25 yX2_finishRow, Cond.instanceMethod yX2_finishRow, Cond.selects RX2 yX2_finishRow yX2_finishRow, Cond.code yX2_finishRow cX2_finishRow 3 (some .boolean), Cond.fieldLink RX2 29 "PulseRows$SlowChannel" "messageCount" "I", Cond.fieldLink RX2 11 "PulseRows$SlowChannel" "messages" "[I", Cond.methodLink RX4 63 yX4_takeCalibration, Cond.instanceMethod yX4_takeCalibration, Cond.selects RX4 yX4_takeCalibration yX4_takeCalibration, Cond.code yX4_takeCalibration cX4_takeCalibration 3 none, Cond.methodLink RX4 112 yX4_isTaken, Cond.instanceMethod yX4_isTaken, Cond.selects RX4 yX4_isTaken yX4_isTaken, Cond.code yX4_isTaken cX4_isTaken 3 (some .boolean), Cond.constantLong RX4 115 (56000), Cond.constantLong RX4 157 (100), Cond.methodLink RX4 159 Lib.MathLoose.abs_long.x, Cond.static Lib.MathLoose.abs_long.x, Cond.initialized "java/lang/Math", Cond.code Lib.MathLoose.abs_long.x Lib.MathLoose.abs_long.code 2 (some .long), Cond.fieldLink RX4 9 "PulseRows" "tolerance" "I"]
def wsX4_edge : List Cond := .code yX4_edge cX4_edge 3 (some .int) :: ((wsX4_edge_r1 ++ (wsX4_edge_r2 ++ (wsX4_edge_r3 ++ wsX4_edge_r4))) ++ wsX40 ++ wsX10 ++ wsX20)
def wsX4_hasFrame : List Cond := .code yX4_hasFrame cX4_hasFrame 2 (some .boolean) :: ([.fieldLink RX4 69 "PulseRows" "frameCount" "I", .fieldLink RX4 41 "PulseRows" "frames" "[I"] ++ wsX40)
def wsX4_nibble : List Cond := .code yX4_nibble cX4_nibble 2 (some .int) :: ([.fieldLink RX4 69 "PulseRows" "frameCount" "I", .classLink RX4 76 RJx00060, .instantiable RJx00060 6, .initialized RJx00060, .fieldLink RX4 41 "PulseRows" "frames" "[I", .methodLink RX4 72 yX4_hasFrame, .instanceMethod yX4_hasFrame, .selects RX4 yX4_hasFrame yX4_hasFrame, .initialized RX4, .code yX4_hasFrame cX4_hasFrame 2 (some .boolean), .methodLink RX4 83 yX4_nibbleAt, .static yX4_nibbleAt, .code yX4_nibbleAt cX4_nibbleAt 2 (some .int)] ++ wsX40 ++ wsJx000600)
def wsX4_check : List Cond := .code yX4_check cX4_check 3 (some .int) :: ([.methodLink RX4 87 yX4_checking, .static yX4_checking, .initialized RX4, .code yX4_checking cX4_checking 4 (some .int), .fieldLink RX4 192 "PulseRows" "CHECK_TABLE" "[I", .methodLink RX4 83 yX4_nibbleAt, .static yX4_nibbleAt, .code yX4_nibbleAt cX4_nibbleAt 2 (some .int)])
def wsX4_slow : List Cond := .code yX4_slow cX4_slow 2 (some .int) :: ([.fieldLink RX4 23 "PulseRows" "slowChannel" "LPulseRows$SlowChannel;", .methodLink RX4 90 yX2_size, .instanceMethod yX2_size, .selects RX2 yX2_size yX2_size, .initialized RX2, .code yX2_size cX2_size 1 (some .int), .fieldLink RX2 29 "PulseRows$SlowChannel" "messageCount" "I", .methodLink RX4 94 yX2_messageAt, .instanceMethod yX2_messageAt, .selects RX2 yX2_messageAt yX2_messageAt, .code yX2_messageAt cX2_messageAt 3 (some .int), .fieldLink RX2 11 "PulseRows$SlowChannel" "messages" "[I"] ++ wsX40 ++ wsX20)
def wsX4_row : List Cond := .code yX4_row cX4_row 4 (some .int) :: ([.fieldLink RX4 69 "PulseRows" "frameCount" "I", .fieldLink RX4 41 "PulseRows" "frames" "[I", .methodLink RX4 72 yX4_hasFrame, .instanceMethod yX4_hasFrame, .selects RX4 yX4_hasFrame yX4_hasFrame, .initialized RX4, .code yX4_hasFrame cX4_hasFrame 2 (some .boolean), .methodLink RX4 98 yX4_statusOf, .static yX4_statusOf, .code yX4_statusOf cX4_statusOf 1 (some .int), .methodLink RX4 83 yX4_nibbleAt, .static yX4_nibbleAt, .code yX4_nibbleAt cX4_nibbleAt 2 (some .int), .methodLink RX4 101 yX4_dataOf, .static yX4_dataOf, .code yX4_dataOf cX4_dataOf 1 (some .int), .constant RX4 191 (16777215), .methodLink RX4 104 yX4_isRight, .static yX4_isRight, .code yX4_isRight cX4_isRight 1 (some .boolean), .methodLink RX4 87 yX4_checking, .static yX4_checking, .code yX4_checking cX4_checking 4 (some .int), .fieldLink RX4 192 "PulseRows" "CHECK_TABLE" "[I"] ++ wsX40)
def wsX4_calibrate : List Cond := .code yX4_calibrate cX4_calibrate 3 (some .int) :: ([.classLink RX4 107 "java/lang/ArithmeticException", .initialized "java/lang/ArithmeticException", .constantLong RX4 115 (56000), .methodLink RX4 112 yX4_isTaken, .instanceMethod yX4_isTaken, .selects RX4 yX4_isTaken yX4_isTaken, .initialized RX4, .code yX4_isTaken cX4_isTaken 3 (some .boolean), .constantLong RX4 155 (56), .fieldLink RX4 152 "PulseRows" "calibration" "J", .constantLong RX4 157 (100), .methodLink RX4 159 Lib.MathLoose.abs_long.x, .static Lib.MathLoose.abs_long.x, .initialized "java/lang/Math", .code Lib.MathLoose.abs_long.x Lib.MathLoose.abs_long.code 2 (some .long), .fieldLink RX4 9 "PulseRows" "tolerance" "I"] ++ wsX40 ++ (vx_atS RX4 111 "java/lang/ArithmeticException" ["java/lang/RuntimeException", "java/lang/Exception"]).filter goodWord)
def wsJ6_bitCount_0f7a4 : List Cond := .code yJ6_bitCount_0f7a4 cJ6_bitCount_0f7a4 1 (some .int) :: ([.constant RJ6 265 (1431655765), .constant RJ6 266 (858993459), .constant RJ6 267 (252645135)])
def wsX4_parity : List Cond := .code yX4_parity cX4_parity 2 (some .int) :: ([.methodLink RX4 117 yJ6_bitCount_0f7a4, .static yJ6_bitCount_0f7a4, .initialized RJ6, .code yJ6_bitCount_0f7a4 cJ6_bitCount_0f7a4 1 (some .int), .constant RJ6 265 (1431655765), .constant RJ6 266 (858993459), .constant RJ6 267 (252645135)])
def wsX4_bounce : List Cond := .code yX4_bounce cX4_bounce 4 (some .int) :: ([.fieldLink RX4 30 "PulseRows" "bouncingSwitch" "LPulseRows$BouncingSwitch;", .methodLink RX4 51 yX4_isOutsideTime, .static yX4_isOutsideTime, .initialized RX4, .code yX4_isOutsideTime cX4_isOutsideTime 2 (some .boolean), .constantLong RX4 147 (1152921504606846976), .methodLink RX4 122 yX0_lastTime, .instanceMethod yX0_lastTime, .selects RX0 yX0_lastTime yX0_lastTime, .initialized RX0, .code yX0_lastTime cX0_lastTime 1 (some .long), .fieldLink RX0 7 "PulseRows$BouncingSwitch" "toldLast" "J", .methodLink RX4 126 yX0_tell, .instanceMethod yX0_tell, .selects RX0 yX0_tell yX0_tell, .code yX0_tell cX0_tell 4 (some .boolean), .fieldLink RX0 13 "PulseRows$BouncingSwitch" "lastLevel" "Z", .fieldLink RX0 17 "PulseRows$BouncingSwitch" "levelSince" "J", .fieldLink RX0 20 "PulseRows$BouncingSwitch" "state" "Z", .constantLong RX0 23 (10)] ++ wsX40 ++ wsX00)
def wsX4_faults : List Cond := .code yX4_faults cX4_faults 1 (some .int) :: ([.fieldLink RX4 16 "PulseRows" "faultLog" "LPulseRows$FaultLog;", .methodLink RX4 130 yX1_total, .instanceMethod yX1_total, .selects RX1 yX1_total yX1_total, .initialized RX1, .code yX1_total cX1_total 1 (some .int), .fieldLink RX1 7 "PulseRows$FaultLog" "count" "I"] ++ wsX40 ++ wsX10)
def wsX4_marked : List Cond := .code yX4_marked cX4_marked 1 (some .boolean) :: ([.fieldLink RX4 16 "PulseRows" "faultLog" "LPulseRows$FaultLog;", .methodLink RX4 133 yX1_hasMark, .instanceMethod yX1_hasMark, .selects RX1 yX1_hasMark yX1_hasMark, .initialized RX1, .code yX1_hasMark cX1_hasMark 1 (some .boolean), .fieldLink RX1 16 "PulseRows$FaultLog" "mark" "Z"] ++ wsX40 ++ wsX10)
def wsX4_turn : List Cond := .code yX4_turn cX4_turn 3 (some .int) :: ([.fieldLink RX4 37 "PulseRows" "wheel" "LPulseRows$Wheel;", .fieldLink RX4 16 "PulseRows" "faultLog" "LPulseRows$FaultLog;", .methodLink RX4 137 yX3_moveTo, .instanceMethod yX3_moveTo, .selects RX3 yX3_moveTo yX3_moveTo, .initialized RX3, .code yX3_moveTo cX3_moveTo 6 (some .boolean), .fieldLink RX3 7 "PulseRows$Wheel" "trackA" "Z", .fieldLink RX3 13 "PulseRows$Wheel" "trackB" "Z", .fieldLink RX3 16 "PulseRows$Wheel" "steps" "I", .methodLink RX4 141 yX1_add, .instanceMethod yX1_add, .selects RX1 yX1_add yX1_add, .initialized RX1, .code yX1_add cX1_add 1 none, .fieldLink RX1 7 "PulseRows$FaultLog" "count" "I", .fieldLink RX1 13 "PulseRows$FaultLog" "streak" "I", .fieldLink RX1 16 "PulseRows$FaultLog" "mark" "Z", .methodLink RX4 144 yX3_position, .instanceMethod yX3_position, .selects RX3 yX3_position yX3_position, .code yX3_position cX3_position 1 (some .int)] ++ wsX40 ++ wsX30 ++ wsX10)
def wsX5_init : List Cond := .code yX5_init cX5_init 2 none :: ([.methodLink RX5 1 objectInit, .instanceMethod objectInit, .code objectInit ⟨#[0xb1]⟩ 1 none, .fieldLink RX5 7 "PulseRowsModel" "awaited" "I", .arrayClass .int, .fieldLink RX5 13 "PulseRowsModel" "now" "[I", .fieldLink RX5 17 "PulseRowsModel" "last" "[I", .fieldLink RX5 20 "PulseRowsModel" "status" "[I", .fieldLink RX5 23 "PulseRowsModel" "data" "[I", .arrayClass .boolean, .fieldLink RX5 26 "PulseRowsModel" "right" "[Z", .fieldLink RX5 30 "PulseRowsModel" "bit" "[I", .fieldLink RX5 33 "PulseRowsModel" "message" "[I", .constantLong RX5 36 (20), .fieldLink RX5 38 "PulseRowsModel" "tolerance" "J"] ++ wsX50)
def wsX5_thrown : List Cond := .code yX5_thrown cX5_thrown 1 (some .int) :: ([.fieldLink RX5 42 "PulseRowsModel" "code" "I"] ++ wsX50)
def wsX5_turned : List Cond := .code yX5_turned cX5_turned 2 (some .int) :: ([])
def wsX5_fits : List Cond := .code yX5_fits cX5_fits 5 (some .boolean) :: ([.constantLong RX5 45 (56), .constantLong RX5 47 (56000), .fieldLink RX5 49 "PulseRowsModel" "taken" "J", .constantLong RX5 52 (100), .fieldLink RX5 38 "PulseRowsModel" "tolerance" "J"] ++ wsX50)
def wsX5_fault : List Cond := .code yX5_fault cX5_fault 1 none :: ([.fieldLink RX5 54 "PulseRowsModel" "faults" "I", .fieldLink RX5 57 "PulseRowsModel" "behind" "I", .fieldLink RX5 60 "PulseRowsModel" "marked" "Z"] ++ wsX50)
def wsX5_slowBit : List Cond := .code yX5_slowBit cX5_slowBit 6 none :: ([.fieldLink RX5 64 "PulseRowsModel" "bits" "I", .fieldLink RX5 30 "PulseRowsModel" "bit" "[I", .fieldLink RX5 33 "PulseRowsModel" "message" "[I", .fieldLink RX5 74 "PulseRowsModel" "messages" "I", .methodLink RX5 67 yX5_turned, .static yX5_turned, .initialized RX5, .code yX5_turned cX5_turned 2 (some .int), .methodLink RX5 71 yX5_fault, .instanceMethod yX5_fault, .selects RX5 yX5_fault yX5_fault, .code yX5_fault cX5_fault 1 none, .fieldLink RX5 54 "PulseRowsModel" "faults" "I", .fieldLink RX5 57 "PulseRowsModel" "behind" "I", .fieldLink RX5 60 "PulseRowsModel" "marked" "Z"] ++ wsX50)
def wsX5_frameDone_r1 : List Cond := [Cond.fieldLink RX5 17 "PulseRowsModel" "last" "[I", Cond.fieldLink RX5 13 "PulseRowsModel" "now" "[I", Cond.fieldLink RX5 77 "PulseRowsModel" "some" "Z", Cond.fieldLink RX5 20 "PulseRowsModel" "status" "[I", Cond.fieldLink RX5 80 "PulseRowsModel" "frames" "I", Cond.fieldLink RX5 23 "PulseRowsModel" "data" "[I", Cond.fieldLink RX5 26 "PulseRowsModel" "right" "[Z", Cond.fieldLink RX5 7 "PulseRowsModel" "awaited" "I", Cond.fieldLink RX5 57 "PulseRowsModel" "behind" "I", Cond.fieldLink RX5 64 "PulseRowsModel" "bits" "I", Cond.methodLink RX5 67 yX5_turned, Cond.static yX5_turned, Cond.initialized RX5, Cond.code yX5_turned cX5_turned 2 (some .int), Cond.methodLink RX5 83 yX5_slowBit, Cond.instanceMethod yX5_slowBit, Cond.selects RX5 yX5_slowBit yX5_slowBit, Cond.code yX5_slowBit cX5_slowBit 6 none, Cond.fieldLink RX5 30 "PulseRowsModel" "bit" "[I", Cond.fieldLink RX5 33 "PulseRowsModel" "message" "[I", Cond.fieldLink RX5 74 "PulseRowsModel" "messages" "I", Cond.methodLink RX5 71 yX5_fault, Cond.instanceMethod yX5_fault, Cond.selects RX5 yX5_fault yX5_fault]
def wsX5_frameDone_r2 : List Cond := [Cond.code yX5_fault cX5_fault 1 none, Cond.fieldLink RX5 54 "PulseRowsModel" "faults" "I", Cond.fieldLink RX5 60 "PulseRowsModel" "marked" "Z"]
def wsX5_frameDone : List Cond := .code yX5_frameDone cX5_frameDone 4 none :: ((wsX5_frameDone_r1 ++ wsX5_frameDone_r2) ++ wsX50)
def wsX5_edge_r1 : List Cond := [Cond.fieldLink RX5 42 "PulseRowsModel" "code" "I", Cond.constantLong RX5 87 (1152921504606846976), Cond.fieldLink RX5 89 "PulseRowsModel" "edged" "Z", Cond.fieldLink RX5 92 "PulseRowsModel" "edge" "J", Cond.fieldLink RX5 7 "PulseRowsModel" "awaited" "I", Cond.fieldLink RX5 49 "PulseRowsModel" "taken" "J", Cond.constantLong RX5 47 (56000), Cond.constantLong RX5 45 (56), Cond.constantLong RX5 99 (2), Cond.constantLong RX5 101 (12), Cond.fieldLink RX5 13 "PulseRowsModel" "now" "[I", Cond.methodLink RX5 95 yX5_fits, Cond.instanceMethod yX5_fits, Cond.selects RX5 yX5_fits yX5_fits, Cond.initialized RX5, Cond.code yX5_fits cX5_fits 5 (some .boolean), Cond.constantLong RX5 52 (100), Cond.fieldLink RX5 38 "PulseRowsModel" "tolerance" "J", Cond.methodLink RX5 71 yX5_fault, Cond.instanceMethod yX5_fault, Cond.selects RX5 yX5_fault yX5_fault, Cond.code yX5_fault cX5_fault 1 none, Cond.fieldLink RX5 54 "PulseRowsModel" "faults" "I", Cond.fieldLink RX5 57 "PulseRowsModel" "behind" "I"]
def wsX5_edge_r2 : List Cond := [Cond.fieldLink RX5 60 "PulseRowsModel" "marked" "Z", Cond.methodLink RX5 103 yX5_frameDone, Cond.instanceMethod yX5_frameDone, Cond.selects RX5 yX5_frameDone yX5_frameDone, Cond.code yX5_frameDone cX5_frameDone 4 none, Cond.fieldLink RX5 17 "PulseRowsModel" "last" "[I", Cond.fieldLink RX5 77 "PulseRowsModel" "some" "Z", Cond.fieldLink RX5 20 "PulseRowsModel" "status" "[I", Cond.fieldLink RX5 80 "PulseRowsModel" "frames" "I", Cond.fieldLink RX5 23 "PulseRowsModel" "data" "[I", Cond.fieldLink RX5 26 "PulseRowsModel" "right" "[Z", Cond.fieldLink RX5 64 "PulseRowsModel" "bits" "I", Cond.methodLink RX5 67 yX5_turned, Cond.static yX5_turned, Cond.code yX5_turned cX5_turned 2 (some .int), Cond.methodLink RX5 83 yX5_slowBit, Cond.instanceMethod yX5_slowBit, Cond.selects RX5 yX5_slowBit yX5_slowBit, Cond.code yX5_slowBit cX5_slowBit 6 none, Cond.fieldLink RX5 30 "PulseRowsModel" "bit" "[I", Cond.fieldLink RX5 33 "PulseRowsModel" "message" "[I", Cond.fieldLink RX5 74 "PulseRowsModel" "messages" "I"]
def wsX5_edge : List Cond := .code yX5_edge cX5_edge 6 (some .int) :: ((wsX5_edge_r1 ++ wsX5_edge_r2) ++ wsX50)
def wsX5_nibble : List Cond := .code yX5_nibble cX5_nibble 2 (some .int) :: ([.fieldLink RX5 77 "PulseRowsModel" "some" "Z", .fieldLink RX5 42 "PulseRowsModel" "code" "I", .fieldLink RX5 17 "PulseRowsModel" "last" "[I"] ++ wsX50)
def wsX5_check : List Cond := .code yX5_check cX5_check 6 (some .int) :: ([.fieldLink RX5 42 "PulseRowsModel" "code" "I", .methodLink RX5 67 yX5_turned, .static yX5_turned, .initialized RX5, .code yX5_turned cX5_turned 2 (some .int)] ++ wsX50)
def wsX5_slow : List Cond := .code yX5_slow cX5_slow 2 (some .int) :: ([.fieldLink RX5 42 "PulseRowsModel" "code" "I", .fieldLink RX5 74 "PulseRowsModel" "messages" "I", .fieldLink RX5 33 "PulseRowsModel" "message" "[I"] ++ wsX50)
def wsX5_row : List Cond := .code yX5_row cX5_row 3 (some .int) :: ([.fieldLink RX5 42 "PulseRowsModel" "code" "I", .fieldLink RX5 80 "PulseRowsModel" "frames" "I", .fieldLink RX5 20 "PulseRowsModel" "status" "[I", .fieldLink RX5 23 "PulseRowsModel" "data" "[I", .fieldLink RX5 26 "PulseRowsModel" "right" "[Z"] ++ wsX50)
def wsX5_calibrate : List Cond := .code yX5_calibrate cX5_calibrate 3 (some .int) :: ([.fieldLink RX5 42 "PulseRowsModel" "code" "I", .constantLong RX5 47 (56000), .methodLink RX5 95 yX5_fits, .instanceMethod yX5_fits, .selects RX5 yX5_fits yX5_fits, .initialized RX5, .code yX5_fits cX5_fits 5 (some .boolean), .constantLong RX5 45 (56), .fieldLink RX5 49 "PulseRowsModel" "taken" "J", .constantLong RX5 52 (100), .fieldLink RX5 38 "PulseRowsModel" "tolerance" "J"] ++ wsX50)
def wsX5_parity : List Cond := .code yX5_parity cX5_parity 4 (some .int) :: ([.fieldLink RX5 42 "PulseRowsModel" "code" "I"] ++ wsX50)
def wsX5_bounce : List Cond := .code yX5_bounce cX5_bounce 5 (some .int) :: ([.fieldLink RX5 42 "PulseRowsModel" "code" "I", .fieldLink RX5 106 "PulseRowsModel" "told" "J", .constantLong RX5 87 (1152921504606846976), .fieldLink RX5 109 "PulseRowsModel" "level" "Z", .fieldLink RX5 112 "PulseRowsModel" "since" "J", .fieldLink RX5 115 "PulseRowsModel" "state" "Z", .constantLong RX5 118 (10)] ++ wsX50)
def wsX5_place : List Cond := .code yX5_place cX5_place 2 (some .int) :: ([])
def wsX5_turn : List Cond := .code yX5_turn cX5_turn 4 (some .int) :: ([.fieldLink RX5 42 "PulseRowsModel" "code" "I", .fieldLink RX5 124 "PulseRowsModel" "first" "Z", .fieldLink RX5 127 "PulseRowsModel" "second" "Z", .fieldLink RX5 130 "PulseRowsModel" "steps" "I", .methodLink RX5 120 yX5_place, .static yX5_place, .initialized RX5, .code yX5_place cX5_place 2 (some .int), .methodLink RX5 71 yX5_fault, .instanceMethod yX5_fault, .selects RX5 yX5_fault yX5_fault, .code yX5_fault cX5_fault 1 none, .fieldLink RX5 54 "PulseRowsModel" "faults" "I", .fieldLink RX5 57 "PulseRowsModel" "behind" "I", .fieldLink RX5 60 "PulseRowsModel" "marked" "Z"] ++ wsX50)
def wsX5_faults : List Cond := .code yX5_faults cX5_faults 1 (some .int) :: ([.fieldLink RX5 42 "PulseRowsModel" "code" "I", .fieldLink RX5 54 "PulseRowsModel" "faults" "I"] ++ wsX50)
def wsX5_marked : List Cond := .code yX5_marked cX5_marked 1 (some .boolean) :: ([.fieldLink RX5 42 "PulseRowsModel" "code" "I", .fieldLink RX5 60 "PulseRowsModel" "marked" "Z"] ++ wsX50)
def wsJx00060_init_a7421 : List Cond := .code yJx00060_init_a7421 cJx00060_init_a7421 2 none :: ([])
def wsJ9_abs_067f4 : List Cond := .code yJ9_abs_067f4 cJ9_abs_067f4 2 (some .long) :: ([])
def wsL_cell : List Cond := .code yL_cell cL_cell 2 (some .int) :: ([])
def wsL_nibble : List Cond := .codeWith yL_nibble cL_nibble 4 (some .int) [(0, 9, 12, 13)] :: ([.methodLink RL 7 yX4_nibble, .instanceMethod yX4_nibble, .selects RX4 yX4_nibble yX4_nibble, .initialized RX4, .code yX4_nibble cX4_nibble 2 (some .int), .fieldLink RX4 69 "PulseRows" "frameCount" "I", .classLink RX4 76 RJx00060, .instantiable RJx00060 6, .initialized RJx00060, .fieldLink RX4 41 "PulseRows" "frames" "[I", .methodLink RX4 72 yX4_hasFrame, .instanceMethod yX4_hasFrame, .selects RX4 yX4_hasFrame yX4_hasFrame, .code yX4_hasFrame cX4_hasFrame 2 (some .boolean), .methodLink RX4 83 yX4_nibbleAt, .static yX4_nibbleAt, .code yX4_nibbleAt cX4_nibbleAt 2 (some .int)] ++ wsX40 ++ wsJx000600)
def wsL_calibrate : List Cond := .codeWith yL_calibrate cL_calibrate 5 (some .int) [(0, 9, 12, 19)] :: ([.classLink RL 19 "java/lang/ArithmeticException", .methodLink RL 15 yX4_calibrate, .instanceMethod yX4_calibrate, .selects RX4 yX4_calibrate yX4_calibrate, .initialized RX4, .code yX4_calibrate cX4_calibrate 3 (some .int), .classLink RX4 107 "java/lang/ArithmeticException", .initialized "java/lang/ArithmeticException", .constantLong RX4 115 (56000), .methodLink RX4 112 yX4_isTaken, .instanceMethod yX4_isTaken, .selects RX4 yX4_isTaken yX4_isTaken, .code yX4_isTaken cX4_isTaken 3 (some .boolean), .constantLong RX4 155 (56), .fieldLink RX4 152 "PulseRows" "calibration" "J", .constantLong RX4 157 (100), .methodLink RX4 159 Lib.MathLoose.abs_long.x, .static Lib.MathLoose.abs_long.x, .initialized "java/lang/Math", .code Lib.MathLoose.abs_long.x Lib.MathLoose.abs_long.code 2 (some .long), .fieldLink RX4 9 "PulseRows" "tolerance" "I"] ++ wsX40 ++ (vx_atS RX4 111 "java/lang/ArithmeticException" ["java/lang/RuntimeException", "java/lang/Exception"]).filter goodWord)
def wsL_law0_r1 : List Cond := [Cond.classLink RL 8 RX4, Cond.instantiable RX4 12, Cond.initialized RX4, Cond.classLink RL 30 RX5, Cond.instantiable RX5 28, Cond.initialized RX5, Cond.arrayClass .long, Cond.constantLong RL 33 (4294967295), Cond.methodLink RL 21 yL_cell, Cond.static yL_cell, Cond.initialized RL, Cond.code yL_cell cL_cell 2 (some .int), Cond.methodLink RL 27 yX4_init, Cond.instanceMethod yX4_init, Cond.code yX4_init cX4_init 3 none, Cond.methodLink RX4 1 objectInit, Cond.instanceMethod objectInit, Cond.code objectInit ⟨#[0xb1]⟩ 1 none, Cond.fieldLink RX4 9 "PulseRows" "tolerance" "I", Cond.classLink RX4 13 RX1, Cond.instantiable RX1 3, Cond.initialized RX1, Cond.fieldLink RX4 16 "PulseRows" "faultLog" "LPulseRows$FaultLog;", Cond.classLink RX4 20 RX2]
def wsL_law0_r2 : List Cond := [Cond.instantiable RX2 4, Cond.initialized RX2, Cond.fieldLink RX4 23 "PulseRows" "slowChannel" "LPulseRows$SlowChannel;", Cond.classLink RX4 27 RX0, Cond.instantiable RX0 4, Cond.initialized RX0, Cond.fieldLink RX4 30 "PulseRows" "bouncingSwitch" "LPulseRows$BouncingSwitch;", Cond.classLink RX4 34 RX3, Cond.instantiable RX3 3, Cond.initialized RX3, Cond.fieldLink RX4 37 "PulseRows" "wheel" "LPulseRows$Wheel;", Cond.arrayClass .int, Cond.fieldLink RX4 41 "PulseRows" "frames" "[I", Cond.constantLong RX4 45 (-1), Cond.fieldLink RX4 47 "PulseRows" "lastEdge" "J", Cond.instanceMethod yX1_init, Cond.code yX1_init cX1_init 1 none, Cond.methodLink RX1 1 objectInit, Cond.instanceMethod yX2_init, Cond.code yX2_init cX2_init 1 none, Cond.methodLink RX2 3 objectInit, Cond.fieldLink RX2 11 "PulseRows$SlowChannel" "messages" "[I", Cond.instanceMethod yX0_init, Cond.code yX0_init cX0_init 1 none]
def wsL_law0_r3 : List Cond := [Cond.methodLink RX0 1 objectInit, Cond.instanceMethod yX3_init, Cond.code yX3_init cX3_init 1 none, Cond.methodLink RX3 1 objectInit, Cond.methodLink RL 32 yX5_init, Cond.instanceMethod yX5_init, Cond.code yX5_init cX5_init 2 none, Cond.methodLink RX5 1 objectInit, Cond.fieldLink RX5 7 "PulseRowsModel" "awaited" "I", Cond.fieldLink RX5 13 "PulseRowsModel" "now" "[I", Cond.fieldLink RX5 17 "PulseRowsModel" "last" "[I", Cond.fieldLink RX5 20 "PulseRowsModel" "status" "[I", Cond.fieldLink RX5 23 "PulseRowsModel" "data" "[I", Cond.arrayClass .boolean, Cond.fieldLink RX5 26 "PulseRowsModel" "right" "[Z", Cond.fieldLink RX5 30 "PulseRowsModel" "bit" "[I", Cond.fieldLink RX5 33 "PulseRowsModel" "message" "[I", Cond.constantLong RX5 36 (20), Cond.fieldLink RX5 38 "PulseRowsModel" "tolerance" "J", Cond.methodLink RL 35 yX4_edge, Cond.instanceMethod yX4_edge, Cond.selects RX4 yX4_edge yX4_edge, Cond.code yX4_edge cX4_edge 3 (some .int), Cond.fieldLink RX4 55 "PulseRows" "inFrame" "Z"]
def wsL_law0_r4 : List Cond := [Cond.fieldLink RX4 66 "PulseRows" "nibbleCount" "I", Cond.methodLink RX4 51 yX4_isOutsideTime, Cond.static yX4_isOutsideTime, Cond.code yX4_isOutsideTime cX4_isOutsideTime 2 (some .boolean), Cond.constantLong RX4 147 (1152921504606846976), Cond.methodLink RX4 59 yX4_takeNibble, Cond.instanceMethod yX4_takeNibble, Cond.selects RX4 yX4_takeNibble yX4_takeNibble, Cond.code yX4_takeNibble cX4_takeNibble 4 none, Cond.fieldLink RX4 152 "PulseRows" "calibration" "J", Cond.fieldLink RX4 149 "PulseRows" "nibbles" "I", Cond.methodLink RX4 165 yX4_nibbleOf, Cond.static yX4_nibbleOf, Cond.code yX4_nibbleOf cX4_nibbleOf 8 (some .int), Cond.constantLong RX4 155 (56), Cond.constantLong RX4 173 (2), Cond.constantLong RX4 175 (12), Cond.constantLong RX4 177 (15), Cond.methodLink RX4 141 yX1_add, Cond.instanceMethod yX1_add, Cond.selects RX1 yX1_add yX1_add, Cond.code yX1_add cX1_add 1 none, Cond.fieldLink RX1 7 "PulseRows$FaultLog" "count" "I", Cond.fieldLink RX1 13 "PulseRows$FaultLog" "streak" "I"]
def wsL_law0_r5 : List Cond := [Cond.fieldLink RX1 16 "PulseRows$FaultLog" "mark" "Z", Cond.methodLink RX4 169 yX4_finishFrame, Cond.instanceMethod yX4_finishFrame, Cond.selects RX4 yX4_finishFrame yX4_finishFrame, Cond.code yX4_finishFrame cX4_finishFrame 2 none, Cond.methodLink RX4 179 yX4_keepFrame, Cond.instanceMethod yX4_keepFrame, Cond.selects RX4 yX4_keepFrame yX4_keepFrame, Cond.code yX4_keepFrame cX4_keepFrame 2 none, Cond.fieldLink RX4 69 "PulseRows" "frameCount" "I", Cond.methodLink RX4 104 yX4_isRight, Cond.static yX4_isRight, Cond.code yX4_isRight cX4_isRight 1 (some .boolean), Cond.methodLink RX4 101 yX4_dataOf, Cond.static yX4_dataOf, Cond.code yX4_dataOf cX4_dataOf 1 (some .int), Cond.constant RX4 191 (16777215), Cond.methodLink RX4 87 yX4_checking, Cond.static yX4_checking, Cond.code yX4_checking cX4_checking 4 (some .int), Cond.fieldLink RX4 192 "PulseRows" "CHECK_TABLE" "[I", Cond.methodLink RX4 83 yX4_nibbleAt, Cond.static yX4_nibbleAt, Cond.code yX4_nibbleAt cX4_nibbleAt 2 (some .int)]
def wsL_law0_r6 : List Cond := [Cond.methodLink RX4 182 yX2_dropRow, Cond.instanceMethod yX2_dropRow, Cond.selects RX2 yX2_dropRow yX2_dropRow, Cond.code yX2_dropRow cX2_dropRow 1 none, Cond.fieldLink RX2 22 "PulseRows$SlowChannel" "bits" "I", Cond.fieldLink RX2 18 "PulseRows$SlowChannel" "bitCount" "I", Cond.methodLink RX4 185 yX1_endStreak, Cond.instanceMethod yX1_endStreak, Cond.selects RX1 yX1_endStreak yX1_endStreak, Cond.code yX1_endStreak cX1_endStreak 1 none, Cond.methodLink RX4 98 yX4_statusOf, Cond.static yX4_statusOf, Cond.code yX4_statusOf cX4_statusOf 1 (some .int), Cond.methodLink RX4 188 yX2_take, Cond.instanceMethod yX2_take, Cond.selects RX2 yX2_take yX2_take, Cond.code yX2_take cX2_take 3 (some .boolean), Cond.methodLink RX2 15 yX2_dropRow, Cond.methodLink RX2 25 yX2_finishRow, Cond.instanceMethod yX2_finishRow, Cond.selects RX2 yX2_finishRow yX2_finishRow, Cond.code yX2_finishRow cX2_finishRow 3 (some .boolean), Cond.fieldLink RX2 29 "PulseRows$SlowChannel" "messageCount" "I", Cond.methodLink RX4 63 yX4_takeCalibration]
def wsL_law0_r7 : List Cond := [Cond.instanceMethod yX4_takeCalibration, Cond.selects RX4 yX4_takeCalibration yX4_takeCalibration, Cond.code yX4_takeCalibration cX4_takeCalibration 3 none, Cond.methodLink RX4 112 yX4_isTaken, Cond.instanceMethod yX4_isTaken, Cond.selects RX4 yX4_isTaken yX4_isTaken, Cond.code yX4_isTaken cX4_isTaken 3 (some .boolean), Cond.constantLong RX4 115 (56000), Cond.constantLong RX4 157 (100), Cond.methodLink RX4 159 Lib.MathLoose.abs_long.x, Cond.static Lib.MathLoose.abs_long.x, Cond.initialized "java/lang/Math", Cond.code Lib.MathLoose.abs_long.x Lib.MathLoose.abs_long.code 2 (some .long), Cond.methodLink RL 38 yX5_edge, Cond.instanceMethod yX5_edge, Cond.selects RX5 yX5_edge yX5_edge, Cond.code yX5_edge cX5_edge 6 (some .int), Cond.fieldLink RX5 42 "PulseRowsModel" "code" "I", Cond.constantLong RX5 87 (1152921504606846976), Cond.fieldLink RX5 89 "PulseRowsModel" "edged" "Z", Cond.fieldLink RX5 92 "PulseRowsModel" "edge" "J", Cond.fieldLink RX5 49 "PulseRowsModel" "taken" "J", Cond.constantLong RX5 47 (56000), Cond.constantLong RX5 45 (56)]
def wsL_law0_r8 : List Cond := [Cond.constantLong RX5 99 (2), Cond.constantLong RX5 101 (12), Cond.methodLink RX5 95 yX5_fits, Cond.instanceMethod yX5_fits, Cond.selects RX5 yX5_fits yX5_fits, Cond.code yX5_fits cX5_fits 5 (some .boolean), Cond.constantLong RX5 52 (100), Cond.methodLink RX5 71 yX5_fault, Cond.instanceMethod yX5_fault, Cond.selects RX5 yX5_fault yX5_fault, Cond.code yX5_fault cX5_fault 1 none, Cond.fieldLink RX5 54 "PulseRowsModel" "faults" "I", Cond.fieldLink RX5 57 "PulseRowsModel" "behind" "I", Cond.fieldLink RX5 60 "PulseRowsModel" "marked" "Z", Cond.methodLink RX5 103 yX5_frameDone, Cond.instanceMethod yX5_frameDone, Cond.selects RX5 yX5_frameDone yX5_frameDone, Cond.code yX5_frameDone cX5_frameDone 4 none, Cond.fieldLink RX5 77 "PulseRowsModel" "some" "Z", Cond.fieldLink RX5 80 "PulseRowsModel" "frames" "I", Cond.fieldLink RX5 64 "PulseRowsModel" "bits" "I", Cond.methodLink RX5 67 yX5_turned, Cond.static yX5_turned, Cond.code yX5_turned cX5_turned 2 (some .int)]
def wsL_law0_r9 : List Cond := [Cond.methodLink RX5 83 yX5_slowBit, Cond.instanceMethod yX5_slowBit, Cond.selects RX5 yX5_slowBit yX5_slowBit, Cond.code yX5_slowBit cX5_slowBit 6 none, Cond.fieldLink RX5 74 "PulseRowsModel" "messages" "I", Cond.methodLink RL 39 yL_nibble, Cond.static yL_nibble, Cond.codeWith yL_nibble cL_nibble 4 (some .int) [(0, 9, 12, 13)], Cond.methodLink RL 7 yX4_nibble, Cond.instanceMethod yX4_nibble, Cond.selects RX4 yX4_nibble yX4_nibble, Cond.code yX4_nibble cX4_nibble 2 (some .int), Cond.classLink RX4 76 RJx00060, Cond.instantiable RJx00060 6, Cond.initialized RJx00060, Cond.methodLink RX4 72 yX4_hasFrame, Cond.instanceMethod yX4_hasFrame, Cond.selects RX4 yX4_hasFrame yX4_hasFrame, Cond.code yX4_hasFrame cX4_hasFrame 2 (some .boolean), Cond.methodLink RL 42 yX5_nibble, Cond.instanceMethod yX5_nibble, Cond.selects RX5 yX5_nibble yX5_nibble, Cond.code yX5_nibble cX5_nibble 2 (some .int), Cond.methodLink RL 43 yX5_thrown]
def wsL_law0_r10 : List Cond := [Cond.instanceMethod yX5_thrown, Cond.selects RX5 yX5_thrown yX5_thrown, Cond.code yX5_thrown cX5_thrown 1 (some .int), Cond.methodLink RL 47 yX4_check, Cond.instanceMethod yX4_check, Cond.selects RX4 yX4_check yX4_check, Cond.code yX4_check cX4_check 3 (some .int), Cond.methodLink RL 50 yX5_check, Cond.instanceMethod yX5_check, Cond.selects RX5 yX5_check yX5_check, Cond.code yX5_check cX5_check 6 (some .int), Cond.methodLink RL 51 yX4_slow, Cond.instanceMethod yX4_slow, Cond.selects RX4 yX4_slow yX4_slow, Cond.code yX4_slow cX4_slow 2 (some .int), Cond.methodLink RX4 90 yX2_size, Cond.instanceMethod yX2_size, Cond.selects RX2 yX2_size yX2_size, Cond.code yX2_size cX2_size 1 (some .int), Cond.methodLink RX4 94 yX2_messageAt, Cond.instanceMethod yX2_messageAt, Cond.selects RX2 yX2_messageAt yX2_messageAt, Cond.code yX2_messageAt cX2_messageAt 3 (some .int), Cond.methodLink RL 54 yX5_slow]
def wsL_law0_r11 : List Cond := [Cond.instanceMethod yX5_slow, Cond.selects RX5 yX5_slow yX5_slow, Cond.code yX5_slow cX5_slow 2 (some .int), Cond.methodLink RL 55 yX4_row, Cond.instanceMethod yX4_row, Cond.selects RX4 yX4_row yX4_row, Cond.code yX4_row cX4_row 4 (some .int), Cond.methodLink RL 59 yX5_row, Cond.instanceMethod yX5_row, Cond.selects RX5 yX5_row yX5_row, Cond.code yX5_row cX5_row 3 (some .int), Cond.methodLink RL 60 yL_calibrate, Cond.static yL_calibrate, Cond.codeWith yL_calibrate cL_calibrate 5 (some .int) [(0, 9, 12, 19)], Cond.classLink RL 19 "java/lang/ArithmeticException", Cond.methodLink RL 15 yX4_calibrate, Cond.instanceMethod yX4_calibrate, Cond.selects RX4 yX4_calibrate yX4_calibrate, Cond.code yX4_calibrate cX4_calibrate 3 (some .int), Cond.classLink RX4 107 "java/lang/ArithmeticException", Cond.initialized "java/lang/ArithmeticException", Cond.methodLink RL 63 yX5_calibrate, Cond.instanceMethod yX5_calibrate, Cond.selects RX5 yX5_calibrate yX5_calibrate]
def wsL_law0_r12 : List Cond := [Cond.code yX5_calibrate cX5_calibrate 3 (some .int), Cond.methodLink RL 64 yX4_parity, Cond.instanceMethod yX4_parity, Cond.selects RX4 yX4_parity yX4_parity, Cond.code yX4_parity cX4_parity 2 (some .int), Cond.methodLink RX4 117 yJ6_bitCount_0f7a4, Cond.static yJ6_bitCount_0f7a4, Cond.initialized RJ6, Cond.code yJ6_bitCount_0f7a4 cJ6_bitCount_0f7a4 1 (some .int), Cond.constant RJ6 265 (1431655765), Cond.constant RJ6 266 (858993459), Cond.constant RJ6 267 (252645135), Cond.methodLink RL 67 yX5_parity, Cond.instanceMethod yX5_parity, Cond.selects RX5 yX5_parity yX5_parity, Cond.code yX5_parity cX5_parity 4 (some .int), Cond.methodLink RL 68 yX4_bounce, Cond.instanceMethod yX4_bounce, Cond.selects RX4 yX4_bounce yX4_bounce, Cond.code yX4_bounce cX4_bounce 4 (some .int), Cond.methodLink RX4 122 yX0_lastTime, Cond.instanceMethod yX0_lastTime, Cond.selects RX0 yX0_lastTime yX0_lastTime, Cond.code yX0_lastTime cX0_lastTime 1 (some .long)]
def wsL_law0_r13 : List Cond := [Cond.fieldLink RX0 7 "PulseRows$BouncingSwitch" "toldLast" "J", Cond.methodLink RX4 126 yX0_tell, Cond.instanceMethod yX0_tell, Cond.selects RX0 yX0_tell yX0_tell, Cond.code yX0_tell cX0_tell 4 (some .boolean), Cond.fieldLink RX0 13 "PulseRows$BouncingSwitch" "lastLevel" "Z", Cond.fieldLink RX0 17 "PulseRows$BouncingSwitch" "levelSince" "J", Cond.fieldLink RX0 20 "PulseRows$BouncingSwitch" "state" "Z", Cond.constantLong RX0 23 (10), Cond.methodLink RL 72 yX5_bounce, Cond.instanceMethod yX5_bounce, Cond.selects RX5 yX5_bounce yX5_bounce, Cond.code yX5_bounce cX5_bounce 5 (some .int), Cond.fieldLink RX5 106 "PulseRowsModel" "told" "J", Cond.fieldLink RX5 109 "PulseRowsModel" "level" "Z", Cond.fieldLink RX5 112 "PulseRowsModel" "since" "J", Cond.fieldLink RX5 115 "PulseRowsModel" "state" "Z", Cond.constantLong RX5 118 (10), Cond.methodLink RL 73 yX4_faults, Cond.instanceMethod yX4_faults, Cond.selects RX4 yX4_faults yX4_faults, Cond.code yX4_faults cX4_faults 1 (some .int), Cond.methodLink RX4 130 yX1_total, Cond.instanceMethod yX1_total]
def wsL_law0_r14 : List Cond := [Cond.selects RX1 yX1_total yX1_total, Cond.code yX1_total cX1_total 1 (some .int), Cond.methodLink RL 76 yX5_faults, Cond.instanceMethod yX5_faults, Cond.selects RX5 yX5_faults yX5_faults, Cond.code yX5_faults cX5_faults 1 (some .int), Cond.methodLink RL 77 yX4_marked, Cond.instanceMethod yX4_marked, Cond.selects RX4 yX4_marked yX4_marked, Cond.code yX4_marked cX4_marked 1 (some .boolean), Cond.methodLink RX4 133 yX1_hasMark, Cond.instanceMethod yX1_hasMark, Cond.selects RX1 yX1_hasMark yX1_hasMark, Cond.code yX1_hasMark cX1_hasMark 1 (some .boolean), Cond.methodLink RL 81 yX5_marked, Cond.instanceMethod yX5_marked, Cond.selects RX5 yX5_marked yX5_marked, Cond.code yX5_marked cX5_marked 1 (some .boolean), Cond.methodLink RL 82 yX4_turn, Cond.instanceMethod yX4_turn, Cond.selects RX4 yX4_turn yX4_turn, Cond.code yX4_turn cX4_turn 3 (some .int), Cond.methodLink RX4 137 yX3_moveTo, Cond.instanceMethod yX3_moveTo]
def wsL_law0_r15 : List Cond := [Cond.selects RX3 yX3_moveTo yX3_moveTo, Cond.code yX3_moveTo cX3_moveTo 6 (some .boolean), Cond.fieldLink RX3 7 "PulseRows$Wheel" "trackA" "Z", Cond.fieldLink RX3 13 "PulseRows$Wheel" "trackB" "Z", Cond.fieldLink RX3 16 "PulseRows$Wheel" "steps" "I", Cond.methodLink RX4 144 yX3_position, Cond.instanceMethod yX3_position, Cond.selects RX3 yX3_position yX3_position, Cond.code yX3_position cX3_position 1 (some .int), Cond.methodLink RL 86 yX5_turn, Cond.instanceMethod yX5_turn, Cond.selects RX5 yX5_turn yX5_turn, Cond.code yX5_turn cX5_turn 4 (some .int), Cond.fieldLink RX5 124 "PulseRowsModel" "first" "Z", Cond.fieldLink RX5 127 "PulseRowsModel" "second" "Z", Cond.fieldLink RX5 130 "PulseRowsModel" "steps" "I", Cond.methodLink RX5 120 yX5_place, Cond.static yX5_place, Cond.code yX5_place cX5_place 2 (some .int)]
def wsL_law0 : List Cond := (wsL_law0_r1 ++ (wsL_law0_r2 ++ (wsL_law0_r3 ++ (wsL_law0_r4 ++ (wsL_law0_r5 ++ (wsL_law0_r6 ++ (wsL_law0_r7 ++ (wsL_law0_r8 ++ (wsL_law0_r9 ++ (wsL_law0_r10 ++ (wsL_law0_r11 ++ (wsL_law0_r12 ++ (wsL_law0_r13 ++ (wsL_law0_r14 ++ wsL_law0_r15)))))))))))))) ++ wsX40 ++ wsX50 ++ wsX10 ++ wsX20 ++ wsX00 ++ wsX30 ++ wsJx000600 ++ ([] : List Cond)
def wsL_law : List Cond := wsL_law0 ++ (vx_atS RX4 111 "java/lang/ArithmeticException" ["java/lang/RuntimeException", "java/lang/Exception"]).filter goodWord
set_option maxRecDepth 20000 in
theorem wsL_law_in0 : ∀ w ∈ wsL_law0, w ∈ lw_tbl := fun w h => (goodIn_p wsL_law0 [302, 31, 34, 39, 55, 75, 94, 411, 147, 150, 155, 158, 166, 170, 174, 177, 180, 184, 189, 193, 197, 200, 204, 209, 215, 219, 224, 506, 511, 518, 524, 527, 531, 310, 248, 535, 502, 228, 539, 232, 236, 240, 543, 244, 547, 390, 551, 252, 255, 555, 262, 266, 270, 559, 275, 279, 571, 283, 287, 575, 291, 295, 299, 564, 567] (by decide +kernel) (by decide +kernel) w h).1
theorem wsL_law_x0 : ∀ w ∈ (vx_atS RX4 111 "java/lang/ArithmeticException" ["java/lang/RuntimeException", "java/lang/Exception"]).filter goodWord, w ∈ lw_tbl := by decide +kernel
theorem wsL_law_in : ∀ w ∈ wsL_law, w ∈ lw_tbl := fun w h => (List.mem_append.mp h).elim (fun h => wsL_law_in0 w h) (fun h => wsL_law_x0 w h)
theorem inlX0 : ∀ w ∈ wsX00, w ∈ wsL_law := fun _ h => List.mem_append_left _ (List.mem_append_left _ (List.mem_append_left _ (List.mem_append_left _ (List.mem_append_right _ h))))
theorem inX0 : ∀ w ∈ wsX00, w ∈ lw_tbl := fun w h => wsL_law_in w (inlX0 w h)
theorem inlX1 : ∀ w ∈ wsX10, w ∈ wsL_law := fun _ h => List.mem_append_left _ (List.mem_append_left _ (List.mem_append_left _ (List.mem_append_left _ (List.mem_append_left _ (List.mem_append_left _ (List.mem_append_right _ h))))))
theorem inX1 : ∀ w ∈ wsX10, w ∈ lw_tbl := fun w h => wsL_law_in w (inlX1 w h)
theorem inlX2 : ∀ w ∈ wsX20, w ∈ wsL_law := fun _ h => List.mem_append_left _ (List.mem_append_left _ (List.mem_append_left _ (List.mem_append_left _ (List.mem_append_left _ (List.mem_append_right _ h)))))
theorem inX2 : ∀ w ∈ wsX20, w ∈ lw_tbl := fun w h => wsL_law_in w (inlX2 w h)
theorem inlX3 : ∀ w ∈ wsX30, w ∈ wsL_law := fun _ h => List.mem_append_left _ (List.mem_append_left _ (List.mem_append_left _ (List.mem_append_right _ h)))
theorem inX3 : ∀ w ∈ wsX30, w ∈ lw_tbl := fun w h => wsL_law_in w (inlX3 w h)
theorem inlX4 : ∀ w ∈ wsX40, w ∈ wsL_law := fun _ h => List.mem_append_left _ (List.mem_append_left _ (List.mem_append_left _ (List.mem_append_left _ (List.mem_append_left _ (List.mem_append_left _ (List.mem_append_left _ (List.mem_append_left _ (List.mem_append_right _ h))))))))
theorem inX4 : ∀ w ∈ wsX40, w ∈ lw_tbl := fun w h => wsL_law_in w (inlX4 w h)
theorem inlX5 : ∀ w ∈ wsX50, w ∈ wsL_law := fun _ h => List.mem_append_left _ (List.mem_append_left _ (List.mem_append_left _ (List.mem_append_left _ (List.mem_append_left _ (List.mem_append_left _ (List.mem_append_left _ (List.mem_append_right _ h)))))))
theorem inX5 : ∀ w ∈ wsX50, w ∈ lw_tbl := fun w h => wsL_law_in w (inlX5 w h)
theorem inlJx00060 : ∀ w ∈ wsJx000600, w ∈ wsL_law := fun _ h => List.mem_append_left _ (List.mem_append_left _ (List.mem_append_right _ h))
theorem inJx00060 : ∀ w ∈ wsJx000600, w ∈ lw_tbl := fun w h => wsL_law_in w (inlJx00060 w h)
theorem inJ6 : ∀ w ∈ wsJ60, w ∈ lw_tbl := by decide +kernel
theorem inJ9 : ∀ w ∈ wsJ90, w ∈ lw_tbl := by decide +kernel
theorem inJ0 : ∀ w ∈ wsJ00, w ∈ lw_tbl := by decide +kernel
