/-! Names of the claim, out of its NAMES by wip/gen/mknames.py. -/
/-! ===== BEGIN words of one list among another's, by their places ===== -/
theorem goodIn_r {big : List Cond} (ws : List Cond) (ps : List Nat) (hp : ws = ps.filterMap (fun i => big[i]?)) (h : ws.all goodWord = true) : GoodIn big ws := by
  intro w hw
  have h1 := List.all_eq_true.mp h w hw
  rw [hp] at hw
  obtain ⟨i, -, hi⟩ := List.mem_filterMap.mp hw
  have hm : w ∈ big := by first | exact List.mem_of_getElem? hi | exact List.getElem?_mem hi
  exact ⟨hm, good_of_word h1⟩
theorem goodIn_app {big a b : List Cond} (ha : GoodIn big a) (hb : GoodIn big b) : GoodIn big (a ++ b) := fun w h => (List.mem_append.mp h).elim (ha w) (hb w)
theorem goodIn_ca {big a b : List Cond} {c : Cond} (ha : GoodIn big (c :: a)) (hb : GoodIn big b) : GoodIn big (c :: (a ++ b)) := fun w h => (List.mem_cons.mp h).elim (fun e => ha w (List.mem_cons.mpr (Or.inl e))) (fun h => (List.mem_append.mp h).elim (fun h => ha w (List.mem_cons.mpr (Or.inr h))) (hb w))
theorem goodIn_sub {big ws : List Cond} (hm : ∀ w ∈ ws, w ∈ big) (h : ws.all goodWord = true) : GoodIn big ws := fun w hw => ⟨hm w hw, good_of_word (List.all_eq_true.mp h w hw)⟩
/-! ===== END ===== -/

def RX0 : String := "HoopStairs$History"
def TX0 : u_T := fun k => match k with
  | 0 => ("HoopStairs$History", "states", "[LHoopStairs$State;", true)
  | 1 => ("HoopStairs$History", "next", "I", false)
  | _ => ("HoopStairs$History", "length", "I", false)
def tyX0 : Nat → FieldType := fun k => match k with
  | 0 => .array (.object "HoopStairs$State")
  | 1 => .int
  | _ => .int
abbrev wsX00 : List Cond := u_ws RX0 TX0 3
theorem nmX0 : ∀ a, a < 3 → ∀ b, b < 3 → a ≠ b → (TX0 a).2.1 ≠ (TX0 b).2.1 := by decide +kernel
theorem tyX0_ok : ∀ k, k < 3 → parseFieldDescriptor (TX0 k).2.2.1 = some (tyX0 k) := by decide +kernel
abbrev cX0_init : ByteArray := prog_2_method_1_code
def yX0_init : MethodName := ⟨RX0, "<init>", "()V"⟩
abbrev cX0_record : ByteArray := prog_2_method_2_code
def yX0_record : MethodName := ⟨RX0, "record", "(LHoopStairs$State;)V"⟩
abbrev cX0_stepBack : ByteArray := prog_2_method_3_code
def yX0_stepBack : MethodName := ⟨RX0, "stepBack", "(LHoopStairs$State;)I"⟩
abbrev cX0_has : ByteArray := prog_2_method_4_code
def yX0_has : MethodName := ⟨RX0, "has", "(I)Z"⟩
def RX1 : String := "HoopStairs$Hoop"
def TX1 : u_T := fun k => match k with
  | 0 => ("HoopStairs$Hoop", "there", "Z", false)
  | 1 => ("HoopStairs$Hoop", "size", "I", false)
  | 2 => ("HoopStairs$Hoop", "speed", "I", false)
  | 3 => ("HoopStairs$Hoop", "lean", "I", false)
  | 4 => ("HoopStairs$Hoop", "wobble", "I", false)
  | 5 => ("HoopStairs$Hoop", "place", "I", false)
  | 6 => ("HoopStairs$Hoop", "ending", "I", false)
  | 7 => ("HoopStairs$Hoop", "taps", "I", false)
  | 8 => ("HoopStairs$Hoop", "pushes", "I", false)
  | _ => ("HoopStairs$Hoop", "greatestLean", "I", false)
def tyX1 : Nat → FieldType := fun k => match k with
  | 0 => .boolean
  | 1 => .int
  | 2 => .int
  | 3 => .int
  | 4 => .int
  | 5 => .int
  | 6 => .int
  | 7 => .int
  | 8 => .int
  | _ => .int
abbrev wsX10 : List Cond := u_ws RX1 TX1 10
theorem nmX1 : ∀ a, a < 10 → ∀ b, b < 10 → a ≠ b → (TX1 a).2.1 ≠ (TX1 b).2.1 := by decide +kernel
theorem tyX1_ok : ∀ k, k < 10 → parseFieldDescriptor (TX1 k).2.2.1 = some (tyX1 k) := by decide +kernel
abbrev cX1_init : ByteArray := prog_3_method_1_code
def yX1_init : MethodName := ⟨RX1, "<init>", "()V"⟩
abbrev cX1_copyFrom : ByteArray := prog_3_method_2_code
def yX1_copyFrom : MethodName := ⟨RX1, "copyFrom", "(LHoopStairs$Hoop;)V"⟩
abbrev cX1_allows : ByteArray := prog_3_method_3_code
def yX1_allows : MethodName := ⟨RX1, "allows", "(I)Z"⟩
abbrev cX1_begin : ByteArray := prog_3_method_4_code
def yX1_begin : MethodName := ⟨RX1, "begin", "(I)V"⟩
abbrev cX1_vanish : ByteArray := prog_3_method_5_code
def yX1_vanish : MethodName := ⟨RX1, "vanish", "()V"⟩
abbrev cX1_rolls : ByteArray := prog_3_method_6_code
def yX1_rolls : MethodName := ⟨RX1, "rolls", "()Z"⟩
abbrev cX1_takeTap : ByteArray := prog_3_method_7_code
def yX1_takeTap : MethodName := ⟨RX1, "takeTap", "(II)V"⟩
abbrev cX1_takePush : ByteArray := prog_3_method_8_code
def yX1_takePush : MethodName := ⟨RX1, "takePush", "()V"⟩
abbrev cX1_rollOver : ByteArray := prog_3_method_9_code
def yX1_rollOver : MethodName := ⟨RX1, "rollOver", "(ILHoopStairs$Stair;LHoopStairs$Settings;)V"⟩
abbrev cX1_meet : ByteArray := prog_3_method_10_code
def yX1_meet : MethodName := ⟨RX1, "meet", "(IILHoopStairs$Settings;)V"⟩
abbrev cX1_goBehind : ByteArray := prog_3_method_11_code
def yX1_goBehind : MethodName := ⟨RX1, "goBehind", "(LHoopStairs$Stair;I)V"⟩
abbrev cX1_dropBy : ByteArray := prog_3_method_12_code
def yX1_dropBy : MethodName := ⟨RX1, "dropBy", "(II)V"⟩
abbrev cX1_rollAlong : ByteArray := prog_3_method_13_code
def yX1_rollAlong : MethodName := ⟨RX1, "rollAlong", "(II)V"⟩
abbrev cX1_rightItselfBy : ByteArray := prog_3_method_14_code
def yX1_rightItselfBy : MethodName := ⟨RX1, "rightItselfBy", "(I)V"⟩
abbrev cX1_speedUpBy : ByteArray := prog_3_method_15_code
def yX1_speedUpBy : MethodName := ⟨RX1, "speedUpBy", "(I)V"⟩
abbrev cX1_shakeBy : ByteArray := prog_3_method_16_code
def yX1_shakeBy : MethodName := ⟨RX1, "shakeBy", "(I)V"⟩
def RX2 : String := "HoopStairs$Pad"
def TX2 : u_T := fun k => match k with
  | 0 => ("HoopStairs$Pad", "codes", "[I", true)
  | 1 => ("HoopStairs$Pad", "length", "I", false)
  | 2 => ("HoopStairs$Pad", "at", "I", false)
  | 3 => ("HoopStairs$Pad", "letter", "I", false)
  | _ => ("HoopStairs$Pad", "number", "I", false)
def tyX2 : Nat → FieldType := fun k => match k with
  | 0 => .array .int
  | 1 => .int
  | 2 => .int
  | 3 => .int
  | _ => .int
abbrev wsX20 : List Cond := u_ws RX2 TX2 5
theorem nmX2 : ∀ a, a < 5 → ∀ b, b < 5 → a ≠ b → (TX2 a).2.1 ≠ (TX2 b).2.1 := by decide +kernel
theorem tyX2_ok : ∀ k, k < 5 → parseFieldDescriptor (TX2 k).2.2.1 = some (tyX2 k) := by decide +kernel
abbrev cX2_init : ByteArray := prog_4_method_1_code
def yX2_init : MethodName := ⟨RX2, "<init>", "()V"⟩
def RX3 : String := "HoopStairs$RunLog"
def TX3 : u_T := fun k => match k with
  | 0 => ("HoopStairs$RunLog", "columns", "[[I", true)
  | _ => ("HoopStairs$RunLog", "length", "I", false)
def tyX3 : Nat → FieldType := fun k => match k with
  | 0 => .array (.array .int)
  | _ => .int
abbrev wsX30 : List Cond := u_ws RX3 TX3 2
theorem nmX3 : ∀ a, a < 2 → ∀ b, b < 2 → a ≠ b → (TX3 a).2.1 ≠ (TX3 b).2.1 := by decide +kernel
theorem tyX3_ok : ∀ k, k < 2 → parseFieldDescriptor (TX3 k).2.2.1 = some (tyX3 k) := by decide +kernel
abbrev cX3_init : ByteArray := prog_5_method_1_code
def yX3_init : MethodName := ⟨RX3, "<init>", "()V"⟩
abbrev cX3_copyFrom : ByteArray := prog_5_method_2_code
def yX3_copyFrom : MethodName := ⟨RX3, "copyFrom", "(LHoopStairs$RunLog;)V"⟩
abbrev cX3_has : ByteArray := prog_5_method_3_code
def yX3_has : MethodName := ⟨RX3, "has", "(I)Z"⟩
abbrev cX3_entry : ByteArray := prog_5_method_4_code
def yX3_entry : MethodName := ⟨RX3, "entry", "(II)I"⟩
abbrev cX3_add : ByteArray := prog_5_method_5_code
def yX3_add : MethodName := ⟨RX3, "add", "(LHoopStairs$Hoop;)V"⟩
def RX4 : String := "HoopStairs$Settings"
def TX4 : u_T := fun k => match k with
  | _ => ("HoopStairs$Settings", "values", "[I", true)
def tyX4 : Nat → FieldType := fun k => match k with
  | _ => .array .int
abbrev wsX40 : List Cond := u_ws RX4 TX4 1
theorem nmX4 : ∀ a, a < 1 → ∀ b, b < 1 → a ≠ b → (TX4 a).2.1 ≠ (TX4 b).2.1 := by decide +kernel
theorem tyX4_ok : ∀ k, k < 1 → parseFieldDescriptor (TX4 k).2.2.1 = some (tyX4 k) := by decide +kernel
abbrev cX4_init : ByteArray := prog_6_method_1_code
def yX4_init : MethodName := ⟨RX4, "<init>", "()V"⟩
abbrev cX4_copyFrom : ByteArray := prog_6_method_2_code
def yX4_copyFrom : MethodName := ⟨RX4, "copyFrom", "(LHoopStairs$Settings;)V"⟩
abbrev cX4_allows : ByteArray := prog_6_method_3_code
def yX4_allows : MethodName := ⟨RX4, "allows", "(II)Z"⟩
abbrev cX4_value : ByteArray := prog_6_method_4_code
def yX4_value : MethodName := ⟨RX4, "value", "(I)I"⟩
abbrev cX4_change : ByteArray := prog_6_method_5_code
def yX4_change : MethodName := ⟨RX4, "change", "(II)I"⟩
def RX5 : String := "HoopStairs$Stair"
def TX5 : u_T := fun k => match k with
  | 0 => ("HoopStairs$Stair", "columns", "[[I", true)
  | _ => ("HoopStairs$Stair", "length", "I", false)
def tyX5 : Nat → FieldType := fun k => match k with
  | 0 => .array (.array .int)
  | _ => .int
abbrev wsX50 : List Cond := u_ws RX5 TX5 2
theorem nmX5 : ∀ a, a < 2 → ∀ b, b < 2 → a ≠ b → (TX5 a).2.1 ≠ (TX5 b).2.1 := by decide +kernel
theorem tyX5_ok : ∀ k, k < 2 → parseFieldDescriptor (TX5 k).2.2.1 = some (tyX5 k) := by decide +kernel
abbrev cX5_init : ByteArray := prog_7_method_1_code
def yX5_init : MethodName := ⟨RX5, "<init>", "()V"⟩
abbrev cX5_copyFrom : ByteArray := prog_7_method_2_code
def yX5_copyFrom : MethodName := ⟨RX5, "copyFrom", "(LHoopStairs$Stair;)V"⟩
abbrev cX5_has : ByteArray := prog_7_method_3_code
def yX5_has : MethodName := ⟨RX5, "has", "(I)Z"⟩
abbrev cX5_allows : ByteArray := prog_7_method_4_code
def yX5_allows : MethodName := ⟨RX5, "allows", "(II)Z"⟩
abbrev cX5_entry : ByteArray := prog_7_method_5_code
def yX5_entry : MethodName := ⟨RX5, "entry", "(II)I"⟩
abbrev cX5_insert : ByteArray := prog_7_method_6_code
def yX5_insert : MethodName := ⟨RX5, "insert", "(III)V"⟩
abbrev cX5_remove : ByteArray := prog_7_method_7_code
def yX5_remove : MethodName := ⟨RX5, "remove", "(I)V"⟩
abbrev cX5_noteEnd : ByteArray := prog_7_method_8_code
def yX5_noteEnd : MethodName := ⟨RX5, "noteEnd", "(II)V"⟩
abbrev cX5_sumOf : ByteArray := prog_7_method_9_code
def yX5_sumOf : MethodName := ⟨RX5, "sumOf", "(I)I"⟩
abbrev cX5_narrowestGate : ByteArray := prog_7_method_10_code
def yX5_narrowestGate : MethodName := ⟨RX5, "narrowestGate", "()I"⟩
def RX6 : String := "HoopStairs$State"
def TX6 : u_T := fun k => match k with
  | 0 => ("HoopStairs$State", "settings", "LHoopStairs$Settings;", true)
  | 1 => ("HoopStairs$State", "stair", "LHoopStairs$Stair;", true)
  | 2 => ("HoopStairs$State", "hoop", "LHoopStairs$Hoop;", true)
  | 3 => ("HoopStairs$State", "log", "LHoopStairs$RunLog;", true)
  | 4 => ("HoopStairs$State", "ended", "[I", true)
  | 5 => ("HoopStairs$State", "runs", "I", false)
  | _ => ("HoopStairs$State", "taps", "I", false)
def tyX6 : Nat → FieldType := fun k => match k with
  | 0 => .object "HoopStairs$Settings"
  | 1 => .object "HoopStairs$Stair"
  | 2 => .object "HoopStairs$Hoop"
  | 3 => .object "HoopStairs$RunLog"
  | 4 => .array .int
  | 5 => .int
  | _ => .int
abbrev wsX60 : List Cond := u_ws RX6 TX6 7
theorem nmX6 : ∀ a, a < 7 → ∀ b, b < 7 → a ≠ b → (TX6 a).2.1 ≠ (TX6 b).2.1 := by decide +kernel
theorem tyX6_ok : ∀ k, k < 7 → parseFieldDescriptor (TX6 k).2.2.1 = some (tyX6 k) := by decide +kernel
abbrev cX6_init : ByteArray := prog_8_method_1_code
def yX6_init : MethodName := ⟨RX6, "<init>", "()V"⟩
abbrev cX6_copyFrom : ByteArray := prog_8_method_2_code
def yX6_copyFrom : MethodName := ⟨RX6, "copyFrom", "(LHoopStairs$State;)V"⟩
abbrev cX6_partError : ByteArray := prog_8_method_3_code
def yX6_partError : MethodName := ⟨RX6, "partError", "(III)I"⟩
abbrev cX6_addPart : ByteArray := prog_8_method_4_code
def yX6_addPart : MethodName := ⟨RX6, "addPart", "(III)I"⟩
abbrev cX6_removePart : ByteArray := prog_8_method_5_code
def yX6_removePart : MethodName := ⟨RX6, "removePart", "(I)I"⟩
abbrev cX6_beginRun : ByteArray := prog_8_method_6_code
def yX6_beginRun : MethodName := ⟨RX6, "beginRun", "(I)I"⟩
abbrev cX6_rollError : ByteArray := prog_8_method_7_code
def yX6_rollError : MethodName := ⟨RX6, "rollError", "(I)I"⟩
abbrev cX6_rollOver : ByteArray := prog_8_method_8_code
def yX6_rollOver : MethodName := ⟨RX6, "rollOver", "(I)I"⟩
abbrev cX6_noteEnd : ByteArray := prog_8_method_9_code
def yX6_noteEnd : MethodName := ⟨RX6, "noteEnd", "()V"⟩
abbrev cX6_tapError : ByteArray := prog_8_method_10_code
def yX6_tapError : MethodName := ⟨RX6, "tapError", "(I)I"⟩
abbrev cX6_tapFrom : ByteArray := prog_8_method_11_code
def yX6_tapFrom : MethodName := ⟨RX6, "tapFrom", "(I)I"⟩
abbrev cX6_pushError : ByteArray := prog_8_method_12_code
def yX6_pushError : MethodName := ⟨RX6, "pushError", "()I"⟩
abbrev cX6_pushOn : ByteArray := prog_8_method_13_code
def yX6_pushOn : MethodName := ⟨RX6, "pushOn", "()I"⟩
abbrev cX6_number : ByteArray := prog_8_method_14_code
def yX6_number : MethodName := ⟨RX6, "number", "(I)I"⟩
def RX7 : String := "HoopStairs"
def TX7 : u_T := fun k => match k with
  | 0 => ("HoopStairs", "now", "LHoopStairs$State;", true)
  | 1 => ("HoopStairs", "history", "LHoopStairs$History;", true)
  | 2 => ("HoopStairs", "slots", "[LHoopStairs$State;", true)
  | 3 => ("HoopStairs", "filled", "[Z", true)
  | 4 => ("HoopStairs", "pad", "LHoopStairs$Pad;", true)
  | _ => ("HoopStairs", "trial", "LHoopStairs$Hoop;", true)
def tyX7 : Nat → FieldType := fun k => match k with
  | 0 => .object "HoopStairs$State"
  | 1 => .object "HoopStairs$History"
  | 2 => .array (.object "HoopStairs$State")
  | 3 => .array .boolean
  | 4 => .object "HoopStairs$Pad"
  | _ => .object "HoopStairs$Hoop"
abbrev wsX70 : List Cond := u_ws RX7 TX7 6
theorem nmX7 : ∀ a, a < 6 → ∀ b, b < 6 → a ≠ b → (TX7 a).2.1 ≠ (TX7 b).2.1 := by decide +kernel
theorem tyX7_ok : ∀ k, k < 6 → parseFieldDescriptor (TX7 k).2.2.1 = some (tyX7 k) := by decide +kernel
abbrev cX7_init : ByteArray := prog_1_method_1_code
def yX7_init : MethodName := ⟨RX7, "<init>", "()V"⟩
abbrev cX7_set : ByteArray := prog_1_method_2_code
def yX7_set : MethodName := ⟨RX7, "set", "(II)I"⟩
abbrev cX7_part : ByteArray := prog_1_method_3_code
def yX7_part : MethodName := ⟨RX7, "part", "(III)I"⟩
abbrev cX7_takeAway : ByteArray := prog_1_method_4_code
def yX7_takeAway : MethodName := ⟨RX7, "takeAway", "(I)I"⟩
abbrev cX7_hoop : ByteArray := prog_1_method_5_code
def yX7_hoop : MethodName := ⟨RX7, "hoop", "(I)I"⟩
abbrev cX7_roll : ByteArray := prog_1_method_6_code
def yX7_roll : MethodName := ⟨RX7, "roll", "(I)I"⟩
abbrev cX7_tap : ByteArray := prog_1_method_7_code
def yX7_tap : MethodName := ⟨RX7, "tap", "(I)I"⟩
abbrev cX7_push : ByteArray := prog_1_method_8_code
def yX7_push : MethodName := ⟨RX7, "push", "()I"⟩
abbrev cX7_of : ByteArray := prog_1_method_9_code
def yX7_of : MethodName := ⟨RX7, "of", "(II)I"⟩
abbrev cX7_ofHoop : ByteArray := prog_1_method_10_code
def yX7_ofHoop : MethodName := ⟨RX7, "ofHoop", "(I)I"⟩
abbrev cX7_run : ByteArray := prog_1_method_11_code
def yX7_run : MethodName := ⟨RX7, "run", "(II)I"⟩
abbrev cX7_count : ByteArray := prog_1_method_12_code
def yX7_count : MethodName := ⟨RX7, "count", "(I)I"⟩
abbrev cX7_aboutHoop : ByteArray := prog_1_method_13_code
def yX7_aboutHoop : MethodName := ⟨RX7, "aboutHoop", "(LHoopStairs$Hoop;I)I"⟩
abbrev cX7_ifRolled : ByteArray := prog_1_method_14_code
def yX7_ifRolled : MethodName := ⟨RX7, "ifRolled", "(I)I"⟩
abbrev cX7_widest : ByteArray := prog_1_method_15_code
def yX7_widest : MethodName := ⟨RX7, "widest", "()I"⟩
abbrev cX7_saves : ByteArray := prog_1_method_16_code
def yX7_saves : MethodName := ⟨RX7, "saves", "(I)I"⟩
abbrev cX7_passesAfterTaps : ByteArray := prog_1_method_17_code
def yX7_passesAfterTaps : MethodName := ⟨RX7, "passesAfterTaps", "(II)Z"⟩
abbrev cX7_traced : ByteArray := prog_1_method_18_code
def yX7_traced : MethodName := ⟨RX7, "traced", "(III)I"⟩
abbrev cX7_undo : ByteArray := prog_1_method_25_code
def yX7_undo : MethodName := ⟨RX7, "undo", "()I"⟩
abbrev cX7_save : ByteArray := prog_1_method_26_code
def yX7_save : MethodName := ⟨RX7, "save", "(I)I"⟩
abbrev cX7_restore : ByteArray := prog_1_method_27_code
def yX7_restore : MethodName := ⟨RX7, "restore", "(I)I"⟩
def RX8 : String := "HoopStairsModel"
def TX8 : u_T := fun k => match k with
  | _ => ("", "", "", false)
def tyX8 : Nat → FieldType := fun k => match k with
  | _ => .int
abbrev wsX80 : List Cond := u_ws RX8 TX8 0
theorem nmX8 : ∀ a, a < 0 → ∀ b, b < 0 → a ≠ b → (TX8 a).2.1 ≠ (TX8 b).2.1 := by decide +kernel
theorem tyX8_ok : ∀ k, k < 0 → parseFieldDescriptor (TX8 k).2.2.1 = some (tyX8 k) := by decide +kernel
def RJx8e188 : String := "java/lang/Cloneable"
def TJx8e188 : u_T := fun k => match k with
  | _ => ("", "", "", false)
def tyJx8e188 : Nat → FieldType := fun k => match k with
  | _ => .int
abbrev wsJx8e1880 : List Cond := u_ws RJx8e188 TJx8e188 0
theorem nmJx8e188 : ∀ a, a < 0 → ∀ b, b < 0 → a ≠ b → (TJx8e188 a).2.1 ≠ (TJx8e188 b).2.1 := by decide +kernel
theorem tyJx8e188_ok : ∀ k, k < 0 → parseFieldDescriptor (TJx8e188 k).2.2.1 = some (tyJx8e188 k) := by decide +kernel
def RJ9 : String := "java/lang/Math"
def TJ9 : u_T := fun k => match k with
  | _ => ("", "", "", false)
def tyJ9 : Nat → FieldType := fun k => match k with
  | _ => .int
abbrev wsJ90 : List Cond := u_ws RJ9 TJ9 0
theorem nmJ9 : ∀ a, a < 0 → ∀ b, b < 0 → a ≠ b → (TJ9 a).2.1 ≠ (TJ9 b).2.1 := by decide +kernel
theorem tyJ9_ok : ∀ k, k < 0 → parseFieldDescriptor (TJ9 k).2.2.1 = some (tyJ9 k) := by decide +kernel
abbrev cJ9_abs_0f7a4 : ByteArray := prog_12_method_59_code
def yJ9_abs_0f7a4 : MethodName := ⟨RJ9, "abs", "(I)I"⟩
abbrev cJ9_max_7cf53 : ByteArray := prog_12_method_65_code
def yJ9_max_7cf53 : MethodName := ⟨RJ9, "max", "(II)I"⟩
abbrev cJ9_min_7cf53 : ByteArray := prog_12_method_69_code
def yJ9_min_7cf53 : MethodName := ⟨RJ9, "min", "(II)I"⟩
def RJ10 : String := "java/lang/System"
def TJ10 : u_T := fun k => match k with
  | _ => ("", "", "", false)
def tyJ10 : Nat → FieldType := fun k => match k with
  | _ => .int
abbrev wsJ100 : List Cond := u_ws RJ10 TJ10 0
theorem nmJ10 : ∀ a, a < 0 → ∀ b, b < 0 → a ≠ b → (TJ10 a).2.1 ≠ (TJ10 b).2.1 := by decide +kernel
theorem tyJ10_ok : ∀ k, k < 0 → parseFieldDescriptor (TJ10 k).2.2.1 = some (tyJ10 k) := by decide +kernel
def RL : String := "HoopStairsLaw"
abbrev cL_cell : ByteArray := method_2_code
def yL_cell : MethodName := ⟨RL, "cell", "([II)I"⟩
abbrev cL_low : ByteArray := method_3_code
def yL_low : MethodName := ⟨RL, "low", "(II)I"⟩
abbrev cL_size : ByteArray := method_4_code
def yL_size : MethodName := ⟨RL, "size", "(I)I"⟩
abbrev cL_areParts : ByteArray := method_5_code
def yL_areParts : MethodName := ⟨RL, "areParts", "(LHoopStairs;)Z"⟩
abbrev cL_isPart : ByteArray := method_6_code
def yL_isPart : MethodName := ⟨RL, "isPart", "(LHoopStairs;[I)Z"⟩
abbrev cL_isRolled : ByteArray := method_7_code
def yL_isRolled : MethodName := ⟨RL, "isRolled", "(LHoopStairs;[I)Z"⟩
abbrev cL_isSaved : ByteArray := method_8_code
def yL_isSaved : MethodName := ⟨RL, "isSaved", "(LHoopStairs;I)Z"⟩
abbrev cL_isWidest : ByteArray := method_9_code
def yL_isWidest : MethodName := ⟨RL, "isWidest", "(LHoopStairs;[II)Z"⟩
abbrev cL_does : ByteArray := method_10_code
def yL_does : MethodName := ⟨RL, "does", "(LHoopStairs;[III)Z"⟩
abbrev cL_law : ByteArray := code
def yL_law : MethodName := ⟨RL, "law", "([I)Z"⟩
abbrev vwCl : List vw_C := [(RX0, TX0, 3), (RX1, TX1, 10), (RX2, TX2, 5), (RX3, TX3, 2), (RX4, TX4, 1), (RX5, TX5, 2), (RX6, TX6, 7), (RX7, TX7, 6)]
def Wr0 : List Cond := [Cond.classLink RL 9 RX7, Cond.instantiable RX7 6, Cond.initialized RX7, Cond.arrayClass .int, Cond.methodLink RL 88 yX7_init, Cond.instanceMethod yX7_init, Cond.code yX7_init cX7_init 2 none, Cond.methodLink RX7 1 objectInit, Cond.instanceMethod objectInit, Cond.code objectInit ⟨#[0xb1]⟩ 1 none, Cond.classLink RX7 7 RX6, Cond.instantiable RX6 7, Cond.initialized RX6, Cond.fieldLink RX7 10 "HoopStairs" "now" "LHoopStairs$State;", Cond.classLink RX7 16 RX0, Cond.instantiable RX0 3, Cond.initialized RX0, Cond.fieldLink RX7 19 "HoopStairs" "history" "LHoopStairs$History;", Cond.fieldLink RX7 23 "HoopStairs" "slots" "[LHoopStairs$State;", Cond.arrayClass .boolean, Cond.fieldLink RX7 27 "HoopStairs" "filled" "[Z", Cond.classLink RX7 31 RX2, Cond.instantiable RX2 5, Cond.initialized RX2]
def Wr1 : List Cond := [Cond.fieldLink RX7 34 "HoopStairs" "pad" "LHoopStairs$Pad;", Cond.classLink RX7 38 RX1, Cond.instantiable RX1 10, Cond.initialized RX1, Cond.fieldLink RX7 41 "HoopStairs" "trial" "LHoopStairs$Hoop;", Cond.methodLink RX7 9 yX6_init, Cond.instanceMethod yX6_init, Cond.code yX6_init cX6_init 1 none, Cond.methodLink RX6 3 objectInit, Cond.classLink RX6 9 RX4, Cond.instantiable RX4 1, Cond.initialized RX4, Cond.fieldLink RX6 12 "HoopStairs$State" "settings" "LHoopStairs$Settings;", Cond.classLink RX6 18 RX5, Cond.instantiable RX5 2, Cond.initialized RX5, Cond.fieldLink RX6 21 "HoopStairs$State" "stair" "LHoopStairs$Stair;", Cond.classLink RX6 25 RX1, Cond.fieldLink RX6 28 "HoopStairs$State" "hoop" "LHoopStairs$Hoop;", Cond.classLink RX6 32 RX3, Cond.instantiable RX3 2, Cond.initialized RX3, Cond.fieldLink RX6 35 "HoopStairs$State" "log" "LHoopStairs$RunLog;", Cond.fieldLink RX6 39 "HoopStairs$State" "ended" "[I"]
def Wr2 : List Cond := [Cond.fieldLink RX6 43 "HoopStairs$State" "runs" "I", Cond.fieldLink RX6 47 "HoopStairs$State" "taps" "I", Cond.methodLink RX6 11 yX4_init, Cond.instanceMethod yX4_init, Cond.code yX4_init cX4_init 1 none, Cond.methodLink RX4 1 objectInit, Cond.fieldLink RX4 7 "HoopStairs$Settings" "FIRST" "[I", Cond.methodLink RX4 13 ⟨"[I", "clone", "()Ljava/lang/Object;"⟩, Cond.sameMethod "[I" "java/lang/Object" "clone" "()Ljava/lang/Object;", Cond.native ⟨"java/lang/Object", "clone", "()Ljava/lang/Object;"⟩, Cond.instanceMethod ⟨"java/lang/Object", "clone", "()Ljava/lang/Object;"⟩, Cond.selects "[I" ⟨"[I", "clone", "()Ljava/lang/Object;"⟩ ⟨"java/lang/Object", "clone", "()Ljava/lang/Object;"⟩, Cond.classLink RX4 14 "[I", Cond.fieldLink RX4 18 "HoopStairs$Settings" "values" "[I", Cond.methodLink RX6 20 yX5_init, Cond.instanceMethod yX5_init, Cond.code yX5_init cX5_init 1 none, Cond.methodLink RX5 1 objectInit, Cond.classLink RX5 9 "[[I", Cond.fieldLink RX5 11 "HoopStairs$Stair" "columns" "[[I", Cond.fieldLink RX5 14 "HoopStairs$Stair" "length" "I", Cond.methodLink RX6 27 yX1_init, Cond.instanceMethod yX1_init, Cond.code yX1_init cX1_init 1 none]
def Wr3 : List Cond := [Cond.methodLink RX1 3 objectInit, Cond.fieldLink RX1 9 "HoopStairs$Hoop" "there" "Z", Cond.methodLink RX6 34 yX3_init, Cond.instanceMethod yX3_init, Cond.code yX3_init cX3_init 1 none, Cond.methodLink RX3 1 objectInit, Cond.classLink RX3 9 "[[I", Cond.fieldLink RX3 11 "HoopStairs$RunLog" "columns" "[[I", Cond.fieldLink RX3 14 "HoopStairs$RunLog" "length" "I", Cond.methodLink RX7 18 yX0_init, Cond.instanceMethod yX0_init, Cond.code yX0_init cX0_init 2 none, Cond.methodLink RX0 1 objectInit, Cond.classLink RX0 9 RX6, Cond.fieldLink RX0 11 "HoopStairs$History" "states" "[LHoopStairs$State;", Cond.fieldLink RX0 16 "HoopStairs$History" "next" "I", Cond.fieldLink RX0 20 "HoopStairs$History" "length" "I", Cond.methodLink RX0 15 yX6_init, Cond.methodLink RX7 33 yX2_init, Cond.instanceMethod yX2_init, Cond.code yX2_init cX2_init 1 none, Cond.methodLink RX2 3 objectInit, Cond.fieldLink RX2 11 "HoopStairs$Pad" "codes" "[I", Cond.fieldLink RX2 15 "HoopStairs$Pad" "length" "I"]
def Wr4 : List Cond := [Cond.fieldLink RX2 19 "HoopStairs$Pad" "at" "I", Cond.methodLink RX7 40 yX1_init, Cond.methodLink RL 89 yL_areParts, Cond.static yL_areParts, Cond.initialized RL, Cond.code yL_areParts cL_areParts 9 (some .boolean), Cond.methodLink RL 8 yX7_count, Cond.instanceMethod yX7_count, Cond.selects RX7 yX7_count yX7_count, Cond.code yX7_count cX7_count 2 (some .int), Cond.methodLink RX7 135 yX4_value, Cond.instanceMethod yX4_value, Cond.selects RX4 yX4_value yX4_value, Cond.code yX4_value cX4_value 2 (some .int), Cond.methodLink RX7 138 yX6_number, Cond.instanceMethod yX6_number, Cond.selects RX6 yX6_number yX6_number, Cond.code yX6_number cX6_number 2 (some .int), Cond.methodLink RX6 129 yX5_narrowestGate, Cond.instanceMethod yX5_narrowestGate, Cond.selects RX5 yX5_narrowestGate yX5_narrowestGate, Cond.code yX5_narrowestGate cX5_narrowestGate 4 (some .int), Cond.methodLink RX5 30 yX5_entry, Cond.instanceMethod yX5_entry]
def Wr5 : List Cond := [Cond.selects RX5 yX5_entry yX5_entry, Cond.code yX5_entry cX5_entry 3 (some .int), Cond.methodLink RX5 24 yX5_has, Cond.instanceMethod yX5_has, Cond.selects RX5 yX5_has yX5_has, Cond.code yX5_has cX5_has 2 (some .boolean), Cond.methodLink RX6 133 yX5_sumOf, Cond.instanceMethod yX5_sumOf, Cond.selects RX5 yX5_sumOf yX5_sumOf, Cond.code yX5_sumOf cX5_sumOf 4 (some .int), Cond.methodLink RL 14 yX7_of, Cond.instanceMethod yX7_of, Cond.selects RX7 yX7_of yX7_of, Cond.code yX7_of cX7_of 3 (some .int), Cond.methodLink RX7 74 yX5_has, Cond.methodLink RX7 108 yX5_entry, Cond.methodLink RL 18 yX7_run, Cond.instanceMethod yX7_run, Cond.selects RX7 yX7_run yX7_run, Cond.code yX7_run cX7_run 3 (some .int), Cond.methodLink RX7 126 yX3_has, Cond.instanceMethod yX3_has, Cond.selects RX3 yX3_has yX3_has, Cond.code yX3_has cX3_has 2 (some .boolean)]
def Wr6 : List Cond := [Cond.methodLink RX7 129 yX3_entry, Cond.instanceMethod yX3_entry, Cond.selects RX3 yX3_entry yX3_entry, Cond.code yX3_entry cX3_entry 3 (some .int), Cond.methodLink RX3 24 yX3_has, Cond.methodLink RL 21 yX7_ofHoop, Cond.instanceMethod yX7_ofHoop, Cond.selects RX7 yX7_ofHoop yX7_ofHoop, Cond.code yX7_ofHoop cX7_ofHoop 2 (some .int), Cond.methodLink RX7 118 yX7_aboutHoop, Cond.static yX7_aboutHoop, Cond.code yX7_aboutHoop cX7_aboutHoop 2 (some .int), Cond.methodLink RL 29 yX7_roll, Cond.instanceMethod yX7_roll, Cond.selects RX7 yX7_roll yX7_roll, Cond.code yX7_roll cX7_roll 3 (some .int), Cond.methodLink RX7 89 yX6_rollError, Cond.instanceMethod yX6_rollError, Cond.selects RX6 yX6_rollError yX6_rollError, Cond.code yX6_rollError cX6_rollError 2 (some .int), Cond.methodLink RX6 90 yX1_rolls, Cond.instanceMethod yX1_rolls, Cond.selects RX1 yX1_rolls yX1_rolls, Cond.code yX1_rolls cX1_rolls 1 (some .boolean)]
def Wr7 : List Cond := [Cond.fieldLink RX1 31 "HoopStairs$Hoop" "ending" "I", Cond.methodLink RX7 55 yX0_record, Cond.instanceMethod yX0_record, Cond.selects RX0 yX0_record yX0_record, Cond.code yX0_record cX0_record 2 none, Cond.methodLink RX0 31 Lib.Math.min.name, Cond.static Lib.Math.min.name, Cond.initialized "java/lang/Math", Cond.code Lib.Math.min.name Lib.Math.min.code 2 (some .int), Cond.methodLink RX0 23 yX0_has, Cond.static yX0_has, Cond.code yX0_has cX0_has 1 (some .boolean), Cond.methodLink RX0 27 yX6_copyFrom, Cond.instanceMethod yX6_copyFrom, Cond.selects RX6 yX6_copyFrom yX6_copyFrom, Cond.code yX6_copyFrom cX6_copyFrom 2 none, Cond.methodLink RX6 63 arraycopyName, Cond.native arraycopyName, Cond.static arraycopyName, Cond.initialized "java/lang/System", Cond.methodLink RX6 50 yX4_copyFrom, Cond.instanceMethod yX4_copyFrom, Cond.selects RX4 yX4_copyFrom yX4_copyFrom, Cond.code yX4_copyFrom cX4_copyFrom 2 none]
def Wr8 : List Cond := [Cond.methodLink RX4 21 arraycopyName, Cond.methodLink RX6 54 yX5_copyFrom, Cond.instanceMethod yX5_copyFrom, Cond.selects RX5 yX5_copyFrom yX5_copyFrom, Cond.code yX5_copyFrom cX5_copyFrom 3 none, Cond.methodLink RX5 18 arraycopyName, Cond.methodLink RX6 57 yX1_copyFrom, Cond.instanceMethod yX1_copyFrom, Cond.selects RX1 yX1_copyFrom yX1_copyFrom, Cond.code yX1_copyFrom cX1_copyFrom 2 none, Cond.fieldLink RX1 15 "HoopStairs$Hoop" "size" "I", Cond.fieldLink RX1 19 "HoopStairs$Hoop" "speed" "I", Cond.fieldLink RX1 22 "HoopStairs$Hoop" "lean" "I", Cond.fieldLink RX1 25 "HoopStairs$Hoop" "wobble" "I", Cond.fieldLink RX1 28 "HoopStairs$Hoop" "place" "I", Cond.fieldLink RX1 34 "HoopStairs$Hoop" "taps" "I", Cond.fieldLink RX1 37 "HoopStairs$Hoop" "pushes" "I", Cond.fieldLink RX1 40 "HoopStairs$Hoop" "greatestLean" "I", Cond.methodLink RX6 60 yX3_copyFrom, Cond.instanceMethod yX3_copyFrom, Cond.selects RX3 yX3_copyFrom yX3_copyFrom, Cond.code yX3_copyFrom cX3_copyFrom 3 none, Cond.methodLink RX3 18 arraycopyName, Cond.methodLink RX7 92 yX6_rollOver]
def Wr9 : List Cond := [Cond.instanceMethod yX6_rollOver, Cond.selects RX6 yX6_rollOver yX6_rollOver, Cond.code yX6_rollOver cX6_rollOver 2 (some .int), Cond.methodLink RX6 94 yX1_rollOver, Cond.instanceMethod yX1_rollOver, Cond.selects RX1 yX1_rollOver yX1_rollOver, Cond.code yX1_rollOver cX1_rollOver 5 none, Cond.methodLink RX1 50 yX1_rolls, Cond.methodLink RX1 54 yX5_has, Cond.methodLink RX1 60 yX5_entry, Cond.methodLink RX1 64 yX1_meet, Cond.instanceMethod yX1_meet, Cond.selects RX1 yX1_meet yX1_meet, Cond.code yX1_meet cX1_meet 4 none, Cond.methodLink RX1 68 yX4_value, Cond.methodLink RX1 78 yX1_dropBy, Cond.instanceMethod yX1_dropBy, Cond.selects RX1 yX1_dropBy yX1_dropBy, Cond.code yX1_dropBy cX1_dropBy 3 none, Cond.methodLink RX1 47 yX1_speedUpBy, Cond.instanceMethod yX1_speedUpBy, Cond.selects RX1 yX1_speedUpBy yX1_speedUpBy, Cond.code yX1_speedUpBy cX1_speedUpBy 2 none, Cond.methodLink RX1 96 Lib.Math.min.name]
def Wr10 : List Cond := [Cond.methodLink RX1 43 yX1_shakeBy, Cond.instanceMethod yX1_shakeBy, Cond.selects RX1 yX1_shakeBy yX1_shakeBy, Cond.code yX1_shakeBy cX1_shakeBy 2 none, Cond.methodLink RX1 82 yX1_rollAlong, Cond.instanceMethod yX1_rollAlong, Cond.selects RX1 yX1_rollAlong yX1_rollAlong, Cond.code yX1_rollAlong cX1_rollAlong 4 none, Cond.methodLink RX1 90 Lib.Math.max.name, Cond.static Lib.Math.max.name, Cond.code Lib.Math.max.name Lib.Math.max.code 2 (some .int), Cond.methodLink RX1 93 yX1_rightItselfBy, Cond.instanceMethod yX1_rightItselfBy, Cond.selects RX1 yX1_rightItselfBy yX1_rightItselfBy, Cond.code yX1_rightItselfBy cX1_rightItselfBy 2 none, Cond.methodLink RX1 74 yX1_goBehind, Cond.instanceMethod yX1_goBehind, Cond.selects RX1 yX1_goBehind yX1_goBehind, Cond.code yX1_goBehind cX1_goBehind 4 none, Cond.methodLink RX1 85 Lib.Math.abs.name, Cond.static Lib.Math.abs.name, Cond.code Lib.Math.abs.name Lib.Math.abs.code 1 (some .int), Cond.methodLink RX6 98 yX6_noteEnd, Cond.instanceMethod yX6_noteEnd]
def Wr11 : List Cond := [Cond.selects RX6 yX6_noteEnd yX6_noteEnd, Cond.code yX6_noteEnd cX6_noteEnd 1 none, Cond.methodLink RX6 107 yX5_noteEnd, Cond.instanceMethod yX5_noteEnd, Cond.selects RX5 yX5_noteEnd yX5_noteEnd, Cond.code yX5_noteEnd cX5_noteEnd 3 none, Cond.methodLink RX6 110 yX3_add, Cond.instanceMethod yX3_add, Cond.selects RX3 yX3_add yX3_add, Cond.code yX3_add cX3_add 3 none, Cond.methodLink RX3 42 Lib.Math.min.name, Cond.methodLink RL 48 yX7_tap, Cond.instanceMethod yX7_tap, Cond.selects RX7 yX7_tap yX7_tap, Cond.code yX7_tap cX7_tap 3 (some .int), Cond.methodLink RX7 95 yX6_tapError, Cond.instanceMethod yX6_tapError, Cond.selects RX6 yX6_tapError yX6_tapError, Cond.code yX6_tapError cX6_tapError 2 (some .int), Cond.methodLink RX7 98 yX6_tapFrom, Cond.instanceMethod yX6_tapFrom, Cond.selects RX6 yX6_tapFrom yX6_tapFrom, Cond.code yX6_tapFrom cX6_tapFrom 2 (some .int), Cond.methodLink RX6 113 yX4_value]
def Wr12 : List Cond := [Cond.methodLink RX6 117 yX1_takeTap, Cond.instanceMethod yX1_takeTap, Cond.selects RX1 yX1_takeTap yX1_takeTap, Cond.code yX1_takeTap cX1_takeTap 3 none, Cond.methodLink RL 93 yX7_undo, Cond.instanceMethod yX7_undo, Cond.selects RX7 yX7_undo yX7_undo, Cond.code yX7_undo cX7_undo 1 (some .int), Cond.methodLink RX7 225 yX0_stepBack, Cond.instanceMethod yX0_stepBack, Cond.selects RX0 yX0_stepBack yX0_stepBack, Cond.code yX0_stepBack cX0_stepBack 3 (some .int), Cond.methodLink RL 96 yL_cell, Cond.static yL_cell, Cond.code yL_cell cL_cell 2 (some .int), Cond.methodLink RL 100 yL_does, Cond.static yL_does, Cond.code yL_does cL_does 20 (some .boolean), Cond.methodLink RL 62 yL_low, Cond.static yL_low, Cond.code yL_low cL_low 2 (some .int), Cond.constant RL 7 (2147483647), Cond.methodLink RL 65 yX7_part, Cond.instanceMethod yX7_part]
def Wr13 : List Cond := [Cond.selects RX7 yX7_part yX7_part, Cond.code yX7_part cX7_part 5 (some .int), Cond.methodLink RX7 63 yX6_partError, Cond.instanceMethod yX6_partError, Cond.selects RX6 yX6_partError yX6_partError, Cond.code yX6_partError cX6_partError 4 (some .int), Cond.methodLink RX6 72 yX5_allows, Cond.static yX5_allows, Cond.code yX5_allows cX5_allows 2 (some .boolean), Cond.methodLink RX7 67 yX6_addPart, Cond.instanceMethod yX6_addPart, Cond.selects RX6 yX6_addPart yX6_addPart, Cond.code yX6_addPart cX6_addPart 4 (some .int), Cond.methodLink RX6 76 yX5_insert, Cond.instanceMethod yX5_insert, Cond.selects RX5 yX5_insert yX5_insert, Cond.code yX5_insert cX5_insert 5 none, Cond.methodLink RX6 80 yX1_vanish, Cond.instanceMethod yX1_vanish, Cond.selects RX1 yX1_vanish yX1_vanish, Cond.code yX1_vanish cX1_vanish 1 none, Cond.methodLink RL 68 yX7_takeAway, Cond.instanceMethod yX7_takeAway, Cond.selects RX7 yX7_takeAway yX7_takeAway]
def Wr14 : List Cond := [Cond.code yX7_takeAway cX7_takeAway 2 (some .int), Cond.methodLink RX7 80 yX6_removePart, Cond.instanceMethod yX6_removePart, Cond.selects RX6 yX6_removePart yX6_removePart, Cond.code yX6_removePart cX6_removePart 2 (some .int), Cond.methodLink RX6 83 yX5_remove, Cond.instanceMethod yX5_remove, Cond.selects RX5 yX5_remove yX5_remove, Cond.code yX5_remove cX5_remove 3 none, Cond.methodLink RL 55 yX7_hoop, Cond.instanceMethod yX7_hoop, Cond.selects RX7 yX7_hoop yX7_hoop, Cond.code yX7_hoop cX7_hoop 2 (some .int), Cond.methodLink RX7 84 yX1_allows, Cond.static yX1_allows, Cond.code yX1_allows cX1_allows 1 (some .boolean), Cond.methodLink RX7 86 yX6_beginRun, Cond.instanceMethod yX6_beginRun, Cond.selects RX6 yX6_beginRun yX6_beginRun, Cond.code yX6_beginRun cX6_beginRun 2 (some .int), Cond.methodLink RX6 87 yX1_begin, Cond.instanceMethod yX1_begin, Cond.selects RX1 yX1_begin yX1_begin, Cond.code yX1_begin cX1_begin 2 none]
def Wr15 : List Cond := [Cond.methodLink RL 71 yX7_push, Cond.instanceMethod yX7_push, Cond.selects RX7 yX7_push yX7_push, Cond.code yX7_push cX7_push 2 (some .int), Cond.methodLink RX7 101 yX6_pushError, Cond.instanceMethod yX6_pushError, Cond.selects RX6 yX6_pushError yX6_pushError, Cond.code yX6_pushError cX6_pushError 1 (some .int), Cond.methodLink RX7 105 yX6_pushOn, Cond.instanceMethod yX6_pushOn, Cond.selects RX6 yX6_pushOn yX6_pushOn, Cond.code yX6_pushOn cX6_pushOn 1 (some .int), Cond.methodLink RX6 123 yX1_takePush, Cond.instanceMethod yX1_takePush, Cond.selects RX1 yX1_takePush yX1_takePush, Cond.code yX1_takePush cX1_takePush 1 none, Cond.methodLink RL 74 yX7_set, Cond.instanceMethod yX7_set, Cond.selects RX7 yX7_set yX7_set, Cond.code yX7_set cX7_set 3 (some .int), Cond.methodLink RX7 49 yX4_allows, Cond.instanceMethod yX4_allows, Cond.selects RX4 yX4_allows yX4_allows, Cond.code yX4_allows cX4_allows 3 (some .boolean)]
def Wr16 : List Cond := [Cond.fieldLink RX4 27 "HoopStairs$Settings" "LEAST" "[I", Cond.fieldLink RX4 30 "HoopStairs$Settings" "GREATEST" "[I", Cond.methodLink RX7 59 yX4_change, Cond.instanceMethod yX4_change, Cond.selects RX4 yX4_change yX4_change, Cond.code yX4_change cX4_change 4 (some .int), Cond.methodLink RX4 33 yX4_value, Cond.methodLink RX4 37 yX4_allows, Cond.methodLink RL 77 yL_isSaved, Cond.static yL_isSaved, Cond.code yL_isSaved cL_isSaved 9 (some .boolean), Cond.methodLink RL 45 yX7_saves, Cond.instanceMethod yX7_saves, Cond.selects RX7 yX7_saves yX7_saves, Cond.code yX7_saves cX7_saves 4 (some .int), Cond.methodLink RX7 183 yX7_passesAfterTaps, Cond.instanceMethod yX7_passesAfterTaps, Cond.selects RX7 yX7_passesAfterTaps yX7_passesAfterTaps, Cond.code yX7_passesAfterTaps cX7_passesAfterTaps 4 (some .boolean), Cond.methodLink RX7 169 yX1_copyFrom, Cond.methodLink RX7 186 yX1_takeTap, Cond.methodLink RX7 176 yX1_rollOver, Cond.methodLink RL 35 yX7_save, Cond.instanceMethod yX7_save]
def Wr17 : List Cond := [Cond.selects RX7 yX7_save yX7_save, Cond.code yX7_save cX7_save 2 (some .int), Cond.methodLink RX7 229 yX6_copyFrom, Cond.methodLink RL 32 yX7_ifRolled, Cond.instanceMethod yX7_ifRolled, Cond.selects RX7 yX7_ifRolled yX7_ifRolled, Cond.code yX7_ifRolled cX7_ifRolled 2 (some .int), Cond.methodLink RX7 165 yX1_rolls, Cond.methodLink RL 42 yX7_restore, Cond.instanceMethod yX7_restore, Cond.selects RX7 yX7_restore yX7_restore, Cond.code yX7_restore cX7_restore 2 (some .int), Cond.methodLink RL 81 yL_isWidest, Cond.static yL_isWidest, Cond.code yL_isWidest cL_isWidest 15 (some .boolean), Cond.methodLink RL 51 yX7_widest, Cond.instanceMethod yX7_widest, Cond.selects RX7 yX7_widest yX7_widest, Cond.code yX7_widest cX7_widest 2 (some .int), Cond.methodLink RX7 179 yX1_begin, Cond.methodLink RL 58 yX7_traced, Cond.instanceMethod yX7_traced, Cond.selects RX7 yX7_traced yX7_traced, Cond.code yX7_traced cX7_traced 4 (some .int)]
def Wr18 : List Cond := [Cond.methodLink RL 85 yL_isRolled, Cond.static yL_isRolled, Cond.code yL_isRolled cL_isRolled 13 (some .boolean), Cond.methodLink RL 38 yL_isPart, Cond.static yL_isPart, Cond.code yL_isPart cL_isPart 11 (some .boolean), Cond.methodLink RL 24 yL_size, Cond.static yL_size, Cond.code yL_size cL_size 1 (some .int)]
def Wall : List Cond := Wr0 ++ (Wr1 ++ (Wr2 ++ (Wr3 ++ (Wr4 ++ (Wr5 ++ (Wr6 ++ (Wr7 ++ (Wr8 ++ (Wr9 ++ (Wr10 ++ (Wr11 ++ (Wr12 ++ (Wr13 ++ (Wr14 ++ (Wr15 ++ (Wr16 ++ (Wr17 ++ (Wr18 ++ (wsX00 ++ (wsX10 ++ (wsX20 ++ (wsX30 ++ (wsX40 ++ (wsX50 ++ (wsX60 ++ (wsX70 ++ (wsX80)))))))))))))))))))))))))))
theorem Wi_Wr0 : ∀ w ∈ Wr0, w ∈ Wall := fun _ h => List.mem_append_left _ h
theorem Wi_Wr1 : ∀ w ∈ Wr1, w ∈ Wall := fun _ h => List.mem_append_right _ (List.mem_append_left _ h)
theorem Wi_Wr2 : ∀ w ∈ Wr2, w ∈ Wall := fun _ h => List.mem_append_right _ (List.mem_append_right _ (List.mem_append_left _ h))
theorem Wi_Wr3 : ∀ w ∈ Wr3, w ∈ Wall := fun _ h => List.mem_append_right _ (List.mem_append_right _ (List.mem_append_right _ (List.mem_append_left _ h)))
theorem Wi_Wr4 : ∀ w ∈ Wr4, w ∈ Wall := fun _ h => List.mem_append_right _ (List.mem_append_right _ (List.mem_append_right _ (List.mem_append_right _ (List.mem_append_left _ h))))
theorem Wi_Wr5 : ∀ w ∈ Wr5, w ∈ Wall := fun _ h => List.mem_append_right _ (List.mem_append_right _ (List.mem_append_right _ (List.mem_append_right _ (List.mem_append_right _ (List.mem_append_left _ h)))))
theorem Wi_Wr6 : ∀ w ∈ Wr6, w ∈ Wall := fun _ h => List.mem_append_right _ (List.mem_append_right _ (List.mem_append_right _ (List.mem_append_right _ (List.mem_append_right _ (List.mem_append_right _ (List.mem_append_left _ h))))))
theorem Wi_Wr7 : ∀ w ∈ Wr7, w ∈ Wall := fun _ h => List.mem_append_right _ (List.mem_append_right _ (List.mem_append_right _ (List.mem_append_right _ (List.mem_append_right _ (List.mem_append_right _ (List.mem_append_right _ (List.mem_append_left _ h)))))))
theorem Wi_Wr8 : ∀ w ∈ Wr8, w ∈ Wall := fun _ h => List.mem_append_right _ (List.mem_append_right _ (List.mem_append_right _ (List.mem_append_right _ (List.mem_append_right _ (List.mem_append_right _ (List.mem_append_right _ (List.mem_append_right _ (List.mem_append_left _ h))))))))
theorem Wi_Wr9 : ∀ w ∈ Wr9, w ∈ Wall := fun _ h => List.mem_append_right _ (List.mem_append_right _ (List.mem_append_right _ (List.mem_append_right _ (List.mem_append_right _ (List.mem_append_right _ (List.mem_append_right _ (List.mem_append_right _ (List.mem_append_right _ (List.mem_append_left _ h)))))))))
theorem Wi_Wr10 : ∀ w ∈ Wr10, w ∈ Wall := fun _ h => List.mem_append_right _ (List.mem_append_right _ (List.mem_append_right _ (List.mem_append_right _ (List.mem_append_right _ (List.mem_append_right _ (List.mem_append_right _ (List.mem_append_right _ (List.mem_append_right _ (List.mem_append_right _ (List.mem_append_left _ h))))))))))
theorem Wi_Wr11 : ∀ w ∈ Wr11, w ∈ Wall := fun _ h => List.mem_append_right _ (List.mem_append_right _ (List.mem_append_right _ (List.mem_append_right _ (List.mem_append_right _ (List.mem_append_right _ (List.mem_append_right _ (List.mem_append_right _ (List.mem_append_right _ (List.mem_append_right _ (List.mem_append_right _ (List.mem_append_left _ h)))))))))))
theorem Wi_Wr12 : ∀ w ∈ Wr12, w ∈ Wall := fun _ h => List.mem_append_right _ (List.mem_append_right _ (List.mem_append_right _ (List.mem_append_right _ (List.mem_append_right _ (List.mem_append_right _ (List.mem_append_right _ (List.mem_append_right _ (List.mem_append_right _ (List.mem_append_right _ (List.mem_append_right _ (List.mem_append_right _ (List.mem_append_left _ h))))))))))))
theorem Wi_Wr13 : ∀ w ∈ Wr13, w ∈ Wall := fun _ h => List.mem_append_right _ (List.mem_append_right _ (List.mem_append_right _ (List.mem_append_right _ (List.mem_append_right _ (List.mem_append_right _ (List.mem_append_right _ (List.mem_append_right _ (List.mem_append_right _ (List.mem_append_right _ (List.mem_append_right _ (List.mem_append_right _ (List.mem_append_right _ (List.mem_append_left _ h)))))))))))))
theorem Wi_Wr14 : ∀ w ∈ Wr14, w ∈ Wall := fun _ h => List.mem_append_right _ (List.mem_append_right _ (List.mem_append_right _ (List.mem_append_right _ (List.mem_append_right _ (List.mem_append_right _ (List.mem_append_right _ (List.mem_append_right _ (List.mem_append_right _ (List.mem_append_right _ (List.mem_append_right _ (List.mem_append_right _ (List.mem_append_right _ (List.mem_append_right _ (List.mem_append_left _ h))))))))))))))
theorem Wi_Wr15 : ∀ w ∈ Wr15, w ∈ Wall := fun _ h => List.mem_append_right _ (List.mem_append_right _ (List.mem_append_right _ (List.mem_append_right _ (List.mem_append_right _ (List.mem_append_right _ (List.mem_append_right _ (List.mem_append_right _ (List.mem_append_right _ (List.mem_append_right _ (List.mem_append_right _ (List.mem_append_right _ (List.mem_append_right _ (List.mem_append_right _ (List.mem_append_right _ (List.mem_append_left _ h)))))))))))))))
theorem Wi_Wr16 : ∀ w ∈ Wr16, w ∈ Wall := fun _ h => List.mem_append_right _ (List.mem_append_right _ (List.mem_append_right _ (List.mem_append_right _ (List.mem_append_right _ (List.mem_append_right _ (List.mem_append_right _ (List.mem_append_right _ (List.mem_append_right _ (List.mem_append_right _ (List.mem_append_right _ (List.mem_append_right _ (List.mem_append_right _ (List.mem_append_right _ (List.mem_append_right _ (List.mem_append_right _ (List.mem_append_left _ h))))))))))))))))
theorem Wi_Wr17 : ∀ w ∈ Wr17, w ∈ Wall := fun _ h => List.mem_append_right _ (List.mem_append_right _ (List.mem_append_right _ (List.mem_append_right _ (List.mem_append_right _ (List.mem_append_right _ (List.mem_append_right _ (List.mem_append_right _ (List.mem_append_right _ (List.mem_append_right _ (List.mem_append_right _ (List.mem_append_right _ (List.mem_append_right _ (List.mem_append_right _ (List.mem_append_right _ (List.mem_append_right _ (List.mem_append_right _ (List.mem_append_left _ h)))))))))))))))))
theorem Wi_Wr18 : ∀ w ∈ Wr18, w ∈ Wall := fun _ h => List.mem_append_right _ (List.mem_append_right _ (List.mem_append_right _ (List.mem_append_right _ (List.mem_append_right _ (List.mem_append_right _ (List.mem_append_right _ (List.mem_append_right _ (List.mem_append_right _ (List.mem_append_right _ (List.mem_append_right _ (List.mem_append_right _ (List.mem_append_right _ (List.mem_append_right _ (List.mem_append_right _ (List.mem_append_right _ (List.mem_append_right _ (List.mem_append_right _ (List.mem_append_left _ h))))))))))))))))))
theorem Wi_wsX00 : ∀ w ∈ wsX00, w ∈ Wall := fun _ h => List.mem_append_right _ (List.mem_append_right _ (List.mem_append_right _ (List.mem_append_right _ (List.mem_append_right _ (List.mem_append_right _ (List.mem_append_right _ (List.mem_append_right _ (List.mem_append_right _ (List.mem_append_right _ (List.mem_append_right _ (List.mem_append_right _ (List.mem_append_right _ (List.mem_append_right _ (List.mem_append_right _ (List.mem_append_right _ (List.mem_append_right _ (List.mem_append_right _ (List.mem_append_right _ (List.mem_append_left _ h)))))))))))))))))))
theorem Wi_wsX10 : ∀ w ∈ wsX10, w ∈ Wall := fun _ h => List.mem_append_right _ (List.mem_append_right _ (List.mem_append_right _ (List.mem_append_right _ (List.mem_append_right _ (List.mem_append_right _ (List.mem_append_right _ (List.mem_append_right _ (List.mem_append_right _ (List.mem_append_right _ (List.mem_append_right _ (List.mem_append_right _ (List.mem_append_right _ (List.mem_append_right _ (List.mem_append_right _ (List.mem_append_right _ (List.mem_append_right _ (List.mem_append_right _ (List.mem_append_right _ (List.mem_append_right _ (List.mem_append_left _ h))))))))))))))))))))
theorem Wi_wsX20 : ∀ w ∈ wsX20, w ∈ Wall := fun _ h => List.mem_append_right _ (List.mem_append_right _ (List.mem_append_right _ (List.mem_append_right _ (List.mem_append_right _ (List.mem_append_right _ (List.mem_append_right _ (List.mem_append_right _ (List.mem_append_right _ (List.mem_append_right _ (List.mem_append_right _ (List.mem_append_right _ (List.mem_append_right _ (List.mem_append_right _ (List.mem_append_right _ (List.mem_append_right _ (List.mem_append_right _ (List.mem_append_right _ (List.mem_append_right _ (List.mem_append_right _ (List.mem_append_right _ (List.mem_append_left _ h)))))))))))))))))))))
theorem Wi_wsX30 : ∀ w ∈ wsX30, w ∈ Wall := fun _ h => List.mem_append_right _ (List.mem_append_right _ (List.mem_append_right _ (List.mem_append_right _ (List.mem_append_right _ (List.mem_append_right _ (List.mem_append_right _ (List.mem_append_right _ (List.mem_append_right _ (List.mem_append_right _ (List.mem_append_right _ (List.mem_append_right _ (List.mem_append_right _ (List.mem_append_right _ (List.mem_append_right _ (List.mem_append_right _ (List.mem_append_right _ (List.mem_append_right _ (List.mem_append_right _ (List.mem_append_right _ (List.mem_append_right _ (List.mem_append_right _ (List.mem_append_left _ h))))))))))))))))))))))
theorem Wi_wsX40 : ∀ w ∈ wsX40, w ∈ Wall := fun _ h => List.mem_append_right _ (List.mem_append_right _ (List.mem_append_right _ (List.mem_append_right _ (List.mem_append_right _ (List.mem_append_right _ (List.mem_append_right _ (List.mem_append_right _ (List.mem_append_right _ (List.mem_append_right _ (List.mem_append_right _ (List.mem_append_right _ (List.mem_append_right _ (List.mem_append_right _ (List.mem_append_right _ (List.mem_append_right _ (List.mem_append_right _ (List.mem_append_right _ (List.mem_append_right _ (List.mem_append_right _ (List.mem_append_right _ (List.mem_append_right _ (List.mem_append_right _ (List.mem_append_left _ h)))))))))))))))))))))))
theorem Wi_wsX50 : ∀ w ∈ wsX50, w ∈ Wall := fun _ h => List.mem_append_right _ (List.mem_append_right _ (List.mem_append_right _ (List.mem_append_right _ (List.mem_append_right _ (List.mem_append_right _ (List.mem_append_right _ (List.mem_append_right _ (List.mem_append_right _ (List.mem_append_right _ (List.mem_append_right _ (List.mem_append_right _ (List.mem_append_right _ (List.mem_append_right _ (List.mem_append_right _ (List.mem_append_right _ (List.mem_append_right _ (List.mem_append_right _ (List.mem_append_right _ (List.mem_append_right _ (List.mem_append_right _ (List.mem_append_right _ (List.mem_append_right _ (List.mem_append_right _ (List.mem_append_left _ h))))))))))))))))))))))))
theorem Wi_wsX60 : ∀ w ∈ wsX60, w ∈ Wall := fun _ h => List.mem_append_right _ (List.mem_append_right _ (List.mem_append_right _ (List.mem_append_right _ (List.mem_append_right _ (List.mem_append_right _ (List.mem_append_right _ (List.mem_append_right _ (List.mem_append_right _ (List.mem_append_right _ (List.mem_append_right _ (List.mem_append_right _ (List.mem_append_right _ (List.mem_append_right _ (List.mem_append_right _ (List.mem_append_right _ (List.mem_append_right _ (List.mem_append_right _ (List.mem_append_right _ (List.mem_append_right _ (List.mem_append_right _ (List.mem_append_right _ (List.mem_append_right _ (List.mem_append_right _ (List.mem_append_right _ (List.mem_append_left _ h)))))))))))))))))))))))))
theorem Wi_wsX70 : ∀ w ∈ wsX70, w ∈ Wall := fun _ h => List.mem_append_right _ (List.mem_append_right _ (List.mem_append_right _ (List.mem_append_right _ (List.mem_append_right _ (List.mem_append_right _ (List.mem_append_right _ (List.mem_append_right _ (List.mem_append_right _ (List.mem_append_right _ (List.mem_append_right _ (List.mem_append_right _ (List.mem_append_right _ (List.mem_append_right _ (List.mem_append_right _ (List.mem_append_right _ (List.mem_append_right _ (List.mem_append_right _ (List.mem_append_right _ (List.mem_append_right _ (List.mem_append_right _ (List.mem_append_right _ (List.mem_append_right _ (List.mem_append_right _ (List.mem_append_right _ (List.mem_append_right _ (List.mem_append_left _ h))))))))))))))))))))))))))
theorem Wi_wsX80 : ∀ w ∈ wsX80, w ∈ Wall := fun _ h => List.mem_append_right _ (List.mem_append_right _ (List.mem_append_right _ (List.mem_append_right _ (List.mem_append_right _ (List.mem_append_right _ (List.mem_append_right _ (List.mem_append_right _ (List.mem_append_right _ (List.mem_append_right _ (List.mem_append_right _ (List.mem_append_right _ (List.mem_append_right _ (List.mem_append_right _ (List.mem_append_right _ (List.mem_append_right _ (List.mem_append_right _ (List.mem_append_right _ (List.mem_append_right _ (List.mem_append_right _ (List.mem_append_right _ (List.mem_append_right _ (List.mem_append_right _ (List.mem_append_right _ (List.mem_append_right _ (List.mem_append_right _ (List.mem_append_right _ (h)))))))))))))))))))))))))))
theorem mw_710 : Cond.classLink RL 9 RX7 ∈ Wall := Wi_Wr0 _ (List.mem_of_getElem? (i := 0) rfl)
theorem mw_1 : Cond.instantiable RX7 6 ∈ Wall := Wi_Wr0 _ (List.mem_of_getElem? (i := 1) rfl)
theorem mw_2 : Cond.initialized RX7 ∈ Wall := Wi_Wr0 _ (List.mem_of_getElem? (i := 2) rfl)
theorem mw_50 : Cond.arrayClass .int ∈ Wall := Wi_Wr0 _ (List.mem_of_getElem? (i := 3) rfl)
theorem mw_711 : Cond.methodLink RL 88 yX7_init ∈ Wall := Wi_Wr0 _ (List.mem_of_getElem? (i := 4) rfl)
theorem mw_8 : Cond.instanceMethod yX7_init ∈ Wall := Wi_Wr0 _ (List.mem_of_getElem? (i := 5) rfl)
theorem mw_9 : Cond.code yX7_init cX7_init 2 none ∈ Wall := Wi_Wr0 _ (List.mem_of_getElem? (i := 6) rfl)
theorem mw_10 : Cond.methodLink RX7 1 objectInit ∈ Wall := Wi_Wr0 _ (List.mem_of_getElem? (i := 7) rfl)
theorem mw_11 : Cond.instanceMethod objectInit ∈ Wall := Wi_Wr0 _ (List.mem_of_getElem? (i := 8) rfl)
theorem mw_12 : Cond.code objectInit ⟨#[0xb1]⟩ 1 none ∈ Wall := Wi_Wr0 _ (List.mem_of_getElem? (i := 9) rfl)
theorem mw_13 : Cond.classLink RX7 7 RX6 ∈ Wall := Wi_Wr0 _ (List.mem_of_getElem? (i := 10) rfl)
theorem mw_14 : Cond.instantiable RX6 7 ∈ Wall := Wi_Wr0 _ (List.mem_of_getElem? (i := 11) rfl)
theorem mw_15 : Cond.initialized RX6 ∈ Wall := Wi_Wr0 _ (List.mem_of_getElem? (i := 12) rfl)
theorem mw_16 : Cond.fieldLink RX7 10 "HoopStairs" "now" "LHoopStairs$State;" ∈ Wall := Wi_Wr0 _ (List.mem_of_getElem? (i := 13) rfl)
theorem mw_17 : Cond.classLink RX7 16 RX0 ∈ Wall := Wi_Wr0 _ (List.mem_of_getElem? (i := 14) rfl)
theorem mw_18 : Cond.instantiable RX0 3 ∈ Wall := Wi_Wr0 _ (List.mem_of_getElem? (i := 15) rfl)
theorem mw_19 : Cond.initialized RX0 ∈ Wall := Wi_Wr0 _ (List.mem_of_getElem? (i := 16) rfl)
theorem mw_20 : Cond.fieldLink RX7 19 "HoopStairs" "history" "LHoopStairs$History;" ∈ Wall := Wi_Wr0 _ (List.mem_of_getElem? (i := 17) rfl)
theorem mw_21 : Cond.fieldLink RX7 23 "HoopStairs" "slots" "[LHoopStairs$State;" ∈ Wall := Wi_Wr0 _ (List.mem_of_getElem? (i := 18) rfl)
theorem mw_22 : Cond.arrayClass .boolean ∈ Wall := Wi_Wr0 _ (List.mem_of_getElem? (i := 19) rfl)
theorem mw_23 : Cond.fieldLink RX7 27 "HoopStairs" "filled" "[Z" ∈ Wall := Wi_Wr0 _ (List.mem_of_getElem? (i := 20) rfl)
theorem mw_24 : Cond.classLink RX7 31 RX2 ∈ Wall := Wi_Wr0 _ (List.mem_of_getElem? (i := 21) rfl)
theorem mw_25 : Cond.instantiable RX2 5 ∈ Wall := Wi_Wr0 _ (List.mem_of_getElem? (i := 22) rfl)
theorem mw_26 : Cond.initialized RX2 ∈ Wall := Wi_Wr0 _ (List.mem_of_getElem? (i := 23) rfl)
theorem mw_27 : Cond.fieldLink RX7 34 "HoopStairs" "pad" "LHoopStairs$Pad;" ∈ Wall := Wi_Wr1 _ (List.mem_of_getElem? (i := 0) rfl)
theorem mw_28 : Cond.classLink RX7 38 RX1 ∈ Wall := Wi_Wr1 _ (List.mem_of_getElem? (i := 1) rfl)
theorem mw_29 : Cond.instantiable RX1 10 ∈ Wall := Wi_Wr1 _ (List.mem_of_getElem? (i := 2) rfl)
theorem mw_30 : Cond.initialized RX1 ∈ Wall := Wi_Wr1 _ (List.mem_of_getElem? (i := 3) rfl)
theorem mw_31 : Cond.fieldLink RX7 41 "HoopStairs" "trial" "LHoopStairs$Hoop;" ∈ Wall := Wi_Wr1 _ (List.mem_of_getElem? (i := 4) rfl)
theorem mw_32 : Cond.methodLink RX7 9 yX6_init ∈ Wall := Wi_Wr1 _ (List.mem_of_getElem? (i := 5) rfl)
theorem mw_33 : Cond.instanceMethod yX6_init ∈ Wall := Wi_Wr1 _ (List.mem_of_getElem? (i := 6) rfl)
theorem mw_34 : Cond.code yX6_init cX6_init 1 none ∈ Wall := Wi_Wr1 _ (List.mem_of_getElem? (i := 7) rfl)
theorem mw_35 : Cond.methodLink RX6 3 objectInit ∈ Wall := Wi_Wr1 _ (List.mem_of_getElem? (i := 8) rfl)
theorem mw_36 : Cond.classLink RX6 9 RX4 ∈ Wall := Wi_Wr1 _ (List.mem_of_getElem? (i := 9) rfl)
theorem mw_37 : Cond.instantiable RX4 1 ∈ Wall := Wi_Wr1 _ (List.mem_of_getElem? (i := 10) rfl)
theorem mw_38 : Cond.initialized RX4 ∈ Wall := Wi_Wr1 _ (List.mem_of_getElem? (i := 11) rfl)
theorem mw_39 : Cond.fieldLink RX6 12 "HoopStairs$State" "settings" "LHoopStairs$Settings;" ∈ Wall := Wi_Wr1 _ (List.mem_of_getElem? (i := 12) rfl)
theorem mw_40 : Cond.classLink RX6 18 RX5 ∈ Wall := Wi_Wr1 _ (List.mem_of_getElem? (i := 13) rfl)
theorem mw_41 : Cond.instantiable RX5 2 ∈ Wall := Wi_Wr1 _ (List.mem_of_getElem? (i := 14) rfl)
theorem mw_42 : Cond.initialized RX5 ∈ Wall := Wi_Wr1 _ (List.mem_of_getElem? (i := 15) rfl)
theorem mw_43 : Cond.fieldLink RX6 21 "HoopStairs$State" "stair" "LHoopStairs$Stair;" ∈ Wall := Wi_Wr1 _ (List.mem_of_getElem? (i := 16) rfl)
theorem mw_44 : Cond.classLink RX6 25 RX1 ∈ Wall := Wi_Wr1 _ (List.mem_of_getElem? (i := 17) rfl)
theorem mw_45 : Cond.fieldLink RX6 28 "HoopStairs$State" "hoop" "LHoopStairs$Hoop;" ∈ Wall := Wi_Wr1 _ (List.mem_of_getElem? (i := 18) rfl)
theorem mw_46 : Cond.classLink RX6 32 RX3 ∈ Wall := Wi_Wr1 _ (List.mem_of_getElem? (i := 19) rfl)
theorem mw_47 : Cond.instantiable RX3 2 ∈ Wall := Wi_Wr1 _ (List.mem_of_getElem? (i := 20) rfl)
theorem mw_48 : Cond.initialized RX3 ∈ Wall := Wi_Wr1 _ (List.mem_of_getElem? (i := 21) rfl)
theorem mw_49 : Cond.fieldLink RX6 35 "HoopStairs$State" "log" "LHoopStairs$RunLog;" ∈ Wall := Wi_Wr1 _ (List.mem_of_getElem? (i := 22) rfl)
theorem mw_51 : Cond.fieldLink RX6 39 "HoopStairs$State" "ended" "[I" ∈ Wall := Wi_Wr1 _ (List.mem_of_getElem? (i := 23) rfl)
theorem mw_52 : Cond.fieldLink RX6 43 "HoopStairs$State" "runs" "I" ∈ Wall := Wi_Wr2 _ (List.mem_of_getElem? (i := 0) rfl)
theorem mw_53 : Cond.fieldLink RX6 47 "HoopStairs$State" "taps" "I" ∈ Wall := Wi_Wr2 _ (List.mem_of_getElem? (i := 1) rfl)
theorem mw_54 : Cond.methodLink RX6 11 yX4_init ∈ Wall := Wi_Wr2 _ (List.mem_of_getElem? (i := 2) rfl)
theorem mw_55 : Cond.instanceMethod yX4_init ∈ Wall := Wi_Wr2 _ (List.mem_of_getElem? (i := 3) rfl)
theorem mw_56 : Cond.code yX4_init cX4_init 1 none ∈ Wall := Wi_Wr2 _ (List.mem_of_getElem? (i := 4) rfl)
theorem mw_57 : Cond.methodLink RX4 1 objectInit ∈ Wall := Wi_Wr2 _ (List.mem_of_getElem? (i := 5) rfl)
theorem mw_58 : Cond.fieldLink RX4 7 "HoopStairs$Settings" "FIRST" "[I" ∈ Wall := Wi_Wr2 _ (List.mem_of_getElem? (i := 6) rfl)
theorem mw_59 : Cond.methodLink RX4 13 ⟨"[I", "clone", "()Ljava/lang/Object;"⟩ ∈ Wall := Wi_Wr2 _ (List.mem_of_getElem? (i := 7) rfl)
theorem mw_60 : Cond.sameMethod "[I" "java/lang/Object" "clone" "()Ljava/lang/Object;" ∈ Wall := Wi_Wr2 _ (List.mem_of_getElem? (i := 8) rfl)
theorem mw_61 : Cond.native ⟨"java/lang/Object", "clone", "()Ljava/lang/Object;"⟩ ∈ Wall := Wi_Wr2 _ (List.mem_of_getElem? (i := 9) rfl)
theorem mw_62 : Cond.instanceMethod ⟨"java/lang/Object", "clone", "()Ljava/lang/Object;"⟩ ∈ Wall := Wi_Wr2 _ (List.mem_of_getElem? (i := 10) rfl)
theorem mw_63 : Cond.selects "[I" ⟨"[I", "clone", "()Ljava/lang/Object;"⟩ ⟨"java/lang/Object", "clone", "()Ljava/lang/Object;"⟩ ∈ Wall := Wi_Wr2 _ (List.mem_of_getElem? (i := 11) rfl)
theorem mw_64 : Cond.classLink RX4 14 "[I" ∈ Wall := Wi_Wr2 _ (List.mem_of_getElem? (i := 12) rfl)
theorem mw_65 : Cond.fieldLink RX4 18 "HoopStairs$Settings" "values" "[I" ∈ Wall := Wi_Wr2 _ (List.mem_of_getElem? (i := 13) rfl)
theorem mw_66 : Cond.methodLink RX6 20 yX5_init ∈ Wall := Wi_Wr2 _ (List.mem_of_getElem? (i := 14) rfl)
theorem mw_67 : Cond.instanceMethod yX5_init ∈ Wall := Wi_Wr2 _ (List.mem_of_getElem? (i := 15) rfl)
theorem mw_68 : Cond.code yX5_init cX5_init 1 none ∈ Wall := Wi_Wr2 _ (List.mem_of_getElem? (i := 16) rfl)
theorem mw_69 : Cond.methodLink RX5 1 objectInit ∈ Wall := Wi_Wr2 _ (List.mem_of_getElem? (i := 17) rfl)
theorem mw_70 : Cond.classLink RX5 9 "[[I" ∈ Wall := Wi_Wr2 _ (List.mem_of_getElem? (i := 18) rfl)
theorem mw_71 : Cond.fieldLink RX5 11 "HoopStairs$Stair" "columns" "[[I" ∈ Wall := Wi_Wr2 _ (List.mem_of_getElem? (i := 19) rfl)
theorem mw_72 : Cond.fieldLink RX5 14 "HoopStairs$Stair" "length" "I" ∈ Wall := Wi_Wr2 _ (List.mem_of_getElem? (i := 20) rfl)
theorem mw_73 : Cond.methodLink RX6 27 yX1_init ∈ Wall := Wi_Wr2 _ (List.mem_of_getElem? (i := 21) rfl)
theorem mw_74 : Cond.instanceMethod yX1_init ∈ Wall := Wi_Wr2 _ (List.mem_of_getElem? (i := 22) rfl)
theorem mw_75 : Cond.code yX1_init cX1_init 1 none ∈ Wall := Wi_Wr2 _ (List.mem_of_getElem? (i := 23) rfl)
theorem mw_76 : Cond.methodLink RX1 3 objectInit ∈ Wall := Wi_Wr3 _ (List.mem_of_getElem? (i := 0) rfl)
theorem mw_77 : Cond.fieldLink RX1 9 "HoopStairs$Hoop" "there" "Z" ∈ Wall := Wi_Wr3 _ (List.mem_of_getElem? (i := 1) rfl)
theorem mw_78 : Cond.methodLink RX6 34 yX3_init ∈ Wall := Wi_Wr3 _ (List.mem_of_getElem? (i := 2) rfl)
theorem mw_79 : Cond.instanceMethod yX3_init ∈ Wall := Wi_Wr3 _ (List.mem_of_getElem? (i := 3) rfl)
theorem mw_80 : Cond.code yX3_init cX3_init 1 none ∈ Wall := Wi_Wr3 _ (List.mem_of_getElem? (i := 4) rfl)
theorem mw_81 : Cond.methodLink RX3 1 objectInit ∈ Wall := Wi_Wr3 _ (List.mem_of_getElem? (i := 5) rfl)
theorem mw_82 : Cond.classLink RX3 9 "[[I" ∈ Wall := Wi_Wr3 _ (List.mem_of_getElem? (i := 6) rfl)
theorem mw_83 : Cond.fieldLink RX3 11 "HoopStairs$RunLog" "columns" "[[I" ∈ Wall := Wi_Wr3 _ (List.mem_of_getElem? (i := 7) rfl)
theorem mw_84 : Cond.fieldLink RX3 14 "HoopStairs$RunLog" "length" "I" ∈ Wall := Wi_Wr3 _ (List.mem_of_getElem? (i := 8) rfl)
theorem mw_85 : Cond.methodLink RX7 18 yX0_init ∈ Wall := Wi_Wr3 _ (List.mem_of_getElem? (i := 9) rfl)
theorem mw_86 : Cond.instanceMethod yX0_init ∈ Wall := Wi_Wr3 _ (List.mem_of_getElem? (i := 10) rfl)
theorem mw_87 : Cond.code yX0_init cX0_init 2 none ∈ Wall := Wi_Wr3 _ (List.mem_of_getElem? (i := 11) rfl)
theorem mw_88 : Cond.methodLink RX0 1 objectInit ∈ Wall := Wi_Wr3 _ (List.mem_of_getElem? (i := 12) rfl)
theorem mw_89 : Cond.classLink RX0 9 RX6 ∈ Wall := Wi_Wr3 _ (List.mem_of_getElem? (i := 13) rfl)
theorem mw_90 : Cond.fieldLink RX0 11 "HoopStairs$History" "states" "[LHoopStairs$State;" ∈ Wall := Wi_Wr3 _ (List.mem_of_getElem? (i := 14) rfl)
theorem mw_91 : Cond.fieldLink RX0 16 "HoopStairs$History" "next" "I" ∈ Wall := Wi_Wr3 _ (List.mem_of_getElem? (i := 15) rfl)
theorem mw_92 : Cond.fieldLink RX0 20 "HoopStairs$History" "length" "I" ∈ Wall := Wi_Wr3 _ (List.mem_of_getElem? (i := 16) rfl)
theorem mw_93 : Cond.methodLink RX0 15 yX6_init ∈ Wall := Wi_Wr3 _ (List.mem_of_getElem? (i := 17) rfl)
theorem mw_94 : Cond.methodLink RX7 33 yX2_init ∈ Wall := Wi_Wr3 _ (List.mem_of_getElem? (i := 18) rfl)
theorem mw_95 : Cond.instanceMethod yX2_init ∈ Wall := Wi_Wr3 _ (List.mem_of_getElem? (i := 19) rfl)
theorem mw_96 : Cond.code yX2_init cX2_init 1 none ∈ Wall := Wi_Wr3 _ (List.mem_of_getElem? (i := 20) rfl)
theorem mw_97 : Cond.methodLink RX2 3 objectInit ∈ Wall := Wi_Wr3 _ (List.mem_of_getElem? (i := 21) rfl)
theorem mw_98 : Cond.fieldLink RX2 11 "HoopStairs$Pad" "codes" "[I" ∈ Wall := Wi_Wr3 _ (List.mem_of_getElem? (i := 22) rfl)
theorem mw_99 : Cond.fieldLink RX2 15 "HoopStairs$Pad" "length" "I" ∈ Wall := Wi_Wr3 _ (List.mem_of_getElem? (i := 23) rfl)
theorem mw_100 : Cond.fieldLink RX2 19 "HoopStairs$Pad" "at" "I" ∈ Wall := Wi_Wr4 _ (List.mem_of_getElem? (i := 0) rfl)
theorem mw_101 : Cond.methodLink RX7 40 yX1_init ∈ Wall := Wi_Wr4 _ (List.mem_of_getElem? (i := 1) rfl)
theorem mw_712 : Cond.methodLink RL 89 yL_areParts ∈ Wall := Wi_Wr4 _ (List.mem_of_getElem? (i := 2) rfl)
theorem mw_713 : Cond.static yL_areParts ∈ Wall := Wi_Wr4 _ (List.mem_of_getElem? (i := 3) rfl)
theorem mw_714 : Cond.initialized RL ∈ Wall := Wi_Wr4 _ (List.mem_of_getElem? (i := 4) rfl)
theorem mw_715 : Cond.code yL_areParts cL_areParts 9 (some .boolean) ∈ Wall := Wi_Wr4 _ (List.mem_of_getElem? (i := 5) rfl)
theorem mw_716 : Cond.methodLink RL 8 yX7_count ∈ Wall := Wi_Wr4 _ (List.mem_of_getElem? (i := 6) rfl)
theorem mw_480 : Cond.instanceMethod yX7_count ∈ Wall := Wi_Wr4 _ (List.mem_of_getElem? (i := 7) rfl)
theorem mw_481 : Cond.selects RX7 yX7_count yX7_count ∈ Wall := Wi_Wr4 _ (List.mem_of_getElem? (i := 8) rfl)
theorem mw_482 : Cond.code yX7_count cX7_count 2 (some .int) ∈ Wall := Wi_Wr4 _ (List.mem_of_getElem? (i := 9) rfl)
theorem mw_483 : Cond.methodLink RX7 135 yX4_value ∈ Wall := Wi_Wr4 _ (List.mem_of_getElem? (i := 10) rfl)
theorem mw_170 : Cond.instanceMethod yX4_value ∈ Wall := Wi_Wr4 _ (List.mem_of_getElem? (i := 11) rfl)
theorem mw_171 : Cond.selects RX4 yX4_value yX4_value ∈ Wall := Wi_Wr4 _ (List.mem_of_getElem? (i := 12) rfl)
theorem mw_172 : Cond.code yX4_value cX4_value 2 (some .int) ∈ Wall := Wi_Wr4 _ (List.mem_of_getElem? (i := 13) rfl)
theorem mw_484 : Cond.methodLink RX7 138 yX6_number ∈ Wall := Wi_Wr4 _ (List.mem_of_getElem? (i := 14) rfl)
theorem mw_485 : Cond.instanceMethod yX6_number ∈ Wall := Wi_Wr4 _ (List.mem_of_getElem? (i := 15) rfl)
theorem mw_486 : Cond.selects RX6 yX6_number yX6_number ∈ Wall := Wi_Wr4 _ (List.mem_of_getElem? (i := 16) rfl)
theorem mw_487 : Cond.code yX6_number cX6_number 2 (some .int) ∈ Wall := Wi_Wr4 _ (List.mem_of_getElem? (i := 17) rfl)
theorem mw_488 : Cond.methodLink RX6 129 yX5_narrowestGate ∈ Wall := Wi_Wr4 _ (List.mem_of_getElem? (i := 18) rfl)
theorem mw_489 : Cond.instanceMethod yX5_narrowestGate ∈ Wall := Wi_Wr4 _ (List.mem_of_getElem? (i := 19) rfl)
theorem mw_490 : Cond.selects RX5 yX5_narrowestGate yX5_narrowestGate ∈ Wall := Wi_Wr4 _ (List.mem_of_getElem? (i := 20) rfl)
theorem mw_491 : Cond.code yX5_narrowestGate cX5_narrowestGate 4 (some .int) ∈ Wall := Wi_Wr4 _ (List.mem_of_getElem? (i := 21) rfl)
theorem mw_492 : Cond.methodLink RX5 30 yX5_entry ∈ Wall := Wi_Wr4 _ (List.mem_of_getElem? (i := 22) rfl)
theorem mw_298 : Cond.instanceMethod yX5_entry ∈ Wall := Wi_Wr4 _ (List.mem_of_getElem? (i := 23) rfl)
theorem mw_299 : Cond.selects RX5 yX5_entry yX5_entry ∈ Wall := Wi_Wr5 _ (List.mem_of_getElem? (i := 0) rfl)
theorem mw_300 : Cond.code yX5_entry cX5_entry 3 (some .int) ∈ Wall := Wi_Wr5 _ (List.mem_of_getElem? (i := 1) rfl)
theorem mw_243 : Cond.methodLink RX5 24 yX5_has ∈ Wall := Wi_Wr5 _ (List.mem_of_getElem? (i := 2) rfl)
theorem mw_232 : Cond.instanceMethod yX5_has ∈ Wall := Wi_Wr5 _ (List.mem_of_getElem? (i := 3) rfl)
theorem mw_233 : Cond.selects RX5 yX5_has yX5_has ∈ Wall := Wi_Wr5 _ (List.mem_of_getElem? (i := 4) rfl)
theorem mw_234 : Cond.code yX5_has cX5_has 2 (some .boolean) ∈ Wall := Wi_Wr5 _ (List.mem_of_getElem? (i := 5) rfl)
theorem mw_493 : Cond.methodLink RX6 133 yX5_sumOf ∈ Wall := Wi_Wr5 _ (List.mem_of_getElem? (i := 6) rfl)
theorem mw_494 : Cond.instanceMethod yX5_sumOf ∈ Wall := Wi_Wr5 _ (List.mem_of_getElem? (i := 7) rfl)
theorem mw_495 : Cond.selects RX5 yX5_sumOf yX5_sumOf ∈ Wall := Wi_Wr5 _ (List.mem_of_getElem? (i := 8) rfl)
theorem mw_496 : Cond.code yX5_sumOf cX5_sumOf 4 (some .int) ∈ Wall := Wi_Wr5 _ (List.mem_of_getElem? (i := 9) rfl)
theorem mw_717 : Cond.methodLink RL 14 yX7_of ∈ Wall := Wi_Wr5 _ (List.mem_of_getElem? (i := 10) rfl)
theorem mw_443 : Cond.instanceMethod yX7_of ∈ Wall := Wi_Wr5 _ (List.mem_of_getElem? (i := 11) rfl)
theorem mw_444 : Cond.selects RX7 yX7_of yX7_of ∈ Wall := Wi_Wr5 _ (List.mem_of_getElem? (i := 12) rfl)
theorem mw_445 : Cond.code yX7_of cX7_of 3 (some .int) ∈ Wall := Wi_Wr5 _ (List.mem_of_getElem? (i := 13) rfl)
theorem mw_231 : Cond.methodLink RX7 74 yX5_has ∈ Wall := Wi_Wr5 _ (List.mem_of_getElem? (i := 14) rfl)
theorem mw_446 : Cond.methodLink RX7 108 yX5_entry ∈ Wall := Wi_Wr5 _ (List.mem_of_getElem? (i := 15) rfl)
theorem mw_718 : Cond.methodLink RL 18 yX7_run ∈ Wall := Wi_Wr5 _ (List.mem_of_getElem? (i := 16) rfl)
theorem mw_463 : Cond.instanceMethod yX7_run ∈ Wall := Wi_Wr5 _ (List.mem_of_getElem? (i := 17) rfl)
theorem mw_464 : Cond.selects RX7 yX7_run yX7_run ∈ Wall := Wi_Wr5 _ (List.mem_of_getElem? (i := 18) rfl)
theorem mw_465 : Cond.code yX7_run cX7_run 3 (some .int) ∈ Wall := Wi_Wr5 _ (List.mem_of_getElem? (i := 19) rfl)
theorem mw_466 : Cond.methodLink RX7 126 yX3_has ∈ Wall := Wi_Wr5 _ (List.mem_of_getElem? (i := 20) rfl)
theorem mw_467 : Cond.instanceMethod yX3_has ∈ Wall := Wi_Wr5 _ (List.mem_of_getElem? (i := 21) rfl)
theorem mw_468 : Cond.selects RX3 yX3_has yX3_has ∈ Wall := Wi_Wr5 _ (List.mem_of_getElem? (i := 22) rfl)
theorem mw_469 : Cond.code yX3_has cX3_has 2 (some .boolean) ∈ Wall := Wi_Wr5 _ (List.mem_of_getElem? (i := 23) rfl)
theorem mw_470 : Cond.methodLink RX7 129 yX3_entry ∈ Wall := Wi_Wr6 _ (List.mem_of_getElem? (i := 0) rfl)
theorem mw_471 : Cond.instanceMethod yX3_entry ∈ Wall := Wi_Wr6 _ (List.mem_of_getElem? (i := 1) rfl)
theorem mw_472 : Cond.selects RX3 yX3_entry yX3_entry ∈ Wall := Wi_Wr6 _ (List.mem_of_getElem? (i := 2) rfl)
theorem mw_473 : Cond.code yX3_entry cX3_entry 3 (some .int) ∈ Wall := Wi_Wr6 _ (List.mem_of_getElem? (i := 3) rfl)
theorem mw_474 : Cond.methodLink RX3 24 yX3_has ∈ Wall := Wi_Wr6 _ (List.mem_of_getElem? (i := 4) rfl)
theorem mw_719 : Cond.methodLink RL 21 yX7_ofHoop ∈ Wall := Wi_Wr6 _ (List.mem_of_getElem? (i := 5) rfl)
theorem mw_452 : Cond.instanceMethod yX7_ofHoop ∈ Wall := Wi_Wr6 _ (List.mem_of_getElem? (i := 6) rfl)
theorem mw_453 : Cond.selects RX7 yX7_ofHoop yX7_ofHoop ∈ Wall := Wi_Wr6 _ (List.mem_of_getElem? (i := 7) rfl)
theorem mw_454 : Cond.code yX7_ofHoop cX7_ofHoop 2 (some .int) ∈ Wall := Wi_Wr6 _ (List.mem_of_getElem? (i := 8) rfl)
theorem mw_455 : Cond.methodLink RX7 118 yX7_aboutHoop ∈ Wall := Wi_Wr6 _ (List.mem_of_getElem? (i := 9) rfl)
theorem mw_456 : Cond.static yX7_aboutHoop ∈ Wall := Wi_Wr6 _ (List.mem_of_getElem? (i := 10) rfl)
theorem mw_457 : Cond.code yX7_aboutHoop cX7_aboutHoop 2 (some .int) ∈ Wall := Wi_Wr6 _ (List.mem_of_getElem? (i := 11) rfl)
theorem mw_720 : Cond.methodLink RL 29 yX7_roll ∈ Wall := Wi_Wr6 _ (List.mem_of_getElem? (i := 12) rfl)
theorem mw_276 : Cond.instanceMethod yX7_roll ∈ Wall := Wi_Wr6 _ (List.mem_of_getElem? (i := 13) rfl)
theorem mw_277 : Cond.selects RX7 yX7_roll yX7_roll ∈ Wall := Wi_Wr6 _ (List.mem_of_getElem? (i := 14) rfl)
theorem mw_278 : Cond.code yX7_roll cX7_roll 3 (some .int) ∈ Wall := Wi_Wr6 _ (List.mem_of_getElem? (i := 15) rfl)
theorem mw_279 : Cond.methodLink RX7 89 yX6_rollError ∈ Wall := Wi_Wr6 _ (List.mem_of_getElem? (i := 16) rfl)
theorem mw_280 : Cond.instanceMethod yX6_rollError ∈ Wall := Wi_Wr6 _ (List.mem_of_getElem? (i := 17) rfl)
theorem mw_281 : Cond.selects RX6 yX6_rollError yX6_rollError ∈ Wall := Wi_Wr6 _ (List.mem_of_getElem? (i := 18) rfl)
theorem mw_282 : Cond.code yX6_rollError cX6_rollError 2 (some .int) ∈ Wall := Wi_Wr6 _ (List.mem_of_getElem? (i := 19) rfl)
theorem mw_283 : Cond.methodLink RX6 90 yX1_rolls ∈ Wall := Wi_Wr6 _ (List.mem_of_getElem? (i := 20) rfl)
theorem mw_284 : Cond.instanceMethod yX1_rolls ∈ Wall := Wi_Wr6 _ (List.mem_of_getElem? (i := 21) rfl)
theorem mw_285 : Cond.selects RX1 yX1_rolls yX1_rolls ∈ Wall := Wi_Wr6 _ (List.mem_of_getElem? (i := 22) rfl)
theorem mw_286 : Cond.code yX1_rolls cX1_rolls 1 (some .boolean) ∈ Wall := Wi_Wr6 _ (List.mem_of_getElem? (i := 23) rfl)
theorem mw_156 : Cond.fieldLink RX1 31 "HoopStairs$Hoop" "ending" "I" ∈ Wall := Wi_Wr7 _ (List.mem_of_getElem? (i := 0) rfl)
theorem mw_121 : Cond.methodLink RX7 55 yX0_record ∈ Wall := Wi_Wr7 _ (List.mem_of_getElem? (i := 1) rfl)
theorem mw_122 : Cond.instanceMethod yX0_record ∈ Wall := Wi_Wr7 _ (List.mem_of_getElem? (i := 2) rfl)
theorem mw_123 : Cond.selects RX0 yX0_record yX0_record ∈ Wall := Wi_Wr7 _ (List.mem_of_getElem? (i := 3) rfl)
theorem mw_124 : Cond.code yX0_record cX0_record 2 none ∈ Wall := Wi_Wr7 _ (List.mem_of_getElem? (i := 4) rfl)
theorem mw_704 : Cond.methodLink RX0 31 Lib.Math.min.name ∈ Wall := Wi_Wr7 _ (List.mem_of_getElem? (i := 5) rfl)
theorem mw_126 : Cond.static Lib.Math.min.name ∈ Wall := Wi_Wr7 _ (List.mem_of_getElem? (i := 6) rfl)
theorem mw_127 : Cond.initialized "java/lang/Math" ∈ Wall := Wi_Wr7 _ (List.mem_of_getElem? (i := 7) rfl)
theorem mw_128 : Cond.code Lib.Math.min.name Lib.Math.min.code 2 (some .int) ∈ Wall := Wi_Wr7 _ (List.mem_of_getElem? (i := 8) rfl)
theorem mw_705 : Cond.methodLink RX0 23 yX0_has ∈ Wall := Wi_Wr7 _ (List.mem_of_getElem? (i := 9) rfl)
theorem mw_706 : Cond.static yX0_has ∈ Wall := Wi_Wr7 _ (List.mem_of_getElem? (i := 10) rfl)
theorem mw_707 : Cond.code yX0_has cX0_has 1 (some .boolean) ∈ Wall := Wi_Wr7 _ (List.mem_of_getElem? (i := 11) rfl)
theorem mw_708 : Cond.methodLink RX0 27 yX6_copyFrom ∈ Wall := Wi_Wr7 _ (List.mem_of_getElem? (i := 12) rfl)
theorem mw_130 : Cond.instanceMethod yX6_copyFrom ∈ Wall := Wi_Wr7 _ (List.mem_of_getElem? (i := 13) rfl)
theorem mw_131 : Cond.selects RX6 yX6_copyFrom yX6_copyFrom ∈ Wall := Wi_Wr7 _ (List.mem_of_getElem? (i := 14) rfl)
theorem mw_132 : Cond.code yX6_copyFrom cX6_copyFrom 2 none ∈ Wall := Wi_Wr7 _ (List.mem_of_getElem? (i := 15) rfl)
theorem mw_133 : Cond.methodLink RX6 63 arraycopyName ∈ Wall := Wi_Wr7 _ (List.mem_of_getElem? (i := 16) rfl)
theorem mw_134 : Cond.native arraycopyName ∈ Wall := Wi_Wr7 _ (List.mem_of_getElem? (i := 17) rfl)
theorem mw_135 : Cond.static arraycopyName ∈ Wall := Wi_Wr7 _ (List.mem_of_getElem? (i := 18) rfl)
theorem mw_136 : Cond.initialized "java/lang/System" ∈ Wall := Wi_Wr7 _ (List.mem_of_getElem? (i := 19) rfl)
theorem mw_137 : Cond.methodLink RX6 50 yX4_copyFrom ∈ Wall := Wi_Wr7 _ (List.mem_of_getElem? (i := 20) rfl)
theorem mw_138 : Cond.instanceMethod yX4_copyFrom ∈ Wall := Wi_Wr7 _ (List.mem_of_getElem? (i := 21) rfl)
theorem mw_139 : Cond.selects RX4 yX4_copyFrom yX4_copyFrom ∈ Wall := Wi_Wr7 _ (List.mem_of_getElem? (i := 22) rfl)
theorem mw_140 : Cond.code yX4_copyFrom cX4_copyFrom 2 none ∈ Wall := Wi_Wr7 _ (List.mem_of_getElem? (i := 23) rfl)
theorem mw_141 : Cond.methodLink RX4 21 arraycopyName ∈ Wall := Wi_Wr8 _ (List.mem_of_getElem? (i := 0) rfl)
theorem mw_142 : Cond.methodLink RX6 54 yX5_copyFrom ∈ Wall := Wi_Wr8 _ (List.mem_of_getElem? (i := 1) rfl)
theorem mw_143 : Cond.instanceMethod yX5_copyFrom ∈ Wall := Wi_Wr8 _ (List.mem_of_getElem? (i := 2) rfl)
theorem mw_144 : Cond.selects RX5 yX5_copyFrom yX5_copyFrom ∈ Wall := Wi_Wr8 _ (List.mem_of_getElem? (i := 3) rfl)
theorem mw_145 : Cond.code yX5_copyFrom cX5_copyFrom 3 none ∈ Wall := Wi_Wr8 _ (List.mem_of_getElem? (i := 4) rfl)
theorem mw_146 : Cond.methodLink RX5 18 arraycopyName ∈ Wall := Wi_Wr8 _ (List.mem_of_getElem? (i := 5) rfl)
theorem mw_147 : Cond.methodLink RX6 57 yX1_copyFrom ∈ Wall := Wi_Wr8 _ (List.mem_of_getElem? (i := 6) rfl)
theorem mw_148 : Cond.instanceMethod yX1_copyFrom ∈ Wall := Wi_Wr8 _ (List.mem_of_getElem? (i := 7) rfl)
theorem mw_149 : Cond.selects RX1 yX1_copyFrom yX1_copyFrom ∈ Wall := Wi_Wr8 _ (List.mem_of_getElem? (i := 8) rfl)
theorem mw_150 : Cond.code yX1_copyFrom cX1_copyFrom 2 none ∈ Wall := Wi_Wr8 _ (List.mem_of_getElem? (i := 9) rfl)
theorem mw_151 : Cond.fieldLink RX1 15 "HoopStairs$Hoop" "size" "I" ∈ Wall := Wi_Wr8 _ (List.mem_of_getElem? (i := 10) rfl)
theorem mw_152 : Cond.fieldLink RX1 19 "HoopStairs$Hoop" "speed" "I" ∈ Wall := Wi_Wr8 _ (List.mem_of_getElem? (i := 11) rfl)
theorem mw_153 : Cond.fieldLink RX1 22 "HoopStairs$Hoop" "lean" "I" ∈ Wall := Wi_Wr8 _ (List.mem_of_getElem? (i := 12) rfl)
theorem mw_154 : Cond.fieldLink RX1 25 "HoopStairs$Hoop" "wobble" "I" ∈ Wall := Wi_Wr8 _ (List.mem_of_getElem? (i := 13) rfl)
theorem mw_155 : Cond.fieldLink RX1 28 "HoopStairs$Hoop" "place" "I" ∈ Wall := Wi_Wr8 _ (List.mem_of_getElem? (i := 14) rfl)
theorem mw_157 : Cond.fieldLink RX1 34 "HoopStairs$Hoop" "taps" "I" ∈ Wall := Wi_Wr8 _ (List.mem_of_getElem? (i := 15) rfl)
theorem mw_158 : Cond.fieldLink RX1 37 "HoopStairs$Hoop" "pushes" "I" ∈ Wall := Wi_Wr8 _ (List.mem_of_getElem? (i := 16) rfl)
theorem mw_159 : Cond.fieldLink RX1 40 "HoopStairs$Hoop" "greatestLean" "I" ∈ Wall := Wi_Wr8 _ (List.mem_of_getElem? (i := 17) rfl)
theorem mw_160 : Cond.methodLink RX6 60 yX3_copyFrom ∈ Wall := Wi_Wr8 _ (List.mem_of_getElem? (i := 18) rfl)
theorem mw_161 : Cond.instanceMethod yX3_copyFrom ∈ Wall := Wi_Wr8 _ (List.mem_of_getElem? (i := 19) rfl)
theorem mw_162 : Cond.selects RX3 yX3_copyFrom yX3_copyFrom ∈ Wall := Wi_Wr8 _ (List.mem_of_getElem? (i := 20) rfl)
theorem mw_163 : Cond.code yX3_copyFrom cX3_copyFrom 3 none ∈ Wall := Wi_Wr8 _ (List.mem_of_getElem? (i := 21) rfl)
theorem mw_164 : Cond.methodLink RX3 18 arraycopyName ∈ Wall := Wi_Wr8 _ (List.mem_of_getElem? (i := 22) rfl)
theorem mw_287 : Cond.methodLink RX7 92 yX6_rollOver ∈ Wall := Wi_Wr8 _ (List.mem_of_getElem? (i := 23) rfl)
theorem mw_288 : Cond.instanceMethod yX6_rollOver ∈ Wall := Wi_Wr9 _ (List.mem_of_getElem? (i := 0) rfl)
theorem mw_289 : Cond.selects RX6 yX6_rollOver yX6_rollOver ∈ Wall := Wi_Wr9 _ (List.mem_of_getElem? (i := 1) rfl)
theorem mw_290 : Cond.code yX6_rollOver cX6_rollOver 2 (some .int) ∈ Wall := Wi_Wr9 _ (List.mem_of_getElem? (i := 2) rfl)
theorem mw_291 : Cond.methodLink RX6 94 yX1_rollOver ∈ Wall := Wi_Wr9 _ (List.mem_of_getElem? (i := 3) rfl)
theorem mw_292 : Cond.instanceMethod yX1_rollOver ∈ Wall := Wi_Wr9 _ (List.mem_of_getElem? (i := 4) rfl)
theorem mw_293 : Cond.selects RX1 yX1_rollOver yX1_rollOver ∈ Wall := Wi_Wr9 _ (List.mem_of_getElem? (i := 5) rfl)
theorem mw_294 : Cond.code yX1_rollOver cX1_rollOver 5 none ∈ Wall := Wi_Wr9 _ (List.mem_of_getElem? (i := 6) rfl)
theorem mw_295 : Cond.methodLink RX1 50 yX1_rolls ∈ Wall := Wi_Wr9 _ (List.mem_of_getElem? (i := 7) rfl)
theorem mw_296 : Cond.methodLink RX1 54 yX5_has ∈ Wall := Wi_Wr9 _ (List.mem_of_getElem? (i := 8) rfl)
theorem mw_297 : Cond.methodLink RX1 60 yX5_entry ∈ Wall := Wi_Wr9 _ (List.mem_of_getElem? (i := 9) rfl)
theorem mw_301 : Cond.methodLink RX1 64 yX1_meet ∈ Wall := Wi_Wr9 _ (List.mem_of_getElem? (i := 10) rfl)
theorem mw_302 : Cond.instanceMethod yX1_meet ∈ Wall := Wi_Wr9 _ (List.mem_of_getElem? (i := 11) rfl)
theorem mw_303 : Cond.selects RX1 yX1_meet yX1_meet ∈ Wall := Wi_Wr9 _ (List.mem_of_getElem? (i := 12) rfl)
theorem mw_304 : Cond.code yX1_meet cX1_meet 4 none ∈ Wall := Wi_Wr9 _ (List.mem_of_getElem? (i := 13) rfl)
theorem mw_305 : Cond.methodLink RX1 68 yX4_value ∈ Wall := Wi_Wr9 _ (List.mem_of_getElem? (i := 14) rfl)
theorem mw_306 : Cond.methodLink RX1 78 yX1_dropBy ∈ Wall := Wi_Wr9 _ (List.mem_of_getElem? (i := 15) rfl)
theorem mw_307 : Cond.instanceMethod yX1_dropBy ∈ Wall := Wi_Wr9 _ (List.mem_of_getElem? (i := 16) rfl)
theorem mw_308 : Cond.selects RX1 yX1_dropBy yX1_dropBy ∈ Wall := Wi_Wr9 _ (List.mem_of_getElem? (i := 17) rfl)
theorem mw_309 : Cond.code yX1_dropBy cX1_dropBy 3 none ∈ Wall := Wi_Wr9 _ (List.mem_of_getElem? (i := 18) rfl)
theorem mw_310 : Cond.methodLink RX1 47 yX1_speedUpBy ∈ Wall := Wi_Wr9 _ (List.mem_of_getElem? (i := 19) rfl)
theorem mw_311 : Cond.instanceMethod yX1_speedUpBy ∈ Wall := Wi_Wr9 _ (List.mem_of_getElem? (i := 20) rfl)
theorem mw_312 : Cond.selects RX1 yX1_speedUpBy yX1_speedUpBy ∈ Wall := Wi_Wr9 _ (List.mem_of_getElem? (i := 21) rfl)
theorem mw_313 : Cond.code yX1_speedUpBy cX1_speedUpBy 2 none ∈ Wall := Wi_Wr9 _ (List.mem_of_getElem? (i := 22) rfl)
theorem mw_314 : Cond.methodLink RX1 96 Lib.Math.min.name ∈ Wall := Wi_Wr9 _ (List.mem_of_getElem? (i := 23) rfl)
theorem mw_315 : Cond.methodLink RX1 43 yX1_shakeBy ∈ Wall := Wi_Wr10 _ (List.mem_of_getElem? (i := 0) rfl)
theorem mw_316 : Cond.instanceMethod yX1_shakeBy ∈ Wall := Wi_Wr10 _ (List.mem_of_getElem? (i := 1) rfl)
theorem mw_317 : Cond.selects RX1 yX1_shakeBy yX1_shakeBy ∈ Wall := Wi_Wr10 _ (List.mem_of_getElem? (i := 2) rfl)
theorem mw_318 : Cond.code yX1_shakeBy cX1_shakeBy 2 none ∈ Wall := Wi_Wr10 _ (List.mem_of_getElem? (i := 3) rfl)
theorem mw_319 : Cond.methodLink RX1 82 yX1_rollAlong ∈ Wall := Wi_Wr10 _ (List.mem_of_getElem? (i := 4) rfl)
theorem mw_320 : Cond.instanceMethod yX1_rollAlong ∈ Wall := Wi_Wr10 _ (List.mem_of_getElem? (i := 5) rfl)
theorem mw_321 : Cond.selects RX1 yX1_rollAlong yX1_rollAlong ∈ Wall := Wi_Wr10 _ (List.mem_of_getElem? (i := 6) rfl)
theorem mw_322 : Cond.code yX1_rollAlong cX1_rollAlong 4 none ∈ Wall := Wi_Wr10 _ (List.mem_of_getElem? (i := 7) rfl)
theorem mw_323 : Cond.methodLink RX1 90 Lib.Math.max.name ∈ Wall := Wi_Wr10 _ (List.mem_of_getElem? (i := 8) rfl)
theorem mw_324 : Cond.static Lib.Math.max.name ∈ Wall := Wi_Wr10 _ (List.mem_of_getElem? (i := 9) rfl)
theorem mw_325 : Cond.code Lib.Math.max.name Lib.Math.max.code 2 (some .int) ∈ Wall := Wi_Wr10 _ (List.mem_of_getElem? (i := 10) rfl)
theorem mw_326 : Cond.methodLink RX1 93 yX1_rightItselfBy ∈ Wall := Wi_Wr10 _ (List.mem_of_getElem? (i := 11) rfl)
theorem mw_327 : Cond.instanceMethod yX1_rightItselfBy ∈ Wall := Wi_Wr10 _ (List.mem_of_getElem? (i := 12) rfl)
theorem mw_328 : Cond.selects RX1 yX1_rightItselfBy yX1_rightItselfBy ∈ Wall := Wi_Wr10 _ (List.mem_of_getElem? (i := 13) rfl)
theorem mw_329 : Cond.code yX1_rightItselfBy cX1_rightItselfBy 2 none ∈ Wall := Wi_Wr10 _ (List.mem_of_getElem? (i := 14) rfl)
theorem mw_330 : Cond.methodLink RX1 74 yX1_goBehind ∈ Wall := Wi_Wr10 _ (List.mem_of_getElem? (i := 15) rfl)
theorem mw_331 : Cond.instanceMethod yX1_goBehind ∈ Wall := Wi_Wr10 _ (List.mem_of_getElem? (i := 16) rfl)
theorem mw_332 : Cond.selects RX1 yX1_goBehind yX1_goBehind ∈ Wall := Wi_Wr10 _ (List.mem_of_getElem? (i := 17) rfl)
theorem mw_333 : Cond.code yX1_goBehind cX1_goBehind 4 none ∈ Wall := Wi_Wr10 _ (List.mem_of_getElem? (i := 18) rfl)
theorem mw_334 : Cond.methodLink RX1 85 Lib.Math.abs.name ∈ Wall := Wi_Wr10 _ (List.mem_of_getElem? (i := 19) rfl)
theorem mw_335 : Cond.static Lib.Math.abs.name ∈ Wall := Wi_Wr10 _ (List.mem_of_getElem? (i := 20) rfl)
theorem mw_336 : Cond.code Lib.Math.abs.name Lib.Math.abs.code 1 (some .int) ∈ Wall := Wi_Wr10 _ (List.mem_of_getElem? (i := 21) rfl)
theorem mw_337 : Cond.methodLink RX6 98 yX6_noteEnd ∈ Wall := Wi_Wr10 _ (List.mem_of_getElem? (i := 22) rfl)
theorem mw_338 : Cond.instanceMethod yX6_noteEnd ∈ Wall := Wi_Wr10 _ (List.mem_of_getElem? (i := 23) rfl)
theorem mw_339 : Cond.selects RX6 yX6_noteEnd yX6_noteEnd ∈ Wall := Wi_Wr11 _ (List.mem_of_getElem? (i := 0) rfl)
theorem mw_340 : Cond.code yX6_noteEnd cX6_noteEnd 1 none ∈ Wall := Wi_Wr11 _ (List.mem_of_getElem? (i := 1) rfl)
theorem mw_341 : Cond.methodLink RX6 107 yX5_noteEnd ∈ Wall := Wi_Wr11 _ (List.mem_of_getElem? (i := 2) rfl)
theorem mw_342 : Cond.instanceMethod yX5_noteEnd ∈ Wall := Wi_Wr11 _ (List.mem_of_getElem? (i := 3) rfl)
theorem mw_343 : Cond.selects RX5 yX5_noteEnd yX5_noteEnd ∈ Wall := Wi_Wr11 _ (List.mem_of_getElem? (i := 4) rfl)
theorem mw_344 : Cond.code yX5_noteEnd cX5_noteEnd 3 none ∈ Wall := Wi_Wr11 _ (List.mem_of_getElem? (i := 5) rfl)
theorem mw_345 : Cond.methodLink RX6 110 yX3_add ∈ Wall := Wi_Wr11 _ (List.mem_of_getElem? (i := 6) rfl)
theorem mw_346 : Cond.instanceMethod yX3_add ∈ Wall := Wi_Wr11 _ (List.mem_of_getElem? (i := 7) rfl)
theorem mw_347 : Cond.selects RX3 yX3_add yX3_add ∈ Wall := Wi_Wr11 _ (List.mem_of_getElem? (i := 8) rfl)
theorem mw_348 : Cond.code yX3_add cX3_add 3 none ∈ Wall := Wi_Wr11 _ (List.mem_of_getElem? (i := 9) rfl)
theorem mw_349 : Cond.methodLink RX3 42 Lib.Math.min.name ∈ Wall := Wi_Wr11 _ (List.mem_of_getElem? (i := 10) rfl)
theorem mw_721 : Cond.methodLink RL 48 yX7_tap ∈ Wall := Wi_Wr11 _ (List.mem_of_getElem? (i := 11) rfl)
theorem mw_394 : Cond.instanceMethod yX7_tap ∈ Wall := Wi_Wr11 _ (List.mem_of_getElem? (i := 12) rfl)
theorem mw_395 : Cond.selects RX7 yX7_tap yX7_tap ∈ Wall := Wi_Wr11 _ (List.mem_of_getElem? (i := 13) rfl)
theorem mw_396 : Cond.code yX7_tap cX7_tap 3 (some .int) ∈ Wall := Wi_Wr11 _ (List.mem_of_getElem? (i := 14) rfl)
theorem mw_397 : Cond.methodLink RX7 95 yX6_tapError ∈ Wall := Wi_Wr11 _ (List.mem_of_getElem? (i := 15) rfl)
theorem mw_398 : Cond.instanceMethod yX6_tapError ∈ Wall := Wi_Wr11 _ (List.mem_of_getElem? (i := 16) rfl)
theorem mw_399 : Cond.selects RX6 yX6_tapError yX6_tapError ∈ Wall := Wi_Wr11 _ (List.mem_of_getElem? (i := 17) rfl)
theorem mw_400 : Cond.code yX6_tapError cX6_tapError 2 (some .int) ∈ Wall := Wi_Wr11 _ (List.mem_of_getElem? (i := 18) rfl)
theorem mw_401 : Cond.methodLink RX7 98 yX6_tapFrom ∈ Wall := Wi_Wr11 _ (List.mem_of_getElem? (i := 19) rfl)
theorem mw_402 : Cond.instanceMethod yX6_tapFrom ∈ Wall := Wi_Wr11 _ (List.mem_of_getElem? (i := 20) rfl)
theorem mw_403 : Cond.selects RX6 yX6_tapFrom yX6_tapFrom ∈ Wall := Wi_Wr11 _ (List.mem_of_getElem? (i := 21) rfl)
theorem mw_404 : Cond.code yX6_tapFrom cX6_tapFrom 2 (some .int) ∈ Wall := Wi_Wr11 _ (List.mem_of_getElem? (i := 22) rfl)
theorem mw_405 : Cond.methodLink RX6 113 yX4_value ∈ Wall := Wi_Wr11 _ (List.mem_of_getElem? (i := 23) rfl)
theorem mw_406 : Cond.methodLink RX6 117 yX1_takeTap ∈ Wall := Wi_Wr12 _ (List.mem_of_getElem? (i := 0) rfl)
theorem mw_407 : Cond.instanceMethod yX1_takeTap ∈ Wall := Wi_Wr12 _ (List.mem_of_getElem? (i := 1) rfl)
theorem mw_408 : Cond.selects RX1 yX1_takeTap yX1_takeTap ∈ Wall := Wi_Wr12 _ (List.mem_of_getElem? (i := 2) rfl)
theorem mw_409 : Cond.code yX1_takeTap cX1_takeTap 3 none ∈ Wall := Wi_Wr12 _ (List.mem_of_getElem? (i := 3) rfl)
theorem mw_722 : Cond.methodLink RL 93 yX7_undo ∈ Wall := Wi_Wr12 _ (List.mem_of_getElem? (i := 4) rfl)
theorem mw_676 : Cond.instanceMethod yX7_undo ∈ Wall := Wi_Wr12 _ (List.mem_of_getElem? (i := 5) rfl)
theorem mw_677 : Cond.selects RX7 yX7_undo yX7_undo ∈ Wall := Wi_Wr12 _ (List.mem_of_getElem? (i := 6) rfl)
theorem mw_678 : Cond.code yX7_undo cX7_undo 1 (some .int) ∈ Wall := Wi_Wr12 _ (List.mem_of_getElem? (i := 7) rfl)
theorem mw_679 : Cond.methodLink RX7 225 yX0_stepBack ∈ Wall := Wi_Wr12 _ (List.mem_of_getElem? (i := 8) rfl)
theorem mw_680 : Cond.instanceMethod yX0_stepBack ∈ Wall := Wi_Wr12 _ (List.mem_of_getElem? (i := 9) rfl)
theorem mw_681 : Cond.selects RX0 yX0_stepBack yX0_stepBack ∈ Wall := Wi_Wr12 _ (List.mem_of_getElem? (i := 10) rfl)
theorem mw_709 : Cond.code yX0_stepBack cX0_stepBack 3 (some .int) ∈ Wall := Wi_Wr12 _ (List.mem_of_getElem? (i := 11) rfl)
theorem mw_723 : Cond.methodLink RL 96 yL_cell ∈ Wall := Wi_Wr12 _ (List.mem_of_getElem? (i := 12) rfl)
theorem mw_724 : Cond.static yL_cell ∈ Wall := Wi_Wr12 _ (List.mem_of_getElem? (i := 13) rfl)
theorem mw_725 : Cond.code yL_cell cL_cell 2 (some .int) ∈ Wall := Wi_Wr12 _ (List.mem_of_getElem? (i := 14) rfl)
theorem mw_726 : Cond.methodLink RL 100 yL_does ∈ Wall := Wi_Wr12 _ (List.mem_of_getElem? (i := 15) rfl)
theorem mw_727 : Cond.static yL_does ∈ Wall := Wi_Wr12 _ (List.mem_of_getElem? (i := 16) rfl)
theorem mw_728 : Cond.code yL_does cL_does 20 (some .boolean) ∈ Wall := Wi_Wr12 _ (List.mem_of_getElem? (i := 17) rfl)
theorem mw_729 : Cond.methodLink RL 62 yL_low ∈ Wall := Wi_Wr12 _ (List.mem_of_getElem? (i := 18) rfl)
theorem mw_730 : Cond.static yL_low ∈ Wall := Wi_Wr12 _ (List.mem_of_getElem? (i := 19) rfl)
theorem mw_731 : Cond.code yL_low cL_low 2 (some .int) ∈ Wall := Wi_Wr12 _ (List.mem_of_getElem? (i := 20) rfl)
theorem mw_732 : Cond.constant RL 7 (2147483647) ∈ Wall := Wi_Wr12 _ (List.mem_of_getElem? (i := 21) rfl)
theorem mw_733 : Cond.methodLink RL 65 yX7_part ∈ Wall := Wi_Wr12 _ (List.mem_of_getElem? (i := 22) rfl)
theorem mw_190 : Cond.instanceMethod yX7_part ∈ Wall := Wi_Wr12 _ (List.mem_of_getElem? (i := 23) rfl)
theorem mw_191 : Cond.selects RX7 yX7_part yX7_part ∈ Wall := Wi_Wr13 _ (List.mem_of_getElem? (i := 0) rfl)
theorem mw_192 : Cond.code yX7_part cX7_part 5 (some .int) ∈ Wall := Wi_Wr13 _ (List.mem_of_getElem? (i := 1) rfl)
theorem mw_193 : Cond.methodLink RX7 63 yX6_partError ∈ Wall := Wi_Wr13 _ (List.mem_of_getElem? (i := 2) rfl)
theorem mw_194 : Cond.instanceMethod yX6_partError ∈ Wall := Wi_Wr13 _ (List.mem_of_getElem? (i := 3) rfl)
theorem mw_195 : Cond.selects RX6 yX6_partError yX6_partError ∈ Wall := Wi_Wr13 _ (List.mem_of_getElem? (i := 4) rfl)
theorem mw_196 : Cond.code yX6_partError cX6_partError 4 (some .int) ∈ Wall := Wi_Wr13 _ (List.mem_of_getElem? (i := 5) rfl)
theorem mw_197 : Cond.methodLink RX6 72 yX5_allows ∈ Wall := Wi_Wr13 _ (List.mem_of_getElem? (i := 6) rfl)
theorem mw_198 : Cond.static yX5_allows ∈ Wall := Wi_Wr13 _ (List.mem_of_getElem? (i := 7) rfl)
theorem mw_199 : Cond.code yX5_allows cX5_allows 2 (some .boolean) ∈ Wall := Wi_Wr13 _ (List.mem_of_getElem? (i := 8) rfl)
theorem mw_200 : Cond.methodLink RX7 67 yX6_addPart ∈ Wall := Wi_Wr13 _ (List.mem_of_getElem? (i := 9) rfl)
theorem mw_201 : Cond.instanceMethod yX6_addPart ∈ Wall := Wi_Wr13 _ (List.mem_of_getElem? (i := 10) rfl)
theorem mw_202 : Cond.selects RX6 yX6_addPart yX6_addPart ∈ Wall := Wi_Wr13 _ (List.mem_of_getElem? (i := 11) rfl)
theorem mw_203 : Cond.code yX6_addPart cX6_addPart 4 (some .int) ∈ Wall := Wi_Wr13 _ (List.mem_of_getElem? (i := 12) rfl)
theorem mw_204 : Cond.methodLink RX6 76 yX5_insert ∈ Wall := Wi_Wr13 _ (List.mem_of_getElem? (i := 13) rfl)
theorem mw_205 : Cond.instanceMethod yX5_insert ∈ Wall := Wi_Wr13 _ (List.mem_of_getElem? (i := 14) rfl)
theorem mw_206 : Cond.selects RX5 yX5_insert yX5_insert ∈ Wall := Wi_Wr13 _ (List.mem_of_getElem? (i := 15) rfl)
theorem mw_207 : Cond.code yX5_insert cX5_insert 5 none ∈ Wall := Wi_Wr13 _ (List.mem_of_getElem? (i := 16) rfl)
theorem mw_208 : Cond.methodLink RX6 80 yX1_vanish ∈ Wall := Wi_Wr13 _ (List.mem_of_getElem? (i := 17) rfl)
theorem mw_209 : Cond.instanceMethod yX1_vanish ∈ Wall := Wi_Wr13 _ (List.mem_of_getElem? (i := 18) rfl)
theorem mw_210 : Cond.selects RX1 yX1_vanish yX1_vanish ∈ Wall := Wi_Wr13 _ (List.mem_of_getElem? (i := 19) rfl)
theorem mw_211 : Cond.code yX1_vanish cX1_vanish 1 none ∈ Wall := Wi_Wr13 _ (List.mem_of_getElem? (i := 20) rfl)
theorem mw_734 : Cond.methodLink RL 68 yX7_takeAway ∈ Wall := Wi_Wr13 _ (List.mem_of_getElem? (i := 21) rfl)
theorem mw_228 : Cond.instanceMethod yX7_takeAway ∈ Wall := Wi_Wr13 _ (List.mem_of_getElem? (i := 22) rfl)
theorem mw_229 : Cond.selects RX7 yX7_takeAway yX7_takeAway ∈ Wall := Wi_Wr13 _ (List.mem_of_getElem? (i := 23) rfl)
theorem mw_230 : Cond.code yX7_takeAway cX7_takeAway 2 (some .int) ∈ Wall := Wi_Wr14 _ (List.mem_of_getElem? (i := 0) rfl)
theorem mw_235 : Cond.methodLink RX7 80 yX6_removePart ∈ Wall := Wi_Wr14 _ (List.mem_of_getElem? (i := 1) rfl)
theorem mw_236 : Cond.instanceMethod yX6_removePart ∈ Wall := Wi_Wr14 _ (List.mem_of_getElem? (i := 2) rfl)
theorem mw_237 : Cond.selects RX6 yX6_removePart yX6_removePart ∈ Wall := Wi_Wr14 _ (List.mem_of_getElem? (i := 3) rfl)
theorem mw_238 : Cond.code yX6_removePart cX6_removePart 2 (some .int) ∈ Wall := Wi_Wr14 _ (List.mem_of_getElem? (i := 4) rfl)
theorem mw_239 : Cond.methodLink RX6 83 yX5_remove ∈ Wall := Wi_Wr14 _ (List.mem_of_getElem? (i := 5) rfl)
theorem mw_240 : Cond.instanceMethod yX5_remove ∈ Wall := Wi_Wr14 _ (List.mem_of_getElem? (i := 6) rfl)
theorem mw_241 : Cond.selects RX5 yX5_remove yX5_remove ∈ Wall := Wi_Wr14 _ (List.mem_of_getElem? (i := 7) rfl)
theorem mw_242 : Cond.code yX5_remove cX5_remove 3 none ∈ Wall := Wi_Wr14 _ (List.mem_of_getElem? (i := 8) rfl)
theorem mw_735 : Cond.methodLink RL 55 yX7_hoop ∈ Wall := Wi_Wr14 _ (List.mem_of_getElem? (i := 9) rfl)
theorem mw_253 : Cond.instanceMethod yX7_hoop ∈ Wall := Wi_Wr14 _ (List.mem_of_getElem? (i := 10) rfl)
theorem mw_254 : Cond.selects RX7 yX7_hoop yX7_hoop ∈ Wall := Wi_Wr14 _ (List.mem_of_getElem? (i := 11) rfl)
theorem mw_255 : Cond.code yX7_hoop cX7_hoop 2 (some .int) ∈ Wall := Wi_Wr14 _ (List.mem_of_getElem? (i := 12) rfl)
theorem mw_256 : Cond.methodLink RX7 84 yX1_allows ∈ Wall := Wi_Wr14 _ (List.mem_of_getElem? (i := 13) rfl)
theorem mw_257 : Cond.static yX1_allows ∈ Wall := Wi_Wr14 _ (List.mem_of_getElem? (i := 14) rfl)
theorem mw_258 : Cond.code yX1_allows cX1_allows 1 (some .boolean) ∈ Wall := Wi_Wr14 _ (List.mem_of_getElem? (i := 15) rfl)
theorem mw_259 : Cond.methodLink RX7 86 yX6_beginRun ∈ Wall := Wi_Wr14 _ (List.mem_of_getElem? (i := 16) rfl)
theorem mw_260 : Cond.instanceMethod yX6_beginRun ∈ Wall := Wi_Wr14 _ (List.mem_of_getElem? (i := 17) rfl)
theorem mw_261 : Cond.selects RX6 yX6_beginRun yX6_beginRun ∈ Wall := Wi_Wr14 _ (List.mem_of_getElem? (i := 18) rfl)
theorem mw_262 : Cond.code yX6_beginRun cX6_beginRun 2 (some .int) ∈ Wall := Wi_Wr14 _ (List.mem_of_getElem? (i := 19) rfl)
theorem mw_263 : Cond.methodLink RX6 87 yX1_begin ∈ Wall := Wi_Wr14 _ (List.mem_of_getElem? (i := 20) rfl)
theorem mw_264 : Cond.instanceMethod yX1_begin ∈ Wall := Wi_Wr14 _ (List.mem_of_getElem? (i := 21) rfl)
theorem mw_265 : Cond.selects RX1 yX1_begin yX1_begin ∈ Wall := Wi_Wr14 _ (List.mem_of_getElem? (i := 22) rfl)
theorem mw_266 : Cond.code yX1_begin cX1_begin 2 none ∈ Wall := Wi_Wr14 _ (List.mem_of_getElem? (i := 23) rfl)
theorem mw_736 : Cond.methodLink RL 71 yX7_push ∈ Wall := Wi_Wr15 _ (List.mem_of_getElem? (i := 0) rfl)
theorem mw_419 : Cond.instanceMethod yX7_push ∈ Wall := Wi_Wr15 _ (List.mem_of_getElem? (i := 1) rfl)
theorem mw_420 : Cond.selects RX7 yX7_push yX7_push ∈ Wall := Wi_Wr15 _ (List.mem_of_getElem? (i := 2) rfl)
theorem mw_421 : Cond.code yX7_push cX7_push 2 (some .int) ∈ Wall := Wi_Wr15 _ (List.mem_of_getElem? (i := 3) rfl)
theorem mw_422 : Cond.methodLink RX7 101 yX6_pushError ∈ Wall := Wi_Wr15 _ (List.mem_of_getElem? (i := 4) rfl)
theorem mw_423 : Cond.instanceMethod yX6_pushError ∈ Wall := Wi_Wr15 _ (List.mem_of_getElem? (i := 5) rfl)
theorem mw_424 : Cond.selects RX6 yX6_pushError yX6_pushError ∈ Wall := Wi_Wr15 _ (List.mem_of_getElem? (i := 6) rfl)
theorem mw_425 : Cond.code yX6_pushError cX6_pushError 1 (some .int) ∈ Wall := Wi_Wr15 _ (List.mem_of_getElem? (i := 7) rfl)
theorem mw_426 : Cond.methodLink RX7 105 yX6_pushOn ∈ Wall := Wi_Wr15 _ (List.mem_of_getElem? (i := 8) rfl)
theorem mw_427 : Cond.instanceMethod yX6_pushOn ∈ Wall := Wi_Wr15 _ (List.mem_of_getElem? (i := 9) rfl)
theorem mw_428 : Cond.selects RX6 yX6_pushOn yX6_pushOn ∈ Wall := Wi_Wr15 _ (List.mem_of_getElem? (i := 10) rfl)
theorem mw_429 : Cond.code yX6_pushOn cX6_pushOn 1 (some .int) ∈ Wall := Wi_Wr15 _ (List.mem_of_getElem? (i := 11) rfl)
theorem mw_430 : Cond.methodLink RX6 123 yX1_takePush ∈ Wall := Wi_Wr15 _ (List.mem_of_getElem? (i := 12) rfl)
theorem mw_431 : Cond.instanceMethod yX1_takePush ∈ Wall := Wi_Wr15 _ (List.mem_of_getElem? (i := 13) rfl)
theorem mw_432 : Cond.selects RX1 yX1_takePush yX1_takePush ∈ Wall := Wi_Wr15 _ (List.mem_of_getElem? (i := 14) rfl)
theorem mw_433 : Cond.code yX1_takePush cX1_takePush 1 none ∈ Wall := Wi_Wr15 _ (List.mem_of_getElem? (i := 15) rfl)
theorem mw_737 : Cond.methodLink RL 74 yX7_set ∈ Wall := Wi_Wr15 _ (List.mem_of_getElem? (i := 16) rfl)
theorem mw_112 : Cond.instanceMethod yX7_set ∈ Wall := Wi_Wr15 _ (List.mem_of_getElem? (i := 17) rfl)
theorem mw_113 : Cond.selects RX7 yX7_set yX7_set ∈ Wall := Wi_Wr15 _ (List.mem_of_getElem? (i := 18) rfl)
theorem mw_114 : Cond.code yX7_set cX7_set 3 (some .int) ∈ Wall := Wi_Wr15 _ (List.mem_of_getElem? (i := 19) rfl)
theorem mw_115 : Cond.methodLink RX7 49 yX4_allows ∈ Wall := Wi_Wr15 _ (List.mem_of_getElem? (i := 20) rfl)
theorem mw_116 : Cond.instanceMethod yX4_allows ∈ Wall := Wi_Wr15 _ (List.mem_of_getElem? (i := 21) rfl)
theorem mw_117 : Cond.selects RX4 yX4_allows yX4_allows ∈ Wall := Wi_Wr15 _ (List.mem_of_getElem? (i := 22) rfl)
theorem mw_118 : Cond.code yX4_allows cX4_allows 3 (some .boolean) ∈ Wall := Wi_Wr15 _ (List.mem_of_getElem? (i := 23) rfl)
theorem mw_119 : Cond.fieldLink RX4 27 "HoopStairs$Settings" "LEAST" "[I" ∈ Wall := Wi_Wr16 _ (List.mem_of_getElem? (i := 0) rfl)
theorem mw_120 : Cond.fieldLink RX4 30 "HoopStairs$Settings" "GREATEST" "[I" ∈ Wall := Wi_Wr16 _ (List.mem_of_getElem? (i := 1) rfl)
theorem mw_165 : Cond.methodLink RX7 59 yX4_change ∈ Wall := Wi_Wr16 _ (List.mem_of_getElem? (i := 2) rfl)
theorem mw_166 : Cond.instanceMethod yX4_change ∈ Wall := Wi_Wr16 _ (List.mem_of_getElem? (i := 3) rfl)
theorem mw_167 : Cond.selects RX4 yX4_change yX4_change ∈ Wall := Wi_Wr16 _ (List.mem_of_getElem? (i := 4) rfl)
theorem mw_168 : Cond.code yX4_change cX4_change 4 (some .int) ∈ Wall := Wi_Wr16 _ (List.mem_of_getElem? (i := 5) rfl)
theorem mw_169 : Cond.methodLink RX4 33 yX4_value ∈ Wall := Wi_Wr16 _ (List.mem_of_getElem? (i := 6) rfl)
theorem mw_173 : Cond.methodLink RX4 37 yX4_allows ∈ Wall := Wi_Wr16 _ (List.mem_of_getElem? (i := 7) rfl)
theorem mw_738 : Cond.methodLink RL 77 yL_isSaved ∈ Wall := Wi_Wr16 _ (List.mem_of_getElem? (i := 8) rfl)
theorem mw_739 : Cond.static yL_isSaved ∈ Wall := Wi_Wr16 _ (List.mem_of_getElem? (i := 9) rfl)
theorem mw_740 : Cond.code yL_isSaved cL_isSaved 9 (some .boolean) ∈ Wall := Wi_Wr16 _ (List.mem_of_getElem? (i := 10) rfl)
theorem mw_741 : Cond.methodLink RL 45 yX7_saves ∈ Wall := Wi_Wr16 _ (List.mem_of_getElem? (i := 11) rfl)
theorem mw_531 : Cond.instanceMethod yX7_saves ∈ Wall := Wi_Wr16 _ (List.mem_of_getElem? (i := 12) rfl)
theorem mw_532 : Cond.selects RX7 yX7_saves yX7_saves ∈ Wall := Wi_Wr16 _ (List.mem_of_getElem? (i := 13) rfl)
theorem mw_533 : Cond.code yX7_saves cX7_saves 4 (some .int) ∈ Wall := Wi_Wr16 _ (List.mem_of_getElem? (i := 14) rfl)
theorem mw_534 : Cond.methodLink RX7 183 yX7_passesAfterTaps ∈ Wall := Wi_Wr16 _ (List.mem_of_getElem? (i := 15) rfl)
theorem mw_535 : Cond.instanceMethod yX7_passesAfterTaps ∈ Wall := Wi_Wr16 _ (List.mem_of_getElem? (i := 16) rfl)
theorem mw_536 : Cond.selects RX7 yX7_passesAfterTaps yX7_passesAfterTaps ∈ Wall := Wi_Wr16 _ (List.mem_of_getElem? (i := 17) rfl)
theorem mw_537 : Cond.code yX7_passesAfterTaps cX7_passesAfterTaps 4 (some .boolean) ∈ Wall := Wi_Wr16 _ (List.mem_of_getElem? (i := 18) rfl)
theorem mw_511 : Cond.methodLink RX7 169 yX1_copyFrom ∈ Wall := Wi_Wr16 _ (List.mem_of_getElem? (i := 19) rfl)
theorem mw_538 : Cond.methodLink RX7 186 yX1_takeTap ∈ Wall := Wi_Wr16 _ (List.mem_of_getElem? (i := 20) rfl)
theorem mw_512 : Cond.methodLink RX7 176 yX1_rollOver ∈ Wall := Wi_Wr16 _ (List.mem_of_getElem? (i := 21) rfl)
theorem mw_742 : Cond.methodLink RL 35 yX7_save ∈ Wall := Wi_Wr16 _ (List.mem_of_getElem? (i := 22) rfl)
theorem mw_688 : Cond.instanceMethod yX7_save ∈ Wall := Wi_Wr16 _ (List.mem_of_getElem? (i := 23) rfl)
theorem mw_689 : Cond.selects RX7 yX7_save yX7_save ∈ Wall := Wi_Wr17 _ (List.mem_of_getElem? (i := 0) rfl)
theorem mw_690 : Cond.code yX7_save cX7_save 2 (some .int) ∈ Wall := Wi_Wr17 _ (List.mem_of_getElem? (i := 1) rfl)
theorem mw_691 : Cond.methodLink RX7 229 yX6_copyFrom ∈ Wall := Wi_Wr17 _ (List.mem_of_getElem? (i := 2) rfl)
theorem mw_743 : Cond.methodLink RL 32 yX7_ifRolled ∈ Wall := Wi_Wr17 _ (List.mem_of_getElem? (i := 3) rfl)
theorem mw_507 : Cond.instanceMethod yX7_ifRolled ∈ Wall := Wi_Wr17 _ (List.mem_of_getElem? (i := 4) rfl)
theorem mw_508 : Cond.selects RX7 yX7_ifRolled yX7_ifRolled ∈ Wall := Wi_Wr17 _ (List.mem_of_getElem? (i := 5) rfl)
theorem mw_509 : Cond.code yX7_ifRolled cX7_ifRolled 2 (some .int) ∈ Wall := Wi_Wr17 _ (List.mem_of_getElem? (i := 6) rfl)
theorem mw_510 : Cond.methodLink RX7 165 yX1_rolls ∈ Wall := Wi_Wr17 _ (List.mem_of_getElem? (i := 7) rfl)
theorem mw_744 : Cond.methodLink RL 42 yX7_restore ∈ Wall := Wi_Wr17 _ (List.mem_of_getElem? (i := 8) rfl)
theorem mw_697 : Cond.instanceMethod yX7_restore ∈ Wall := Wi_Wr17 _ (List.mem_of_getElem? (i := 9) rfl)
theorem mw_698 : Cond.selects RX7 yX7_restore yX7_restore ∈ Wall := Wi_Wr17 _ (List.mem_of_getElem? (i := 10) rfl)
theorem mw_699 : Cond.code yX7_restore cX7_restore 2 (some .int) ∈ Wall := Wi_Wr17 _ (List.mem_of_getElem? (i := 11) rfl)
theorem mw_745 : Cond.methodLink RL 81 yL_isWidest ∈ Wall := Wi_Wr17 _ (List.mem_of_getElem? (i := 12) rfl)
theorem mw_746 : Cond.static yL_isWidest ∈ Wall := Wi_Wr17 _ (List.mem_of_getElem? (i := 13) rfl)
theorem mw_747 : Cond.code yL_isWidest cL_isWidest 15 (some .boolean) ∈ Wall := Wi_Wr17 _ (List.mem_of_getElem? (i := 14) rfl)
theorem mw_748 : Cond.methodLink RL 51 yX7_widest ∈ Wall := Wi_Wr17 _ (List.mem_of_getElem? (i := 15) rfl)
theorem mw_522 : Cond.instanceMethod yX7_widest ∈ Wall := Wi_Wr17 _ (List.mem_of_getElem? (i := 16) rfl)
theorem mw_523 : Cond.selects RX7 yX7_widest yX7_widest ∈ Wall := Wi_Wr17 _ (List.mem_of_getElem? (i := 17) rfl)
theorem mw_524 : Cond.code yX7_widest cX7_widest 2 (some .int) ∈ Wall := Wi_Wr17 _ (List.mem_of_getElem? (i := 18) rfl)
theorem mw_525 : Cond.methodLink RX7 179 yX1_begin ∈ Wall := Wi_Wr17 _ (List.mem_of_getElem? (i := 19) rfl)
theorem mw_749 : Cond.methodLink RL 58 yX7_traced ∈ Wall := Wi_Wr17 _ (List.mem_of_getElem? (i := 20) rfl)
theorem mw_544 : Cond.instanceMethod yX7_traced ∈ Wall := Wi_Wr17 _ (List.mem_of_getElem? (i := 21) rfl)
theorem mw_545 : Cond.selects RX7 yX7_traced yX7_traced ∈ Wall := Wi_Wr17 _ (List.mem_of_getElem? (i := 22) rfl)
theorem mw_546 : Cond.code yX7_traced cX7_traced 4 (some .int) ∈ Wall := Wi_Wr17 _ (List.mem_of_getElem? (i := 23) rfl)
theorem mw_750 : Cond.methodLink RL 85 yL_isRolled ∈ Wall := Wi_Wr18 _ (List.mem_of_getElem? (i := 0) rfl)
theorem mw_751 : Cond.static yL_isRolled ∈ Wall := Wi_Wr18 _ (List.mem_of_getElem? (i := 1) rfl)
theorem mw_752 : Cond.code yL_isRolled cL_isRolled 13 (some .boolean) ∈ Wall := Wi_Wr18 _ (List.mem_of_getElem? (i := 2) rfl)
theorem mw_753 : Cond.methodLink RL 38 yL_isPart ∈ Wall := Wi_Wr18 _ (List.mem_of_getElem? (i := 3) rfl)
theorem mw_754 : Cond.static yL_isPart ∈ Wall := Wi_Wr18 _ (List.mem_of_getElem? (i := 4) rfl)
theorem mw_755 : Cond.code yL_isPart cL_isPart 11 (some .boolean) ∈ Wall := Wi_Wr18 _ (List.mem_of_getElem? (i := 5) rfl)
theorem mw_756 : Cond.methodLink RL 24 yL_size ∈ Wall := Wi_Wr18 _ (List.mem_of_getElem? (i := 6) rfl)
theorem mw_757 : Cond.static yL_size ∈ Wall := Wi_Wr18 _ (List.mem_of_getElem? (i := 7) rfl)
theorem mw_758 : Cond.code yL_size cL_size 1 (some .int) ∈ Wall := Wi_Wr18 _ (List.mem_of_getElem? (i := 8) rfl)
theorem MW_max_static : Cond.static Lib.Math.max.name ∈ Wall := mw_324
theorem MW_min_static : Cond.static Lib.Math.min.name ∈ Wall := mw_126
theorem MW_abs_static : Cond.static Lib.Math.abs.name ∈ Wall := mw_335
theorem MW_math_init : Cond.initialized "java/lang/Math" ∈ Wall := mw_127
theorem MW_max_code : Cond.code Lib.Math.max.name Lib.Math.max.code 2 (some .int) ∈ Wall := mw_325
theorem MW_min_code : Cond.code Lib.Math.min.name Lib.Math.min.code 2 (some .int) ∈ Wall := mw_128
theorem MW_abs_code : Cond.code Lib.Math.abs.name Lib.Math.abs.code 1 (some .int) ∈ Wall := mw_336
theorem MW_copy_native : Cond.native arraycopyName ∈ Wall := mw_134
theorem MW_copy_static : Cond.static arraycopyName ∈ Wall := mw_135
theorem MW_system_init : Cond.initialized "java/lang/System" ∈ Wall := mw_136
theorem Wg_Wr0 : (Wr0).all goodWord = true := by decide +kernel
theorem Wg_Wr1 : (Wr1).all goodWord = true := by decide +kernel
theorem Wg_Wr2 : (Wr2).all goodWord = true := by decide +kernel
theorem Wg_Wr3 : (Wr3).all goodWord = true := by decide +kernel
theorem Wg_Wr4 : (Wr4).all goodWord = true := by decide +kernel
theorem Wg_Wr5 : (Wr5).all goodWord = true := by decide +kernel
theorem Wg_Wr6 : (Wr6).all goodWord = true := by decide +kernel
theorem Wg_Wr7 : (Wr7).all goodWord = true := by decide +kernel
theorem Wg_Wr8 : (Wr8).all goodWord = true := by decide +kernel
theorem Wg_Wr9 : (Wr9).all goodWord = true := by decide +kernel
theorem Wg_Wr10 : (Wr10).all goodWord = true := by decide +kernel
theorem Wg_Wr11 : (Wr11).all goodWord = true := by decide +kernel
theorem Wg_Wr12 : (Wr12).all goodWord = true := by decide +kernel
theorem Wg_Wr13 : (Wr13).all goodWord = true := by decide +kernel
theorem Wg_Wr14 : (Wr14).all goodWord = true := by decide +kernel
theorem Wg_Wr15 : (Wr15).all goodWord = true := by decide +kernel
theorem Wg_Wr16 : (Wr16).all goodWord = true := by decide +kernel
theorem Wg_Wr17 : (Wr17).all goodWord = true := by decide +kernel
theorem Wg_Wr18 : (Wr18).all goodWord = true := by decide +kernel
theorem Wg_wsX00 : (wsX00).all goodWord = true := by decide +kernel
theorem Wg_wsX10 : (wsX10).all goodWord = true := by decide +kernel
theorem Wg_wsX20 : (wsX20).all goodWord = true := by decide +kernel
theorem Wg_wsX30 : (wsX30).all goodWord = true := by decide +kernel
theorem Wg_wsX40 : (wsX40).all goodWord = true := by decide +kernel
theorem Wg_wsX50 : (wsX50).all goodWord = true := by decide +kernel
theorem Wg_wsX60 : (wsX60).all goodWord = true := by decide +kernel
theorem Wg_wsX70 : (wsX70).all goodWord = true := by decide +kernel
theorem Wg_wsX80 : (wsX80).all goodWord = true := by decide +kernel
theorem Wall_good : ∀ w ∈ Wall, goodWord w = true := by
  intro w h
  exact (List.mem_append.mp h).elim (fun h => List.all_eq_true.mp Wg_Wr0 w h) (fun h => (List.mem_append.mp h).elim (fun h => List.all_eq_true.mp Wg_Wr1 w h) (fun h => (List.mem_append.mp h).elim (fun h => List.all_eq_true.mp Wg_Wr2 w h) (fun h => (List.mem_append.mp h).elim (fun h => List.all_eq_true.mp Wg_Wr3 w h) (fun h => (List.mem_append.mp h).elim (fun h => List.all_eq_true.mp Wg_Wr4 w h) (fun h => (List.mem_append.mp h).elim (fun h => List.all_eq_true.mp Wg_Wr5 w h) (fun h => (List.mem_append.mp h).elim (fun h => List.all_eq_true.mp Wg_Wr6 w h) (fun h => (List.mem_append.mp h).elim (fun h => List.all_eq_true.mp Wg_Wr7 w h) (fun h => (List.mem_append.mp h).elim (fun h => List.all_eq_true.mp Wg_Wr8 w h) (fun h => (List.mem_append.mp h).elim (fun h => List.all_eq_true.mp Wg_Wr9 w h) (fun h => (List.mem_append.mp h).elim (fun h => List.all_eq_true.mp Wg_Wr10 w h) (fun h => (List.mem_append.mp h).elim (fun h => List.all_eq_true.mp Wg_Wr11 w h) (fun h => (List.mem_append.mp h).elim (fun h => List.all_eq_true.mp Wg_Wr12 w h) (fun h => (List.mem_append.mp h).elim (fun h => List.all_eq_true.mp Wg_Wr13 w h) (fun h => (List.mem_append.mp h).elim (fun h => List.all_eq_true.mp Wg_Wr14 w h) (fun h => (List.mem_append.mp h).elim (fun h => List.all_eq_true.mp Wg_Wr15 w h) (fun h => (List.mem_append.mp h).elim (fun h => List.all_eq_true.mp Wg_Wr16 w h) (fun h => (List.mem_append.mp h).elim (fun h => List.all_eq_true.mp Wg_Wr17 w h) (fun h => (List.mem_append.mp h).elim (fun h => List.all_eq_true.mp Wg_Wr18 w h) (fun h => (List.mem_append.mp h).elim (fun h => List.all_eq_true.mp Wg_wsX00 w h) (fun h => (List.mem_append.mp h).elim (fun h => List.all_eq_true.mp Wg_wsX10 w h) (fun h => (List.mem_append.mp h).elim (fun h => List.all_eq_true.mp Wg_wsX20 w h) (fun h => (List.mem_append.mp h).elim (fun h => List.all_eq_true.mp Wg_wsX30 w h) (fun h => (List.mem_append.mp h).elim (fun h => List.all_eq_true.mp Wg_wsX40 w h) (fun h => (List.mem_append.mp h).elim (fun h => List.all_eq_true.mp Wg_wsX50 w h) (fun h => (List.mem_append.mp h).elim (fun h => List.all_eq_true.mp Wg_wsX60 w h) (fun h => (List.mem_append.mp h).elim (fun h => List.all_eq_true.mp Wg_wsX70 w h) (fun h => List.all_eq_true.mp Wg_wsX80 w h)))))))))))))))))))))))))))
/-- every method's words: its own code, then all words of the claim -/
def wm (y : MethodName) (b : ByteArray) (n : Nat) (r : Option FieldType) : List Cond := .code y b n r :: Wall
theorem wm_in {y : MethodName} {b : ByteArray} {n : Nat} {r : Option FieldType} {w : Cond} (h : w ∈ Wall) : w ∈ wm y b n r := List.mem_cons_of_mem _ h
theorem wm_good {big : List Cond} (hb : ∀ w ∈ Wall, w ∈ big) {y : MethodName} {b : ByteArray} {n : Nat} {r : Option FieldType} (hc : Cond.code y b n r ∈ Wall) : GoodIn big (wm y b n r) := by
  intro w hw
  have h2 : w ∈ Wall := by
    rcases List.mem_cons.mp hw with h | h
    · rw [h]; exact hc
    · exact h
  exact ⟨hb w h2, good_of_word (Wall_good w h2)⟩
/-- a call's words out of Wall: virtual -/
theorem cwVm {big : List Cond} {R : Room} {s : State} {args : Array Value} (n : Nat) (hts : ∀ w ∈ big, w.before args s = true) (hb : ∀ w ∈ Wall, w ∈ big) {own C : String} {index maxL : Nat} {y : MethodName} {bytes : ByteArray} {ret : Option FieldType} {rm : Room} {mc ms : Nat} (hc : Cond.code y bytes maxL ret ∈ Wall) (hl : Cond.methodLink own index y ∈ Wall) (hi : Cond.instanceMethod y ∈ Wall) (hs : Cond.selects C y y ∈ Wall) (hini : Cond.initialized y.cls ∈ Wall) (hrc : rm.cells = mc) (hrs : rm.slots = ms)
    (hd : y.cls ≠ "java/lang/invoke/MethodHandle" ∧ y.cls ≠ "java/lang/invoke/VarHandle" ∧ (parseMethodDescriptor y.desc).map (fun d => d.parameters.length) = some n) (hR : rm.frames + 1 ≤ R.frames ∧ 8 + (maxL + 11) + rm.locals ≤ R.locals) :
    CallW R s args own C index y bytes maxL ret (wm y bytes maxL ret) rm mc ms n :=
  ⟨callB_of n hts (wm_good hb hc) rfl hrc hrs (hts _ (hb _ hini)) (hts _ (hb _ hl)) hd hR, hts _ (hb _ hi), hts _ (hb _ hs)⟩
theorem cwSm {big : List Cond} {R : Room} {s : State} {args : Array Value} (n : Nat) (hts : ∀ w ∈ big, w.before args s = true) (hb : ∀ w ∈ Wall, w ∈ big) {own : String} {index maxL : Nat} {y : MethodName} {bytes : ByteArray} {ret : Option FieldType} {rm : Room} {mc ms : Nat} (hc : Cond.code y bytes maxL ret ∈ Wall) (hl : Cond.methodLink own index y ∈ Wall) (hs : Cond.static y ∈ Wall) (hini : Cond.initialized y.cls ∈ Wall) (hrc : rm.cells = mc) (hrs : rm.slots = ms)
    (hd : y.cls ≠ "java/lang/invoke/MethodHandle" ∧ y.cls ≠ "java/lang/invoke/VarHandle" ∧ (parseMethodDescriptor y.desc).map (fun d => d.parameters.length) = some n) (hR : rm.frames + 1 ≤ R.frames ∧ 8 + (maxL + 11) + rm.locals ≤ R.locals) :
    CallB R s args own index y bytes maxL ret (wm y bytes maxL ret) rm mc ms n ∧ (Cond.static y).before args s = true :=
  ⟨callB_of n hts (wm_good hb hc) rfl hrc hrs (hts _ (hb _ hini)) (hts _ (hb _ hl)) hd hR, hts _ (hb _ hs)⟩
theorem cwIm {big : List Cond} {R : Room} {s : State} {args : Array Value} (n : Nat) (hts : ∀ w ∈ big, w.before args s = true) (hb : ∀ w ∈ Wall, w ∈ big) {own : String} {index maxL : Nat} {y : MethodName} {bytes : ByteArray} {rm : Room} {mc ms : Nat} (hc : Cond.code y bytes maxL none ∈ Wall) (hl : Cond.methodLink own index y ∈ Wall) (hi : Cond.instanceMethod y ∈ Wall) (hini : Cond.initialized y.cls ∈ Wall) (hy1 : y.name = "<init>") (hrc : rm.cells = mc) (hrs : rm.slots = ms)
    (hd : y.cls ≠ "java/lang/invoke/MethodHandle" ∧ y.cls ≠ "java/lang/invoke/VarHandle" ∧ (parseMethodDescriptor y.desc).map (fun d => d.parameters.length) = some n) (hR : rm.frames + 1 ≤ R.frames ∧ 8 + (maxL + 11) + rm.locals ≤ R.locals) :
    CallB R s args own index y bytes maxL none (wm y bytes maxL none) rm mc ms n ∧ y.name = "<init>" ∧ (Cond.instanceMethod y).before args s = true :=
  ⟨callB_of n hts (wm_good hb hc) rfl hrc hrs (hts _ (hb _ hini)) (hts _ (hb _ hl)) hd hR, hy1, hts _ (hb _ hi)⟩
