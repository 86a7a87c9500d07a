def RX0 : String := "Cogwright$Cutter"
def TX0 : u_T := fun k => match k with
  | 0 => ("Cogwright$Cutter", "module", "I", true)
  | 1 => ("Cogwright$Cutter", "least", "I", true)
  | _ => ("Cogwright$Cutter", "most", "I", true)
def tyX0 : Nat → FieldType := fun k => match k with
  | 0 => .int
  | 1 => .int
  | _ => .int
abbrev wsX00 : List Cond := u_ws RX0 TX0 3
theorem nmX0 : ∀ a, a < 3 → ∀ b, b < 3 → a ≠ b → (TX0 a).2.1 ≠ (TX0 b).2.1 := by decide +kernel
theorem tyX0_ok : ∀ k, k < 3 → parseFieldDescriptor (TX0 k).2.2.1 = some (tyX0 k) := by decide +kernel
abbrev cX0_init : ByteArray := prog_2_method_1_code
def yX0_init : MethodName := ⟨RX0, "<init>", "(III)V"⟩
abbrev cX0_cuts : ByteArray := prog_2_method_2_code
def yX0_cuts : MethodName := ⟨RX0, "cuts", "(II)Z"⟩
def RX1 : String := "Cogwright$Fraction"
def TX1 : u_T := fun k => match k with
  | 0 => ("Cogwright$Fraction", "above", "J", false)
  | _ => ("Cogwright$Fraction", "below", "J", false)
def tyX1 : Nat → FieldType := fun k => match k with
  | 0 => .long
  | _ => .long
abbrev wsX10 : List Cond := u_ws RX1 TX1 2
theorem nmX1 : ∀ a, a < 2 → ∀ b, b < 2 → a ≠ b → (TX1 a).2.1 ≠ (TX1 b).2.1 := by decide +kernel
theorem tyX1_ok : ∀ k, k < 2 → parseFieldDescriptor (TX1 k).2.2.1 = some (tyX1 k) := by decide +kernel
abbrev cX1_init : ByteArray := prog_3_method_1_code
def yX1_init : MethodName := ⟨RX1, "<init>", "(J)V"⟩
abbrev cX1_multiply : ByteArray := prog_3_method_2_code
def yX1_multiply : MethodName := ⟨RX1, "multiply", "(JJ)V"⟩
abbrev cX1_roundedDown : ByteArray := prog_3_method_3_code
def yX1_roundedDown : MethodName := ⟨RX1, "roundedDown", "()I"⟩
def RX2 : String := "Cogwright$Job"
def TX2 : u_T := fun k => match k with
  | 0 => ("Cogwright$Job", "order", "LCogwright$Order;", true)
  | 1 => ("Cogwright$Job", "teeth", "I", true)
  | _ => ("Cogwright$Job", "cutter", "I", true)
def tyX2 : Nat → FieldType := fun k => match k with
  | 0 => .object "Cogwright$Order"
  | 1 => .int
  | _ => .int
abbrev wsX20 : List Cond := u_ws RX2 TX2 3
theorem nmX2 : ∀ a, a < 3 → ∀ b, b < 3 → a ≠ b → (TX2 a).2.1 ≠ (TX2 b).2.1 := by decide +kernel
theorem tyX2_ok : ∀ k, k < 3 → parseFieldDescriptor (TX2 k).2.2.1 = some (tyX2 k) := by decide +kernel
abbrev cX2_init : ByteArray := prog_4_method_1_code
def yX2_init : MethodName := ⟨RX2, "<init>", "(LCogwright$Order;II)V"⟩
def RX3 : String := "Cogwright$Machine"
def TX3 : u_T := fun k => match k with
  | 0 => ("Cogwright$Machine", "cutter", "I", false)
  | 1 => ("Cogwright$Machine", "job", "LCogwright$Job;", false)
  | _ => ("Cogwright$Machine", "left", "I", false)
def tyX3 : Nat → FieldType := fun k => match k with
  | 0 => .int
  | 1 => .object "Cogwright$Job"
  | _ => .int
abbrev wsX30 : List Cond := u_ws RX3 TX3 3
theorem nmX3 : ∀ a, a < 3 → ∀ b, b < 3 → a ≠ b → (TX3 a).2.1 ≠ (TX3 b).2.1 := by decide +kernel
theorem tyX3_ok : ∀ k, k < 3 → parseFieldDescriptor (TX3 k).2.2.1 = some (tyX3 k) := by decide +kernel
abbrev cX3_init : ByteArray := prog_5_method_1_code
def yX3_init : MethodName := ⟨RX3, "<init>", "()V"⟩
abbrev cX3_begin : ByteArray := prog_5_method_2_code
def yX3_begin : MethodName := ⟨RX3, "begin", "(LCogwright$Job;I)V"⟩
abbrev cX3_work : ByteArray := prog_5_method_3_code
def yX3_work : MethodName := ⟨RX3, "work", "()LCogwright$Order;"⟩
def RX4 : String := "Cogwright$Mesh"
def TX4 : u_T := fun k => match k with
  | 0 => ("Cogwright$Mesh", "gears", "LCogwright$Stage;", true)
  | _ => ("Cogwright$Mesh", "worn", "I", false)
def tyX4 : Nat → FieldType := fun k => match k with
  | 0 => .object "Cogwright$Stage"
  | _ => .int
abbrev wsX40 : List Cond := u_ws RX4 TX4 2
theorem nmX4 : ∀ a, a < 2 → ∀ b, b < 2 → a ≠ b → (TX4 a).2.1 ≠ (TX4 b).2.1 := by decide +kernel
theorem tyX4_ok : ∀ k, k < 2 → parseFieldDescriptor (TX4 k).2.2.1 = some (tyX4 k) := by decide +kernel
abbrev cX4_init : ByteArray := prog_6_method_1_code
def yX4_init : MethodName := ⟨RX4, "<init>", "(LCogwright$Stage;)V"⟩
def RX5 : String := "Cogwright$Order"
def TX5 : u_T := fun k => match k with
  | 0 => ("Cogwright$Order", "train", "LCogwright$Train;", true)
  | 1 => ("Cogwright$Order", "meshes", "Ljava/util/ArrayList;", true)
  | 2 => ("Cogwright$Order", "uncut", "I", false)
  | 3 => ("Cogwright$Order", "endedAt", "I", false)
  | _ => ("Cogwright$Order", "broken", "Z", false)
def tyX5 : Nat → FieldType := fun k => match k with
  | 0 => .object "Cogwright$Train"
  | 1 => .object "java/util/ArrayList"
  | 2 => .int
  | 3 => .int
  | _ => .boolean
abbrev wsX50 : List Cond := u_ws RX5 TX5 5
theorem nmX5 : ∀ a, a < 5 → ∀ b, b < 5 → a ≠ b → (TX5 a).2.1 ≠ (TX5 b).2.1 := by decide +kernel
theorem tyX5_ok : ∀ k, k < 5 → parseFieldDescriptor (TX5 k).2.2.1 = some (tyX5 k) := by decide +kernel
abbrev cX5_init : ByteArray := prog_7_method_1_code
def yX5_init : MethodName := ⟨RX5, "<init>", "(LCogwright$Train;)V"⟩
abbrev cX5_countCutGear : ByteArray := prog_7_method_2_code
def yX5_countCutGear : MethodName := ⟨RX5, "countCutGear", "(I)V"⟩
abbrev cX5_wearDown : ByteArray := prog_7_method_3_code
def yX5_wearDown : MethodName := ⟨RX5, "wearDown", "(I)V"⟩
def RX6 : String := "Cogwright$Stage"
def TX6 : u_T := fun k => match k with
  | 0 => ("Cogwright$Stage", "module", "I", true)
  | 1 => ("Cogwright$Stage", "driver", "I", true)
  | _ => ("Cogwright$Stage", "driven", "I", true)
def tyX6 : Nat → FieldType := fun k => match k with
  | 0 => .int
  | 1 => .int
  | _ => .int
abbrev wsX60 : List Cond := u_ws RX6 TX6 3
theorem nmX6 : ∀ a, a < 3 → ∀ b, b < 3 → a ≠ b → (TX6 a).2.1 ≠ (TX6 b).2.1 := by decide +kernel
theorem tyX6_ok : ∀ k, k < 3 → parseFieldDescriptor (TX6 k).2.2.1 = some (tyX6 k) := by decide +kernel
abbrev cX6_init : ByteArray := prog_8_method_1_code
def yX6_init : MethodName := ⟨RX6, "<init>", "(III)V"⟩
abbrev cX6_wearOf : ByteArray := prog_8_method_2_code
def yX6_wearOf : MethodName := ⟨RX6, "wearOf", "(I)I"⟩
abbrev cX6_mostWear : ByteArray := prog_8_method_3_code
def yX6_mostWear : MethodName := ⟨RX6, "mostWear", "()I"⟩
def RX7 : String := "Cogwright$Train"
def TX7 : u_T := fun k => match k with
  | 0 => ("Cogwright$Train", "stages", "Ljava/util/ArrayList;", true)
  | 1 => ("Cogwright$Train", "ratio", "LCogwright$Fraction;", true)
  | _ => ("Cogwright$Train", "claimed", "I", false)
def tyX7 : Nat → FieldType := fun k => match k with
  | 0 => .object "java/util/ArrayList"
  | 1 => .object "Cogwright$Fraction"
  | _ => .int
abbrev wsX70 : List Cond := u_ws RX7 TX7 3
theorem nmX7 : ∀ a, a < 3 → ∀ b, b < 3 → a ≠ b → (TX7 a).2.1 ≠ (TX7 b).2.1 := by decide +kernel
theorem tyX7_ok : ∀ k, k < 3 → parseFieldDescriptor (TX7 k).2.2.1 = some (tyX7 k) := by decide +kernel
abbrev cX7_init : ByteArray := prog_9_method_1_code
def yX7_init : MethodName := ⟨RX7, "<init>", "()V"⟩
abbrev cX7_append : ByteArray := prog_9_method_2_code
def yX7_append : MethodName := ⟨RX7, "append", "(LCogwright$Stage;)V"⟩
abbrev cX7_distance : ByteArray := prog_9_method_3_code
def yX7_distance : MethodName := ⟨RX7, "distance", "()I"⟩
def RX8 : String := "Cogwright"
def TX8 : u_T := fun k => match k with
  | 0 => ("Cogwright", "cutters", "Ljava/util/ArrayList;", true)
  | 1 => ("Cogwright", "trains", "Ljava/util/ArrayList;", true)
  | 2 => ("Cogwright", "orders", "Ljava/util/ArrayList;", true)
  | 3 => ("Cogwright", "machines", "Ljava/util/ArrayList;", true)
  | 4 => ("Cogwright", "waitingRow", "Ljava/util/ArrayList;", true)
  | 5 => ("Cogwright", "draft", "LCogwright$Train;", false)
  | _ => ("Cogwright", "now", "I", false)
def tyX8 : Nat → FieldType := fun k => match k with
  | 0 => .object "java/util/ArrayList"
  | 1 => .object "java/util/ArrayList"
  | 2 => .object "java/util/ArrayList"
  | 3 => .object "java/util/ArrayList"
  | 4 => .object "java/util/ArrayList"
  | 5 => .object "Cogwright$Train"
  | _ => .int
abbrev wsX80 : List Cond := u_ws RX8 TX8 7
theorem nmX8 : ∀ a, a < 7 → ∀ b, b < 7 → a ≠ b → (TX8 a).2.1 ≠ (TX8 b).2.1 := by decide +kernel
theorem tyX8_ok : ∀ k, k < 7 → parseFieldDescriptor (TX8 k).2.2.1 = some (tyX8 k) := by decide +kernel
abbrev cX8_init : ByteArray := prog_1_method_1_code
def yX8_init : MethodName := ⟨RX8, "<init>", "()V"⟩
abbrev cX8_addCutter : ByteArray := prog_1_method_2_code
def yX8_addCutter : MethodName := ⟨RX8, "addCutter", "(III)I"⟩
abbrev cX8_cutterFor : ByteArray := prog_1_method_3_code
def yX8_cutterFor : MethodName := ⟨RX8, "cutterFor", "(II)I"⟩
abbrev cX8_stage : ByteArray := prog_1_method_4_code
def yX8_stage : MethodName := ⟨RX8, "stage", "(III)I"⟩
abbrev cX8_scrap : ByteArray := prog_1_method_5_code
def yX8_scrap : MethodName := ⟨RX8, "scrap", "()I"⟩
abbrev cX8_make : ByteArray := prog_1_method_6_code
def yX8_make : MethodName := ⟨RX8, "make", "(I)I"⟩
abbrev cX8_numerator : ByteArray := prog_1_method_7_code
def yX8_numerator : MethodName := ⟨RX8, "numerator", "(I)I"⟩
abbrev cX8_denominator : ByteArray := prog_1_method_8_code
def yX8_denominator : MethodName := ⟨RX8, "denominator", "(I)I"⟩
abbrev cX8_turned : ByteArray := prog_1_method_9_code
def yX8_turned : MethodName := ⟨RX8, "turned", "(II)I"⟩
abbrev cX8_turnedByWalk : ByteArray := prog_1_method_10_code
def yX8_turnedByWalk : MethodName := ⟨RX8, "turnedByWalk", "(II)I"⟩
abbrev cX8_order : ByteArray := prog_1_method_11_code
def yX8_order : MethodName := ⟨RX8, "order", "(I)I"⟩
abbrev cX8_pass : ByteArray := prog_1_method_12_code
def yX8_pass : MethodName := ⟨RX8, "pass", "(I)I"⟩
abbrev cX8_time : ByteArray := prog_1_method_13_code
def yX8_time : MethodName := ⟨RX8, "time", "()I"⟩
abbrev cX8_waiting : ByteArray := prog_1_method_14_code
def yX8_waiting : MethodName := ⟨RX8, "waiting", "()I"⟩
abbrev cX8_cutterOn : ByteArray := prog_1_method_15_code
def yX8_cutterOn : MethodName := ⟨RX8, "cutterOn", "(I)I"⟩
abbrev cX8_ticksLeft : ByteArray := prog_1_method_16_code
def yX8_ticksLeft : MethodName := ⟨RX8, "ticksLeft", "(I)I"⟩
abbrev cX8_gearsLeft : ByteArray := prog_1_method_17_code
def yX8_gearsLeft : MethodName := ⟨RX8, "gearsLeft", "(I)I"⟩
abbrev cX8_doneAt : ByteArray := prog_1_method_18_code
def yX8_doneAt : MethodName := ⟨RX8, "doneAt", "(I)I"⟩
abbrev cX8_test : ByteArray := prog_1_method_19_code
def yX8_test : MethodName := ⟨RX8, "test", "(III)Z"⟩
abbrev cX8_wear : ByteArray := prog_1_method_20_code
def yX8_wear : MethodName := ⟨RX8, "wear", "(II)I"⟩
abbrev cX8_claims : ByteArray := prog_1_method_21_code
def yX8_claims : MethodName := ⟨RX8, "claims", "(I)I"⟩
abbrev cX8_isOutside : ByteArray := prog_1_method_23_code
def yX8_isOutside : MethodName := ⟨RX8, "isOutside", "(III)Z"⟩
abbrev cX8_isNoModule : ByteArray := prog_1_method_24_code
def yX8_isNoModule : MethodName := ⟨RX8, "isNoModule", "(I)Z"⟩
abbrev cX8_isNoToothCount : ByteArray := prog_1_method_25_code
def yX8_isNoToothCount : MethodName := ⟨RX8, "isNoToothCount", "(I)Z"⟩
abbrev cX8_checkTurns : ByteArray := prog_1_method_26_code
def yX8_checkTurns : MethodName := ⟨RX8, "checkTurns", "(I)V"⟩
abbrev cX8_trainAt : ByteArray := prog_1_method_27_code
def yX8_trainAt : MethodName := ⟨RX8, "trainAt", "(I)LCogwright$Train;"⟩
abbrev cX8_orderAt : ByteArray := prog_1_method_28_code
def yX8_orderAt : MethodName := ⟨RX8, "orderAt", "(I)LCogwright$Order;"⟩
abbrev cX8_machineAt : ByteArray := prog_1_method_29_code
def yX8_machineAt : MethodName := ⟨RX8, "machineAt", "(I)LCogwright$Machine;"⟩
abbrev cX8_lowestCutter : ByteArray := prog_1_method_30_code
def yX8_lowestCutter : MethodName := ⟨RX8, "lowestCutter", "(II)I"⟩
abbrev cX8_hasAllCutters : ByteArray := prog_1_method_31_code
def yX8_hasAllCutters : MethodName := ⟨RX8, "hasAllCutters", "(LCogwright$Train;)Z"⟩
abbrev cX8_queue : ByteArray := prog_1_method_32_code
def yX8_queue : MethodName := ⟨RX8, "queue", "(LCogwright$Order;II)V"⟩
abbrev cX8_giveOutJobs : ByteArray := prog_1_method_33_code
def yX8_giveOutJobs : MethodName := ⟨RX8, "giveOutJobs", "()V"⟩
abbrev cX8_giveJob : ByteArray := prog_1_method_34_code
def yX8_giveJob : MethodName := ⟨RX8, "giveJob", "(LCogwright$Machine;)V"⟩
abbrev cX8_firstWithCutterOf : ByteArray := prog_1_method_35_code
def yX8_firstWithCutterOf : MethodName := ⟨RX8, "firstWithCutterOf", "(LCogwright$Machine;)I"⟩
abbrev cX8_firstWithFreeCutter : ByteArray := prog_1_method_36_code
def yX8_firstWithFreeCutter : MethodName := ⟨RX8, "firstWithFreeCutter", "(LCogwright$Machine;)I"⟩
abbrev cX8_isOnAnother : ByteArray := prog_1_method_37_code
def yX8_isOnAnother : MethodName := ⟨RX8, "isOnAnother", "(LCogwright$Machine;I)Z"⟩
abbrev cX8_workOneTick : ByteArray := prog_1_method_38_code
def yX8_workOneTick : MethodName := ⟨RX8, "workOneTick", "()I"⟩
abbrev cX8_commonDivisor : ByteArray := prog_1_method_42_code
def yX8_commonDivisor : MethodName := ⟨RX8, "commonDivisor", "(JJ)J"⟩
def RX9 : String := "CogwrightModel"
def TX9 : u_T := fun k => match k with
  | _ => ("", "", "", false)
def tyX9 : Nat → FieldType := fun k => match k with
  | _ => .int
abbrev wsX90 : List Cond := u_ws RX9 TX9 0
theorem nmX9 : ∀ a, a < 0 → ∀ b, b < 0 → a ≠ b → (TX9 a).2.1 ≠ (TX9 b).2.1 := by decide +kernel
theorem tyX9_ok : ∀ k, k < 0 → parseFieldDescriptor (TX9 k).2.2.1 = some (tyX9 k) := by decide +kernel
def RJx145de : String := "java/io/Serializable"
def TJx145de : u_T := fun k => match k with
  | _ => ("", "", "", false)
def tyJx145de : Nat → FieldType := fun k => match k with
  | _ => .int
abbrev wsJx145de0 : List Cond := u_ws RJx145de TJx145de 0
theorem nmJx145de : ∀ a, a < 0 → ∀ b, b < 0 → a ≠ b → (TJx145de a).2.1 ≠ (TJx145de b).2.1 := by decide +kernel
theorem tyJx145de_ok : ∀ k, k < 0 → parseFieldDescriptor (TJx145de k).2.2.1 = some (tyJx145de k) := by decide +kernel
def RJx8e188 : String := "java/lang/Cloneable"
def TJx8e188 : u_T := fun k => match k with
  | _ => ("", "", "", false)
def tyJx8e188 : Nat → FieldType := fun k => match k with
  | _ => .int
abbrev wsJx8e1880 : List Cond := u_ws RJx8e188 TJx8e188 0
theorem nmJx8e188 : ∀ a, a < 0 → ∀ b, b < 0 → a ≠ b → (TJx8e188 a).2.1 ≠ (TJx8e188 b).2.1 := by decide +kernel
theorem tyJx8e188_ok : ∀ k, k < 0 → parseFieldDescriptor (TJx8e188 k).2.2.1 = some (tyJx8e188 k) := by decide +kernel
def RJxab1ab : String := "java/lang/Iterable"
def TJxab1ab : u_T := fun k => match k with
  | _ => ("", "", "", false)
def tyJxab1ab : Nat → FieldType := fun k => match k with
  | _ => .int
abbrev wsJxab1ab0 : List Cond := u_ws RJxab1ab TJxab1ab 0
theorem nmJxab1ab : ∀ a, a < 0 → ∀ b, b < 0 → a ≠ b → (TJxab1ab a).2.1 ≠ (TJxab1ab b).2.1 := by decide +kernel
theorem tyJxab1ab_ok : ∀ k, k < 0 → parseFieldDescriptor (TJxab1ab k).2.2.1 = some (tyJxab1ab k) := by decide +kernel
def RJ9 : String := "java/lang/Math"
def TJ9 : u_T := fun k => match k with
  | _ => ("", "", "", false)
def tyJ9 : Nat → FieldType := fun k => match k with
  | _ => .int
abbrev wsJ90 : List Cond := u_ws RJ9 TJ9 0
theorem nmJ9 : ∀ a, a < 0 → ∀ b, b < 0 → a ≠ b → (TJ9 a).2.1 ≠ (TJ9 b).2.1 := by decide +kernel
theorem tyJ9_ok : ∀ k, k < 0 → parseFieldDescriptor (TJ9 k).2.2.1 = some (tyJ9 k) := by decide +kernel
abbrev cJ9_max_7cf53 : ByteArray := prog_19_method_65_code
def yJ9_max_7cf53 : MethodName := ⟨RJ9, "max", "(II)I"⟩
abbrev cJ9_min_7cf53 : ByteArray := prog_19_method_69_code
def yJ9_min_7cf53 : MethodName := ⟨RJ9, "min", "(II)I"⟩
def RJ0 : String := "java/lang/String"
def TJ0 : u_T := fun k => match k with
  | _ => ("", "", "", false)
def tyJ0 : Nat → FieldType := fun k => match k with
  | _ => .int
abbrev wsJ00 : List Cond := u_ws RJ0 TJ0 0
theorem nmJ0 : ∀ a, a < 0 → ∀ b, b < 0 → a ≠ b → (TJ0 a).2.1 ≠ (TJ0 b).2.1 := by decide +kernel
theorem tyJ0_ok : ∀ k, k < 0 → parseFieldDescriptor (TJ0 k).2.2.1 = some (tyJ0 k) := by decide +kernel
def RJ10 : String := "java/lang/System"
def TJ10 : u_T := fun k => match k with
  | _ => ("", "", "", false)
def tyJ10 : Nat → FieldType := fun k => match k with
  | _ => .int
abbrev wsJ100 : List Cond := u_ws RJ10 TJ10 0
theorem nmJ10 : ∀ a, a < 0 → ∀ b, b < 0 → a ≠ b → (TJ10 a).2.1 ≠ (TJ10 b).2.1 := by decide +kernel
theorem tyJ10_ok : ∀ k, k < 0 → parseFieldDescriptor (TJ10 k).2.2.1 = some (tyJ10 k) := by decide +kernel
def RJxa1e45 : String := "java/util/AbstractCollection"
def TJxa1e45 : u_T := fun k => match k with
  | _ => ("", "", "", false)
def tyJxa1e45 : Nat → FieldType := fun k => match k with
  | _ => .int
abbrev wsJxa1e450 : List Cond := u_ws RJxa1e45 TJxa1e45 0
theorem nmJxa1e45 : ∀ a, a < 0 → ∀ b, b < 0 → a ≠ b → (TJxa1e45 a).2.1 ≠ (TJxa1e45 b).2.1 := by decide +kernel
theorem tyJxa1e45_ok : ∀ k, k < 0 → parseFieldDescriptor (TJxa1e45 k).2.2.1 = some (tyJxa1e45 k) := by decide +kernel
abbrev cJxa1e45_init_da8c8 : ByteArray := prog_24_method_1_code
def yJxa1e45_init_da8c8 : MethodName := ⟨RJxa1e45, "<init>", "()V"⟩
def RJxc12de : String := "java/util/AbstractList"
def TJxc12de : u_T := fun k => match k with
  | _ => ("", "", "", false)
def tyJxc12de : Nat → FieldType := fun k => match k with
  | _ => .int
abbrev wsJxc12de0 : List Cond := u_ws RJxc12de TJxc12de 0
theorem nmJxc12de : ∀ a, a < 0 → ∀ b, b < 0 → a ≠ b → (TJxc12de a).2.1 ≠ (TJxc12de b).2.1 := by decide +kernel
theorem tyJxc12de_ok : ∀ k, k < 0 → parseFieldDescriptor (TJxc12de k).2.2.1 = some (tyJxc12de k) := by decide +kernel
abbrev cJxc12de_init_da8c8 : ByteArray := prog_25_method_1_code
def yJxc12de_init_da8c8 : MethodName := ⟨RJxc12de, "<init>", "()V"⟩
def RJx4a65c : String := "java/util/ArrayList"
def TJx4a65c : u_T := fun k => match k with
  | 0 => ("java/util/AbstractList", "modCount", "I", false)
  | 1 => ("java/util/ArrayList", "elementData", "[Ljava/lang/Object;", false)
  | _ => ("java/util/ArrayList", "size", "I", false)
def tyJx4a65c : Nat → FieldType := fun k => match k with
  | 0 => .int
  | 1 => .array (.object "java/lang/Object")
  | _ => .int
abbrev wsJx4a65c0 : List Cond := u_ws RJx4a65c TJx4a65c 3
theorem nmJx4a65c : ∀ a, a < 3 → ∀ b, b < 3 → a ≠ b → (TJx4a65c a).2.1 ≠ (TJx4a65c b).2.1 := by decide +kernel
theorem tyJx4a65c_ok : ∀ k, k < 3 → parseFieldDescriptor (TJx4a65c k).2.2.1 = some (tyJx4a65c k) := by decide +kernel
abbrev cJx4a65c_init_da8c8 : ByteArray := prog_26_method_2_code
def yJx4a65c_init_da8c8 : MethodName := ⟨RJx4a65c, "<init>", "()V"⟩
abbrev cJx4a65c_grow_92f84 : ByteArray := prog_26_method_6_code
def yJx4a65c_grow_92f84 : MethodName := ⟨RJx4a65c, "grow", "(I)[Ljava/lang/Object;"⟩
abbrev cJx4a65c_grow_d5877 : ByteArray := prog_26_method_7_code
def yJx4a65c_grow_d5877 : MethodName := ⟨RJx4a65c, "grow", "()[Ljava/lang/Object;"⟩
abbrev cJx4a65c_size_8abf5 : ByteArray := prog_26_method_8_code
def yJx4a65c_size_8abf5 : MethodName := ⟨RJx4a65c, "size", "()I"⟩
abbrev cJx4a65c_isEmpty_aae02 : ByteArray := prog_26_method_9_code
def yJx4a65c_isEmpty_aae02 : MethodName := ⟨RJx4a65c, "isEmpty", "()Z"⟩
abbrev cJx4a65c_elementData_915e3 : ByteArray := prog_26_method_18_code
def yJx4a65c_elementData_915e3 : MethodName := ⟨RJx4a65c, "elementData", "(I)Ljava/lang/Object;"⟩
abbrev cJx4a65c_get_915e3 : ByteArray := prog_26_method_20_code
def yJx4a65c_get_915e3 : MethodName := ⟨RJx4a65c, "get", "(I)Ljava/lang/Object;"⟩
abbrev cJx4a65c_add_72be8 : ByteArray := prog_26_method_24_code
def yJx4a65c_add_72be8 : MethodName := ⟨RJx4a65c, "add", "(Ljava/lang/Object;[Ljava/lang/Object;I)V"⟩
abbrev cJx4a65c_add_9ea2d : ByteArray := prog_26_method_25_code
def yJx4a65c_add_9ea2d : MethodName := ⟨RJx4a65c, "add", "(Ljava/lang/Object;)Z"⟩
abbrev cJx4a65c_remove_915e3 : ByteArray := prog_26_method_29_code
def yJx4a65c_remove_915e3 : MethodName := ⟨RJx4a65c, "remove", "(I)Ljava/lang/Object;"⟩
abbrev cJx4a65c_fastRemove_b59b0 : ByteArray := prog_26_method_39_code
def yJx4a65c_fastRemove_b59b0 : MethodName := ⟨RJx4a65c, "fastRemove", "([Ljava/lang/Object;I)V"⟩
def RJ7 : String := "java/util/Arrays"
def TJ7 : u_T := fun k => match k with
  | _ => ("", "", "", false)
def tyJ7 : Nat → FieldType := fun k => match k with
  | _ => .int
abbrev wsJ70 : List Cond := u_ws RJ7 TJ7 0
theorem nmJ7 : ∀ a, a < 0 → ∀ b, b < 0 → a ≠ b → (TJ7 a).2.1 ≠ (TJ7 b).2.1 := by decide +kernel
theorem tyJ7_ok : ∀ k, k < 0 → parseFieldDescriptor (TJ7 k).2.2.1 = some (tyJ7 k) := by decide +kernel
abbrev cJ7_copyOf_1904c : ByteArray := prog_27_method_119_code
def yJ7_copyOf_1904c : MethodName := ⟨RJ7, "copyOf", "([Ljava/lang/Object;I)[Ljava/lang/Object;"⟩
abbrev cJ7_copyOf_6403c : ByteArray := prog_27_method_120_code
def yJ7_copyOf_6403c : MethodName := ⟨RJ7, "copyOf", "([Ljava/lang/Object;ILjava/lang/Class;)[Ljava/lang/Object;"⟩
def RJx5ef63 : String := "java/util/Collection"
def TJx5ef63 : u_T := fun k => match k with
  | _ => ("", "", "", false)
def tyJx5ef63 : Nat → FieldType := fun k => match k with
  | _ => .int
abbrev wsJx5ef630 : List Cond := u_ws RJx5ef63 TJx5ef63 0
theorem nmJx5ef63 : ∀ a, a < 0 → ∀ b, b < 0 → a ≠ b → (TJx5ef63 a).2.1 ≠ (TJx5ef63 b).2.1 := by decide +kernel
theorem tyJx5ef63_ok : ∀ k, k < 0 → parseFieldDescriptor (TJx5ef63 k).2.2.1 = some (tyJx5ef63 k) := by decide +kernel
def RJxbd725 : String := "java/util/List"
def TJxbd725 : u_T := fun k => match k with
  | _ => ("", "", "", false)
def tyJxbd725 : Nat → FieldType := fun k => match k with
  | _ => .int
abbrev wsJxbd7250 : List Cond := u_ws RJxbd725 TJxbd725 0
theorem nmJxbd725 : ∀ a, a < 0 → ∀ b, b < 0 → a ≠ b → (TJxbd725 a).2.1 ≠ (TJxbd725 b).2.1 := by decide +kernel
theorem tyJxbd725_ok : ∀ k, k < 0 → parseFieldDescriptor (TJxbd725 k).2.2.1 = some (tyJxbd725 k) := by decide +kernel
def RJ15 : String := "java/util/Objects"
def TJ15 : u_T := fun k => match k with
  | _ => ("", "", "", false)
def tyJ15 : Nat → FieldType := fun k => match k with
  | _ => .int
abbrev wsJ150 : List Cond := u_ws RJ15 TJ15 0
theorem nmJ15 : ∀ a, a < 0 → ∀ b, b < 0 → a ≠ b → (TJ15 a).2.1 ≠ (TJ15 b).2.1 := by decide +kernel
theorem tyJ15_ok : ∀ k, k < 0 → parseFieldDescriptor (TJ15 k).2.2.1 = some (tyJ15 k) := by decide +kernel
abbrev cJ15_checkIndex_7cf53 : ByteArray := prog_30_method_17_code
def yJ15_checkIndex_7cf53 : MethodName := ⟨RJ15, "checkIndex", "(II)I"⟩
def RJxf0a74 : String := "java/util/RandomAccess"
def TJxf0a74 : u_T := fun k => match k with
  | _ => ("", "", "", false)
def tyJxf0a74 : Nat → FieldType := fun k => match k with
  | _ => .int
abbrev wsJxf0a740 : List Cond := u_ws RJxf0a74 TJxf0a74 0
theorem nmJxf0a74 : ∀ a, a < 0 → ∀ b, b < 0 → a ≠ b → (TJxf0a74 a).2.1 ≠ (TJxf0a74 b).2.1 := by decide +kernel
theorem tyJxf0a74_ok : ∀ k, k < 0 → parseFieldDescriptor (TJxf0a74 k).2.2.1 = some (tyJxf0a74 k) := by decide +kernel
def RJxa66e6 : String := "java/util/SequencedCollection"
def TJxa66e6 : u_T := fun k => match k with
  | _ => ("", "", "", false)
def tyJxa66e6 : Nat → FieldType := fun k => match k with
  | _ => .int
abbrev wsJxa66e60 : List Cond := u_ws RJxa66e6 TJxa66e6 0
theorem nmJxa66e6 : ∀ a, a < 0 → ∀ b, b < 0 → a ≠ b → (TJxa66e6 a).2.1 ≠ (TJxa66e6 b).2.1 := by decide +kernel
theorem tyJxa66e6_ok : ∀ k, k < 0 → parseFieldDescriptor (TJxa66e6 k).2.2.1 = some (tyJxa66e6 k) := by decide +kernel
def RJ8 : String := "jdk/internal/util/ArraysSupport"
def TJ8 : u_T := fun k => match k with
  | _ => ("", "", "", false)
def tyJ8 : Nat → FieldType := fun k => match k with
  | _ => .int
abbrev wsJ80 : List Cond := u_ws RJ8 TJ8 0
theorem nmJ8 : ∀ a, a < 0 → ∀ b, b < 0 → a ≠ b → (TJ8 a).2.1 ≠ (TJ8 b).2.1 := by decide +kernel
theorem tyJ8_ok : ∀ k, k < 0 → parseFieldDescriptor (TJ8 k).2.2.1 = some (tyJ8 k) := by decide +kernel
abbrev cJ8_newLength_cabcc : ByteArray := prog_33_method_27_code
def yJ8_newLength_cabcc : MethodName := ⟨RJ8, "newLength", "(III)I"⟩
abbrev cJ8_hugeLength_7cf53 : ByteArray := prog_33_method_28_code
def yJ8_hugeLength_7cf53 : MethodName := ⟨RJ8, "hugeLength", "(II)I"⟩
def RJ3 : String := "jdk/internal/util/Preconditions"
def TJ3 : u_T := fun k => match k with
  | _ => ("", "", "", false)
def tyJ3 : Nat → FieldType := fun k => match k with
  | _ => .int
abbrev wsJ30 : List Cond := u_ws RJ3 TJ3 0
theorem nmJ3 : ∀ a, a < 0 → ∀ b, b < 0 → a ≠ b → (TJ3 a).2.1 ≠ (TJ3 b).2.1 := by decide +kernel
theorem tyJ3_ok : ∀ k, k < 0 → parseFieldDescriptor (TJ3 k).2.2.1 = some (tyJ3 k) := by decide +kernel
abbrev cJ3_checkIndex_8e157 : ByteArray := prog_34_method_11_code
def yJ3_checkIndex_8e157 : MethodName := ⟨RJ3, "checkIndex", "(IILjava/util/function/BiFunction;)I"⟩
def RL : String := "CogwrightLaw"
abbrev cL_cell : ByteArray := method_2_code
def yL_cell : MethodName := ⟨RL, "cell", "([II)I"⟩
abbrev cL_low : ByteArray := method_3_code
def yL_low : MethodName := ⟨RL, "low", "(II)I"⟩
abbrev cL_areJobs : ByteArray := method_4_code
def yL_areJobs : MethodName := ⟨RL, "areJobs", "(LCogwright;II)Z"⟩
abbrev cL_isTrain : ByteArray := method_5_code
def yL_isTrain : MethodName := ⟨RL, "isTrain", "(LCogwright;IIII)Z"⟩
abbrev cL_law : ByteArray := code
def yL_law : MethodName := ⟨RL, "law", "([I)Z"⟩
abbrev vwCl : List vw_C := [(RJx4a65c, TJx4a65c, 3), (RX0, TX0, 3), (RX1, TX1, 2), (RX2, TX2, 3), (RX3, TX3, 3), (RX4, TX4, 2), (RX5, TX5, 5), (RX6, TX6, 3), (RX7, TX7, 3), (RX8, TX8, 7)]
/-- the tables' words that stay good, in one list: every method's words -/
def fw_tb : List Cond := lw_tbl.filter goodWord
theorem fw_m {w : Cond} (i : Nat) (h : lw_tbl[i]? = some w) (hg : goodWord w = true) : w ∈ fw_tb := List.mem_filter.mpr ⟨List.mem_of_getElem? h, hg⟩
theorem fw_gd {w : Cond} (h : w ∈ fw_tb) : w ∈ fw_tb ∧ ((w.onTables && w.keeps) = true ∨ ∃ ty, w = .arrayClass ty) := ⟨h, good_of_word (List.mem_filter.mp h).2⟩
abbrev fw_ws (y : MethodName) (cc : ByteArray) (maxL : Nat) (ret : Option FieldType) : List Cond := Cond.code y cc maxL ret :: fw_tb
theorem fw_gw {y : MethodName} {cc : ByteArray} {maxL : Nat} {ret : Option FieldType} (h : Cond.code y cc maxL ret ∈ fw_tb) : GoodIn fw_tb (fw_ws y cc maxL ret) := fun w hw => (List.mem_cons.mp hw).elim (fun e => by rw [e]; exact fw_gd h) (fun h => fw_gd h)
def fw_md (y : MethodName) (C : String) (n : Nat) : Prop := y.cls = C ∧ y.cls ≠ "java/lang/invoke/MethodHandle" ∧ y.cls ≠ "java/lang/invoke/VarHandle" ∧ (parseMethodDescriptor y.desc).map (fun d => d.parameters.length) = some n
def fw_yV (C : String) (y : MethodName) (cc : ByteArray) (maxL : Nat) (ret : Option FieldType) (n : Nat) : Prop := Cond.instanceMethod y ∈ fw_tb ∧ Cond.selects C y y ∈ fw_tb ∧ Cond.initialized C ∈ fw_tb ∧ Cond.code y cc maxL ret ∈ fw_tb ∧ fw_md y C n
def fw_yS (C : String) (y : MethodName) (cc : ByteArray) (maxL : Nat) (ret : Option FieldType) (n : Nat) : Prop := Cond.static y ∈ fw_tb ∧ Cond.initialized C ∈ fw_tb ∧ Cond.code y cc maxL ret ∈ fw_tb ∧ fw_md y C n
def fw_yI (C : String) (y : MethodName) (cc : ByteArray) (maxL : Nat) (n : Nat) : Prop := Cond.instanceMethod y ∈ fw_tb ∧ Cond.initialized C ∈ fw_tb ∧ Cond.code y cc maxL none ∈ fw_tb ∧ y.name = "<init>" ∧ fw_md y C n
theorem fw_gV {own C : String} {idx maxL n : Nat} {y : MethodName} {cc : ByteArray} {ret : Option FieldType} (h1 : Cond.methodLink own idx y ∈ fw_tb) (h : fw_yV C y cc maxL ret n) : GoodIn fw_tb (wsV own idx C y (fw_ws y cc maxL ret)) := by
  intro w hw
  unfold wsV at hw
  rcases List.mem_append.mp hw with hw | hw
  · simp only [List.mem_cons, List.not_mem_nil, or_false] at hw
    rcases hw with rfl | rfl | rfl | rfl
    · exact fw_gd h1
    · exact fw_gd h.1
    · exact fw_gd h.2.1
    · exact fw_gd h.2.2.1
  · exact fw_gw h.2.2.2.1 w hw
theorem fw_gS {own C : String} {idx maxL n : Nat} {y : MethodName} {cc : ByteArray} {ret : Option FieldType} (h1 : Cond.methodLink own idx y ∈ fw_tb) (h : fw_yS C y cc maxL ret n) : GoodIn fw_tb (va_wsS own idx y (fw_ws y cc maxL ret)) := by
  intro w hw
  unfold va_wsS at hw
  rcases List.mem_append.mp hw with hw | hw
  · simp only [List.mem_cons, List.not_mem_nil, or_false] at hw
    rcases hw with rfl | rfl | rfl
    · exact fw_gd h1
    · exact fw_gd h.1
    · rw [h.2.2.2.1]; exact fw_gd h.2.1
  · exact fw_gw h.2.2.1 w hw
theorem wd_0 : Cond.initialized RL ∈ fw_tb := fw_m 17 (by decide +kernel) (by decide +kernel)
theorem wd_1 : Cond.initialized RX8 ∈ fw_tb := fw_m 18 (by decide +kernel) (by decide +kernel)
theorem wd_2 : Cond.initialized RJxa1e45 ∈ fw_tb := fw_m 19 (by decide +kernel) (by decide +kernel)
theorem wd_3 : Cond.initialized RJxc12de ∈ fw_tb := fw_m 20 (by decide +kernel) (by decide +kernel)
theorem wd_4 : Cond.initialized RJx4a65c ∈ fw_tb := fw_m 21 (by decide +kernel) (by decide +kernel)
theorem wd_5 : Cond.initialized RX7 ∈ fw_tb := fw_m 22 (by decide +kernel) (by decide +kernel)
theorem wd_6 : Cond.initialized RX1 ∈ fw_tb := fw_m 23 (by decide +kernel) (by decide +kernel)
theorem wd_7 : Cond.initialized RX3 ∈ fw_tb := fw_m 24 (by decide +kernel) (by decide +kernel)
theorem wd_8 : Cond.initialized RJ8 ∈ fw_tb := fw_m 25 (by decide +kernel) (by decide +kernel)
theorem wd_9 : Cond.initialized RJ9 ∈ fw_tb := fw_m 26 (by decide +kernel) (by decide +kernel)
theorem wd_10 : Cond.initialized RJ7 ∈ fw_tb := fw_m 27 (by decide +kernel) (by decide +kernel)
theorem wd_11 : Cond.initialized RJ10 ∈ fw_tb := fw_m 28 (by decide +kernel) (by decide +kernel)
theorem wd_12 : Cond.initialized "java/lang/Throwable" ∈ fw_tb := fw_m 29 (by decide +kernel) (by decide +kernel)
theorem wd_13 : Cond.initialized "java/lang/Exception" ∈ fw_tb := fw_m 30 (by decide +kernel) (by decide +kernel)
theorem wd_14 : Cond.initialized "java/lang/RuntimeException" ∈ fw_tb := fw_m 31 (by decide +kernel) (by decide +kernel)
theorem wd_15 : Cond.initialized "java/lang/IllegalArgumentException" ∈ fw_tb := fw_m 32 (by decide +kernel) (by decide +kernel)
theorem wd_16 : Cond.initialized "java/lang/IllegalStateException" ∈ fw_tb := fw_m 33 (by decide +kernel) (by decide +kernel)
theorem wd_17 : Cond.initialized RX0 ∈ fw_tb := fw_m 34 (by decide +kernel) (by decide +kernel)
theorem wd_18 : Cond.initialized RJ15 ∈ fw_tb := fw_m 35 (by decide +kernel) (by decide +kernel)
theorem wd_19 : Cond.initialized RJ3 ∈ fw_tb := fw_m 36 (by decide +kernel) (by decide +kernel)
theorem wd_20 : Cond.initialized RX6 ∈ fw_tb := fw_m 37 (by decide +kernel) (by decide +kernel)
theorem wd_21 : Cond.initialized "java/lang/IndexOutOfBoundsException" ∈ fw_tb := fw_m 38 (by decide +kernel) (by decide +kernel)
theorem wd_22 : Cond.initialized RX5 ∈ fw_tb := fw_m 39 (by decide +kernel) (by decide +kernel)
theorem wd_23 : Cond.initialized RX4 ∈ fw_tb := fw_m 40 (by decide +kernel) (by decide +kernel)
theorem wd_24 : Cond.initialized RX2 ∈ fw_tb := fw_m 41 (by decide +kernel) (by decide +kernel)
theorem wd_25 : Cond.classLink RL 9 RX8 ∈ fw_tb := fw_m 42 (by decide +kernel) (by decide +kernel)
theorem wd_26 : Cond.instantiable RX8 7 ∈ fw_tb := fw_m 43 (by decide +kernel) (by decide +kernel)
theorem wd_27 : Cond.methodLink RL 43 yX8_init ∈ fw_tb := fw_m 44 (by decide +kernel) (by decide +kernel)
theorem wd_28 : Cond.instanceMethod yX8_init ∈ fw_tb := fw_m 45 (by decide +kernel) (by decide +kernel)
theorem wd_29 : Cond.code yX8_init cX8_init 2 none ∈ fw_tb := fw_m 46 (by decide +kernel) (by decide +kernel)
theorem wd_30 : Cond.methodLink RX8 1 ⟨"java/lang/Object", "<init>", "()V"⟩ ∈ fw_tb := fw_m 47 (by decide +kernel) (by decide +kernel)
theorem wd_33 : Cond.classLink RX8 7 RJx4a65c ∈ fw_tb := fw_m 50 (by decide +kernel) (by decide +kernel)
theorem wd_34 : Cond.instantiable RJx4a65c 3 ∈ fw_tb := fw_m 51 (by decide +kernel) (by decide +kernel)
theorem wd_35 : Cond.methodLink RX8 9 yJx4a65c_init_da8c8 ∈ fw_tb := fw_m 52 (by decide +kernel) (by decide +kernel)
theorem wd_36 : Cond.instanceMethod yJx4a65c_init_da8c8 ∈ fw_tb := fw_m 53 (by decide +kernel) (by decide +kernel)
theorem wd_37 : Cond.code yJx4a65c_init_da8c8 cJx4a65c_init_da8c8 1 none ∈ fw_tb := fw_m 54 (by decide +kernel) (by decide +kernel)
theorem wd_38 : Cond.methodLink RJx4a65c 1 yJxc12de_init_da8c8 ∈ fw_tb := fw_m 55 (by decide +kernel) (by decide +kernel)
theorem wd_39 : Cond.instanceMethod yJxc12de_init_da8c8 ∈ fw_tb := fw_m 56 (by decide +kernel) (by decide +kernel)
theorem wd_40 : Cond.code yJxc12de_init_da8c8 cJxc12de_init_da8c8 1 none ∈ fw_tb := fw_m 57 (by decide +kernel) (by decide +kernel)
theorem wd_41 : Cond.methodLink RJxc12de 1 yJxa1e45_init_da8c8 ∈ fw_tb := fw_m 58 (by decide +kernel) (by decide +kernel)
theorem wd_42 : Cond.instanceMethod yJxa1e45_init_da8c8 ∈ fw_tb := fw_m 59 (by decide +kernel) (by decide +kernel)
theorem wd_43 : Cond.code yJxa1e45_init_da8c8 cJxa1e45_init_da8c8 1 none ∈ fw_tb := fw_m 60 (by decide +kernel) (by decide +kernel)
theorem wd_44 : Cond.methodLink RJxa1e45 1 ⟨"java/lang/Object", "<init>", "()V"⟩ ∈ fw_tb := fw_m 61 (by decide +kernel) (by decide +kernel)
theorem wd_45 : Cond.fieldLink RJx4a65c 39 RJx4a65c "DEFAULTCAPACITY_EMPTY_ELEMENTDATA" "[Ljava/lang/Object;" ∈ fw_tb := fw_m 62 (by decide +kernel) (by decide +kernel)
theorem wd_47 : Cond.fieldLink RJx4a65c 9 RJx4a65c "elementData" "[Ljava/lang/Object;" ∈ fw_tb := fw_m 64 (by decide +kernel) (by decide +kernel)
theorem wd_48 : Cond.fieldLink RJx4a65c 48 RJx4a65c "size" "I" ∈ fw_tb := fw_m 65 (by decide +kernel) (by decide +kernel)
theorem wd_49 : Cond.fieldLink RJxc12de 7 RJxc12de "modCount" "I" ∈ fw_tb := fw_m 66 (by decide +kernel) (by decide +kernel)
theorem wd_50 : Cond.fieldLink RJx4a65c 63 RJx4a65c "modCount" "I" ∈ fw_tb := fw_m 67 (by decide +kernel) (by decide +kernel)
theorem wd_51 : Cond.sameField RJx4a65c RJxc12de "modCount" "I" ∈ fw_tb := fw_m 68 (by decide +kernel) (by decide +kernel)
theorem wd_59 : Cond.classLink RX8 28 RX7 ∈ fw_tb := fw_m 76 (by decide +kernel) (by decide +kernel)
theorem wd_60 : Cond.instantiable RX7 3 ∈ fw_tb := fw_m 77 (by decide +kernel) (by decide +kernel)
theorem wd_62 : Cond.instanceMethod yX7_init ∈ fw_tb := fw_m 79 (by decide +kernel) (by decide +kernel)
theorem wd_63 : Cond.code yX7_init cX7_init 1 none ∈ fw_tb := fw_m 80 (by decide +kernel) (by decide +kernel)
theorem wd_64 : Cond.methodLink RX7 1 ⟨"java/lang/Object", "<init>", "()V"⟩ ∈ fw_tb := fw_m 81 (by decide +kernel) (by decide +kernel)
theorem wd_65 : Cond.classLink RX7 7 RJx4a65c ∈ fw_tb := fw_m 82 (by decide +kernel) (by decide +kernel)
theorem wd_66 : Cond.methodLink RX7 9 yJx4a65c_init_da8c8 ∈ fw_tb := fw_m 83 (by decide +kernel) (by decide +kernel)
theorem wd_67 : Cond.classLink RX7 16 RX1 ∈ fw_tb := fw_m 84 (by decide +kernel) (by decide +kernel)
theorem wd_68 : Cond.instantiable RX1 2 ∈ fw_tb := fw_m 85 (by decide +kernel) (by decide +kernel)
theorem wd_69 : Cond.methodLink RX7 18 yX1_init ∈ fw_tb := fw_m 86 (by decide +kernel) (by decide +kernel)
theorem wd_70 : Cond.instanceMethod yX1_init ∈ fw_tb := fw_m 87 (by decide +kernel) (by decide +kernel)
theorem wd_71 : Cond.code yX1_init cX1_init 3 none ∈ fw_tb := fw_m 88 (by decide +kernel) (by decide +kernel)
theorem wd_72 : Cond.methodLink RX1 1 ⟨"java/lang/Object", "<init>", "()V"⟩ ∈ fw_tb := fw_m 89 (by decide +kernel) (by decide +kernel)
theorem wd_73 : Cond.fieldLink RX1 13 RX1 "above" "J" ∈ fw_tb := fw_m 90 (by decide +kernel) (by decide +kernel)
theorem wd_74 : Cond.fieldLink RX8 125 RX1 "above" "J" ∈ fw_tb := fw_m 91 (by decide +kernel) (by decide +kernel)
theorem wd_75 : Cond.fieldLink RX1 7 RX1 "below" "J" ∈ fw_tb := fw_m 92 (by decide +kernel) (by decide +kernel)
theorem wd_76 : Cond.fieldLink RX8 131 RX1 "below" "J" ∈ fw_tb := fw_m 93 (by decide +kernel) (by decide +kernel)
theorem wd_82 : Cond.fieldLink RX7 10 RX7 "stages" "Ljava/util/ArrayList;" ∈ fw_tb := fw_m 99 (by decide +kernel) (by decide +kernel)
theorem wd_83 : Cond.fieldLink RX5 30 RX7 "stages" "Ljava/util/ArrayList;" ∈ fw_tb := fw_m 100 (by decide +kernel) (by decide +kernel)
theorem wd_84 : Cond.fieldLink RX8 86 RX7 "stages" "Ljava/util/ArrayList;" ∈ fw_tb := fw_m 101 (by decide +kernel) (by decide +kernel)
theorem wd_85 : Cond.fieldLink RX7 21 RX7 "ratio" "LCogwright$Fraction;" ∈ fw_tb := fw_m 102 (by decide +kernel) (by decide +kernel)
theorem wd_86 : Cond.fieldLink RX8 121 RX7 "ratio" "LCogwright$Fraction;" ∈ fw_tb := fw_m 103 (by decide +kernel) (by decide +kernel)
theorem wd_87 : Cond.fieldLink RX7 25 RX7 "claimed" "I" ∈ fw_tb := fw_m 104 (by decide +kernel) (by decide +kernel)
theorem wd_88 : Cond.fieldLink RX8 214 RX7 "claimed" "I" ∈ fw_tb := fw_m 105 (by decide +kernel) (by decide +kernel)
theorem wd_96 : Cond.classLink RX8 39 RX3 ∈ fw_tb := fw_m 113 (by decide +kernel) (by decide +kernel)
theorem wd_97 : Cond.instantiable RX3 3 ∈ fw_tb := fw_m 114 (by decide +kernel) (by decide +kernel)
theorem wd_99 : Cond.instanceMethod yX3_init ∈ fw_tb := fw_m 116 (by decide +kernel) (by decide +kernel)
theorem wd_100 : Cond.code yX3_init cX3_init 1 none ∈ fw_tb := fw_m 117 (by decide +kernel) (by decide +kernel)
theorem wd_101 : Cond.methodLink RX3 3 ⟨"java/lang/Object", "<init>", "()V"⟩ ∈ fw_tb := fw_m 118 (by decide +kernel) (by decide +kernel)
theorem wd_102 : Cond.fieldLink RX3 9 RX3 "cutter" "I" ∈ fw_tb := fw_m 119 (by decide +kernel) (by decide +kernel)
theorem wd_103 : Cond.fieldLink RX8 184 RX3 "cutter" "I" ∈ fw_tb := fw_m 120 (by decide +kernel) (by decide +kernel)
theorem wd_104 : Cond.fieldLink RX3 15 RX3 "job" "LCogwright$Job;" ∈ fw_tb := fw_m 121 (by decide +kernel) (by decide +kernel)
theorem wd_105 : Cond.fieldLink RX8 260 RX3 "job" "LCogwright$Job;" ∈ fw_tb := fw_m 122 (by decide +kernel) (by decide +kernel)
theorem wd_106 : Cond.fieldLink RX3 19 RX3 "left" "I" ∈ fw_tb := fw_m 123 (by decide +kernel) (by decide +kernel)
theorem wd_107 : Cond.fieldLink RX8 187 RX3 "left" "I" ∈ fw_tb := fw_m 124 (by decide +kernel) (by decide +kernel)
theorem wd_115 : Cond.methodLink RX8 42 yJx4a65c_add_9ea2d ∈ fw_tb := fw_m 132 (by decide +kernel) (by decide +kernel)
theorem wd_116 : Cond.instanceMethod yJx4a65c_add_9ea2d ∈ fw_tb := fw_m 133 (by decide +kernel) (by decide +kernel)
theorem wd_117 : Cond.selects RJx4a65c yJx4a65c_add_9ea2d yJx4a65c_add_9ea2d ∈ fw_tb := fw_m 134 (by decide +kernel) (by decide +kernel)
theorem wd_118 : Cond.code yJx4a65c_add_9ea2d cJx4a65c_add_9ea2d 2 (some .boolean) ∈ fw_tb := fw_m 135 (by decide +kernel) (by decide +kernel)
theorem wd_119 : Cond.methodLink RJx4a65c 131 yJx4a65c_add_72be8 ∈ fw_tb := fw_m 136 (by decide +kernel) (by decide +kernel)
theorem wd_121 : Cond.instanceMethod yJx4a65c_add_72be8 ∈ fw_tb := fw_m 138 (by decide +kernel) (by decide +kernel)
theorem wd_122 : Cond.code yJx4a65c_add_72be8 cJx4a65c_add_72be8 4 none ∈ fw_tb := fw_m 139 (by decide +kernel) (by decide +kernel)
theorem wd_123 : Cond.methodLink RJx4a65c 129 yJx4a65c_grow_d5877 ∈ fw_tb := fw_m 140 (by decide +kernel) (by decide +kernel)
theorem wd_125 : Cond.instanceMethod yJx4a65c_grow_d5877 ∈ fw_tb := fw_m 142 (by decide +kernel) (by decide +kernel)
theorem wd_126 : Cond.code yJx4a65c_grow_d5877 cJx4a65c_grow_d5877 1 (some (.array (.object "java/lang/Object"))) ∈ fw_tb := fw_m 143 (by decide +kernel) (by decide +kernel)
theorem wd_127 : Cond.methodLink RJx4a65c 69 yJx4a65c_grow_92f84 ∈ fw_tb := fw_m 144 (by decide +kernel) (by decide +kernel)
theorem wd_129 : Cond.instanceMethod yJx4a65c_grow_92f84 ∈ fw_tb := fw_m 146 (by decide +kernel) (by decide +kernel)
theorem wd_130 : Cond.code yJx4a65c_grow_92f84 cJx4a65c_grow_92f84 4 (some (.array (.object "java/lang/Object"))) ∈ fw_tb := fw_m 147 (by decide +kernel) (by decide +kernel)
theorem wd_131 : Cond.methodLink RJx4a65c 73 yJ8_newLength_cabcc ∈ fw_tb := fw_m 148 (by decide +kernel) (by decide +kernel)
theorem wd_132 : Cond.static yJ8_newLength_cabcc ∈ fw_tb := fw_m 149 (by decide +kernel) (by decide +kernel)
theorem wd_133 : Cond.code yJ8_newLength_cabcc cJ8_newLength_cabcc 4 (some .int) ∈ fw_tb := fw_m 150 (by decide +kernel) (by decide +kernel)
theorem wd_134 : Cond.methodLink RJ8 194 yJ9_max_7cf53 ∈ fw_tb := fw_m 151 (by decide +kernel) (by decide +kernel)
theorem wd_135 : Cond.static yJ9_max_7cf53 ∈ fw_tb := fw_m 152 (by decide +kernel) (by decide +kernel)
theorem wd_136 : Cond.code yJ9_max_7cf53 cJ9_max_7cf53 2 (some .int) ∈ fw_tb := fw_m 153 (by decide +kernel) (by decide +kernel)
theorem wd_137 : Cond.constant RJ8 200 2147483639 ∈ fw_tb := fw_m 154 (by decide +kernel) (by decide +kernel)
theorem wd_138 : Cond.methodLink RJ8 201 yJ8_hugeLength_7cf53 ∈ fw_tb := fw_m 155 (by decide +kernel) (by decide +kernel)
theorem wd_139 : Cond.static yJ8_hugeLength_7cf53 ∈ fw_tb := fw_m 156 (by decide +kernel) (by decide +kernel)
theorem wd_140 : Cond.code yJ8_hugeLength_7cf53 cJ8_hugeLength_7cf53 3 (some .int) ∈ fw_tb := fw_m 157 (by decide +kernel) (by decide +kernel)
theorem wd_141 : Cond.methodLink RJx4a65c 66 yJ7_copyOf_1904c ∈ fw_tb := fw_m 158 (by decide +kernel) (by decide +kernel)
theorem wd_142 : Cond.static yJ7_copyOf_1904c ∈ fw_tb := fw_m 159 (by decide +kernel) (by decide +kernel)
theorem wd_143 : Cond.code yJ7_copyOf_1904c cJ7_copyOf_1904c 2 (some (.array (.object "java/lang/Object"))) ∈ fw_tb := fw_m 160 (by decide +kernel) (by decide +kernel)
theorem wd_144 : Cond.methodLink RJ7 86 ⟨"java/lang/Object", "getClass", "()Ljava/lang/Class;"⟩ ∈ fw_tb := fw_m 161 (by decide +kernel) (by decide +kernel)
theorem wd_146 : Cond.sameMethod "java/lang/Object" "java/lang/Object" "getClass" "()Ljava/lang/Class;" ∈ fw_tb := fw_m 163 (by decide +kernel) (by decide +kernel)
theorem wd_147 : Cond.selects RX8 ⟨"java/lang/Object", "getClass", "()Ljava/lang/Class;"⟩ ⟨"java/lang/Object", "getClass", "()Ljava/lang/Class;"⟩ ∈ fw_tb := fw_m 164 (by decide +kernel) (by decide +kernel)
theorem wd_148 : Cond.selects RX0 ⟨"java/lang/Object", "getClass", "()Ljava/lang/Class;"⟩ ⟨"java/lang/Object", "getClass", "()Ljava/lang/Class;"⟩ ∈ fw_tb := fw_m 165 (by decide +kernel) (by decide +kernel)
theorem wd_149 : Cond.selects RX1 ⟨"java/lang/Object", "getClass", "()Ljava/lang/Class;"⟩ ⟨"java/lang/Object", "getClass", "()Ljava/lang/Class;"⟩ ∈ fw_tb := fw_m 166 (by decide +kernel) (by decide +kernel)
theorem wd_150 : Cond.selects RX2 ⟨"java/lang/Object", "getClass", "()Ljava/lang/Class;"⟩ ⟨"java/lang/Object", "getClass", "()Ljava/lang/Class;"⟩ ∈ fw_tb := fw_m 167 (by decide +kernel) (by decide +kernel)
theorem wd_151 : Cond.selects RX3 ⟨"java/lang/Object", "getClass", "()Ljava/lang/Class;"⟩ ⟨"java/lang/Object", "getClass", "()Ljava/lang/Class;"⟩ ∈ fw_tb := fw_m 168 (by decide +kernel) (by decide +kernel)
theorem wd_152 : Cond.selects RX4 ⟨"java/lang/Object", "getClass", "()Ljava/lang/Class;"⟩ ⟨"java/lang/Object", "getClass", "()Ljava/lang/Class;"⟩ ∈ fw_tb := fw_m 169 (by decide +kernel) (by decide +kernel)
theorem wd_153 : Cond.selects RX5 ⟨"java/lang/Object", "getClass", "()Ljava/lang/Class;"⟩ ⟨"java/lang/Object", "getClass", "()Ljava/lang/Class;"⟩ ∈ fw_tb := fw_m 170 (by decide +kernel) (by decide +kernel)
theorem wd_154 : Cond.selects RX6 ⟨"java/lang/Object", "getClass", "()Ljava/lang/Class;"⟩ ⟨"java/lang/Object", "getClass", "()Ljava/lang/Class;"⟩ ∈ fw_tb := fw_m 171 (by decide +kernel) (by decide +kernel)
theorem wd_155 : Cond.selects RX7 ⟨"java/lang/Object", "getClass", "()Ljava/lang/Class;"⟩ ⟨"java/lang/Object", "getClass", "()Ljava/lang/Class;"⟩ ∈ fw_tb := fw_m 172 (by decide +kernel) (by decide +kernel)
theorem wd_156 : Cond.selects "java/lang/IllegalArgumentException" ⟨"java/lang/Object", "getClass", "()Ljava/lang/Class;"⟩ ⟨"java/lang/Object", "getClass", "()Ljava/lang/Class;"⟩ ∈ fw_tb := fw_m 173 (by decide +kernel) (by decide +kernel)
theorem wd_157 : Cond.selects "java/lang/IllegalStateException" ⟨"java/lang/Object", "getClass", "()Ljava/lang/Class;"⟩ ⟨"java/lang/Object", "getClass", "()Ljava/lang/Class;"⟩ ∈ fw_tb := fw_m 174 (by decide +kernel) (by decide +kernel)
theorem wd_158 : Cond.selects "java/lang/IndexOutOfBoundsException" ⟨"java/lang/Object", "getClass", "()Ljava/lang/Class;"⟩ ⟨"java/lang/Object", "getClass", "()Ljava/lang/Class;"⟩ ∈ fw_tb := fw_m 175 (by decide +kernel) (by decide +kernel)
theorem wd_159 : Cond.selects RJx4a65c ⟨"java/lang/Object", "getClass", "()Ljava/lang/Class;"⟩ ⟨"java/lang/Object", "getClass", "()Ljava/lang/Class;"⟩ ∈ fw_tb := fw_m 176 (by decide +kernel) (by decide +kernel)
theorem wd_160 : Cond.native ⟨"java/lang/Object", "getClass", "()Ljava/lang/Class;"⟩ ∈ fw_tb := fw_m 177 (by decide +kernel) (by decide +kernel)
theorem wd_161 : Cond.methodLink RJ7 300 yJ7_copyOf_6403c ∈ fw_tb := fw_m 178 (by decide +kernel) (by decide +kernel)
theorem wd_162 : Cond.static yJ7_copyOf_6403c ∈ fw_tb := fw_m 179 (by decide +kernel) (by decide +kernel)
theorem wd_163 : Cond.code yJ7_copyOf_6403c cJ7_copyOf_6403c 4 (some (.array (.object "java/lang/Object"))) ∈ fw_tb := fw_m 180 (by decide +kernel) (by decide +kernel)
theorem wd_164 : Cond.classLink RJ7 110 "[Ljava/lang/Object;" ∈ fw_tb := fw_m 181 (by decide +kernel) (by decide +kernel)
theorem wd_166 : Cond.classLink RJ7 2 "java/lang/Object" ∈ fw_tb := fw_m 183 (by decide +kernel) (by decide +kernel)
theorem wd_167 : Cond.methodLink RJ7 304 yJ9_min_7cf53 ∈ fw_tb := fw_m 184 (by decide +kernel) (by decide +kernel)
theorem wd_168 : Cond.static yJ9_min_7cf53 ∈ fw_tb := fw_m 185 (by decide +kernel) (by decide +kernel)
theorem wd_169 : Cond.code yJ9_min_7cf53 cJ9_min_7cf53 2 (some .int) ∈ fw_tb := fw_m 186 (by decide +kernel) (by decide +kernel)
theorem wd_170 : Cond.methodLink RJ7 150 ⟨RJ10, "arraycopy", "(Ljava/lang/Object;ILjava/lang/Object;II)V"⟩ ∈ fw_tb := fw_m 187 (by decide +kernel) (by decide +kernel)
theorem wd_172 : Cond.native ⟨RJ10, "arraycopy", "(Ljava/lang/Object;ILjava/lang/Object;II)V"⟩ ∈ fw_tb := fw_m 189 (by decide +kernel) (by decide +kernel)
theorem wd_173 : Cond.methodLink RJx4a65c 79 yJ9_max_7cf53 ∈ fw_tb := fw_m 190 (by decide +kernel) (by decide +kernel)
theorem wd_174 : Cond.classLink RJx4a65c 7 "java/lang/Object" ∈ fw_tb := fw_m 191 (by decide +kernel) (by decide +kernel)
theorem wd_175 : Cond.fieldLink RX8 10 RX8 "cutters" "Ljava/util/ArrayList;" ∈ fw_tb := fw_m 192 (by decide +kernel) (by decide +kernel)
theorem wd_176 : Cond.fieldLink RX8 16 RX8 "trains" "Ljava/util/ArrayList;" ∈ fw_tb := fw_m 193 (by decide +kernel) (by decide +kernel)
theorem wd_177 : Cond.fieldLink RX8 19 RX8 "orders" "Ljava/util/ArrayList;" ∈ fw_tb := fw_m 194 (by decide +kernel) (by decide +kernel)
theorem wd_178 : Cond.fieldLink RX8 22 RX8 "machines" "Ljava/util/ArrayList;" ∈ fw_tb := fw_m 195 (by decide +kernel) (by decide +kernel)
theorem wd_179 : Cond.fieldLink RX8 25 RX8 "waitingRow" "Ljava/util/ArrayList;" ∈ fw_tb := fw_m 196 (by decide +kernel) (by decide +kernel)
theorem wd_180 : Cond.fieldLink RX8 31 RX8 "draft" "LCogwright$Train;" ∈ fw_tb := fw_m 197 (by decide +kernel) (by decide +kernel)
theorem wd_181 : Cond.fieldLink RX8 35 RX8 "now" "I" ∈ fw_tb := fw_m 198 (by decide +kernel) (by decide +kernel)
theorem wd_197 : Cond.methodLink RL 53 yX8_addCutter ∈ fw_tb := fw_m 214 (by decide +kernel) (by decide +kernel)
theorem wd_198 : Cond.instanceMethod yX8_addCutter ∈ fw_tb := fw_m 215 (by decide +kernel) (by decide +kernel)
theorem wd_199 : Cond.selects RX8 yX8_addCutter yX8_addCutter ∈ fw_tb := fw_m 216 (by decide +kernel) (by decide +kernel)
theorem wd_200 : Cond.code yX8_addCutter cX8_addCutter 4 (some .int) ∈ fw_tb := fw_m 217 (by decide +kernel) (by decide +kernel)
theorem wd_201 : Cond.methodLink RX8 46 yX8_isNoModule ∈ fw_tb := fw_m 218 (by decide +kernel) (by decide +kernel)
theorem wd_202 : Cond.static yX8_isNoModule ∈ fw_tb := fw_m 219 (by decide +kernel) (by decide +kernel)
theorem wd_203 : Cond.code yX8_isNoModule cX8_isNoModule 1 (some .boolean) ∈ fw_tb := fw_m 220 (by decide +kernel) (by decide +kernel)
theorem wd_204 : Cond.methodLink RX8 53 yX8_isOutside ∈ fw_tb := fw_m 221 (by decide +kernel) (by decide +kernel)
theorem wd_205 : Cond.static yX8_isOutside ∈ fw_tb := fw_m 222 (by decide +kernel) (by decide +kernel)
theorem wd_206 : Cond.code yX8_isOutside cX8_isOutside 3 (some .boolean) ∈ fw_tb := fw_m 223 (by decide +kernel) (by decide +kernel)
theorem wd_207 : Cond.methodLink RX8 50 yX8_isNoToothCount ∈ fw_tb := fw_m 224 (by decide +kernel) (by decide +kernel)
theorem wd_208 : Cond.static yX8_isNoToothCount ∈ fw_tb := fw_m 225 (by decide +kernel) (by decide +kernel)
theorem wd_209 : Cond.code yX8_isNoToothCount cX8_isNoToothCount 1 (some .boolean) ∈ fw_tb := fw_m 226 (by decide +kernel) (by decide +kernel)
theorem wd_210 : Cond.classLink RX8 57 "java/lang/IllegalArgumentException" ∈ fw_tb := fw_m 227 (by decide +kernel) (by decide +kernel)
theorem wd_211 : Cond.instantiable "java/lang/IllegalArgumentException" 6 ∈ fw_tb := fw_m 228 (by decide +kernel) (by decide +kernel)
theorem wd_219 : Cond.selects "java/lang/IllegalArgumentException" ⟨"java/lang/Throwable", "fillInStackTrace", "(I)Ljava/lang/Throwable;"⟩ ⟨"java/lang/Throwable", "fillInStackTrace", "(I)Ljava/lang/Throwable;"⟩ ∈ fw_tb := fw_m 236 (by decide +kernel) (by decide +kernel)
theorem wd_220 : Cond.selects "java/lang/IllegalArgumentException" ⟨"java/lang/Throwable", "fillInStackTrace", "()Ljava/lang/Throwable;"⟩ ⟨"java/lang/Throwable", "fillInStackTrace", "()Ljava/lang/Throwable;"⟩ ∈ fw_tb := fw_m 237 (by decide +kernel) (by decide +kernel)
theorem wd_231 : Cond.fieldLink "java/lang/Throwable" 198 "java/lang/Throwable" "backtrace" "Ljava/lang/Object;" ∈ fw_tb := fw_m 248 (by decide +kernel) (by decide +kernel)
theorem wd_235 : Cond.methodLink "java/lang/Throwable" 1 ⟨"java/lang/Object", "<init>", "()V"⟩ ∈ fw_tb := fw_m 252 (by decide +kernel) (by decide +kernel)
theorem wd_236 : Cond.fieldLink "java/lang/Throwable" 13 "java/lang/Throwable" "UNASSIGNED_STACK" "[Ljava/lang/StackTraceElement;" ∈ fw_tb := fw_m 253 (by decide +kernel) (by decide +kernel)
theorem wd_238 : Cond.fieldLink "java/lang/Throwable" 20 "java/lang/Throwable" "SUPPRESSED_SENTINEL" "Ljava/util/List;" ∈ fw_tb := fw_m 255 (by decide +kernel) (by decide +kernel)
theorem wd_240 : Cond.methodLink "java/lang/Throwable" 27 ⟨"java/lang/Throwable", "fillInStackTrace", "()Ljava/lang/Throwable;"⟩ ∈ fw_tb := fw_m 257 (by decide +kernel) (by decide +kernel)
theorem wd_242 : Cond.sameMethod "java/lang/Throwable" "java/lang/Throwable" "fillInStackTrace" "()Ljava/lang/Throwable;" ∈ fw_tb := fw_m 259 (by decide +kernel) (by decide +kernel)
theorem wd_243 : Cond.selects "java/lang/IllegalStateException" ⟨"java/lang/Throwable", "fillInStackTrace", "()Ljava/lang/Throwable;"⟩ ⟨"java/lang/Throwable", "fillInStackTrace", "()Ljava/lang/Throwable;"⟩ ∈ fw_tb := fw_m 260 (by decide +kernel) (by decide +kernel)
theorem wd_244 : Cond.selects "java/lang/IndexOutOfBoundsException" ⟨"java/lang/Throwable", "fillInStackTrace", "()Ljava/lang/Throwable;"⟩ ⟨"java/lang/Throwable", "fillInStackTrace", "()Ljava/lang/Throwable;"⟩ ∈ fw_tb := fw_m 261 (by decide +kernel) (by decide +kernel)
theorem wd_246 : Cond.methodLink "java/lang/Throwable" 202 ⟨"java/lang/Throwable", "fillInStackTrace", "(I)Ljava/lang/Throwable;"⟩ ∈ fw_tb := fw_m 263 (by decide +kernel) (by decide +kernel)
theorem wd_249 : Cond.instantiable "java/lang/Throwable" 6 ∈ fw_tb := fw_m 266 (by decide +kernel) (by decide +kernel)
theorem wd_250 : Cond.native ⟨"java/lang/Throwable", "fillInStackTrace", "(I)Ljava/lang/Throwable;"⟩ ∈ fw_tb := fw_m 267 (by decide +kernel) (by decide +kernel)
theorem wd_252 : Cond.methodLink RX8 61 ⟨"java/lang/IllegalArgumentException", "<init>", "(Ljava/lang/String;)V"⟩ ∈ fw_tb := fw_m 269 (by decide +kernel) (by decide +kernel)
theorem wd_255 : Cond.methodLink "java/lang/IllegalArgumentException" 7 ⟨"java/lang/RuntimeException", "<init>", "(Ljava/lang/String;)V"⟩ ∈ fw_tb := fw_m 272 (by decide +kernel) (by decide +kernel)
theorem wd_258 : Cond.methodLink "java/lang/RuntimeException" 7 ⟨"java/lang/Exception", "<init>", "(Ljava/lang/String;)V"⟩ ∈ fw_tb := fw_m 275 (by decide +kernel) (by decide +kernel)
theorem wd_261 : Cond.methodLink "java/lang/Exception" 7 ⟨"java/lang/Throwable", "<init>", "(Ljava/lang/String;)V"⟩ ∈ fw_tb := fw_m 278 (by decide +kernel) (by decide +kernel)
theorem wd_264 : Cond.fieldLink "java/lang/Throwable" 198 "java/lang/Throwable" "backtrace" "Ljava/lang/Object;" ∈ fw_tb := fw_m 281 (by decide +kernel) (by decide +kernel)
theorem wd_265 : Cond.fieldLink "java/lang/Throwable" 31 "java/lang/Throwable" "detailMessage" "Ljava/lang/String;" ∈ fw_tb := fw_m 282 (by decide +kernel) (by decide +kernel)
theorem wd_266 : Cond.fieldLink "java/lang/Throwable" 7 "java/lang/Throwable" "cause" "Ljava/lang/Throwable;" ∈ fw_tb := fw_m 283 (by decide +kernel) (by decide +kernel)
theorem wd_267 : Cond.fieldLink "java/lang/Throwable" 17 "java/lang/Throwable" "stackTrace" "[Ljava/lang/StackTraceElement;" ∈ fw_tb := fw_m 284 (by decide +kernel) (by decide +kernel)
theorem wd_268 : Cond.fieldLink "java/lang/Throwable" 24 "java/lang/Throwable" "suppressedExceptions" "Ljava/util/List;" ∈ fw_tb := fw_m 285 (by decide +kernel) (by decide +kernel)
theorem wd_277 : Cond.arrayClass .byte ∈ fw_tb := fw_m 294 (by decide +kernel) (by decide +kernel)
theorem wd_278 : Cond.methodLink RX8 64 yJx4a65c_size_8abf5 ∈ fw_tb := fw_m 295 (by decide +kernel) (by decide +kernel)
theorem wd_279 : Cond.instanceMethod yJx4a65c_size_8abf5 ∈ fw_tb := fw_m 296 (by decide +kernel) (by decide +kernel)
theorem wd_280 : Cond.selects RJx4a65c yJx4a65c_size_8abf5 yJx4a65c_size_8abf5 ∈ fw_tb := fw_m 297 (by decide +kernel) (by decide +kernel)
theorem wd_281 : Cond.code yJx4a65c_size_8abf5 cJx4a65c_size_8abf5 1 (some .int) ∈ fw_tb := fw_m 298 (by decide +kernel) (by decide +kernel)
theorem wd_282 : Cond.classLink RX8 68 "java/lang/IllegalStateException" ∈ fw_tb := fw_m 299 (by decide +kernel) (by decide +kernel)
theorem wd_283 : Cond.instantiable "java/lang/IllegalStateException" 6 ∈ fw_tb := fw_m 300 (by decide +kernel) (by decide +kernel)
theorem wd_285 : Cond.selects "java/lang/IllegalStateException" ⟨"java/lang/Throwable", "fillInStackTrace", "(I)Ljava/lang/Throwable;"⟩ ⟨"java/lang/Throwable", "fillInStackTrace", "(I)Ljava/lang/Throwable;"⟩ ∈ fw_tb := fw_m 302 (by decide +kernel) (by decide +kernel)
theorem wd_292 : Cond.methodLink RX8 72 ⟨"java/lang/IllegalStateException", "<init>", "(Ljava/lang/String;)V"⟩ ∈ fw_tb := fw_m 309 (by decide +kernel) (by decide +kernel)
theorem wd_295 : Cond.methodLink "java/lang/IllegalStateException" 7 ⟨"java/lang/RuntimeException", "<init>", "(Ljava/lang/String;)V"⟩ ∈ fw_tb := fw_m 312 (by decide +kernel) (by decide +kernel)
theorem wd_298 : Cond.classLink RX8 73 RX0 ∈ fw_tb := fw_m 315 (by decide +kernel) (by decide +kernel)
theorem wd_299 : Cond.instantiable RX0 3 ∈ fw_tb := fw_m 316 (by decide +kernel) (by decide +kernel)
theorem wd_300 : Cond.methodLink RX8 75 yX0_init ∈ fw_tb := fw_m 317 (by decide +kernel) (by decide +kernel)
theorem wd_301 : Cond.instanceMethod yX0_init ∈ fw_tb := fw_m 318 (by decide +kernel) (by decide +kernel)
theorem wd_302 : Cond.code yX0_init cX0_init 4 none ∈ fw_tb := fw_m 319 (by decide +kernel) (by decide +kernel)
theorem wd_303 : Cond.methodLink RX0 1 ⟨"java/lang/Object", "<init>", "()V"⟩ ∈ fw_tb := fw_m 320 (by decide +kernel) (by decide +kernel)
theorem wd_304 : Cond.fieldLink RX0 7 RX0 "module" "I" ∈ fw_tb := fw_m 321 (by decide +kernel) (by decide +kernel)
theorem wd_305 : Cond.fieldLink RX0 13 RX0 "least" "I" ∈ fw_tb := fw_m 322 (by decide +kernel) (by decide +kernel)
theorem wd_306 : Cond.fieldLink RX0 16 RX0 "most" "I" ∈ fw_tb := fw_m 323 (by decide +kernel) (by decide +kernel)
theorem wd_314 : Cond.methodLink RL 57 yX8_cutterFor ∈ fw_tb := fw_m 331 (by decide +kernel) (by decide +kernel)
theorem wd_315 : Cond.instanceMethod yX8_cutterFor ∈ fw_tb := fw_m 332 (by decide +kernel) (by decide +kernel)
theorem wd_316 : Cond.selects RX8 yX8_cutterFor yX8_cutterFor ∈ fw_tb := fw_m 333 (by decide +kernel) (by decide +kernel)
theorem wd_317 : Cond.code yX8_cutterFor cX8_cutterFor 3 (some .int) ∈ fw_tb := fw_m 334 (by decide +kernel) (by decide +kernel)
theorem wd_319 : Cond.methodLink RX8 80 yX8_lowestCutter ∈ fw_tb := fw_m 336 (by decide +kernel) (by decide +kernel)
theorem wd_321 : Cond.instanceMethod yX8_lowestCutter ∈ fw_tb := fw_m 338 (by decide +kernel) (by decide +kernel)
theorem wd_322 : Cond.code yX8_lowestCutter cX8_lowestCutter 4 (some .int) ∈ fw_tb := fw_m 339 (by decide +kernel) (by decide +kernel)
theorem wd_323 : Cond.methodLink RX8 148 yJx4a65c_get_915e3 ∈ fw_tb := fw_m 340 (by decide +kernel) (by decide +kernel)
theorem wd_324 : Cond.instanceMethod yJx4a65c_get_915e3 ∈ fw_tb := fw_m 341 (by decide +kernel) (by decide +kernel)
theorem wd_325 : Cond.selects RJx4a65c yJx4a65c_get_915e3 yJx4a65c_get_915e3 ∈ fw_tb := fw_m 342 (by decide +kernel) (by decide +kernel)
theorem wd_326 : Cond.code yJx4a65c_get_915e3 cJx4a65c_get_915e3 2 (some (.object "java/lang/Object")) ∈ fw_tb := fw_m 343 (by decide +kernel) (by decide +kernel)
theorem wd_327 : Cond.methodLink RJx4a65c 118 yJ15_checkIndex_7cf53 ∈ fw_tb := fw_m 344 (by decide +kernel) (by decide +kernel)
theorem wd_328 : Cond.static yJ15_checkIndex_7cf53 ∈ fw_tb := fw_m 345 (by decide +kernel) (by decide +kernel)
theorem wd_329 : Cond.code yJ15_checkIndex_7cf53 cJ15_checkIndex_7cf53 2 (some .int) ∈ fw_tb := fw_m 346 (by decide +kernel) (by decide +kernel)
theorem wd_330 : Cond.methodLink RJ15 105 yJ3_checkIndex_8e157 ∈ fw_tb := fw_m 347 (by decide +kernel) (by decide +kernel)
theorem wd_331 : Cond.static yJ3_checkIndex_8e157 ∈ fw_tb := fw_m 348 (by decide +kernel) (by decide +kernel)
theorem wd_332 : Cond.code yJ3_checkIndex_8e157 cJ3_checkIndex_8e157 3 (some .int) ∈ fw_tb := fw_m 349 (by decide +kernel) (by decide +kernel)
theorem wd_333 : Cond.methodLink RJx4a65c 123 yJx4a65c_elementData_915e3 ∈ fw_tb := fw_m 350 (by decide +kernel) (by decide +kernel)
theorem wd_334 : Cond.instanceMethod yJx4a65c_elementData_915e3 ∈ fw_tb := fw_m 351 (by decide +kernel) (by decide +kernel)
theorem wd_335 : Cond.selects RJx4a65c yJx4a65c_elementData_915e3 yJx4a65c_elementData_915e3 ∈ fw_tb := fw_m 352 (by decide +kernel) (by decide +kernel)
theorem wd_336 : Cond.code yJx4a65c_elementData_915e3 cJx4a65c_elementData_915e3 2 (some (.object "java/lang/Object")) ∈ fw_tb := fw_m 353 (by decide +kernel) (by decide +kernel)
theorem wd_337 : Cond.methodLink RX8 252 yX0_cuts ∈ fw_tb := fw_m 354 (by decide +kernel) (by decide +kernel)
theorem wd_338 : Cond.instanceMethod yX0_cuts ∈ fw_tb := fw_m 355 (by decide +kernel) (by decide +kernel)
theorem wd_339 : Cond.selects RX0 yX0_cuts yX0_cuts ∈ fw_tb := fw_m 356 (by decide +kernel) (by decide +kernel)
theorem wd_340 : Cond.code yX0_cuts cX0_cuts 3 (some .boolean) ∈ fw_tb := fw_m 357 (by decide +kernel) (by decide +kernel)
theorem wd_341 : Cond.methodLink RL 60 yX8_stage ∈ fw_tb := fw_m 358 (by decide +kernel) (by decide +kernel)
theorem wd_342 : Cond.instanceMethod yX8_stage ∈ fw_tb := fw_m 359 (by decide +kernel) (by decide +kernel)
theorem wd_343 : Cond.selects RX8 yX8_stage yX8_stage ∈ fw_tb := fw_m 360 (by decide +kernel) (by decide +kernel)
theorem wd_344 : Cond.code yX8_stage cX8_stage 4 (some .int) ∈ fw_tb := fw_m 361 (by decide +kernel) (by decide +kernel)
theorem wd_347 : Cond.classLink RX8 91 RX6 ∈ fw_tb := fw_m 364 (by decide +kernel) (by decide +kernel)
theorem wd_348 : Cond.instantiable RX6 3 ∈ fw_tb := fw_m 365 (by decide +kernel) (by decide +kernel)
theorem wd_349 : Cond.methodLink RX8 93 yX6_init ∈ fw_tb := fw_m 366 (by decide +kernel) (by decide +kernel)
theorem wd_350 : Cond.instanceMethod yX6_init ∈ fw_tb := fw_m 367 (by decide +kernel) (by decide +kernel)
theorem wd_351 : Cond.code yX6_init cX6_init 4 none ∈ fw_tb := fw_m 368 (by decide +kernel) (by decide +kernel)
theorem wd_352 : Cond.methodLink RX6 3 ⟨"java/lang/Object", "<init>", "()V"⟩ ∈ fw_tb := fw_m 369 (by decide +kernel) (by decide +kernel)
theorem wd_353 : Cond.fieldLink RX6 9 RX6 "module" "I" ∈ fw_tb := fw_m 370 (by decide +kernel) (by decide +kernel)
theorem wd_354 : Cond.fieldLink RX7 53 RX6 "module" "I" ∈ fw_tb := fw_m 371 (by decide +kernel) (by decide +kernel)
theorem wd_355 : Cond.fieldLink RX8 165 RX6 "module" "I" ∈ fw_tb := fw_m 372 (by decide +kernel) (by decide +kernel)
theorem wd_356 : Cond.fieldLink RX6 15 RX6 "driver" "I" ∈ fw_tb := fw_m 373 (by decide +kernel) (by decide +kernel)
theorem wd_357 : Cond.fieldLink RX7 38 RX6 "driver" "I" ∈ fw_tb := fw_m 374 (by decide +kernel) (by decide +kernel)
theorem wd_358 : Cond.fieldLink RX8 152 RX6 "driver" "I" ∈ fw_tb := fw_m 375 (by decide +kernel) (by decide +kernel)
theorem wd_359 : Cond.fieldLink RX6 18 RX6 "driven" "I" ∈ fw_tb := fw_m 376 (by decide +kernel) (by decide +kernel)
theorem wd_360 : Cond.fieldLink RX7 33 RX6 "driven" "I" ∈ fw_tb := fw_m 377 (by decide +kernel) (by decide +kernel)
theorem wd_361 : Cond.fieldLink RX8 155 RX6 "driven" "I" ∈ fw_tb := fw_m 378 (by decide +kernel) (by decide +kernel)
theorem wd_369 : Cond.methodLink RX8 94 yX7_append ∈ fw_tb := fw_m 386 (by decide +kernel) (by decide +kernel)
theorem wd_370 : Cond.instanceMethod yX7_append ∈ fw_tb := fw_m 387 (by decide +kernel) (by decide +kernel)
theorem wd_371 : Cond.selects RX7 yX7_append yX7_append ∈ fw_tb := fw_m 388 (by decide +kernel) (by decide +kernel)
theorem wd_372 : Cond.code yX7_append cX7_append 2 none ∈ fw_tb := fw_m 389 (by decide +kernel) (by decide +kernel)
theorem wd_373 : Cond.methodLink RX7 29 yJx4a65c_add_9ea2d ∈ fw_tb := fw_m 390 (by decide +kernel) (by decide +kernel)
theorem wd_374 : Cond.methodLink RX7 41 yX1_multiply ∈ fw_tb := fw_m 391 (by decide +kernel) (by decide +kernel)
theorem wd_375 : Cond.instanceMethod yX1_multiply ∈ fw_tb := fw_m 392 (by decide +kernel) (by decide +kernel)
theorem wd_376 : Cond.selects RX1 yX1_multiply yX1_multiply ∈ fw_tb := fw_m 393 (by decide +kernel) (by decide +kernel)
theorem wd_377 : Cond.code yX1_multiply cX1_multiply 7 none ∈ fw_tb := fw_m 394 (by decide +kernel) (by decide +kernel)
theorem wd_379 : Cond.static yX8_commonDivisor ∈ fw_tb := fw_m 396 (by decide +kernel) (by decide +kernel)
theorem wd_380 : Cond.code yX8_commonDivisor cX8_commonDivisor 11 (some .long) ∈ fw_tb := fw_m 397 (by decide +kernel) (by decide +kernel)
theorem wd_381 : Cond.methodLink RX8 98 yX7_distance ∈ fw_tb := fw_m 398 (by decide +kernel) (by decide +kernel)
theorem wd_382 : Cond.instanceMethod yX7_distance ∈ fw_tb := fw_m 399 (by decide +kernel) (by decide +kernel)
theorem wd_383 : Cond.selects RX7 yX7_distance yX7_distance ∈ fw_tb := fw_m 400 (by decide +kernel) (by decide +kernel)
theorem wd_384 : Cond.code yX7_distance cX7_distance 4 (some .int) ∈ fw_tb := fw_m 401 (by decide +kernel) (by decide +kernel)
theorem wd_385 : Cond.methodLink RX7 45 yJx4a65c_size_8abf5 ∈ fw_tb := fw_m 402 (by decide +kernel) (by decide +kernel)
theorem wd_386 : Cond.methodLink RX7 49 yJx4a65c_get_915e3 ∈ fw_tb := fw_m 403 (by decide +kernel) (by decide +kernel)
theorem wd_387 : Cond.classLink RX7 34 RX6 ∈ fw_tb := fw_m 404 (by decide +kernel) (by decide +kernel)
theorem wd_388 : Cond.methodLink RL 66 yX8_scrap ∈ fw_tb := fw_m 405 (by decide +kernel) (by decide +kernel)
theorem wd_389 : Cond.instanceMethod yX8_scrap ∈ fw_tb := fw_m 406 (by decide +kernel) (by decide +kernel)
theorem wd_390 : Cond.selects RX8 yX8_scrap yX8_scrap ∈ fw_tb := fw_m 407 (by decide +kernel) (by decide +kernel)
theorem wd_391 : Cond.code yX8_scrap cX8_scrap 2 (some .int) ∈ fw_tb := fw_m 408 (by decide +kernel) (by decide +kernel)
theorem wd_392 : Cond.methodLink RL 63 yX8_make ∈ fw_tb := fw_m 409 (by decide +kernel) (by decide +kernel)
theorem wd_393 : Cond.instanceMethod yX8_make ∈ fw_tb := fw_m 410 (by decide +kernel) (by decide +kernel)
theorem wd_394 : Cond.selects RX8 yX8_make yX8_make ∈ fw_tb := fw_m 411 (by decide +kernel) (by decide +kernel)
theorem wd_395 : Cond.code yX8_make cX8_make 2 (some .int) ∈ fw_tb := fw_m 412 (by decide +kernel) (by decide +kernel)
theorem wd_396 : Cond.methodLink RX8 101 yJx4a65c_isEmpty_aae02 ∈ fw_tb := fw_m 413 (by decide +kernel) (by decide +kernel)
theorem wd_397 : Cond.instanceMethod yJx4a65c_isEmpty_aae02 ∈ fw_tb := fw_m 414 (by decide +kernel) (by decide +kernel)
theorem wd_398 : Cond.selects RJx4a65c yJx4a65c_isEmpty_aae02 yJx4a65c_isEmpty_aae02 ∈ fw_tb := fw_m 415 (by decide +kernel) (by decide +kernel)
theorem wd_399 : Cond.code yJx4a65c_isEmpty_aae02 cJx4a65c_isEmpty_aae02 1 (some .boolean) ∈ fw_tb := fw_m 416 (by decide +kernel) (by decide +kernel)
theorem wd_402 : Cond.methodLink RX8 109 yX8_hasAllCutters ∈ fw_tb := fw_m 419 (by decide +kernel) (by decide +kernel)
theorem wd_404 : Cond.instanceMethod yX8_hasAllCutters ∈ fw_tb := fw_m 421 (by decide +kernel) (by decide +kernel)
theorem wd_405 : Cond.code yX8_hasAllCutters cX8_hasAllCutters 4 (some .boolean) ∈ fw_tb := fw_m 422 (by decide +kernel) (by decide +kernel)
theorem wd_408 : Cond.methodLink RL 69 yX8_order ∈ fw_tb := fw_m 425 (by decide +kernel) (by decide +kernel)
theorem wd_409 : Cond.instanceMethod yX8_order ∈ fw_tb := fw_m 426 (by decide +kernel) (by decide +kernel)
theorem wd_410 : Cond.selects RX8 yX8_order yX8_order ∈ fw_tb := fw_m 427 (by decide +kernel) (by decide +kernel)
theorem wd_411 : Cond.code yX8_order cX8_order 6 (some .int) ∈ fw_tb := fw_m 428 (by decide +kernel) (by decide +kernel)
theorem wd_412 : Cond.methodLink RX8 117 yX8_trainAt ∈ fw_tb := fw_m 429 (by decide +kernel) (by decide +kernel)
theorem wd_414 : Cond.instanceMethod yX8_trainAt ∈ fw_tb := fw_m 431 (by decide +kernel) (by decide +kernel)
theorem wd_415 : Cond.code yX8_trainAt cX8_trainAt 2 (some (.object "Cogwright$Train")) ∈ fw_tb := fw_m 432 (by decide +kernel) (by decide +kernel)
theorem wd_416 : Cond.classLink RX8 220 "java/lang/IndexOutOfBoundsException" ∈ fw_tb := fw_m 433 (by decide +kernel) (by decide +kernel)
theorem wd_417 : Cond.instantiable "java/lang/IndexOutOfBoundsException" 6 ∈ fw_tb := fw_m 434 (by decide +kernel) (by decide +kernel)
theorem wd_419 : Cond.selects "java/lang/IndexOutOfBoundsException" ⟨"java/lang/Throwable", "fillInStackTrace", "(I)Ljava/lang/Throwable;"⟩ ⟨"java/lang/Throwable", "fillInStackTrace", "(I)Ljava/lang/Throwable;"⟩ ∈ fw_tb := fw_m 436 (by decide +kernel) (by decide +kernel)
theorem wd_426 : Cond.methodLink RX8 224 ⟨"java/lang/IndexOutOfBoundsException", "<init>", "(Ljava/lang/String;)V"⟩ ∈ fw_tb := fw_m 443 (by decide +kernel) (by decide +kernel)
theorem wd_429 : Cond.methodLink "java/lang/IndexOutOfBoundsException" 7 ⟨"java/lang/RuntimeException", "<init>", "(Ljava/lang/String;)V"⟩ ∈ fw_tb := fw_m 446 (by decide +kernel) (by decide +kernel)
theorem wd_433 : Cond.classLink RX8 160 RX5 ∈ fw_tb := fw_m 450 (by decide +kernel) (by decide +kernel)
theorem wd_434 : Cond.instantiable RX5 5 ∈ fw_tb := fw_m 451 (by decide +kernel) (by decide +kernel)
theorem wd_435 : Cond.methodLink RX8 162 yX5_init ∈ fw_tb := fw_m 452 (by decide +kernel) (by decide +kernel)
theorem wd_436 : Cond.instanceMethod yX5_init ∈ fw_tb := fw_m 453 (by decide +kernel) (by decide +kernel)
theorem wd_437 : Cond.code yX5_init cX5_init 3 none ∈ fw_tb := fw_m 454 (by decide +kernel) (by decide +kernel)
theorem wd_438 : Cond.methodLink RX5 3 ⟨"java/lang/Object", "<init>", "()V"⟩ ∈ fw_tb := fw_m 455 (by decide +kernel) (by decide +kernel)
theorem wd_439 : Cond.classLink RX5 9 RJx4a65c ∈ fw_tb := fw_m 456 (by decide +kernel) (by decide +kernel)
theorem wd_440 : Cond.methodLink RX5 11 yJx4a65c_init_da8c8 ∈ fw_tb := fw_m 457 (by decide +kernel) (by decide +kernel)
theorem wd_441 : Cond.methodLink RX5 35 yJx4a65c_size_8abf5 ∈ fw_tb := fw_m 458 (by decide +kernel) (by decide +kernel)
theorem wd_442 : Cond.classLink RX5 39 RX4 ∈ fw_tb := fw_m 459 (by decide +kernel) (by decide +kernel)
theorem wd_443 : Cond.instantiable RX4 2 ∈ fw_tb := fw_m 460 (by decide +kernel) (by decide +kernel)
theorem wd_444 : Cond.methodLink RX5 41 yJx4a65c_get_915e3 ∈ fw_tb := fw_m 461 (by decide +kernel) (by decide +kernel)
theorem wd_445 : Cond.classLink RX5 45 RX6 ∈ fw_tb := fw_m 462 (by decide +kernel) (by decide +kernel)
theorem wd_446 : Cond.methodLink RX5 47 yX4_init ∈ fw_tb := fw_m 463 (by decide +kernel) (by decide +kernel)
theorem wd_447 : Cond.instanceMethod yX4_init ∈ fw_tb := fw_m 464 (by decide +kernel) (by decide +kernel)
theorem wd_448 : Cond.code yX4_init cX4_init 2 none ∈ fw_tb := fw_m 465 (by decide +kernel) (by decide +kernel)
theorem wd_449 : Cond.methodLink RX4 1 ⟨"java/lang/Object", "<init>", "()V"⟩ ∈ fw_tb := fw_m 466 (by decide +kernel) (by decide +kernel)
theorem wd_450 : Cond.fieldLink RX4 13 RX4 "gears" "LCogwright$Stage;" ∈ fw_tb := fw_m 467 (by decide +kernel) (by decide +kernel)
theorem wd_451 : Cond.fieldLink RX5 60 RX4 "gears" "LCogwright$Stage;" ∈ fw_tb := fw_m 468 (by decide +kernel) (by decide +kernel)
theorem wd_452 : Cond.fieldLink RX4 7 RX4 "worn" "I" ∈ fw_tb := fw_m 469 (by decide +kernel) (by decide +kernel)
theorem wd_453 : Cond.fieldLink RX5 57 RX4 "worn" "I" ∈ fw_tb := fw_m 470 (by decide +kernel) (by decide +kernel)
theorem wd_454 : Cond.fieldLink RX8 227 RX4 "worn" "I" ∈ fw_tb := fw_m 471 (by decide +kernel) (by decide +kernel)
theorem wd_460 : Cond.methodLink RX5 50 yJx4a65c_add_9ea2d ∈ fw_tb := fw_m 477 (by decide +kernel) (by decide +kernel)
theorem wd_461 : Cond.fieldLink RX5 26 RX5 "train" "LCogwright$Train;" ∈ fw_tb := fw_m 478 (by decide +kernel) (by decide +kernel)
theorem wd_462 : Cond.fieldLink RX8 211 RX5 "train" "LCogwright$Train;" ∈ fw_tb := fw_m 479 (by decide +kernel) (by decide +kernel)
theorem wd_463 : Cond.fieldLink RX5 12 RX5 "meshes" "Ljava/util/ArrayList;" ∈ fw_tb := fw_m 480 (by decide +kernel) (by decide +kernel)
theorem wd_464 : Cond.fieldLink RX8 217 RX5 "meshes" "Ljava/util/ArrayList;" ∈ fw_tb := fw_m 481 (by decide +kernel) (by decide +kernel)
theorem wd_465 : Cond.fieldLink RX5 54 RX5 "uncut" "I" ∈ fw_tb := fw_m 482 (by decide +kernel) (by decide +kernel)
theorem wd_466 : Cond.fieldLink RX8 194 RX5 "uncut" "I" ∈ fw_tb := fw_m 483 (by decide +kernel) (by decide +kernel)
theorem wd_467 : Cond.fieldLink RX5 18 RX5 "endedAt" "I" ∈ fw_tb := fw_m 484 (by decide +kernel) (by decide +kernel)
theorem wd_468 : Cond.fieldLink RX8 197 RX5 "endedAt" "I" ∈ fw_tb := fw_m 485 (by decide +kernel) (by decide +kernel)
theorem wd_469 : Cond.fieldLink RX5 22 RX5 "broken" "Z" ∈ fw_tb := fw_m 486 (by decide +kernel) (by decide +kernel)
theorem wd_470 : Cond.fieldLink RX8 202 RX5 "broken" "Z" ∈ fw_tb := fw_m 487 (by decide +kernel) (by decide +kernel)
theorem wd_482 : Cond.methodLink RX8 168 yX8_queue ∈ fw_tb := fw_m 499 (by decide +kernel) (by decide +kernel)
theorem wd_484 : Cond.instanceMethod yX8_queue ∈ fw_tb := fw_m 501 (by decide +kernel) (by decide +kernel)
theorem wd_485 : Cond.code yX8_queue cX8_queue 4 none ∈ fw_tb := fw_m 502 (by decide +kernel) (by decide +kernel)
theorem wd_486 : Cond.classLink RX8 256 RX2 ∈ fw_tb := fw_m 503 (by decide +kernel) (by decide +kernel)
theorem wd_487 : Cond.instantiable RX2 3 ∈ fw_tb := fw_m 504 (by decide +kernel) (by decide +kernel)
theorem wd_488 : Cond.methodLink RX8 258 yX2_init ∈ fw_tb := fw_m 505 (by decide +kernel) (by decide +kernel)
theorem wd_489 : Cond.instanceMethod yX2_init ∈ fw_tb := fw_m 506 (by decide +kernel) (by decide +kernel)
theorem wd_490 : Cond.code yX2_init cX2_init 4 none ∈ fw_tb := fw_m 507 (by decide +kernel) (by decide +kernel)
theorem wd_491 : Cond.methodLink RX2 1 ⟨"java/lang/Object", "<init>", "()V"⟩ ∈ fw_tb := fw_m 508 (by decide +kernel) (by decide +kernel)
theorem wd_492 : Cond.fieldLink RX2 7 RX2 "order" "LCogwright$Order;" ∈ fw_tb := fw_m 509 (by decide +kernel) (by decide +kernel)
theorem wd_493 : Cond.fieldLink RX3 28 RX2 "order" "LCogwright$Order;" ∈ fw_tb := fw_m 510 (by decide +kernel) (by decide +kernel)
theorem wd_494 : Cond.fieldLink RX2 13 RX2 "teeth" "I" ∈ fw_tb := fw_m 511 (by decide +kernel) (by decide +kernel)
theorem wd_495 : Cond.fieldLink RX3 25 RX2 "teeth" "I" ∈ fw_tb := fw_m 512 (by decide +kernel) (by decide +kernel)
theorem wd_496 : Cond.fieldLink RX2 17 RX2 "cutter" "I" ∈ fw_tb := fw_m 513 (by decide +kernel) (by decide +kernel)
theorem wd_497 : Cond.fieldLink RX3 22 RX2 "cutter" "I" ∈ fw_tb := fw_m 514 (by decide +kernel) (by decide +kernel)
theorem wd_498 : Cond.fieldLink RX8 282 RX2 "cutter" "I" ∈ fw_tb := fw_m 515 (by decide +kernel) (by decide +kernel)
theorem wd_506 : Cond.methodLink RL 82 yX8_pass ∈ fw_tb := fw_m 523 (by decide +kernel) (by decide +kernel)
theorem wd_507 : Cond.instanceMethod yX8_pass ∈ fw_tb := fw_m 524 (by decide +kernel) (by decide +kernel)
theorem wd_508 : Cond.selects RX8 yX8_pass yX8_pass ∈ fw_tb := fw_m 525 (by decide +kernel) (by decide +kernel)
theorem wd_509 : Cond.code yX8_pass cX8_pass 4 (some .int) ∈ fw_tb := fw_m 526 (by decide +kernel) (by decide +kernel)
theorem wd_511 : Cond.methodLink RX8 174 yX8_giveOutJobs ∈ fw_tb := fw_m 528 (by decide +kernel) (by decide +kernel)
theorem wd_513 : Cond.instanceMethod yX8_giveOutJobs ∈ fw_tb := fw_m 530 (by decide +kernel) (by decide +kernel)
theorem wd_514 : Cond.code yX8_giveOutJobs cX8_giveOutJobs 3 none ∈ fw_tb := fw_m 531 (by decide +kernel) (by decide +kernel)
theorem wd_515 : Cond.methodLink RX8 264 yX8_giveJob ∈ fw_tb := fw_m 532 (by decide +kernel) (by decide +kernel)
theorem wd_517 : Cond.instanceMethod yX8_giveJob ∈ fw_tb := fw_m 534 (by decide +kernel) (by decide +kernel)
theorem wd_518 : Cond.code yX8_giveJob cX8_giveJob 4 none ∈ fw_tb := fw_m 535 (by decide +kernel) (by decide +kernel)
theorem wd_519 : Cond.methodLink RX8 268 yX8_firstWithCutterOf ∈ fw_tb := fw_m 536 (by decide +kernel) (by decide +kernel)
theorem wd_521 : Cond.instanceMethod yX8_firstWithCutterOf ∈ fw_tb := fw_m 538 (by decide +kernel) (by decide +kernel)
theorem wd_522 : Cond.code yX8_firstWithCutterOf cX8_firstWithCutterOf 3 (some .int) ∈ fw_tb := fw_m 539 (by decide +kernel) (by decide +kernel)
theorem wd_523 : Cond.methodLink RX8 272 yX8_firstWithFreeCutter ∈ fw_tb := fw_m 540 (by decide +kernel) (by decide +kernel)
theorem wd_525 : Cond.instanceMethod yX8_firstWithFreeCutter ∈ fw_tb := fw_m 542 (by decide +kernel) (by decide +kernel)
theorem wd_526 : Cond.code yX8_firstWithFreeCutter cX8_firstWithFreeCutter 3 (some .int) ∈ fw_tb := fw_m 543 (by decide +kernel) (by decide +kernel)
theorem wd_527 : Cond.methodLink RX8 283 yX8_isOnAnother ∈ fw_tb := fw_m 544 (by decide +kernel) (by decide +kernel)
theorem wd_529 : Cond.instanceMethod yX8_isOnAnother ∈ fw_tb := fw_m 546 (by decide +kernel) (by decide +kernel)
theorem wd_530 : Cond.code yX8_isOnAnother cX8_isOnAnother 5 (some .boolean) ∈ fw_tb := fw_m 547 (by decide +kernel) (by decide +kernel)
theorem wd_531 : Cond.methodLink RX8 275 yX3_begin ∈ fw_tb := fw_m 548 (by decide +kernel) (by decide +kernel)
theorem wd_532 : Cond.instanceMethod yX3_begin ∈ fw_tb := fw_m 549 (by decide +kernel) (by decide +kernel)
theorem wd_533 : Cond.selects RX3 yX3_begin yX3_begin ∈ fw_tb := fw_m 550 (by decide +kernel) (by decide +kernel)
theorem wd_534 : Cond.code yX3_begin cX3_begin 3 none ∈ fw_tb := fw_m 551 (by decide +kernel) (by decide +kernel)
theorem wd_535 : Cond.methodLink RX8 279 yJx4a65c_remove_915e3 ∈ fw_tb := fw_m 552 (by decide +kernel) (by decide +kernel)
theorem wd_536 : Cond.instanceMethod yJx4a65c_remove_915e3 ∈ fw_tb := fw_m 553 (by decide +kernel) (by decide +kernel)
theorem wd_537 : Cond.selects RJx4a65c yJx4a65c_remove_915e3 yJx4a65c_remove_915e3 ∈ fw_tb := fw_m 554 (by decide +kernel) (by decide +kernel)
theorem wd_538 : Cond.code yJx4a65c_remove_915e3 cJx4a65c_remove_915e3 4 (some (.object "java/lang/Object")) ∈ fw_tb := fw_m 555 (by decide +kernel) (by decide +kernel)
theorem wd_539 : Cond.methodLink RJx4a65c 144 yJx4a65c_fastRemove_b59b0 ∈ fw_tb := fw_m 556 (by decide +kernel) (by decide +kernel)
theorem wd_541 : Cond.instanceMethod yJx4a65c_fastRemove_b59b0 ∈ fw_tb := fw_m 558 (by decide +kernel) (by decide +kernel)
theorem wd_542 : Cond.code yJx4a65c_fastRemove_b59b0 cJx4a65c_fastRemove_b59b0 4 none ∈ fw_tb := fw_m 559 (by decide +kernel) (by decide +kernel)
theorem wd_543 : Cond.methodLink RJx4a65c 112 ⟨RJ10, "arraycopy", "(Ljava/lang/Object;ILjava/lang/Object;II)V"⟩ ∈ fw_tb := fw_m 560 (by decide +kernel) (by decide +kernel)
theorem wd_544 : Cond.methodLink RX8 177 yX8_workOneTick ∈ fw_tb := fw_m 561 (by decide +kernel) (by decide +kernel)
theorem wd_546 : Cond.instanceMethod yX8_workOneTick ∈ fw_tb := fw_m 563 (by decide +kernel) (by decide +kernel)
theorem wd_547 : Cond.code yX8_workOneTick cX8_workOneTick 4 (some .int) ∈ fw_tb := fw_m 564 (by decide +kernel) (by decide +kernel)
theorem wd_548 : Cond.methodLink RX8 287 yX3_work ∈ fw_tb := fw_m 565 (by decide +kernel) (by decide +kernel)
theorem wd_549 : Cond.instanceMethod yX3_work ∈ fw_tb := fw_m 566 (by decide +kernel) (by decide +kernel)
theorem wd_550 : Cond.selects RX3 yX3_work yX3_work ∈ fw_tb := fw_m 567 (by decide +kernel) (by decide +kernel)
theorem wd_551 : Cond.code yX3_work cX3_work 2 (some (.object "Cogwright$Order")) ∈ fw_tb := fw_m 568 (by decide +kernel) (by decide +kernel)
theorem wd_552 : Cond.methodLink RX8 291 yX5_countCutGear ∈ fw_tb := fw_m 569 (by decide +kernel) (by decide +kernel)
theorem wd_553 : Cond.instanceMethod yX5_countCutGear ∈ fw_tb := fw_m 570 (by decide +kernel) (by decide +kernel)
theorem wd_554 : Cond.selects RX5 yX5_countCutGear yX5_countCutGear ∈ fw_tb := fw_m 571 (by decide +kernel) (by decide +kernel)
theorem wd_555 : Cond.code yX5_countCutGear cX5_countCutGear 2 none ∈ fw_tb := fw_m 572 (by decide +kernel) (by decide +kernel)
theorem wd_556 : Cond.methodLink RL 23 yX8_time ∈ fw_tb := fw_m 573 (by decide +kernel) (by decide +kernel)
theorem wd_557 : Cond.instanceMethod yX8_time ∈ fw_tb := fw_m 574 (by decide +kernel) (by decide +kernel)
theorem wd_558 : Cond.selects RX8 yX8_time yX8_time ∈ fw_tb := fw_m 575 (by decide +kernel) (by decide +kernel)
theorem wd_559 : Cond.code yX8_time cX8_time 1 (some .int) ∈ fw_tb := fw_m 576 (by decide +kernel) (by decide +kernel)
theorem wd_560 : Cond.methodLink RL 20 yX8_doneAt ∈ fw_tb := fw_m 577 (by decide +kernel) (by decide +kernel)
theorem wd_561 : Cond.instanceMethod yX8_doneAt ∈ fw_tb := fw_m 578 (by decide +kernel) (by decide +kernel)
theorem wd_562 : Cond.selects RX8 yX8_doneAt yX8_doneAt ∈ fw_tb := fw_m 579 (by decide +kernel) (by decide +kernel)
theorem wd_563 : Cond.code yX8_doneAt cX8_doneAt 2 (some .int) ∈ fw_tb := fw_m 580 (by decide +kernel) (by decide +kernel)
theorem wd_564 : Cond.methodLink RX8 190 yX8_orderAt ∈ fw_tb := fw_m 581 (by decide +kernel) (by decide +kernel)
theorem wd_566 : Cond.instanceMethod yX8_orderAt ∈ fw_tb := fw_m 583 (by decide +kernel) (by decide +kernel)
theorem wd_567 : Cond.code yX8_orderAt cX8_orderAt 2 (some (.object "Cogwright$Order")) ∈ fw_tb := fw_m 584 (by decide +kernel) (by decide +kernel)
theorem wd_569 : Cond.methodLink RL 78 yX8_test ∈ fw_tb := fw_m 586 (by decide +kernel) (by decide +kernel)
theorem wd_570 : Cond.instanceMethod yX8_test ∈ fw_tb := fw_m 587 (by decide +kernel) (by decide +kernel)
theorem wd_571 : Cond.selects RX8 yX8_test yX8_test ∈ fw_tb := fw_m 588 (by decide +kernel) (by decide +kernel)
theorem wd_572 : Cond.code yX8_test cX8_test 5 (some .boolean) ∈ fw_tb := fw_m 589 (by decide +kernel) (by decide +kernel)
theorem wd_575 : Cond.methodLink RX8 208 yX5_wearDown ∈ fw_tb := fw_m 592 (by decide +kernel) (by decide +kernel)
theorem wd_576 : Cond.instanceMethod yX5_wearDown ∈ fw_tb := fw_m 593 (by decide +kernel) (by decide +kernel)
theorem wd_577 : Cond.selects RX5 yX5_wearDown yX5_wearDown ∈ fw_tb := fw_m 594 (by decide +kernel) (by decide +kernel)
theorem wd_578 : Cond.code yX5_wearDown cX5_wearDown 4 none ∈ fw_tb := fw_m 595 (by decide +kernel) (by decide +kernel)
theorem wd_579 : Cond.methodLink RX5 64 yX6_wearOf ∈ fw_tb := fw_m 596 (by decide +kernel) (by decide +kernel)
theorem wd_580 : Cond.instanceMethod yX6_wearOf ∈ fw_tb := fw_m 597 (by decide +kernel) (by decide +kernel)
theorem wd_581 : Cond.selects RX6 yX6_wearOf yX6_wearOf ∈ fw_tb := fw_m 598 (by decide +kernel) (by decide +kernel)
theorem wd_582 : Cond.code yX6_wearOf cX6_wearOf 2 (some .int) ∈ fw_tb := fw_m 599 (by decide +kernel) (by decide +kernel)
theorem wd_583 : Cond.methodLink RX5 68 yX6_mostWear ∈ fw_tb := fw_m 600 (by decide +kernel) (by decide +kernel)
theorem wd_584 : Cond.instanceMethod yX6_mostWear ∈ fw_tb := fw_m 601 (by decide +kernel) (by decide +kernel)
theorem wd_585 : Cond.selects RX6 yX6_mostWear yX6_mostWear ∈ fw_tb := fw_m 602 (by decide +kernel) (by decide +kernel)
theorem wd_586 : Cond.code yX6_mostWear cX6_mostWear 1 (some .int) ∈ fw_tb := fw_m 603 (by decide +kernel) (by decide +kernel)
theorem wd_587 : Cond.methodLink RX6 21 yJ9_min_7cf53 ∈ fw_tb := fw_m 604 (by decide +kernel) (by decide +kernel)
theorem wd_588 : Cond.methodLink RL 75 yX8_wear ∈ fw_tb := fw_m 605 (by decide +kernel) (by decide +kernel)
theorem wd_589 : Cond.instanceMethod yX8_wear ∈ fw_tb := fw_m 606 (by decide +kernel) (by decide +kernel)
theorem wd_590 : Cond.selects RX8 yX8_wear yX8_wear ∈ fw_tb := fw_m 607 (by decide +kernel) (by decide +kernel)
theorem wd_591 : Cond.code yX8_wear cX8_wear 4 (some .int) ∈ fw_tb := fw_m 608 (by decide +kernel) (by decide +kernel)
theorem wd_593 : Cond.classLink RX8 225 RX4 ∈ fw_tb := fw_m 610 (by decide +kernel) (by decide +kernel)
theorem wd_594 : Cond.methodLink RL 72 yX8_claims ∈ fw_tb := fw_m 611 (by decide +kernel) (by decide +kernel)
theorem wd_595 : Cond.instanceMethod yX8_claims ∈ fw_tb := fw_m 612 (by decide +kernel) (by decide +kernel)
theorem wd_596 : Cond.selects RX8 yX8_claims yX8_claims ∈ fw_tb := fw_m 613 (by decide +kernel) (by decide +kernel)
theorem wd_597 : Cond.code yX8_claims cX8_claims 2 (some .int) ∈ fw_tb := fw_m 614 (by decide +kernel) (by decide +kernel)
theorem wd_598 : Cond.methodLink RL 44 yL_cell ∈ fw_tb := fw_m 615 (by decide +kernel) (by decide +kernel)
theorem wd_599 : Cond.static yL_cell ∈ fw_tb := fw_m 616 (by decide +kernel) (by decide +kernel)
theorem wd_600 : Cond.code yL_cell cL_cell 2 (some .int) ∈ fw_tb := fw_m 617 (by decide +kernel) (by decide +kernel)
theorem wd_601 : Cond.methodLink RL 50 yL_low ∈ fw_tb := fw_m 618 (by decide +kernel) (by decide +kernel)
theorem wd_602 : Cond.static yL_low ∈ fw_tb := fw_m 619 (by decide +kernel) (by decide +kernel)
theorem wd_603 : Cond.code yL_low cL_low 2 (some .int) ∈ fw_tb := fw_m 620 (by decide +kernel) (by decide +kernel)
theorem wd_604 : Cond.constant RL 7 2147483647 ∈ fw_tb := fw_m 621 (by decide +kernel) (by decide +kernel)
theorem wd_605 : Cond.methodLink RL 85 yL_areJobs ∈ fw_tb := fw_m 622 (by decide +kernel) (by decide +kernel)
theorem wd_606 : Cond.static yL_areJobs ∈ fw_tb := fw_m 623 (by decide +kernel) (by decide +kernel)
theorem wd_607 : Cond.code yL_areJobs cL_areJobs 9 (some .boolean) ∈ fw_tb := fw_m 624 (by decide +kernel) (by decide +kernel)
theorem wd_608 : Cond.methodLink RL 8 yX8_cutterOn ∈ fw_tb := fw_m 625 (by decide +kernel) (by decide +kernel)
theorem wd_609 : Cond.instanceMethod yX8_cutterOn ∈ fw_tb := fw_m 626 (by decide +kernel) (by decide +kernel)
theorem wd_610 : Cond.selects RX8 yX8_cutterOn yX8_cutterOn ∈ fw_tb := fw_m 627 (by decide +kernel) (by decide +kernel)
theorem wd_611 : Cond.code yX8_cutterOn cX8_cutterOn 2 (some .int) ∈ fw_tb := fw_m 628 (by decide +kernel) (by decide +kernel)
theorem wd_612 : Cond.methodLink RX8 180 yX8_machineAt ∈ fw_tb := fw_m 629 (by decide +kernel) (by decide +kernel)
theorem wd_614 : Cond.instanceMethod yX8_machineAt ∈ fw_tb := fw_m 631 (by decide +kernel) (by decide +kernel)
theorem wd_615 : Cond.code yX8_machineAt cX8_machineAt 2 (some (.object "Cogwright$Machine")) ∈ fw_tb := fw_m 632 (by decide +kernel) (by decide +kernel)
theorem wd_617 : Cond.methodLink RL 14 yX8_ticksLeft ∈ fw_tb := fw_m 634 (by decide +kernel) (by decide +kernel)
theorem wd_618 : Cond.instanceMethod yX8_ticksLeft ∈ fw_tb := fw_m 635 (by decide +kernel) (by decide +kernel)
theorem wd_619 : Cond.selects RX8 yX8_ticksLeft yX8_ticksLeft ∈ fw_tb := fw_m 636 (by decide +kernel) (by decide +kernel)
theorem wd_620 : Cond.code yX8_ticksLeft cX8_ticksLeft 2 (some .int) ∈ fw_tb := fw_m 637 (by decide +kernel) (by decide +kernel)
theorem wd_621 : Cond.methodLink RL 17 yX8_gearsLeft ∈ fw_tb := fw_m 638 (by decide +kernel) (by decide +kernel)
theorem wd_622 : Cond.instanceMethod yX8_gearsLeft ∈ fw_tb := fw_m 639 (by decide +kernel) (by decide +kernel)
theorem wd_623 : Cond.selects RX8 yX8_gearsLeft yX8_gearsLeft ∈ fw_tb := fw_m 640 (by decide +kernel) (by decide +kernel)
theorem wd_624 : Cond.code yX8_gearsLeft cX8_gearsLeft 2 (some .int) ∈ fw_tb := fw_m 641 (by decide +kernel) (by decide +kernel)
theorem wd_625 : Cond.methodLink RL 27 yX8_waiting ∈ fw_tb := fw_m 642 (by decide +kernel) (by decide +kernel)
theorem wd_626 : Cond.instanceMethod yX8_waiting ∈ fw_tb := fw_m 643 (by decide +kernel) (by decide +kernel)
theorem wd_627 : Cond.selects RX8 yX8_waiting yX8_waiting ∈ fw_tb := fw_m 644 (by decide +kernel) (by decide +kernel)
theorem wd_628 : Cond.code yX8_waiting cX8_waiting 1 (some .int) ∈ fw_tb := fw_m 645 (by decide +kernel) (by decide +kernel)
theorem wd_629 : Cond.methodLink RL 90 yL_isTrain ∈ fw_tb := fw_m 646 (by decide +kernel) (by decide +kernel)
theorem wd_630 : Cond.static yL_isTrain ∈ fw_tb := fw_m 647 (by decide +kernel) (by decide +kernel)
theorem wd_631 : Cond.code yL_isTrain cL_isTrain 9 (some .boolean) ∈ fw_tb := fw_m 648 (by decide +kernel) (by decide +kernel)
theorem wd_632 : Cond.methodLink RL 30 yX8_numerator ∈ fw_tb := fw_m 649 (by decide +kernel) (by decide +kernel)
theorem wd_633 : Cond.instanceMethod yX8_numerator ∈ fw_tb := fw_m 650 (by decide +kernel) (by decide +kernel)
theorem wd_634 : Cond.selects RX8 yX8_numerator yX8_numerator ∈ fw_tb := fw_m 651 (by decide +kernel) (by decide +kernel)
theorem wd_635 : Cond.code yX8_numerator cX8_numerator 2 (some .int) ∈ fw_tb := fw_m 652 (by decide +kernel) (by decide +kernel)
theorem wd_636 : Cond.methodLink RL 33 yX8_denominator ∈ fw_tb := fw_m 653 (by decide +kernel) (by decide +kernel)
theorem wd_637 : Cond.instanceMethod yX8_denominator ∈ fw_tb := fw_m 654 (by decide +kernel) (by decide +kernel)
theorem wd_638 : Cond.selects RX8 yX8_denominator yX8_denominator ∈ fw_tb := fw_m 655 (by decide +kernel) (by decide +kernel)
theorem wd_639 : Cond.code yX8_denominator cX8_denominator 2 (some .int) ∈ fw_tb := fw_m 656 (by decide +kernel) (by decide +kernel)
theorem wd_640 : Cond.methodLink RL 36 yX8_turned ∈ fw_tb := fw_m 657 (by decide +kernel) (by decide +kernel)
theorem wd_641 : Cond.instanceMethod yX8_turned ∈ fw_tb := fw_m 658 (by decide +kernel) (by decide +kernel)
theorem wd_642 : Cond.selects RX8 yX8_turned yX8_turned ∈ fw_tb := fw_m 659 (by decide +kernel) (by decide +kernel)
theorem wd_643 : Cond.code yX8_turned cX8_turned 5 (some .int) ∈ fw_tb := fw_m 660 (by decide +kernel) (by decide +kernel)
theorem wd_644 : Cond.methodLink RX8 134 yX8_checkTurns ∈ fw_tb := fw_m 661 (by decide +kernel) (by decide +kernel)
theorem wd_645 : Cond.static yX8_checkTurns ∈ fw_tb := fw_m 662 (by decide +kernel) (by decide +kernel)
theorem wd_646 : Cond.code yX8_checkTurns cX8_checkTurns 1 none ∈ fw_tb := fw_m 663 (by decide +kernel) (by decide +kernel)
theorem wd_647 : Cond.constant RX8 243 600000 ∈ fw_tb := fw_m 664 (by decide +kernel) (by decide +kernel)
theorem wd_649 : Cond.classLink RX8 126 RX1 ∈ fw_tb := fw_m 666 (by decide +kernel) (by decide +kernel)
theorem wd_650 : Cond.methodLink RX8 138 yX1_init ∈ fw_tb := fw_m 667 (by decide +kernel) (by decide +kernel)
theorem wd_651 : Cond.methodLink RX8 141 yX1_multiply ∈ fw_tb := fw_m 668 (by decide +kernel) (by decide +kernel)
theorem wd_652 : Cond.methodLink RX8 145 yX1_roundedDown ∈ fw_tb := fw_m 669 (by decide +kernel) (by decide +kernel)
theorem wd_653 : Cond.instanceMethod yX1_roundedDown ∈ fw_tb := fw_m 670 (by decide +kernel) (by decide +kernel)
theorem wd_654 : Cond.selects RX1 yX1_roundedDown yX1_roundedDown ∈ fw_tb := fw_m 671 (by decide +kernel) (by decide +kernel)
theorem wd_655 : Cond.code yX1_roundedDown cX1_roundedDown 1 (some .int) ∈ fw_tb := fw_m 672 (by decide +kernel) (by decide +kernel)
theorem wd_656 : Cond.methodLink RL 40 yX8_turnedByWalk ∈ fw_tb := fw_m 673 (by decide +kernel) (by decide +kernel)
theorem wd_657 : Cond.instanceMethod yX8_turnedByWalk ∈ fw_tb := fw_m 674 (by decide +kernel) (by decide +kernel)
theorem wd_658 : Cond.selects RX8 yX8_turnedByWalk yX8_turnedByWalk ∈ fw_tb := fw_m 675 (by decide +kernel) (by decide +kernel)
theorem wd_659 : Cond.code yX8_turnedByWalk cX8_turnedByWalk 6 (some .int) ∈ fw_tb := fw_m 676 (by decide +kernel) (by decide +kernel)
theorem wd_660 : Cond.constant RL 89 600001 ∈ fw_tb := fw_m 677 (by decide +kernel) (by decide +kernel)
theorem wd_661 : Cond.arrayClass .int ∈ fw_tb := fw_m 678 (by decide +kernel) (by decide +kernel)
theorem wd_662 : Cond.sameMethod "java/lang/Throwable" "java/lang/Throwable" "fillInStackTrace" "(I)Ljava/lang/Throwable;" ∈ fw_tb := fw_m 679 (by decide +kernel) (by decide +kernel)
theorem wd_678 : Cond.sameMethod "[Ljava/lang/Object;" "java/lang/Object" "getClass" "()Ljava/lang/Class;" ∈ fw_tb := fw_m 695 (by decide +kernel) (by decide +kernel)
theorem wd_679 : Cond.selects "[Ljava/lang/Object;" ⟨"java/lang/Object", "getClass", "()Ljava/lang/Class;"⟩ ⟨"java/lang/Object", "getClass", "()Ljava/lang/Class;"⟩ ∈ fw_tb := fw_m 696 (by decide +kernel) (by decide +kernel)
theorem ws_0 : Cond.selects RJx4a65c yJx4a65c_add_72be8 yJx4a65c_add_72be8 ∈ fw_tb := fw_m 0 (by decide +kernel) (by decide +kernel)
theorem ws_1 : Cond.selects RJx4a65c yJx4a65c_grow_d5877 yJx4a65c_grow_d5877 ∈ fw_tb := fw_m 1 (by decide +kernel) (by decide +kernel)
theorem ws_2 : Cond.selects RJx4a65c yJx4a65c_grow_92f84 yJx4a65c_grow_92f84 ∈ fw_tb := fw_m 2 (by decide +kernel) (by decide +kernel)
theorem ws_4 : Cond.selects RX8 yX8_lowestCutter yX8_lowestCutter ∈ fw_tb := fw_m 4 (by decide +kernel) (by decide +kernel)
theorem ws_5 : Cond.selects RX8 yX8_hasAllCutters yX8_hasAllCutters ∈ fw_tb := fw_m 5 (by decide +kernel) (by decide +kernel)
theorem ws_6 : Cond.selects RX8 yX8_trainAt yX8_trainAt ∈ fw_tb := fw_m 6 (by decide +kernel) (by decide +kernel)
theorem ws_7 : Cond.selects RX8 yX8_queue yX8_queue ∈ fw_tb := fw_m 7 (by decide +kernel) (by decide +kernel)
theorem ws_8 : Cond.selects RX8 yX8_giveOutJobs yX8_giveOutJobs ∈ fw_tb := fw_m 8 (by decide +kernel) (by decide +kernel)
theorem ws_9 : Cond.selects RX8 yX8_giveJob yX8_giveJob ∈ fw_tb := fw_m 9 (by decide +kernel) (by decide +kernel)
theorem ws_10 : Cond.selects RX8 yX8_firstWithCutterOf yX8_firstWithCutterOf ∈ fw_tb := fw_m 10 (by decide +kernel) (by decide +kernel)
theorem ws_11 : Cond.selects RX8 yX8_firstWithFreeCutter yX8_firstWithFreeCutter ∈ fw_tb := fw_m 11 (by decide +kernel) (by decide +kernel)
theorem ws_12 : Cond.selects RX8 yX8_isOnAnother yX8_isOnAnother ∈ fw_tb := fw_m 12 (by decide +kernel) (by decide +kernel)
theorem ws_13 : Cond.selects RJx4a65c yJx4a65c_fastRemove_b59b0 yJx4a65c_fastRemove_b59b0 ∈ fw_tb := fw_m 13 (by decide +kernel) (by decide +kernel)
theorem ws_14 : Cond.selects RX8 yX8_workOneTick yX8_workOneTick ∈ fw_tb := fw_m 14 (by decide +kernel) (by decide +kernel)
theorem ws_15 : Cond.selects RX8 yX8_orderAt yX8_orderAt ∈ fw_tb := fw_m 15 (by decide +kernel) (by decide +kernel)
theorem ws_16 : Cond.selects RX8 yX8_machineAt yX8_machineAt ∈ fw_tb := fw_m 16 (by decide +kernel) (by decide +kernel)
theorem fi_RX0 : ∀ w ∈ u_ws RX0 TX0 3, w ∈ fw_tb := fun w h => List.mem_filter.mpr ⟨((goodIn_r (big := lw_tbl) (u_ws RX0 TX0 3) [324, 326, 328] (by decide +kernel) (by decide +kernel)) w h).1, List.all_eq_true.mp (show (u_ws RX0 TX0 3).all goodWord = true by decide +kernel) w h⟩
theorem fi_RX1 : ∀ w ∈ u_ws RX1 TX1 2, w ∈ fw_tb := fun w h => List.mem_filter.mpr ⟨((goodIn_r (big := lw_tbl) (u_ws RX1 TX1 2) [94, 96] (by decide +kernel) (by decide +kernel)) w h).1, List.all_eq_true.mp (show (u_ws RX1 TX1 2).all goodWord = true by decide +kernel) w h⟩
theorem fi_RX2 : ∀ w ∈ u_ws RX2 TX2 3, w ∈ fw_tb := fun w h => List.mem_filter.mpr ⟨((goodIn_r (big := lw_tbl) (u_ws RX2 TX2 3) [516, 518, 520] (by decide +kernel) (by decide +kernel)) w h).1, List.all_eq_true.mp (show (u_ws RX2 TX2 3).all goodWord = true by decide +kernel) w h⟩
theorem fi_RX3 : ∀ w ∈ u_ws RX3 TX3 3, w ∈ fw_tb := fun w h => List.mem_filter.mpr ⟨((goodIn_r (big := lw_tbl) (u_ws RX3 TX3 3) [125, 127, 129] (by decide +kernel) (by decide +kernel)) w h).1, List.all_eq_true.mp (show (u_ws RX3 TX3 3).all goodWord = true by decide +kernel) w h⟩
theorem fi_RX4 : ∀ w ∈ u_ws RX4 TX4 2, w ∈ fw_tb := fun w h => List.mem_filter.mpr ⟨((goodIn_r (big := lw_tbl) (u_ws RX4 TX4 2) [472, 474] (by decide +kernel) (by decide +kernel)) w h).1, List.all_eq_true.mp (show (u_ws RX4 TX4 2).all goodWord = true by decide +kernel) w h⟩
theorem fi_RX5 : ∀ w ∈ u_ws RX5 TX5 5, w ∈ fw_tb := fun w h => List.mem_filter.mpr ⟨((goodIn_r (big := lw_tbl) (u_ws RX5 TX5 5) [488, 490, 492, 494, 496] (by decide +kernel) (by decide +kernel)) w h).1, List.all_eq_true.mp (show (u_ws RX5 TX5 5).all goodWord = true by decide +kernel) w h⟩
theorem fi_RX6 : ∀ w ∈ u_ws RX6 TX6 3, w ∈ fw_tb := fun w h => List.mem_filter.mpr ⟨((goodIn_r (big := lw_tbl) (u_ws RX6 TX6 3) [379, 381, 383] (by decide +kernel) (by decide +kernel)) w h).1, List.all_eq_true.mp (show (u_ws RX6 TX6 3).all goodWord = true by decide +kernel) w h⟩
theorem fi_RX7 : ∀ w ∈ u_ws RX7 TX7 3, w ∈ fw_tb := fun w h => List.mem_filter.mpr ⟨((goodIn_r (big := lw_tbl) (u_ws RX7 TX7 3) [106, 108, 110] (by decide +kernel) (by decide +kernel)) w h).1, List.all_eq_true.mp (show (u_ws RX7 TX7 3).all goodWord = true by decide +kernel) w h⟩
theorem fi_RX8 : ∀ w ∈ u_ws RX8 TX8 7, w ∈ fw_tb := fun w h => List.mem_filter.mpr ⟨((goodIn_r (big := lw_tbl) (u_ws RX8 TX8 7) [199, 201, 203, 205, 207, 209, 211] (by decide +kernel) (by decide +kernel)) w h).1, List.all_eq_true.mp (show (u_ws RX8 TX8 7).all goodWord = true by decide +kernel) w h⟩
theorem fi_RJx4a65c : ∀ w ∈ u_ws RJx4a65c TJx4a65c 3, w ∈ fw_tb := fun w h => List.mem_filter.mpr ⟨((goodIn_r (big := lw_tbl) (u_ws RJx4a65c TJx4a65c 3) [73, 69, 71] (by decide +kernel) (by decide +kernel)) w h).1, List.all_eq_true.mp (show (u_ws RJx4a65c TJx4a65c 3).all goodWord = true by decide +kernel) w h⟩
theorem yIX8_init : fw_yI RX8 yX8_init cX8_init 2 0 := ⟨wd_28, wd_1, wd_29, rfl, by decide +kernel, by decide +kernel, by decide +kernel, by decide +kernel⟩
theorem yIJx4a65c_init_da8c8 : fw_yI RJx4a65c yJx4a65c_init_da8c8 cJx4a65c_init_da8c8 1 0 := ⟨wd_36, wd_4, wd_37, rfl, by decide +kernel, by decide +kernel, by decide +kernel, by decide +kernel⟩
theorem yIJxc12de_init_da8c8 : fw_yI RJxc12de yJxc12de_init_da8c8 cJxc12de_init_da8c8 1 0 := ⟨wd_39, wd_3, wd_40, rfl, by decide +kernel, by decide +kernel, by decide +kernel, by decide +kernel⟩
theorem yIJxa1e45_init_da8c8 : fw_yI RJxa1e45 yJxa1e45_init_da8c8 cJxa1e45_init_da8c8 1 0 := ⟨wd_42, wd_2, wd_43, rfl, by decide +kernel, by decide +kernel, by decide +kernel, by decide +kernel⟩
theorem yIX7_init : fw_yI RX7 yX7_init cX7_init 1 0 := ⟨wd_62, wd_5, wd_63, rfl, by decide +kernel, by decide +kernel, by decide +kernel, by decide +kernel⟩
theorem yIX1_init : fw_yI RX1 yX1_init cX1_init 3 1 := ⟨wd_70, wd_6, wd_71, rfl, by decide +kernel, by decide +kernel, by decide +kernel, by decide +kernel⟩
theorem yIX3_init : fw_yI RX3 yX3_init cX3_init 1 0 := ⟨wd_99, wd_7, wd_100, rfl, by decide +kernel, by decide +kernel, by decide +kernel, by decide +kernel⟩
theorem yVJx4a65c_add_9ea2d : fw_yV RJx4a65c yJx4a65c_add_9ea2d cJx4a65c_add_9ea2d 2 (some .boolean) 1 := ⟨wd_116, wd_117, wd_4, wd_118, by decide +kernel, by decide +kernel, by decide +kernel, by decide +kernel⟩
theorem yVJx4a65c_add_72be8 : fw_yV RJx4a65c yJx4a65c_add_72be8 cJx4a65c_add_72be8 4 none 3 := ⟨wd_121, ws_0, wd_4, wd_122, by decide +kernel, by decide +kernel, by decide +kernel, by decide +kernel⟩
theorem yVJx4a65c_grow_d5877 : fw_yV RJx4a65c yJx4a65c_grow_d5877 cJx4a65c_grow_d5877 1 (some (.array (.object "java/lang/Object"))) 0 := ⟨wd_125, ws_1, wd_4, wd_126, by decide +kernel, by decide +kernel, by decide +kernel, by decide +kernel⟩
theorem yVJx4a65c_grow_92f84 : fw_yV RJx4a65c yJx4a65c_grow_92f84 cJx4a65c_grow_92f84 4 (some (.array (.object "java/lang/Object"))) 1 := ⟨wd_129, ws_2, wd_4, wd_130, by decide +kernel, by decide +kernel, by decide +kernel, by decide +kernel⟩
theorem ySJ8_newLength_cabcc : fw_yS RJ8 yJ8_newLength_cabcc cJ8_newLength_cabcc 4 (some .int) 3 := ⟨wd_132, wd_8, wd_133, by decide +kernel, by decide +kernel, by decide +kernel, by decide +kernel⟩
theorem ySJ9_max_7cf53 : fw_yS RJ9 yJ9_max_7cf53 cJ9_max_7cf53 2 (some .int) 2 := ⟨wd_135, wd_9, wd_136, by decide +kernel, by decide +kernel, by decide +kernel, by decide +kernel⟩
theorem ySJ8_hugeLength_7cf53 : fw_yS RJ8 yJ8_hugeLength_7cf53 cJ8_hugeLength_7cf53 3 (some .int) 2 := ⟨wd_139, wd_8, wd_140, by decide +kernel, by decide +kernel, by decide +kernel, by decide +kernel⟩
theorem ySJ7_copyOf_1904c : fw_yS RJ7 yJ7_copyOf_1904c cJ7_copyOf_1904c 2 (some (.array (.object "java/lang/Object"))) 2 := ⟨wd_142, wd_10, wd_143, by decide +kernel, by decide +kernel, by decide +kernel, by decide +kernel⟩
theorem ySJ7_copyOf_6403c : fw_yS RJ7 yJ7_copyOf_6403c cJ7_copyOf_6403c 4 (some (.array (.object "java/lang/Object"))) 3 := ⟨wd_162, wd_10, wd_163, by decide +kernel, by decide +kernel, by decide +kernel, by decide +kernel⟩
theorem ySJ9_min_7cf53 : fw_yS RJ9 yJ9_min_7cf53 cJ9_min_7cf53 2 (some .int) 2 := ⟨wd_168, wd_9, wd_169, by decide +kernel, by decide +kernel, by decide +kernel, by decide +kernel⟩
theorem yVX8_addCutter : fw_yV RX8 yX8_addCutter cX8_addCutter 4 (some .int) 3 := ⟨wd_198, wd_199, wd_1, wd_200, by decide +kernel, by decide +kernel, by decide +kernel, by decide +kernel⟩
theorem ySX8_isNoModule : fw_yS RX8 yX8_isNoModule cX8_isNoModule 1 (some .boolean) 1 := ⟨wd_202, wd_1, wd_203, by decide +kernel, by decide +kernel, by decide +kernel, by decide +kernel⟩
theorem ySX8_isOutside : fw_yS RX8 yX8_isOutside cX8_isOutside 3 (some .boolean) 3 := ⟨wd_205, wd_1, wd_206, by decide +kernel, by decide +kernel, by decide +kernel, by decide +kernel⟩
theorem ySX8_isNoToothCount : fw_yS RX8 yX8_isNoToothCount cX8_isNoToothCount 1 (some .boolean) 1 := ⟨wd_208, wd_1, wd_209, by decide +kernel, by decide +kernel, by decide +kernel, by decide +kernel⟩
theorem yVJx4a65c_size_8abf5 : fw_yV RJx4a65c yJx4a65c_size_8abf5 cJx4a65c_size_8abf5 1 (some .int) 0 := ⟨wd_279, wd_280, wd_4, wd_281, by decide +kernel, by decide +kernel, by decide +kernel, by decide +kernel⟩
theorem yIX0_init : fw_yI RX0 yX0_init cX0_init 4 3 := ⟨wd_301, wd_17, wd_302, rfl, by decide +kernel, by decide +kernel, by decide +kernel, by decide +kernel⟩
theorem yVX8_cutterFor : fw_yV RX8 yX8_cutterFor cX8_cutterFor 3 (some .int) 2 := ⟨wd_315, wd_316, wd_1, wd_317, by decide +kernel, by decide +kernel, by decide +kernel, by decide +kernel⟩
theorem yVX8_lowestCutter : fw_yV RX8 yX8_lowestCutter cX8_lowestCutter 4 (some .int) 2 := ⟨wd_321, ws_4, wd_1, wd_322, by decide +kernel, by decide +kernel, by decide +kernel, by decide +kernel⟩
theorem yVJx4a65c_get_915e3 : fw_yV RJx4a65c yJx4a65c_get_915e3 cJx4a65c_get_915e3 2 (some (.object "java/lang/Object")) 1 := ⟨wd_324, wd_325, wd_4, wd_326, by decide +kernel, by decide +kernel, by decide +kernel, by decide +kernel⟩
theorem ySJ15_checkIndex_7cf53 : fw_yS RJ15 yJ15_checkIndex_7cf53 cJ15_checkIndex_7cf53 2 (some .int) 2 := ⟨wd_328, wd_18, wd_329, by decide +kernel, by decide +kernel, by decide +kernel, by decide +kernel⟩
theorem ySJ3_checkIndex_8e157 : fw_yS RJ3 yJ3_checkIndex_8e157 cJ3_checkIndex_8e157 3 (some .int) 3 := ⟨wd_331, wd_19, wd_332, by decide +kernel, by decide +kernel, by decide +kernel, by decide +kernel⟩
theorem yVJx4a65c_elementData_915e3 : fw_yV RJx4a65c yJx4a65c_elementData_915e3 cJx4a65c_elementData_915e3 2 (some (.object "java/lang/Object")) 1 := ⟨wd_334, wd_335, wd_4, wd_336, by decide +kernel, by decide +kernel, by decide +kernel, by decide +kernel⟩
theorem yVX0_cuts : fw_yV RX0 yX0_cuts cX0_cuts 3 (some .boolean) 2 := ⟨wd_338, wd_339, wd_17, wd_340, by decide +kernel, by decide +kernel, by decide +kernel, by decide +kernel⟩
theorem yVX8_stage : fw_yV RX8 yX8_stage cX8_stage 4 (some .int) 3 := ⟨wd_342, wd_343, wd_1, wd_344, by decide +kernel, by decide +kernel, by decide +kernel, by decide +kernel⟩
theorem yIX6_init : fw_yI RX6 yX6_init cX6_init 4 3 := ⟨wd_350, wd_20, wd_351, rfl, by decide +kernel, by decide +kernel, by decide +kernel, by decide +kernel⟩
theorem yVX7_append : fw_yV RX7 yX7_append cX7_append 2 none 1 := ⟨wd_370, wd_371, wd_5, wd_372, by decide +kernel, by decide +kernel, by decide +kernel, by decide +kernel⟩
theorem yVX1_multiply : fw_yV RX1 yX1_multiply cX1_multiply 7 none 2 := ⟨wd_375, wd_376, wd_6, wd_377, by decide +kernel, by decide +kernel, by decide +kernel, by decide +kernel⟩
theorem ySX8_commonDivisor : fw_yS RX8 yX8_commonDivisor cX8_commonDivisor 11 (some .long) 2 := ⟨wd_379, wd_1, wd_380, by decide +kernel, by decide +kernel, by decide +kernel, by decide +kernel⟩
theorem yVX7_distance : fw_yV RX7 yX7_distance cX7_distance 4 (some .int) 0 := ⟨wd_382, wd_383, wd_5, wd_384, by decide +kernel, by decide +kernel, by decide +kernel, by decide +kernel⟩
theorem yVX8_scrap : fw_yV RX8 yX8_scrap cX8_scrap 2 (some .int) 0 := ⟨wd_389, wd_390, wd_1, wd_391, by decide +kernel, by decide +kernel, by decide +kernel, by decide +kernel⟩
theorem yVX8_make : fw_yV RX8 yX8_make cX8_make 2 (some .int) 1 := ⟨wd_393, wd_394, wd_1, wd_395, by decide +kernel, by decide +kernel, by decide +kernel, by decide +kernel⟩
theorem yVJx4a65c_isEmpty_aae02 : fw_yV RJx4a65c yJx4a65c_isEmpty_aae02 cJx4a65c_isEmpty_aae02 1 (some .boolean) 0 := ⟨wd_397, wd_398, wd_4, wd_399, by decide +kernel, by decide +kernel, by decide +kernel, by decide +kernel⟩
theorem yVX8_hasAllCutters : fw_yV RX8 yX8_hasAllCutters cX8_hasAllCutters 4 (some .boolean) 1 := ⟨wd_404, ws_5, wd_1, wd_405, by decide +kernel, by decide +kernel, by decide +kernel, by decide +kernel⟩
theorem yVX8_order : fw_yV RX8 yX8_order cX8_order 6 (some .int) 1 := ⟨wd_409, wd_410, wd_1, wd_411, by decide +kernel, by decide +kernel, by decide +kernel, by decide +kernel⟩
theorem yVX8_trainAt : fw_yV RX8 yX8_trainAt cX8_trainAt 2 (some (.object "Cogwright$Train")) 1 := ⟨wd_414, ws_6, wd_1, wd_415, by decide +kernel, by decide +kernel, by decide +kernel, by decide +kernel⟩
theorem yIX5_init : fw_yI RX5 yX5_init cX5_init 3 1 := ⟨wd_436, wd_22, wd_437, rfl, by decide +kernel, by decide +kernel, by decide +kernel, by decide +kernel⟩
theorem yIX4_init : fw_yI RX4 yX4_init cX4_init 2 1 := ⟨wd_447, wd_23, wd_448, rfl, by decide +kernel, by decide +kernel, by decide +kernel, by decide +kernel⟩
theorem yVX8_queue : fw_yV RX8 yX8_queue cX8_queue 4 none 3 := ⟨wd_484, ws_7, wd_1, wd_485, by decide +kernel, by decide +kernel, by decide +kernel, by decide +kernel⟩
theorem yIX2_init : fw_yI RX2 yX2_init cX2_init 4 3 := ⟨wd_489, wd_24, wd_490, rfl, by decide +kernel, by decide +kernel, by decide +kernel, by decide +kernel⟩
theorem yVX8_pass : fw_yV RX8 yX8_pass cX8_pass 4 (some .int) 1 := ⟨wd_507, wd_508, wd_1, wd_509, by decide +kernel, by decide +kernel, by decide +kernel, by decide +kernel⟩
theorem yVX8_giveOutJobs : fw_yV RX8 yX8_giveOutJobs cX8_giveOutJobs 3 none 0 := ⟨wd_513, ws_8, wd_1, wd_514, by decide +kernel, by decide +kernel, by decide +kernel, by decide +kernel⟩
theorem yVX8_giveJob : fw_yV RX8 yX8_giveJob cX8_giveJob 4 none 1 := ⟨wd_517, ws_9, wd_1, wd_518, by decide +kernel, by decide +kernel, by decide +kernel, by decide +kernel⟩
theorem yVX8_firstWithCutterOf : fw_yV RX8 yX8_firstWithCutterOf cX8_firstWithCutterOf 3 (some .int) 1 := ⟨wd_521, ws_10, wd_1, wd_522, by decide +kernel, by decide +kernel, by decide +kernel, by decide +kernel⟩
theorem yVX8_firstWithFreeCutter : fw_yV RX8 yX8_firstWithFreeCutter cX8_firstWithFreeCutter 3 (some .int) 1 := ⟨wd_525, ws_11, wd_1, wd_526, by decide +kernel, by decide +kernel, by decide +kernel, by decide +kernel⟩
theorem yVX8_isOnAnother : fw_yV RX8 yX8_isOnAnother cX8_isOnAnother 5 (some .boolean) 2 := ⟨wd_529, ws_12, wd_1, wd_530, by decide +kernel, by decide +kernel, by decide +kernel, by decide +kernel⟩
theorem yVX3_begin : fw_yV RX3 yX3_begin cX3_begin 3 none 2 := ⟨wd_532, wd_533, wd_7, wd_534, by decide +kernel, by decide +kernel, by decide +kernel, by decide +kernel⟩
theorem yVJx4a65c_remove_915e3 : fw_yV RJx4a65c yJx4a65c_remove_915e3 cJx4a65c_remove_915e3 4 (some (.object "java/lang/Object")) 1 := ⟨wd_536, wd_537, wd_4, wd_538, by decide +kernel, by decide +kernel, by decide +kernel, by decide +kernel⟩
theorem yVJx4a65c_fastRemove_b59b0 : fw_yV RJx4a65c yJx4a65c_fastRemove_b59b0 cJx4a65c_fastRemove_b59b0 4 none 2 := ⟨wd_541, ws_13, wd_4, wd_542, by decide +kernel, by decide +kernel, by decide +kernel, by decide +kernel⟩
theorem yVX8_workOneTick : fw_yV RX8 yX8_workOneTick cX8_workOneTick 4 (some .int) 0 := ⟨wd_546, ws_14, wd_1, wd_547, by decide +kernel, by decide +kernel, by decide +kernel, by decide +kernel⟩
theorem yVX3_work : fw_yV RX3 yX3_work cX3_work 2 (some (.object "Cogwright$Order")) 0 := ⟨wd_549, wd_550, wd_7, wd_551, by decide +kernel, by decide +kernel, by decide +kernel, by decide +kernel⟩
theorem yVX5_countCutGear : fw_yV RX5 yX5_countCutGear cX5_countCutGear 2 none 1 := ⟨wd_553, wd_554, wd_22, wd_555, by decide +kernel, by decide +kernel, by decide +kernel, by decide +kernel⟩
theorem yVX8_time : fw_yV RX8 yX8_time cX8_time 1 (some .int) 0 := ⟨wd_557, wd_558, wd_1, wd_559, by decide +kernel, by decide +kernel, by decide +kernel, by decide +kernel⟩
theorem yVX8_doneAt : fw_yV RX8 yX8_doneAt cX8_doneAt 2 (some .int) 1 := ⟨wd_561, wd_562, wd_1, wd_563, by decide +kernel, by decide +kernel, by decide +kernel, by decide +kernel⟩
theorem yVX8_orderAt : fw_yV RX8 yX8_orderAt cX8_orderAt 2 (some (.object "Cogwright$Order")) 1 := ⟨wd_566, ws_15, wd_1, wd_567, by decide +kernel, by decide +kernel, by decide +kernel, by decide +kernel⟩
theorem yVX8_test : fw_yV RX8 yX8_test cX8_test 5 (some .boolean) 3 := ⟨wd_570, wd_571, wd_1, wd_572, by decide +kernel, by decide +kernel, by decide +kernel, by decide +kernel⟩
theorem yVX5_wearDown : fw_yV RX5 yX5_wearDown cX5_wearDown 4 none 1 := ⟨wd_576, wd_577, wd_22, wd_578, by decide +kernel, by decide +kernel, by decide +kernel, by decide +kernel⟩
theorem yVX6_wearOf : fw_yV RX6 yX6_wearOf cX6_wearOf 2 (some .int) 1 := ⟨wd_580, wd_581, wd_20, wd_582, by decide +kernel, by decide +kernel, by decide +kernel, by decide +kernel⟩
theorem yVX6_mostWear : fw_yV RX6 yX6_mostWear cX6_mostWear 1 (some .int) 0 := ⟨wd_584, wd_585, wd_20, wd_586, by decide +kernel, by decide +kernel, by decide +kernel, by decide +kernel⟩
theorem yVX8_wear : fw_yV RX8 yX8_wear cX8_wear 4 (some .int) 2 := ⟨wd_589, wd_590, wd_1, wd_591, by decide +kernel, by decide +kernel, by decide +kernel, by decide +kernel⟩
theorem yVX8_claims : fw_yV RX8 yX8_claims cX8_claims 2 (some .int) 1 := ⟨wd_595, wd_596, wd_1, wd_597, by decide +kernel, by decide +kernel, by decide +kernel, by decide +kernel⟩
theorem ySL_cell : fw_yS RL yL_cell cL_cell 2 (some .int) 2 := ⟨wd_599, wd_0, wd_600, by decide +kernel, by decide +kernel, by decide +kernel, by decide +kernel⟩
theorem ySL_low : fw_yS RL yL_low cL_low 2 (some .int) 2 := ⟨wd_602, wd_0, wd_603, by decide +kernel, by decide +kernel, by decide +kernel, by decide +kernel⟩
theorem ySL_areJobs : fw_yS RL yL_areJobs cL_areJobs 9 (some .boolean) 3 := ⟨wd_606, wd_0, wd_607, by decide +kernel, by decide +kernel, by decide +kernel, by decide +kernel⟩
theorem yVX8_cutterOn : fw_yV RX8 yX8_cutterOn cX8_cutterOn 2 (some .int) 1 := ⟨wd_609, wd_610, wd_1, wd_611, by decide +kernel, by decide +kernel, by decide +kernel, by decide +kernel⟩
theorem yVX8_machineAt : fw_yV RX8 yX8_machineAt cX8_machineAt 2 (some (.object "Cogwright$Machine")) 1 := ⟨wd_614, ws_16, wd_1, wd_615, by decide +kernel, by decide +kernel, by decide +kernel, by decide +kernel⟩
theorem yVX8_ticksLeft : fw_yV RX8 yX8_ticksLeft cX8_ticksLeft 2 (some .int) 1 := ⟨wd_618, wd_619, wd_1, wd_620, by decide +kernel, by decide +kernel, by decide +kernel, by decide +kernel⟩
theorem yVX8_gearsLeft : fw_yV RX8 yX8_gearsLeft cX8_gearsLeft 2 (some .int) 1 := ⟨wd_622, wd_623, wd_1, wd_624, by decide +kernel, by decide +kernel, by decide +kernel, by decide +kernel⟩
theorem yVX8_waiting : fw_yV RX8 yX8_waiting cX8_waiting 1 (some .int) 0 := ⟨wd_626, wd_627, wd_1, wd_628, by decide +kernel, by decide +kernel, by decide +kernel, by decide +kernel⟩
theorem ySL_isTrain : fw_yS RL yL_isTrain cL_isTrain 9 (some .boolean) 5 := ⟨wd_630, wd_0, wd_631, by decide +kernel, by decide +kernel, by decide +kernel, by decide +kernel⟩
theorem yVX8_numerator : fw_yV RX8 yX8_numerator cX8_numerator 2 (some .int) 1 := ⟨wd_633, wd_634, wd_1, wd_635, by decide +kernel, by decide +kernel, by decide +kernel, by decide +kernel⟩
theorem yVX8_denominator : fw_yV RX8 yX8_denominator cX8_denominator 2 (some .int) 1 := ⟨wd_637, wd_638, wd_1, wd_639, by decide +kernel, by decide +kernel, by decide +kernel, by decide +kernel⟩
theorem yVX8_turned : fw_yV RX8 yX8_turned cX8_turned 5 (some .int) 2 := ⟨wd_641, wd_642, wd_1, wd_643, by decide +kernel, by decide +kernel, by decide +kernel, by decide +kernel⟩
theorem ySX8_checkTurns : fw_yS RX8 yX8_checkTurns cX8_checkTurns 1 none 1 := ⟨wd_645, wd_1, wd_646, by decide +kernel, by decide +kernel, by decide +kernel, by decide +kernel⟩
theorem yVX1_roundedDown : fw_yV RX1 yX1_roundedDown cX1_roundedDown 1 (some .int) 0 := ⟨wd_653, wd_654, wd_6, wd_655, by decide +kernel, by decide +kernel, by decide +kernel, by decide +kernel⟩
theorem yVX8_turnedByWalk : fw_yV RX8 yX8_turnedByWalk cX8_turnedByWalk 6 (some .int) 2 := ⟨wd_657, wd_658, wd_1, wd_659, by decide +kernel, by decide +kernel, by decide +kernel, by decide +kernel⟩
