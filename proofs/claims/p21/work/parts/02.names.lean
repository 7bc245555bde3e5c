/-! ===== BEGIN printed: names, fields, word lists, decode rows ===== -/
def RX0 : String := "LaneCrowds$Crowd"
def TX0 : u_T := fun k => match k with
  | 0 => ("LaneCrowds$Crowd", "place", "I", false)
  | 1 => ("LaneCrowds$Crowd", "people", "I", false)
  | 2 => ("LaneCrowds$Crowd", "burns", "Z", false)
  | 3 => ("LaneCrowds$Crowd", "orders", "[I", true)
  | 4 => ("LaneCrowds$Crowd", "orderCount", "I", false)
  | _ => ("LaneCrowds$Crowd", "missed", "I", false)
def tyX0 : Nat → FieldType := fun k => match k with
  | 0 => .int
  | 1 => .int
  | 2 => .boolean
  | 3 => .array .int
  | 4 => .int
  | _ => .int
abbrev wsX00 : List Cond := u_ws RX0 TX0 6
theorem nmX0 : ∀ a, a < 6 → ∀ b, b < 6 → a ≠ b → (TX0 a).2.1 ≠ (TX0 b).2.1 := by decide +kernel
theorem tyX0_ok : ∀ k, k < 6 → parseFieldDescriptor (TX0 k).2.2.1 = some (tyX0 k) := by decide +kernel
abbrev cX0_init : ByteArray := prog_2_method_1_code
def yX0_init : MethodName := ⟨RX0, "<init>", "()V"⟩
abbrev cX0_isScattered : ByteArray := prog_2_method_2_code
def yX0_isScattered : MethodName := ⟨RX0, "isScattered", "()Z"⟩
abbrev cX0_addOrder : ByteArray := prog_2_method_3_code
def yX0_addOrder : MethodName := ⟨RX0, "addOrder", "(I)V"⟩
abbrev cX0_firstOrder : ByteArray := prog_2_method_4_code
def yX0_firstOrder : MethodName := ⟨RX0, "firstOrder", "()I"⟩
abbrev cX0_dropFirstOrder : ByteArray := prog_2_method_5_code
def yX0_dropFirstOrder : MethodName := ⟨RX0, "dropFirstOrder", "()V"⟩
abbrev cX0_addOrdersTo : ByteArray := prog_2_method_6_code
def yX0_addOrdersTo : MethodName := ⟨RX0, "addOrdersTo", "(J)J"⟩
abbrev cX0_become : ByteArray := prog_2_method_7_code
def yX0_become : MethodName := ⟨RX0, "become", "(LLaneCrowds$Crowd;)V"⟩
def RX1 : String := "LaneCrowds$Night"
def TX1 : u_T := fun k => match k with
  | 0 => ("LaneCrowds$Night", "quarter", "LLaneCrowds$Quarter;", true)
  | 1 => ("LaneCrowds$Night", "crowds", "[LLaneCrowds$Crowd;", true)
  | 2 => ("LaneCrowds$Night", "crowdCount", "I", false)
  | 3 => ("LaneCrowds$Night", "patrols", "[LLaneCrowds$Patrol;", true)
  | 4 => ("LaneCrowds$Night", "patrolCount", "I", false)
  | _ => ("LaneCrowds$Night", "step", "I", false)
def tyX1 : Nat → FieldType := fun k => match k with
  | 0 => .object "LaneCrowds$Quarter"
  | 1 => .array (.object "LaneCrowds$Crowd")
  | 2 => .int
  | 3 => .array (.object "LaneCrowds$Patrol")
  | 4 => .int
  | _ => .int
abbrev wsX10 : List Cond := u_ws RX1 TX1 6
theorem nmX1 : ∀ a, a < 6 → ∀ b, b < 6 → a ≠ b → (TX1 a).2.1 ≠ (TX1 b).2.1 := by decide +kernel
theorem tyX1_ok : ∀ k, k < 6 → parseFieldDescriptor (TX1 k).2.2.1 = some (tyX1 k) := by decide +kernel
abbrev cX1_init : ByteArray := prog_3_method_1_code
def yX1_init : MethodName := ⟨RX1, "<init>", "()V"⟩
abbrev cX1_addCrowd : ByteArray := prog_3_method_2_code
def yX1_addCrowd : MethodName := ⟨RX1, "addCrowd", "(II)I"⟩
abbrev cX1_addPatrol : ByteArray := prog_3_method_3_code
def yX1_addPatrol : MethodName := ⟨RX1, "addPatrol", "(III)I"⟩
abbrev cX1_isTaken : ByteArray := prog_3_method_4_code
def yX1_isTaken : MethodName := ⟨RX1, "isTaken", "(I)Z"⟩
abbrev cX1_goOn : ByteArray := prog_3_method_5_code
def yX1_goOn : MethodName := ⟨RX1, "goOn", "(I)V"⟩
abbrev cX1_obeyOrders : ByteArray := prog_3_method_6_code
def yX1_obeyOrders : MethodName := ⟨RX1, "obeyOrders", "()V"⟩
abbrev cX1_tryOrder : ByteArray := prog_3_method_7_code
def yX1_tryOrder : MethodName := ⟨RX1, "tryOrder", "(LLaneCrowds$Crowd;II)Z"⟩
abbrev cX1_tryGo : ByteArray := prog_3_method_8_code
def yX1_tryGo : MethodName := ⟨RX1, "tryGo", "(LLaneCrowds$Crowd;II)Z"⟩
abbrev cX1_tryRaise : ByteArray := prog_3_method_9_code
def yX1_tryRaise : MethodName := ⟨RX1, "tryRaise", "(LLaneCrowds$Crowd;I)Z"⟩
abbrev cX1_tryPullDown : ByteArray := prog_3_method_10_code
def yX1_tryPullDown : MethodName := ⟨RX1, "tryPullDown", "(I)Z"⟩
abbrev cX1_scatter : ByteArray := prog_3_method_11_code
def yX1_scatter : MethodName := ⟨RX1, "scatter", "()V"⟩
abbrev cX1_isSeen : ByteArray := prog_3_method_12_code
def yX1_isSeen : MethodName := ⟨RX1, "isSeen", "(LLaneCrowds$Patrol;LLaneCrowds$Crowd;)Z"⟩
abbrev cX1_patrolsThatSee : ByteArray := prog_3_method_13_code
def yX1_patrolsThatSee : MethodName := ⟨RX1, "patrolsThatSee", "(LLaneCrowds$Crowd;)I"⟩
abbrev cX1_crowdsSeenBy : ByteArray := prog_3_method_14_code
def yX1_crowdsSeenBy : MethodName := ⟨RX1, "crowdsSeenBy", "(LLaneCrowds$Patrol;)I"⟩
abbrev cX1_crowdsLeft : ByteArray := prog_3_method_15_code
def yX1_crowdsLeft : MethodName := ⟨RX1, "crowdsLeft", "()I"⟩
abbrev cX1_peopleLeft : ByteArray := prog_3_method_16_code
def yX1_peopleLeft : MethodName := ⟨RX1, "peopleLeft", "()I"⟩
abbrev cX1_ordersMissed : ByteArray := prog_3_method_17_code
def yX1_ordersMissed : MethodName := ⟨RX1, "ordersMissed", "()I"⟩
abbrev cX1_crowdNumber : ByteArray := prog_3_method_18_code
def yX1_crowdNumber : MethodName := ⟨RX1, "crowdNumber", "(LLaneCrowds$Crowd;I)I"⟩
abbrev cX1_guardNumber : ByteArray := prog_3_method_19_code
def yX1_guardNumber : MethodName := ⟨RX1, "guardNumber", "(LLaneCrowds$Patrol;I)I"⟩
abbrev cX1_total : ByteArray := prog_3_method_20_code
def yX1_total : MethodName := ⟨RX1, "total", "(I)I"⟩
abbrev cX1_addCrowdTo : ByteArray := prog_3_method_21_code
def yX1_addCrowdTo : MethodName := ⟨RX1, "addCrowdTo", "(JLLaneCrowds$Crowd;)J"⟩
abbrev cX1_addPatrolTo : ByteArray := prog_3_method_22_code
def yX1_addPatrolTo : MethodName := ⟨RX1, "addPatrolTo", "(JLLaneCrowds$Patrol;)J"⟩
abbrev cX1_become : ByteArray := prog_3_method_23_code
def yX1_become : MethodName := ⟨RX1, "become", "(LLaneCrowds$Night;)V"⟩
def RX2 : String := "LaneCrowds$Patrol"
def TX2 : u_T := fun k => match k with
  | 0 => ("LaneCrowds$Patrol", "place", "I", false)
  | 1 => ("LaneCrowds$Patrol", "length", "I", false)
  | 2 => ("LaneCrowds$Patrol", "round", "I", false)
  | _ => ("LaneCrowds$Patrol", "directionsDone", "I", false)
def tyX2 : Nat → FieldType := fun k => match k with
  | 0 => .int
  | 1 => .int
  | 2 => .int
  | _ => .int
abbrev wsX20 : List Cond := u_ws RX2 TX2 4
theorem nmX2 : ∀ a, a < 4 → ∀ b, b < 4 → a ≠ b → (TX2 a).2.1 ≠ (TX2 b).2.1 := by decide +kernel
theorem tyX2_ok : ∀ k, k < 4 → parseFieldDescriptor (TX2 k).2.2.1 = some (tyX2 k) := by decide +kernel
abbrev cX2_init : ByteArray := prog_4_method_1_code
def yX2_init : MethodName := ⟨RX2, "<init>", "()V"⟩
abbrev cX2_nextDirection : ByteArray := prog_4_method_2_code
def yX2_nextDirection : MethodName := ⟨RX2, "nextDirection", "()I"⟩
abbrev cX2_moveOn : ByteArray := prog_4_method_3_code
def yX2_moveOn : MethodName := ⟨RX2, "moveOn", "(LLaneCrowds$Quarter;)V"⟩
abbrev cX2_become : ByteArray := prog_4_method_4_code
def yX2_become : MethodName := ⟨RX2, "become", "(LLaneCrowds$Patrol;)V"⟩
def RX3 : String := "LaneCrowds$Quarter"
def TX3 : u_T := fun k => match k with
  | _ => ("LaneCrowds$Quarter", "cells", "[I", true)
def tyX3 : Nat → FieldType := fun k => match k with
  | _ => .array .int
abbrev wsX30 : List Cond := u_ws RX3 TX3 1
theorem nmX3 : ∀ a, a < 1 → ∀ b, b < 1 → a ≠ b → (TX3 a).2.1 ≠ (TX3 b).2.1 := by decide +kernel
theorem tyX3_ok : ∀ k, k < 1 → parseFieldDescriptor (TX3 k).2.2.1 = some (tyX3 k) := by decide +kernel
abbrev cX3_init : ByteArray := prog_5_method_1_code
def yX3_init : MethodName := ⟨RX3, "<init>", "()V"⟩
abbrev cX3_next : ByteArray := prog_5_method_2_code
def yX3_next : MethodName := ⟨RX3, "next", "(II)I"⟩
abbrev cX3_at : ByteArray := prog_5_method_3_code
def yX3_at : MethodName := ⟨RX3, "at", "(I)I"⟩
abbrev cX3_put : ByteArray := prog_5_method_4_code
def yX3_put : MethodName := ⟨RX3, "put", "(II)V"⟩
abbrev cX3_isFree : ByteArray := prog_5_method_5_code
def yX3_isFree : MethodName := ⟨RX3, "isFree", "(I)Z"⟩
abbrev cX3_cellsWith : ByteArray := prog_5_method_6_code
def yX3_cellsWith : MethodName := ⟨RX3, "cellsWith", "(I)I"⟩
abbrev cX3_barricades : ByteArray := prog_5_method_7_code
def yX3_barricades : MethodName := ⟨RX3, "barricades", "()I"⟩
abbrev cX3_addCellsTo : ByteArray := prog_5_method_8_code
def yX3_addCellsTo : MethodName := ⟨RX3, "addCellsTo", "(J)J"⟩
abbrev cX3_become : ByteArray := prog_5_method_9_code
def yX3_become : MethodName := ⟨RX3, "become", "(LLaneCrowds$Quarter;)V"⟩
def RX4 : String := "LaneCrowds$Ways"
def TX4 : u_T := fun k => match k with
  | 0 => ("LaneCrowds$Ways", "far", "[I", true)
  | 1 => ("LaneCrowds$Ways", "line", "[I", true)
  | 2 => ("LaneCrowds$Ways", "head", "I", false)
  | _ => ("LaneCrowds$Ways", "tail", "I", false)
def tyX4 : Nat → FieldType := fun k => match k with
  | 0 => .array .int
  | 1 => .array .int
  | 2 => .int
  | _ => .int
abbrev wsX40 : List Cond := u_ws RX4 TX4 4
theorem nmX4 : ∀ a, a < 4 → ∀ b, b < 4 → a ≠ b → (TX4 a).2.1 ≠ (TX4 b).2.1 := by decide +kernel
theorem tyX4_ok : ∀ k, k < 4 → parseFieldDescriptor (TX4 k).2.2.1 = some (tyX4 k) := by decide +kernel
abbrev cX4_init : ByteArray := prog_6_method_1_code
def yX4_init : MethodName := ⟨RX4, "<init>", "()V"⟩
abbrev cX4_startAnew : ByteArray := prog_6_method_2_code
def yX4_startAnew : MethodName := ⟨RX4, "startAnew", "()V"⟩
abbrev cX4_fewestSteps : ByteArray := prog_6_method_3_code
def yX4_fewestSteps : MethodName := ⟨RX4, "fewestSteps", "(LLaneCrowds$Quarter;II)I"⟩
abbrev cX4_fewestToShut : ByteArray := prog_6_method_4_code
def yX4_fewestToShut : MethodName := ⟨RX4, "fewestToShut", "(LLaneCrowds$Quarter;)I"⟩
abbrev cX4_leadAround : ByteArray := prog_6_method_5_code
def yX4_leadAround : MethodName := ⟨RX4, "leadAround", "(LLaneCrowds$Quarter;I)V"⟩
abbrev cX4_lead : ByteArray := prog_6_method_6_code
def yX4_lead : MethodName := ⟨RX4, "lead", "(LLaneCrowds$Quarter;II)V"⟩
abbrev cX4_putLast : ByteArray := prog_6_method_7_code
def yX4_putLast : MethodName := ⟨RX4, "putLast", "(II)V"⟩
abbrev cX4_putFirst : ByteArray := prog_6_method_8_code
def yX4_putFirst : MethodName := ⟨RX4, "putFirst", "(II)V"⟩
def RX5 : String := "LaneCrowds"
def TX5 : u_T := fun k => match k with
  | 0 => ("LaneCrowds", "now", "LLaneCrowds$Night;", true)
  | 1 => ("LaneCrowds", "trial", "LLaneCrowds$Night;", true)
  | _ => ("LaneCrowds", "ways", "LLaneCrowds$Ways;", true)
def tyX5 : Nat → FieldType := fun k => match k with
  | 0 => .object "LaneCrowds$Night"
  | 1 => .object "LaneCrowds$Night"
  | _ => .object "LaneCrowds$Ways"
abbrev wsX50 : List Cond := u_ws RX5 TX5 3
theorem nmX5 : ∀ a, a < 3 → ∀ b, b < 3 → a ≠ b → (TX5 a).2.1 ≠ (TX5 b).2.1 := by decide +kernel
theorem tyX5_ok : ∀ k, k < 3 → parseFieldDescriptor (TX5 k).2.2.1 = some (tyX5 k) := by decide +kernel
abbrev cX5_init : ByteArray := prog_1_method_1_code
def yX5_init : MethodName := ⟨RX5, "<init>", "()V"⟩
abbrev cX5_house : ByteArray := prog_1_method_2_code
def yX5_house : MethodName := ⟨RX5, "house", "(II)Z"⟩
abbrev cX5_block : ByteArray := prog_1_method_3_code
def yX5_block : MethodName := ⟨RX5, "block", "(III)I"⟩
abbrev cX5_cell : ByteArray := prog_1_method_4_code
def yX5_cell : MethodName := ⟨RX5, "cell", "(II)I"⟩
abbrev cX5_gather : ByteArray := prog_1_method_5_code
def yX5_gather : MethodName := ⟨RX5, "gather", "(III)I"⟩
abbrev cX5_order : ByteArray := prog_1_method_6_code
def yX5_order : MethodName := ⟨RX5, "order", "(II)I"⟩
abbrev cX5_torch : ByteArray := prog_1_method_7_code
def yX5_torch : MethodName := ⟨RX5, "torch", "(I)Z"⟩
abbrev cX5_patrol : ByteArray := prog_1_method_8_code
def yX5_patrol : MethodName := ⟨RX5, "patrol", "(IIII)I"⟩
abbrev cX5_crowd : ByteArray := prog_1_method_9_code
def yX5_crowd : MethodName := ⟨RX5, "crowd", "(II)I"⟩
abbrev cX5_guard : ByteArray := prog_1_method_10_code
def yX5_guard : MethodName := ⟨RX5, "guard", "(II)I"⟩
abbrev cX5_sees : ByteArray := prog_1_method_11_code
def yX5_sees : MethodName := ⟨RX5, "sees", "(II)Z"⟩
abbrev cX5_count : ByteArray := prog_1_method_12_code
def yX5_count : MethodName := ⟨RX5, "count", "(I)I"⟩
abbrev cX5_way : ByteArray := prog_1_method_13_code
def yX5_way : MethodName := ⟨RX5, "way", "(IIII)I"⟩
abbrev cX5_shuts : ByteArray := prog_1_method_14_code
def yX5_shuts : MethodName := ⟨RX5, "shuts", "()I"⟩
abbrev cX5_pass : ByteArray := prog_1_method_15_code
def yX5_pass : MethodName := ⟨RX5, "pass", "(I)I"⟩
abbrev cX5_foresee : ByteArray := prog_1_method_16_code
def yX5_foresee : MethodName := ⟨RX5, "foresee", "(II)I"⟩
abbrev cX5_advise : ByteArray := prog_1_method_17_code
def yX5_advise : MethodName := ⟨RX5, "advise", "(I)I"⟩
abbrev cX5_digest : ByteArray := prog_1_method_19_code
def yX5_digest : MethodName := ⟨RX5, "digest", "()J"⟩
abbrev cX5_shutsBehind : ByteArray := prog_1_method_20_code
def yX5_shutsBehind : MethodName := ⟨RX5, "shutsBehind", "(II)I"⟩
abbrev cX5_placeOf : ByteArray := prog_1_method_21_code
def yX5_placeOf : MethodName := ⟨RX5, "placeOf", "(II)I"⟩
abbrev cX5_needCrowd : ByteArray := prog_1_method_22_code
def yX5_needCrowd : MethodName := ⟨RX5, "needCrowd", "(I)V"⟩
abbrev cX5_needPatrol : ByteArray := prog_1_method_23_code
def yX5_needPatrol : MethodName := ⟨RX5, "needPatrol", "(I)V"⟩
abbrev cX5_needWhat : ByteArray := prog_1_method_24_code
def yX5_needWhat : MethodName := ⟨RX5, "needWhat", "(II)V"⟩
abbrev cX5_needSteps : ByteArray := prog_1_method_25_code
def yX5_needSteps : MethodName := ⟨RX5, "needSteps", "(I)V"⟩
def RX6 : String := "LaneCrowdsModel$State"
def TX6 : u_T := fun k => match k with
  | _ => ("", "", "", false)
def tyX6 : Nat → FieldType := fun k => match k with
  | _ => .int
abbrev wsX60 : List Cond := u_ws RX6 TX6 0
theorem nmX6 : ∀ a, a < 0 → ∀ b, b < 0 → a ≠ b → (TX6 a).2.1 ≠ (TX6 b).2.1 := by decide +kernel
theorem tyX6_ok : ∀ k, k < 0 → parseFieldDescriptor (TX6 k).2.2.1 = some (tyX6 k) := by decide +kernel
def RX7 : String := "LaneCrowdsModel"
def TX7 : u_T := fun k => match k with
  | _ => ("", "", "", false)
def tyX7 : Nat → FieldType := fun k => match k with
  | _ => .int
abbrev wsX70 : List Cond := u_ws RX7 TX7 0
theorem nmX7 : ∀ a, a < 0 → ∀ b, b < 0 → a ≠ b → (TX7 a).2.1 ≠ (TX7 b).2.1 := by decide +kernel
theorem tyX7_ok : ∀ k, k < 0 → parseFieldDescriptor (TX7 k).2.2.1 = some (tyX7 k) := by decide +kernel
def RJx145de : String := "java/io/Serializable"
def TJx145de : u_T := fun k => match k with
  | _ => ("", "", "", false)
def tyJx145de : Nat → FieldType := fun k => match k with
  | _ => .int
abbrev wsJx145de0 : List Cond := u_ws RJx145de TJx145de 0
theorem nmJx145de : ∀ a, a < 0 → ∀ b, b < 0 → a ≠ b → (TJx145de a).2.1 ≠ (TJx145de b).2.1 := by decide +kernel
theorem tyJx145de_ok : ∀ k, k < 0 → parseFieldDescriptor (TJx145de k).2.2.1 = some (tyJx145de k) := by decide +kernel
def RJ9 : String := "java/lang/Math"
def TJ9 : u_T := fun k => match k with
  | _ => ("", "", "", false)
def tyJ9 : Nat → FieldType := fun k => match k with
  | _ => .int
abbrev wsJ90 : List Cond := u_ws RJ9 TJ9 0
theorem nmJ9 : ∀ a, a < 0 → ∀ b, b < 0 → a ≠ b → (TJ9 a).2.1 ≠ (TJ9 b).2.1 := by decide +kernel
theorem tyJ9_ok : ∀ k, k < 0 → parseFieldDescriptor (TJ9 k).2.2.1 = some (tyJ9 k) := by decide +kernel
abbrev cJ9_abs_0f7a4 : ByteArray := prog_14_method_59_code
def yJ9_abs_0f7a4 : MethodName := ⟨RJ9, "abs", "(I)I"⟩
abbrev cJ9_max_7cf53 : ByteArray := prog_14_method_65_code
def yJ9_max_7cf53 : MethodName := ⟨RJ9, "max", "(II)I"⟩
abbrev cJ9_min_7cf53 : ByteArray := prog_14_method_69_code
def yJ9_min_7cf53 : MethodName := ⟨RJ9, "min", "(II)I"⟩
def RJ0 : String := "java/lang/String"
def TJ0 : u_T := fun k => match k with
  | _ => ("", "", "", false)
def tyJ0 : Nat → FieldType := fun k => match k with
  | _ => .int
abbrev wsJ00 : List Cond := u_ws RJ0 TJ0 0
theorem nmJ0 : ∀ a, a < 0 → ∀ b, b < 0 → a ≠ b → (TJ0 a).2.1 ≠ (TJ0 b).2.1 := by decide +kernel
theorem tyJ0_ok : ∀ k, k < 0 → parseFieldDescriptor (TJ0 k).2.2.1 = some (tyJ0 k) := by decide +kernel
def RJ10 : String := "java/lang/System"
def TJ10 : u_T := fun k => match k with
  | _ => ("", "", "", false)
def tyJ10 : Nat → FieldType := fun k => match k with
  | _ => .int
abbrev wsJ100 : List Cond := u_ws RJ10 TJ10 0
theorem nmJ10 : ∀ a, a < 0 → ∀ b, b < 0 → a ≠ b → (TJ10 a).2.1 ≠ (TJ10 b).2.1 := by decide +kernel
theorem tyJ10_ok : ∀ k, k < 0 → parseFieldDescriptor (TJ10 k).2.2.1 = some (tyJ10 k) := by decide +kernel
def RJ7 : String := "java/util/Arrays"
def TJ7 : u_T := fun k => match k with
  | _ => ("", "", "", false)
def tyJ7 : Nat → FieldType := fun k => match k with
  | _ => .int
abbrev wsJ70 : List Cond := u_ws RJ7 TJ7 0
theorem nmJ7 : ∀ a, a < 0 → ∀ b, b < 0 → a ≠ b → (TJ7 a).2.1 ≠ (TJ7 b).2.1 := by decide +kernel
theorem tyJ7_ok : ∀ k, k < 0 → parseFieldDescriptor (TJ7 k).2.2.1 = some (tyJ7 k) := by decide +kernel
abbrev cJ7_fill_53178 : ByteArray := prog_19_method_103_code
def yJ7_fill_53178 : MethodName := ⟨RJ7, "fill", "([II)V"⟩
def RL : String := "LaneCrowdsLaw"
abbrev cL_below : ByteArray := method_2_code
def yL_below : MethodName := ⟨RL, "below", "(II)I"⟩
abbrev cL_cell : ByteArray := method_3_code
def yL_cell : MethodName := ⟨RL, "cell", "([II)I"⟩
abbrev cL_quarter : ByteArray := method_4_code
def yL_quarter : MethodName := ⟨RL, "quarter", "([I)LLaneCrowds;"⟩
abbrev cL_gather : ByteArray := method_5_code
def yL_gather : MethodName := ⟨RL, "gather", "(LLaneCrowds;III)I"⟩
abbrev cL_patrol : ByteArray := method_6_code
def yL_patrol : MethodName := ⟨RL, "patrol", "(LLaneCrowds;IIII)I"⟩
abbrev cL_order : ByteArray := method_7_code
def yL_order : MethodName := ⟨RL, "order", "(LLaneCrowds;II)I"⟩
abbrev cL_law : ByteArray := code
def yL_law : MethodName := ⟨RL, "law", "([I)Z"⟩
abbrev cL_isThere : ByteArray := method_9_code
def yL_isThere : MethodName := ⟨RL, "isThere", "(LLaneCrowds;I)Z"⟩
abbrev cL_isFree : ByteArray := method_10_code
def yL_isFree : MethodName := ⟨RL, "isFree", "(LLaneCrowds;II)Z"⟩
abbrev cL_seen : ByteArray := method_11_code
def yL_seen : MethodName := ⟨RL, "seen", "(LLaneCrowds;III)I"⟩
set_option maxRecDepth 20000 in
abbrev vwCl : List vw_C := [(RX0, TX0, 6), (RX1, TX1, 6), (RX2, TX2, 4), (RX3, TX3, 1), (RX4, TX4, 4), (RX5, TX5, 3)]
