/-! ===== BEGIN printed: names, fields, word lists, decode rows ===== -/
def RX0 : String := "SaveRestore$Row"
def TX0 : u_T := fun k => match k with
  | 0 => ("SaveRestore$Row", "thing", "LSaveRestore$Thing;", true)
  | 1 => ("SaveRestore$Row", "cell", "I", true)
  | 2 => ("SaveRestore$Row", "value", "I", true)
  | 3 => ("SaveRestore$Row", "ownerBefore", "I", true)
  | _ => ("SaveRestore$Row", "next", "LSaveRestore$Row;", true)
def tyX0 : Nat → FieldType := fun k => match k with
  | 0 => .object "SaveRestore$Thing"
  | 1 => .int
  | 2 => .int
  | 3 => .int
  | _ => .object "SaveRestore$Row"
abbrev wsX00 : List Cond := u_ws RX0 TX0 5
theorem nmX0 : ∀ a, a < 5 → ∀ b, b < 5 → a ≠ b → (TX0 a).2.1 ≠ (TX0 b).2.1 := by decide +kernel
theorem tyX0_ok : ∀ k, k < 5 → parseFieldDescriptor (TX0 k).2.2.1 = some (tyX0 k) := by decide +kernel
abbrev cX0_init : ByteArray := prog_2_method_1_code
def yX0_init : MethodName := ⟨RX0, "<init>", "(LSaveRestore$Thing;ILSaveRestore$Row;)V"⟩
abbrev cX0_putBack : ByteArray := prog_2_method_2_code
def yX0_putBack : MethodName := ⟨RX0, "putBack", "()V"⟩
def RX1 : String := "SaveRestore$Save"
def TX1 : u_T := fun k => match k with
  | 0 => ("SaveRestore$Save", "number", "I", false)
  | 1 => ("SaveRestore$Save", "firstNewerThing", "I", false)
  | 2 => ("SaveRestore$Save", "pushedBefore", "I", false)
  | 3 => ("SaveRestore$Save", "parameters", "[I", true)
  | 4 => ("SaveRestore$Save", "rows", "LSaveRestore$Row;", false)
  | _ => ("SaveRestore$Save", "rowCount", "I", false)
def tyX1 : Nat → FieldType := fun k => match k with
  | 0 => .int
  | 1 => .int
  | 2 => .int
  | 3 => .array .int
  | 4 => .object "SaveRestore$Row"
  | _ => .int
abbrev wsX10 : List Cond := u_ws RX1 TX1 6
theorem nmX1 : ∀ a, a < 6 → ∀ b, b < 6 → a ≠ b → (TX1 a).2.1 ≠ (TX1 b).2.1 := by decide +kernel
theorem tyX1_ok : ∀ k, k < 6 → parseFieldDescriptor (TX1 k).2.2.1 = some (tyX1 k) := by decide +kernel
abbrev cX1_init : ByteArray := prog_3_method_1_code
def yX1_init : MethodName := ⟨RX1, "<init>", "()V"⟩
def RX2 : String := "SaveRestore$Thing"
def TX2 : u_T := fun k => match k with
  | 0 => ("SaveRestore$Thing", "number", "I", true)
  | 1 => ("SaveRestore$Thing", "global", "Z", true)
  | 2 => ("SaveRestore$Thing", "cells", "[I", true)
  | 3 => ("SaveRestore$Thing", "bytes", "[I", true)
  | _ => ("SaveRestore$Thing", "rowOwners", "[I", true)
def tyX2 : Nat → FieldType := fun k => match k with
  | 0 => .int
  | 1 => .boolean
  | 2 => .array .int
  | 3 => .array .int
  | _ => .array .int
abbrev wsX20 : List Cond := u_ws RX2 TX2 5
theorem nmX2 : ∀ a, a < 5 → ∀ b, b < 5 → a ≠ b → (TX2 a).2.1 ≠ (TX2 b).2.1 := by decide +kernel
theorem tyX2_ok : ∀ k, k < 5 → parseFieldDescriptor (TX2 k).2.2.1 = some (tyX2 k) := by decide +kernel
abbrev cX2_init : ByteArray := prog_4_method_1_code
def yX2_init : MethodName := ⟨RX2, "<init>", "(IZ)V"⟩
abbrev cX2_isNewerThan : ByteArray := prog_4_method_2_code
def yX2_isNewerThan : MethodName := ⟨RX2, "isNewerThan", "(LSaveRestore$Save;)Z"⟩
def RX3 : String := "SaveRestore"
def TX3 : u_T := fun k => match k with
  | 0 => ("SaveRestore", "things", "[LSaveRestore$Thing;", true)
  | 1 => ("SaveRestore", "thingCount", "I", false)
  | 2 => ("SaveRestore", "thingsMade", "I", false)
  | 3 => ("SaveRestore", "saves", "[LSaveRestore$Save;", true)
  | 4 => ("SaveRestore", "living", "I", false)
  | 5 => ("SaveRestore", "savesMade", "I", false)
  | 6 => ("SaveRestore", "mostLiving", "I", false)
  | 7 => ("SaveRestore", "parameters", "[I", true)
  | 8 => ("SaveRestore", "pushed", "[[I", true)
  | _ => ("SaveRestore", "pushedCount", "I", false)
def tyX3 : Nat → FieldType := fun k => match k with
  | 0 => .array (.object "SaveRestore$Thing")
  | 1 => .int
  | 2 => .int
  | 3 => .array (.object "SaveRestore$Save")
  | 4 => .int
  | 5 => .int
  | 6 => .int
  | 7 => .array .int
  | 8 => .array (.array .int)
  | _ => .int
abbrev wsX30 : List Cond := u_ws RX3 TX3 10
theorem nmX3 : ∀ a, a < 10 → ∀ b, b < 10 → a ≠ b → (TX3 a).2.1 ≠ (TX3 b).2.1 := by decide +kernel
theorem tyX3_ok : ∀ k, k < 10 → parseFieldDescriptor (TX3 k).2.2.1 = some (tyX3 k) := by decide +kernel
abbrev cX3_init : ByteArray := prog_1_method_1_code
def yX3_init : MethodName := ⟨RX3, "<init>", "()V"⟩
abbrev cX3_object : ByteArray := prog_1_method_2_code
def yX3_object : MethodName := ⟨RX3, "object", "(Z)I"⟩
abbrev cX3_put : ByteArray := prog_1_method_3_code
def yX3_put : MethodName := ⟨RX3, "put", "(III)I"⟩
abbrev cX3_get : ByteArray := prog_1_method_4_code
def yX3_get : MethodName := ⟨RX3, "get", "(II)I"⟩
abbrev cX3_save : ByteArray := prog_1_method_5_code
def yX3_save : MethodName := ⟨RX3, "save", "()I"⟩
abbrev cX3_restore : ByteArray := prog_1_method_6_code
def yX3_restore : MethodName := ⟨RX3, "restore", "(I)I"⟩
abbrev cX3_state : ByteArray := prog_1_method_7_code
def yX3_state : MethodName := ⟨RX3, "state", "(II)I"⟩
abbrev cX3_stateOf : ByteArray := prog_1_method_8_code
def yX3_stateOf : MethodName := ⟨RX3, "stateOf", "(I)I"⟩
abbrev cX3_push : ByteArray := prog_1_method_9_code
def yX3_push : MethodName := ⟨RX3, "push", "()I"⟩
abbrev cX3_pop : ByteArray := prog_1_method_10_code
def yX3_pop : MethodName := ⟨RX3, "pop", "()I"⟩
abbrev cX3_bytes : ByteArray := prog_1_method_11_code
def yX3_bytes : MethodName := ⟨RX3, "bytes", "(III)I"⟩
abbrev cX3_used : ByteArray := prog_1_method_12_code
def yX3_used : MethodName := ⟨RX3, "used", "()I"⟩
abbrev cX3_old : ByteArray := prog_1_method_13_code
def yX3_old : MethodName := ⟨RX3, "old", "(I)I"⟩
abbrev cX3_deepest : ByteArray := prog_1_method_14_code
def yX3_deepest : MethodName := ⟨RX3, "deepest", "()I"⟩
abbrev cX3_existing : ByteArray := prog_1_method_15_code
def yX3_existing : MethodName := ⟨RX3, "existing", "(I)LSaveRestore$Thing;"⟩
abbrev cX3_find : ByteArray := prog_1_method_16_code
def yX3_find : MethodName := ⟨RX3, "find", "(I)LSaveRestore$Thing;"⟩
abbrev cX3_referredTo : ByteArray := prog_1_method_17_code
def yX3_referredTo : MethodName := ⟨RX3, "referredTo", "(I)LSaveRestore$Thing;"⟩
abbrev cX3_refersToLocal : ByteArray := prog_1_method_18_code
def yX3_refersToLocal : MethodName := ⟨RX3, "refersToLocal", "(I)Z"⟩
abbrev cX3_checkValue : ByteArray := prog_1_method_19_code
def yX3_checkValue : MethodName := ⟨RX3, "checkValue", "(I)V"⟩
abbrev cX3_checkIndex : ByteArray := prog_1_method_20_code
def yX3_checkIndex : MethodName := ⟨RX3, "checkIndex", "(II)V"⟩
abbrev cX3_keepRow : ByteArray := prog_1_method_21_code
def yX3_keepRow : MethodName := ⟨RX3, "keepRow", "(LSaveRestore$Thing;I)V"⟩
abbrev cX3_placeOfLiving : ByteArray := prog_1_method_22_code
def yX3_placeOfLiving : MethodName := ⟨RX3, "placeOfLiving", "(I)I"⟩
abbrev cX3_keptRefersToNewer : ByteArray := prog_1_method_23_code
def yX3_keptRefersToNewer : MethodName := ⟨RX3, "keptRefersToNewer", "(LSaveRestore$Save;)Z"⟩
abbrev cX3_undoSince : ByteArray := prog_1_method_24_code
def yX3_undoSince : MethodName := ⟨RX3, "undoSince", "(LSaveRestore$Save;)V"⟩
abbrev cX3_dropLocalsNewerThan : ByteArray := prog_1_method_25_code
def yX3_dropLocalsNewerThan : MethodName := ⟨RX3, "dropLocalsNewerThan", "(LSaveRestore$Save;)V"⟩
abbrev cX3_pushedSinceLatestSave : ByteArray := prog_1_method_26_code
def yX3_pushedSinceLatestSave : MethodName := ⟨RX3, "pushedSinceLatestSave", "()I"⟩
def RX4 : String := "SaveRestoreModel"
def TX4 : u_T := fun k => match k with
  | 0 => ("SaveRestoreModel", "thrown", "I", false)
  | 1 => ("SaveRestoreModel", "made", "I", false)
  | 2 => ("SaveRestoreModel", "alive", "I", false)
  | 3 => ("SaveRestoreModel", "isThere", "[Z", true)
  | 4 => ("SaveRestoreModel", "global", "[Z", true)
  | 5 => ("SaveRestoreModel", "cells", "[I", true)
  | 6 => ("SaveRestoreModel", "octets", "[I", true)
  | 7 => ("SaveRestoreModel", "parameters", "[I", true)
  | 8 => ("SaveRestoreModel", "saves", "I", false)
  | 9 => ("SaveRestoreModel", "lastSave", "I", false)
  | 10 => ("SaveRestoreModel", "deepest", "I", false)
  | 11 => ("SaveRestoreModel", "number", "[I", true)
  | 12 => ("SaveRestoreModel", "first", "[I", true)
  | 13 => ("SaveRestoreModel", "rowsBefore", "[I", true)
  | 14 => ("SaveRestoreModel", "statesBefore", "[I", true)
  | 15 => ("SaveRestoreModel", "had", "[I", true)
  | 16 => ("SaveRestoreModel", "rows", "I", false)
  | 17 => ("SaveRestoreModel", "place", "[I", true)
  | 18 => ("SaveRestoreModel", "value", "[I", true)
  | 19 => ("SaveRestoreModel", "states", "I", false)
  | _ => ("SaveRestoreModel", "pushed", "[I", true)
def tyX4 : Nat → FieldType := fun k => match k with
  | 0 => .int
  | 1 => .int
  | 2 => .int
  | 3 => .array .boolean
  | 4 => .array .boolean
  | 5 => .array .int
  | 6 => .array .int
  | 7 => .array .int
  | 8 => .int
  | 9 => .int
  | 10 => .int
  | 11 => .array .int
  | 12 => .array .int
  | 13 => .array .int
  | 14 => .array .int
  | 15 => .array .int
  | 16 => .int
  | 17 => .array .int
  | 18 => .array .int
  | 19 => .int
  | _ => .array .int
abbrev wsX40 : List Cond := u_ws RX4 TX4 21
theorem nmX4 : ∀ a, a < 21 → ∀ b, b < 21 → a ≠ b → (TX4 a).2.1 ≠ (TX4 b).2.1 := by decide +kernel
theorem tyX4_ok : ∀ k, k < 21 → parseFieldDescriptor (TX4 k).2.2.1 = some (tyX4 k) := by decide +kernel
abbrev cX4_init : ByteArray := prog_6_method_1_code
def yX4_init : MethodName := ⟨RX4, "<init>", "()V"⟩
abbrev cX4_thrown : ByteArray := prog_6_method_2_code
def yX4_thrown : MethodName := ⟨RX4, "thrown", "()I"⟩
abbrev cX4_isObject : ByteArray := prog_6_method_3_code
def yX4_isObject : MethodName := ⟨RX4, "isObject", "(I)Z"⟩
abbrev cX4_isValue : ByteArray := prog_6_method_4_code
def yX4_isValue : MethodName := ⟨RX4, "isValue", "(I)Z"⟩
abbrev cX4_isEight : ByteArray := prog_6_method_5_code
def yX4_isEight : MethodName := ⟨RX4, "isEight", "(I)Z"⟩
abbrev cX4_object : ByteArray := prog_6_method_6_code
def yX4_object : MethodName := ⟨RX4, "object", "(Z)I"⟩
abbrev cX4_keep : ByteArray := prog_6_method_7_code
def yX4_keep : MethodName := ⟨RX4, "keep", "(I)V"⟩
abbrev cX4_put : ByteArray := prog_6_method_8_code
def yX4_put : MethodName := ⟨RX4, "put", "(III)I"⟩
abbrev cX4_get : ByteArray := prog_6_method_9_code
def yX4_get : MethodName := ⟨RX4, "get", "(II)I"⟩
abbrev cX4_save : ByteArray := prog_6_method_10_code
def yX4_save : MethodName := ⟨RX4, "save", "()I"⟩
abbrev cX4_isLive : ByteArray := prog_6_method_11_code
def yX4_isLive : MethodName := ⟨RX4, "isLive", "(I)Z"⟩
abbrev cX4_isNewer : ByteArray := prog_6_method_12_code
def yX4_isNewer : MethodName := ⟨RX4, "isNewer", "(II)Z"⟩
abbrev cX4_restore : ByteArray := prog_6_method_13_code
def yX4_restore : MethodName := ⟨RX4, "restore", "(I)I"⟩
abbrev cX4_isParameter : ByteArray := prog_6_method_14_code
def yX4_isParameter : MethodName := ⟨RX4, "isParameter", "(I)Z"⟩
abbrev cX4_state : ByteArray := prog_6_method_15_code
def yX4_state : MethodName := ⟨RX4, "state", "(II)I"⟩
abbrev cX4_stateOf : ByteArray := prog_6_method_16_code
def yX4_stateOf : MethodName := ⟨RX4, "stateOf", "(I)I"⟩
abbrev cX4_ownStates : ByteArray := prog_6_method_17_code
def yX4_ownStates : MethodName := ⟨RX4, "ownStates", "()I"⟩
abbrev cX4_push : ByteArray := prog_6_method_18_code
def yX4_push : MethodName := ⟨RX4, "push", "()I"⟩
abbrev cX4_pop : ByteArray := prog_6_method_19_code
def yX4_pop : MethodName := ⟨RX4, "pop", "()I"⟩
abbrev cX4_bytes : ByteArray := prog_6_method_20_code
def yX4_bytes : MethodName := ⟨RX4, "bytes", "(III)I"⟩
abbrev cX4_used : ByteArray := prog_6_method_21_code
def yX4_used : MethodName := ⟨RX4, "used", "()I"⟩
abbrev cX4_old : ByteArray := prog_6_method_22_code
def yX4_old : MethodName := ⟨RX4, "old", "(I)I"⟩
abbrev cX4_deepest : ByteArray := prog_6_method_23_code
def yX4_deepest : MethodName := ⟨RX4, "deepest", "()I"⟩
def RJx145de : String := "java/io/Serializable"
def TJx145de : u_T := fun k => match k with
  | _ => ("", "", "", false)
def tyJx145de : Nat → FieldType := fun k => match k with
  | _ => .int
abbrev wsJx145de0 : List Cond := u_ws RJx145de TJx145de 0
theorem nmJx145de : ∀ a, a < 0 → ∀ b, b < 0 → a ≠ b → (TJx145de a).2.1 ≠ (TJx145de b).2.1 := by decide +kernel
theorem tyJx145de_ok : ∀ k, k < 0 → parseFieldDescriptor (TJx145de k).2.2.1 = some (tyJx145de k) := by decide +kernel
def RJ9 : String := "java/lang/Math"
def TJ9 : u_T := fun k => match k with
  | _ => ("", "", "", false)
def tyJ9 : Nat → FieldType := fun k => match k with
  | _ => .int
abbrev wsJ90 : List Cond := u_ws RJ9 TJ9 0
theorem nmJ9 : ∀ a, a < 0 → ∀ b, b < 0 → a ≠ b → (TJ9 a).2.1 ≠ (TJ9 b).2.1 := by decide +kernel
theorem tyJ9_ok : ∀ k, k < 0 → parseFieldDescriptor (TJ9 k).2.2.1 = some (tyJ9 k) := by decide +kernel
abbrev cJ9_max_7cf53 : ByteArray := prog_11_method_65_code
def yJ9_max_7cf53 : MethodName := ⟨RJ9, "max", "(II)I"⟩
abbrev cJ9_min_7cf53 : ByteArray := prog_11_method_69_code
def yJ9_min_7cf53 : MethodName := ⟨RJ9, "min", "(II)I"⟩
def RJ0 : String := "java/lang/String"
def TJ0 : u_T := fun k => match k with
  | _ => ("", "", "", false)
def tyJ0 : Nat → FieldType := fun k => match k with
  | _ => .int
abbrev wsJ00 : List Cond := u_ws RJ0 TJ0 0
theorem nmJ0 : ∀ a, a < 0 → ∀ b, b < 0 → a ≠ b → (TJ0 a).2.1 ≠ (TJ0 b).2.1 := by decide +kernel
theorem tyJ0_ok : ∀ k, k < 0 → parseFieldDescriptor (TJ0 k).2.2.1 = some (tyJ0 k) := by decide +kernel
def RJ10 : String := "java/lang/System"
def TJ10 : u_T := fun k => match k with
  | _ => ("", "", "", false)
def tyJ10 : Nat → FieldType := fun k => match k with
  | _ => .int
abbrev wsJ100 : List Cond := u_ws RJ10 TJ10 0
theorem nmJ10 : ∀ a, a < 0 → ∀ b, b < 0 → a ≠ b → (TJ10 a).2.1 ≠ (TJ10 b).2.1 := by decide +kernel
theorem tyJ10_ok : ∀ k, k < 0 → parseFieldDescriptor (TJ10 k).2.2.1 = some (tyJ10 k) := by decide +kernel
def RL : String := "SaveRestoreLaw"
abbrev cL_object : ByteArray := method_3_code
def yL_object : MethodName := ⟨RL, "object", "(LSaveRestore;Z[J)I"⟩
abbrev cL_put : ByteArray := method_4_code
def yL_put : MethodName := ⟨RL, "put", "(LSaveRestore;III[J)I"⟩
abbrev cL_get : ByteArray := method_5_code
def yL_get : MethodName := ⟨RL, "get", "(LSaveRestore;II[J)I"⟩
abbrev cL_save : ByteArray := method_6_code
def yL_save : MethodName := ⟨RL, "save", "(LSaveRestore;[J)I"⟩
abbrev cL_state : ByteArray := method_7_code
def yL_state : MethodName := ⟨RL, "state", "(LSaveRestore;II[J)I"⟩
abbrev cL_stateOf : ByteArray := method_8_code
def yL_stateOf : MethodName := ⟨RL, "stateOf", "(LSaveRestore;I[J)I"⟩
abbrev cL_push : ByteArray := method_9_code
def yL_push : MethodName := ⟨RL, "push", "(LSaveRestore;[J)I"⟩
abbrev cL_bytes : ByteArray := method_10_code
def yL_bytes : MethodName := ⟨RL, "bytes", "(LSaveRestore;III[J)I"⟩
abbrev cL_old : ByteArray := method_11_code
def yL_old : MethodName := ⟨RL, "old", "(LSaveRestore;I[J)I"⟩
abbrev cL_law : ByteArray := code
def yL_law : MethodName := ⟨RL, "law", "([I)Z"⟩
theorem dX0_init_0 : decode cX0_init 0 = .ok (.aload_n 0, 1) := by decide +kernel
theorem dX0_init_1 : decode cX0_init 1 = .ok (.invokespecial 1, 3) := by decide +kernel
theorem dX0_init_4 : decode cX0_init 4 = .ok (.aload_n 0, 1) := by decide +kernel
theorem dX0_init_5 : decode cX0_init 5 = .ok (.aload_n 1, 1) := by decide +kernel
theorem dX0_init_6 : decode cX0_init 6 = .ok (.putfield 7, 3) := by decide +kernel
theorem dX0_init_9 : decode cX0_init 9 = .ok (.aload_n 0, 1) := by decide +kernel
theorem dX0_init_10 : decode cX0_init 10 = .ok (.iload_n 2, 1) := by decide +kernel
theorem dX0_init_11 : decode cX0_init 11 = .ok (.putfield 13, 3) := by decide +kernel
theorem dX0_init_14 : decode cX0_init 14 = .ok (.aload_n 0, 1) := by decide +kernel
theorem dX0_init_15 : decode cX0_init 15 = .ok (.aload_n 1, 1) := by decide +kernel
theorem dX0_init_16 : decode cX0_init 16 = .ok (.getfield 17, 3) := by decide +kernel
theorem dX0_init_19 : decode cX0_init 19 = .ok (.iload_n 2, 1) := by decide +kernel
theorem dX0_init_20 : decode cX0_init 20 = .ok (.iaload, 1) := by decide +kernel
theorem dX0_init_21 : decode cX0_init 21 = .ok (.putfield 23, 3) := by decide +kernel
theorem dX0_init_24 : decode cX0_init 24 = .ok (.aload_n 0, 1) := by decide +kernel
theorem dX0_init_25 : decode cX0_init 25 = .ok (.aload_n 1, 1) := by decide +kernel
theorem dX0_init_26 : decode cX0_init 26 = .ok (.getfield 26, 3) := by decide +kernel
theorem dX0_init_29 : decode cX0_init 29 = .ok (.iload_n 2, 1) := by decide +kernel
theorem dX0_init_30 : decode cX0_init 30 = .ok (.iaload, 1) := by decide +kernel
theorem dX0_init_31 : decode cX0_init 31 = .ok (.putfield 29, 3) := by decide +kernel
theorem dX0_init_34 : decode cX0_init 34 = .ok (.aload_n 0, 1) := by decide +kernel
theorem dX0_init_35 : decode cX0_init 35 = .ok (.aload_n 3, 1) := by decide +kernel
theorem dX0_init_36 : decode cX0_init 36 = .ok (.putfield 32, 3) := by decide +kernel
theorem dX0_init_39 : decode cX0_init 39 = .ok (.return_, 1) := by decide +kernel
theorem dX0_putBack_0 : decode cX0_putBack 0 = .ok (.aload_n 0, 1) := by decide +kernel
theorem dX0_putBack_1 : decode cX0_putBack 1 = .ok (.getfield 7, 3) := by decide +kernel
theorem dX0_putBack_4 : decode cX0_putBack 4 = .ok (.getfield 17, 3) := by decide +kernel
theorem dX0_putBack_7 : decode cX0_putBack 7 = .ok (.aload_n 0, 1) := by decide +kernel
theorem dX0_putBack_8 : decode cX0_putBack 8 = .ok (.getfield 13, 3) := by decide +kernel
theorem dX0_putBack_11 : decode cX0_putBack 11 = .ok (.aload_n 0, 1) := by decide +kernel
theorem dX0_putBack_12 : decode cX0_putBack 12 = .ok (.getfield 23, 3) := by decide +kernel
theorem dX0_putBack_15 : decode cX0_putBack 15 = .ok (.iastore, 1) := by decide +kernel
theorem dX0_putBack_16 : decode cX0_putBack 16 = .ok (.aload_n 0, 1) := by decide +kernel
theorem dX0_putBack_17 : decode cX0_putBack 17 = .ok (.getfield 7, 3) := by decide +kernel
theorem dX0_putBack_20 : decode cX0_putBack 20 = .ok (.getfield 26, 3) := by decide +kernel
theorem dX0_putBack_23 : decode cX0_putBack 23 = .ok (.aload_n 0, 1) := by decide +kernel
theorem dX0_putBack_24 : decode cX0_putBack 24 = .ok (.getfield 13, 3) := by decide +kernel
theorem dX0_putBack_27 : decode cX0_putBack 27 = .ok (.aload_n 0, 1) := by decide +kernel
theorem dX0_putBack_28 : decode cX0_putBack 28 = .ok (.getfield 29, 3) := by decide +kernel
theorem dX0_putBack_31 : decode cX0_putBack 31 = .ok (.iastore, 1) := by decide +kernel
theorem dX0_putBack_32 : decode cX0_putBack 32 = .ok (.return_, 1) := by decide +kernel
theorem dX1_init_0 : decode cX1_init 0 = .ok (.aload_n 0, 1) := by decide +kernel
theorem dX1_init_1 : decode cX1_init 1 = .ok (.invokespecial 3, 3) := by decide +kernel
theorem dX1_init_4 : decode cX1_init 4 = .ok (.aload_n 0, 1) := by decide +kernel
theorem dX1_init_5 : decode cX1_init 5 = .ok (.iconst 0, 1) := by decide +kernel
theorem dX1_init_6 : decode cX1_init 6 = .ok (.putfield 9, 3) := by decide +kernel
theorem dX1_init_9 : decode cX1_init 9 = .ok (.aload_n 0, 1) := by decide +kernel
theorem dX1_init_10 : decode cX1_init 10 = .ok (.iconst 0, 1) := by decide +kernel
theorem dX1_init_11 : decode cX1_init 11 = .ok (.putfield 15, 3) := by decide +kernel
theorem dX1_init_14 : decode cX1_init 14 = .ok (.aload_n 0, 1) := by decide +kernel
theorem dX1_init_15 : decode cX1_init 15 = .ok (.iconst 0, 1) := by decide +kernel
theorem dX1_init_16 : decode cX1_init 16 = .ok (.putfield 18, 3) := by decide +kernel
theorem dX1_init_19 : decode cX1_init 19 = .ok (.aload_n 0, 1) := by decide +kernel
theorem dX1_init_20 : decode cX1_init 20 = .ok (.bipush 8, 2) := by decide +kernel
theorem dX1_init_22 : decode cX1_init 22 = .ok (.newarray .int, 2) := by decide +kernel
theorem dX1_init_24 : decode cX1_init 24 = .ok (.putfield 21, 3) := by decide +kernel
theorem dX1_init_27 : decode cX1_init 27 = .ok (.aload_n 0, 1) := by decide +kernel
theorem dX1_init_28 : decode cX1_init 28 = .ok (.aconst_null, 1) := by decide +kernel
theorem dX1_init_29 : decode cX1_init 29 = .ok (.putfield 25, 3) := by decide +kernel
theorem dX1_init_32 : decode cX1_init 32 = .ok (.aload_n 0, 1) := by decide +kernel
theorem dX1_init_33 : decode cX1_init 33 = .ok (.iconst 0, 1) := by decide +kernel
theorem dX1_init_34 : decode cX1_init 34 = .ok (.putfield 29, 3) := by decide +kernel
theorem dX1_init_37 : decode cX1_init 37 = .ok (.return_, 1) := by decide +kernel
theorem dX2_init_0 : decode cX2_init 0 = .ok (.aload_n 0, 1) := by decide +kernel
theorem dX2_init_1 : decode cX2_init 1 = .ok (.invokespecial 3, 3) := by decide +kernel
theorem dX2_init_4 : decode cX2_init 4 = .ok (.aload_n 0, 1) := by decide +kernel
theorem dX2_init_5 : decode cX2_init 5 = .ok (.bipush 8, 2) := by decide +kernel
theorem dX2_init_7 : decode cX2_init 7 = .ok (.newarray .int, 2) := by decide +kernel
theorem dX2_init_9 : decode cX2_init 9 = .ok (.putfield 9, 3) := by decide +kernel
theorem dX2_init_12 : decode cX2_init 12 = .ok (.aload_n 0, 1) := by decide +kernel
theorem dX2_init_13 : decode cX2_init 13 = .ok (.bipush 8, 2) := by decide +kernel
theorem dX2_init_15 : decode cX2_init 15 = .ok (.newarray .int, 2) := by decide +kernel
theorem dX2_init_17 : decode cX2_init 17 = .ok (.putfield 15, 3) := by decide +kernel
theorem dX2_init_20 : decode cX2_init 20 = .ok (.aload_n 0, 1) := by decide +kernel
theorem dX2_init_21 : decode cX2_init 21 = .ok (.bipush 8, 2) := by decide +kernel
theorem dX2_init_23 : decode cX2_init 23 = .ok (.newarray .int, 2) := by decide +kernel
theorem dX2_init_25 : decode cX2_init 25 = .ok (.putfield 18, 3) := by decide +kernel
theorem dX2_init_28 : decode cX2_init 28 = .ok (.aload_n 0, 1) := by decide +kernel
theorem dX2_init_29 : decode cX2_init 29 = .ok (.iload_n 1, 1) := by decide +kernel
theorem dX2_init_30 : decode cX2_init 30 = .ok (.putfield 21, 3) := by decide +kernel
theorem dX2_init_33 : decode cX2_init 33 = .ok (.aload_n 0, 1) := by decide +kernel
theorem dX2_init_34 : decode cX2_init 34 = .ok (.iload_n 2, 1) := by decide +kernel
theorem dX2_init_35 : decode cX2_init 35 = .ok (.putfield 25, 3) := by decide +kernel
theorem dX2_init_38 : decode cX2_init 38 = .ok (.return_, 1) := by decide +kernel
theorem dX2_isNewerThan_0 : decode cX2_isNewerThan 0 = .ok (.aload_n 0, 1) := by decide +kernel
theorem dX2_isNewerThan_1 : decode cX2_isNewerThan 1 = .ok (.getfield 21, 3) := by decide +kernel
theorem dX2_isNewerThan_4 : decode cX2_isNewerThan 4 = .ok (.aload_n 1, 1) := by decide +kernel
theorem dX2_isNewerThan_5 : decode cX2_isNewerThan 5 = .ok (.getfield 29, 3) := by decide +kernel
theorem dX2_isNewerThan_8 : decode cX2_isNewerThan 8 = .ok (.if_icmp .lt 7, 3) := by decide +kernel
theorem dX2_isNewerThan_11 : decode cX2_isNewerThan 11 = .ok (.iconst 1, 1) := by decide +kernel
theorem dX2_isNewerThan_12 : decode cX2_isNewerThan 12 = .ok (.goto 4, 3) := by decide +kernel
theorem dX2_isNewerThan_15 : decode cX2_isNewerThan 15 = .ok (.iconst 0, 1) := by decide +kernel
theorem dX2_isNewerThan_16 : decode cX2_isNewerThan 16 = .ok (.ireturn, 1) := by decide +kernel
theorem dX3_init_0 : decode cX3_init 0 = .ok (.aload_n 0, 1) := by decide +kernel
theorem dX3_init_1 : decode cX3_init 1 = .ok (.invokespecial 1, 3) := by decide +kernel
theorem dX3_init_4 : decode cX3_init 4 = .ok (.aload_n 0, 1) := by decide +kernel
theorem dX3_init_5 : decode cX3_init 5 = .ok (.sipush 200, 3) := by decide +kernel
theorem dX3_init_8 : decode cX3_init 8 = .ok (.anewarray 9, 3) := by decide +kernel
theorem dX3_init_11 : decode cX3_init 11 = .ok (.putfield 11, 3) := by decide +kernel
theorem dX3_init_14 : decode cX3_init 14 = .ok (.aload_n 0, 1) := by decide +kernel
theorem dX3_init_15 : decode cX3_init 15 = .ok (.iconst 0, 1) := by decide +kernel
theorem dX3_init_16 : decode cX3_init 16 = .ok (.putfield 15, 3) := by decide +kernel
theorem dX3_init_19 : decode cX3_init 19 = .ok (.aload_n 0, 1) := by decide +kernel
theorem dX3_init_20 : decode cX3_init 20 = .ok (.iconst 0, 1) := by decide +kernel
theorem dX3_init_21 : decode cX3_init 21 = .ok (.putfield 19, 3) := by decide +kernel
theorem dX3_init_24 : decode cX3_init 24 = .ok (.aload_n 0, 1) := by decide +kernel
theorem dX3_init_25 : decode cX3_init 25 = .ok (.bipush 16, 2) := by decide +kernel
theorem dX3_init_27 : decode cX3_init 27 = .ok (.anewarray 22, 3) := by decide +kernel
theorem dX3_init_30 : decode cX3_init 30 = .ok (.putfield 24, 3) := by decide +kernel
theorem dX3_init_33 : decode cX3_init 33 = .ok (.aload_n 0, 1) := by decide +kernel
theorem dX3_init_34 : decode cX3_init 34 = .ok (.iconst 0, 1) := by decide +kernel
theorem dX3_init_35 : decode cX3_init 35 = .ok (.putfield 28, 3) := by decide +kernel
theorem dX3_init_38 : decode cX3_init 38 = .ok (.aload_n 0, 1) := by decide +kernel
theorem dX3_init_39 : decode cX3_init 39 = .ok (.iconst 0, 1) := by decide +kernel
theorem dX3_init_40 : decode cX3_init 40 = .ok (.putfield 31, 3) := by decide +kernel
theorem dX3_init_43 : decode cX3_init 43 = .ok (.aload_n 0, 1) := by decide +kernel
theorem dX3_init_44 : decode cX3_init 44 = .ok (.iconst 0, 1) := by decide +kernel
theorem dX3_init_45 : decode cX3_init 45 = .ok (.putfield 34, 3) := by decide +kernel
theorem dX3_init_48 : decode cX3_init 48 = .ok (.aload_n 0, 1) := by decide +kernel
theorem dX3_init_49 : decode cX3_init 49 = .ok (.bipush 10, 2) := by decide +kernel
theorem dX3_init_51 : decode cX3_init 51 = .ok (.newarray .int, 2) := by decide +kernel
theorem dX3_init_53 : decode cX3_init 53 = .ok (.putfield 37, 3) := by decide +kernel
theorem dX3_init_56 : decode cX3_init 56 = .ok (.aload_n 0, 1) := by decide +kernel
theorem dX3_init_57 : decode cX3_init 57 = .ok (.bipush 30, 2) := by decide +kernel
theorem dX3_init_59 : decode cX3_init 59 = .ok (.bipush 8, 2) := by decide +kernel
theorem dX3_init_61 : decode cX3_init 61 = .ok (.multianewarray 41 2, 4) := by decide +kernel
theorem dX3_init_65 : decode cX3_init 65 = .ok (.putfield 43, 3) := by decide +kernel
theorem dX3_init_68 : decode cX3_init 68 = .ok (.aload_n 0, 1) := by decide +kernel
theorem dX3_init_69 : decode cX3_init 69 = .ok (.iconst 0, 1) := by decide +kernel
theorem dX3_init_70 : decode cX3_init 70 = .ok (.putfield 46, 3) := by decide +kernel
theorem dX3_init_73 : decode cX3_init 73 = .ok (.iconst 0, 1) := by decide +kernel
theorem dX3_init_74 : decode cX3_init 74 = .ok (.istore_n 1, 1) := by decide +kernel
theorem dX3_init_75 : decode cX3_init 75 = .ok (.iload_n 1, 1) := by decide +kernel
theorem dX3_init_76 : decode cX3_init 76 = .ok (.bipush 16, 2) := by decide +kernel
theorem dX3_init_78 : decode cX3_init 78 = .ok (.if_icmp .ge 22, 3) := by decide +kernel
theorem dX3_init_81 : decode cX3_init 81 = .ok (.aload_n 0, 1) := by decide +kernel
theorem dX3_init_82 : decode cX3_init 82 = .ok (.getfield 24, 3) := by decide +kernel
theorem dX3_init_85 : decode cX3_init 85 = .ok (.iload_n 1, 1) := by decide +kernel
theorem dX3_init_86 : decode cX3_init 86 = .ok (.new 22, 3) := by decide +kernel
theorem dX3_init_89 : decode cX3_init 89 = .ok (.dup, 1) := by decide +kernel
theorem dX3_init_90 : decode cX3_init 90 = .ok (.invokespecial 49, 3) := by decide +kernel
theorem dX3_init_93 : decode cX3_init 93 = .ok (.aastore, 1) := by decide +kernel
theorem dX3_init_94 : decode cX3_init 94 = .ok (.iinc 1 1, 3) := by decide +kernel
theorem dX3_init_97 : decode cX3_init 97 = .ok (.goto (-22), 3) := by decide +kernel
theorem dX3_init_100 : decode cX3_init 100 = .ok (.return_, 1) := by decide +kernel
theorem dX3_object_0 : decode cX3_object 0 = .ok (.aload_n 0, 1) := by decide +kernel
theorem dX3_object_1 : decode cX3_object 1 = .ok (.getfield 15, 3) := by decide +kernel
theorem dX3_object_4 : decode cX3_object 4 = .ok (.sipush 200, 3) := by decide +kernel
theorem dX3_object_7 : decode cX3_object 7 = .ok (.if_icmp .lt 13, 3) := by decide +kernel
theorem dX3_object_10 : decode cX3_object 10 = .ok (.new 50, 3) := by decide +kernel
theorem dX3_object_13 : decode cX3_object 13 = .ok (.dup, 1) := by decide +kernel
theorem dX3_object_14 : decode cX3_object 14 = .ok (.ldc 52, 2) := by decide +kernel
theorem dX3_object_16 : decode cX3_object 16 = .ok (.invokespecial 54, 3) := by decide +kernel
theorem dX3_object_19 : decode cX3_object 19 = .ok (.athrow, 1) := by decide +kernel
theorem dX3_object_20 : decode cX3_object 20 = .ok (.new 9, 3) := by decide +kernel
theorem dX3_object_23 : decode cX3_object 23 = .ok (.dup, 1) := by decide +kernel
theorem dX3_object_24 : decode cX3_object 24 = .ok (.aload_n 0, 1) := by decide +kernel
theorem dX3_object_25 : decode cX3_object 25 = .ok (.getfield 19, 3) := by decide +kernel
theorem dX3_object_28 : decode cX3_object 28 = .ok (.iload_n 1, 1) := by decide +kernel
theorem dX3_object_29 : decode cX3_object 29 = .ok (.invokespecial 57, 3) := by decide +kernel
theorem dX3_object_32 : decode cX3_object 32 = .ok (.astore_n 2, 1) := by decide +kernel
theorem dX3_object_33 : decode cX3_object 33 = .ok (.aload_n 0, 1) := by decide +kernel
theorem dX3_object_34 : decode cX3_object 34 = .ok (.getfield 11, 3) := by decide +kernel
theorem dX3_object_37 : decode cX3_object 37 = .ok (.aload_n 0, 1) := by decide +kernel
theorem dX3_object_38 : decode cX3_object 38 = .ok (.getfield 15, 3) := by decide +kernel
theorem dX3_object_41 : decode cX3_object 41 = .ok (.aload_n 2, 1) := by decide +kernel
theorem dX3_object_42 : decode cX3_object 42 = .ok (.aastore, 1) := by decide +kernel
theorem dX3_object_43 : decode cX3_object 43 = .ok (.aload_n 0, 1) := by decide +kernel
theorem dX3_object_44 : decode cX3_object 44 = .ok (.dup, 1) := by decide +kernel
theorem dX3_object_45 : decode cX3_object 45 = .ok (.getfield 15, 3) := by decide +kernel
theorem dX3_object_48 : decode cX3_object 48 = .ok (.iconst 1, 1) := by decide +kernel
theorem dX3_object_49 : decode cX3_object 49 = .ok (.iadd, 1) := by decide +kernel
theorem dX3_object_50 : decode cX3_object 50 = .ok (.putfield 15, 3) := by decide +kernel
theorem dX3_object_53 : decode cX3_object 53 = .ok (.aload_n 0, 1) := by decide +kernel
theorem dX3_object_54 : decode cX3_object 54 = .ok (.dup, 1) := by decide +kernel
theorem dX3_object_55 : decode cX3_object 55 = .ok (.getfield 19, 3) := by decide +kernel
theorem dX3_object_58 : decode cX3_object 58 = .ok (.iconst 1, 1) := by decide +kernel
theorem dX3_object_59 : decode cX3_object 59 = .ok (.iadd, 1) := by decide +kernel
theorem dX3_object_60 : decode cX3_object 60 = .ok (.putfield 19, 3) := by decide +kernel
theorem dX3_object_63 : decode cX3_object 63 = .ok (.aload_n 2, 1) := by decide +kernel
theorem dX3_object_64 : decode cX3_object 64 = .ok (.getfield 60, 3) := by decide +kernel
theorem dX3_object_67 : decode cX3_object 67 = .ok (.ireturn, 1) := by decide +kernel
theorem dX3_put_0 : decode cX3_put 0 = .ok (.aload_n 0, 1) := by decide +kernel
theorem dX3_put_1 : decode cX3_put 1 = .ok (.iload_n 1, 1) := by decide +kernel
theorem dX3_put_2 : decode cX3_put 2 = .ok (.invokevirtual 63, 3) := by decide +kernel
theorem dX3_put_5 : decode cX3_put 5 = .ok (.astore 4, 2) := by decide +kernel
theorem dX3_put_7 : decode cX3_put 7 = .ok (.aload_n 0, 1) := by decide +kernel
theorem dX3_put_8 : decode cX3_put 8 = .ok (.iload_n 3, 1) := by decide +kernel
theorem dX3_put_9 : decode cX3_put 9 = .ok (.invokevirtual 67, 3) := by decide +kernel
theorem dX3_put_12 : decode cX3_put 12 = .ok (.iload_n 2, 1) := by decide +kernel
theorem dX3_put_13 : decode cX3_put 13 = .ok (.bipush 8, 2) := by decide +kernel
theorem dX3_put_15 : decode cX3_put 15 = .ok (.invokestatic 71, 3) := by decide +kernel
theorem dX3_put_18 : decode cX3_put 18 = .ok (.aload 4, 2) := by decide +kernel
theorem dX3_put_20 : decode cX3_put 20 = .ok (.getfield 75, 3) := by decide +kernel
theorem dX3_put_23 : decode cX3_put 23 = .ok (.ifCond .eq 21, 3) := by decide +kernel
theorem dX3_put_26 : decode cX3_put 26 = .ok (.aload_n 0, 1) := by decide +kernel
theorem dX3_put_27 : decode cX3_put 27 = .ok (.iload_n 3, 1) := by decide +kernel
theorem dX3_put_28 : decode cX3_put 28 = .ok (.invokevirtual 79, 3) := by decide +kernel
theorem dX3_put_31 : decode cX3_put 31 = .ok (.ifCond .eq 13, 3) := by decide +kernel
theorem dX3_put_34 : decode cX3_put 34 = .ok (.new 83, 3) := by decide +kernel
theorem dX3_put_37 : decode cX3_put 37 = .ok (.dup, 1) := by decide +kernel
theorem dX3_put_38 : decode cX3_put 38 = .ok (.ldc 85, 2) := by decide +kernel
theorem dX3_put_40 : decode cX3_put 40 = .ok (.invokespecial 87, 3) := by decide +kernel
theorem dX3_put_43 : decode cX3_put 43 = .ok (.athrow, 1) := by decide +kernel
theorem dX3_put_44 : decode cX3_put 44 = .ok (.aload_n 0, 1) := by decide +kernel
theorem dX3_put_45 : decode cX3_put 45 = .ok (.aload 4, 2) := by decide +kernel
theorem dX3_put_47 : decode cX3_put 47 = .ok (.iload_n 2, 1) := by decide +kernel
theorem dX3_put_48 : decode cX3_put 48 = .ok (.invokevirtual 88, 3) := by decide +kernel
theorem dX3_put_51 : decode cX3_put 51 = .ok (.aload 4, 2) := by decide +kernel
theorem dX3_put_53 : decode cX3_put 53 = .ok (.getfield 92, 3) := by decide +kernel
theorem dX3_put_56 : decode cX3_put 56 = .ok (.iload_n 2, 1) := by decide +kernel
theorem dX3_put_57 : decode cX3_put 57 = .ok (.iaload, 1) := by decide +kernel
theorem dX3_put_58 : decode cX3_put 58 = .ok (.istore 5, 2) := by decide +kernel
theorem dX3_put_60 : decode cX3_put 60 = .ok (.aload 4, 2) := by decide +kernel
theorem dX3_put_62 : decode cX3_put 62 = .ok (.getfield 92, 3) := by decide +kernel
theorem dX3_put_65 : decode cX3_put 65 = .ok (.iload_n 2, 1) := by decide +kernel
theorem dX3_put_66 : decode cX3_put 66 = .ok (.iload_n 3, 1) := by decide +kernel
theorem dX3_put_67 : decode cX3_put 67 = .ok (.iastore, 1) := by decide +kernel
theorem dX3_put_68 : decode cX3_put 68 = .ok (.iload 5, 2) := by decide +kernel
theorem dX3_put_70 : decode cX3_put 70 = .ok (.ireturn, 1) := by decide +kernel
theorem dX3_get_0 : decode cX3_get 0 = .ok (.aload_n 0, 1) := by decide +kernel
theorem dX3_get_1 : decode cX3_get 1 = .ok (.iload_n 1, 1) := by decide +kernel
theorem dX3_get_2 : decode cX3_get 2 = .ok (.invokevirtual 63, 3) := by decide +kernel
theorem dX3_get_5 : decode cX3_get 5 = .ok (.astore_n 3, 1) := by decide +kernel
theorem dX3_get_6 : decode cX3_get 6 = .ok (.iload_n 2, 1) := by decide +kernel
theorem dX3_get_7 : decode cX3_get 7 = .ok (.bipush 8, 2) := by decide +kernel
theorem dX3_get_9 : decode cX3_get 9 = .ok (.invokestatic 71, 3) := by decide +kernel
theorem dX3_get_12 : decode cX3_get 12 = .ok (.aload_n 3, 1) := by decide +kernel
theorem dX3_get_13 : decode cX3_get 13 = .ok (.getfield 92, 3) := by decide +kernel
theorem dX3_get_16 : decode cX3_get 16 = .ok (.iload_n 2, 1) := by decide +kernel
theorem dX3_get_17 : decode cX3_get 17 = .ok (.iaload, 1) := by decide +kernel
theorem dX3_get_18 : decode cX3_get 18 = .ok (.ireturn, 1) := by decide +kernel
theorem dX3_save_0 : decode cX3_save 0 = .ok (.aload_n 0, 1) := by decide +kernel
theorem dX3_save_1 : decode cX3_save 1 = .ok (.getfield 28, 3) := by decide +kernel
theorem dX3_save_4 : decode cX3_save 4 = .ok (.bipush 16, 2) := by decide +kernel
theorem dX3_save_6 : decode cX3_save 6 = .ok (.if_icmp .lt 13, 3) := by decide +kernel
theorem dX3_save_9 : decode cX3_save 9 = .ok (.new 50, 3) := by decide +kernel
theorem dX3_save_12 : decode cX3_save 12 = .ok (.dup, 1) := by decide +kernel
theorem dX3_save_13 : decode cX3_save 13 = .ok (.ldc 95, 2) := by decide +kernel
theorem dX3_save_15 : decode cX3_save 15 = .ok (.invokespecial 54, 3) := by decide +kernel
theorem dX3_save_18 : decode cX3_save 18 = .ok (.athrow, 1) := by decide +kernel
theorem dX3_save_19 : decode cX3_save 19 = .ok (.aload_n 0, 1) := by decide +kernel
theorem dX3_save_20 : decode cX3_save 20 = .ok (.dup, 1) := by decide +kernel
theorem dX3_save_21 : decode cX3_save 21 = .ok (.getfield 31, 3) := by decide +kernel
theorem dX3_save_24 : decode cX3_save 24 = .ok (.iconst 1, 1) := by decide +kernel
theorem dX3_save_25 : decode cX3_save 25 = .ok (.iadd, 1) := by decide +kernel
theorem dX3_save_26 : decode cX3_save 26 = .ok (.putfield 31, 3) := by decide +kernel
theorem dX3_save_29 : decode cX3_save 29 = .ok (.aload_n 0, 1) := by decide +kernel
theorem dX3_save_30 : decode cX3_save 30 = .ok (.getfield 24, 3) := by decide +kernel
theorem dX3_save_33 : decode cX3_save 33 = .ok (.aload_n 0, 1) := by decide +kernel
theorem dX3_save_34 : decode cX3_save 34 = .ok (.getfield 28, 3) := by decide +kernel
theorem dX3_save_37 : decode cX3_save 37 = .ok (.aaload, 1) := by decide +kernel
theorem dX3_save_38 : decode cX3_save 38 = .ok (.astore_n 1, 1) := by decide +kernel
theorem dX3_save_39 : decode cX3_save 39 = .ok (.aload_n 1, 1) := by decide +kernel
theorem dX3_save_40 : decode cX3_save 40 = .ok (.aload_n 0, 1) := by decide +kernel
theorem dX3_save_41 : decode cX3_save 41 = .ok (.getfield 31, 3) := by decide +kernel
theorem dX3_save_44 : decode cX3_save 44 = .ok (.putfield 97, 3) := by decide +kernel
theorem dX3_save_47 : decode cX3_save 47 = .ok (.aload_n 1, 1) := by decide +kernel
theorem dX3_save_48 : decode cX3_save 48 = .ok (.aload_n 0, 1) := by decide +kernel
theorem dX3_save_49 : decode cX3_save 49 = .ok (.getfield 19, 3) := by decide +kernel
theorem dX3_save_52 : decode cX3_save 52 = .ok (.putfield 98, 3) := by decide +kernel
theorem dX3_save_55 : decode cX3_save 55 = .ok (.aload_n 1, 1) := by decide +kernel
theorem dX3_save_56 : decode cX3_save 56 = .ok (.aload_n 0, 1) := by decide +kernel
theorem dX3_save_57 : decode cX3_save 57 = .ok (.getfield 46, 3) := by decide +kernel
theorem dX3_save_60 : decode cX3_save 60 = .ok (.putfield 101, 3) := by decide +kernel
theorem dX3_save_63 : decode cX3_save 63 = .ok (.aload_n 0, 1) := by decide +kernel
theorem dX3_save_64 : decode cX3_save 64 = .ok (.getfield 37, 3) := by decide +kernel
theorem dX3_save_67 : decode cX3_save 67 = .ok (.iconst 0, 1) := by decide +kernel
theorem dX3_save_68 : decode cX3_save 68 = .ok (.aload_n 1, 1) := by decide +kernel
theorem dX3_save_69 : decode cX3_save 69 = .ok (.getfield 104, 3) := by decide +kernel
theorem dX3_save_72 : decode cX3_save 72 = .ok (.iconst 0, 1) := by decide +kernel
theorem dX3_save_73 : decode cX3_save 73 = .ok (.bipush 8, 2) := by decide +kernel
theorem dX3_save_75 : decode cX3_save 75 = .ok (.invokestatic 105, 3) := by decide +kernel
theorem dX3_save_78 : decode cX3_save 78 = .ok (.aload_n 0, 1) := by decide +kernel
theorem dX3_save_79 : decode cX3_save 79 = .ok (.dup, 1) := by decide +kernel
theorem dX3_save_80 : decode cX3_save 80 = .ok (.getfield 28, 3) := by decide +kernel
theorem dX3_save_83 : decode cX3_save 83 = .ok (.iconst 1, 1) := by decide +kernel
theorem dX3_save_84 : decode cX3_save 84 = .ok (.iadd, 1) := by decide +kernel
theorem dX3_save_85 : decode cX3_save 85 = .ok (.putfield 28, 3) := by decide +kernel
theorem dX3_save_88 : decode cX3_save 88 = .ok (.aload_n 0, 1) := by decide +kernel
theorem dX3_save_89 : decode cX3_save 89 = .ok (.aload_n 0, 1) := by decide +kernel
theorem dX3_save_90 : decode cX3_save 90 = .ok (.getfield 34, 3) := by decide +kernel
theorem dX3_save_93 : decode cX3_save 93 = .ok (.aload_n 0, 1) := by decide +kernel
theorem dX3_save_94 : decode cX3_save 94 = .ok (.getfield 28, 3) := by decide +kernel
theorem dX3_save_97 : decode cX3_save 97 = .ok (.invokestatic 111, 3) := by decide +kernel
theorem dX3_save_100 : decode cX3_save 100 = .ok (.putfield 34, 3) := by decide +kernel
theorem dX3_save_103 : decode cX3_save 103 = .ok (.aload_n 0, 1) := by decide +kernel
theorem dX3_save_104 : decode cX3_save 104 = .ok (.getfield 31, 3) := by decide +kernel
theorem dX3_save_107 : decode cX3_save 107 = .ok (.ireturn, 1) := by decide +kernel
theorem dX3_restore_0 : decode cX3_restore 0 = .ok (.iload_n 1, 1) := by decide +kernel
theorem dX3_restore_1 : decode cX3_restore 1 = .ok (.iconst 1, 1) := by decide +kernel
theorem dX3_restore_2 : decode cX3_restore 2 = .ok (.if_icmp .lt 11, 3) := by decide +kernel
theorem dX3_restore_5 : decode cX3_restore 5 = .ok (.iload_n 1, 1) := by decide +kernel
theorem dX3_restore_6 : decode cX3_restore 6 = .ok (.aload_n 0, 1) := by decide +kernel
theorem dX3_restore_7 : decode cX3_restore 7 = .ok (.getfield 31, 3) := by decide +kernel
theorem dX3_restore_10 : decode cX3_restore 10 = .ok (.if_icmp .le 5, 3) := by decide +kernel
theorem dX3_restore_13 : decode cX3_restore 13 = .ok (.iconst (-1), 1) := by decide +kernel
theorem dX3_restore_14 : decode cX3_restore 14 = .ok (.ireturn, 1) := by decide +kernel
theorem dX3_restore_15 : decode cX3_restore 15 = .ok (.aload_n 0, 1) := by decide +kernel
theorem dX3_restore_16 : decode cX3_restore 16 = .ok (.iload_n 1, 1) := by decide +kernel
theorem dX3_restore_17 : decode cX3_restore 17 = .ok (.invokevirtual 117, 3) := by decide +kernel
theorem dX3_restore_20 : decode cX3_restore 20 = .ok (.istore_n 2, 1) := by decide +kernel
theorem dX3_restore_21 : decode cX3_restore 21 = .ok (.iload_n 2, 1) := by decide +kernel
theorem dX3_restore_22 : decode cX3_restore 22 = .ok (.ifCond .ge 6, 3) := by decide +kernel
theorem dX3_restore_25 : decode cX3_restore 25 = .ok (.bipush (-2), 2) := by decide +kernel
theorem dX3_restore_27 : decode cX3_restore 27 = .ok (.ireturn, 1) := by decide +kernel
theorem dX3_restore_28 : decode cX3_restore 28 = .ok (.iload_n 2, 1) := by decide +kernel
theorem dX3_restore_29 : decode cX3_restore 29 = .ok (.aload_n 0, 1) := by decide +kernel
theorem dX3_restore_30 : decode cX3_restore 30 = .ok (.getfield 28, 3) := by decide +kernel
theorem dX3_restore_33 : decode cX3_restore 33 = .ok (.iconst 1, 1) := by decide +kernel
theorem dX3_restore_34 : decode cX3_restore 34 = .ok (.isub, 1) := by decide +kernel
theorem dX3_restore_35 : decode cX3_restore 35 = .ok (.if_icmp .ge 6, 3) := by decide +kernel
theorem dX3_restore_38 : decode cX3_restore 38 = .ok (.bipush (-3), 2) := by decide +kernel
theorem dX3_restore_40 : decode cX3_restore 40 = .ok (.ireturn, 1) := by decide +kernel
theorem dX3_restore_41 : decode cX3_restore 41 = .ok (.aload_n 0, 1) := by decide +kernel
theorem dX3_restore_42 : decode cX3_restore 42 = .ok (.aload_n 0, 1) := by decide +kernel
theorem dX3_restore_43 : decode cX3_restore 43 = .ok (.getfield 24, 3) := by decide +kernel
theorem dX3_restore_46 : decode cX3_restore 46 = .ok (.iload_n 2, 1) := by decide +kernel
theorem dX3_restore_47 : decode cX3_restore 47 = .ok (.aaload, 1) := by decide +kernel
theorem dX3_restore_48 : decode cX3_restore 48 = .ok (.invokevirtual 121, 3) := by decide +kernel
theorem dX3_restore_51 : decode cX3_restore 51 = .ok (.ifCond .eq 6, 3) := by decide +kernel
theorem dX3_restore_54 : decode cX3_restore 54 = .ok (.bipush (-4), 2) := by decide +kernel
theorem dX3_restore_56 : decode cX3_restore 56 = .ok (.ireturn, 1) := by decide +kernel
theorem dX3_restore_57 : decode cX3_restore 57 = .ok (.aload_n 0, 1) := by decide +kernel
theorem dX3_restore_58 : decode cX3_restore 58 = .ok (.aload_n 0, 1) := by decide +kernel
theorem dX3_restore_59 : decode cX3_restore 59 = .ok (.getfield 24, 3) := by decide +kernel
theorem dX3_restore_62 : decode cX3_restore 62 = .ok (.iload_n 2, 1) := by decide +kernel
theorem dX3_restore_63 : decode cX3_restore 63 = .ok (.aaload, 1) := by decide +kernel
theorem dX3_restore_64 : decode cX3_restore 64 = .ok (.invokevirtual 125, 3) := by decide +kernel
theorem dX3_restore_67 : decode cX3_restore 67 = .ok (.aload_n 0, 1) := by decide +kernel
theorem dX3_restore_68 : decode cX3_restore 68 = .ok (.dup, 1) := by decide +kernel
theorem dX3_restore_69 : decode cX3_restore 69 = .ok (.getfield 28, 3) := by decide +kernel
theorem dX3_restore_72 : decode cX3_restore 72 = .ok (.iconst 1, 1) := by decide +kernel
theorem dX3_restore_73 : decode cX3_restore 73 = .ok (.isub, 1) := by decide +kernel
theorem dX3_restore_74 : decode cX3_restore 74 = .ok (.putfield 28, 3) := by decide +kernel
theorem dX3_restore_77 : decode cX3_restore 77 = .ok (.iconst 1, 1) := by decide +kernel
theorem dX3_restore_78 : decode cX3_restore 78 = .ok (.ireturn, 1) := by decide +kernel
theorem dX3_state_0 : decode cX3_state 0 = .ok (.aload_n 0, 1) := by decide +kernel
theorem dX3_state_1 : decode cX3_state 1 = .ok (.iload_n 2, 1) := by decide +kernel
theorem dX3_state_2 : decode cX3_state 2 = .ok (.invokevirtual 67, 3) := by decide +kernel
theorem dX3_state_5 : decode cX3_state 5 = .ok (.iload_n 1, 1) := by decide +kernel
theorem dX3_state_6 : decode cX3_state 6 = .ok (.bipush 10, 2) := by decide +kernel
theorem dX3_state_8 : decode cX3_state 8 = .ok (.invokestatic 71, 3) := by decide +kernel
theorem dX3_state_11 : decode cX3_state 11 = .ok (.aload_n 0, 1) := by decide +kernel
theorem dX3_state_12 : decode cX3_state 12 = .ok (.getfield 37, 3) := by decide +kernel
theorem dX3_state_15 : decode cX3_state 15 = .ok (.iload_n 1, 1) := by decide +kernel
theorem dX3_state_16 : decode cX3_state 16 = .ok (.iaload, 1) := by decide +kernel
theorem dX3_state_17 : decode cX3_state 17 = .ok (.istore_n 3, 1) := by decide +kernel
theorem dX3_state_18 : decode cX3_state 18 = .ok (.aload_n 0, 1) := by decide +kernel
theorem dX3_state_19 : decode cX3_state 19 = .ok (.getfield 37, 3) := by decide +kernel
theorem dX3_state_22 : decode cX3_state 22 = .ok (.iload_n 1, 1) := by decide +kernel
theorem dX3_state_23 : decode cX3_state 23 = .ok (.iload_n 2, 1) := by decide +kernel
theorem dX3_state_24 : decode cX3_state 24 = .ok (.iastore, 1) := by decide +kernel
theorem dX3_state_25 : decode cX3_state 25 = .ok (.iload_n 3, 1) := by decide +kernel
theorem dX3_state_26 : decode cX3_state 26 = .ok (.ireturn, 1) := by decide +kernel
theorem dX3_stateOf_0 : decode cX3_stateOf 0 = .ok (.iload_n 1, 1) := by decide +kernel
theorem dX3_stateOf_1 : decode cX3_stateOf 1 = .ok (.bipush 10, 2) := by decide +kernel
theorem dX3_stateOf_3 : decode cX3_stateOf 3 = .ok (.invokestatic 71, 3) := by decide +kernel
theorem dX3_stateOf_6 : decode cX3_stateOf 6 = .ok (.aload_n 0, 1) := by decide +kernel
theorem dX3_stateOf_7 : decode cX3_stateOf 7 = .ok (.getfield 37, 3) := by decide +kernel
theorem dX3_stateOf_10 : decode cX3_stateOf 10 = .ok (.iload_n 1, 1) := by decide +kernel
theorem dX3_stateOf_11 : decode cX3_stateOf 11 = .ok (.iaload, 1) := by decide +kernel
theorem dX3_stateOf_12 : decode cX3_stateOf 12 = .ok (.ireturn, 1) := by decide +kernel
theorem dX3_push_0 : decode cX3_push 0 = .ok (.aload_n 0, 1) := by decide +kernel
theorem dX3_push_1 : decode cX3_push 1 = .ok (.getfield 46, 3) := by decide +kernel
theorem dX3_push_4 : decode cX3_push 4 = .ok (.bipush 30, 2) := by decide +kernel
theorem dX3_push_6 : decode cX3_push 6 = .ok (.if_icmp .lt 13, 3) := by decide +kernel
theorem dX3_push_9 : decode cX3_push 9 = .ok (.new 50, 3) := by decide +kernel
theorem dX3_push_12 : decode cX3_push 12 = .ok (.dup, 1) := by decide +kernel
theorem dX3_push_13 : decode cX3_push 13 = .ok (.ldc 129, 2) := by decide +kernel
theorem dX3_push_15 : decode cX3_push 15 = .ok (.invokespecial 54, 3) := by decide +kernel
theorem dX3_push_18 : decode cX3_push 18 = .ok (.athrow, 1) := by decide +kernel
theorem dX3_push_19 : decode cX3_push 19 = .ok (.aload_n 0, 1) := by decide +kernel
theorem dX3_push_20 : decode cX3_push 20 = .ok (.getfield 37, 3) := by decide +kernel
theorem dX3_push_23 : decode cX3_push 23 = .ok (.iconst 0, 1) := by decide +kernel
theorem dX3_push_24 : decode cX3_push 24 = .ok (.aload_n 0, 1) := by decide +kernel
theorem dX3_push_25 : decode cX3_push 25 = .ok (.getfield 43, 3) := by decide +kernel
theorem dX3_push_28 : decode cX3_push 28 = .ok (.aload_n 0, 1) := by decide +kernel
theorem dX3_push_29 : decode cX3_push 29 = .ok (.getfield 46, 3) := by decide +kernel
theorem dX3_push_32 : decode cX3_push 32 = .ok (.aaload, 1) := by decide +kernel
theorem dX3_push_33 : decode cX3_push 33 = .ok (.iconst 0, 1) := by decide +kernel
theorem dX3_push_34 : decode cX3_push 34 = .ok (.bipush 8, 2) := by decide +kernel
theorem dX3_push_36 : decode cX3_push 36 = .ok (.invokestatic 105, 3) := by decide +kernel
theorem dX3_push_39 : decode cX3_push 39 = .ok (.aload_n 0, 1) := by decide +kernel
theorem dX3_push_40 : decode cX3_push 40 = .ok (.dup, 1) := by decide +kernel
theorem dX3_push_41 : decode cX3_push 41 = .ok (.getfield 46, 3) := by decide +kernel
theorem dX3_push_44 : decode cX3_push 44 = .ok (.iconst 1, 1) := by decide +kernel
theorem dX3_push_45 : decode cX3_push 45 = .ok (.iadd, 1) := by decide +kernel
theorem dX3_push_46 : decode cX3_push 46 = .ok (.putfield 46, 3) := by decide +kernel
theorem dX3_push_49 : decode cX3_push 49 = .ok (.aload_n 0, 1) := by decide +kernel
theorem dX3_push_50 : decode cX3_push 50 = .ok (.invokevirtual 131, 3) := by decide +kernel
theorem dX3_push_53 : decode cX3_push 53 = .ok (.ireturn, 1) := by decide +kernel
theorem dX3_pop_0 : decode cX3_pop 0 = .ok (.aload_n 0, 1) := by decide +kernel
theorem dX3_pop_1 : decode cX3_pop 1 = .ok (.invokevirtual 131, 3) := by decide +kernel
theorem dX3_pop_4 : decode cX3_pop 4 = .ok (.ifCond .gt 5, 3) := by decide +kernel
theorem dX3_pop_7 : decode cX3_pop 7 = .ok (.iconst (-1), 1) := by decide +kernel
theorem dX3_pop_8 : decode cX3_pop 8 = .ok (.ireturn, 1) := by decide +kernel
theorem dX3_pop_9 : decode cX3_pop 9 = .ok (.aload_n 0, 1) := by decide +kernel
theorem dX3_pop_10 : decode cX3_pop 10 = .ok (.dup, 1) := by decide +kernel
theorem dX3_pop_11 : decode cX3_pop 11 = .ok (.getfield 46, 3) := by decide +kernel
theorem dX3_pop_14 : decode cX3_pop 14 = .ok (.iconst 1, 1) := by decide +kernel
theorem dX3_pop_15 : decode cX3_pop 15 = .ok (.isub, 1) := by decide +kernel
theorem dX3_pop_16 : decode cX3_pop 16 = .ok (.putfield 46, 3) := by decide +kernel
theorem dX3_pop_19 : decode cX3_pop 19 = .ok (.aload_n 0, 1) := by decide +kernel
theorem dX3_pop_20 : decode cX3_pop 20 = .ok (.getfield 43, 3) := by decide +kernel
theorem dX3_pop_23 : decode cX3_pop 23 = .ok (.aload_n 0, 1) := by decide +kernel
theorem dX3_pop_24 : decode cX3_pop 24 = .ok (.getfield 46, 3) := by decide +kernel
theorem dX3_pop_27 : decode cX3_pop 27 = .ok (.aaload, 1) := by decide +kernel
theorem dX3_pop_28 : decode cX3_pop 28 = .ok (.iconst 0, 1) := by decide +kernel
theorem dX3_pop_29 : decode cX3_pop 29 = .ok (.aload_n 0, 1) := by decide +kernel
theorem dX3_pop_30 : decode cX3_pop 30 = .ok (.getfield 37, 3) := by decide +kernel
theorem dX3_pop_33 : decode cX3_pop 33 = .ok (.iconst 0, 1) := by decide +kernel
theorem dX3_pop_34 : decode cX3_pop 34 = .ok (.bipush 8, 2) := by decide +kernel
theorem dX3_pop_36 : decode cX3_pop 36 = .ok (.invokestatic 105, 3) := by decide +kernel
theorem dX3_pop_39 : decode cX3_pop 39 = .ok (.aload_n 0, 1) := by decide +kernel
theorem dX3_pop_40 : decode cX3_pop 40 = .ok (.invokevirtual 131, 3) := by decide +kernel
theorem dX3_pop_43 : decode cX3_pop 43 = .ok (.ireturn, 1) := by decide +kernel
theorem dX3_bytes_0 : decode cX3_bytes 0 = .ok (.aload_n 0, 1) := by decide +kernel
theorem dX3_bytes_1 : decode cX3_bytes 1 = .ok (.iload_n 1, 1) := by decide +kernel
theorem dX3_bytes_2 : decode cX3_bytes 2 = .ok (.invokevirtual 63, 3) := by decide +kernel
theorem dX3_bytes_5 : decode cX3_bytes 5 = .ok (.astore 4, 2) := by decide +kernel
theorem dX3_bytes_7 : decode cX3_bytes 7 = .ok (.iload_n 2, 1) := by decide +kernel
theorem dX3_bytes_8 : decode cX3_bytes 8 = .ok (.bipush 8, 2) := by decide +kernel
theorem dX3_bytes_10 : decode cX3_bytes 10 = .ok (.invokestatic 71, 3) := by decide +kernel
theorem dX3_bytes_13 : decode cX3_bytes 13 = .ok (.iload_n 3, 1) := by decide +kernel
theorem dX3_bytes_14 : decode cX3_bytes 14 = .ok (.iconst (-1), 1) := by decide +kernel
theorem dX3_bytes_15 : decode cX3_bytes 15 = .ok (.if_icmp .lt 10, 3) := by decide +kernel
theorem dX3_bytes_18 : decode cX3_bytes 18 = .ok (.iload_n 3, 1) := by decide +kernel
theorem dX3_bytes_19 : decode cX3_bytes 19 = .ok (.sipush 255, 3) := by decide +kernel
theorem dX3_bytes_22 : decode cX3_bytes 22 = .ok (.if_icmp .le 13, 3) := by decide +kernel
theorem dX3_bytes_25 : decode cX3_bytes 25 = .ok (.new 135, 3) := by decide +kernel
theorem dX3_bytes_28 : decode cX3_bytes 28 = .ok (.dup, 1) := by decide +kernel
theorem dX3_bytes_29 : decode cX3_bytes 29 = .ok (.ldc 137, 2) := by decide +kernel
theorem dX3_bytes_31 : decode cX3_bytes 31 = .ok (.invokespecial 139, 3) := by decide +kernel
theorem dX3_bytes_34 : decode cX3_bytes 34 = .ok (.athrow, 1) := by decide +kernel
theorem dX3_bytes_35 : decode cX3_bytes 35 = .ok (.aload 4, 2) := by decide +kernel
theorem dX3_bytes_37 : decode cX3_bytes 37 = .ok (.getfield 140, 3) := by decide +kernel
theorem dX3_bytes_40 : decode cX3_bytes 40 = .ok (.iload_n 2, 1) := by decide +kernel
theorem dX3_bytes_41 : decode cX3_bytes 41 = .ok (.iaload, 1) := by decide +kernel
theorem dX3_bytes_42 : decode cX3_bytes 42 = .ok (.istore 5, 2) := by decide +kernel
theorem dX3_bytes_44 : decode cX3_bytes 44 = .ok (.iload_n 3, 1) := by decide +kernel
theorem dX3_bytes_45 : decode cX3_bytes 45 = .ok (.iconst (-1), 1) := by decide +kernel
theorem dX3_bytes_46 : decode cX3_bytes 46 = .ok (.if_icmp .eq 11, 3) := by decide +kernel
theorem dX3_bytes_49 : decode cX3_bytes 49 = .ok (.aload 4, 2) := by decide +kernel
theorem dX3_bytes_51 : decode cX3_bytes 51 = .ok (.getfield 140, 3) := by decide +kernel
theorem dX3_bytes_54 : decode cX3_bytes 54 = .ok (.iload_n 2, 1) := by decide +kernel
theorem dX3_bytes_55 : decode cX3_bytes 55 = .ok (.iload_n 3, 1) := by decide +kernel
theorem dX3_bytes_56 : decode cX3_bytes 56 = .ok (.iastore, 1) := by decide +kernel
theorem dX3_bytes_57 : decode cX3_bytes 57 = .ok (.iload 5, 2) := by decide +kernel
theorem dX3_bytes_59 : decode cX3_bytes 59 = .ok (.ireturn, 1) := by decide +kernel
theorem dX3_used_0 : decode cX3_used 0 = .ok (.iconst 0, 1) := by decide +kernel
theorem dX3_used_1 : decode cX3_used 1 = .ok (.istore_n 1, 1) := by decide +kernel
theorem dX3_used_2 : decode cX3_used 2 = .ok (.iconst 0, 1) := by decide +kernel
theorem dX3_used_3 : decode cX3_used 3 = .ok (.istore_n 2, 1) := by decide +kernel
theorem dX3_used_4 : decode cX3_used 4 = .ok (.iload_n 2, 1) := by decide +kernel
theorem dX3_used_5 : decode cX3_used 5 = .ok (.aload_n 0, 1) := by decide +kernel
theorem dX3_used_6 : decode cX3_used 6 = .ok (.getfield 28, 3) := by decide +kernel
theorem dX3_used_9 : decode cX3_used 9 = .ok (.if_icmp .ge 21, 3) := by decide +kernel
theorem dX3_used_12 : decode cX3_used 12 = .ok (.iload_n 1, 1) := by decide +kernel
theorem dX3_used_13 : decode cX3_used 13 = .ok (.aload_n 0, 1) := by decide +kernel
theorem dX3_used_14 : decode cX3_used 14 = .ok (.getfield 24, 3) := by decide +kernel
theorem dX3_used_17 : decode cX3_used 17 = .ok (.iload_n 2, 1) := by decide +kernel
theorem dX3_used_18 : decode cX3_used 18 = .ok (.aaload, 1) := by decide +kernel
theorem dX3_used_19 : decode cX3_used 19 = .ok (.getfield 143, 3) := by decide +kernel
theorem dX3_used_22 : decode cX3_used 22 = .ok (.iadd, 1) := by decide +kernel
theorem dX3_used_23 : decode cX3_used 23 = .ok (.istore_n 1, 1) := by decide +kernel
theorem dX3_used_24 : decode cX3_used 24 = .ok (.iinc 2 1, 3) := by decide +kernel
theorem dX3_used_27 : decode cX3_used 27 = .ok (.goto (-23), 3) := by decide +kernel
theorem dX3_used_30 : decode cX3_used 30 = .ok (.bipush 12, 2) := by decide +kernel
theorem dX3_used_32 : decode cX3_used 32 = .ok (.aload_n 0, 1) := by decide +kernel
theorem dX3_used_33 : decode cX3_used 33 = .ok (.getfield 15, 3) := by decide +kernel
theorem dX3_used_36 : decode cX3_used 36 = .ok (.imul, 1) := by decide +kernel
theorem dX3_used_37 : decode cX3_used 37 = .ok (.iconst 3, 1) := by decide +kernel
theorem dX3_used_38 : decode cX3_used 38 = .ok (.iload_n 1, 1) := by decide +kernel
theorem dX3_used_39 : decode cX3_used 39 = .ok (.imul, 1) := by decide +kernel
theorem dX3_used_40 : decode cX3_used 40 = .ok (.iadd, 1) := by decide +kernel
theorem dX3_used_41 : decode cX3_used 41 = .ok (.bipush 6, 2) := by decide +kernel
theorem dX3_used_43 : decode cX3_used 43 = .ok (.aload_n 0, 1) := by decide +kernel
theorem dX3_used_44 : decode cX3_used 44 = .ok (.getfield 28, 3) := by decide +kernel
theorem dX3_used_47 : decode cX3_used 47 = .ok (.imul, 1) := by decide +kernel
theorem dX3_used_48 : decode cX3_used 48 = .ok (.iadd, 1) := by decide +kernel
theorem dX3_used_49 : decode cX3_used 49 = .ok (.bipush 10, 2) := by decide +kernel
theorem dX3_used_51 : decode cX3_used 51 = .ok (.aload_n 0, 1) := by decide +kernel
theorem dX3_used_52 : decode cX3_used 52 = .ok (.getfield 46, 3) := by decide +kernel
theorem dX3_used_55 : decode cX3_used 55 = .ok (.imul, 1) := by decide +kernel
theorem dX3_used_56 : decode cX3_used 56 = .ok (.iadd, 1) := by decide +kernel
theorem dX3_used_57 : decode cX3_used 57 = .ok (.ireturn, 1) := by decide +kernel
theorem dX3_old_0 : decode cX3_old 0 = .ok (.aload_n 0, 1) := by decide +kernel
theorem dX3_old_1 : decode cX3_old 1 = .ok (.iload_n 1, 1) := by decide +kernel
theorem dX3_old_2 : decode cX3_old 2 = .ok (.invokevirtual 63, 3) := by decide +kernel
theorem dX3_old_5 : decode cX3_old 5 = .ok (.astore_n 2, 1) := by decide +kernel
theorem dX3_old_6 : decode cX3_old 6 = .ok (.iconst 0, 1) := by decide +kernel
theorem dX3_old_7 : decode cX3_old 7 = .ok (.istore_n 3, 1) := by decide +kernel
theorem dX3_old_8 : decode cX3_old 8 = .ok (.iconst 0, 1) := by decide +kernel
theorem dX3_old_9 : decode cX3_old 9 = .ok (.istore 4, 2) := by decide +kernel
theorem dX3_old_11 : decode cX3_old 11 = .ok (.iload 4, 2) := by decide +kernel
theorem dX3_old_13 : decode cX3_old 13 = .ok (.aload_n 0, 1) := by decide +kernel
theorem dX3_old_14 : decode cX3_old 14 = .ok (.getfield 28, 3) := by decide +kernel
theorem dX3_old_17 : decode cX3_old 17 = .ok (.if_icmp .ge 26, 3) := by decide +kernel
theorem dX3_old_20 : decode cX3_old 20 = .ok (.aload_n 2, 1) := by decide +kernel
theorem dX3_old_21 : decode cX3_old 21 = .ok (.aload_n 0, 1) := by decide +kernel
theorem dX3_old_22 : decode cX3_old 22 = .ok (.getfield 24, 3) := by decide +kernel
theorem dX3_old_25 : decode cX3_old 25 = .ok (.iload 4, 2) := by decide +kernel
theorem dX3_old_27 : decode cX3_old 27 = .ok (.aaload, 1) := by decide +kernel
theorem dX3_old_28 : decode cX3_old 28 = .ok (.invokevirtual 146, 3) := by decide +kernel
theorem dX3_old_31 : decode cX3_old 31 = .ok (.ifCond .eq 6, 3) := by decide +kernel
theorem dX3_old_34 : decode cX3_old 34 = .ok (.iinc 3 1, 3) := by decide +kernel
theorem dX3_old_37 : decode cX3_old 37 = .ok (.iinc 4 1, 3) := by decide +kernel
theorem dX3_old_40 : decode cX3_old 40 = .ok (.goto (-29), 3) := by decide +kernel
theorem dX3_old_43 : decode cX3_old 43 = .ok (.iload_n 3, 1) := by decide +kernel
theorem dX3_old_44 : decode cX3_old 44 = .ok (.ireturn, 1) := by decide +kernel
theorem dX3_deepest_0 : decode cX3_deepest 0 = .ok (.aload_n 0, 1) := by decide +kernel
theorem dX3_deepest_1 : decode cX3_deepest 1 = .ok (.getfield 34, 3) := by decide +kernel
theorem dX3_deepest_4 : decode cX3_deepest 4 = .ok (.ireturn, 1) := by decide +kernel
theorem dX3_existing_0 : decode cX3_existing 0 = .ok (.aload_n 0, 1) := by decide +kernel
theorem dX3_existing_1 : decode cX3_existing 1 = .ok (.iload_n 1, 1) := by decide +kernel
theorem dX3_existing_2 : decode cX3_existing 2 = .ok (.invokevirtual 149, 3) := by decide +kernel
theorem dX3_existing_5 : decode cX3_existing 5 = .ok (.astore_n 2, 1) := by decide +kernel
theorem dX3_existing_6 : decode cX3_existing 6 = .ok (.aload_n 2, 1) := by decide +kernel
theorem dX3_existing_7 : decode cX3_existing 7 = .ok (.ifnonnull 13, 3) := by decide +kernel
theorem dX3_existing_10 : decode cX3_existing 10 = .ok (.new 152, 3) := by decide +kernel
theorem dX3_existing_13 : decode cX3_existing 13 = .ok (.dup, 1) := by decide +kernel
theorem dX3_existing_14 : decode cX3_existing 14 = .ok (.ldc 154, 2) := by decide +kernel
theorem dX3_existing_16 : decode cX3_existing 16 = .ok (.invokespecial 156, 3) := by decide +kernel
theorem dX3_existing_19 : decode cX3_existing 19 = .ok (.athrow, 1) := by decide +kernel
theorem dX3_existing_20 : decode cX3_existing 20 = .ok (.aload_n 2, 1) := by decide +kernel
theorem dX3_existing_21 : decode cX3_existing 21 = .ok (.areturn, 1) := by decide +kernel
theorem dX3_find_0 : decode cX3_find 0 = .ok (.iload_n 1, 1) := by decide +kernel
theorem dX3_find_1 : decode cX3_find 1 = .ok (.aload_n 0, 1) := by decide +kernel
theorem dX3_find_2 : decode cX3_find 2 = .ok (.getfield 15, 3) := by decide +kernel
theorem dX3_find_5 : decode cX3_find 5 = .ok (.iconst 1, 1) := by decide +kernel
theorem dX3_find_6 : decode cX3_find 6 = .ok (.isub, 1) := by decide +kernel
theorem dX3_find_7 : decode cX3_find 7 = .ok (.invokestatic 157, 3) := by decide +kernel
theorem dX3_find_10 : decode cX3_find 10 = .ok (.istore_n 2, 1) := by decide +kernel
theorem dX3_find_11 : decode cX3_find 11 = .ok (.iload_n 2, 1) := by decide +kernel
theorem dX3_find_12 : decode cX3_find 12 = .ok (.ifCond .lt 29, 3) := by decide +kernel
theorem dX3_find_15 : decode cX3_find 15 = .ok (.aload_n 0, 1) := by decide +kernel
theorem dX3_find_16 : decode cX3_find 16 = .ok (.getfield 11, 3) := by decide +kernel
theorem dX3_find_19 : decode cX3_find 19 = .ok (.iload_n 2, 1) := by decide +kernel
theorem dX3_find_20 : decode cX3_find 20 = .ok (.aaload, 1) := by decide +kernel
theorem dX3_find_21 : decode cX3_find 21 = .ok (.getfield 60, 3) := by decide +kernel
theorem dX3_find_24 : decode cX3_find 24 = .ok (.iload_n 1, 1) := by decide +kernel
theorem dX3_find_25 : decode cX3_find 25 = .ok (.if_icmp .ne 10, 3) := by decide +kernel
theorem dX3_find_28 : decode cX3_find 28 = .ok (.aload_n 0, 1) := by decide +kernel
theorem dX3_find_29 : decode cX3_find 29 = .ok (.getfield 11, 3) := by decide +kernel
theorem dX3_find_32 : decode cX3_find 32 = .ok (.iload_n 2, 1) := by decide +kernel
theorem dX3_find_33 : decode cX3_find 33 = .ok (.aaload, 1) := by decide +kernel
theorem dX3_find_34 : decode cX3_find 34 = .ok (.areturn, 1) := by decide +kernel
theorem dX3_find_35 : decode cX3_find 35 = .ok (.iinc 2 (-1), 3) := by decide +kernel
theorem dX3_find_38 : decode cX3_find 38 = .ok (.goto (-27), 3) := by decide +kernel
theorem dX3_find_41 : decode cX3_find 41 = .ok (.aconst_null, 1) := by decide +kernel
theorem dX3_find_42 : decode cX3_find 42 = .ok (.areturn, 1) := by decide +kernel
theorem dX3_referredTo_0 : decode cX3_referredTo 0 = .ok (.iload_n 1, 1) := by decide +kernel
theorem dX3_referredTo_1 : decode cX3_referredTo 1 = .ok (.ifCond .ge 13, 3) := by decide +kernel
theorem dX3_referredTo_4 : decode cX3_referredTo 4 = .ok (.aload_n 0, 1) := by decide +kernel
theorem dX3_referredTo_5 : decode cX3_referredTo 5 = .ok (.iconst (-1), 1) := by decide +kernel
theorem dX3_referredTo_6 : decode cX3_referredTo 6 = .ok (.iload_n 1, 1) := by decide +kernel
theorem dX3_referredTo_7 : decode cX3_referredTo 7 = .ok (.isub, 1) := by decide +kernel
theorem dX3_referredTo_8 : decode cX3_referredTo 8 = .ok (.invokevirtual 149, 3) := by decide +kernel
theorem dX3_referredTo_11 : decode cX3_referredTo 11 = .ok (.goto 4, 3) := by decide +kernel
theorem dX3_referredTo_14 : decode cX3_referredTo 14 = .ok (.aconst_null, 1) := by decide +kernel
theorem dX3_referredTo_15 : decode cX3_referredTo 15 = .ok (.areturn, 1) := by decide +kernel
theorem dX3_refersToLocal_0 : decode cX3_refersToLocal 0 = .ok (.aload_n 0, 1) := by decide +kernel
theorem dX3_refersToLocal_1 : decode cX3_refersToLocal 1 = .ok (.iload_n 1, 1) := by decide +kernel
theorem dX3_refersToLocal_2 : decode cX3_refersToLocal 2 = .ok (.invokevirtual 160, 3) := by decide +kernel
theorem dX3_refersToLocal_5 : decode cX3_refersToLocal 5 = .ok (.astore_n 2, 1) := by decide +kernel
theorem dX3_refersToLocal_6 : decode cX3_refersToLocal 6 = .ok (.aload_n 2, 1) := by decide +kernel
theorem dX3_refersToLocal_7 : decode cX3_refersToLocal 7 = .ok (.ifnull 14, 3) := by decide +kernel
theorem dX3_refersToLocal_10 : decode cX3_refersToLocal 10 = .ok (.aload_n 2, 1) := by decide +kernel
theorem dX3_refersToLocal_11 : decode cX3_refersToLocal 11 = .ok (.getfield 75, 3) := by decide +kernel
theorem dX3_refersToLocal_14 : decode cX3_refersToLocal 14 = .ok (.ifCond .ne 7, 3) := by decide +kernel
theorem dX3_refersToLocal_17 : decode cX3_refersToLocal 17 = .ok (.iconst 1, 1) := by decide +kernel
theorem dX3_refersToLocal_18 : decode cX3_refersToLocal 18 = .ok (.goto 4, 3) := by decide +kernel
theorem dX3_refersToLocal_21 : decode cX3_refersToLocal 21 = .ok (.iconst 0, 1) := by decide +kernel
theorem dX3_refersToLocal_22 : decode cX3_refersToLocal 22 = .ok (.ireturn, 1) := by decide +kernel
theorem dX3_checkValue_0 : decode cX3_checkValue 0 = .ok (.iload_n 1, 1) := by decide +kernel
theorem dX3_checkValue_1 : decode cX3_checkValue 1 = .ok (.ifCond .ge 21, 3) := by decide +kernel
theorem dX3_checkValue_4 : decode cX3_checkValue 4 = .ok (.aload_n 0, 1) := by decide +kernel
theorem dX3_checkValue_5 : decode cX3_checkValue 5 = .ok (.iload_n 1, 1) := by decide +kernel
theorem dX3_checkValue_6 : decode cX3_checkValue 6 = .ok (.invokevirtual 160, 3) := by decide +kernel
theorem dX3_checkValue_9 : decode cX3_checkValue 9 = .ok (.ifnonnull 13, 3) := by decide +kernel
theorem dX3_checkValue_12 : decode cX3_checkValue 12 = .ok (.new 152, 3) := by decide +kernel
theorem dX3_checkValue_15 : decode cX3_checkValue 15 = .ok (.dup, 1) := by decide +kernel
theorem dX3_checkValue_16 : decode cX3_checkValue 16 = .ok (.ldc 163, 2) := by decide +kernel
theorem dX3_checkValue_18 : decode cX3_checkValue 18 = .ok (.invokespecial 156, 3) := by decide +kernel
theorem dX3_checkValue_21 : decode cX3_checkValue 21 = .ok (.athrow, 1) := by decide +kernel
theorem dX3_checkValue_22 : decode cX3_checkValue 22 = .ok (.return_, 1) := by decide +kernel
theorem dX3_checkIndex_0 : decode cX3_checkIndex 0 = .ok (.iload_n 0, 1) := by decide +kernel
theorem dX3_checkIndex_1 : decode cX3_checkIndex 1 = .ok (.ifCond .lt 8, 3) := by decide +kernel
theorem dX3_checkIndex_4 : decode cX3_checkIndex 4 = .ok (.iload_n 0, 1) := by decide +kernel
theorem dX3_checkIndex_5 : decode cX3_checkIndex 5 = .ok (.iload_n 1, 1) := by decide +kernel
theorem dX3_checkIndex_6 : decode cX3_checkIndex 6 = .ok (.if_icmp .lt 13, 3) := by decide +kernel
theorem dX3_checkIndex_9 : decode cX3_checkIndex 9 = .ok (.new 135, 3) := by decide +kernel
theorem dX3_checkIndex_12 : decode cX3_checkIndex 12 = .ok (.dup, 1) := by decide +kernel
theorem dX3_checkIndex_13 : decode cX3_checkIndex 13 = .ok (.ldc 165, 2) := by decide +kernel
theorem dX3_checkIndex_15 : decode cX3_checkIndex 15 = .ok (.invokespecial 139, 3) := by decide +kernel
theorem dX3_checkIndex_18 : decode cX3_checkIndex 18 = .ok (.athrow, 1) := by decide +kernel
theorem dX3_checkIndex_19 : decode cX3_checkIndex 19 = .ok (.return_, 1) := by decide +kernel
theorem dX3_keepRow_0 : decode cX3_keepRow 0 = .ok (.aload_n 0, 1) := by decide +kernel
theorem dX3_keepRow_1 : decode cX3_keepRow 1 = .ok (.getfield 28, 3) := by decide +kernel
theorem dX3_keepRow_4 : decode cX3_keepRow 4 = .ok (.ifCond .le 10, 3) := by decide +kernel
theorem dX3_keepRow_7 : decode cX3_keepRow 7 = .ok (.aload_n 1, 1) := by decide +kernel
theorem dX3_keepRow_8 : decode cX3_keepRow 8 = .ok (.getfield 75, 3) := by decide +kernel
theorem dX3_keepRow_11 : decode cX3_keepRow 11 = .ok (.ifCond .eq 4, 3) := by decide +kernel
theorem dX3_keepRow_14 : decode cX3_keepRow 14 = .ok (.return_, 1) := by decide +kernel
theorem dX3_keepRow_15 : decode cX3_keepRow 15 = .ok (.aload_n 0, 1) := by decide +kernel
theorem dX3_keepRow_16 : decode cX3_keepRow 16 = .ok (.getfield 24, 3) := by decide +kernel
theorem dX3_keepRow_19 : decode cX3_keepRow 19 = .ok (.aload_n 0, 1) := by decide +kernel
theorem dX3_keepRow_20 : decode cX3_keepRow 20 = .ok (.getfield 28, 3) := by decide +kernel
theorem dX3_keepRow_23 : decode cX3_keepRow 23 = .ok (.iconst 1, 1) := by decide +kernel
theorem dX3_keepRow_24 : decode cX3_keepRow 24 = .ok (.isub, 1) := by decide +kernel
theorem dX3_keepRow_25 : decode cX3_keepRow 25 = .ok (.aaload, 1) := by decide +kernel
theorem dX3_keepRow_26 : decode cX3_keepRow 26 = .ok (.astore_n 3, 1) := by decide +kernel
theorem dX3_keepRow_27 : decode cX3_keepRow 27 = .ok (.aload_n 1, 1) := by decide +kernel
theorem dX3_keepRow_28 : decode cX3_keepRow 28 = .ok (.aload_n 3, 1) := by decide +kernel
theorem dX3_keepRow_29 : decode cX3_keepRow 29 = .ok (.invokevirtual 146, 3) := by decide +kernel
theorem dX3_keepRow_32 : decode cX3_keepRow 32 = .ok (.ifCond .ne 16, 3) := by decide +kernel
theorem dX3_keepRow_35 : decode cX3_keepRow 35 = .ok (.aload_n 1, 1) := by decide +kernel
theorem dX3_keepRow_36 : decode cX3_keepRow 36 = .ok (.getfield 167, 3) := by decide +kernel
theorem dX3_keepRow_39 : decode cX3_keepRow 39 = .ok (.iload_n 2, 1) := by decide +kernel
theorem dX3_keepRow_40 : decode cX3_keepRow 40 = .ok (.iaload, 1) := by decide +kernel
theorem dX3_keepRow_41 : decode cX3_keepRow 41 = .ok (.aload_n 3, 1) := by decide +kernel
theorem dX3_keepRow_42 : decode cX3_keepRow 42 = .ok (.getfield 97, 3) := by decide +kernel
theorem dX3_keepRow_45 : decode cX3_keepRow 45 = .ok (.if_icmp .ne 4, 3) := by decide +kernel
theorem dX3_keepRow_48 : decode cX3_keepRow 48 = .ok (.return_, 1) := by decide +kernel
theorem dX3_keepRow_49 : decode cX3_keepRow 49 = .ok (.aload_n 3, 1) := by decide +kernel
theorem dX3_keepRow_50 : decode cX3_keepRow 50 = .ok (.new 170, 3) := by decide +kernel
theorem dX3_keepRow_53 : decode cX3_keepRow 53 = .ok (.dup, 1) := by decide +kernel
theorem dX3_keepRow_54 : decode cX3_keepRow 54 = .ok (.aload_n 1, 1) := by decide +kernel
theorem dX3_keepRow_55 : decode cX3_keepRow 55 = .ok (.iload_n 2, 1) := by decide +kernel
theorem dX3_keepRow_56 : decode cX3_keepRow 56 = .ok (.aload_n 3, 1) := by decide +kernel
theorem dX3_keepRow_57 : decode cX3_keepRow 57 = .ok (.getfield 172, 3) := by decide +kernel
theorem dX3_keepRow_60 : decode cX3_keepRow 60 = .ok (.invokespecial 176, 3) := by decide +kernel
theorem dX3_keepRow_63 : decode cX3_keepRow 63 = .ok (.putfield 172, 3) := by decide +kernel
theorem dX3_keepRow_66 : decode cX3_keepRow 66 = .ok (.aload_n 3, 1) := by decide +kernel
theorem dX3_keepRow_67 : decode cX3_keepRow 67 = .ok (.dup, 1) := by decide +kernel
theorem dX3_keepRow_68 : decode cX3_keepRow 68 = .ok (.getfield 143, 3) := by decide +kernel
theorem dX3_keepRow_71 : decode cX3_keepRow 71 = .ok (.iconst 1, 1) := by decide +kernel
theorem dX3_keepRow_72 : decode cX3_keepRow 72 = .ok (.iadd, 1) := by decide +kernel
theorem dX3_keepRow_73 : decode cX3_keepRow 73 = .ok (.putfield 143, 3) := by decide +kernel
theorem dX3_keepRow_76 : decode cX3_keepRow 76 = .ok (.aload_n 1, 1) := by decide +kernel
theorem dX3_keepRow_77 : decode cX3_keepRow 77 = .ok (.getfield 167, 3) := by decide +kernel
theorem dX3_keepRow_80 : decode cX3_keepRow 80 = .ok (.iload_n 2, 1) := by decide +kernel
theorem dX3_keepRow_81 : decode cX3_keepRow 81 = .ok (.aload_n 3, 1) := by decide +kernel
theorem dX3_keepRow_82 : decode cX3_keepRow 82 = .ok (.getfield 97, 3) := by decide +kernel
theorem dX3_keepRow_85 : decode cX3_keepRow 85 = .ok (.iastore, 1) := by decide +kernel
theorem dX3_keepRow_86 : decode cX3_keepRow 86 = .ok (.return_, 1) := by decide +kernel
theorem dX3_placeOfLiving_0 : decode cX3_placeOfLiving 0 = .ok (.aload_n 0, 1) := by decide +kernel
theorem dX3_placeOfLiving_1 : decode cX3_placeOfLiving 1 = .ok (.getfield 28, 3) := by decide +kernel
theorem dX3_placeOfLiving_4 : decode cX3_placeOfLiving 4 = .ok (.iconst 1, 1) := by decide +kernel
theorem dX3_placeOfLiving_5 : decode cX3_placeOfLiving 5 = .ok (.isub, 1) := by decide +kernel
theorem dX3_placeOfLiving_6 : decode cX3_placeOfLiving 6 = .ok (.istore_n 2, 1) := by decide +kernel
theorem dX3_placeOfLiving_7 : decode cX3_placeOfLiving 7 = .ok (.iload_n 2, 1) := by decide +kernel
theorem dX3_placeOfLiving_8 : decode cX3_placeOfLiving 8 = .ok (.ifCond .lt 24, 3) := by decide +kernel
theorem dX3_placeOfLiving_11 : decode cX3_placeOfLiving 11 = .ok (.aload_n 0, 1) := by decide +kernel
theorem dX3_placeOfLiving_12 : decode cX3_placeOfLiving 12 = .ok (.getfield 24, 3) := by decide +kernel
theorem dX3_placeOfLiving_15 : decode cX3_placeOfLiving 15 = .ok (.iload_n 2, 1) := by decide +kernel
theorem dX3_placeOfLiving_16 : decode cX3_placeOfLiving 16 = .ok (.aaload, 1) := by decide +kernel
theorem dX3_placeOfLiving_17 : decode cX3_placeOfLiving 17 = .ok (.getfield 97, 3) := by decide +kernel
theorem dX3_placeOfLiving_20 : decode cX3_placeOfLiving 20 = .ok (.iload_n 1, 1) := by decide +kernel
theorem dX3_placeOfLiving_21 : decode cX3_placeOfLiving 21 = .ok (.if_icmp .ne 5, 3) := by decide +kernel
theorem dX3_placeOfLiving_24 : decode cX3_placeOfLiving 24 = .ok (.iload_n 2, 1) := by decide +kernel
theorem dX3_placeOfLiving_25 : decode cX3_placeOfLiving 25 = .ok (.ireturn, 1) := by decide +kernel
theorem dX3_placeOfLiving_26 : decode cX3_placeOfLiving 26 = .ok (.iinc 2 (-1), 3) := by decide +kernel
theorem dX3_placeOfLiving_29 : decode cX3_placeOfLiving 29 = .ok (.goto (-22), 3) := by decide +kernel
theorem dX3_placeOfLiving_32 : decode cX3_placeOfLiving 32 = .ok (.iconst (-1), 1) := by decide +kernel
theorem dX3_placeOfLiving_33 : decode cX3_placeOfLiving 33 = .ok (.ireturn, 1) := by decide +kernel
theorem dX3_keptRefersToNewer_0 : decode cX3_keptRefersToNewer 0 = .ok (.bipush 8, 2) := by decide +kernel
theorem dX3_keptRefersToNewer_2 : decode cX3_keptRefersToNewer 2 = .ok (.istore_n 2, 1) := by decide +kernel
theorem dX3_keptRefersToNewer_3 : decode cX3_keptRefersToNewer 3 = .ok (.iload_n 2, 1) := by decide +kernel
theorem dX3_keptRefersToNewer_4 : decode cX3_keptRefersToNewer 4 = .ok (.bipush 10, 2) := by decide +kernel
theorem dX3_keptRefersToNewer_6 : decode cX3_keptRefersToNewer 6 = .ok (.if_icmp .ge 41, 3) := by decide +kernel
theorem dX3_keptRefersToNewer_9 : decode cX3_keptRefersToNewer 9 = .ok (.aload_n 0, 1) := by decide +kernel
theorem dX3_keptRefersToNewer_10 : decode cX3_keptRefersToNewer 10 = .ok (.aload_n 0, 1) := by decide +kernel
theorem dX3_keptRefersToNewer_11 : decode cX3_keptRefersToNewer 11 = .ok (.getfield 37, 3) := by decide +kernel
theorem dX3_keptRefersToNewer_14 : decode cX3_keptRefersToNewer 14 = .ok (.iload_n 2, 1) := by decide +kernel
theorem dX3_keptRefersToNewer_15 : decode cX3_keptRefersToNewer 15 = .ok (.iaload, 1) := by decide +kernel
theorem dX3_keptRefersToNewer_16 : decode cX3_keptRefersToNewer 16 = .ok (.invokevirtual 160, 3) := by decide +kernel
theorem dX3_keptRefersToNewer_19 : decode cX3_keptRefersToNewer 19 = .ok (.astore_n 3, 1) := by decide +kernel
theorem dX3_keptRefersToNewer_20 : decode cX3_keptRefersToNewer 20 = .ok (.aload_n 3, 1) := by decide +kernel
theorem dX3_keptRefersToNewer_21 : decode cX3_keptRefersToNewer 21 = .ok (.ifnull 20, 3) := by decide +kernel
theorem dX3_keptRefersToNewer_24 : decode cX3_keptRefersToNewer 24 = .ok (.aload_n 3, 1) := by decide +kernel
theorem dX3_keptRefersToNewer_25 : decode cX3_keptRefersToNewer 25 = .ok (.getfield 75, 3) := by decide +kernel
theorem dX3_keptRefersToNewer_28 : decode cX3_keptRefersToNewer 28 = .ok (.ifCond .ne 13, 3) := by decide +kernel
theorem dX3_keptRefersToNewer_31 : decode cX3_keptRefersToNewer 31 = .ok (.aload_n 3, 1) := by decide +kernel
theorem dX3_keptRefersToNewer_32 : decode cX3_keptRefersToNewer 32 = .ok (.aload_n 1, 1) := by decide +kernel
theorem dX3_keptRefersToNewer_33 : decode cX3_keptRefersToNewer 33 = .ok (.invokevirtual 146, 3) := by decide +kernel
theorem dX3_keptRefersToNewer_36 : decode cX3_keptRefersToNewer 36 = .ok (.ifCond .eq 5, 3) := by decide +kernel
theorem dX3_keptRefersToNewer_39 : decode cX3_keptRefersToNewer 39 = .ok (.iconst 1, 1) := by decide +kernel
theorem dX3_keptRefersToNewer_40 : decode cX3_keptRefersToNewer 40 = .ok (.ireturn, 1) := by decide +kernel
theorem dX3_keptRefersToNewer_41 : decode cX3_keptRefersToNewer 41 = .ok (.iinc 2 1, 3) := by decide +kernel
theorem dX3_keptRefersToNewer_44 : decode cX3_keptRefersToNewer 44 = .ok (.goto (-41), 3) := by decide +kernel
theorem dX3_keptRefersToNewer_47 : decode cX3_keptRefersToNewer 47 = .ok (.iconst 0, 1) := by decide +kernel
theorem dX3_keptRefersToNewer_48 : decode cX3_keptRefersToNewer 48 = .ok (.ireturn, 1) := by decide +kernel
theorem dX3_undoSince_0 : decode cX3_undoSince 0 = .ok (.aload_n 1, 1) := by decide +kernel
theorem dX3_undoSince_1 : decode cX3_undoSince 1 = .ok (.getfield 172, 3) := by decide +kernel
theorem dX3_undoSince_4 : decode cX3_undoSince 4 = .ok (.astore_n 2, 1) := by decide +kernel
theorem dX3_undoSince_5 : decode cX3_undoSince 5 = .ok (.aload_n 2, 1) := by decide +kernel
theorem dX3_undoSince_6 : decode cX3_undoSince 6 = .ok (.ifnull 15, 3) := by decide +kernel
theorem dX3_undoSince_9 : decode cX3_undoSince 9 = .ok (.aload_n 2, 1) := by decide +kernel
theorem dX3_undoSince_10 : decode cX3_undoSince 10 = .ok (.invokevirtual 179, 3) := by decide +kernel
theorem dX3_undoSince_13 : decode cX3_undoSince 13 = .ok (.aload_n 2, 1) := by decide +kernel
theorem dX3_undoSince_14 : decode cX3_undoSince 14 = .ok (.getfield 182, 3) := by decide +kernel
theorem dX3_undoSince_17 : decode cX3_undoSince 17 = .ok (.astore_n 2, 1) := by decide +kernel
theorem dX3_undoSince_18 : decode cX3_undoSince 18 = .ok (.goto (-13), 3) := by decide +kernel
theorem dX3_undoSince_21 : decode cX3_undoSince 21 = .ok (.aload_n 1, 1) := by decide +kernel
theorem dX3_undoSince_22 : decode cX3_undoSince 22 = .ok (.aconst_null, 1) := by decide +kernel
theorem dX3_undoSince_23 : decode cX3_undoSince 23 = .ok (.putfield 172, 3) := by decide +kernel
theorem dX3_undoSince_26 : decode cX3_undoSince 26 = .ok (.aload_n 1, 1) := by decide +kernel
theorem dX3_undoSince_27 : decode cX3_undoSince 27 = .ok (.iconst 0, 1) := by decide +kernel
theorem dX3_undoSince_28 : decode cX3_undoSince 28 = .ok (.putfield 143, 3) := by decide +kernel
theorem dX3_undoSince_31 : decode cX3_undoSince 31 = .ok (.aload_n 0, 1) := by decide +kernel
theorem dX3_undoSince_32 : decode cX3_undoSince 32 = .ok (.aload_n 1, 1) := by decide +kernel
theorem dX3_undoSince_33 : decode cX3_undoSince 33 = .ok (.invokevirtual 185, 3) := by decide +kernel
theorem dX3_undoSince_36 : decode cX3_undoSince 36 = .ok (.aload_n 0, 1) := by decide +kernel
theorem dX3_undoSince_37 : decode cX3_undoSince 37 = .ok (.aload_n 1, 1) := by decide +kernel
theorem dX3_undoSince_38 : decode cX3_undoSince 38 = .ok (.getfield 101, 3) := by decide +kernel
theorem dX3_undoSince_41 : decode cX3_undoSince 41 = .ok (.putfield 46, 3) := by decide +kernel
theorem dX3_undoSince_44 : decode cX3_undoSince 44 = .ok (.aload_n 1, 1) := by decide +kernel
theorem dX3_undoSince_45 : decode cX3_undoSince 45 = .ok (.getfield 104, 3) := by decide +kernel
theorem dX3_undoSince_48 : decode cX3_undoSince 48 = .ok (.iconst 0, 1) := by decide +kernel
theorem dX3_undoSince_49 : decode cX3_undoSince 49 = .ok (.aload_n 0, 1) := by decide +kernel
theorem dX3_undoSince_50 : decode cX3_undoSince 50 = .ok (.getfield 37, 3) := by decide +kernel
theorem dX3_undoSince_53 : decode cX3_undoSince 53 = .ok (.iconst 0, 1) := by decide +kernel
theorem dX3_undoSince_54 : decode cX3_undoSince 54 = .ok (.bipush 8, 2) := by decide +kernel
theorem dX3_undoSince_56 : decode cX3_undoSince 56 = .ok (.invokestatic 105, 3) := by decide +kernel
theorem dX3_undoSince_59 : decode cX3_undoSince 59 = .ok (.return_, 1) := by decide +kernel
theorem dX3_dropLocalsNewerThan_0 : decode cX3_dropLocalsNewerThan 0 = .ok (.iconst 0, 1) := by decide +kernel
theorem dX3_dropLocalsNewerThan_1 : decode cX3_dropLocalsNewerThan 1 = .ok (.istore_n 2, 1) := by decide +kernel
theorem dX3_dropLocalsNewerThan_2 : decode cX3_dropLocalsNewerThan 2 = .ok (.iconst 0, 1) := by decide +kernel
theorem dX3_dropLocalsNewerThan_3 : decode cX3_dropLocalsNewerThan 3 = .ok (.istore_n 3, 1) := by decide +kernel
theorem dX3_dropLocalsNewerThan_4 : decode cX3_dropLocalsNewerThan 4 = .ok (.iload_n 3, 1) := by decide +kernel
theorem dX3_dropLocalsNewerThan_5 : decode cX3_dropLocalsNewerThan 5 = .ok (.aload_n 0, 1) := by decide +kernel
theorem dX3_dropLocalsNewerThan_6 : decode cX3_dropLocalsNewerThan 6 = .ok (.getfield 15, 3) := by decide +kernel
theorem dX3_dropLocalsNewerThan_9 : decode cX3_dropLocalsNewerThan 9 = .ok (.if_icmp .ge 45, 3) := by decide +kernel
theorem dX3_dropLocalsNewerThan_12 : decode cX3_dropLocalsNewerThan 12 = .ok (.aload_n 0, 1) := by decide +kernel
theorem dX3_dropLocalsNewerThan_13 : decode cX3_dropLocalsNewerThan 13 = .ok (.getfield 11, 3) := by decide +kernel
theorem dX3_dropLocalsNewerThan_16 : decode cX3_dropLocalsNewerThan 16 = .ok (.iload_n 3, 1) := by decide +kernel
theorem dX3_dropLocalsNewerThan_17 : decode cX3_dropLocalsNewerThan 17 = .ok (.aaload, 1) := by decide +kernel
theorem dX3_dropLocalsNewerThan_18 : decode cX3_dropLocalsNewerThan 18 = .ok (.astore 4, 2) := by decide +kernel
theorem dX3_dropLocalsNewerThan_20 : decode cX3_dropLocalsNewerThan 20 = .ok (.aload 4, 2) := by decide +kernel
theorem dX3_dropLocalsNewerThan_22 : decode cX3_dropLocalsNewerThan 22 = .ok (.getfield 75, 3) := by decide +kernel
theorem dX3_dropLocalsNewerThan_25 : decode cX3_dropLocalsNewerThan 25 = .ok (.ifCond .ne 12, 3) := by decide +kernel
theorem dX3_dropLocalsNewerThan_28 : decode cX3_dropLocalsNewerThan 28 = .ok (.aload 4, 2) := by decide +kernel
theorem dX3_dropLocalsNewerThan_30 : decode cX3_dropLocalsNewerThan 30 = .ok (.aload_n 1, 1) := by decide +kernel
theorem dX3_dropLocalsNewerThan_31 : decode cX3_dropLocalsNewerThan 31 = .ok (.invokevirtual 146, 3) := by decide +kernel
theorem dX3_dropLocalsNewerThan_34 : decode cX3_dropLocalsNewerThan 34 = .ok (.ifCond .ne 14, 3) := by decide +kernel
theorem dX3_dropLocalsNewerThan_37 : decode cX3_dropLocalsNewerThan 37 = .ok (.aload_n 0, 1) := by decide +kernel
theorem dX3_dropLocalsNewerThan_38 : decode cX3_dropLocalsNewerThan 38 = .ok (.getfield 11, 3) := by decide +kernel
theorem dX3_dropLocalsNewerThan_41 : decode cX3_dropLocalsNewerThan 41 = .ok (.iload_n 2, 1) := by decide +kernel
theorem dX3_dropLocalsNewerThan_42 : decode cX3_dropLocalsNewerThan 42 = .ok (.aload 4, 2) := by decide +kernel
theorem dX3_dropLocalsNewerThan_44 : decode cX3_dropLocalsNewerThan 44 = .ok (.aastore, 1) := by decide +kernel
theorem dX3_dropLocalsNewerThan_45 : decode cX3_dropLocalsNewerThan 45 = .ok (.iinc 2 1, 3) := by decide +kernel
theorem dX3_dropLocalsNewerThan_48 : decode cX3_dropLocalsNewerThan 48 = .ok (.iinc 3 1, 3) := by decide +kernel
theorem dX3_dropLocalsNewerThan_51 : decode cX3_dropLocalsNewerThan 51 = .ok (.goto (-47), 3) := by decide +kernel
theorem dX3_dropLocalsNewerThan_54 : decode cX3_dropLocalsNewerThan 54 = .ok (.aload_n 0, 1) := by decide +kernel
theorem dX3_dropLocalsNewerThan_55 : decode cX3_dropLocalsNewerThan 55 = .ok (.iload_n 2, 1) := by decide +kernel
theorem dX3_dropLocalsNewerThan_56 : decode cX3_dropLocalsNewerThan 56 = .ok (.putfield 15, 3) := by decide +kernel
theorem dX3_dropLocalsNewerThan_59 : decode cX3_dropLocalsNewerThan 59 = .ok (.return_, 1) := by decide +kernel
theorem dX3_pushedSinceLatestSave_0 : decode cX3_pushedSinceLatestSave 0 = .ok (.aload_n 0, 1) := by decide +kernel
theorem dX3_pushedSinceLatestSave_1 : decode cX3_pushedSinceLatestSave 1 = .ok (.getfield 28, 3) := by decide +kernel
theorem dX3_pushedSinceLatestSave_4 : decode cX3_pushedSinceLatestSave 4 = .ok (.ifCond .le 25, 3) := by decide +kernel
theorem dX3_pushedSinceLatestSave_7 : decode cX3_pushedSinceLatestSave 7 = .ok (.aload_n 0, 1) := by decide +kernel
theorem dX3_pushedSinceLatestSave_8 : decode cX3_pushedSinceLatestSave 8 = .ok (.getfield 46, 3) := by decide +kernel
theorem dX3_pushedSinceLatestSave_11 : decode cX3_pushedSinceLatestSave 11 = .ok (.aload_n 0, 1) := by decide +kernel
theorem dX3_pushedSinceLatestSave_12 : decode cX3_pushedSinceLatestSave 12 = .ok (.getfield 24, 3) := by decide +kernel
theorem dX3_pushedSinceLatestSave_15 : decode cX3_pushedSinceLatestSave 15 = .ok (.aload_n 0, 1) := by decide +kernel
theorem dX3_pushedSinceLatestSave_16 : decode cX3_pushedSinceLatestSave 16 = .ok (.getfield 28, 3) := by decide +kernel
theorem dX3_pushedSinceLatestSave_19 : decode cX3_pushedSinceLatestSave 19 = .ok (.iconst 1, 1) := by decide +kernel
theorem dX3_pushedSinceLatestSave_20 : decode cX3_pushedSinceLatestSave 20 = .ok (.isub, 1) := by decide +kernel
theorem dX3_pushedSinceLatestSave_21 : decode cX3_pushedSinceLatestSave 21 = .ok (.aaload, 1) := by decide +kernel
theorem dX3_pushedSinceLatestSave_22 : decode cX3_pushedSinceLatestSave 22 = .ok (.getfield 101, 3) := by decide +kernel
theorem dX3_pushedSinceLatestSave_25 : decode cX3_pushedSinceLatestSave 25 = .ok (.isub, 1) := by decide +kernel
theorem dX3_pushedSinceLatestSave_26 : decode cX3_pushedSinceLatestSave 26 = .ok (.goto 7, 3) := by decide +kernel
theorem dX3_pushedSinceLatestSave_29 : decode cX3_pushedSinceLatestSave 29 = .ok (.aload_n 0, 1) := by decide +kernel
theorem dX3_pushedSinceLatestSave_30 : decode cX3_pushedSinceLatestSave 30 = .ok (.getfield 46, 3) := by decide +kernel
theorem dX3_pushedSinceLatestSave_33 : decode cX3_pushedSinceLatestSave 33 = .ok (.ireturn, 1) := by decide +kernel
theorem dX4_init_0 : decode cX4_init 0 = .ok (.aload_n 0, 1) := by decide +kernel
theorem dX4_init_1 : decode cX4_init 1 = .ok (.invokespecial 1, 3) := by decide +kernel
theorem dX4_init_4 : decode cX4_init 4 = .ok (.aload_n 0, 1) := by decide +kernel
theorem dX4_init_5 : decode cX4_init 5 = .ok (.sipush 600, 3) := by decide +kernel
theorem dX4_init_8 : decode cX4_init 8 = .ok (.newarray .boolean, 2) := by decide +kernel
theorem dX4_init_10 : decode cX4_init 10 = .ok (.putfield 7, 3) := by decide +kernel
theorem dX4_init_13 : decode cX4_init 13 = .ok (.aload_n 0, 1) := by decide +kernel
theorem dX4_init_14 : decode cX4_init 14 = .ok (.sipush 600, 3) := by decide +kernel
theorem dX4_init_17 : decode cX4_init 17 = .ok (.newarray .boolean, 2) := by decide +kernel
theorem dX4_init_19 : decode cX4_init 19 = .ok (.putfield 13, 3) := by decide +kernel
theorem dX4_init_22 : decode cX4_init 22 = .ok (.aload_n 0, 1) := by decide +kernel
theorem dX4_init_23 : decode cX4_init 23 = .ok (.sipush 4800, 3) := by decide +kernel
theorem dX4_init_26 : decode cX4_init 26 = .ok (.newarray .int, 2) := by decide +kernel
theorem dX4_init_28 : decode cX4_init 28 = .ok (.putfield 16, 3) := by decide +kernel
theorem dX4_init_31 : decode cX4_init 31 = .ok (.aload_n 0, 1) := by decide +kernel
theorem dX4_init_32 : decode cX4_init 32 = .ok (.sipush 4800, 3) := by decide +kernel
theorem dX4_init_35 : decode cX4_init 35 = .ok (.newarray .int, 2) := by decide +kernel
theorem dX4_init_37 : decode cX4_init 37 = .ok (.putfield 20, 3) := by decide +kernel
theorem dX4_init_40 : decode cX4_init 40 = .ok (.aload_n 0, 1) := by decide +kernel
theorem dX4_init_41 : decode cX4_init 41 = .ok (.bipush 10, 2) := by decide +kernel
theorem dX4_init_43 : decode cX4_init 43 = .ok (.newarray .int, 2) := by decide +kernel
theorem dX4_init_45 : decode cX4_init 45 = .ok (.putfield 23, 3) := by decide +kernel
theorem dX4_init_48 : decode cX4_init 48 = .ok (.aload_n 0, 1) := by decide +kernel
theorem dX4_init_49 : decode cX4_init 49 = .ok (.bipush 16, 2) := by decide +kernel
theorem dX4_init_51 : decode cX4_init 51 = .ok (.newarray .int, 2) := by decide +kernel
theorem dX4_init_53 : decode cX4_init 53 = .ok (.putfield 26, 3) := by decide +kernel
theorem dX4_init_56 : decode cX4_init 56 = .ok (.aload_n 0, 1) := by decide +kernel
theorem dX4_init_57 : decode cX4_init 57 = .ok (.bipush 16, 2) := by decide +kernel
theorem dX4_init_59 : decode cX4_init 59 = .ok (.newarray .int, 2) := by decide +kernel
theorem dX4_init_61 : decode cX4_init 61 = .ok (.putfield 29, 3) := by decide +kernel
theorem dX4_init_64 : decode cX4_init 64 = .ok (.aload_n 0, 1) := by decide +kernel
theorem dX4_init_65 : decode cX4_init 65 = .ok (.bipush 16, 2) := by decide +kernel
theorem dX4_init_67 : decode cX4_init 67 = .ok (.newarray .int, 2) := by decide +kernel
theorem dX4_init_69 : decode cX4_init 69 = .ok (.putfield 32, 3) := by decide +kernel
theorem dX4_init_72 : decode cX4_init 72 = .ok (.aload_n 0, 1) := by decide +kernel
theorem dX4_init_73 : decode cX4_init 73 = .ok (.bipush 16, 2) := by decide +kernel
theorem dX4_init_75 : decode cX4_init 75 = .ok (.newarray .int, 2) := by decide +kernel
theorem dX4_init_77 : decode cX4_init 77 = .ok (.putfield 35, 3) := by decide +kernel
theorem dX4_init_80 : decode cX4_init 80 = .ok (.aload_n 0, 1) := by decide +kernel
theorem dX4_init_81 : decode cX4_init 81 = .ok (.sipush 160, 3) := by decide +kernel
theorem dX4_init_84 : decode cX4_init 84 = .ok (.newarray .int, 2) := by decide +kernel
theorem dX4_init_86 : decode cX4_init 86 = .ok (.putfield 38, 3) := by decide +kernel
theorem dX4_init_89 : decode cX4_init 89 = .ok (.aload_n 0, 1) := by decide +kernel
theorem dX4_init_90 : decode cX4_init 90 = .ok (.sipush 600, 3) := by decide +kernel
theorem dX4_init_93 : decode cX4_init 93 = .ok (.newarray .int, 2) := by decide +kernel
theorem dX4_init_95 : decode cX4_init 95 = .ok (.putfield 41, 3) := by decide +kernel
theorem dX4_init_98 : decode cX4_init 98 = .ok (.aload_n 0, 1) := by decide +kernel
theorem dX4_init_99 : decode cX4_init 99 = .ok (.sipush 600, 3) := by decide +kernel
theorem dX4_init_102 : decode cX4_init 102 = .ok (.newarray .int, 2) := by decide +kernel
theorem dX4_init_104 : decode cX4_init 104 = .ok (.putfield 44, 3) := by decide +kernel
theorem dX4_init_107 : decode cX4_init 107 = .ok (.aload_n 0, 1) := by decide +kernel
theorem dX4_init_108 : decode cX4_init 108 = .ok (.sipush 240, 3) := by decide +kernel
theorem dX4_init_111 : decode cX4_init 111 = .ok (.newarray .int, 2) := by decide +kernel
theorem dX4_init_113 : decode cX4_init 113 = .ok (.putfield 47, 3) := by decide +kernel
theorem dX4_init_116 : decode cX4_init 116 = .ok (.return_, 1) := by decide +kernel
theorem dX4_thrown_0 : decode cX4_thrown 0 = .ok (.aload_n 0, 1) := by decide +kernel
theorem dX4_thrown_1 : decode cX4_thrown 1 = .ok (.getfield 50, 3) := by decide +kernel
theorem dX4_thrown_4 : decode cX4_thrown 4 = .ok (.ireturn, 1) := by decide +kernel
theorem dX4_isObject_0 : decode cX4_isObject 0 = .ok (.iload_n 1, 1) := by decide +kernel
theorem dX4_isObject_1 : decode cX4_isObject 1 = .ok (.ifCond .lt 24, 3) := by decide +kernel
theorem dX4_isObject_4 : decode cX4_isObject 4 = .ok (.iload_n 1, 1) := by decide +kernel
theorem dX4_isObject_5 : decode cX4_isObject 5 = .ok (.aload_n 0, 1) := by decide +kernel
theorem dX4_isObject_6 : decode cX4_isObject 6 = .ok (.getfield 54, 3) := by decide +kernel
theorem dX4_isObject_9 : decode cX4_isObject 9 = .ok (.if_icmp .ge 16, 3) := by decide +kernel
theorem dX4_isObject_12 : decode cX4_isObject 12 = .ok (.aload_n 0, 1) := by decide +kernel
theorem dX4_isObject_13 : decode cX4_isObject 13 = .ok (.getfield 7, 3) := by decide +kernel
theorem dX4_isObject_16 : decode cX4_isObject 16 = .ok (.iload_n 1, 1) := by decide +kernel
theorem dX4_isObject_17 : decode cX4_isObject 17 = .ok (.baload, 1) := by decide +kernel
theorem dX4_isObject_18 : decode cX4_isObject 18 = .ok (.ifCond .eq 7, 3) := by decide +kernel
theorem dX4_isObject_21 : decode cX4_isObject 21 = .ok (.iconst 1, 1) := by decide +kernel
theorem dX4_isObject_22 : decode cX4_isObject 22 = .ok (.goto 4, 3) := by decide +kernel
theorem dX4_isObject_25 : decode cX4_isObject 25 = .ok (.iconst 0, 1) := by decide +kernel
theorem dX4_isObject_26 : decode cX4_isObject 26 = .ok (.ireturn, 1) := by decide +kernel
theorem dX4_isValue_0 : decode cX4_isValue 0 = .ok (.iload_n 1, 1) := by decide +kernel
theorem dX4_isValue_1 : decode cX4_isValue 1 = .ok (.ifCond .ge 13, 3) := by decide +kernel
theorem dX4_isValue_4 : decode cX4_isValue 4 = .ok (.aload_n 0, 1) := by decide +kernel
theorem dX4_isValue_5 : decode cX4_isValue 5 = .ok (.iconst (-1), 1) := by decide +kernel
theorem dX4_isValue_6 : decode cX4_isValue 6 = .ok (.iload_n 1, 1) := by decide +kernel
theorem dX4_isValue_7 : decode cX4_isValue 7 = .ok (.isub, 1) := by decide +kernel
theorem dX4_isValue_8 : decode cX4_isValue 8 = .ok (.invokevirtual 57, 3) := by decide +kernel
theorem dX4_isValue_11 : decode cX4_isValue 11 = .ok (.ifCond .eq 7, 3) := by decide +kernel
theorem dX4_isValue_14 : decode cX4_isValue 14 = .ok (.iconst 1, 1) := by decide +kernel
theorem dX4_isValue_15 : decode cX4_isValue 15 = .ok (.goto 4, 3) := by decide +kernel
theorem dX4_isValue_18 : decode cX4_isValue 18 = .ok (.iconst 0, 1) := by decide +kernel
theorem dX4_isValue_19 : decode cX4_isValue 19 = .ok (.ireturn, 1) := by decide +kernel
theorem dX4_isEight_0 : decode cX4_isEight 0 = .ok (.iload_n 0, 1) := by decide +kernel
theorem dX4_isEight_1 : decode cX4_isEight 1 = .ok (.ifCond .lt 13, 3) := by decide +kernel
theorem dX4_isEight_4 : decode cX4_isEight 4 = .ok (.iload_n 0, 1) := by decide +kernel
theorem dX4_isEight_5 : decode cX4_isEight 5 = .ok (.bipush 8, 2) := by decide +kernel
theorem dX4_isEight_7 : decode cX4_isEight 7 = .ok (.if_icmp .ge 7, 3) := by decide +kernel
theorem dX4_isEight_10 : decode cX4_isEight 10 = .ok (.iconst 1, 1) := by decide +kernel
theorem dX4_isEight_11 : decode cX4_isEight 11 = .ok (.goto 4, 3) := by decide +kernel
theorem dX4_isEight_14 : decode cX4_isEight 14 = .ok (.iconst 0, 1) := by decide +kernel
theorem dX4_isEight_15 : decode cX4_isEight 15 = .ok (.ireturn, 1) := by decide +kernel
theorem dX4_object_0 : decode cX4_object 0 = .ok (.aload_n 0, 1) := by decide +kernel
theorem dX4_object_1 : decode cX4_object 1 = .ok (.aload_n 0, 1) := by decide +kernel
theorem dX4_object_2 : decode cX4_object 2 = .ok (.getfield 61, 3) := by decide +kernel
theorem dX4_object_5 : decode cX4_object 5 = .ok (.sipush 200, 3) := by decide +kernel
theorem dX4_object_8 : decode cX4_object 8 = .ok (.if_icmp .ne 7, 3) := by decide +kernel
theorem dX4_object_11 : decode cX4_object 11 = .ok (.iconst 1, 1) := by decide +kernel
theorem dX4_object_12 : decode cX4_object 12 = .ok (.goto 4, 3) := by decide +kernel
theorem dX4_object_15 : decode cX4_object 15 = .ok (.iconst 0, 1) := by decide +kernel
theorem dX4_object_16 : decode cX4_object 16 = .ok (.putfield 50, 3) := by decide +kernel
theorem dX4_object_19 : decode cX4_object 19 = .ok (.aload_n 0, 1) := by decide +kernel
theorem dX4_object_20 : decode cX4_object 20 = .ok (.getfield 50, 3) := by decide +kernel
theorem dX4_object_23 : decode cX4_object 23 = .ok (.ifCond .le 5, 3) := by decide +kernel
theorem dX4_object_26 : decode cX4_object 26 = .ok (.iconst 0, 1) := by decide +kernel
theorem dX4_object_27 : decode cX4_object 27 = .ok (.ireturn, 1) := by decide +kernel
theorem dX4_object_28 : decode cX4_object 28 = .ok (.aload_n 0, 1) := by decide +kernel
theorem dX4_object_29 : decode cX4_object 29 = .ok (.getfield 7, 3) := by decide +kernel
theorem dX4_object_32 : decode cX4_object 32 = .ok (.aload_n 0, 1) := by decide +kernel
theorem dX4_object_33 : decode cX4_object 33 = .ok (.getfield 54, 3) := by decide +kernel
theorem dX4_object_36 : decode cX4_object 36 = .ok (.iconst 1, 1) := by decide +kernel
theorem dX4_object_37 : decode cX4_object 37 = .ok (.bastore, 1) := by decide +kernel
theorem dX4_object_38 : decode cX4_object 38 = .ok (.aload_n 0, 1) := by decide +kernel
theorem dX4_object_39 : decode cX4_object 39 = .ok (.getfield 13, 3) := by decide +kernel
theorem dX4_object_42 : decode cX4_object 42 = .ok (.aload_n 0, 1) := by decide +kernel
theorem dX4_object_43 : decode cX4_object 43 = .ok (.getfield 54, 3) := by decide +kernel
theorem dX4_object_46 : decode cX4_object 46 = .ok (.iload_n 1, 1) := by decide +kernel
theorem dX4_object_47 : decode cX4_object 47 = .ok (.bastore, 1) := by decide +kernel
theorem dX4_object_48 : decode cX4_object 48 = .ok (.aload_n 0, 1) := by decide +kernel
theorem dX4_object_49 : decode cX4_object 49 = .ok (.dup, 1) := by decide +kernel
theorem dX4_object_50 : decode cX4_object 50 = .ok (.getfield 61, 3) := by decide +kernel
theorem dX4_object_53 : decode cX4_object 53 = .ok (.iconst 1, 1) := by decide +kernel
theorem dX4_object_54 : decode cX4_object 54 = .ok (.iadd, 1) := by decide +kernel
theorem dX4_object_55 : decode cX4_object 55 = .ok (.putfield 61, 3) := by decide +kernel
theorem dX4_object_58 : decode cX4_object 58 = .ok (.aload_n 0, 1) := by decide +kernel
theorem dX4_object_59 : decode cX4_object 59 = .ok (.dup, 1) := by decide +kernel
theorem dX4_object_60 : decode cX4_object 60 = .ok (.getfield 54, 3) := by decide +kernel
theorem dX4_object_63 : decode cX4_object 63 = .ok (.iconst 1, 1) := by decide +kernel
theorem dX4_object_64 : decode cX4_object 64 = .ok (.iadd, 1) := by decide +kernel
theorem dX4_object_65 : decode cX4_object 65 = .ok (.putfield 54, 3) := by decide +kernel
theorem dX4_object_68 : decode cX4_object 68 = .ok (.aload_n 0, 1) := by decide +kernel
theorem dX4_object_69 : decode cX4_object 69 = .ok (.getfield 54, 3) := by decide +kernel
theorem dX4_object_72 : decode cX4_object 72 = .ok (.iconst 1, 1) := by decide +kernel
theorem dX4_object_73 : decode cX4_object 73 = .ok (.isub, 1) := by decide +kernel
theorem dX4_object_74 : decode cX4_object 74 = .ok (.ireturn, 1) := by decide +kernel
theorem dX4_keep_0 : decode cX4_keep 0 = .ok (.aload_n 0, 1) := by decide +kernel
theorem dX4_keep_1 : decode cX4_keep 1 = .ok (.getfield 32, 3) := by decide +kernel
theorem dX4_keep_4 : decode cX4_keep 4 = .ok (.aload_n 0, 1) := by decide +kernel
theorem dX4_keep_5 : decode cX4_keep 5 = .ok (.getfield 64, 3) := by decide +kernel
theorem dX4_keep_8 : decode cX4_keep 8 = .ok (.iconst 1, 1) := by decide +kernel
theorem dX4_keep_9 : decode cX4_keep 9 = .ok (.isub, 1) := by decide +kernel
theorem dX4_keep_10 : decode cX4_keep 10 = .ok (.iaload, 1) := by decide +kernel
theorem dX4_keep_11 : decode cX4_keep 11 = .ok (.istore_n 2, 1) := by decide +kernel
theorem dX4_keep_12 : decode cX4_keep 12 = .ok (.iconst 0, 1) := by decide +kernel
theorem dX4_keep_13 : decode cX4_keep 13 = .ok (.istore_n 3, 1) := by decide +kernel
theorem dX4_keep_14 : decode cX4_keep 14 = .ok (.iload_n 2, 1) := by decide +kernel
theorem dX4_keep_15 : decode cX4_keep 15 = .ok (.istore 4, 2) := by decide +kernel
theorem dX4_keep_17 : decode cX4_keep 17 = .ok (.iload 4, 2) := by decide +kernel
theorem dX4_keep_19 : decode cX4_keep 19 = .ok (.aload_n 0, 1) := by decide +kernel
theorem dX4_keep_20 : decode cX4_keep 20 = .ok (.getfield 67, 3) := by decide +kernel
theorem dX4_keep_23 : decode cX4_keep 23 = .ok (.if_icmp .ge 30, 3) := by decide +kernel
theorem dX4_keep_26 : decode cX4_keep 26 = .ok (.iload_n 3, 1) := by decide +kernel
theorem dX4_keep_27 : decode cX4_keep 27 = .ok (.ifCond .ne 14, 3) := by decide +kernel
theorem dX4_keep_30 : decode cX4_keep 30 = .ok (.aload_n 0, 1) := by decide +kernel
theorem dX4_keep_31 : decode cX4_keep 31 = .ok (.getfield 41, 3) := by decide +kernel
theorem dX4_keep_34 : decode cX4_keep 34 = .ok (.iload 4, 2) := by decide +kernel
theorem dX4_keep_36 : decode cX4_keep 36 = .ok (.iaload, 1) := by decide +kernel
theorem dX4_keep_37 : decode cX4_keep 37 = .ok (.iload_n 1, 1) := by decide +kernel
theorem dX4_keep_38 : decode cX4_keep 38 = .ok (.if_icmp .ne 7, 3) := by decide +kernel
theorem dX4_keep_41 : decode cX4_keep 41 = .ok (.iconst 1, 1) := by decide +kernel
theorem dX4_keep_42 : decode cX4_keep 42 = .ok (.goto 4, 3) := by decide +kernel
theorem dX4_keep_45 : decode cX4_keep 45 = .ok (.iconst 0, 1) := by decide +kernel
theorem dX4_keep_46 : decode cX4_keep 46 = .ok (.istore_n 3, 1) := by decide +kernel
theorem dX4_keep_47 : decode cX4_keep 47 = .ok (.iinc 4 1, 3) := by decide +kernel
theorem dX4_keep_50 : decode cX4_keep 50 = .ok (.goto (-33), 3) := by decide +kernel
theorem dX4_keep_53 : decode cX4_keep 53 = .ok (.iload_n 3, 1) := by decide +kernel
theorem dX4_keep_54 : decode cX4_keep 54 = .ok (.ifCond .ne 38, 3) := by decide +kernel
theorem dX4_keep_57 : decode cX4_keep 57 = .ok (.aload_n 0, 1) := by decide +kernel
theorem dX4_keep_58 : decode cX4_keep 58 = .ok (.getfield 41, 3) := by decide +kernel
theorem dX4_keep_61 : decode cX4_keep 61 = .ok (.aload_n 0, 1) := by decide +kernel
theorem dX4_keep_62 : decode cX4_keep 62 = .ok (.getfield 67, 3) := by decide +kernel
theorem dX4_keep_65 : decode cX4_keep 65 = .ok (.iload_n 1, 1) := by decide +kernel
theorem dX4_keep_66 : decode cX4_keep 66 = .ok (.iastore, 1) := by decide +kernel
theorem dX4_keep_67 : decode cX4_keep 67 = .ok (.aload_n 0, 1) := by decide +kernel
theorem dX4_keep_68 : decode cX4_keep 68 = .ok (.getfield 44, 3) := by decide +kernel
theorem dX4_keep_71 : decode cX4_keep 71 = .ok (.aload_n 0, 1) := by decide +kernel
theorem dX4_keep_72 : decode cX4_keep 72 = .ok (.getfield 67, 3) := by decide +kernel
theorem dX4_keep_75 : decode cX4_keep 75 = .ok (.aload_n 0, 1) := by decide +kernel
theorem dX4_keep_76 : decode cX4_keep 76 = .ok (.getfield 16, 3) := by decide +kernel
theorem dX4_keep_79 : decode cX4_keep 79 = .ok (.iload_n 1, 1) := by decide +kernel
theorem dX4_keep_80 : decode cX4_keep 80 = .ok (.iaload, 1) := by decide +kernel
theorem dX4_keep_81 : decode cX4_keep 81 = .ok (.iastore, 1) := by decide +kernel
theorem dX4_keep_82 : decode cX4_keep 82 = .ok (.aload_n 0, 1) := by decide +kernel
theorem dX4_keep_83 : decode cX4_keep 83 = .ok (.dup, 1) := by decide +kernel
theorem dX4_keep_84 : decode cX4_keep 84 = .ok (.getfield 67, 3) := by decide +kernel
theorem dX4_keep_87 : decode cX4_keep 87 = .ok (.iconst 1, 1) := by decide +kernel
theorem dX4_keep_88 : decode cX4_keep 88 = .ok (.iadd, 1) := by decide +kernel
theorem dX4_keep_89 : decode cX4_keep 89 = .ok (.putfield 67, 3) := by decide +kernel
theorem dX4_keep_92 : decode cX4_keep 92 = .ok (.return_, 1) := by decide +kernel
theorem dX4_put_0 : decode cX4_put 0 = .ok (.aload_n 0, 1) := by decide +kernel
theorem dX4_put_1 : decode cX4_put 1 = .ok (.aload_n 0, 1) := by decide +kernel
theorem dX4_put_2 : decode cX4_put 2 = .ok (.iload_n 1, 1) := by decide +kernel
theorem dX4_put_3 : decode cX4_put 3 = .ok (.invokevirtual 57, 3) := by decide +kernel
theorem dX4_put_6 : decode cX4_put 6 = .ok (.ifCond .eq 11, 3) := by decide +kernel
theorem dX4_put_9 : decode cX4_put 9 = .ok (.aload_n 0, 1) := by decide +kernel
theorem dX4_put_10 : decode cX4_put 10 = .ok (.iload_n 3, 1) := by decide +kernel
theorem dX4_put_11 : decode cX4_put 11 = .ok (.invokevirtual 70, 3) := by decide +kernel
theorem dX4_put_14 : decode cX4_put 14 = .ok (.ifCond .ne 7, 3) := by decide +kernel
theorem dX4_put_17 : decode cX4_put 17 = .ok (.iconst 1, 1) := by decide +kernel
theorem dX4_put_18 : decode cX4_put 18 = .ok (.goto 43, 3) := by decide +kernel
theorem dX4_put_21 : decode cX4_put 21 = .ok (.iload_n 2, 1) := by decide +kernel
theorem dX4_put_22 : decode cX4_put 22 = .ok (.invokestatic 73, 3) := by decide +kernel
theorem dX4_put_25 : decode cX4_put 25 = .ok (.ifCond .ne 7, 3) := by decide +kernel
theorem dX4_put_28 : decode cX4_put 28 = .ok (.iconst 2, 1) := by decide +kernel
theorem dX4_put_29 : decode cX4_put 29 = .ok (.goto 32, 3) := by decide +kernel
theorem dX4_put_32 : decode cX4_put 32 = .ok (.aload_n 0, 1) := by decide +kernel
theorem dX4_put_33 : decode cX4_put 33 = .ok (.getfield 13, 3) := by decide +kernel
theorem dX4_put_36 : decode cX4_put 36 = .ok (.iload_n 1, 1) := by decide +kernel
theorem dX4_put_37 : decode cX4_put 37 = .ok (.baload, 1) := by decide +kernel
theorem dX4_put_38 : decode cX4_put 38 = .ok (.ifCond .eq 22, 3) := by decide +kernel
theorem dX4_put_41 : decode cX4_put 41 = .ok (.iload_n 3, 1) := by decide +kernel
theorem dX4_put_42 : decode cX4_put 42 = .ok (.ifCond .ge 18, 3) := by decide +kernel
theorem dX4_put_45 : decode cX4_put 45 = .ok (.aload_n 0, 1) := by decide +kernel
theorem dX4_put_46 : decode cX4_put 46 = .ok (.getfield 13, 3) := by decide +kernel
theorem dX4_put_49 : decode cX4_put 49 = .ok (.iconst (-1), 1) := by decide +kernel
theorem dX4_put_50 : decode cX4_put 50 = .ok (.iload_n 3, 1) := by decide +kernel
theorem dX4_put_51 : decode cX4_put 51 = .ok (.isub, 1) := by decide +kernel
theorem dX4_put_52 : decode cX4_put 52 = .ok (.baload, 1) := by decide +kernel
theorem dX4_put_53 : decode cX4_put 53 = .ok (.ifCond .ne 7, 3) := by decide +kernel
theorem dX4_put_56 : decode cX4_put 56 = .ok (.iconst 3, 1) := by decide +kernel
theorem dX4_put_57 : decode cX4_put 57 = .ok (.goto 4, 3) := by decide +kernel
theorem dX4_put_60 : decode cX4_put 60 = .ok (.iconst 0, 1) := by decide +kernel
theorem dX4_put_61 : decode cX4_put 61 = .ok (.putfield 50, 3) := by decide +kernel
theorem dX4_put_64 : decode cX4_put 64 = .ok (.aload_n 0, 1) := by decide +kernel
theorem dX4_put_65 : decode cX4_put 65 = .ok (.getfield 50, 3) := by decide +kernel
theorem dX4_put_68 : decode cX4_put 68 = .ok (.ifCond .le 5, 3) := by decide +kernel
theorem dX4_put_71 : decode cX4_put 71 = .ok (.iconst 0, 1) := by decide +kernel
theorem dX4_put_72 : decode cX4_put 72 = .ok (.ireturn, 1) := by decide +kernel
theorem dX4_put_73 : decode cX4_put 73 = .ok (.bipush 8, 2) := by decide +kernel
theorem dX4_put_75 : decode cX4_put 75 = .ok (.iload_n 1, 1) := by decide +kernel
theorem dX4_put_76 : decode cX4_put 76 = .ok (.imul, 1) := by decide +kernel
theorem dX4_put_77 : decode cX4_put 77 = .ok (.iload_n 2, 1) := by decide +kernel
theorem dX4_put_78 : decode cX4_put 78 = .ok (.iadd, 1) := by decide +kernel
theorem dX4_put_79 : decode cX4_put 79 = .ok (.istore 4, 2) := by decide +kernel
theorem dX4_put_81 : decode cX4_put 81 = .ok (.aload_n 0, 1) := by decide +kernel
theorem dX4_put_82 : decode cX4_put 82 = .ok (.getfield 16, 3) := by decide +kernel
theorem dX4_put_85 : decode cX4_put 85 = .ok (.iload 4, 2) := by decide +kernel
theorem dX4_put_87 : decode cX4_put 87 = .ok (.iaload, 1) := by decide +kernel
theorem dX4_put_88 : decode cX4_put 88 = .ok (.istore 5, 2) := by decide +kernel
theorem dX4_put_90 : decode cX4_put 90 = .ok (.aload_n 0, 1) := by decide +kernel
theorem dX4_put_91 : decode cX4_put 91 = .ok (.getfield 64, 3) := by decide +kernel
theorem dX4_put_94 : decode cX4_put 94 = .ok (.ifCond .le 33, 3) := by decide +kernel
theorem dX4_put_97 : decode cX4_put 97 = .ok (.aload_n 0, 1) := by decide +kernel
theorem dX4_put_98 : decode cX4_put 98 = .ok (.getfield 13, 3) := by decide +kernel
theorem dX4_put_101 : decode cX4_put 101 = .ok (.iload_n 1, 1) := by decide +kernel
theorem dX4_put_102 : decode cX4_put 102 = .ok (.baload, 1) := by decide +kernel
theorem dX4_put_103 : decode cX4_put 103 = .ok (.ifCond .ne 24, 3) := by decide +kernel
theorem dX4_put_106 : decode cX4_put 106 = .ok (.iload_n 1, 1) := by decide +kernel
theorem dX4_put_107 : decode cX4_put 107 = .ok (.aload_n 0, 1) := by decide +kernel
theorem dX4_put_108 : decode cX4_put 108 = .ok (.getfield 29, 3) := by decide +kernel
theorem dX4_put_111 : decode cX4_put 111 = .ok (.aload_n 0, 1) := by decide +kernel
theorem dX4_put_112 : decode cX4_put 112 = .ok (.getfield 64, 3) := by decide +kernel
theorem dX4_put_115 : decode cX4_put 115 = .ok (.iconst 1, 1) := by decide +kernel
theorem dX4_put_116 : decode cX4_put 116 = .ok (.isub, 1) := by decide +kernel
theorem dX4_put_117 : decode cX4_put 117 = .ok (.iaload, 1) := by decide +kernel
theorem dX4_put_118 : decode cX4_put 118 = .ok (.if_icmp .ge 9, 3) := by decide +kernel
theorem dX4_put_121 : decode cX4_put 121 = .ok (.aload_n 0, 1) := by decide +kernel
theorem dX4_put_122 : decode cX4_put 122 = .ok (.iload 4, 2) := by decide +kernel
theorem dX4_put_124 : decode cX4_put 124 = .ok (.invokevirtual 76, 3) := by decide +kernel
theorem dX4_put_127 : decode cX4_put 127 = .ok (.aload_n 0, 1) := by decide +kernel
theorem dX4_put_128 : decode cX4_put 128 = .ok (.getfield 16, 3) := by decide +kernel
theorem dX4_put_131 : decode cX4_put 131 = .ok (.iload 4, 2) := by decide +kernel
theorem dX4_put_133 : decode cX4_put 133 = .ok (.iload_n 3, 1) := by decide +kernel
theorem dX4_put_134 : decode cX4_put 134 = .ok (.iastore, 1) := by decide +kernel
theorem dX4_put_135 : decode cX4_put 135 = .ok (.iload 5, 2) := by decide +kernel
theorem dX4_put_137 : decode cX4_put 137 = .ok (.ireturn, 1) := by decide +kernel
theorem dX4_get_0 : decode cX4_get 0 = .ok (.aload_n 0, 1) := by decide +kernel
theorem dX4_get_1 : decode cX4_get 1 = .ok (.aload_n 0, 1) := by decide +kernel
theorem dX4_get_2 : decode cX4_get 2 = .ok (.iload_n 1, 1) := by decide +kernel
theorem dX4_get_3 : decode cX4_get 3 = .ok (.invokevirtual 57, 3) := by decide +kernel
theorem dX4_get_6 : decode cX4_get 6 = .ok (.ifCond .ne 7, 3) := by decide +kernel
theorem dX4_get_9 : decode cX4_get 9 = .ok (.iconst 1, 1) := by decide +kernel
theorem dX4_get_10 : decode cX4_get 10 = .ok (.goto 15, 3) := by decide +kernel
theorem dX4_get_13 : decode cX4_get 13 = .ok (.iload_n 2, 1) := by decide +kernel
theorem dX4_get_14 : decode cX4_get 14 = .ok (.invokestatic 73, 3) := by decide +kernel
theorem dX4_get_17 : decode cX4_get 17 = .ok (.ifCond .ne 7, 3) := by decide +kernel
theorem dX4_get_20 : decode cX4_get 20 = .ok (.iconst 2, 1) := by decide +kernel
theorem dX4_get_21 : decode cX4_get 21 = .ok (.goto 4, 3) := by decide +kernel
theorem dX4_get_24 : decode cX4_get 24 = .ok (.iconst 0, 1) := by decide +kernel
theorem dX4_get_25 : decode cX4_get 25 = .ok (.putfield 50, 3) := by decide +kernel
theorem dX4_get_28 : decode cX4_get 28 = .ok (.aload_n 0, 1) := by decide +kernel
theorem dX4_get_29 : decode cX4_get 29 = .ok (.getfield 50, 3) := by decide +kernel
theorem dX4_get_32 : decode cX4_get 32 = .ok (.ifCond .le 7, 3) := by decide +kernel
theorem dX4_get_35 : decode cX4_get 35 = .ok (.iconst 0, 1) := by decide +kernel
theorem dX4_get_36 : decode cX4_get 36 = .ok (.goto 14, 3) := by decide +kernel
theorem dX4_get_39 : decode cX4_get 39 = .ok (.aload_n 0, 1) := by decide +kernel
theorem dX4_get_40 : decode cX4_get 40 = .ok (.getfield 16, 3) := by decide +kernel
theorem dX4_get_43 : decode cX4_get 43 = .ok (.bipush 8, 2) := by decide +kernel
theorem dX4_get_45 : decode cX4_get 45 = .ok (.iload_n 1, 1) := by decide +kernel
theorem dX4_get_46 : decode cX4_get 46 = .ok (.imul, 1) := by decide +kernel
theorem dX4_get_47 : decode cX4_get 47 = .ok (.iload_n 2, 1) := by decide +kernel
theorem dX4_get_48 : decode cX4_get 48 = .ok (.iadd, 1) := by decide +kernel
theorem dX4_get_49 : decode cX4_get 49 = .ok (.iaload, 1) := by decide +kernel
theorem dX4_get_50 : decode cX4_get 50 = .ok (.ireturn, 1) := by decide +kernel
theorem dX4_save_0 : decode cX4_save 0 = .ok (.aload_n 0, 1) := by decide +kernel
theorem dX4_save_1 : decode cX4_save 1 = .ok (.aload_n 0, 1) := by decide +kernel
theorem dX4_save_2 : decode cX4_save 2 = .ok (.getfield 64, 3) := by decide +kernel
theorem dX4_save_5 : decode cX4_save 5 = .ok (.bipush 16, 2) := by decide +kernel
theorem dX4_save_7 : decode cX4_save 7 = .ok (.if_icmp .ne 7, 3) := by decide +kernel
theorem dX4_save_10 : decode cX4_save 10 = .ok (.iconst 1, 1) := by decide +kernel
theorem dX4_save_11 : decode cX4_save 11 = .ok (.goto 4, 3) := by decide +kernel
theorem dX4_save_14 : decode cX4_save 14 = .ok (.iconst 0, 1) := by decide +kernel
theorem dX4_save_15 : decode cX4_save 15 = .ok (.putfield 50, 3) := by decide +kernel
theorem dX4_save_18 : decode cX4_save 18 = .ok (.aload_n 0, 1) := by decide +kernel
theorem dX4_save_19 : decode cX4_save 19 = .ok (.getfield 50, 3) := by decide +kernel
theorem dX4_save_22 : decode cX4_save 22 = .ok (.ifCond .le 5, 3) := by decide +kernel
theorem dX4_save_25 : decode cX4_save 25 = .ok (.iconst 0, 1) := by decide +kernel
theorem dX4_save_26 : decode cX4_save 26 = .ok (.ireturn, 1) := by decide +kernel
theorem dX4_save_27 : decode cX4_save 27 = .ok (.aload_n 0, 1) := by decide +kernel
theorem dX4_save_28 : decode cX4_save 28 = .ok (.dup, 1) := by decide +kernel
theorem dX4_save_29 : decode cX4_save 29 = .ok (.getfield 80, 3) := by decide +kernel
theorem dX4_save_32 : decode cX4_save 32 = .ok (.iconst 1, 1) := by decide +kernel
theorem dX4_save_33 : decode cX4_save 33 = .ok (.iadd, 1) := by decide +kernel
