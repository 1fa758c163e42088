/-! ===== BEGIN printed: names, fields, word lists, decode rows ===== -/
def RX0 : String := "OneTrip$Audit"
def TX0 : u_T := fun k => match k with
  | _ => ("", "", "", false)
def tyX0 : Nat → FieldType := fun k => match k with
  | _ => .int
abbrev wsX00 : List Cond := u_ws RX0 TX0 0
theorem nmX0 : ∀ a, a < 0 → ∀ b, b < 0 → a ≠ b → (TX0 a).2.1 ≠ (TX0 b).2.1 := by decide +kernel
theorem tyX0_ok : ∀ k, k < 0 → parseFieldDescriptor (TX0 k).2.2.1 = some (tyX0 k) := by decide +kernel
abbrev cX0_passes : ByteArray := prog_2_method_2_code
def yX0_passes : MethodName := ⟨RX0, "passes", "(Ljava/util/ArrayList;Ljava/util/ArrayList;)Z"⟩
abbrev cX0_standsOnce : ByteArray := prog_2_method_3_code
def yX0_standsOnce : MethodName := ⟨RX0, "standsOnce", "(Ljava/util/ArrayList;LOneTrip$Operation;)Z"⟩
abbrev cX0_isInOrder : ByteArray := prog_2_method_4_code
def yX0_isInOrder : MethodName := ⟨RX0, "isInOrder", "(Ljava/util/ArrayList;)Z"⟩
abbrev cX0_fits : ByteArray := prog_2_method_5_code
def yX0_fits : MethodName := ⟨RX0, "fits", "(Ljava/util/ArrayList;LOneTrip$Operation;)Z"⟩
def RX1 : String := "OneTrip$Backup"
def TX1 : u_T := fun k => match k with
  | 0 => ("OneTrip$Backup", "id", "I", true)
  | 1 => ("OneTrip$Backup", "epoch", "I", false)
  | _ => ("OneTrip$Backup", "has", "I", false)
def tyX1 : Nat → FieldType := fun k => match k with
  | 0 => .int
  | 1 => .int
  | _ => .int
abbrev wsX10 : List Cond := u_ws RX1 TX1 3
theorem nmX1 : ∀ a, a < 3 → ∀ b, b < 3 → a ≠ b → (TX1 a).2.1 ≠ (TX1 b).2.1 := by decide +kernel
theorem tyX1_ok : ∀ k, k < 3 → parseFieldDescriptor (TX1 k).2.2.1 = some (tyX1 k) := by decide +kernel
abbrev cX1_init : ByteArray := prog_3_method_1_code
def yX1_init : MethodName := ⟨RX1, "<init>", "(I)V"⟩
abbrev cX1_readSync : ByteArray := prog_3_method_2_code
def yX1_readSync : MethodName := ⟨RX1, "readSync", "(II)Z"⟩
def RX2 : String := "OneTrip$Client"
def TX2 : u_T := fun k => match k with
  | 0 => ("OneTrip$Client", "epoch", "I", false)
  | 1 => ("OneTrip$Client", "latest", "LOneTrip$Operation;", false)
  | 2 => ("OneTrip$Client", "accepts", "I", false)
  | 3 => ("OneTrip$Client", "answered", "Z", false)
  | 4 => ("OneTrip$Client", "answer", "I", false)
  | _ => ("OneTrip$Client", "finishedByAccepts", "I", false)
def tyX2 : Nat → FieldType := fun k => match k with
  | 0 => .int
  | 1 => .object "OneTrip$Operation"
  | 2 => .int
  | 3 => .boolean
  | 4 => .int
  | _ => .int
abbrev wsX20 : List Cond := u_ws RX2 TX2 6
theorem nmX2 : ∀ a, a < 6 → ∀ b, b < 6 → a ≠ b → (TX2 a).2.1 ≠ (TX2 b).2.1 := by decide +kernel
theorem tyX2_ok : ∀ k, k < 6 → parseFieldDescriptor (TX2 k).2.2.1 = some (tyX2 k) := by decide +kernel
abbrev cX2_init : ByteArray := prog_4_method_1_code
def yX2_init : MethodName := ⟨RX2, "<init>", "()V"⟩
abbrev cX2_isBusy : ByteArray := prog_4_method_2_code
def yX2_isBusy : MethodName := ⟨RX2, "isBusy", "()Z"⟩
abbrev cX2_latestNumber : ByteArray := prog_4_method_3_code
def yX2_latestNumber : MethodName := ⟨RX2, "latestNumber", "()I"⟩
abbrev cX2_told : ByteArray := prog_4_method_4_code
def yX2_told : MethodName := ⟨RX2, "told", "()I"⟩
abbrev cX2_forgetReplies : ByteArray := prog_4_method_5_code
def yX2_forgetReplies : MethodName := ⟨RX2, "forgetReplies", "()V"⟩
def RX3 : String := "OneTrip$Entry"
def TX3 : u_T := fun k => match k with
  | 0 => ("OneTrip$Entry", "op", "LOneTrip$Operation;", true)
  | 1 => ("OneTrip$Entry", "answer", "I", true)
  | 2 => ("OneTrip$Entry", "late", "Z", true)
  | _ => ("OneTrip$Entry", "wantedNow", "Z", false)
def tyX3 : Nat → FieldType := fun k => match k with
  | 0 => .object "OneTrip$Operation"
  | 1 => .int
  | 2 => .boolean
  | _ => .boolean
abbrev wsX30 : List Cond := u_ws RX3 TX3 4
theorem nmX3 : ∀ a, a < 4 → ∀ b, b < 4 → a ≠ b → (TX3 a).2.1 ≠ (TX3 b).2.1 := by decide +kernel
theorem tyX3_ok : ∀ k, k < 4 → parseFieldDescriptor (TX3 k).2.2.1 = some (tyX3 k) := by decide +kernel
abbrev cX3_init : ByteArray := prog_5_method_1_code
def yX3_init : MethodName := ⟨RX3, "<init>", "(LOneTrip$Operation;IZ)V"⟩
def RX4 : String := "OneTrip$Letter"
def TX4 : u_T := fun k => match k with
  | 0 => ("OneTrip$Letter", "kind", "I", true)
  | 1 => ("OneTrip$Letter", "epoch", "I", true)
  | 2 => ("OneTrip$Letter", "who", "I", true)
  | 3 => ("OneTrip$Letter", "op", "LOneTrip$Operation;", true)
  | 4 => ("OneTrip$Letter", "number", "I", true)
  | 5 => ("OneTrip$Letter", "extra", "I", true)
  | _ => ("OneTrip$Letter", "safe", "Z", true)
def tyX4 : Nat → FieldType := fun k => match k with
  | 0 => .int
  | 1 => .int
  | 2 => .int
  | 3 => .object "OneTrip$Operation"
  | 4 => .int
  | 5 => .int
  | _ => .boolean
abbrev wsX40 : List Cond := u_ws RX4 TX4 7
theorem nmX4 : ∀ a, a < 7 → ∀ b, b < 7 → a ≠ b → (TX4 a).2.1 ≠ (TX4 b).2.1 := by decide +kernel
theorem tyX4_ok : ∀ k, k < 7 → parseFieldDescriptor (TX4 k).2.2.1 = some (tyX4 k) := by decide +kernel
abbrev cX4_init : ByteArray := prog_6_method_1_code
def yX4_init : MethodName := ⟨RX4, "<init>", "(IIILOneTrip$Operation;IIZ)V"⟩
abbrev cX4_toMaster : ByteArray := prog_6_method_2_code
def yX4_toMaster : MethodName := ⟨RX4, "toMaster", "(IILOneTrip$Operation;)LOneTrip$Letter;"⟩
abbrev cX4_toRecord : ByteArray := prog_6_method_3_code
def yX4_toRecord : MethodName := ⟨RX4, "toRecord", "(IILOneTrip$Operation;)LOneTrip$Letter;"⟩
abbrev cX4_toClient : ByteArray := prog_6_method_4_code
def yX4_toClient : MethodName := ⟨RX4, "toClient", "(IILOneTrip$Operation;I)LOneTrip$Letter;"⟩
abbrev cX4_toAnswer : ByteArray := prog_6_method_5_code
def yX4_toAnswer : MethodName := ⟨RX4, "toAnswer", "(ILOneTrip$Operation;IZ)LOneTrip$Letter;"⟩
abbrev cX4_toSync : ByteArray := prog_6_method_6_code
def yX4_toSync : MethodName := ⟨RX4, "toSync", "(IIII)LOneTrip$Letter;"⟩
abbrev cX4_toAck : ByteArray := prog_6_method_7_code
def yX4_toAck : MethodName := ⟨RX4, "toAck", "(ILOneTrip$Backup;I)LOneTrip$Letter;"⟩
abbrev cX4_toWitness : ByteArray := prog_6_method_8_code
def yX4_toWitness : MethodName := ⟨RX4, "toWitness", "(IIII)LOneTrip$Letter;"⟩
def RX5 : String := "OneTrip$Master"
def TX5 : u_T := fun k => match k with
  | 0 => ("OneTrip$Master", "epoch", "I", true)
  | 1 => ("OneTrip$Master", "batch", "I", true)
  | 2 => ("OneTrip$Master", "row", "LOneTrip$Row;", true)
  | 3 => ("OneTrip$Master", "log", "Ljava/util/ArrayList;", true)
  | 4 => ("OneTrip$Master", "gets", "Ljava/util/ArrayList;", true)
  | 5 => ("OneTrip$Master", "values", "[I", true)
  | 6 => ("OneTrip$Master", "told", "[I", true)
  | 7 => ("OneTrip$Master", "lives", "Z", false)
  | 8 => ("OneTrip$Master", "settled", "Z", false)
  | 9 => ("OneTrip$Master", "began", "I", false)
  | 10 => ("OneTrip$Master", "synced", "I", false)
  | _ => ("OneTrip$Master", "syncs", "I", false)
def tyX5 : Nat → FieldType := fun k => match k with
  | 0 => .int
  | 1 => .int
  | 2 => .object "OneTrip$Row"
  | 3 => .object "java/util/ArrayList"
  | 4 => .object "java/util/ArrayList"
  | 5 => .array .int
  | 6 => .array .int
  | 7 => .boolean
  | 8 => .boolean
  | 9 => .int
  | 10 => .int
  | _ => .int
abbrev wsX50 : List Cond := u_ws RX5 TX5 12
theorem nmX5 : ∀ a, a < 12 → ∀ b, b < 12 → a ≠ b → (TX5 a).2.1 ≠ (TX5 b).2.1 := by decide +kernel
theorem tyX5_ok : ∀ k, k < 12 → parseFieldDescriptor (TX5 k).2.2.1 = some (tyX5 k) := by decide +kernel
abbrev cX5_init : ByteArray := prog_7_method_1_code
def yX5_init : MethodName := ⟨RX5, "<init>", "(IIILOneTrip$Row;)V"⟩
abbrev cX5_valueOf : ByteArray := prog_7_method_2_code
def yX5_valueOf : MethodName := ⟨RX5, "valueOf", "(I)I"⟩
abbrev cX5_fall : ByteArray := prog_7_method_3_code
def yX5_fall : MethodName := ⟨RX5, "fall", "()Z"⟩
abbrev cX5_takeLog : ByteArray := prog_7_method_4_code
def yX5_takeLog : MethodName := ⟨RX5, "takeLog", "(LOneTrip$Master;I)V"⟩
abbrev cX5_takeRecords : ByteArray := prog_7_method_5_code
def yX5_takeRecords : MethodName := ⟨RX5, "takeRecords", "(LOneTrip$Witness;)V"⟩
abbrev cX5_append : ByteArray := prog_7_method_6_code
def yX5_append : MethodName := ⟨RX5, "append", "(LOneTrip$Operation;Z)LOneTrip$Entry;"⟩
abbrev cX5_placeOf : ByteArray := prog_7_method_7_code
def yX5_placeOf : MethodName := ⟨RX5, "placeOf", "(LOneTrip$Operation;)I"⟩
abbrev cX5_hasLaterOneThan : ByteArray := prog_7_method_8_code
def yX5_hasLaterOneThan : MethodName := ⟨RX5, "hasLaterOneThan", "(LOneTrip$Operation;)Z"⟩
abbrev cX5_hasUnsyncedOf : ByteArray := prog_7_method_9_code
def yX5_hasUnsyncedOf : MethodName := ⟨RX5, "hasUnsyncedOf", "(I)Z"⟩
abbrev cX5_readExec : ByteArray := prog_7_method_10_code
def yX5_readExec : MethodName := ⟨RX5, "readExec", "(LOneTrip$Operation;)V"⟩
abbrev cX5_answerAgain : ByteArray := prog_7_method_11_code
def yX5_answerAgain : MethodName := ⟨RX5, "answerAgain", "(I)V"⟩
abbrev cX5_execute : ByteArray := prog_7_method_12_code
def yX5_execute : MethodName := ⟨RX5, "execute", "(LOneTrip$Operation;)V"⟩
abbrev cX5_letWait : ByteArray := prog_7_method_13_code
def yX5_letWait : MethodName := ⟨RX5, "letWait", "(LOneTrip$Operation;)V"⟩
abbrev cX5_readSyncNow : ByteArray := prog_7_method_14_code
def yX5_readSyncNow : MethodName := ⟨RX5, "readSyncNow", "(LOneTrip$Operation;)V"⟩
abbrev cX5_readAck : ByteArray := prog_7_method_15_code
def yX5_readAck : MethodName := ⟨RX5, "readAck", "(III)V"⟩
abbrev cX5_leastTold : ByteArray := prog_7_method_16_code
def yX5_leastTold : MethodName := ⟨RX5, "leastTold", "()I"⟩
abbrev cX5_confirmGets : ByteArray := prog_7_method_17_code
def yX5_confirmGets : MethodName := ⟨RX5, "confirmGets", "(II)V"⟩
abbrev cX5_answerAwaited : ByteArray := prog_7_method_18_code
def yX5_answerAwaited : MethodName := ⟨RX5, "answerAwaited", "(I)V"⟩
abbrev cX5_answerGets : ByteArray := prog_7_method_19_code
def yX5_answerGets : MethodName := ⟨RX5, "answerGets", "()V"⟩
abbrev cX5_isReady : ByteArray := prog_7_method_20_code
def yX5_isReady : MethodName := ⟨RX5, "isReady", "(LOneTrip$WaitingGet;)Z"⟩
abbrev cX5_sendAnswer : ByteArray := prog_7_method_21_code
def yX5_sendAnswer : MethodName := ⟨RX5, "sendAnswer", "(LOneTrip$Entry;Z)V"⟩
abbrev cX5_sendSyncs : ByteArray := prog_7_method_22_code
def yX5_sendSyncs : MethodName := ⟨RX5, "sendSyncs", "()V"⟩
abbrev cX5_sendGcs : ByteArray := prog_7_method_23_code
def yX5_sendGcs : MethodName := ⟨RX5, "sendGcs", "()V"⟩
abbrev cX5_sendResets : ByteArray := prog_7_method_24_code
def yX5_sendResets : MethodName := ⟨RX5, "sendResets", "()V"⟩
def RX6 : String := "OneTrip$Operation"
def TX6 : u_T := fun k => match k with
  | 0 => ("OneTrip$Operation", "asker", "I", true)
  | 1 => ("OneTrip$Operation", "number", "I", true)
  | 2 => ("OneTrip$Operation", "what", "I", true)
  | 3 => ("OneTrip$Operation", "key", "I", true)
  | 4 => ("OneTrip$Operation", "v", "I", true)
  | 5 => ("OneTrip$Operation", "askedAt", "I", false)
  | 6 => ("OneTrip$Operation", "doneAt", "I", false)
  | _ => ("OneTrip$Operation", "told", "I", false)
def tyX6 : Nat → FieldType := fun k => match k with
  | 0 => .int
  | 1 => .int
  | 2 => .int
  | 3 => .int
  | 4 => .int
  | 5 => .int
  | 6 => .int
  | _ => .int
abbrev wsX60 : List Cond := u_ws RX6 TX6 8
theorem nmX6 : ∀ a, a < 8 → ∀ b, b < 8 → a ≠ b → (TX6 a).2.1 ≠ (TX6 b).2.1 := by decide +kernel
theorem tyX6_ok : ∀ k, k < 8 → parseFieldDescriptor (TX6 k).2.2.1 = some (tyX6 k) := by decide +kernel
abbrev cX6_init : ByteArray := prog_8_method_1_code
def yX6_init : MethodName := ⟨RX6, "<init>", "(IIIII)V"⟩
abbrev cX6_isUpdate : ByteArray := prog_8_method_2_code
def yX6_isUpdate : MethodName := ⟨RX6, "isUpdate", "()Z"⟩
abbrev cX6_isDone : ByteArray := prog_8_method_3_code
def yX6_isDone : MethodName := ⟨RX6, "isDone", "()Z"⟩
abbrev cX6_isDoneBefore : ByteArray := prog_8_method_4_code
def yX6_isDoneBefore : MethodName := ⟨RX6, "isDoneBefore", "(LOneTrip$Operation;)Z"⟩
abbrev cX6_valueAfter : ByteArray := prog_8_method_5_code
def yX6_valueAfter : MethodName := ⟨RX6, "valueAfter", "(I)I"⟩
abbrev cX6_answerAfter : ByteArray := prog_8_method_6_code
def yX6_answerAfter : MethodName := ⟨RX6, "answerAfter", "(I)I"⟩
abbrev cX6_comesBehind : ByteArray := prog_8_method_7_code
def yX6_comesBehind : MethodName := ⟨RX6, "comesBehind", "(LOneTrip$Operation;)Z"⟩
def RX7 : String := "OneTrip$Row"
def TX7 : u_T := fun k => match k with
  | 0 => ("OneTrip$Row", "letters", "Ljava/util/ArrayList;", true)
  | _ => ("OneTrip$Row", "overflowed", "I", false)
def tyX7 : Nat → FieldType := fun k => match k with
  | 0 => .object "java/util/ArrayList"
  | _ => .int
abbrev wsX70 : List Cond := u_ws RX7 TX7 2
theorem nmX7 : ∀ a, a < 2 → ∀ b, b < 2 → a ≠ b → (TX7 a).2.1 ≠ (TX7 b).2.1 := by decide +kernel
theorem tyX7_ok : ∀ k, k < 2 → parseFieldDescriptor (TX7 k).2.2.1 = some (tyX7 k) := by decide +kernel
abbrev cX7_init : ByteArray := prog_9_method_1_code
def yX7_init : MethodName := ⟨RX7, "<init>", "()V"⟩
abbrev cX7_size : ByteArray := prog_9_method_2_code
def yX7_size : MethodName := ⟨RX7, "size", "()I"⟩
abbrev cX7_at : ByteArray := prog_9_method_3_code
def yX7_at : MethodName := ⟨RX7, "at", "(I)LOneTrip$Letter;"⟩
abbrev cX7_take : ByteArray := prog_9_method_4_code
def yX7_take : MethodName := ⟨RX7, "take", "(I)LOneTrip$Letter;"⟩
abbrev cX7_send : ByteArray := prog_9_method_5_code
def yX7_send : MethodName := ⟨RX7, "send", "(LOneTrip$Letter;)V"⟩
def RX8 : String := "OneTrip$WaitingGet"
def TX8 : u_T := fun k => match k with
  | 0 => ("OneTrip$WaitingGet", "op", "LOneTrip$Operation;", true)
  | 1 => ("OneTrip$WaitingGet", "place", "I", true)
  | 2 => ("OneTrip$WaitingGet", "valueThere", "I", true)
  | 3 => ("OneTrip$WaitingGet", "syncs", "I", true)
  | _ => ("OneTrip$WaitingGet", "confirmed", "I", false)
def tyX8 : Nat → FieldType := fun k => match k with
  | 0 => .object "OneTrip$Operation"
  | 1 => .int
  | 2 => .int
  | 3 => .int
  | _ => .int
abbrev wsX80 : List Cond := u_ws RX8 TX8 5
theorem nmX8 : ∀ a, a < 5 → ∀ b, b < 5 → a ≠ b → (TX8 a).2.1 ≠ (TX8 b).2.1 := by decide +kernel
theorem tyX8_ok : ∀ k, k < 5 → parseFieldDescriptor (TX8 k).2.2.1 = some (tyX8 k) := by decide +kernel
abbrev cX8_init : ByteArray := prog_10_method_1_code
def yX8_init : MethodName := ⟨RX8, "<init>", "(LOneTrip$Operation;III)V"⟩
def RX9 : String := "OneTrip$Witness"
def TX9 : u_T := fun k => match k with
  | 0 => ("OneTrip$Witness", "id", "I", true)
  | 1 => ("OneTrip$Witness", "sets", "I", true)
  | 2 => ("OneTrip$Witness", "ways", "I", true)
  | 3 => ("OneTrip$Witness", "places", "[LOneTrip$Operation;", true)
  | 4 => ("OneTrip$Witness", "epoch", "I", false)
  | _ => ("OneTrip$Witness", "frozen", "Z", false)
def tyX9 : Nat → FieldType := fun k => match k with
  | 0 => .int
  | 1 => .int
  | 2 => .int
  | 3 => .array (.object "OneTrip$Operation")
  | 4 => .int
  | _ => .boolean
abbrev wsX90 : List Cond := u_ws RX9 TX9 6
theorem nmX9 : ∀ a, a < 6 → ∀ b, b < 6 → a ≠ b → (TX9 a).2.1 ≠ (TX9 b).2.1 := by decide +kernel
theorem tyX9_ok : ∀ k, k < 6 → parseFieldDescriptor (TX9 k).2.2.1 = some (tyX9 k) := by decide +kernel
abbrev cX9_init : ByteArray := prog_11_method_1_code
def yX9_init : MethodName := ⟨RX9, "<init>", "(III)V"⟩
abbrev cX9_readRecord : ByteArray := prog_11_method_2_code
def yX9_readRecord : MethodName := ⟨RX9, "readRecord", "(ILOneTrip$Operation;)Z"⟩
abbrev cX9_readReset : ByteArray := prog_11_method_3_code
def yX9_readReset : MethodName := ⟨RX9, "readReset", "(I)V"⟩
abbrev cX9_drop : ByteArray := prog_11_method_4_code
def yX9_drop : MethodName := ⟨RX9, "drop", "(LOneTrip$Master;I)V"⟩
abbrev cX9_recordBehind : ByteArray := prog_11_method_5_code
def yX9_recordBehind : MethodName := ⟨RX9, "recordBehind", "(LOneTrip$Operation;)LOneTrip$Operation;"⟩
abbrev cX9_held : ByteArray := prog_11_method_6_code
def yX9_held : MethodName := ⟨RX9, "held", "()I"⟩
abbrev cX9_keysHeld : ByteArray := prog_11_method_7_code
def yX9_keysHeld : MethodName := ⟨RX9, "keysHeld", "()I"⟩
def RX10 : String := "OneTrip"
def TX10 : u_T := fun k => match k with
  | 0 => ("OneTrip", "sets", "I", true)
  | 1 => ("OneTrip", "ways", "I", true)
  | 2 => ("OneTrip", "batch", "I", true)
  | 3 => ("OneTrip", "row", "LOneTrip$Row;", true)
  | 4 => ("OneTrip", "clients", "[LOneTrip$Client;", true)
  | 5 => ("OneTrip", "backups", "[LOneTrip$Backup;", true)
  | 6 => ("OneTrip", "witnesses", "[LOneTrip$Witness;", true)
  | 7 => ("OneTrip", "masters", "Ljava/util/ArrayList;", true)
  | 8 => ("OneTrip", "operations", "Ljava/util/ArrayList;", true)
  | 9 => ("OneTrip", "finished", "I", false)
  | _ => ("OneTrip", "moment", "I", false)
def tyX10 : Nat → FieldType := fun k => match k with
  | 0 => .int
  | 1 => .int
  | 2 => .int
  | 3 => .object "OneTrip$Row"
  | 4 => .array (.object "OneTrip$Client")
  | 5 => .array (.object "OneTrip$Backup")
  | 6 => .array (.object "OneTrip$Witness")
  | 7 => .object "java/util/ArrayList"
  | 8 => .object "java/util/ArrayList"
  | 9 => .int
  | _ => .int
abbrev wsX100 : List Cond := u_ws RX10 TX10 11
theorem nmX10 : ∀ a, a < 11 → ∀ b, b < 11 → a ≠ b → (TX10 a).2.1 ≠ (TX10 b).2.1 := by decide +kernel
theorem tyX10_ok : ∀ k, k < 11 → parseFieldDescriptor (TX10 k).2.2.1 = some (tyX10 k) := by decide +kernel
abbrev cX10_init : ByteArray := prog_1_method_1_code
def yX10_init : MethodName := ⟨RX10, "<init>", "(IIII)V"⟩
abbrev cX10_ask : ByteArray := prog_1_method_2_code
def yX10_ask : MethodName := ⟨RX10, "ask", "(IIII)I"⟩
abbrev cX10_retry : ByteArray := prog_1_method_3_code
def yX10_retry : MethodName := ⟨RX10, "retry", "(I)Z"⟩
abbrev cX10_learn : ByteArray := prog_1_method_4_code
def yX10_learn : MethodName := ⟨RX10, "learn", "(I)I"⟩
abbrev cX10_deliver : ByteArray := prog_1_method_5_code
def yX10_deliver : MethodName := ⟨RX10, "deliver", "(I)I"⟩
abbrev cX10_lose : ByteArray := prog_1_method_6_code
def yX10_lose : MethodName := ⟨RX10, "lose", "(I)I"⟩
abbrev cX10_twice : ByteArray := prog_1_method_7_code
def yX10_twice : MethodName := ⟨RX10, "twice", "(I)I"⟩
abbrev cX10_sync : ByteArray := prog_1_method_8_code
def yX10_sync : MethodName := ⟨RX10, "sync", "(I)Z"⟩
abbrev cX10_crash : ByteArray := prog_1_method_9_code
def yX10_crash : MethodName := ⟨RX10, "crash", "(I)Z"⟩
abbrev cX10_decide : ByteArray := prog_1_method_10_code
def yX10_decide : MethodName := ⟨RX10, "decide", "(II)I"⟩
abbrev cX10_letter : ByteArray := prog_1_method_11_code
def yX10_letter : MethodName := ⟨RX10, "letter", "(II)I"⟩
abbrev cX10_client : ByteArray := prog_1_method_12_code
def yX10_client : MethodName := ⟨RX10, "client", "(II)I"⟩
abbrev cX10_master : ByteArray := prog_1_method_13_code
def yX10_master : MethodName := ⟨RX10, "master", "(II)I"⟩
abbrev cX10_value : ByteArray := prog_1_method_14_code
def yX10_value : MethodName := ⟨RX10, "value", "(II)I"⟩
abbrev cX10_backup : ByteArray := prog_1_method_15_code
def yX10_backup : MethodName := ⟨RX10, "backup", "(II)I"⟩
abbrev cX10_witness : ByteArray := prog_1_method_16_code
def yX10_witness : MethodName := ⟨RX10, "witness", "(II)I"⟩
abbrev cX10_audit : ByteArray := prog_1_method_17_code
def yX10_audit : MethodName := ⟨RX10, "audit", "()I"⟩
abbrev cX10_count : ByteArray := prog_1_method_18_code
def yX10_count : MethodName := ⟨RX10, "count", "(I)I"⟩
abbrev cX10_nearest : ByteArray := prog_1_method_19_code
def yX10_nearest : MethodName := ⟨RX10, "nearest", "(II)I"⟩
abbrev cX10_asBit : ByteArray := prog_1_method_20_code
def yX10_asBit : MethodName := ⟨RX10, "asBit", "(Z)I"⟩
abbrev cX10_checkIndex : ByteArray := prog_1_method_21_code
def yX10_checkIndex : MethodName := ⟨RX10, "checkIndex", "(II)V"⟩
abbrev cX10_checkWhat : ByteArray := prog_1_method_22_code
def yX10_checkWhat : MethodName := ⟨RX10, "checkWhat", "(II)V"⟩
abbrev cX10_masterOf : ByteArray := prog_1_method_23_code
def yX10_masterOf : MethodName := ⟨RX10, "masterOf", "(I)LOneTrip$Master;"⟩
abbrev cX10_livingMasterOf : ByteArray := prog_1_method_24_code
def yX10_livingMasterOf : MethodName := ⟨RX10, "livingMasterOf", "(I)LOneTrip$Master;"⟩
abbrev cX10_tryAgain : ByteArray := prog_1_method_25_code
def yX10_tryAgain : MethodName := ⟨RX10, "tryAgain", "(LOneTrip$Client;)Z"⟩
abbrev cX10_sendRequest : ByteArray := prog_1_method_26_code
def yX10_sendRequest : MethodName := ⟨RX10, "sendRequest", "(LOneTrip$Client;LOneTrip$Operation;)V"⟩
abbrev cX10_readAtMaster : ByteArray := prog_1_method_27_code
def yX10_readAtMaster : MethodName := ⟨RX10, "readAtMaster", "(LOneTrip$Letter;)V"⟩
abbrev cX10_readAtBackup : ByteArray := prog_1_method_28_code
def yX10_readAtBackup : MethodName := ⟨RX10, "readAtBackup", "(LOneTrip$Letter;)V"⟩
abbrev cX10_readAtWitness : ByteArray := prog_1_method_29_code
def yX10_readAtWitness : MethodName := ⟨RX10, "readAtWitness", "(LOneTrip$Letter;)V"⟩
abbrev cX10_readAtClient : ByteArray := prog_1_method_30_code
def yX10_readAtClient : MethodName := ⟨RX10, "readAtClient", "(LOneTrip$Letter;)V"⟩
abbrev cX10_readAnswer : ByteArray := prog_1_method_31_code
def yX10_readAnswer : MethodName := ⟨RX10, "readAnswer", "(LOneTrip$Client;LOneTrip$Operation;LOneTrip$Letter;)V"⟩
abbrev cX10_finishIfAccepted : ByteArray := prog_1_method_32_code
def yX10_finishIfAccepted : MethodName := ⟨RX10, "finishIfAccepted", "(LOneTrip$Client;LOneTrip$Operation;)V"⟩
abbrev cX10_finish : ByteArray := prog_1_method_33_code
def yX10_finish : MethodName := ⟨RX10, "finish", "(LOneTrip$Client;LOneTrip$Operation;)V"⟩
def RX11 : String := "OneTripModel"
def TX11 : u_T := fun k => match k with
  | 0 => ("OneTripModel", "thrown", "I", false)
  | 1 => ("OneTripModel", "f", "I", true)
  | 2 => ("OneTripModel", "sets", "I", true)
  | 3 => ("OneTripModel", "ways", "I", true)
  | 4 => ("OneTripModel", "batch", "I", true)
  | 5 => ("OneTripModel", "opClient", "[I", true)
  | 6 => ("OneTripModel", "opNumber", "[I", true)
  | 7 => ("OneTripModel", "opWhat", "[I", true)
  | 8 => ("OneTripModel", "opKey", "[I", true)
  | 9 => ("OneTripModel", "opV", "[I", true)
  | 10 => ("OneTripModel", "askedAt", "[I", true)
  | 11 => ("OneTripModel", "doneAt", "[I", true)
  | 12 => ("OneTripModel", "told", "[I", true)
  | 13 => ("OneTripModel", "ops", "I", false)
  | 14 => ("OneTripModel", "moment", "I", false)
  | 15 => ("OneTripModel", "done", "I", false)
  | 16 => ("OneTripModel", "latest", "[I", true)
  | 17 => ("OneTripModel", "knows", "[I", true)
  | 18 => ("OneTripModel", "accepts", "[I", true)
  | 19 => ("OneTripModel", "isAnswered", "[Z", true)
  | 20 => ("OneTripModel", "answer", "[I", true)
  | 21 => ("OneTripModel", "quick", "[I", true)
  | 22 => ("OneTripModel", "logOp", "[I", true)
  | 23 => ("OneTripModel", "logAnswer", "[I", true)
  | 24 => ("OneTripModel", "isLate", "[Z", true)
  | 25 => ("OneTripModel", "isNoted", "[Z", true)
  | 26 => ("OneTripModel", "logMany", "[I", true)
  | 27 => ("OneTripModel", "begin", "[I", true)
  | 28 => ("OneTripModel", "synced", "[I", true)
  | 29 => ("OneTripModel", "syncs", "[I", true)
  | 30 => ("OneTripModel", "lives", "[Z", true)
  | 31 => ("OneTripModel", "settled", "[Z", true)
  | 32 => ("OneTripModel", "known", "[I", true)
  | 33 => ("OneTripModel", "waitOp", "[I", true)
  | 34 => ("OneTripModel", "waitPlace", "[I", true)
  | 35 => ("OneTripModel", "waitCount", "[I", true)
  | 36 => ("OneTripModel", "waitBits", "[I", true)
  | 37 => ("OneTripModel", "waits", "[I", true)
  | 38 => ("OneTripModel", "epochs", "I", false)
  | 39 => ("OneTripModel", "backupEpoch", "[I", true)
  | 40 => ("OneTripModel", "backupMany", "[I", true)
  | 41 => ("OneTripModel", "witnessEpoch", "[I", true)
  | 42 => ("OneTripModel", "isFrozen", "[Z", true)
  | 43 => ("OneTripModel", "records", "[I", true)
  | 44 => ("OneTripModel", "recordMany", "[I", true)
  | 45 => ("OneTripModel", "sort", "[I", true)
  | 46 => ("OneTripModel", "ofEpoch", "[I", true)
  | 47 => ("OneTripModel", "who", "[I", true)
  | 48 => ("OneTripModel", "ofOp", "[I", true)
  | 49 => ("OneTripModel", "number", "[I", true)
  | 50 => ("OneTripModel", "count", "[I", true)
  | 51 => ("OneTripModel", "value", "[I", true)
  | 52 => ("OneTripModel", "safe", "[Z", true)
  | 53 => ("OneTripModel", "letters", "I", false)
  | _ => ("OneTripModel", "full", "I", false)
def tyX11 : Nat → FieldType := fun k => match k with
  | 0 => .int
  | 1 => .int
  | 2 => .int
  | 3 => .int
  | 4 => .int
  | 5 => .array .int
  | 6 => .array .int
  | 7 => .array .int
  | 8 => .array .int
  | 9 => .array .int
  | 10 => .array .int
  | 11 => .array .int
  | 12 => .array .int
  | 13 => .int
  | 14 => .int
  | 15 => .int
  | 16 => .array .int
  | 17 => .array .int
  | 18 => .array .int
  | 19 => .array .boolean
  | 20 => .array .int
  | 21 => .array .int
  | 22 => .array .int
  | 23 => .array .int
  | 24 => .array .boolean
  | 25 => .array .boolean
  | 26 => .array .int
  | 27 => .array .int
  | 28 => .array .int
  | 29 => .array .int
  | 30 => .array .boolean
  | 31 => .array .boolean
  | 32 => .array .int
  | 33 => .array .int
  | 34 => .array .int
  | 35 => .array .int
  | 36 => .array .int
  | 37 => .array .int
  | 38 => .int
  | 39 => .array .int
  | 40 => .array .int
  | 41 => .array .int
  | 42 => .array .boolean
  | 43 => .array .int
  | 44 => .array .int
  | 45 => .array .int
  | 46 => .array .int
  | 47 => .array .int
  | 48 => .array .int
  | 49 => .array .int
  | 50 => .array .int
  | 51 => .array .int
  | 52 => .array .boolean
  | 53 => .int
  | _ => .int
abbrev wsX110 : List Cond := u_ws RX11 TX11 55
theorem nmX11 : ∀ a, a < 55 → ∀ b, b < 55 → a ≠ b → (TX11 a).2.1 ≠ (TX11 b).2.1 := by decide +kernel
theorem tyX11_ok : ∀ k, k < 55 → parseFieldDescriptor (TX11 k).2.2.1 = some (tyX11 k) := by decide +kernel
abbrev cX11_thrown : ByteArray := prog_13_method_1_code
def yX11_thrown : MethodName := ⟨RX11, "thrown", "()I"⟩
abbrev cX11_throwsIf : ByteArray := prog_13_method_2_code
def yX11_throwsIf : MethodName := ⟨RX11, "throwsIf", "(ZI)Z"⟩
abbrev cX11_near : ByteArray := prog_13_method_3_code
def yX11_near : MethodName := ⟨RX11, "near", "(III)I"⟩
abbrev cX11_init : ByteArray := prog_13_method_4_code
def yX11_init : MethodName := ⟨RX11, "<init>", "(IIII)V"⟩
abbrev cX11_rises : ByteArray := prog_13_method_5_code
def yX11_rises : MethodName := ⟨RX11, "rises", "(I)V"⟩
abbrev cX11_send : ByteArray := prog_13_method_6_code
def yX11_send : MethodName := ⟨RX11, "send", "(IIIIIIIZ)V"⟩
abbrev cX11_sendOp : ByteArray := prog_13_method_7_code
def yX11_sendOp : MethodName := ⟨RX11, "sendOp", "(IIII)V"⟩
abbrev cX11_answers : ByteArray := prog_13_method_8_code
def yX11_answers : MethodName := ⟨RX11, "answers", "(IIIZ)V"⟩
abbrev cX11_syncs : ByteArray := prog_13_method_9_code
def yX11_syncs : MethodName := ⟨RX11, "syncs", "(I)V"⟩
abbrev cX11_resets : ByteArray := prog_13_method_10_code
def yX11_resets : MethodName := ⟨RX11, "resets", "(I)V"⟩
abbrev cX11_isUpdate : ByteArray := prog_13_method_11_code
def yX11_isUpdate : MethodName := ⟨RX11, "isUpdate", "(I)Z"⟩
abbrev cX11_place : ByteArray := prog_13_method_12_code
def yX11_place : MethodName := ⟨RX11, "place", "(II)I"⟩
abbrev cX11_valueAt : ByteArray := prog_13_method_13_code
def yX11_valueAt : MethodName := ⟨RX11, "valueAt", "(III)I"⟩
abbrev cX11_appends : ByteArray := prog_13_method_14_code
def yX11_appends : MethodName := ⟨RX11, "appends", "(IIZ)V"⟩
abbrev cX11_isKeyBehind : ByteArray := prog_13_method_15_code
def yX11_isKeyBehind : MethodName := ⟨RX11, "isKeyBehind", "(II)Z"⟩
abbrev cX11_hasGreater : ByteArray := prog_13_method_16_code
def yX11_hasGreater : MethodName := ⟨RX11, "hasGreater", "(II)Z"⟩
abbrev cX11_reads : ByteArray := prog_13_method_17_code
def yX11_reads : MethodName := ⟨RX11, "reads", "(II)V"⟩
abbrev cX11_waitsFor : ByteArray := prog_13_method_18_code
def yX11_waitsFor : MethodName := ⟨RX11, "waitsFor", "(II)V"⟩
abbrev cX11_readsSyncNow : ByteArray := prog_13_method_19_code
def yX11_readsSyncNow : MethodName := ⟨RX11, "readsSyncNow", "(II)V"⟩
abbrev cX11_leastKnown : ByteArray := prog_13_method_20_code
def yX11_leastKnown : MethodName := ⟨RX11, "leastKnown", "(I)I"⟩
abbrev cX11_readsAck : ByteArray := prog_13_method_21_code
def yX11_readsAck : MethodName := ⟨RX11, "readsAck", "(IIII)V"⟩
abbrev cX11_answersGets : ByteArray := prog_13_method_22_code
def yX11_answersGets : MethodName := ⟨RX11, "answersGets", "(I)V"⟩
abbrev cX11_readsSync : ByteArray := prog_13_method_23_code
def yX11_readsSync : MethodName := ⟨RX11, "readsSync", "(IIII)V"⟩
abbrev cX11_holds : ByteArray := prog_13_method_24_code
def yX11_holds : MethodName := ⟨RX11, "holds", "(II)Z"⟩
abbrev cX11_hasRoom : ByteArray := prog_13_method_25_code
def yX11_hasRoom : MethodName := ⟨RX11, "hasRoom", "(II)Z"⟩
abbrev cX11_readsRecord : ByteArray := prog_13_method_26_code
def yX11_readsRecord : MethodName := ⟨RX11, "readsRecord", "(III)V"⟩
abbrev cX11_readsGc : ByteArray := prog_13_method_27_code
def yX11_readsGc : MethodName := ⟨RX11, "readsGc", "(III)V"⟩
abbrev cX11_readsReset : ByteArray := prog_13_method_28_code
def yX11_readsReset : MethodName := ⟨RX11, "readsReset", "(II)V"⟩
abbrev cX11_begins : ByteArray := prog_13_method_29_code
def yX11_begins : MethodName := ⟨RX11, "begins", "(I)V"⟩
abbrev cX11_isOpen : ByteArray := prog_13_method_30_code
def yX11_isOpen : MethodName := ⟨RX11, "isOpen", "(I)Z"⟩
abbrev cX11_ends : ByteArray := prog_13_method_31_code
def yX11_ends : MethodName := ⟨RX11, "ends", "(II)V"⟩
abbrev cX11_readsClient : ByteArray := prog_13_method_32_code
def yX11_readsClient : MethodName := ⟨RX11, "readsClient", "(IIIIIZ)V"⟩
abbrev cX11_noClient : ByteArray := prog_13_method_33_code
def yX11_noClient : MethodName := ⟨RX11, "noClient", "(I)Z"⟩
abbrev cX11_noLetter : ByteArray := prog_13_method_34_code
def yX11_noLetter : MethodName := ⟨RX11, "noLetter", "(I)Z"⟩
abbrev cX11_noEpoch : ByteArray := prog_13_method_35_code
def yX11_noEpoch : MethodName := ⟨RX11, "noEpoch", "(I)Z"⟩
abbrev cX11_ask : ByteArray := prog_13_method_36_code
def yX11_ask : MethodName := ⟨RX11, "ask", "(IIII)I"⟩
abbrev cX11_retry : ByteArray := prog_13_method_37_code
def yX11_retry : MethodName := ⟨RX11, "retry", "(I)Z"⟩
abbrev cX11_learn : ByteArray := prog_13_method_38_code
def yX11_learn : MethodName := ⟨RX11, "learn", "(I)I"⟩
abbrev cX11_takes : ByteArray := prog_13_method_39_code
def yX11_takes : MethodName := ⟨RX11, "takes", "(I)V"⟩
abbrev cX11_deliver : ByteArray := prog_13_method_40_code
def yX11_deliver : MethodName := ⟨RX11, "deliver", "(I)I"⟩
abbrev cX11_lose : ByteArray := prog_13_method_41_code
def yX11_lose : MethodName := ⟨RX11, "lose", "(I)I"⟩
abbrev cX11_twice : ByteArray := prog_13_method_42_code
def yX11_twice : MethodName := ⟨RX11, "twice", "(I)I"⟩
abbrev cX11_sync : ByteArray := prog_13_method_43_code
def yX11_sync : MethodName := ⟨RX11, "sync", "(I)Z"⟩
abbrev cX11_crash : ByteArray := prog_13_method_44_code
def yX11_crash : MethodName := ⟨RX11, "crash", "(I)Z"⟩
abbrev cX11_decide : ByteArray := prog_13_method_45_code
def yX11_decide : MethodName := ⟨RX11, "decide", "(II)I"⟩
abbrev cX11_replays : ByteArray := prog_13_method_46_code
def yX11_replays : MethodName := ⟨RX11, "replays", "(II)V"⟩
abbrev cX11_areInOrder : ByteArray := prog_13_method_47_code
def yX11_areInOrder : MethodName := ⟨RX11, "areInOrder", "(I)Z"⟩
abbrev cX11_isSeen : ByteArray := prog_13_method_48_code
def yX11_isSeen : MethodName := ⟨RX11, "isSeen", "(II)Z"⟩
abbrev cX11_isOnce : ByteArray := prog_13_method_49_code
def yX11_isOnce : MethodName := ⟨RX11, "isOnce", "(I)Z"⟩
abbrev cX11_audit : ByteArray := prog_13_method_50_code
def yX11_audit : MethodName := ⟨RX11, "audit", "()I"⟩
abbrev cX11_one : ByteArray := prog_13_method_51_code
def yX11_one : MethodName := ⟨RX11, "one", "(Z)I"⟩
abbrev cX11_letter : ByteArray := prog_13_method_52_code
def yX11_letter : MethodName := ⟨RX11, "letter", "(II)I"⟩
abbrev cX11_client : ByteArray := prog_13_method_53_code
def yX11_client : MethodName := ⟨RX11, "client", "(II)I"⟩
abbrev cX11_master : ByteArray := prog_13_method_54_code
def yX11_master : MethodName := ⟨RX11, "master", "(II)I"⟩
abbrev cX11_value : ByteArray := prog_13_method_55_code
def yX11_value : MethodName := ⟨RX11, "value", "(II)I"⟩
abbrev cX11_backup : ByteArray := prog_13_method_56_code
def yX11_backup : MethodName := ⟨RX11, "backup", "(II)I"⟩
abbrev cX11_witness : ByteArray := prog_13_method_57_code
def yX11_witness : MethodName := ⟨RX11, "witness", "(II)I"⟩
abbrev cX11_count : ByteArray := prog_13_method_58_code
def yX11_count : MethodName := ⟨RX11, "count", "(I)I"⟩
def RJx145de : String := "java/io/Serializable"
def TJx145de : u_T := fun k => match k with
  | _ => ("", "", "", false)
def tyJx145de : Nat → FieldType := fun k => match k with
  | _ => .int
abbrev wsJx145de0 : List Cond := u_ws RJx145de TJx145de 0
theorem nmJx145de : ∀ a, a < 0 → ∀ b, b < 0 → a ≠ b → (TJx145de a).2.1 ≠ (TJx145de b).2.1 := by decide +kernel
theorem tyJx145de_ok : ∀ k, k < 0 → parseFieldDescriptor (TJx145de k).2.2.1 = some (tyJx145de k) := by decide +kernel
def RJx8e188 : String := "java/lang/Cloneable"
def TJx8e188 : u_T := fun k => match k with
  | _ => ("", "", "", false)
def tyJx8e188 : Nat → FieldType := fun k => match k with
  | _ => .int
abbrev wsJx8e1880 : List Cond := u_ws RJx8e188 TJx8e188 0
theorem nmJx8e188 : ∀ a, a < 0 → ∀ b, b < 0 → a ≠ b → (TJx8e188 a).2.1 ≠ (TJx8e188 b).2.1 := by decide +kernel
theorem tyJx8e188_ok : ∀ k, k < 0 → parseFieldDescriptor (TJx8e188 k).2.2.1 = some (tyJx8e188 k) := by decide +kernel
def RJ6 : String := "java/lang/Integer"
def TJ6 : u_T := fun k => match k with
  | _ => ("", "", "", false)
def tyJ6 : Nat → FieldType := fun k => match k with
  | _ => .int
abbrev wsJ60 : List Cond := u_ws RJ6 TJ6 0
theorem nmJ6 : ∀ a, a < 0 → ∀ b, b < 0 → a ≠ b → (TJ6 a).2.1 ≠ (TJ6 b).2.1 := by decide +kernel
theorem tyJ6_ok : ∀ k, k < 0 → parseFieldDescriptor (TJ6 k).2.2.1 = some (tyJ6 k) := by decide +kernel
abbrev cJ6_bitCount_0f7a4 : ByteArray := prog_19_method_49_code
def yJ6_bitCount_0f7a4 : MethodName := ⟨RJ6, "bitCount", "(I)I"⟩
def RJxab1ab : String := "java/lang/Iterable"
def TJxab1ab : u_T := fun k => match k with
  | _ => ("", "", "", false)
def tyJxab1ab : Nat → FieldType := fun k => match k with
  | _ => .int
abbrev wsJxab1ab0 : List Cond := u_ws RJxab1ab TJxab1ab 0
theorem nmJxab1ab : ∀ a, a < 0 → ∀ b, b < 0 → a ≠ b → (TJxab1ab a).2.1 ≠ (TJxab1ab b).2.1 := by decide +kernel
theorem tyJxab1ab_ok : ∀ k, k < 0 → parseFieldDescriptor (TJxab1ab k).2.2.1 = some (tyJxab1ab k) := by decide +kernel
def RJ9 : String := "java/lang/Math"
def TJ9 : u_T := fun k => match k with
  | _ => ("", "", "", false)
def tyJ9 : Nat → FieldType := fun k => match k with
  | _ => .int
abbrev wsJ90 : List Cond := u_ws RJ9 TJ9 0
theorem nmJ9 : ∀ a, a < 0 → ∀ b, b < 0 → a ≠ b → (TJ9 a).2.1 ≠ (TJ9 b).2.1 := by decide +kernel
theorem tyJ9_ok : ∀ k, k < 0 → parseFieldDescriptor (TJ9 k).2.2.1 = some (tyJ9 k) := by decide +kernel
abbrev cJ9_max_7cf53 : ByteArray := prog_21_method_65_code
def yJ9_max_7cf53 : MethodName := ⟨RJ9, "max", "(II)I"⟩
abbrev cJ9_min_7cf53 : ByteArray := prog_21_method_69_code
def yJ9_min_7cf53 : MethodName := ⟨RJ9, "min", "(II)I"⟩
def RJ10 : String := "java/lang/System"
def TJ10 : u_T := fun k => match k with
  | _ => ("", "", "", false)
def tyJ10 : Nat → FieldType := fun k => match k with
  | _ => .int
abbrev wsJ100 : List Cond := u_ws RJ10 TJ10 0
theorem nmJ10 : ∀ a, a < 0 → ∀ b, b < 0 → a ≠ b → (TJ10 a).2.1 ≠ (TJ10 b).2.1 := by decide +kernel
theorem tyJ10_ok : ∀ k, k < 0 → parseFieldDescriptor (TJ10 k).2.2.1 = some (tyJ10 k) := by decide +kernel
def RJxa1e45 : String := "java/util/AbstractCollection"
def TJxa1e45 : u_T := fun k => match k with
  | _ => ("", "", "", false)
def tyJxa1e45 : Nat → FieldType := fun k => match k with
  | _ => .int
abbrev wsJxa1e450 : List Cond := u_ws RJxa1e45 TJxa1e45 0
theorem nmJxa1e45 : ∀ a, a < 0 → ∀ b, b < 0 → a ≠ b → (TJxa1e45 a).2.1 ≠ (TJxa1e45 b).2.1 := by decide +kernel
theorem tyJxa1e45_ok : ∀ k, k < 0 → parseFieldDescriptor (TJxa1e45 k).2.2.1 = some (tyJxa1e45 k) := by decide +kernel
abbrev cJxa1e45_init_da8c8 : ByteArray := prog_26_method_1_code
def yJxa1e45_init_da8c8 : MethodName := ⟨RJxa1e45, "<init>", "()V"⟩
def RJxc12de : String := "java/util/AbstractList"
def TJxc12de : u_T := fun k => match k with
  | _ => ("", "", "", false)
def tyJxc12de : Nat → FieldType := fun k => match k with
  | _ => .int
abbrev wsJxc12de0 : List Cond := u_ws RJxc12de TJxc12de 0
theorem nmJxc12de : ∀ a, a < 0 → ∀ b, b < 0 → a ≠ b → (TJxc12de a).2.1 ≠ (TJxc12de b).2.1 := by decide +kernel
theorem tyJxc12de_ok : ∀ k, k < 0 → parseFieldDescriptor (TJxc12de k).2.2.1 = some (tyJxc12de k) := by decide +kernel
abbrev cJxc12de_init_da8c8 : ByteArray := prog_27_method_1_code
def yJxc12de_init_da8c8 : MethodName := ⟨RJxc12de, "<init>", "()V"⟩
def RJx4a65c : String := "java/util/ArrayList"
def TJx4a65c : u_T := fun k => match k with
  | 0 => ("java/util/AbstractList", "modCount", "I", false)
  | 1 => ("java/util/ArrayList", "elementData", "[Ljava/lang/Object;", false)
  | _ => ("java/util/ArrayList", "size", "I", false)
def tyJx4a65c : Nat → FieldType := fun k => match k with
  | 0 => .int
  | 1 => .array (.object "java/lang/Object")
  | _ => .int
abbrev wsJx4a65c0 : List Cond := u_ws RJx4a65c TJx4a65c 3
theorem nmJx4a65c : ∀ a, a < 3 → ∀ b, b < 3 → a ≠ b → (TJx4a65c a).2.1 ≠ (TJx4a65c b).2.1 := by decide +kernel
theorem tyJx4a65c_ok : ∀ k, k < 3 → parseFieldDescriptor (TJx4a65c k).2.2.1 = some (tyJx4a65c k) := by decide +kernel
abbrev cJx4a65c_init_da8c8 : ByteArray := prog_28_method_2_code
def yJx4a65c_init_da8c8 : MethodName := ⟨RJx4a65c, "<init>", "()V"⟩
abbrev cJx4a65c_grow_92f84 : ByteArray := prog_28_method_6_code
def yJx4a65c_grow_92f84 : MethodName := ⟨RJx4a65c, "grow", "(I)[Ljava/lang/Object;"⟩
abbrev cJx4a65c_grow_d5877 : ByteArray := prog_28_method_7_code
def yJx4a65c_grow_d5877 : MethodName := ⟨RJx4a65c, "grow", "()[Ljava/lang/Object;"⟩
abbrev cJx4a65c_size_8abf5 : ByteArray := prog_28_method_8_code
def yJx4a65c_size_8abf5 : MethodName := ⟨RJx4a65c, "size", "()I"⟩
abbrev cJx4a65c_elementData_915e3 : ByteArray := prog_28_method_18_code
def yJx4a65c_elementData_915e3 : MethodName := ⟨RJx4a65c, "elementData", "(I)Ljava/lang/Object;"⟩
abbrev cJx4a65c_get_915e3 : ByteArray := prog_28_method_20_code
def yJx4a65c_get_915e3 : MethodName := ⟨RJx4a65c, "get", "(I)Ljava/lang/Object;"⟩
abbrev cJx4a65c_add_72be8 : ByteArray := prog_28_method_24_code
def yJx4a65c_add_72be8 : MethodName := ⟨RJx4a65c, "add", "(Ljava/lang/Object;[Ljava/lang/Object;I)V"⟩
abbrev cJx4a65c_add_9ea2d : ByteArray := prog_28_method_25_code
def yJx4a65c_add_9ea2d : MethodName := ⟨RJx4a65c, "add", "(Ljava/lang/Object;)Z"⟩
abbrev cJx4a65c_remove_915e3 : ByteArray := prog_28_method_29_code
def yJx4a65c_remove_915e3 : MethodName := ⟨RJx4a65c, "remove", "(I)Ljava/lang/Object;"⟩
abbrev cJx4a65c_fastRemove_b59b0 : ByteArray := prog_28_method_39_code
def yJx4a65c_fastRemove_b59b0 : MethodName := ⟨RJx4a65c, "fastRemove", "([Ljava/lang/Object;I)V"⟩
abbrev cJx4a65c_clear_da8c8 : ByteArray := prog_28_method_40_code
def yJx4a65c_clear_da8c8 : MethodName := ⟨RJx4a65c, "clear", "()V"⟩
def RJ7 : String := "java/util/Arrays"
def TJ7 : u_T := fun k => match k with
  | _ => ("", "", "", false)
def tyJ7 : Nat → FieldType := fun k => match k with
  | _ => .int
abbrev wsJ70 : List Cond := u_ws RJ7 TJ7 0
theorem nmJ7 : ∀ a, a < 0 → ∀ b, b < 0 → a ≠ b → (TJ7 a).2.1 ≠ (TJ7 b).2.1 := by decide +kernel
theorem tyJ7_ok : ∀ k, k < 0 → parseFieldDescriptor (TJ7 k).2.2.1 = some (tyJ7 k) := by decide +kernel
abbrev cJ7_fill_53178 : ByteArray := prog_29_method_103_code
def yJ7_fill_53178 : MethodName := ⟨RJ7, "fill", "([II)V"⟩
abbrev cJ7_copyOf_1904c : ByteArray := prog_29_method_119_code
def yJ7_copyOf_1904c : MethodName := ⟨RJ7, "copyOf", "([Ljava/lang/Object;I)[Ljava/lang/Object;"⟩
abbrev cJ7_copyOf_6403c : ByteArray := prog_29_method_120_code
def yJ7_copyOf_6403c : MethodName := ⟨RJ7, "copyOf", "([Ljava/lang/Object;ILjava/lang/Class;)[Ljava/lang/Object;"⟩
def RJx5ef63 : String := "java/util/Collection"
def TJx5ef63 : u_T := fun k => match k with
  | _ => ("", "", "", false)
def tyJx5ef63 : Nat → FieldType := fun k => match k with
  | _ => .int
abbrev wsJx5ef630 : List Cond := u_ws RJx5ef63 TJx5ef63 0
theorem nmJx5ef63 : ∀ a, a < 0 → ∀ b, b < 0 → a ≠ b → (TJx5ef63 a).2.1 ≠ (TJx5ef63 b).2.1 := by decide +kernel
theorem tyJx5ef63_ok : ∀ k, k < 0 → parseFieldDescriptor (TJx5ef63 k).2.2.1 = some (tyJx5ef63 k) := by decide +kernel
def RJxbd725 : String := "java/util/List"
def TJxbd725 : u_T := fun k => match k with
  | _ => ("", "", "", false)
def tyJxbd725 : Nat → FieldType := fun k => match k with
  | _ => .int
abbrev wsJxbd7250 : List Cond := u_ws RJxbd725 TJxbd725 0
theorem nmJxbd725 : ∀ a, a < 0 → ∀ b, b < 0 → a ≠ b → (TJxbd725 a).2.1 ≠ (TJxbd725 b).2.1 := by decide +kernel
theorem tyJxbd725_ok : ∀ k, k < 0 → parseFieldDescriptor (TJxbd725 k).2.2.1 = some (tyJxbd725 k) := by decide +kernel
def RJ15 : String := "java/util/Objects"
def TJ15 : u_T := fun k => match k with
  | _ => ("", "", "", false)
def tyJ15 : Nat → FieldType := fun k => match k with
  | _ => .int
abbrev wsJ150 : List Cond := u_ws RJ15 TJ15 0
theorem nmJ15 : ∀ a, a < 0 → ∀ b, b < 0 → a ≠ b → (TJ15 a).2.1 ≠ (TJ15 b).2.1 := by decide +kernel
theorem tyJ15_ok : ∀ k, k < 0 → parseFieldDescriptor (TJ15 k).2.2.1 = some (tyJ15 k) := by decide +kernel
abbrev cJ15_checkIndex_7cf53 : ByteArray := prog_32_method_17_code
def yJ15_checkIndex_7cf53 : MethodName := ⟨RJ15, "checkIndex", "(II)I"⟩
def RJxf0a74 : String := "java/util/RandomAccess"
def TJxf0a74 : u_T := fun k => match k with
  | _ => ("", "", "", false)
def tyJxf0a74 : Nat → FieldType := fun k => match k with
  | _ => .int
abbrev wsJxf0a740 : List Cond := u_ws RJxf0a74 TJxf0a74 0
theorem nmJxf0a74 : ∀ a, a < 0 → ∀ b, b < 0 → a ≠ b → (TJxf0a74 a).2.1 ≠ (TJxf0a74 b).2.1 := by decide +kernel
theorem tyJxf0a74_ok : ∀ k, k < 0 → parseFieldDescriptor (TJxf0a74 k).2.2.1 = some (tyJxf0a74 k) := by decide +kernel
def RJxa66e6 : String := "java/util/SequencedCollection"
def TJxa66e6 : u_T := fun k => match k with
  | _ => ("", "", "", false)
def tyJxa66e6 : Nat → FieldType := fun k => match k with
  | _ => .int
abbrev wsJxa66e60 : List Cond := u_ws RJxa66e6 TJxa66e6 0
theorem nmJxa66e6 : ∀ a, a < 0 → ∀ b, b < 0 → a ≠ b → (TJxa66e6 a).2.1 ≠ (TJxa66e6 b).2.1 := by decide +kernel
theorem tyJxa66e6_ok : ∀ k, k < 0 → parseFieldDescriptor (TJxa66e6 k).2.2.1 = some (tyJxa66e6 k) := by decide +kernel
def RJ8 : String := "jdk/internal/util/ArraysSupport"
def TJ8 : u_T := fun k => match k with
  | _ => ("", "", "", false)
def tyJ8 : Nat → FieldType := fun k => match k with
  | _ => .int
abbrev wsJ80 : List Cond := u_ws RJ8 TJ8 0
theorem nmJ8 : ∀ a, a < 0 → ∀ b, b < 0 → a ≠ b → (TJ8 a).2.1 ≠ (TJ8 b).2.1 := by decide +kernel
theorem tyJ8_ok : ∀ k, k < 0 → parseFieldDescriptor (TJ8 k).2.2.1 = some (tyJ8 k) := by decide +kernel
abbrev cJ8_newLength_cabcc : ByteArray := prog_35_method_27_code
def yJ8_newLength_cabcc : MethodName := ⟨RJ8, "newLength", "(III)I"⟩
abbrev cJ8_hugeLength_7cf53 : ByteArray := prog_35_method_28_code
def yJ8_hugeLength_7cf53 : MethodName := ⟨RJ8, "hugeLength", "(II)I"⟩
def RJ3 : String := "jdk/internal/util/Preconditions"
def TJ3 : u_T := fun k => match k with
  | _ => ("", "", "", false)
def tyJ3 : Nat → FieldType := fun k => match k with
  | _ => .int
abbrev wsJ30 : List Cond := u_ws RJ3 TJ3 0
theorem nmJ3 : ∀ a, a < 0 → ∀ b, b < 0 → a ≠ b → (TJ3 a).2.1 ≠ (TJ3 b).2.1 := by decide +kernel
theorem tyJ3_ok : ∀ k, k < 0 → parseFieldDescriptor (TJ3 k).2.2.1 = some (tyJ3 k) := by decide +kernel
abbrev cJ3_checkIndex_8e157 : ByteArray := prog_36_method_11_code
def yJ3_checkIndex_8e157 : MethodName := ⟨RJ3, "checkIndex", "(IILjava/util/function/BiFunction;)I"⟩
def RL : String := "OneTripLaw"
abbrev cL_cell : ByteArray := method_2_code
def yL_cell : MethodName := ⟨RL, "cell", "([II)I"⟩
abbrev cL_ask : ByteArray := method_3_code
def yL_ask : MethodName := ⟨RL, "ask", "(LOneTrip;IIII[J)I"⟩
abbrev cL_retry : ByteArray := method_4_code
def yL_retry : MethodName := ⟨RL, "retry", "(LOneTrip;I[J)I"⟩
abbrev cL_learn : ByteArray := method_5_code
def yL_learn : MethodName := ⟨RL, "learn", "(LOneTrip;I[J)I"⟩
abbrev cL_deliver : ByteArray := method_6_code
def yL_deliver : MethodName := ⟨RL, "deliver", "(LOneTrip;I[J)I"⟩
abbrev cL_lose : ByteArray := method_7_code
def yL_lose : MethodName := ⟨RL, "lose", "(LOneTrip;I[J)I"⟩
abbrev cL_twice : ByteArray := method_8_code
def yL_twice : MethodName := ⟨RL, "twice", "(LOneTrip;I[J)I"⟩
abbrev cL_sync : ByteArray := method_9_code
def yL_sync : MethodName := ⟨RL, "sync", "(LOneTrip;I[J)I"⟩
abbrev cL_crash : ByteArray := method_10_code
def yL_crash : MethodName := ⟨RL, "crash", "(LOneTrip;I[J)I"⟩
abbrev cL_decide : ByteArray := method_11_code
def yL_decide : MethodName := ⟨RL, "decide", "(LOneTrip;II[J)I"⟩
abbrev cL_letter : ByteArray := method_12_code
def yL_letter : MethodName := ⟨RL, "letter", "(LOneTrip;II[J)I"⟩
abbrev cL_client : ByteArray := method_13_code
def yL_client : MethodName := ⟨RL, "client", "(LOneTrip;II[J)I"⟩
abbrev cL_master : ByteArray := method_14_code
def yL_master : MethodName := ⟨RL, "master", "(LOneTrip;II[J)I"⟩
abbrev cL_value : ByteArray := method_15_code
def yL_value : MethodName := ⟨RL, "value", "(LOneTrip;II[J)I"⟩
abbrev cL_backup : ByteArray := method_16_code
def yL_backup : MethodName := ⟨RL, "backup", "(LOneTrip;II[J)I"⟩
abbrev cL_witness : ByteArray := method_17_code
def yL_witness : MethodName := ⟨RL, "witness", "(LOneTrip;II[J)I"⟩
abbrev cL_law : ByteArray := code
def yL_law : MethodName := ⟨RL, "law", "([I)Z"⟩
abbrev vwCl : List vw_C := [(RJx4a65c, TJx4a65c, 3), (RX1, TX1, 3), (RX2, TX2, 6), (RX3, TX3, 4), (RX4, TX4, 7), (RX5, TX5, 12), (RX6, TX6, 8), (RX7, TX7, 2), (RX8, TX8, 5), (RX9, TX9, 6), (RX10, TX10, 11), (RX11, TX11, 55)]
