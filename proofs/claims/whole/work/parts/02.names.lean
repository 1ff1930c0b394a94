def RX0 : String := "EvenGranary$Convoys"
def TX0 : u_T := fun k => match k with
  | 0 => ("EvenGranary$Convoys", "targets", "[I", true)
  | 1 => ("EvenGranary$Convoys", "arrivals", "[I", true)
  | 2 => ("EvenGranary$Convoys", "loads", "[I", true)
  | _ => ("EvenGranary$Convoys", "size", "I", false)
def tyX0 : Nat → FieldType := fun k => match k with
  | 0 => .array .int
  | 1 => .array .int
  | 2 => .array .int
  | _ => .int
abbrev wsX00 : List Cond := u_ws RX0 TX0 4
theorem nmX0 : ∀ a, a < 4 → ∀ b, b < 4 → a ≠ b → (TX0 a).2.1 ≠ (TX0 b).2.1 := by decide +kernel
theorem tyX0_ok : ∀ k, k < 4 → parseFieldDescriptor (TX0 k).2.2.1 = some (tyX0 k) := by decide +kernel
abbrev cX0_init : ByteArray := prog_2_method_1_code
def yX0_init : MethodName := ⟨RX0, "<init>", "()V"⟩
abbrev cX0_size : ByteArray := prog_2_method_2_code
def yX0_size : MethodName := ⟨RX0, "size", "()I"⟩
abbrev cX0_isFull : ByteArray := prog_2_method_3_code
def yX0_isFull : MethodName := ⟨RX0, "isFull", "()Z"⟩
abbrev cX0_add : ByteArray := prog_2_method_4_code
def yX0_add : MethodName := ⟨RX0, "add", "(III)V"⟩
abbrev cX0_arrives : ByteArray := prog_2_method_5_code
def yX0_arrives : MethodName := ⟨RX0, "arrives", "(II)Z"⟩
abbrev cX0_targetOf : ByteArray := prog_2_method_6_code
def yX0_targetOf : MethodName := ⟨RX0, "targetOf", "(I)I"⟩
abbrev cX0_loadOf : ByteArray := prog_2_method_7_code
def yX0_loadOf : MethodName := ⟨RX0, "loadOf", "(I)I"⟩
abbrev cX0_removeArrived : ByteArray := prog_2_method_8_code
def yX0_removeArrived : MethodName := ⟨RX0, "removeArrived", "(I)V"⟩
abbrev cX0_loadInAll : ByteArray := prog_2_method_9_code
def yX0_loadInAll : MethodName := ⟨RX0, "loadInAll", "()J"⟩
abbrev cX0_imitate : ByteArray := prog_2_method_10_code
def yX0_imitate : MethodName := ⟨RX0, "imitate", "(LEvenGranary$Convoys;)V"⟩
abbrev cX0_isThere : ByteArray := prog_2_method_11_code
def yX0_isThere : MethodName := ⟨RX0, "isThere", "(I)Z"⟩
def RX1 : String := "EvenGranary$Edict"
def TX1 : u_T := fun k => match k with
  | 0 => ("EvenGranary$Edict", "numbers", "[I", true)
  | _ => ("EvenGranary$Edict", "draft", "[I", true)
def tyX1 : Nat → FieldType := fun k => match k with
  | 0 => .array .int
  | _ => .array .int
abbrev wsX10 : List Cond := u_ws RX1 TX1 2
theorem nmX1 : ∀ a, a < 2 → ∀ b, b < 2 → a ≠ b → (TX1 a).2.1 ≠ (TX1 b).2.1 := by decide +kernel
theorem tyX1_ok : ∀ k, k < 2 → parseFieldDescriptor (TX1 k).2.2.1 = some (tyX1 k) := by decide +kernel
abbrev cX1_init : ByteArray := prog_3_method_1_code
def yX1_init : MethodName := ⟨RX1, "<init>", "()V"⟩
abbrev cX1_letterIndex : ByteArray := prog_3_method_2_code
def yX1_letterIndex : MethodName := ⟨RX1, "letterIndex", "(I)I"⟩
abbrev cX1_number : ByteArray := prog_3_method_3_code
def yX1_number : MethodName := ⟨RX1, "number", "(I)I"⟩
abbrev cX1_proclaim : ByteArray := prog_3_method_4_code
def yX1_proclaim : MethodName := ⟨RX1, "proclaim", "(LEvenGranary$Tape;I)I"⟩
abbrev cX1_digitsEnd : ByteArray := prog_3_method_5_code
def yX1_digitsEnd : MethodName := ⟨RX1, "digitsEnd", "(LEvenGranary$Tape;II)I"⟩
abbrev cX1_numberAt : ByteArray := prog_3_method_6_code
def yX1_numberAt : MethodName := ⟨RX1, "numberAt", "(LEvenGranary$Tape;II)I"⟩
abbrev cX1_fault : ByteArray := prog_3_method_7_code
def yX1_fault : MethodName := ⟨RX1, "fault", "(II)I"⟩
def RX2 : String := "EvenGranary$Realm"
def TX2 : u_T := fun k => match k with
  | 0 => ("EvenGranary$Realm", "month", "I", false)
  | 1 => ("EvenGranary$Realm", "coin", "J", false)
  | 2 => ("EvenGranary$Realm", "towns", "Ljava/util/ArrayList;", true)
  | _ => ("EvenGranary$Realm", "convoys", "LEvenGranary$Convoys;", true)
def tyX2 : Nat → FieldType := fun k => match k with
  | 0 => .int
  | 1 => .long
  | 2 => .object "java/util/ArrayList"
  | _ => .object "EvenGranary$Convoys"
abbrev wsX20 : List Cond := u_ws RX2 TX2 4
theorem nmX2 : ∀ a, a < 4 → ∀ b, b < 4 → a ≠ b → (TX2 a).2.1 ≠ (TX2 b).2.1 := by decide +kernel
theorem tyX2_ok : ∀ k, k < 4 → parseFieldDescriptor (TX2 k).2.2.1 = some (tyX2 k) := by decide +kernel
abbrev cX2_init : ByteArray := prog_4_method_1_code
def yX2_init : MethodName := ⟨RX2, "<init>", "()V"⟩
abbrev cX2_townCount : ByteArray := prog_4_method_2_code
def yX2_townCount : MethodName := ⟨RX2, "townCount", "()I"⟩
abbrev cX2_townAt : ByteArray := prog_4_method_3_code
def yX2_townAt : MethodName := ⟨RX2, "townAt", "(I)LEvenGranary$Town;"⟩
abbrev cX2_settle : ByteArray := prog_4_method_4_code
def yX2_settle : MethodName := ⟨RX2, "settle", "(LEvenGranary$Town;)V"⟩
abbrev cX2_canSend : ByteArray := prog_4_method_5_code
def yX2_canSend : MethodName := ⟨RX2, "canSend", "()Z"⟩
abbrev cX2_send : ByteArray := prog_4_method_6_code
def yX2_send : MethodName := ⟨RX2, "send", "(ILEvenGranary$Road;I)V"⟩
abbrev cX2_measuresOnTheWay : ByteArray := prog_4_method_7_code
def yX2_measuresOnTheWay : MethodName := ⟨RX2, "measuresOnTheWay", "()J"⟩
abbrev cX2_hungerEver : ByteArray := prog_4_method_8_code
def yX2_hungerEver : MethodName := ⟨RX2, "hungerEver", "()J"⟩
abbrev cX2_passMonths : ByteArray := prog_4_method_9_code
def yX2_passMonths : MethodName := ⟨RX2, "passMonths", "(ILEvenGranary$Edict;)J"⟩
abbrev cX2_imitate : ByteArray := prog_4_method_10_code
def yX2_imitate : MethodName := ⟨RX2, "imitate", "(LEvenGranary$Realm;)V"⟩
abbrev cX2_unload : ByteArray := prog_4_method_11_code
def yX2_unload : MethodName := ⟨RX2, "unload", "()V"⟩
abbrev cX2_reapAndPayBack : ByteArray := prog_4_method_12_code
def yX2_reapAndPayBack : MethodName := ⟨RX2, "reapAndPayBack", "()V"⟩
abbrev cX2_trade : ByteArray := prog_4_method_13_code
def yX2_trade : MethodName := ⟨RX2, "trade", "(LEvenGranary$Town;LEvenGranary$Edict;)V"⟩
abbrev cX2_ageStores : ByteArray := prog_4_method_14_code
def yX2_ageStores : MethodName := ⟨RX2, "ageStores", "(LEvenGranary$Edict;)V"⟩
def RX3 : String := "EvenGranary$Road"
def TX3 : u_T := fun k => match k with
  | 0 => ("EvenGranary$Road", "a", "I", true)
  | 1 => ("EvenGranary$Road", "b", "I", true)
  | 2 => ("EvenGranary$Road", "way", "I", true)
  | 3 => ("EvenGranary$Road", "carts", "I", true)
  | _ => ("EvenGranary$Road", "taken", "I", false)
def tyX3 : Nat → FieldType := fun k => match k with
  | 0 => .int
  | 1 => .int
  | 2 => .int
  | 3 => .int
  | _ => .int
abbrev wsX30 : List Cond := u_ws RX3 TX3 5
theorem nmX3 : ∀ a, a < 5 → ∀ b, b < 5 → a ≠ b → (TX3 a).2.1 ≠ (TX3 b).2.1 := by decide +kernel
theorem tyX3_ok : ∀ k, k < 5 → parseFieldDescriptor (TX3 k).2.2.1 = some (tyX3 k) := by decide +kernel
abbrev cX3_init : ByteArray := prog_5_method_1_code
def yX3_init : MethodName := ⟨RX3, "<init>", "(IIII)V"⟩
abbrev cX3_touches : ByteArray := prog_5_method_2_code
def yX3_touches : MethodName := ⟨RX3, "touches", "(I)Z"⟩
abbrev cX3_otherEnd : ByteArray := prog_5_method_3_code
def yX3_otherEnd : MethodName := ⟨RX3, "otherEnd", "(I)I"⟩
def RX4 : String := "EvenGranary$Store"
def TX4 : u_T := fun k => match k with
  | 0 => ("EvenGranary$Store", "months", "[I", true)
  | 1 => ("EvenGranary$Store", "books", "[I", true)
  | 2 => ("EvenGranary$Store", "trues", "[I", true)
  | 3 => ("EvenGranary$Store", "measured", "[I", true)
  | 4 => ("EvenGranary$Store", "lots", "I", false)
  | 5 => ("EvenGranary$Store", "room", "I", false)
  | 6 => ("EvenGranary$Store", "held", "I", false)
  | _ => ("EvenGranary$Store", "found", "J", false)
def tyX4 : Nat → FieldType := fun k => match k with
  | 0 => .array .int
  | 1 => .array .int
  | 2 => .array .int
  | 3 => .array .int
  | 4 => .int
  | 5 => .int
  | 6 => .int
  | _ => .long
abbrev wsX40 : List Cond := u_ws RX4 TX4 8
theorem nmX4 : ∀ a, a < 8 → ∀ b, b < 8 → a ≠ b → (TX4 a).2.1 ≠ (TX4 b).2.1 := by decide +kernel
theorem tyX4_ok : ∀ k, k < 8 → parseFieldDescriptor (TX4 k).2.2.1 = some (tyX4 k) := by decide +kernel
abbrev cX4_init : ByteArray := prog_6_method_1_code
def yX4_init : MethodName := ⟨RX4, "<init>", "(I)V"⟩
abbrev cX4_room : ByteArray := prog_6_method_2_code
def yX4_room : MethodName := ⟨RX4, "room", "()I"⟩
abbrev cX4_held : ByteArray := prog_6_method_3_code
def yX4_held : MethodName := ⟨RX4, "held", "()I"⟩
abbrev cX4_space : ByteArray := prog_6_method_4_code
def yX4_space : MethodName := ⟨RX4, "space", "()I"⟩
abbrev cX4_lotCount : ByteArray := prog_6_method_5_code
def yX4_lotCount : MethodName := ⟨RX4, "lotCount", "()I"⟩
abbrev cX4_foundEver : ByteArray := prog_6_method_6_code
def yX4_foundEver : MethodName := ⟨RX4, "foundEver", "()J"⟩
abbrev cX4_hasLot : ByteArray := prog_6_method_7_code
def yX4_hasLot : MethodName := ⟨RX4, "hasLot", "(I)Z"⟩
abbrev cX4_monthOf : ByteArray := prog_6_method_8_code
def yX4_monthOf : MethodName := ⟨RX4, "monthOf", "(I)I"⟩
abbrev cX4_bookOf : ByteArray := prog_6_method_9_code
def yX4_bookOf : MethodName := ⟨RX4, "bookOf", "(I)I"⟩
abbrev cX4_measuredOf : ByteArray := prog_6_method_10_code
def yX4_measuredOf : MethodName := ⟨RX4, "measuredOf", "(I)I"⟩
abbrev cX4_bookInAll : ByteArray := prog_6_method_11_code
def yX4_bookInAll : MethodName := ⟨RX4, "bookInAll", "()J"⟩
abbrev cX4_unmeasuredBook : ByteArray := prog_6_method_12_code
def yX4_unmeasuredBook : MethodName := ⟨RX4, "unmeasuredBook", "()J"⟩
abbrev cX4_put : ByteArray := prog_6_method_13_code
def yX4_put : MethodName := ⟨RX4, "put", "(II)V"⟩
abbrev cX4_take : ByteArray := prog_6_method_14_code
def yX4_take : MethodName := ⟨RX4, "take", "(I)V"⟩
abbrev cX4_pilfer : ByteArray := prog_6_method_15_code
def yX4_pilfer : MethodName := ⟨RX4, "pilfer", "(I)V"⟩
abbrev cX4_audit : ByteArray := prog_6_method_16_code
def yX4_audit : MethodName := ⟨RX4, "audit", "(I)I"⟩
abbrev cX4_spoil : ByteArray := prog_6_method_17_code
def yX4_spoil : MethodName := ⟨RX4, "spoil", "(II)J"⟩
abbrev cX4_imitate : ByteArray := prog_6_method_18_code
def yX4_imitate : MethodName := ⟨RX4, "imitate", "(LEvenGranary$Store;)V"⟩
abbrev cX4_lessen : ByteArray := prog_6_method_19_code
def yX4_lessen : MethodName := ⟨RX4, "lessen", "(II)V"⟩
abbrev cX4_cut : ByteArray := prog_6_method_20_code
def yX4_cut : MethodName := ⟨RX4, "cut", "(II)V"⟩
def RX5 : String := "EvenGranary$Tape"
def TX5 : u_T := fun k => match k with
  | 0 => ("EvenGranary$Tape", "bytes", "[I", true)
  | _ => ("EvenGranary$Tape", "length", "I", false)
def tyX5 : Nat → FieldType := fun k => match k with
  | 0 => .array .int
  | _ => .int
abbrev wsX50 : List Cond := u_ws RX5 TX5 2
theorem nmX5 : ∀ a, a < 2 → ∀ b, b < 2 → a ≠ b → (TX5 a).2.1 ≠ (TX5 b).2.1 := by decide +kernel
theorem tyX5_ok : ∀ k, k < 2 → parseFieldDescriptor (TX5 k).2.2.1 = some (tyX5 k) := by decide +kernel
abbrev cX5_init : ByteArray := prog_7_method_1_code
def yX5_init : MethodName := ⟨RX5, "<init>", "()V"⟩
abbrev cX5_length : ByteArray := prog_7_method_2_code
def yX5_length : MethodName := ⟨RX5, "length", "()I"⟩
abbrev cX5_hasRoomFor : ByteArray := prog_7_method_3_code
def yX5_hasRoomFor : MethodName := ⟨RX5, "hasRoomFor", "(I)Z"⟩
abbrev cX5_append : ByteArray := prog_7_method_4_code
def yX5_append : MethodName := ⟨RX5, "append", "(I)V"⟩
abbrev cX5_byteAt : ByteArray := prog_7_method_5_code
def yX5_byteAt : MethodName := ⟨RX5, "byteAt", "(I)I"⟩
abbrev cX5_wipe : ByteArray := prog_7_method_6_code
def yX5_wipe : MethodName := ⟨RX5, "wipe", "()V"⟩
def RX6 : String := "EvenGranary$Town"
def TX6 : u_T := fun k => match k with
  | 0 => ("EvenGranary$Town", "eats", "I", false)
  | 1 => ("EvenGranary$Town", "market", "J", false)
  | 2 => ("EvenGranary$Town", "store", "LEvenGranary$Store;", true)
  | 3 => ("EvenGranary$Town", "harvest", "I", false)
  | 4 => ("EvenGranary$Town", "owes", "J", false)
  | 5 => ("EvenGranary$Town", "hunger", "J", false)
  | 6 => ("EvenGranary$Town", "spoilt", "J", false)
  | 7 => ("EvenGranary$Town", "bought", "J", false)
  | 8 => ("EvenGranary$Town", "sold", "J", false)
  | _ => ("EvenGranary$Town", "stolen", "J", false)
def tyX6 : Nat → FieldType := fun k => match k with
  | 0 => .int
  | 1 => .long
  | 2 => .object "EvenGranary$Store"
  | 3 => .int
  | 4 => .long
  | 5 => .long
  | 6 => .long
  | 7 => .long
  | 8 => .long
  | _ => .long
abbrev wsX60 : List Cond := u_ws RX6 TX6 10
theorem nmX6 : ∀ a, a < 10 → ∀ b, b < 10 → a ≠ b → (TX6 a).2.1 ≠ (TX6 b).2.1 := by decide +kernel
theorem tyX6_ok : ∀ k, k < 10 → parseFieldDescriptor (TX6 k).2.2.1 = some (tyX6 k) := by decide +kernel
abbrev cX6_init : ByteArray := prog_8_method_1_code
def yX6_init : MethodName := ⟨RX6, "<init>", "(III)V"⟩
abbrev cX6_price : ByteArray := prog_8_method_2_code
def yX6_price : MethodName := ⟨RX6, "price", "()I"⟩
abbrev cX6_receive : ByteArray := prog_8_method_3_code
def yX6_receive : MethodName := ⟨RX6, "receive", "(II)V"⟩
abbrev cX6_reap : ByteArray := prog_8_method_4_code
def yX6_reap : MethodName := ⟨RX6, "reap", "()V"⟩
abbrev cX6_payBack : ByteArray := prog_8_method_5_code
def yX6_payBack : MethodName := ⟨RX6, "payBack", "(I)V"⟩
abbrev cX6_buy : ByteArray := prog_8_method_6_code
def yX6_buy : MethodName := ⟨RX6, "buy", "(II)V"⟩
abbrev cX6_sell : ByteArray := prog_8_method_7_code
def yX6_sell : MethodName := ⟨RX6, "sell", "(I)V"⟩
abbrev cX6_lend : ByteArray := prog_8_method_8_code
def yX6_lend : MethodName := ⟨RX6, "lend", "(II)V"⟩
abbrev cX6_eat : ByteArray := prog_8_method_9_code
def yX6_eat : MethodName := ⟨RX6, "eat", "()J"⟩
abbrev cX6_spoilLots : ByteArray := prog_8_method_10_code
def yX6_spoilLots : MethodName := ⟨RX6, "spoilLots", "(II)V"⟩
abbrev cX6_turnOver : ByteArray := prog_8_method_11_code
def yX6_turnOver : MethodName := ⟨RX6, "turnOver", "(II)V"⟩
abbrev cX6_imitate : ByteArray := prog_8_method_12_code
def yX6_imitate : MethodName := ⟨RX6, "imitate", "(LEvenGranary$Town;)V"⟩
def RX7 : String := "EvenGranary"
def TX7 : u_T := fun k => match k with
  | 0 => ("EvenGranary", "tape", "LEvenGranary$Tape;", true)
  | 1 => ("EvenGranary", "law", "LEvenGranary$Edict;", true)
  | 2 => ("EvenGranary", "realm", "LEvenGranary$Realm;", true)
  | 3 => ("EvenGranary", "trial", "LEvenGranary$Realm;", true)
  | _ => ("EvenGranary", "roads", "Ljava/util/ArrayList;", true)
def tyX7 : Nat → FieldType := fun k => match k with
  | 0 => .object "EvenGranary$Tape"
  | 1 => .object "EvenGranary$Edict"
  | 2 => .object "EvenGranary$Realm"
  | 3 => .object "EvenGranary$Realm"
  | _ => .object "java/util/ArrayList"
abbrev wsX70 : List Cond := u_ws RX7 TX7 5
theorem nmX7 : ∀ a, a < 5 → ∀ b, b < 5 → a ≠ b → (TX7 a).2.1 ≠ (TX7 b).2.1 := by decide +kernel
theorem tyX7_ok : ∀ k, k < 5 → parseFieldDescriptor (TX7 k).2.2.1 = some (tyX7 k) := by decide +kernel
abbrev cX7_init : ByteArray := prog_1_method_1_code
def yX7_init : MethodName := ⟨RX7, "<init>", "()V"⟩
abbrev cX7_feed : ByteArray := prog_1_method_2_code
def yX7_feed : MethodName := ⟨RX7, "feed", "(IIIII)I"⟩
abbrev cX7_edict : ByteArray := prog_1_method_3_code
def yX7_edict : MethodName := ⟨RX7, "edict", "(I)I"⟩
abbrev cX7_rule : ByteArray := prog_1_method_4_code
def yX7_rule : MethodName := ⟨RX7, "rule", "(I)I"⟩
abbrev cX7_town : ByteArray := prog_1_method_5_code
def yX7_town : MethodName := ⟨RX7, "town", "(III)I"⟩
abbrev cX7_road : ByteArray := prog_1_method_6_code
def yX7_road : MethodName := ⟨RX7, "road", "(IIII)I"⟩
abbrev cX7_coin : ByteArray := prog_1_method_7_code
def yX7_coin : MethodName := ⟨RX7, "coin", "(J)Z"⟩
abbrev cX7_harvest : ByteArray := prog_1_method_8_code
def yX7_harvest : MethodName := ⟨RX7, "harvest", "(II)Z"⟩
abbrev cX7_step : ByteArray := prog_1_method_9_code
def yX7_step : MethodName := ⟨RX7, "step", "(I)I"⟩
abbrev cX7_move : ByteArray := prog_1_method_10_code
def yX7_move : MethodName := ⟨RX7, "move", "(III)Z"⟩
abbrev cX7_loan : ByteArray := prog_1_method_11_code
def yX7_loan : MethodName := ⟨RX7, "loan", "(II)J"⟩
abbrev cX7_steal : ByteArray := prog_1_method_12_code
def yX7_steal : MethodName := ⟨RX7, "steal", "(II)Z"⟩
abbrev cX7_measure : ByteArray := prog_1_method_13_code
def yX7_measure : MethodName := ⟨RX7, "measure", "(II)I"⟩
abbrev cX7_missing : ByteArray := prog_1_method_14_code
def yX7_missing : MethodName := ⟨RX7, "missing", "(II)J"⟩
abbrev cX7_foretold : ByteArray := prog_1_method_15_code
def yX7_foretold : MethodName := ⟨RX7, "foretold", "(I)J"⟩
abbrev cX7_best : ByteArray := prog_1_method_16_code
def yX7_best : MethodName := ⟨RX7, "best", "(II)I"⟩
abbrev cX7_look : ByteArray := prog_1_method_17_code
def yX7_look : MethodName := ⟨RX7, "look", "(II)J"⟩
abbrev cX7_lot : ByteArray := prog_1_method_18_code
def yX7_lot : MethodName := ⟨RX7, "lot", "(III)I"⟩
abbrev cX7_count : ByteArray := prog_1_method_19_code
def yX7_count : MethodName := ⟨RX7, "count", "(I)J"⟩
abbrev cX7_takenByRoad : ByteArray := prog_1_method_20_code
def yX7_takenByRoad : MethodName := ⟨RX7, "takenByRoad", "(I)J"⟩
abbrev cX7_roadAt : ByteArray := prog_1_method_21_code
def yX7_roadAt : MethodName := ⟨RX7, "roadAt", "(I)LEvenGranary$Road;"⟩
abbrev cX7_movable : ByteArray := prog_1_method_22_code
def yX7_movable : MethodName := ⟨RX7, "movable", "(ILEvenGranary$Road;)I"⟩
abbrev cX7_isWithin : ByteArray := prog_1_method_23_code
def yX7_isWithin : MethodName := ⟨RX7, "isWithin", "(III)Z"⟩
def RX8 : String := "EvenGranaryModel"
def TX8 : u_T := fun k => match k with
  | 0 => ("EvenGranaryModel", "tape", "[B", true)
  | 1 => ("EvenGranaryModel", "taped", "I", false)
  | 2 => ("EvenGranaryModel", "edict", "[I", true)
  | 3 => ("EvenGranaryModel", "next", "[I", true)
  | 4 => ("EvenGranaryModel", "read", "[I", true)
  | 5 => ("EvenGranaryModel", "towns", "I", false)
  | 6 => ("EvenGranaryModel", "roads", "I", false)
  | 7 => ("EvenGranaryModel", "eats", "[I", true)
  | 8 => ("EvenGranaryModel", "room", "[I", true)
  | 9 => ("EvenGranaryModel", "harvest", "[I", true)
  | 10 => ("EvenGranaryModel", "roadA", "[I", true)
  | 11 => ("EvenGranaryModel", "roadB", "[I", true)
  | 12 => ("EvenGranaryModel", "ways", "[I", true)
  | 13 => ("EvenGranaryModel", "carts", "[I", true)
  | 14 => ("EvenGranaryModel", "used", "[I", true)
  | 15 => ("EvenGranaryModel", "month", "[I", true)
  | 16 => ("EvenGranaryModel", "coin", "[J", true)
  | 17 => ("EvenGranaryModel", "onWay", "[I", true)
  | 18 => ("EvenGranaryModel", "cartTo", "[I", true)
  | 19 => ("EvenGranaryModel", "cartAt", "[I", true)
  | 20 => ("EvenGranaryModel", "cartHas", "[I", true)
  | 21 => ("EvenGranaryModel", "market", "[J", true)
  | 22 => ("EvenGranaryModel", "lots", "[I", true)
  | 23 => ("EvenGranaryModel", "found", "[J", true)
  | 24 => ("EvenGranaryModel", "hunger", "[J", true)
  | 25 => ("EvenGranaryModel", "spoilt", "[J", true)
  | 26 => ("EvenGranaryModel", "owes", "[J", true)
  | 27 => ("EvenGranaryModel", "bought", "[J", true)
  | 28 => ("EvenGranaryModel", "sold", "[J", true)
  | 29 => ("EvenGranaryModel", "stolen", "[J", true)
  | 30 => ("EvenGranaryModel", "lotMonth", "[I", true)
  | 31 => ("EvenGranaryModel", "book", "[I", true)
  | 32 => ("EvenGranaryModel", "real", "[I", true)
  | _ => ("EvenGranaryModel", "isSure", "[Z", true)
def tyX8 : Nat → FieldType := fun k => match k with
  | 0 => .array .byte
  | 1 => .int
  | 2 => .array .int
  | 3 => .array .int
  | 4 => .array .int
  | 5 => .int
  | 6 => .int
  | 7 => .array .int
  | 8 => .array .int
  | 9 => .array .int
  | 10 => .array .int
  | 11 => .array .int
  | 12 => .array .int
  | 13 => .array .int
  | 14 => .array .int
  | 15 => .array .int
  | 16 => .array .long
  | 17 => .array .int
  | 18 => .array .int
  | 19 => .array .int
  | 20 => .array .int
  | 21 => .array .long
  | 22 => .array .int
  | 23 => .array .long
  | 24 => .array .long
  | 25 => .array .long
  | 26 => .array .long
  | 27 => .array .long
  | 28 => .array .long
  | 29 => .array .long
  | 30 => .array .int
  | 31 => .array .int
  | 32 => .array .int
  | _ => .array .boolean
abbrev wsX80 : List Cond := u_ws RX8 TX8 34
theorem nmX8 : ∀ a, a < 34 → ∀ b, b < 34 → a ≠ b → (TX8 a).2.1 ≠ (TX8 b).2.1 := by decide +kernel
theorem tyX8_ok : ∀ k, k < 34 → parseFieldDescriptor (TX8 k).2.2.1 = some (tyX8 k) := by decide +kernel
abbrev cX8_init : ByteArray := prog_10_method_1_code
def yX8_init : MethodName := ⟨RX8, "<init>", "()V"⟩
abbrev cX8_lies : ByteArray := prog_10_method_2_code
def yX8_lies : MethodName := ⟨RX8, "lies", "(JJJ)Z"⟩
abbrev cX8_push : ByteArray := prog_10_method_3_code
def yX8_push : MethodName := ⟨RX8, "push", "(I)V"⟩
abbrev cX8_feed : ByteArray := prog_10_method_4_code
def yX8_feed : MethodName := ⟨RX8, "feed", "(IIIII)I"⟩
abbrev cX8_asAtFirst : ByteArray := prog_10_method_5_code
def yX8_asAtFirst : MethodName := ⟨RX8, "asAtFirst", "([I)V"⟩
abbrev cX8_letter : ByteArray := prog_10_method_6_code
def yX8_letter : MethodName := ⟨RX8, "letter", "(I)I"⟩
abbrev cX8_canBe : ByteArray := prog_10_method_7_code
def yX8_canBe : MethodName := ⟨RX8, "canBe", "(II)Z"⟩
abbrev cX8_at : ByteArray := prog_10_method_8_code
def yX8_at : MethodName := ⟨RX8, "at", "(II)I"⟩
abbrev cX8_reads : ByteArray := prog_10_method_9_code
def yX8_reads : MethodName := ⟨RX8, "reads", "(I)I"⟩
abbrev cX8_edict : ByteArray := prog_10_method_10_code
def yX8_edict : MethodName := ⟨RX8, "edict", "(I)I"⟩
abbrev cX8_rule : ByteArray := prog_10_method_11_code
def yX8_rule : MethodName := ⟨RX8, "rule", "(I)I"⟩
abbrev cX8_town : ByteArray := prog_10_method_12_code
def yX8_town : MethodName := ⟨RX8, "town", "(III)I"⟩
abbrev cX8_isTown : ByteArray := prog_10_method_13_code
def yX8_isTown : MethodName := ⟨RX8, "isTown", "(I)Z"⟩
abbrev cX8_road : ByteArray := prog_10_method_14_code
def yX8_road : MethodName := ⟨RX8, "road", "(IIII)I"⟩
abbrev cX8_coin : ByteArray := prog_10_method_15_code
def yX8_coin : MethodName := ⟨RX8, "coin", "(J)Z"⟩
abbrev cX8_harvest : ByteArray := prog_10_method_16_code
def yX8_harvest : MethodName := ⟨RX8, "harvest", "(II)Z"⟩
abbrev cX8_trueIn : ByteArray := prog_10_method_17_code
def yX8_trueIn : MethodName := ⟨RX8, "trueIn", "(I)J"⟩
abbrev cX8_bookIn : ByteArray := prog_10_method_18_code
def yX8_bookIn : MethodName := ⟨RX8, "bookIn", "(IZ)J"⟩
abbrev cX8_goes : ByteArray := prog_10_method_19_code
def yX8_goes : MethodName := ⟨RX8, "goes", "(II)V"⟩
abbrev cX8_takes : ByteArray := prog_10_method_20_code
def yX8_takes : MethodName := ⟨RX8, "takes", "(IJ)V"⟩
abbrev cX8_comes : ByteArray := prog_10_method_21_code
def yX8_comes : MethodName := ⟨RX8, "comes", "(IJI)V"⟩
abbrev cX8_least : ByteArray := prog_10_method_22_code
def yX8_least : MethodName := ⟨RX8, "least", "(JJ)J"⟩
abbrev cX8_space : ByteArray := prog_10_method_23_code
def yX8_space : MethodName := ⟨RX8, "space", "(II)J"⟩
abbrev cX8_price : ByteArray := prog_10_method_24_code
def yX8_price : MethodName := ⟨RX8, "price", "(II)J"⟩
abbrev cX8_cartsCome : ByteArray := prog_10_method_25_code
def yX8_cartsCome : MethodName := ⟨RX8, "cartsCome", "(I)V"⟩
abbrev cX8_harvests : ByteArray := prog_10_method_26_code
def yX8_harvests : MethodName := ⟨RX8, "harvests", "(II)V"⟩
abbrev cX8_trades : ByteArray := prog_10_method_27_code
def yX8_trades : MethodName := ⟨RX8, "trades", "(II[I)V"⟩
abbrev cX8_spoils : ByteArray := prog_10_method_28_code
def yX8_spoils : MethodName := ⟨RX8, "spoils", "(II[I)V"⟩
abbrev cX8_turns : ByteArray := prog_10_method_29_code
def yX8_turns : MethodName := ⟨RX8, "turns", "(III)V"⟩
abbrev cX8_goesBy : ByteArray := prog_10_method_30_code
def yX8_goesBy : MethodName := ⟨RX8, "goesBy", "(I[I)V"⟩
abbrev cX8_step : ByteArray := prog_10_method_31_code
def yX8_step : MethodName := ⟨RX8, "step", "(I)I"⟩
abbrev cX8_begins : ByteArray := prog_10_method_32_code
def yX8_begins : MethodName := ⟨RX8, "begins", "(II)Z"⟩
abbrev cX8_sends : ByteArray := prog_10_method_33_code
def yX8_sends : MethodName := ⟨RX8, "sends", "(IIII)V"⟩
abbrev cX8_move : ByteArray := prog_10_method_34_code
def yX8_move : MethodName := ⟨RX8, "move", "(III)Z"⟩
abbrev cX8_loan : ByteArray := prog_10_method_35_code
def yX8_loan : MethodName := ⟨RX8, "loan", "(II)J"⟩
abbrev cX8_steal : ByteArray := prog_10_method_36_code
def yX8_steal : MethodName := ⟨RX8, "steal", "(II)Z"⟩
abbrev cX8_measure : ByteArray := prog_10_method_37_code
def yX8_measure : MethodName := ⟨RX8, "measure", "(II)I"⟩
abbrev cX8_missing : ByteArray := prog_10_method_38_code
def yX8_missing : MethodName := ⟨RX8, "missing", "(II)J"⟩
abbrev cX8_copies : ByteArray := prog_10_method_39_code
def yX8_copies : MethodName := ⟨RX8, "copies", "()V"⟩
abbrev cX8_hungerIn : ByteArray := prog_10_method_40_code
def yX8_hungerIn : MethodName := ⟨RX8, "hungerIn", "(I)J"⟩
abbrev cX8_goesOn : ByteArray := prog_10_method_41_code
def yX8_goesOn : MethodName := ⟨RX8, "goesOn", "(I)J"⟩
abbrev cX8_foretold : ByteArray := prog_10_method_42_code
def yX8_foretold : MethodName := ⟨RX8, "foretold", "(I)J"⟩
abbrev cX8_best : ByteArray := prog_10_method_43_code
def yX8_best : MethodName := ⟨RX8, "best", "(II)I"⟩
abbrev cX8_look : ByteArray := prog_10_method_44_code
def yX8_look : MethodName := ⟨RX8, "look", "(II)J"⟩
abbrev cX8_lot : ByteArray := prog_10_method_45_code
def yX8_lot : MethodName := ⟨RX8, "lot", "(III)I"⟩
abbrev cX8_count : ByteArray := prog_10_method_46_code
def yX8_count : MethodName := ⟨RX8, "count", "(I)J"⟩
def RJx145de : String := "java/io/Serializable"
def TJx145de : u_T := fun k => match k with
  | _ => ("", "", "", false)
def tyJx145de : Nat → FieldType := fun k => match k with
  | _ => .int
abbrev wsJx145de0 : List Cond := u_ws RJx145de TJx145de 0
theorem nmJx145de : ∀ a, a < 0 → ∀ b, b < 0 → a ≠ b → (TJx145de a).2.1 ≠ (TJx145de b).2.1 := by decide +kernel
theorem tyJx145de_ok : ∀ k, k < 0 → parseFieldDescriptor (TJx145de k).2.2.1 = some (tyJx145de k) := by decide +kernel
def RJ11 : String := "java/lang/Character"
def TJ11 : u_T := fun k => match k with
  | _ => ("", "", "", false)
def tyJ11 : Nat → FieldType := fun k => match k with
  | _ => .int
abbrev wsJ110 : List Cond := u_ws RJ11 TJ11 0
theorem nmJ11 : ∀ a, a < 0 → ∀ b, b < 0 → a ≠ b → (TJ11 a).2.1 ≠ (TJ11 b).2.1 := by decide +kernel
theorem tyJ11_ok : ∀ k, k < 0 → parseFieldDescriptor (TJ11 k).2.2.1 = some (tyJ11 k) := by decide +kernel
abbrev cJ11_isValidCodePoint_9a6ad : ByteArray := prog_12_method_11_code
def yJ11_isValidCodePoint_9a6ad : MethodName := ⟨RJ11, "isValidCodePoint", "(I)Z"⟩
abbrev cJ11_highSurrogate_5068e : ByteArray := prog_12_method_28_code
def yJ11_highSurrogate_5068e : MethodName := ⟨RJ11, "highSurrogate", "(I)C"⟩
abbrev cJ11_lowSurrogate_5068e : ByteArray := prog_12_method_29_code
def yJ11_lowSurrogate_5068e : MethodName := ⟨RJ11, "lowSurrogate", "(I)C"⟩
def RJx8e188 : String := "java/lang/Cloneable"
def TJx8e188 : u_T := fun k => match k with
  | _ => ("", "", "", false)
def tyJx8e188 : Nat → FieldType := fun k => match k with
  | _ => .int
abbrev wsJx8e1880 : List Cond := u_ws RJx8e188 TJx8e188 0
theorem nmJx8e188 : ∀ a, a < 0 → ∀ b, b < 0 → a ≠ b → (TJx8e188 a).2.1 ≠ (TJx8e188 b).2.1 := by decide +kernel
theorem tyJx8e188_ok : ∀ k, k < 0 → parseFieldDescriptor (TJx8e188 k).2.2.1 = some (tyJx8e188 k) := by decide +kernel
def RJxab1ab : String := "java/lang/Iterable"
def TJxab1ab : u_T := fun k => match k with
  | _ => ("", "", "", false)
def tyJxab1ab : Nat → FieldType := fun k => match k with
  | _ => .int
abbrev wsJxab1ab0 : List Cond := u_ws RJxab1ab TJxab1ab 0
theorem nmJxab1ab : ∀ a, a < 0 → ∀ b, b < 0 → a ≠ b → (TJxab1ab a).2.1 ≠ (TJxab1ab b).2.1 := by decide +kernel
theorem tyJxab1ab_ok : ∀ k, k < 0 → parseFieldDescriptor (TJxab1ab k).2.2.1 = some (tyJxab1ab k) := by decide +kernel
def RJ9 : String := "java/lang/Math"
def TJ9 : u_T := fun k => match k with
  | _ => ("", "", "", false)
def tyJ9 : Nat → FieldType := fun k => match k with
  | _ => .int
abbrev wsJ90 : List Cond := u_ws RJ9 TJ9 0
theorem nmJ9 : ∀ a, a < 0 → ∀ b, b < 0 → a ≠ b → (TJ9 a).2.1 ≠ (TJ9 b).2.1 := by decide +kernel
theorem tyJ9_ok : ∀ k, k < 0 → parseFieldDescriptor (TJ9 k).2.2.1 = some (tyJ9 k) := by decide +kernel
abbrev cJ9_max_7cf53 : ByteArray := prog_15_method_65_code
def yJ9_max_7cf53 : MethodName := ⟨RJ9, "max", "(II)I"⟩
abbrev cJ9_min_7cf53 : ByteArray := prog_15_method_69_code
def yJ9_min_7cf53 : MethodName := ⟨RJ9, "min", "(II)I"⟩
abbrev cJ9_min_f86c9 : ByteArray := prog_15_method_70_code
def yJ9_min_f86c9 : MethodName := ⟨RJ9, "min", "(JJ)J"⟩
def RJ0 : String := "java/lang/String"
def TJ0 : u_T := fun k => match k with
  | _ => ("", "", "", false)
def tyJ0 : Nat → FieldType := fun k => match k with
  | _ => .int
abbrev wsJ00 : List Cond := u_ws RJ0 TJ0 0
theorem nmJ0 : ∀ a, a < 0 → ∀ b, b < 0 → a ≠ b → (TJ0 a).2.1 ≠ (TJ0 b).2.1 := by decide +kernel
theorem tyJ0_ok : ∀ k, k < 0 → parseFieldDescriptor (TJ0 k).2.2.1 = some (tyJ0 k) := by decide +kernel
abbrev cJ0_length_8abf5 : ByteArray := prog_16_method_54_code
def yJ0_length_8abf5 : MethodName := ⟨RJ0, "length", "()I"⟩
abbrev cJ0_indexOf_0f7a4 : ByteArray := prog_16_method_79_code
def yJ0_indexOf_0f7a4 : MethodName := ⟨RJ0, "indexOf", "(I)I"⟩
abbrev cJ0_indexOf_7cf53 : ByteArray := prog_16_method_80_code
def yJ0_indexOf_7cf53 : MethodName := ⟨RJ0, "indexOf", "(II)I"⟩
abbrev cJ0_coder_7d493 : ByteArray := prog_16_method_152_code
def yJ0_coder_7d493 : MethodName := ⟨RJ0, "coder", "()B"⟩
abbrev cJ0_isLatin1_aae02 : ByteArray := prog_16_method_154_code
def yJ0_isLatin1_aae02 : MethodName := ⟨RJ0, "isLatin1", "()Z"⟩
abbrev cJ0_checkBoundsBeginEnd_23922 : ByteArray := prog_16_method_158_code
def yJ0_checkBoundsBeginEnd_23922 : MethodName := ⟨RJ0, "checkBoundsBeginEnd", "(III)V"⟩
def RJ1 : String := "java/lang/StringLatin1"
def TJ1 : u_T := fun k => match k with
  | _ => ("", "", "", false)
def tyJ1 : Nat → FieldType := fun k => match k with
  | _ => .int
abbrev wsJ10 : List Cond := u_ws RJ1 TJ1 0
theorem nmJ1 : ∀ a, a < 0 → ∀ b, b < 0 → a ≠ b → (TJ1 a).2.1 ≠ (TJ1 b).2.1 := by decide +kernel
theorem tyJ1_ok : ∀ k, k < 0 → parseFieldDescriptor (TJ1 k).2.2.1 = some (tyJ1 k) := by decide +kernel
abbrev cJ1_canEncode_9a6ad : ByteArray := prog_17_method_4_code
def yJ1_canEncode_9a6ad : MethodName := ⟨RJ1, "canEncode", "(I)Z"⟩
abbrev cJ1_indexOf_4cfef : ByteArray := prog_17_method_22_code
def yJ1_indexOf_4cfef : MethodName := ⟨RJ1, "indexOf", "([BIII)I"⟩
abbrev cJ1_indexOfChar_4cfef : ByteArray := prog_17_method_23_code
def yJ1_indexOfChar_4cfef : MethodName := ⟨RJ1, "indexOfChar", "([BIII)I"⟩
def RJ2 : String := "java/lang/StringUTF16"
def TJ2 : u_T := fun k => match k with
  | _ => ("", "", "", false)
def tyJ2 : Nat → FieldType := fun k => match k with
  | _ => .int
abbrev wsJ20 : List Cond := u_ws RJ2 TJ2 0
theorem nmJ2 : ∀ a, a < 0 → ∀ b, b < 0 → a ≠ b → (TJ2 a).2.1 ≠ (TJ2 b).2.1 := by decide +kernel
theorem tyJ2_ok : ∀ k, k < 0 → parseFieldDescriptor (TJ2 k).2.2.1 = some (tyJ2 k) := by decide +kernel
abbrev cJ2_getChar_3b067 : ByteArray := prog_18_method_5_code
def yJ2_getChar_3b067 : MethodName := ⟨RJ2, "getChar", "([BI)C"⟩
abbrev cJ2_length_9d52b : ByteArray := prog_18_method_6_code
def yJ2_length_9d52b : MethodName := ⟨RJ2, "length", "([B)I"⟩
abbrev cJ2_indexOf_4cfef : ByteArray := prog_18_method_40_code
def yJ2_indexOf_4cfef : MethodName := ⟨RJ2, "indexOf", "([BIII)I"⟩
abbrev cJ2_indexOfChar_4cfef : ByteArray := prog_18_method_47_code
def yJ2_indexOfChar_4cfef : MethodName := ⟨RJ2, "indexOfChar", "([BIII)I"⟩
abbrev cJ2_indexOfCharUnsafe_4cfef : ByteArray := prog_18_method_48_code
def yJ2_indexOfCharUnsafe_4cfef : MethodName := ⟨RJ2, "indexOfCharUnsafe", "([BIII)I"⟩
abbrev cJ2_indexOfSupplementary_4cfef : ByteArray := prog_18_method_49_code
def yJ2_indexOfSupplementary_4cfef : MethodName := ⟨RJ2, "indexOfSupplementary", "([BIII)I"⟩
abbrev cJ2_checkBoundsBeginEnd_d044e : ByteArray := prog_18_method_93_code
def yJ2_checkBoundsBeginEnd_d044e : MethodName := ⟨RJ2, "checkBoundsBeginEnd", "(II[B)V"⟩
def RJ10 : String := "java/lang/System"
def TJ10 : u_T := fun k => match k with
  | _ => ("", "", "", false)
def tyJ10 : Nat → FieldType := fun k => match k with
  | _ => .int
abbrev wsJ100 : List Cond := u_ws RJ10 TJ10 0
theorem nmJ10 : ∀ a, a < 0 → ∀ b, b < 0 → a ≠ b → (TJ10 a).2.1 ≠ (TJ10 b).2.1 := by decide +kernel
theorem tyJ10_ok : ∀ k, k < 0 → parseFieldDescriptor (TJ10 k).2.2.1 = some (tyJ10 k) := by decide +kernel
def RJxa1e45 : String := "java/util/AbstractCollection"
def TJxa1e45 : u_T := fun k => match k with
  | _ => ("", "", "", false)
def tyJxa1e45 : Nat → FieldType := fun k => match k with
  | _ => .int
abbrev wsJxa1e450 : List Cond := u_ws RJxa1e45 TJxa1e45 0
theorem nmJxa1e45 : ∀ a, a < 0 → ∀ b, b < 0 → a ≠ b → (TJxa1e45 a).2.1 ≠ (TJxa1e45 b).2.1 := by decide +kernel
theorem tyJxa1e45_ok : ∀ k, k < 0 → parseFieldDescriptor (TJxa1e45 k).2.2.1 = some (tyJxa1e45 k) := by decide +kernel
abbrev cJxa1e45_init_da8c8 : ByteArray := prog_20_method_1_code
def yJxa1e45_init_da8c8 : MethodName := ⟨RJxa1e45, "<init>", "()V"⟩
def RJxc12de : String := "java/util/AbstractList"
def TJxc12de : u_T := fun k => match k with
  | _ => ("", "", "", false)
def tyJxc12de : Nat → FieldType := fun k => match k with
  | _ => .int
abbrev wsJxc12de0 : List Cond := u_ws RJxc12de TJxc12de 0
theorem nmJxc12de : ∀ a, a < 0 → ∀ b, b < 0 → a ≠ b → (TJxc12de a).2.1 ≠ (TJxc12de b).2.1 := by decide +kernel
theorem tyJxc12de_ok : ∀ k, k < 0 → parseFieldDescriptor (TJxc12de k).2.2.1 = some (tyJxc12de k) := by decide +kernel
abbrev cJxc12de_init_da8c8 : ByteArray := prog_21_method_1_code
def yJxc12de_init_da8c8 : MethodName := ⟨RJxc12de, "<init>", "()V"⟩
def RJx4a65c : String := "java/util/ArrayList"
def TJx4a65c : u_T := fun k => match k with
  | 0 => ("java/util/AbstractList", "modCount", "I", false)
  | 1 => ("java/util/ArrayList", "elementData", "[Ljava/lang/Object;", false)
  | _ => ("java/util/ArrayList", "size", "I", false)
def tyJx4a65c : Nat → FieldType := fun k => match k with
  | 0 => .int
  | 1 => .array (.object "java/lang/Object")
  | _ => .int
abbrev wsJx4a65c0 : List Cond := u_ws RJx4a65c TJx4a65c 3
theorem nmJx4a65c : ∀ a, a < 3 → ∀ b, b < 3 → a ≠ b → (TJx4a65c a).2.1 ≠ (TJx4a65c b).2.1 := by decide +kernel
theorem tyJx4a65c_ok : ∀ k, k < 3 → parseFieldDescriptor (TJx4a65c k).2.2.1 = some (tyJx4a65c k) := by decide +kernel
abbrev cJx4a65c_init_da8c8 : ByteArray := prog_22_method_2_code
def yJx4a65c_init_da8c8 : MethodName := ⟨RJx4a65c, "<init>", "()V"⟩
abbrev cJx4a65c_grow_92f84 : ByteArray := prog_22_method_6_code
def yJx4a65c_grow_92f84 : MethodName := ⟨RJx4a65c, "grow", "(I)[Ljava/lang/Object;"⟩
abbrev cJx4a65c_grow_d5877 : ByteArray := prog_22_method_7_code
def yJx4a65c_grow_d5877 : MethodName := ⟨RJx4a65c, "grow", "()[Ljava/lang/Object;"⟩
abbrev cJx4a65c_size_8abf5 : ByteArray := prog_22_method_8_code
def yJx4a65c_size_8abf5 : MethodName := ⟨RJx4a65c, "size", "()I"⟩
abbrev cJx4a65c_elementData_915e3 : ByteArray := prog_22_method_18_code
def yJx4a65c_elementData_915e3 : MethodName := ⟨RJx4a65c, "elementData", "(I)Ljava/lang/Object;"⟩
abbrev cJx4a65c_get_915e3 : ByteArray := prog_22_method_20_code
def yJx4a65c_get_915e3 : MethodName := ⟨RJx4a65c, "get", "(I)Ljava/lang/Object;"⟩
abbrev cJx4a65c_add_72be8 : ByteArray := prog_22_method_24_code
def yJx4a65c_add_72be8 : MethodName := ⟨RJx4a65c, "add", "(Ljava/lang/Object;[Ljava/lang/Object;I)V"⟩
abbrev cJx4a65c_add_9ea2d : ByteArray := prog_22_method_25_code
def yJx4a65c_add_9ea2d : MethodName := ⟨RJx4a65c, "add", "(Ljava/lang/Object;)Z"⟩
def RJ7 : String := "java/util/Arrays"
def TJ7 : u_T := fun k => match k with
  | _ => ("", "", "", false)
def tyJ7 : Nat → FieldType := fun k => match k with
  | _ => .int
abbrev wsJ70 : List Cond := u_ws RJ7 TJ7 0
theorem nmJ7 : ∀ a, a < 0 → ∀ b, b < 0 → a ≠ b → (TJ7 a).2.1 ≠ (TJ7 b).2.1 := by decide +kernel
theorem tyJ7_ok : ∀ k, k < 0 → parseFieldDescriptor (TJ7 k).2.2.1 = some (tyJ7 k) := by decide +kernel
abbrev cJ7_copyOf_1904c : ByteArray := prog_23_method_119_code
def yJ7_copyOf_1904c : MethodName := ⟨RJ7, "copyOf", "([Ljava/lang/Object;I)[Ljava/lang/Object;"⟩
abbrev cJ7_copyOf_6403c : ByteArray := prog_23_method_120_code
def yJ7_copyOf_6403c : MethodName := ⟨RJ7, "copyOf", "([Ljava/lang/Object;ILjava/lang/Class;)[Ljava/lang/Object;"⟩
def RJx5ef63 : String := "java/util/Collection"
def TJx5ef63 : u_T := fun k => match k with
  | _ => ("", "", "", false)
def tyJx5ef63 : Nat → FieldType := fun k => match k with
  | _ => .int
abbrev wsJx5ef630 : List Cond := u_ws RJx5ef63 TJx5ef63 0
theorem nmJx5ef63 : ∀ a, a < 0 → ∀ b, b < 0 → a ≠ b → (TJx5ef63 a).2.1 ≠ (TJx5ef63 b).2.1 := by decide +kernel
theorem tyJx5ef63_ok : ∀ k, k < 0 → parseFieldDescriptor (TJx5ef63 k).2.2.1 = some (tyJx5ef63 k) := by decide +kernel
def RJxbd725 : String := "java/util/List"
def TJxbd725 : u_T := fun k => match k with
  | _ => ("", "", "", false)
def tyJxbd725 : Nat → FieldType := fun k => match k with
  | _ => .int
abbrev wsJxbd7250 : List Cond := u_ws RJxbd725 TJxbd725 0
theorem nmJxbd725 : ∀ a, a < 0 → ∀ b, b < 0 → a ≠ b → (TJxbd725 a).2.1 ≠ (TJxbd725 b).2.1 := by decide +kernel
theorem tyJxbd725_ok : ∀ k, k < 0 → parseFieldDescriptor (TJxbd725 k).2.2.1 = some (tyJxbd725 k) := by decide +kernel
def RJ15 : String := "java/util/Objects"
def TJ15 : u_T := fun k => match k with
  | _ => ("", "", "", false)
def tyJ15 : Nat → FieldType := fun k => match k with
  | _ => .int
abbrev wsJ150 : List Cond := u_ws RJ15 TJ15 0
theorem nmJ15 : ∀ a, a < 0 → ∀ b, b < 0 → a ≠ b → (TJ15 a).2.1 ≠ (TJ15 b).2.1 := by decide +kernel
theorem tyJ15_ok : ∀ k, k < 0 → parseFieldDescriptor (TJ15 k).2.2.1 = some (tyJ15 k) := by decide +kernel
abbrev cJ15_checkIndex_7cf53 : ByteArray := prog_26_method_17_code
def yJ15_checkIndex_7cf53 : MethodName := ⟨RJ15, "checkIndex", "(II)I"⟩
def RJxf0a74 : String := "java/util/RandomAccess"
def TJxf0a74 : u_T := fun k => match k with
  | _ => ("", "", "", false)
def tyJxf0a74 : Nat → FieldType := fun k => match k with
  | _ => .int
abbrev wsJxf0a740 : List Cond := u_ws RJxf0a74 TJxf0a74 0
theorem nmJxf0a74 : ∀ a, a < 0 → ∀ b, b < 0 → a ≠ b → (TJxf0a74 a).2.1 ≠ (TJxf0a74 b).2.1 := by decide +kernel
theorem tyJxf0a74_ok : ∀ k, k < 0 → parseFieldDescriptor (TJxf0a74 k).2.2.1 = some (tyJxf0a74 k) := by decide +kernel
def RJxa66e6 : String := "java/util/SequencedCollection"
def TJxa66e6 : u_T := fun k => match k with
  | _ => ("", "", "", false)
def tyJxa66e6 : Nat → FieldType := fun k => match k with
  | _ => .int
abbrev wsJxa66e60 : List Cond := u_ws RJxa66e6 TJxa66e6 0
theorem nmJxa66e6 : ∀ a, a < 0 → ∀ b, b < 0 → a ≠ b → (TJxa66e6 a).2.1 ≠ (TJxa66e6 b).2.1 := by decide +kernel
theorem tyJxa66e6_ok : ∀ k, k < 0 → parseFieldDescriptor (TJxa66e6 k).2.2.1 = some (tyJxa66e6 k) := by decide +kernel
def RJ8 : String := "jdk/internal/util/ArraysSupport"
def TJ8 : u_T := fun k => match k with
  | _ => ("", "", "", false)
def tyJ8 : Nat → FieldType := fun k => match k with
  | _ => .int
abbrev wsJ80 : List Cond := u_ws RJ8 TJ8 0
theorem nmJ8 : ∀ a, a < 0 → ∀ b, b < 0 → a ≠ b → (TJ8 a).2.1 ≠ (TJ8 b).2.1 := by decide +kernel
theorem tyJ8_ok : ∀ k, k < 0 → parseFieldDescriptor (TJ8 k).2.2.1 = some (tyJ8 k) := by decide +kernel
abbrev cJ8_newLength_cabcc : ByteArray := prog_29_method_27_code
def yJ8_newLength_cabcc : MethodName := ⟨RJ8, "newLength", "(III)I"⟩
abbrev cJ8_hugeLength_7cf53 : ByteArray := prog_29_method_28_code
def yJ8_hugeLength_7cf53 : MethodName := ⟨RJ8, "hugeLength", "(II)I"⟩
def RJ3 : String := "jdk/internal/util/Preconditions"
def TJ3 : u_T := fun k => match k with
  | _ => ("", "", "", false)
def tyJ3 : Nat → FieldType := fun k => match k with
  | _ => .int
abbrev wsJ30 : List Cond := u_ws RJ3 TJ3 0
theorem nmJ3 : ∀ a, a < 0 → ∀ b, b < 0 → a ≠ b → (TJ3 a).2.1 ≠ (TJ3 b).2.1 := by decide +kernel
theorem tyJ3_ok : ∀ k, k < 0 → parseFieldDescriptor (TJ3 k).2.2.1 = some (tyJ3 k) := by decide +kernel
abbrev cJ3_checkIndex_8e157 : ByteArray := prog_30_method_11_code
def yJ3_checkIndex_8e157 : MethodName := ⟨RJ3, "checkIndex", "(IILjava/util/function/BiFunction;)I"⟩
abbrev cJ3_checkFromToIndex_8c36e : ByteArray := prog_30_method_12_code
def yJ3_checkFromToIndex_8c36e : MethodName := ⟨RJ3, "checkFromToIndex", "(IIILjava/util/function/BiFunction;)I"⟩
def RL : String := "EvenGranaryLaw"
abbrev cL_law : ByteArray := code
def yL_law : MethodName := ⟨RL, "law", "([I)Z"⟩
abbrev vwCl : List vw_C := [(RJx4a65c, TJx4a65c, 3), (RX0, TX0, 4), (RX1, TX1, 2), (RX2, TX2, 4), (RX3, TX3, 5), (RX4, TX4, 8), (RX5, TX5, 2), (RX6, TX6, 10), (RX7, TX7, 5), (RX8, TX8, 34)]
