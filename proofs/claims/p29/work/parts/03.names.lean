/-! ===== BEGIN printed: names, fields, word lists, decode rows ===== -/
def RX0 : String := "HallDiary$DayPlan"
def TX0 : u_T := fun k => match k with
  | 0 => ("HallDiary$DayPlan", "lets", "[LHallDiary$Let;", true)
  | 1 => ("HallDiary$DayPlan", "size", "I", false)
  | 2 => ("HallDiary$DayPlan", "cleanFrom", "[I", true)
  | _ => ("HallDiary$DayPlan", "cleanerFreeFrom", "I", false)
def tyX0 : Nat → FieldType := fun k => match k with
  | 0 => .array (.object "HallDiary$Let")
  | 1 => .int
  | 2 => .array .int
  | _ => .int
abbrev wsX00 : List Cond := u_ws RX0 TX0 4
theorem nmX0 : ∀ a, a < 4 → ∀ b, b < 4 → a ≠ b → (TX0 a).2.1 ≠ (TX0 b).2.1 := by decide +kernel
theorem tyX0_ok : ∀ k, k < 4 → parseFieldDescriptor (TX0 k).2.2.1 = some (tyX0 k) := by decide +kernel
abbrev cX0_init : ByteArray := prog_2_method_1_code
def yX0_init : MethodName := ⟨RX0, "<init>", "()V"⟩
abbrev cX0_open : ByteArray := prog_2_method_2_code
def yX0_open : MethodName := ⟨RX0, "open", "(LHallDiary$State;I)V"⟩
abbrev cX0_enterAll : ByteArray := prog_2_method_3_code
def yX0_enterAll : MethodName := ⟨RX0, "enterAll", "(LHallDiary$Roll;I)V"⟩
abbrev cX0_reasonAgainst : ByteArray := prog_2_method_4_code
def yX0_reasonAgainst : MethodName := ⟨RX0, "reasonAgainst", "(LHallDiary$Let;I)I"⟩
abbrev cX0_canBeCleanedWith : ByteArray := prog_2_method_5_code
def yX0_canBeCleanedWith : MethodName := ⟨RX0, "canBeCleanedWith", "(LHallDiary$Let;I)Z"⟩
abbrev cX0_canBeCleaned : ByteArray := prog_2_method_6_code
def yX0_canBeCleaned : MethodName := ⟨RX0, "canBeCleaned", "(I)Z"⟩
abbrev cX0_startCleaning : ByteArray := prog_2_method_7_code
def yX0_startCleaning : MethodName := ⟨RX0, "startCleaning", "()V"⟩
abbrev cX0_isServed : ByteArray := prog_2_method_8_code
def yX0_isServed : MethodName := ⟨RX0, "isServed", "(LHallDiary$Let;I)Z"⟩
abbrev cX0_tenantAt : ByteArray := prog_2_method_9_code
def yX0_tenantAt : MethodName := ⟨RX0, "tenantAt", "(II)I"⟩
abbrev cX0_sumIn : ByteArray := prog_2_method_10_code
def yX0_sumIn : MethodName := ⟨RX0, "sumIn", "(II)I"⟩
abbrev cX0_hoursWithoutTenant : ByteArray := prog_2_method_11_code
def yX0_hoursWithoutTenant : MethodName := ⟨RX0, "hoursWithoutTenant", "(I)I"⟩
def RX1 : String := "HallDiary$Let"
def TX1 : u_T := fun k => match k with
  | 0 => ("HallDiary$Let", "hall", "I", false)
  | 1 => ("HallDiary$Let", "weekday", "I", false)
  | 2 => ("HallDiary$Let", "from", "I", false)
  | 3 => ("HallDiary$Let", "to", "I", false)
  | 4 => ("HallDiary$Let", "rank", "I", false)
  | 5 => ("HallDiary$Let", "tenant", "I", false)
  | 6 => ("HallDiary$Let", "rent", "I", false)
  | 7 => ("HallDiary$Let", "firstWeek", "I", false)
  | 8 => ("HallDiary$Let", "lastWeek", "I", false)
  | _ => ("HallDiary$Let", "weeks", "I", false)
def tyX1 : Nat → FieldType := fun k => match k with
  | 0 => .int
  | 1 => .int
  | 2 => .int
  | 3 => .int
  | 4 => .int
  | 5 => .int
  | 6 => .int
  | 7 => .int
  | 8 => .int
  | _ => .int
abbrev wsX10 : List Cond := u_ws RX1 TX1 10
theorem nmX1 : ∀ a, a < 10 → ∀ b, b < 10 → a ≠ b → (TX1 a).2.1 ≠ (TX1 b).2.1 := by decide +kernel
theorem tyX1_ok : ∀ k, k < 10 → parseFieldDescriptor (TX1 k).2.2.1 = some (tyX1 k) := by decide +kernel
abbrev cX1_init : ByteArray := prog_3_method_1_code
def yX1_init : MethodName := ⟨RX1, "<init>", "()V"⟩
abbrev cX1_place : ByteArray := prog_3_method_2_code
def yX1_place : MethodName := ⟨RX1, "place", "(IIII)V"⟩
abbrev cX1_become : ByteArray := prog_3_method_3_code
def yX1_become : MethodName := ⟨RX1, "become", "(LHallDiary$Let;)V"⟩
abbrev cX1_standsOn : ByteArray := prog_3_method_4_code
def yX1_standsOn : MethodName := ⟨RX1, "standsOn", "(I)Z"⟩
abbrev cX1_leaveOut : ByteArray := prog_3_method_5_code
def yX1_leaveOut : MethodName := ⟨RX1, "leaveOut", "(I)V"⟩
abbrev cX1_daysStanding : ByteArray := prog_3_method_6_code
def yX1_daysStanding : MethodName := ⟨RX1, "daysStanding", "()I"⟩
abbrev cX1_rentsInAll : ByteArray := prog_3_method_7_code
def yX1_rentsInAll : MethodName := ⟨RX1, "rentsInAll", "()I"⟩
abbrev cX1_shareOfDay : ByteArray := prog_3_method_8_code
def yX1_shareOfDay : MethodName := ⟨RX1, "shareOfDay", "(I)I"⟩
abbrev cX1_firstDay : ByteArray := prog_3_method_9_code
def yX1_firstDay : MethodName := ⟨RX1, "firstDay", "()I"⟩
abbrev cX1_clashesWith : ByteArray := prog_3_method_10_code
def yX1_clashesWith : MethodName := ⟨RX1, "clashesWith", "(LHallDiary$Let;I)Z"⟩
abbrev cX1_isCleanedBefore : ByteArray := prog_3_method_11_code
def yX1_isCleanedBefore : MethodName := ⟨RX1, "isCleanedBefore", "(LHallDiary$Let;)Z"⟩
def RX2 : String := "HallDiary$LetText"
def TX2 : u_T := fun k => match k with
  | 0 => ("HallDiary$LetText", "codes", "[I", true)
  | 1 => ("HallDiary$LetText", "length", "I", false)
  | 2 => ("HallDiary$LetText", "numbers", "[I", true)
  | 3 => ("HallDiary$LetText", "slot", "I", false)
  | _ => ("HallDiary$LetText", "digits", "I", false)
def tyX2 : Nat → FieldType := fun k => match k with
  | 0 => .array .int
  | 1 => .int
  | 2 => .array .int
  | 3 => .int
  | _ => .int
abbrev wsX20 : List Cond := u_ws RX2 TX2 5
theorem nmX2 : ∀ a, a < 5 → ∀ b, b < 5 → a ≠ b → (TX2 a).2.1 ≠ (TX2 b).2.1 := by decide +kernel
theorem tyX2_ok : ∀ k, k < 5 → parseFieldDescriptor (TX2 k).2.2.1 = some (tyX2 k) := by decide +kernel
abbrev cX2_init : ByteArray := prog_4_method_1_code
def yX2_init : MethodName := ⟨RX2, "<init>", "()V"⟩
def RX3 : String := "HallDiary$Roll"
def TX3 : u_T := fun k => match k with
  | 0 => ("HallDiary$Roll", "rows", "[LHallDiary$Let;", true)
  | _ => ("HallDiary$Roll", "size", "I", false)
def tyX3 : Nat → FieldType := fun k => match k with
  | 0 => .array (.object "HallDiary$Let")
  | _ => .int
abbrev wsX30 : List Cond := u_ws RX3 TX3 2
theorem nmX3 : ∀ a, a < 2 → ∀ b, b < 2 → a ≠ b → (TX3 a).2.1 ≠ (TX3 b).2.1 := by decide +kernel
theorem tyX3_ok : ∀ k, k < 2 → parseFieldDescriptor (TX3 k).2.2.1 = some (tyX3 k) := by decide +kernel
abbrev cX3_init : ByteArray := prog_5_method_1_code
def yX3_init : MethodName := ⟨RX3, "<init>", "(I)V"⟩
abbrev cX3_isFull : ByteArray := prog_5_method_2_code
def yX3_isFull : MethodName := ⟨RX3, "isFull", "()Z"⟩
abbrev cX3_add : ByteArray := prog_5_method_3_code
def yX3_add : MethodName := ⟨RX3, "add", "(LHallDiary$Let;)V"⟩
abbrev cX3_remove : ByteArray := prog_5_method_4_code
def yX3_remove : MethodName := ⟨RX3, "remove", "(I)V"⟩
abbrev cX3_become : ByteArray := prog_5_method_5_code
def yX3_become : MethodName := ⟨RX3, "become", "(LHallDiary$Roll;)V"⟩
abbrev cX3_sumFor : ByteArray := prog_5_method_6_code
def yX3_sumFor : MethodName := ⟨RX3, "sumFor", "(II)I"⟩
abbrev cX3_hoursIn : ByteArray := prog_5_method_7_code
def yX3_hoursIn : MethodName := ⟨RX3, "hoursIn", "(I)I"⟩
def RX4 : String := "HallDiary$State"
def TX4 : u_T := fun k => match k with
  | 0 => ("HallDiary$State", "regulars", "LHallDiary$Roll;", true)
  | 1 => ("HallDiary$State", "singles", "LHallDiary$Roll;", true)
  | 2 => ("HallDiary$State", "rates", "[I", true)
  | 3 => ("HallDiary$State", "settings", "[I", true)
  | 4 => ("HallDiary$State", "paid", "I", false)
  | 5 => ("HallDiary$State", "givenBack", "I", false)
  | _ => ("HallDiary$State", "gaveWay", "I", false)
def tyX4 : Nat → FieldType := fun k => match k with
  | 0 => .object "HallDiary$Roll"
  | 1 => .object "HallDiary$Roll"
  | 2 => .array .int
  | 3 => .array .int
  | 4 => .int
  | 5 => .int
  | _ => .int
abbrev wsX40 : List Cond := u_ws RX4 TX4 7
theorem nmX4 : ∀ a, a < 7 → ∀ b, b < 7 → a ≠ b → (TX4 a).2.1 ≠ (TX4 b).2.1 := by decide +kernel
theorem tyX4_ok : ∀ k, k < 7 → parseFieldDescriptor (TX4 k).2.2.1 = some (tyX4 k) := by decide +kernel
abbrev cX4_init : ByteArray := prog_6_method_1_code
def yX4_init : MethodName := ⟨RX4, "<init>", "()V"⟩
abbrev cX4_become : ByteArray := prog_6_method_2_code
def yX4_become : MethodName := ⟨RX4, "become", "(LHallDiary$State;)V"⟩
abbrev cX4_sumFor : ByteArray := prog_6_method_3_code
def yX4_sumFor : MethodName := ⟨RX4, "sumFor", "(II)I"⟩
abbrev cX4_giveWayTo : ByteArray := prog_6_method_4_code
def yX4_giveWayTo : MethodName := ⟨RX4, "giveWayTo", "(LHallDiary$Let;I)I"⟩
abbrev cX4_givesWay : ByteArray := prog_6_method_5_code
def yX4_givesWay : MethodName := ⟨RX4, "givesWay", "(LHallDiary$Let;LHallDiary$Let;I)Z"⟩
abbrev cX4_letGo : ByteArray := prog_6_method_6_code
def yX4_letGo : MethodName := ⟨RX4, "letGo", "(LHallDiary$Let;)V"⟩
def RX5 : String := "HallDiary"
def TX5 : u_T := fun k => match k with
  | 0 => ("HallDiary", "now", "LHallDiary$State;", true)
  | 1 => ("HallDiary", "snapshot", "LHallDiary$State;", true)
  | 2 => ("HallDiary", "hasSnapshot", "Z", false)
  | 3 => ("HallDiary", "saved", "[LHallDiary$State;", true)
  | 4 => ("HallDiary", "savedSize", "I", false)
  | 5 => ("HallDiary", "text", "LHallDiary$LetText;", true)
  | 6 => ("HallDiary", "plan", "LHallDiary$DayPlan;", true)
  | _ => ("HallDiary", "draft", "LHallDiary$Let;", true)
def tyX5 : Nat → FieldType := fun k => match k with
  | 0 => .object "HallDiary$State"
  | 1 => .object "HallDiary$State"
  | 2 => .boolean
  | 3 => .array (.object "HallDiary$State")
  | 4 => .int
  | 5 => .object "HallDiary$LetText"
  | 6 => .object "HallDiary$DayPlan"
  | _ => .object "HallDiary$Let"
abbrev wsX50 : List Cond := u_ws RX5 TX5 8
theorem nmX5 : ∀ a, a < 8 → ∀ b, b < 8 → a ≠ b → (TX5 a).2.1 ≠ (TX5 b).2.1 := by decide +kernel
theorem tyX5_ok : ∀ k, k < 8 → parseFieldDescriptor (TX5 k).2.2.1 = some (tyX5 k) := by decide +kernel
abbrev cX5_init : ByteArray := prog_1_method_1_code
def yX5_init : MethodName := ⟨RX5, "<init>", "()V"⟩
abbrev cX5_regular : ByteArray := prog_1_method_2_code
def yX5_regular : MethodName := ⟨RX5, "regular", "(IIIIII)I"⟩
abbrev cX5_single : ByteArray := prog_1_method_3_code
def yX5_single : MethodName := ⟨RX5, "single", "(IIIIII)I"⟩
abbrev cX5_cancel : ByteArray := prog_1_method_4_code
def yX5_cancel : MethodName := ⟨RX5, "cancel", "(ZI)I"⟩
abbrev cX5_off : ByteArray := prog_1_method_5_code
def yX5_off : MethodName := ⟨RX5, "off", "(II)I"⟩
abbrev cX5_rate : ByteArray := prog_1_method_6_code
def yX5_rate : MethodName := ⟨RX5, "rate", "(II)I"⟩
abbrev cX5_set : ByteArray := prog_1_method_7_code
def yX5_set : MethodName := ⟨RX5, "set", "(II)I"⟩
abbrev cX5_regularOf : ByteArray := prog_1_method_15_code
def yX5_regularOf : MethodName := ⟨RX5, "regularOf", "(II)I"⟩
abbrev cX5_singleOf : ByteArray := prog_1_method_16_code
def yX5_singleOf : MethodName := ⟨RX5, "singleOf", "(II)I"⟩
abbrev cX5_who : ByteArray := prog_1_method_17_code
def yX5_who : MethodName := ⟨RX5, "who", "(III)I"⟩
abbrev cX5_hallOf : ByteArray := prog_1_method_18_code
def yX5_hallOf : MethodName := ⟨RX5, "hallOf", "(III)I"⟩
abbrev cX5_tenant : ByteArray := prog_1_method_19_code
def yX5_tenant : MethodName := ⟨RX5, "tenant", "(II)I"⟩
abbrev cX5_count : ByteArray := prog_1_method_20_code
def yX5_count : MethodName := ⟨RX5, "count", "(I)I"⟩
abbrev cX5_refusal : ByteArray := prog_1_method_21_code
def yX5_refusal : MethodName := ⟨RX5, "refusal", "(IIIII)I"⟩
abbrev cX5_price : ByteArray := prog_1_method_22_code
def yX5_price : MethodName := ⟨RX5, "price", "(IIII)I"⟩
abbrev cX5_nextFree : ByteArray := prog_1_method_23_code
def yX5_nextFree : MethodName := ⟨RX5, "nextFree", "(III)I"⟩
abbrev cX5_best : ByteArray := prog_1_method_24_code
def yX5_best : MethodName := ⟨RX5, "best", "()I"⟩
abbrev cX5_fullness : ByteArray := prog_1_method_25_code
def yX5_fullness : MethodName := ⟨RX5, "fullness", "(I)D"⟩
abbrev cX5_meanRent : ByteArray := prog_1_method_26_code
def yX5_meanRent : MethodName := ⟨RX5, "meanRent", "()F"⟩
abbrev cX5_isIn : ByteArray := prog_1_method_31_code
def yX5_isIn : MethodName := ⟨RX5, "isIn", "(III)Z"⟩
abbrev cX5_need : ByteArray := prog_1_method_32_code
def yX5_need : MethodName := ⟨RX5, "need", "(Z)V"⟩
abbrev cX5_needHall : ByteArray := prog_1_method_33_code
def yX5_needHall : MethodName := ⟨RX5, "needHall", "(I)V"⟩
abbrev cX5_needLet : ByteArray := prog_1_method_34_code
def yX5_needLet : MethodName := ⟨RX5, "needLet", "(LHallDiary$Roll;I)V"⟩
abbrev cX5_needDay : ByteArray := prog_1_method_35_code
def yX5_needDay : MethodName := ⟨RX5, "needDay", "(I)V"⟩
abbrev cX5_needHours : ByteArray := prog_1_method_36_code
def yX5_needHours : MethodName := ⟨RX5, "needHours", "(II)V"⟩
abbrev cX5_draftSingle : ByteArray := prog_1_method_37_code
def yX5_draftSingle : MethodName := ⟨RX5, "draftSingle", "(IIIIII)V"⟩
abbrev cX5_draftRegular : ByteArray := prog_1_method_38_code
def yX5_draftRegular : MethodName := ⟨RX5, "draftRegular", "(IIIIII)V"⟩
abbrev cX5_rentForDay : ByteArray := prog_1_method_39_code
def yX5_rentForDay : MethodName := ⟨RX5, "rentForDay", "(IIII)I"⟩
abbrev cX5_reasonAgainstDraft : ByteArray := prog_1_method_40_code
def yX5_reasonAgainstDraft : MethodName := ⟨RX5, "reasonAgainstDraft", "(I)I"⟩
abbrev cX5_firstFreeHour : ByteArray := prog_1_method_41_code
def yX5_firstFreeHour : MethodName := ⟨RX5, "firstFreeHour", "(III)I"⟩
abbrev cX5_makeSingle : ByteArray := prog_1_method_42_code
def yX5_makeSingle : MethodName := ⟨RX5, "makeSingle", "(I)I"⟩
abbrev cX5_makeRegular : ByteArray := prog_1_method_43_code
def yX5_makeRegular : MethodName := ⟨RX5, "makeRegular", "()V"⟩
abbrev cX5_allowsSetting : ByteArray := prog_1_method_45_code
def yX5_allowsSetting : MethodName := ⟨RX5, "allowsSetting", "(II)Z"⟩
abbrev cX5_allDaysCanBeCleaned : ByteArray := prog_1_method_46_code
def yX5_allDaysCanBeCleaned : MethodName := ⟨RX5, "allDaysCanBeCleaned", "(I)Z"⟩
abbrev cX5_commonNumber : ByteArray := prog_1_method_47_code
def yX5_commonNumber : MethodName := ⟨RX5, "commonNumber", "(LHallDiary$Let;I)I"⟩
abbrev cX5_saveState : ByteArray := prog_1_method_48_code
def yX5_saveState : MethodName := ⟨RX5, "saveState", "()V"⟩
def RX6 : String := "HallDiaryModel"
def TX6 : u_T := fun k => match k with
  | _ => ("", "", "", false)
def tyX6 : Nat → FieldType := fun k => match k with
  | _ => .int
abbrev wsX60 : List Cond := u_ws RX6 TX6 0
theorem nmX6 : ∀ a, a < 0 → ∀ b, b < 0 → a ≠ b → (TX6 a).2.1 ≠ (TX6 b).2.1 := by decide +kernel
theorem tyX6_ok : ∀ k, k < 0 → parseFieldDescriptor (TX6 k).2.2.1 = some (tyX6 k) := by decide +kernel
def RJ6 : String := "java/lang/Integer"
def TJ6 : u_T := fun k => match k with
  | _ => ("", "", "", false)
def tyJ6 : Nat → FieldType := fun k => match k with
  | _ => .int
abbrev wsJ60 : List Cond := u_ws RJ6 TJ6 0
theorem nmJ6 : ∀ a, a < 0 → ∀ b, b < 0 → a ≠ b → (TJ6 a).2.1 ≠ (TJ6 b).2.1 := by decide +kernel
theorem tyJ6_ok : ∀ k, k < 0 → parseFieldDescriptor (TJ6 k).2.2.1 = some (tyJ6 k) := by decide +kernel
abbrev cJ6_bitCount_0f7a4 : ByteArray := prog_13_method_49_code
def yJ6_bitCount_0f7a4 : MethodName := ⟨RJ6, "bitCount", "(I)I"⟩
def RJ9 : String := "java/lang/Math"
def TJ9 : u_T := fun k => match k with
  | _ => ("", "", "", false)
def tyJ9 : Nat → FieldType := fun k => match k with
  | _ => .int
abbrev wsJ90 : List Cond := u_ws RJ9 TJ9 0
theorem nmJ9 : ∀ a, a < 0 → ∀ b, b < 0 → a ≠ b → (TJ9 a).2.1 ≠ (TJ9 b).2.1 := by decide +kernel
theorem tyJ9_ok : ∀ k, k < 0 → parseFieldDescriptor (TJ9 k).2.2.1 = some (tyJ9 k) := by decide +kernel
abbrev cJ9_min_7cf53 : ByteArray := prog_14_method_69_code
def yJ9_min_7cf53 : MethodName := ⟨RJ9, "min", "(II)I"⟩
def RJ0 : String := "java/lang/String"
def TJ0 : u_T := fun k => match k with
  | _ => ("", "", "", false)
def tyJ0 : Nat → FieldType := fun k => match k with
  | _ => .int
abbrev wsJ00 : List Cond := u_ws RJ0 TJ0 0
theorem nmJ0 : ∀ a, a < 0 → ∀ b, b < 0 → a ≠ b → (TJ0 a).2.1 ≠ (TJ0 b).2.1 := by decide +kernel
theorem tyJ0_ok : ∀ k, k < 0 → parseFieldDescriptor (TJ0 k).2.2.1 = some (tyJ0 k) := by decide +kernel
def RJ10 : String := "java/lang/System"
def TJ10 : u_T := fun k => match k with
  | _ => ("", "", "", false)
def tyJ10 : Nat → FieldType := fun k => match k with
  | _ => .int
abbrev wsJ100 : List Cond := u_ws RJ10 TJ10 0
theorem nmJ10 : ∀ a, a < 0 → ∀ b, b < 0 → a ≠ b → (TJ10 a).2.1 ≠ (TJ10 b).2.1 := by decide +kernel
theorem tyJ10_ok : ∀ k, k < 0 → parseFieldDescriptor (TJ10 k).2.2.1 = some (tyJ10 k) := by decide +kernel
def RL : String := "HallDiaryLaw"
abbrev cL_cell : ByteArray := method_2_code
def yL_cell : MethodName := ⟨RL, "cell", "([II)I"⟩
abbrev cL_low : ByteArray := method_3_code
def yL_low : MethodName := ⟨RL, "low", "(II)I"⟩
abbrev cL_bits : ByteArray := method_4_code
def yL_bits : MethodName := ⟨RL, "bits", "(II)I"⟩
abbrev cL_stands : ByteArray := method_5_code
def yL_stands : MethodName := ⟨RL, "stands", "([III)Z"⟩
abbrev cL_clash : ByteArray := method_6_code
def yL_clash : MethodName := ⟨RL, "clash", "(IIIII)Z"⟩
abbrev cL_put : ByteArray := method_7_code
def yL_put : MethodName := ⟨RL, "put", "([IIIII)I"⟩
abbrev cL_isCleaned : ByteArray := method_8_code
def yL_isCleaned : MethodName := ⟨RL, "isCleaned", "([III)Z"⟩
abbrev cL_reason : ByteArray := method_9_code
def yL_reason : MethodName := ⟨RL, "reason", "([I[I[IIIIII)I"⟩
abbrev cL_rent : ByteArray := method_10_code
def yL_rent : MethodName := ⟨RL, "rent", "([IIIII)I"⟩
abbrev cL_goes : ByteArray := method_11_code
def yL_goes : MethodName := ⟨RL, "goes", "([I[II)V"⟩
abbrev cL_givesWay : ByteArray := method_12_code
def yL_givesWay : MethodName := ⟨RL, "givesWay", "([I[I[IIIII)I"⟩
abbrev cL_singles : ByteArray := method_13_code
def yL_singles : MethodName := ⟨RL, "singles", "(LHallDiary;[I[I[IIIIIII)Z"⟩
abbrev cL_regulars : ByteArray := method_14_code
def yL_regulars : MethodName := ⟨RL, "regulars", "(LHallDiary;[I[I[IIIIIII)Z"⟩
abbrev cL_ones : ByteArray := method_15_code
def yL_ones : MethodName := ⟨RL, "ones", "(I)I"⟩
abbrev cL_cancels : ByteArray := method_16_code
def yL_cancels : MethodName := ⟨RL, "cancels", "(LHallDiary;[I[I[IZI)Z"⟩
abbrev cL_isGood : ByteArray := method_17_code
def yL_isGood : MethodName := ⟨RL, "isGood", "([I[I[II)Z"⟩
abbrev cL_sets : ByteArray := method_18_code
def yL_sets : MethodName := ⟨RL, "sets", "(LHallDiary;[I[I[II)Z"⟩
abbrev cL_isLets : ByteArray := method_19_code
def yL_isLets : MethodName := ⟨RL, "isLets", "(LHallDiary;[I[I[I)Z"⟩
abbrev cL_areBills : ByteArray := method_20_code
def yL_areBills : MethodName := ⟨RL, "areBills", "(LHallDiary;[I[I[I)Z"⟩
abbrev cL_isDay : ByteArray := method_21_code
def yL_isDay : MethodName := ⟨RL, "isDay", "(LHallDiary;[I[I[III)Z"⟩
abbrev cL_isFull : ByteArray := method_22_code
def yL_isFull : MethodName := ⟨RL, "isFull", "(LHallDiary;[I[I[II)Z"⟩
abbrev cL_isNext : ByteArray := method_23_code
def yL_isNext : MethodName := ⟨RL, "isNext", "(LHallDiary;[I[I[IIII)Z"⟩
abbrev cL_acts : ByteArray := method_24_code
def yL_acts : MethodName := ⟨RL, "acts", "(LHallDiary;[I[I[IIII)Z"⟩
abbrev cL_law : ByteArray := code
def yL_law : MethodName := ⟨RL, "law", "([I)Z"⟩
abbrev vwCl : List vw_C := [(RX0, TX0, 4), (RX1, TX1, 10), (RX2, TX2, 5), (RX3, TX3, 2), (RX4, TX4, 7), (RX5, TX5, 8)]
