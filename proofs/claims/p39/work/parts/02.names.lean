def RX0 : String := "SwathSurvey$Chart"
def TX0 : u_T := fun k => match k with
  | _ => ("SwathSurvey$Chart", "depths", "LSwathSurvey$Row;", true)
def tyX0 : Nat → FieldType := fun k => match k with
  | _ => .object "SwathSurvey$Row"
abbrev wsX00 : List Cond := u_ws RX0 TX0 1
theorem nmX0 : ∀ a, a < 1 → ∀ b, b < 1 → a ≠ b → (TX0 a).2.1 ≠ (TX0 b).2.1 := by decide +kernel
theorem tyX0_ok : ∀ k, k < 1 → parseFieldDescriptor (TX0 k).2.2.1 = some (tyX0 k) := by decide +kernel
abbrev cX0_init : ByteArray := prog_2_method_1_code
def yX0_init : MethodName := ⟨RX0, "<init>", "()V"⟩
abbrev cX0_forget : ByteArray := prog_2_method_2_code
def yX0_forget : MethodName := ⟨RX0, "forget", "()V"⟩
abbrev cX0_lower : ByteArray := prog_2_method_3_code
def yX0_lower : MethodName := ⟨RX0, "lower", "(III)V"⟩
abbrev cX0_depthIn : ByteArray := prog_2_method_4_code
def yX0_depthIn : MethodName := ⟨RX0, "depthIn", "(II)I"⟩
abbrev cX0_lacks : ByteArray := prog_2_method_5_code
def yX0_lacks : MethodName := ⟨RX0, "lacks", "(II)Z"⟩
abbrev cX0_countDepths : ByteArray := prog_2_method_6_code
def yX0_countDepths : MethodName := ⟨RX0, "countDepths", "()I"⟩
abbrev cX0_sumOfDepths : ByteArray := prog_2_method_7_code
def yX0_sumOfDepths : MethodName := ⟨RX0, "sumOfDepths", "()I"⟩
abbrev cX0_emptyCell : ByteArray := prog_2_method_8_code
def yX0_emptyCell : MethodName := ⟨RX0, "emptyCell", "(I)I"⟩
def RX1 : String := "SwathSurvey$Gauge"
def TX1 : u_T := fun k => match k with
  | 0 => ("SwathSurvey$Gauge", "column", "I", true)
  | _ => ("SwathSurvey$Gauge", "failures", "LSwathSurvey$Row;", true)
def tyX1 : Nat → FieldType := fun k => match k with
  | 0 => .int
  | _ => .object "SwathSurvey$Row"
abbrev wsX10 : List Cond := u_ws RX1 TX1 2
theorem nmX1 : ∀ a, a < 2 → ∀ b, b < 2 → a ≠ b → (TX1 a).2.1 ≠ (TX1 b).2.1 := by decide +kernel
theorem tyX1_ok : ∀ k, k < 2 → parseFieldDescriptor (TX1 k).2.2.1 = some (tyX1 k) := by decide +kernel
abbrev cX1_init : ByteArray := prog_3_method_1_code
def yX1_init : MethodName := ⟨RX1, "<init>", "(I)V"⟩
abbrev cX1_place : ByteArray := prog_3_method_2_code
def yX1_place : MethodName := ⟨RX1, "place", "()I"⟩
abbrev cX1_breakDown : ByteArray := prog_3_method_3_code
def yX1_breakDown : MethodName := ⟨RX1, "breakDown", "(III)V"⟩
abbrev cX1_repair : ByteArray := prog_3_method_4_code
def yX1_repair : MethodName := ⟨RX1, "repair", "(I)V"⟩
abbrev cX1_failedHours : ByteArray := prog_3_method_5_code
def yX1_failedHours : MethodName := ⟨RX1, "failedHours", "(I)I"⟩
abbrev cX1_tellsIn : ByteArray := prog_3_method_6_code
def yX1_tellsIn : MethodName := ⟨RX1, "tellsIn", "(LSwathSurvey$Sea;II)I"⟩
abbrev cX1_workedBefore : ByteArray := prog_3_method_7_code
def yX1_workedBefore : MethodName := ⟨RX1, "workedBefore", "(II)I"⟩
abbrev cX1_workedBehind : ByteArray := prog_3_method_8_code
def yX1_workedBehind : MethodName := ⟨RX1, "workedBehind", "(II)I"⟩
def RX2 : String := "SwathSurvey$Gauges"
def TX2 : u_T := fun k => match k with
  | 0 => ("SwathSurvey$Gauges", "placed", "[LSwathSurvey$Gauge;", true)
  | _ => ("SwathSurvey$Gauges", "count", "I", false)
def tyX2 : Nat → FieldType := fun k => match k with
  | 0 => .array (.object "SwathSurvey$Gauge")
  | _ => .int
abbrev wsX20 : List Cond := u_ws RX2 TX2 2
theorem nmX2 : ∀ a, a < 2 → ∀ b, b < 2 → a ≠ b → (TX2 a).2.1 ≠ (TX2 b).2.1 := by decide +kernel
theorem tyX2_ok : ∀ k, k < 2 → parseFieldDescriptor (TX2 k).2.2.1 = some (tyX2 k) := by decide +kernel
abbrev cX2_init : ByteArray := prog_4_method_1_code
def yX2_init : MethodName := ⟨RX2, "<init>", "()V"⟩
abbrev cX2_areFull : ByteArray := prog_4_method_2_code
def yX2_areFull : MethodName := ⟨RX2, "areFull", "()Z"⟩
abbrev cX2_standIn : ByteArray := prog_4_method_3_code
def yX2_standIn : MethodName := ⟨RX2, "standIn", "(I)Z"⟩
abbrev cX2_placeIn : ByteArray := prog_4_method_4_code
def yX2_placeIn : MethodName := ⟨RX2, "placeIn", "(I)I"⟩
abbrev cX2_gaugeOrNull : ByteArray := prog_4_method_5_code
def yX2_gaugeOrNull : MethodName := ⟨RX2, "gaugeOrNull", "(I)LSwathSurvey$Gauge;"⟩
abbrev cX2_tideIn : ByteArray := prog_4_method_6_code
def yX2_tideIn : MethodName := ⟨RX2, "tideIn", "(LSwathSurvey$Sea;III)I"⟩
def RX3 : String := "SwathSurvey$Line"
def TX3 : u_T := fun k => match k with
  | 0 => ("SwathSurvey$Line", "alongRow", "Z", true)
  | 1 => ("SwathSurvey$Line", "index", "I", true)
  | 2 => ("SwathSurvey$Line", "from", "I", true)
  | 3 => ("SwathSurvey$Line", "to", "I", true)
  | 4 => ("SwathSurvey$Line", "cells", "I", true)
  | 5 => ("SwathSurvey$Line", "day", "I", false)
  | 6 => ("SwathSurvey$Line", "hour", "I", false)
  | 7 => ("SwathSurvey$Line", "sounded", "LSwathSurvey$Row;", true)
  | 8 => ("SwathSurvey$Line", "errors", "LSwathSurvey$Row;", true)
  | _ => ("SwathSurvey$Line", "reductions", "LSwathSurvey$Row;", true)
def tyX3 : Nat → FieldType := fun k => match k with
  | 0 => .boolean
  | 1 => .int
  | 2 => .int
  | 3 => .int
  | 4 => .int
  | 5 => .int
  | 6 => .int
  | 7 => .object "SwathSurvey$Row"
  | 8 => .object "SwathSurvey$Row"
  | _ => .object "SwathSurvey$Row"
abbrev wsX30 : List Cond := u_ws RX3 TX3 10
theorem nmX3 : ∀ a, a < 10 → ∀ b, b < 10 → a ≠ b → (TX3 a).2.1 ≠ (TX3 b).2.1 := by decide +kernel
theorem tyX3_ok : ∀ k, k < 10 → parseFieldDescriptor (TX3 k).2.2.1 = some (tyX3 k) := by decide +kernel
abbrev cX3_init : ByteArray := prog_5_method_1_code
def yX3_init : MethodName := ⟨RX3, "<init>", "(ZIII)V"⟩
abbrev cX3_ranOn : ByteArray := prog_5_method_2_code
def yX3_ranOn : MethodName := ⟨RX3, "ranOn", "()I"⟩
abbrev cX3_lastBehind : ByteArray := prog_5_method_3_code
def yX3_lastBehind : MethodName := ⟨RX3, "lastBehind", "()I"⟩
abbrev cX3_isSoundedIn : ByteArray := prog_5_method_4_code
def yX3_isSoundedIn : MethodName := ⟨RX3, "isSoundedIn", "(III)Z"⟩
abbrev cX3_soundAll : ByteArray := prog_5_method_5_code
def yX3_soundAll : MethodName := ⟨RX3, "soundAll", "(LSwathSurvey$Sea;II)V"⟩
abbrev cX3_putError : ByteArray := prog_5_method_6_code
def yX3_putError : MethodName := ⟨RX3, "putError", "(III)I"⟩
abbrev cX3_reduceBy : ByteArray := prog_5_method_7_code
def yX3_reduceBy : MethodName := ⟨RX3, "reduceBy", "(LSwathSurvey$Gauges;LSwathSurvey$Sea;)V"⟩
abbrev cX3_drawOn : ByteArray := prog_5_method_8_code
def yX3_drawOn : MethodName := ⟨RX3, "drawOn", "(LSwathSurvey$Chart;)V"⟩
abbrev cX3_hasSounded : ByteArray := prog_5_method_9_code
def yX3_hasSounded : MethodName := ⟨RX3, "hasSounded", "(II)Z"⟩
abbrev cX3_soundingAt : ByteArray := prog_5_method_10_code
def yX3_soundingAt : MethodName := ⟨RX3, "soundingAt", "(II)I"⟩
abbrev cX3_reducedAt : ByteArray := prog_5_method_11_code
def yX3_reducedAt : MethodName := ⟨RX3, "reducedAt", "(II)I"⟩
abbrev cX3_standsOut : ByteArray := prog_5_method_12_code
def yX3_standsOut : MethodName := ⟨RX3, "standsOut", "(II)Z"⟩
abbrev cX3_countSounded : ByteArray := prog_5_method_13_code
def yX3_countSounded : MethodName := ⟨RX3, "countSounded", "()I"⟩
abbrev cX3_countSpikes : ByteArray := prog_5_method_14_code
def yX3_countSpikes : MethodName := ⟨RX3, "countSpikes", "()I"⟩
abbrev cX3_countLost : ByteArray := prog_5_method_15_code
def yX3_countLost : MethodName := ⟨RX3, "countLost", "()I"⟩
abbrev cX3_depthOver : ByteArray := prog_5_method_16_code
def yX3_depthOver : MethodName := ⟨RX3, "depthOver", "(II)I"⟩
abbrev cX3_meets : ByteArray := prog_5_method_17_code
def yX3_meets : MethodName := ⟨RX3, "meets", "(LSwathSurvey$Line;)Z"⟩
abbrev cX3_misfitTo : ByteArray := prog_5_method_18_code
def yX3_misfitTo : MethodName := ⟨RX3, "misfitTo", "(LSwathSurvey$Line;)I"⟩
abbrev cX3_describeIn : ByteArray := prog_5_method_19_code
def yX3_describeIn : MethodName := ⟨RX3, "describeIn", "(Ljava/lang/StringBuilder;)V"⟩
abbrev cX3_isGood : ByteArray := prog_5_method_20_code
def yX3_isGood : MethodName := ⟨RX3, "isGood", "(II)Z"⟩
abbrev cX3_isFar : ByteArray := prog_5_method_21_code
def yX3_isFar : MethodName := ⟨RX3, "isFar", "(II)Z"⟩
abbrev cX3_cellAt : ByteArray := prog_5_method_22_code
def yX3_cellAt : MethodName := ⟨RX3, "cellAt", "(I)I"⟩
abbrev cX3_placeOf : ByteArray := prog_5_method_23_code
def yX3_placeOf : MethodName := ⟨RX3, "placeOf", "(I)I"⟩
abbrev cX3_columnOf : ByteArray := prog_5_method_24_code
def yX3_columnOf : MethodName := ⟨RX3, "columnOf", "(II)I"⟩
abbrev cX3_rowOf : ByteArray := prog_5_method_25_code
def yX3_rowOf : MethodName := ⟨RX3, "rowOf", "(II)I"⟩
abbrev cX3_hourOf : ByteArray := prog_5_method_26_code
def yX3_hourOf : MethodName := ⟨RX3, "hourOf", "(I)I"⟩
abbrev cX3_slotOf : ByteArray := prog_5_method_27_code
def yX3_slotOf : MethodName := ⟨RX3, "slotOf", "(II)I"⟩
def RX4 : String := "SwathSurvey$Row"
def TX4 : u_T := fun k => match k with
  | 0 => ("SwathSurvey$Row", "numbers", "[I", true)
  | _ => ("SwathSurvey$Row", "blank", "I", true)
def tyX4 : Nat → FieldType := fun k => match k with
  | 0 => .array .int
  | _ => .int
abbrev wsX40 : List Cond := u_ws RX4 TX4 2
theorem nmX4 : ∀ a, a < 2 → ∀ b, b < 2 → a ≠ b → (TX4 a).2.1 ≠ (TX4 b).2.1 := by decide +kernel
theorem tyX4_ok : ∀ k, k < 2 → parseFieldDescriptor (TX4 k).2.2.1 = some (tyX4 k) := by decide +kernel
abbrev cX4_init : ByteArray := prog_6_method_1_code
def yX4_init : MethodName := ⟨RX4, "<init>", "(II)V"⟩
abbrev cX4_read : ByteArray := prog_6_method_2_code
def yX4_read : MethodName := ⟨RX4, "read", "(I)I"⟩
abbrev cX4_write : ByteArray := prog_6_method_3_code
def yX4_write : MethodName := ⟨RX4, "write", "(II)I"⟩
abbrev cX4_clear : ByteArray := prog_6_method_4_code
def yX4_clear : MethodName := ⟨RX4, "clear", "()V"⟩
def RX5 : String := "SwathSurvey$Sea"
def TX5 : u_T := fun k => match k with
  | 0 => ("SwathSurvey$Sea", "floors", "LSwathSurvey$Row;", true)
  | 1 => ("SwathSurvey$Sea", "heights", "LSwathSurvey$Row;", true)
  | 2 => ("SwathSurvey$Sea", "slopes", "LSwathSurvey$Row;", true)
  | _ => ("SwathSurvey$Sea", "forces", "LSwathSurvey$Row;", true)
def tyX5 : Nat → FieldType := fun k => match k with
  | 0 => .object "SwathSurvey$Row"
  | 1 => .object "SwathSurvey$Row"
  | 2 => .object "SwathSurvey$Row"
  | _ => .object "SwathSurvey$Row"
abbrev wsX50 : List Cond := u_ws RX5 TX5 4
theorem nmX5 : ∀ a, a < 4 → ∀ b, b < 4 → a ≠ b → (TX5 a).2.1 ≠ (TX5 b).2.1 := by decide +kernel
theorem tyX5_ok : ∀ k, k < 4 → parseFieldDescriptor (TX5 k).2.2.1 = some (tyX5 k) := by decide +kernel
abbrev cX5_init : ByteArray := prog_7_method_1_code
def yX5_init : MethodName := ⟨RX5, "<init>", "()V"⟩
abbrev cX5_putFloor : ByteArray := prog_7_method_2_code
def yX5_putFloor : MethodName := ⟨RX5, "putFloor", "(III)I"⟩
abbrev cX5_putHeight : ByteArray := prog_7_method_3_code
def yX5_putHeight : MethodName := ⟨RX5, "putHeight", "(III)I"⟩
abbrev cX5_putSlope : ByteArray := prog_7_method_4_code
def yX5_putSlope : MethodName := ⟨RX5, "putSlope", "(II)I"⟩
abbrev cX5_putForce : ByteArray := prog_7_method_5_code
def yX5_putForce : MethodName := ⟨RX5, "putForce", "(II)I"⟩
abbrev cX5_floorIn : ByteArray := prog_7_method_6_code
def yX5_floorIn : MethodName := ⟨RX5, "floorIn", "(II)I"⟩
abbrev cX5_waterIn : ByteArray := prog_7_method_7_code
def yX5_waterIn : MethodName := ⟨RX5, "waterIn", "(III)I"⟩
abbrev cX5_isRough : ByteArray := prog_7_method_8_code
def yX5_isRough : MethodName := ⟨RX5, "isRough", "(I)Z"⟩
abbrev cX5_reachFrom : ByteArray := prog_7_method_9_code
def yX5_reachFrom : MethodName := ⟨RX5, "reachFrom", "(II)I"⟩
def RX6 : String := "SwathSurvey"
def TX6 : u_T := fun k => match k with
  | 0 => ("SwathSurvey", "sea", "LSwathSurvey$Sea;", true)
  | 1 => ("SwathSurvey", "gauges", "LSwathSurvey$Gauges;", true)
  | 2 => ("SwathSurvey", "lines", "[LSwathSurvey$Line;", true)
  | 3 => ("SwathSurvey", "lineCount", "I", false)
  | 4 => ("SwathSurvey", "chart", "LSwathSurvey$Chart;", true)
  | _ => ("SwathSurvey", "text", "Ljava/lang/StringBuilder;", true)
def tyX6 : Nat → FieldType := fun k => match k with
  | 0 => .object "SwathSurvey$Sea"
  | 1 => .object "SwathSurvey$Gauges"
  | 2 => .array (.object "SwathSurvey$Line")
  | 3 => .int
  | 4 => .object "SwathSurvey$Chart"
  | _ => .object "java/lang/StringBuilder"
abbrev wsX60 : List Cond := u_ws RX6 TX6 6
theorem nmX6 : ∀ a, a < 6 → ∀ b, b < 6 → a ≠ b → (TX6 a).2.1 ≠ (TX6 b).2.1 := by decide +kernel
theorem tyX6_ok : ∀ k, k < 6 → parseFieldDescriptor (TX6 k).2.2.1 = some (tyX6 k) := by decide +kernel
abbrev cX6_init : ByteArray := prog_1_method_1_code
def yX6_init : MethodName := ⟨RX6, "<init>", "()V"⟩
abbrev cX6_setFloor : ByteArray := prog_1_method_2_code
def yX6_setFloor : MethodName := ⟨RX6, "setFloor", "(III)I"⟩
abbrev cX6_setWater : ByteArray := prog_1_method_3_code
def yX6_setWater : MethodName := ⟨RX6, "setWater", "(III)I"⟩
abbrev cX6_setSlope : ByteArray := prog_1_method_4_code
def yX6_setSlope : MethodName := ⟨RX6, "setSlope", "(II)I"⟩
abbrev cX6_waterAt : ByteArray := prog_1_method_5_code
def yX6_waterAt : MethodName := ⟨RX6, "waterAt", "(III)I"⟩
abbrev cX6_setWeather : ByteArray := prog_1_method_6_code
def yX6_setWeather : MethodName := ⟨RX6, "setWeather", "(II)I"⟩
abbrev cX6_addGauge : ByteArray := prog_1_method_7_code
def yX6_addGauge : MethodName := ⟨RX6, "addGauge", "(I)I"⟩
abbrev cX6_fail : ByteArray := prog_1_method_8_code
def yX6_fail : MethodName := ⟨RX6, "fail", "(IIII)I"⟩
abbrev cX6_mend : ByteArray := prog_1_method_9_code
def yX6_mend : MethodName := ⟨RX6, "mend", "(II)I"⟩
abbrev cX6_told : ByteArray := prog_1_method_10_code
def yX6_told : MethodName := ⟨RX6, "told", "(III)I"⟩
abbrev cX6_tide : ByteArray := prog_1_method_11_code
def yX6_tide : MethodName := ⟨RX6, "tide", "(III)I"⟩
abbrev cX6_run : ByteArray := prog_1_method_12_code
def yX6_run : MethodName := ⟨RX6, "run", "(CIIIII)I"⟩
abbrev cX6_runAnew : ByteArray := prog_1_method_13_code
def yX6_runAnew : MethodName := ⟨RX6, "runAnew", "(III)I"⟩
abbrev cX6_disturb : ByteArray := prog_1_method_14_code
def yX6_disturb : MethodName := ⟨RX6, "disturb", "(IIII)I"⟩
abbrev cX6_soundings : ByteArray := prog_1_method_15_code
def yX6_soundings : MethodName := ⟨RX6, "soundings", "(I)I"⟩
abbrev cX6_sounding : ByteArray := prog_1_method_16_code
def yX6_sounding : MethodName := ⟨RX6, "sounding", "(III)I"⟩
abbrev cX6_reduced : ByteArray := prog_1_method_17_code
def yX6_reduced : MethodName := ⟨RX6, "reduced", "(III)I"⟩
abbrev cX6_isSpike : ByteArray := prog_1_method_18_code
def yX6_isSpike : MethodName := ⟨RX6, "isSpike", "(III)Z"⟩
abbrev cX6_spikes : ByteArray := prog_1_method_19_code
def yX6_spikes : MethodName := ⟨RX6, "spikes", "(I)I"⟩
abbrev cX6_lost : ByteArray := prog_1_method_20_code
def yX6_lost : MethodName := ⟨RX6, "lost", "(I)I"⟩
abbrev cX6_depth : ByteArray := prog_1_method_21_code
def yX6_depth : MethodName := ⟨RX6, "depth", "(II)I"⟩
abbrev cX6_depthAnew : ByteArray := prog_1_method_22_code
def yX6_depthAnew : MethodName := ⟨RX6, "depthAnew", "(II)I"⟩
abbrev cX6_charted : ByteArray := prog_1_method_23_code
def yX6_charted : MethodName := ⟨RX6, "charted", "()I"⟩
abbrev cX6_gap : ByteArray := prog_1_method_24_code
def yX6_gap : MethodName := ⟨RX6, "gap", "(I)I"⟩
abbrev cX6_bestRow : ByteArray := prog_1_method_25_code
def yX6_bestRow : MethodName := ⟨RX6, "bestRow", "()I"⟩
abbrev cX6_lines : ByteArray := prog_1_method_26_code
def yX6_lines : MethodName := ⟨RX6, "lines", "()I"⟩
abbrev cX6_dayOf : ByteArray := prog_1_method_27_code
def yX6_dayOf : MethodName := ⟨RX6, "dayOf", "(I)I"⟩
abbrev cX6_toRun : ByteArray := prog_1_method_28_code
def yX6_toRun : MethodName := ⟨RX6, "toRun", "()I"⟩
abbrev cX6_worstCross : ByteArray := prog_1_method_30_code
def yX6_worstCross : MethodName := ⟨RX6, "worstCross", "()I"⟩
abbrev cX6_hours : ByteArray := prog_1_method_31_code
def yX6_hours : MethodName := ⟨RX6, "hours", "(I)I"⟩
abbrev cX6_hire : ByteArray := prog_1_method_32_code
def yX6_hire : MethodName := ⟨RX6, "hire", "()J"⟩
abbrev cX6_chartedShare : ByteArray := prog_1_method_33_code
def yX6_chartedShare : MethodName := ⟨RX6, "chartedShare", "()F"⟩
abbrev cX6_meanDepth : ByteArray := prog_1_method_34_code
def yX6_meanDepth : MethodName := ⟨RX6, "meanDepth", "()D"⟩
abbrev cX6_writeLine : ByteArray := prog_1_method_35_code
def yX6_writeLine : MethodName := ⟨RX6, "writeLine", "(I)I"⟩
abbrev cX6_textAt : ByteArray := prog_1_method_36_code
def yX6_textAt : MethodName := ⟨RX6, "textAt", "(I)C"⟩
abbrev cX6_isSure : ByteArray := prog_1_method_37_code
def yX6_isSure : MethodName := ⟨RX6, "isSure", "()Z"⟩
abbrev cX6_requireCell : ByteArray := prog_1_method_38_code
def yX6_requireCell : MethodName := ⟨RX6, "requireCell", "(II)V"⟩
abbrev cX6_requireColumn : ByteArray := prog_1_method_39_code
def yX6_requireColumn : MethodName := ⟨RX6, "requireColumn", "(I)V"⟩
abbrev cX6_requireDay : ByteArray := prog_1_method_40_code
def yX6_requireDay : MethodName := ⟨RX6, "requireDay", "(I)V"⟩
abbrev cX6_requireHour : ByteArray := prog_1_method_41_code
def yX6_requireHour : MethodName := ⟨RX6, "requireHour", "(II)V"⟩
abbrev cX6_requireWay : ByteArray := prog_1_method_42_code
def yX6_requireWay : MethodName := ⟨RX6, "requireWay", "(ZIII)V"⟩
abbrev cX6_requireCalm : ByteArray := prog_1_method_43_code
def yX6_requireCalm : MethodName := ⟨RX6, "requireCalm", "(I)V"⟩
abbrev cX6_requireDepth : ByteArray := prog_1_method_44_code
def yX6_requireDepth : MethodName := ⟨RX6, "requireDepth", "(I)I"⟩
abbrev cX6_requireGauge : ByteArray := prog_1_method_45_code
def yX6_requireGauge : MethodName := ⟨RX6, "requireGauge", "(I)LSwathSurvey$Gauge;"⟩
abbrev cX6_requireLine : ByteArray := prog_1_method_46_code
def yX6_requireLine : MethodName := ⟨RX6, "requireLine", "(I)LSwathSurvey$Line;"⟩
abbrev cX6_requireSounded : ByteArray := prog_1_method_47_code
def yX6_requireSounded : MethodName := ⟨RX6, "requireSounded", "(III)LSwathSurvey$Line;"⟩
abbrev cX6_cellNumber : ByteArray := prog_1_method_48_code
def yX6_cellNumber : MethodName := ⟨RX6, "cellNumber", "(II)I"⟩
abbrev cX6_hourNumber : ByteArray := prog_1_method_49_code
def yX6_hourNumber : MethodName := ⟨RX6, "hourNumber", "(II)I"⟩
abbrev cX6_between : ByteArray := prog_1_method_50_code
def yX6_between : MethodName := ⟨RX6, "between", "(IIII)I"⟩
abbrev cX6_lineOrNull : ByteArray := prog_1_method_51_code
def yX6_lineOrNull : MethodName := ⟨RX6, "lineOrNull", "(I)LSwathSurvey$Line;"⟩
abbrev cX6_refresh : ByteArray := prog_1_method_52_code
def yX6_refresh : MethodName := ⟨RX6, "refresh", "()V"⟩
abbrev cX6_reduceLines : ByteArray := prog_1_method_53_code
def yX6_reduceLines : MethodName := ⟨RX6, "reduceLines", "()V"⟩
abbrev cX6_leastDepth : ByteArray := prog_1_method_54_code
def yX6_leastDepth : MethodName := ⟨RX6, "leastDepth", "(II)I"⟩
abbrev cX6_gainOfRow : ByteArray := prog_1_method_55_code
def yX6_gainOfRow : MethodName := ⟨RX6, "gainOfRow", "(I)I"⟩
abbrev cX6_hoursBehind : ByteArray := prog_1_method_56_code
def yX6_hoursBehind : MethodName := ⟨RX6, "hoursBehind", "(II)I"⟩
abbrev cX6_isFree : ByteArray := prog_1_method_57_code
def yX6_isFree : MethodName := ⟨RX6, "isFree", "(LSwathSurvey$Line;III)Z"⟩
abbrev cX6_misfit : ByteArray := prog_1_method_58_code
def yX6_misfit : MethodName := ⟨RX6, "misfit", "(LSwathSurvey$Line;LSwathSurvey$Line;)I"⟩
abbrev cX6_hoursOn : ByteArray := prog_1_method_59_code
def yX6_hoursOn : MethodName := ⟨RX6, "hoursOn", "(I)I"⟩
abbrev cX6_lastDay : ByteArray := prog_1_method_60_code
def yX6_lastDay : MethodName := ⟨RX6, "lastDay", "()I"⟩
abbrev cX6_costOf : ByteArray := prog_1_method_61_code
def yX6_costOf : MethodName := ⟨RX6, "costOf", "(I)I"⟩
def RX7 : String := "SwathSurveyLaw$Draw"
def TX7 : u_T := fun k => match k with
  | _ => ("SwathSurveyLaw$Draw", "state", "I", false)
def tyX7 : Nat → FieldType := fun k => match k with
  | _ => .int
abbrev wsX70 : List Cond := u_ws RX7 TX7 1
theorem nmX7 : ∀ a, a < 1 → ∀ b, b < 1 → a ≠ b → (TX7 a).2.1 ≠ (TX7 b).2.1 := by decide +kernel
theorem tyX7_ok : ∀ k, k < 1 → parseFieldDescriptor (TX7 k).2.2.1 = some (tyX7 k) := by decide +kernel
abbrev cX7_init : ByteArray := prog_9_method_1_code
def yX7_init : MethodName := ⟨RX7, "<init>", "(I)V"⟩
abbrev cX7_next : ByteArray := prog_9_method_2_code
def yX7_next : MethodName := ⟨RX7, "next", "(I)I"⟩
def RX8 : String := "SwathSurveyModel"
def TX8 : u_T := fun k => match k with
  | _ => ("", "", "", false)
def tyX8 : Nat → FieldType := fun k => match k with
  | _ => .int
abbrev wsX80 : List Cond := u_ws RX8 TX8 0
theorem nmX8 : ∀ a, a < 0 → ∀ b, b < 0 → a ≠ b → (TX8 a).2.1 ≠ (TX8 b).2.1 := by decide +kernel
theorem tyX8_ok : ∀ k, k < 0 → parseFieldDescriptor (TX8 k).2.2.1 = some (tyX8 k) := by decide +kernel
def RJx145de : String := "java/io/Serializable"
def TJx145de : u_T := fun k => match k with
  | _ => ("", "", "", false)
def tyJx145de : Nat → FieldType := fun k => match k with
  | _ => .int
abbrev wsJx145de0 : List Cond := u_ws RJx145de TJx145de 0
theorem nmJx145de : ∀ a, a < 0 → ∀ b, b < 0 → a ≠ b → (TJx145de a).2.1 ≠ (TJx145de b).2.1 := by decide +kernel
theorem tyJx145de_ok : ∀ k, k < 0 → parseFieldDescriptor (TJx145de k).2.2.1 = some (tyJx145de k) := by decide +kernel
def RJ5 : String := "java/lang/AbstractStringBuilder"
def TJ5 : u_T := fun k => match k with
  | _ => ("", "", "", false)
def tyJ5 : Nat → FieldType := fun k => match k with
  | _ => .int
abbrev wsJ50 : List Cond := u_ws RJ5 TJ5 0
theorem nmJ5 : ∀ a, a < 0 → ∀ b, b < 0 → a ≠ b → (TJ5 a).2.1 ≠ (TJ5 b).2.1 := by decide +kernel
theorem tyJ5_ok : ∀ k, k < 0 → parseFieldDescriptor (TJ5 k).2.2.1 = some (tyJ5 k) := by decide +kernel
abbrev cJ5_init_d00df : ByteArray := prog_12_method_2_code
def yJ5_init_d00df : MethodName := ⟨RJ5, "<init>", "(I)V"⟩
abbrev cJ5_length_8abf5 : ByteArray := prog_12_method_6_code
def yJ5_length_8abf5 : MethodName := ⟨RJ5, "length", "()I"⟩
abbrev cJ5_ensureCapacityInternal_d00df : ByteArray := prog_12_method_9_code
def yJ5_ensureCapacityInternal_d00df : MethodName := ⟨RJ5, "ensureCapacityInternal", "(I)V"⟩
abbrev cJ5_newCapacity_0f7a4 : ByteArray := prog_12_method_10_code
def yJ5_newCapacity_0f7a4 : MethodName := ⟨RJ5, "newCapacity", "(I)I"⟩
abbrev cJ5_inflate_da8c8 : ByteArray := prog_12_method_11_code
def yJ5_inflate_da8c8 : MethodName := ⟨RJ5, "inflate", "()V"⟩
abbrev cJ5_setLength_d00df : ByteArray := prog_12_method_13_code
def yJ5_setLength_d00df : MethodName := ⟨RJ5, "setLength", "(I)V"⟩
abbrev cJ5_charAt_5068e : ByteArray := prog_12_method_14_code
def yJ5_charAt_5068e : MethodName := ⟨RJ5, "charAt", "(I)C"⟩
abbrev cJ5_append_cf1ce : ByteArray := prog_12_method_22_code
def yJ5_append_cf1ce : MethodName := ⟨RJ5, "append", "(Ljava/lang/String;)Ljava/lang/AbstractStringBuilder;"⟩
abbrev cJ5_append_2ceeb : ByteArray := prog_12_method_24_code
def yJ5_append_2ceeb : MethodName := ⟨RJ5, "append", "(Ljava/lang/AbstractStringBuilder;)Ljava/lang/AbstractStringBuilder;"⟩
abbrev cJ5_append_8f9a3 : ByteArray := prog_12_method_25_code
def yJ5_append_8f9a3 : MethodName := ⟨RJ5, "append", "(Ljava/lang/CharSequence;)Ljava/lang/AbstractStringBuilder;"⟩
abbrev cJ5_appendNull_278bc : ByteArray := prog_12_method_26_code
def yJ5_appendNull_278bc : MethodName := ⟨RJ5, "appendNull", "()Ljava/lang/AbstractStringBuilder;"⟩
abbrev cJ5_append_e1f22 : ByteArray := prog_12_method_27_code
def yJ5_append_e1f22 : MethodName := ⟨RJ5, "append", "(Ljava/lang/CharSequence;II)Ljava/lang/AbstractStringBuilder;"⟩
abbrev cJ5_append_a1634 : ByteArray := prog_12_method_28_code
def yJ5_append_a1634 : MethodName := ⟨RJ5, "append", "([C)Ljava/lang/AbstractStringBuilder;"⟩
abbrev cJ5_append_3fe6f : ByteArray := prog_12_method_31_code
def yJ5_append_3fe6f : MethodName := ⟨RJ5, "append", "(C)Ljava/lang/AbstractStringBuilder;"⟩
abbrev cJ5_append_c97b9 : ByteArray := prog_12_method_32_code
def yJ5_append_c97b9 : MethodName := ⟨RJ5, "append", "(I)Ljava/lang/AbstractStringBuilder;"⟩
abbrev cJ5_append_66267 : ByteArray := prog_12_method_33_code
def yJ5_append_66267 : MethodName := ⟨RJ5, "append", "(J)Ljava/lang/AbstractStringBuilder;"⟩
abbrev cJ5_append_b089e : ByteArray := prog_12_method_34_code
def yJ5_append_b089e : MethodName := ⟨RJ5, "append", "(F)Ljava/lang/AbstractStringBuilder;"⟩
abbrev cJ5_append_9cb98 : ByteArray := prog_12_method_35_code
def yJ5_append_9cb98 : MethodName := ⟨RJ5, "append", "(D)Ljava/lang/AbstractStringBuilder;"⟩
abbrev cJ5_getValue_6d5f1 : ByteArray := prog_12_method_64_code
def yJ5_getValue_6d5f1 : MethodName := ⟨RJ5, "getValue", "()[B"⟩
abbrev cJ5_getBytes_840e7 : ByteArray := prog_12_method_65_code
def yJ5_getBytes_840e7 : MethodName := ⟨RJ5, "getBytes", "([BIB)V"⟩
abbrev cJ5_getCoder_7d493 : ByteArray := prog_12_method_67_code
def yJ5_getCoder_7d493 : MethodName := ⟨RJ5, "getCoder", "()B"⟩
abbrev cJ5_isLatin1_aae02 : ByteArray := prog_12_method_68_code
def yJ5_isLatin1_aae02 : MethodName := ⟨RJ5, "isLatin1", "()Z"⟩
abbrev cJ5_inflateIfNeededFor_a7421 : ByteArray := prog_12_method_71_code
def yJ5_inflateIfNeededFor_a7421 : MethodName := ⟨RJ5, "inflateIfNeededFor", "(Ljava/lang/String;)V"⟩
abbrev cJ5_inflateIfNeededFor_56e69 : ByteArray := prog_12_method_72_code
def yJ5_inflateIfNeededFor_56e69 : MethodName := ⟨RJ5, "inflateIfNeededFor", "(Ljava/lang/AbstractStringBuilder;)V"⟩
abbrev cJ5_putStringAt_47b60 : ByteArray := prog_12_method_73_code
def yJ5_putStringAt_47b60 : MethodName := ⟨RJ5, "putStringAt", "(ILjava/lang/String;)V"⟩
abbrev cJ5_appendChars_0ad70 : ByteArray := prog_12_method_74_code
def yJ5_appendChars_0ad70 : MethodName := ⟨RJ5, "appendChars", "([CII)V"⟩
abbrev cJ5_appendChars_3135b : ByteArray := prog_12_method_75_code
def yJ5_appendChars_3135b : MethodName := ⟨RJ5, "appendChars", "(Ljava/lang/String;II)V"⟩
abbrev cJ5_appendChars_a91ff : ByteArray := prog_12_method_76_code
def yJ5_appendChars_a91ff : MethodName := ⟨RJ5, "appendChars", "(Ljava/lang/CharSequence;II)V"⟩
def RJx2cfe8 : String := "java/lang/Appendable"
def TJx2cfe8 : u_T := fun k => match k with
  | _ => ("", "", "", false)
def tyJx2cfe8 : Nat → FieldType := fun k => match k with
  | _ => .int
abbrev wsJx2cfe80 : List Cond := u_ws RJx2cfe8 TJx2cfe8 0
theorem nmJx2cfe8 : ∀ a, a < 0 → ∀ b, b < 0 → a ≠ b → (TJx2cfe8 a).2.1 ≠ (TJx2cfe8 b).2.1 := by decide +kernel
theorem tyJx2cfe8_ok : ∀ k, k < 0 → parseFieldDescriptor (TJx2cfe8 k).2.2.1 = some (tyJx2cfe8 k) := by decide +kernel
def RJx00060 : String := "java/lang/ArrayIndexOutOfBoundsException"
def TJx00060 : u_T := fun k => match k with
  | 0 => ("java/lang/Throwable", "backtrace", "Ljava/lang/Object;", false)
  | 1 => ("java/lang/Throwable", "detailMessage", "Ljava/lang/String;", false)
  | 2 => ("java/lang/Throwable", "cause", "Ljava/lang/Throwable;", false)
  | 3 => ("java/lang/Throwable", "stackTrace", "[Ljava/lang/StackTraceElement;", false)
  | 4 => ("java/lang/Throwable", "depth", "I", false)
  | _ => ("java/lang/Throwable", "suppressedExceptions", "Ljava/util/List;", false)
def tyJx00060 : Nat → FieldType := fun k => match k with
  | 0 => .object "java/lang/Object"
  | 1 => .object "java/lang/String"
  | 2 => .object "java/lang/Throwable"
  | 3 => .array (.object "java/lang/StackTraceElement")
  | 4 => .int
  | _ => .object "java/util/List"
abbrev wsJx000600 : List Cond := u_ws RJx00060 TJx00060 6
theorem nmJx00060 : ∀ a, a < 6 → ∀ b, b < 6 → a ≠ b → (TJx00060 a).2.1 ≠ (TJx00060 b).2.1 := by decide +kernel
theorem tyJx00060_ok : ∀ k, k < 6 → parseFieldDescriptor (TJx00060 k).2.2.1 = some (tyJx00060 k) := by decide +kernel
abbrev cJx00060_init_a7421 : ByteArray := prog_15_method_2_code
def yJx00060_init_a7421 : MethodName := ⟨RJx00060, "<init>", "(Ljava/lang/String;)V"⟩
abbrev cJx00060_init_d00df : ByteArray := prog_15_method_3_code
def yJx00060_init_d00df : MethodName := ⟨RJx00060, "<init>", "(I)V"⟩
def RJx9f9b0 : String := "java/lang/CharSequence"
def TJx9f9b0 : u_T := fun k => match k with
  | _ => ("", "", "", false)
def tyJx9f9b0 : Nat → FieldType := fun k => match k with
  | _ => .int
abbrev wsJx9f9b00 : List Cond := u_ws RJx9f9b0 TJx9f9b0 0
theorem nmJx9f9b0 : ∀ a, a < 0 → ∀ b, b < 0 → a ≠ b → (TJx9f9b0 a).2.1 ≠ (TJx9f9b0 b).2.1 := by decide +kernel
theorem tyJx9f9b0_ok : ∀ k, k < 0 → parseFieldDescriptor (TJx9f9b0 k).2.2.1 = some (tyJx9f9b0 k) := by decide +kernel
def RJx8e188 : String := "java/lang/Cloneable"
def TJx8e188 : u_T := fun k => match k with
  | _ => ("", "", "", false)
def tyJx8e188 : Nat → FieldType := fun k => match k with
  | _ => .int
abbrev wsJx8e1880 : List Cond := u_ws RJx8e188 TJx8e188 0
theorem nmJx8e188 : ∀ a, a < 0 → ∀ b, b < 0 → a ≠ b → (TJx8e188 a).2.1 ≠ (TJx8e188 b).2.1 := by decide +kernel
theorem tyJx8e188_ok : ∀ k, k < 0 → parseFieldDescriptor (TJx8e188 k).2.2.1 = some (tyJx8e188 k) := by decide +kernel
def RJxb160c : String := "java/lang/Comparable"
def TJxb160c : u_T := fun k => match k with
  | _ => ("", "", "", false)
def tyJxb160c : Nat → FieldType := fun k => match k with
  | _ => .int
abbrev wsJxb160c0 : List Cond := u_ws RJxb160c TJxb160c 0
theorem nmJxb160c : ∀ a, a < 0 → ∀ b, b < 0 → a ≠ b → (TJxb160c a).2.1 ≠ (TJxb160c b).2.1 := by decide +kernel
theorem tyJxb160c_ok : ∀ k, k < 0 → parseFieldDescriptor (TJxb160c k).2.2.1 = some (tyJxb160c k) := by decide +kernel
def RJxe99ae : String := "java/lang/Double"
def TJxe99ae : u_T := fun k => match k with
  | _ => ("", "", "", false)
def tyJxe99ae : Nat → FieldType := fun k => match k with
  | _ => .int
abbrev wsJxe99ae0 : List Cond := u_ws RJxe99ae TJxe99ae 0
theorem nmJxe99ae : ∀ a, a < 0 → ∀ b, b < 0 → a ≠ b → (TJxe99ae a).2.1 ≠ (TJxe99ae b).2.1 := by decide +kernel
theorem tyJxe99ae_ok : ∀ k, k < 0 → parseFieldDescriptor (TJxe99ae k).2.2.1 = some (tyJxe99ae k) := by decide +kernel
def RJxf58ca : String := "java/lang/Float"
def TJxf58ca : u_T := fun k => match k with
  | _ => ("", "", "", false)
def tyJxf58ca : Nat → FieldType := fun k => match k with
  | _ => .int
abbrev wsJxf58ca0 : List Cond := u_ws RJxf58ca TJxf58ca 0
theorem nmJxf58ca : ∀ a, a < 0 → ∀ b, b < 0 → a ≠ b → (TJxf58ca a).2.1 ≠ (TJxf58ca b).2.1 := by decide +kernel
theorem tyJxf58ca_ok : ∀ k, k < 0 → parseFieldDescriptor (TJxf58ca k).2.2.1 = some (tyJxf58ca k) := by decide +kernel
def RJ6 : String := "java/lang/Integer"
def TJ6 : u_T := fun k => match k with
  | _ => ("", "", "", false)
def tyJ6 : Nat → FieldType := fun k => match k with
  | _ => .int
abbrev wsJ60 : List Cond := u_ws RJ6 TJ6 0
theorem nmJ6 : ∀ a, a < 0 → ∀ b, b < 0 → a ≠ b → (TJ6 a).2.1 ≠ (TJ6 b).2.1 := by decide +kernel
theorem tyJ6_ok : ∀ k, k < 0 → parseFieldDescriptor (TJ6 k).2.2.1 = some (tyJ6 k) := by decide +kernel
abbrev cJ6_getChars_ba4f3 : ByteArray := prog_25_method_12_code
def yJ6_getChars_ba4f3 : MethodName := ⟨RJ6, "getChars", "(II[B)I"⟩
abbrev cJ6_stringSize_0f7a4 : ByteArray := prog_25_method_13_code
def yJ6_stringSize_0f7a4 : MethodName := ⟨RJ6, "stringSize", "(I)I"⟩
abbrev cJ6_numberOfLeadingZeros_0f7a4 : ByteArray := prog_25_method_47_code
def yJ6_numberOfLeadingZeros_0f7a4 : MethodName := ⟨RJ6, "numberOfLeadingZeros", "(I)I"⟩
def RJ13 : String := "java/lang/Long"
def TJ13 : u_T := fun k => match k with
  | _ => ("", "", "", false)
def tyJ13 : Nat → FieldType := fun k => match k with
  | _ => .int
abbrev wsJ130 : List Cond := u_ws RJ13 TJ13 0
theorem nmJ13 : ∀ a, a < 0 → ∀ b, b < 0 → a ≠ b → (TJ13 a).2.1 ≠ (TJ13 b).2.1 := by decide +kernel
theorem tyJ13_ok : ∀ k, k < 0 → parseFieldDescriptor (TJ13 k).2.2.1 = some (tyJ13 k) := by decide +kernel
abbrev cJ13_getChars_11360 : ByteArray := prog_26_method_14_code
def yJ13_getChars_11360 : MethodName := ⟨RJ13, "getChars", "(JI[B)I"⟩
abbrev cJ13_stringSize_95d88 : ByteArray := prog_26_method_15_code
def yJ13_stringSize_95d88 : MethodName := ⟨RJ13, "stringSize", "(J)I"⟩
abbrev cJ13_numberOfLeadingZeros_95d88 : ByteArray := prog_26_method_48_code
def yJ13_numberOfLeadingZeros_95d88 : MethodName := ⟨RJ13, "numberOfLeadingZeros", "(J)I"⟩
def RJ9 : String := "java/lang/Math"
def TJ9 : u_T := fun k => match k with
  | _ => ("", "", "", false)
def tyJ9 : Nat → FieldType := fun k => match k with
  | _ => .int
abbrev wsJ90 : List Cond := u_ws RJ9 TJ9 0
theorem nmJ9 : ∀ a, a < 0 → ∀ b, b < 0 → a ≠ b → (TJ9 a).2.1 ≠ (TJ9 b).2.1 := by decide +kernel
theorem tyJ9_ok : ∀ k, k < 0 → parseFieldDescriptor (TJ9 k).2.2.1 = some (tyJ9 k) := by decide +kernel
abbrev cJ9_multiplyHigh_f86c9 : ByteArray := prog_27_method_45_code
def yJ9_multiplyHigh_f86c9 : MethodName := ⟨RJ9, "multiplyHigh", "(JJ)J"⟩
abbrev cJ9_floorDiv_7cf53 : ByteArray := prog_27_method_47_code
def yJ9_floorDiv_7cf53 : MethodName := ⟨RJ9, "floorDiv", "(II)I"⟩
abbrev cJ9_abs_0f7a4 : ByteArray := prog_27_method_59_code
def yJ9_abs_0f7a4 : MethodName := ⟨RJ9, "abs", "(I)I"⟩
abbrev cJ9_max_7cf53 : ByteArray := prog_27_method_65_code
def yJ9_max_7cf53 : MethodName := ⟨RJ9, "max", "(II)I"⟩
abbrev cJ9_min_7cf53 : ByteArray := prog_27_method_69_code
def yJ9_min_7cf53 : MethodName := ⟨RJ9, "min", "(II)I"⟩
def RJxd2413 : String := "java/lang/Number"
def TJxd2413 : u_T := fun k => match k with
  | _ => ("", "", "", false)
def tyJxd2413 : Nat → FieldType := fun k => match k with
  | _ => .int
abbrev wsJxd24130 : List Cond := u_ws RJxd2413 TJxd2413 0
theorem nmJxd2413 : ∀ a, a < 0 → ∀ b, b < 0 → a ≠ b → (TJxd2413 a).2.1 ≠ (TJxd2413 b).2.1 := by decide +kernel
theorem tyJxd2413_ok : ∀ k, k < 0 → parseFieldDescriptor (TJxd2413 k).2.2.1 = some (tyJxd2413 k) := by decide +kernel
def RJ0 : String := "java/lang/String"
def TJ0 : u_T := fun k => match k with
  | 0 => ("java/lang/String", "value", "[B", true)
  | 1 => ("java/lang/String", "coder", "B", true)
  | 2 => ("java/lang/String", "hash", "I", false)
  | _ => ("java/lang/String", "hashIsZero", "Z", false)
def tyJ0 : Nat → FieldType := fun k => match k with
  | 0 => .array .byte
  | 1 => .byte
  | 2 => .int
  | _ => .boolean
abbrev wsJ00 : List Cond := u_ws RJ0 TJ0 4
theorem nmJ0 : ∀ a, a < 4 → ∀ b, b < 4 → a ≠ b → (TJ0 a).2.1 ≠ (TJ0 b).2.1 := by decide +kernel
theorem tyJ0_ok : ∀ k, k < 4 → parseFieldDescriptor (TJ0 k).2.2.1 = some (tyJ0 k) := by decide +kernel
abbrev cJ0_init_81219 : ByteArray := prog_30_method_53_code
def yJ0_init_81219 : MethodName := ⟨RJ0, "<init>", "(Ljava/lang/StringBuilder;)V"⟩
abbrev cJ0_length_8abf5 : ByteArray := prog_30_method_54_code
def yJ0_length_8abf5 : MethodName := ⟨RJ0, "length", "()I"⟩
abbrev cJ0_charAt_5068e : ByteArray := prog_30_method_56_code
def yJ0_charAt_5068e : MethodName := ⟨RJ0, "charAt", "(I)C"⟩
abbrev cJ0_equals_9ea2d : ByteArray := prog_30_method_66_code
def yJ0_equals_9ea2d : MethodName := ⟨RJ0, "equals", "(Ljava/lang/Object;)Z"⟩
abbrev cJ0_getBytes_840e7 : ByteArray := prog_30_method_147_code
def yJ0_getBytes_840e7 : MethodName := ⟨RJ0, "getBytes", "([BIB)V"⟩
abbrev cJ0_init_db425 : ByteArray := prog_30_method_150_code
def yJ0_init_db425 : MethodName := ⟨RJ0, "<init>", "(Ljava/lang/AbstractStringBuilder;Ljava/lang/Void;)V"⟩
abbrev cJ0_coder_7d493 : ByteArray := prog_30_method_152_code
def yJ0_coder_7d493 : MethodName := ⟨RJ0, "coder", "()B"⟩
abbrev cJ0_value_6d5f1 : ByteArray := prog_30_method_153_code
def yJ0_value_6d5f1 : MethodName := ⟨RJ0, "value", "()[B"⟩
abbrev cJ0_isLatin1_aae02 : ByteArray := prog_30_method_154_code
def yJ0_isLatin1_aae02 : MethodName := ⟨RJ0, "isLatin1", "()Z"⟩
abbrev cJ0_checkIndex_df160 : ByteArray := prog_30_method_155_code
def yJ0_checkIndex_df160 : MethodName := ⟨RJ0, "checkIndex", "(II)V"⟩
abbrev cJ0_checkBoundsOffCount_cabcc : ByteArray := prog_30_method_157_code
def yJ0_checkBoundsOffCount_cabcc : MethodName := ⟨RJ0, "checkBoundsOffCount", "(III)I"⟩
abbrev cJ0_checkBoundsBeginEnd_23922 : ByteArray := prog_30_method_158_code
def yJ0_checkBoundsBeginEnd_23922 : MethodName := ⟨RJ0, "checkBoundsBeginEnd", "(III)V"⟩
def RJxe8eeb : String := "java/lang/StringBuffer"
def TJxe8eeb : u_T := fun k => match k with
  | _ => ("", "", "", false)
def tyJxe8eeb : Nat → FieldType := fun k => match k with
  | _ => .int
abbrev wsJxe8eeb0 : List Cond := u_ws RJxe8eeb TJxe8eeb 0
theorem nmJxe8eeb : ∀ a, a < 0 → ∀ b, b < 0 → a ≠ b → (TJxe8eeb a).2.1 ≠ (TJxe8eeb b).2.1 := by decide +kernel
theorem tyJxe8eeb_ok : ∀ k, k < 0 → parseFieldDescriptor (TJxe8eeb k).2.2.1 = some (tyJxe8eeb k) := by decide +kernel
abbrev cJxe8eeb_append_b568b : ByteArray := prog_31_method_24_code
def yJxe8eeb_append_b568b : MethodName := ⟨RJxe8eeb, "append", "([C)Ljava/lang/StringBuffer;"⟩
def RJ4 : String := "java/lang/StringBuilder"
def TJ4 : u_T := fun k => match k with
  | 0 => ("java/lang/AbstractStringBuilder", "value", "[B", false)
  | 1 => ("java/lang/AbstractStringBuilder", "coder", "B", false)
  | 2 => ("java/lang/AbstractStringBuilder", "maybeLatin1", "Z", false)
  | _ => ("java/lang/AbstractStringBuilder", "count", "I", false)
def tyJ4 : Nat → FieldType := fun k => match k with
  | 0 => .array .byte
  | 1 => .byte
  | 2 => .boolean
  | _ => .int
abbrev wsJ40 : List Cond := u_ws RJ4 TJ4 4
theorem nmJ4 : ∀ a, a < 4 → ∀ b, b < 4 → a ≠ b → (TJ4 a).2.1 ≠ (TJ4 b).2.1 := by decide +kernel
theorem tyJ4_ok : ∀ k, k < 4 → parseFieldDescriptor (TJ4 k).2.2.1 = some (tyJ4 k) := by decide +kernel
abbrev cJ4_init_da8c8 : ByteArray := prog_32_method_1_code
def yJ4_init_da8c8 : MethodName := ⟨RJ4, "<init>", "()V"⟩
abbrev cJ4_append_15ec4 : ByteArray := prog_32_method_7_code
def yJ4_append_15ec4 : MethodName := ⟨RJ4, "append", "(Ljava/lang/String;)Ljava/lang/StringBuilder;"⟩
abbrev cJ4_append_1fab5 : ByteArray := prog_32_method_9_code
def yJ4_append_1fab5 : MethodName := ⟨RJ4, "append", "(Ljava/lang/CharSequence;)Ljava/lang/StringBuilder;"⟩
abbrev cJ4_append_69d29 : ByteArray := prog_32_method_10_code
def yJ4_append_69d29 : MethodName := ⟨RJ4, "append", "(Ljava/lang/CharSequence;II)Ljava/lang/StringBuilder;"⟩
abbrev cJ4_append_37e8c : ByteArray := prog_32_method_11_code
def yJ4_append_37e8c : MethodName := ⟨RJ4, "append", "([C)Ljava/lang/StringBuilder;"⟩
abbrev cJ4_append_cf468 : ByteArray := prog_32_method_14_code
def yJ4_append_cf468 : MethodName := ⟨RJ4, "append", "(C)Ljava/lang/StringBuilder;"⟩
abbrev cJ4_append_bf812 : ByteArray := prog_32_method_15_code
def yJ4_append_bf812 : MethodName := ⟨RJ4, "append", "(I)Ljava/lang/StringBuilder;"⟩
abbrev cJ4_append_f7089 : ByteArray := prog_32_method_16_code
def yJ4_append_f7089 : MethodName := ⟨RJ4, "append", "(J)Ljava/lang/StringBuilder;"⟩
abbrev cJ4_append_9d4c8 : ByteArray := prog_32_method_17_code
def yJ4_append_9d4c8 : MethodName := ⟨RJ4, "append", "(F)Ljava/lang/StringBuilder;"⟩
abbrev cJ4_append_ec4c5 : ByteArray := prog_32_method_18_code
def yJ4_append_ec4c5 : MethodName := ⟨RJ4, "append", "(D)Ljava/lang/StringBuilder;"⟩
abbrev cJ4_toString_0e30d : ByteArray := prog_32_method_42_code
def yJ4_toString_0e30d : MethodName := ⟨RJ4, "toString", "()Ljava/lang/String;"⟩
abbrev cJ4_append_e1f22 : ByteArray := prog_32_method_77_code
def yJ4_append_e1f22 : MethodName := ⟨RJ4, "append", "(Ljava/lang/CharSequence;II)Ljava/lang/AbstractStringBuilder;"⟩
abbrev cJ4_append_cf1ce : ByteArray := prog_32_method_80_code
def yJ4_append_cf1ce : MethodName := ⟨RJ4, "append", "(Ljava/lang/String;)Ljava/lang/AbstractStringBuilder;"⟩
abbrev cJ4_charAt_5068e : ByteArray := prog_32_method_88_code
def yJ4_charAt_5068e : MethodName := ⟨RJ4, "charAt", "(I)C"⟩
abbrev cJ4_setLength_d00df : ByteArray := prog_32_method_89_code
def yJ4_setLength_d00df : MethodName := ⟨RJ4, "setLength", "(I)V"⟩
abbrev cJ4_length_8abf5 : ByteArray := prog_32_method_93_code
def yJ4_length_8abf5 : MethodName := ⟨RJ4, "length", "()I"⟩
abbrev cJ4_append_b3078 : ByteArray := prog_32_method_94_code
def yJ4_append_b3078 : MethodName := ⟨RJ4, "append", "(C)Ljava/lang/Appendable;"⟩
abbrev cJ4_append_996db : ByteArray := prog_32_method_96_code
def yJ4_append_996db : MethodName := ⟨RJ4, "append", "(Ljava/lang/CharSequence;)Ljava/lang/Appendable;"⟩
def RJx7c733 : String := "java/lang/StringIndexOutOfBoundsException"
def TJx7c733 : u_T := fun k => match k with
  | 0 => ("java/lang/Throwable", "backtrace", "Ljava/lang/Object;", false)
  | 1 => ("java/lang/Throwable", "detailMessage", "Ljava/lang/String;", false)
  | 2 => ("java/lang/Throwable", "cause", "Ljava/lang/Throwable;", false)
  | 3 => ("java/lang/Throwable", "stackTrace", "[Ljava/lang/StackTraceElement;", false)
  | 4 => ("java/lang/Throwable", "depth", "I", false)
  | _ => ("java/lang/Throwable", "suppressedExceptions", "Ljava/util/List;", false)
def tyJx7c733 : Nat → FieldType := fun k => match k with
  | 0 => .object "java/lang/Object"
  | 1 => .object "java/lang/String"
  | 2 => .object "java/lang/Throwable"
  | 3 => .array (.object "java/lang/StackTraceElement")
  | 4 => .int
  | _ => .object "java/util/List"
abbrev wsJx7c7330 : List Cond := u_ws RJx7c733 TJx7c733 6
theorem nmJx7c733 : ∀ a, a < 6 → ∀ b, b < 6 → a ≠ b → (TJx7c733 a).2.1 ≠ (TJx7c733 b).2.1 := by decide +kernel
theorem tyJx7c733_ok : ∀ k, k < 6 → parseFieldDescriptor (TJx7c733 k).2.2.1 = some (tyJx7c733 k) := by decide +kernel
abbrev cJx7c733_init_d00df : ByteArray := prog_33_method_3_code
def yJx7c733_init_d00df : MethodName := ⟨RJx7c733, "<init>", "(I)V"⟩
def RJ1 : String := "java/lang/StringLatin1"
def TJ1 : u_T := fun k => match k with
  | _ => ("", "", "", false)
def tyJ1 : Nat → FieldType := fun k => match k with
  | _ => .int
abbrev wsJ10 : List Cond := u_ws RJ1 TJ1 0
theorem nmJ1 : ∀ a, a < 0 → ∀ b, b < 0 → a ≠ b → (TJ1 a).2.1 ≠ (TJ1 b).2.1 := by decide +kernel
theorem tyJ1_ok : ∀ k, k < 0 → parseFieldDescriptor (TJ1 k).2.2.1 = some (tyJ1 k) := by decide +kernel
abbrev cJ1_charAt_3b067 : ByteArray := prog_34_method_2_code
def yJ1_charAt_3b067 : MethodName := ⟨RJ1, "charAt", "([BI)C"⟩
abbrev cJ1_canEncode_fc78d : ByteArray := prog_34_method_3_code
def yJ1_canEncode_fc78d : MethodName := ⟨RJ1, "canEncode", "(C)Z"⟩
abbrev cJ1_equals_b5fdf : ByteArray := prog_34_method_13_code
def yJ1_equals_b5fdf : MethodName := ⟨RJ1, "equals", "([B[B)Z"⟩
abbrev cJ1_fillNull_b72d1 : ByteArray := prog_34_method_48_code
def yJ1_fillNull_b72d1 : MethodName := ⟨RJ1, "fillNull", "([BII)V"⟩
abbrev cJ1_inflate_0e8fd : ByteArray := prog_34_method_50_code
def yJ1_inflate_0e8fd : MethodName := ⟨RJ1, "inflate", "([BI[BII)V"⟩
def RJ2 : String := "java/lang/StringUTF16"
def TJ2 : u_T := fun k => match k with
  | _ => ("", "", "", false)
def tyJ2 : Nat → FieldType := fun k => match k with
  | _ => .int
abbrev wsJ20 : List Cond := u_ws RJ2 TJ2 0
theorem nmJ2 : ∀ a, a < 0 → ∀ b, b < 0 → a ≠ b → (TJ2 a).2.1 ≠ (TJ2 b).2.1 := by decide +kernel
theorem tyJ2_ok : ∀ k, k < 0 → parseFieldDescriptor (TJ2 k).2.2.1 = some (tyJ2 k) := by decide +kernel
abbrev cJ2_newBytesFor_77867 : ByteArray := prog_35_method_2_code
def yJ2_newBytesFor_77867 : MethodName := ⟨RJ2, "newBytesFor", "(I)[B"⟩
abbrev cJ2_newBytesLength_0f7a4 : ByteArray := prog_35_method_3_code
def yJ2_newBytesLength_0f7a4 : MethodName := ⟨RJ2, "newBytesLength", "(I)I"⟩
abbrev cJ2_putChar_b72d1 : ByteArray := prog_35_method_4_code
def yJ2_putChar_b72d1 : MethodName := ⟨RJ2, "putChar", "([BII)V"⟩
abbrev cJ2_getChar_3b067 : ByteArray := prog_35_method_5_code
def yJ2_getChar_3b067 : MethodName := ⟨RJ2, "getChar", "([BI)C"⟩
abbrev cJ2_length_9d52b : ByteArray := prog_35_method_6_code
def yJ2_length_9d52b : MethodName := ⟨RJ2, "length", "([B)I"⟩
abbrev cJ2_coderFromArrayLen_85cad : ByteArray := prog_35_method_15_code
def yJ2_coderFromArrayLen_85cad : MethodName := ⟨RJ2, "coderFromArrayLen", "([BI)B"⟩
abbrev cJ2_compress_39247 : ByteArray := prog_35_method_17_code
def yJ2_compress_39247 : MethodName := ⟨RJ2, "compress", "([BII)[B"⟩
abbrev cJ2_compress_5af95 : ByteArray := prog_35_method_22_code
def yJ2_compress_5af95 : MethodName := ⟨RJ2, "compress", "([BI[BII)I"⟩
abbrev cJ2_putChars_03870 : ByteArray := prog_35_method_68_code
def yJ2_putChars_03870 : MethodName := ⟨RJ2, "putChars", "([BI[CII)V"⟩
abbrev cJ2_fillNull_b72d1 : ByteArray := prog_35_method_70_code
def yJ2_fillNull_b72d1 : MethodName := ⟨RJ2, "fillNull", "([BII)V"⟩
abbrev cJ2_putCharSB_b72d1 : ByteArray := prog_35_method_71_code
def yJ2_putCharSB_b72d1 : MethodName := ⟨RJ2, "putCharSB", "([BII)V"⟩
abbrev cJ2_putCharsSB_03870 : ByteArray := prog_35_method_72_code
def yJ2_putCharsSB_03870 : MethodName := ⟨RJ2, "putCharsSB", "([BI[CII)V"⟩
abbrev cJ2_putCharsSB_8fd6a : ByteArray := prog_35_method_73_code
def yJ2_putCharsSB_8fd6a : MethodName := ⟨RJ2, "putCharsSB", "([BILjava/lang/CharSequence;II)V"⟩
abbrev cJ2_getChars_46870 : ByteArray := prog_35_method_77_code
def yJ2_getChars_46870 : MethodName := ⟨RJ2, "getChars", "(III[B)I"⟩
abbrev cJ2_getChars_1ba55 : ByteArray := prog_35_method_78_code
def yJ2_getChars_1ba55 : MethodName := ⟨RJ2, "getChars", "(JII[B)I"⟩
abbrev cJ2_putCharsAt_cd4e5 : ByteArray := prog_35_method_81_code
def yJ2_putCharsAt_cd4e5 : MethodName := ⟨RJ2, "putCharsAt", "([BICCCC)I"⟩
abbrev cJ2_charAt_3b067 : ByteArray := prog_35_method_83_code
def yJ2_charAt_3b067 : MethodName := ⟨RJ2, "charAt", "([BI)C"⟩
abbrev cJ2_inflate_0e8fd : ByteArray := prog_35_method_86_code
def yJ2_inflate_0e8fd : MethodName := ⟨RJ2, "inflate", "([BI[BII)V"⟩
abbrev cJ2_getChars_ba4f3 : ByteArray := prog_35_method_89_code
def yJ2_getChars_ba4f3 : MethodName := ⟨RJ2, "getChars", "(II[B)I"⟩
abbrev cJ2_getChars_11360 : ByteArray := prog_35_method_90_code
def yJ2_getChars_11360 : MethodName := ⟨RJ2, "getChars", "(JI[B)I"⟩
abbrev cJ2_checkIndex_2214a : ByteArray := prog_35_method_91_code
def yJ2_checkIndex_2214a : MethodName := ⟨RJ2, "checkIndex", "(I[B)V"⟩
abbrev cJ2_checkBoundsBeginEnd_d044e : ByteArray := prog_35_method_93_code
def yJ2_checkBoundsBeginEnd_d044e : MethodName := ⟨RJ2, "checkBoundsBeginEnd", "(II[B)V"⟩
abbrev cJ2_checkBoundsOffCount_d044e : ByteArray := prog_35_method_94_code
def yJ2_checkBoundsOffCount_d044e : MethodName := ⟨RJ2, "checkBoundsOffCount", "(II[B)V"⟩
def RJ10 : String := "java/lang/System"
def TJ10 : u_T := fun k => match k with
  | _ => ("", "", "", false)
def tyJ10 : Nat → FieldType := fun k => match k with
  | _ => .int
abbrev wsJ100 : List Cond := u_ws RJ10 TJ10 0
theorem nmJ10 : ∀ a, a < 0 → ∀ b, b < 0 → a ≠ b → (TJ10 a).2.1 ≠ (TJ10 b).2.1 := by decide +kernel
theorem tyJ10_ok : ∀ k, k < 0 → parseFieldDescriptor (TJ10 k).2.2.1 = some (tyJ10 k) := by decide +kernel
def RJxfd54e : String := "java/lang/constant/Constable"
def TJxfd54e : u_T := fun k => match k with
  | _ => ("", "", "", false)
def tyJxfd54e : Nat → FieldType := fun k => match k with
  | _ => .int
abbrev wsJxfd54e0 : List Cond := u_ws RJxfd54e TJxfd54e 0
theorem nmJxfd54e : ∀ a, a < 0 → ∀ b, b < 0 → a ≠ b → (TJxfd54e a).2.1 ≠ (TJxfd54e b).2.1 := by decide +kernel
theorem tyJxfd54e_ok : ∀ k, k < 0 → parseFieldDescriptor (TJxfd54e k).2.2.1 = some (tyJxfd54e k) := by decide +kernel
def RJx3cf43 : String := "java/lang/constant/ConstantDesc"
def TJx3cf43 : u_T := fun k => match k with
  | _ => ("", "", "", false)
def tyJx3cf43 : Nat → FieldType := fun k => match k with
  | _ => .int
abbrev wsJx3cf430 : List Cond := u_ws RJx3cf43 TJx3cf43 0
theorem nmJx3cf43 : ∀ a, a < 0 → ∀ b, b < 0 → a ≠ b → (TJx3cf43 a).2.1 ≠ (TJx3cf43 b).2.1 := by decide +kernel
theorem tyJx3cf43_ok : ∀ k, k < 0 → parseFieldDescriptor (TJx3cf43 k).2.2.1 = some (tyJx3cf43 k) := by decide +kernel
def RJ7 : String := "java/util/Arrays"
def TJ7 : u_T := fun k => match k with
  | _ => ("", "", "", false)
def tyJ7 : Nat → FieldType := fun k => match k with
  | _ => .int
abbrev wsJ70 : List Cond := u_ws RJ7 TJ7 0
theorem nmJ7 : ∀ a, a < 0 → ∀ b, b < 0 → a ≠ b → (TJ7 a).2.1 ≠ (TJ7 b).2.1 := by decide +kernel
theorem tyJ7_ok : ∀ k, k < 0 → parseFieldDescriptor (TJ7 k).2.2.1 = some (tyJ7 k) := by decide +kernel
abbrev cJ7_rangeCheck_23922 : ByteArray := prog_41_method_30_code
def yJ7_rangeCheck_23922 : MethodName := ⟨RJ7, "rangeCheck", "(III)V"⟩
abbrev cJ7_fill_53178 : ByteArray := prog_41_method_103_code
def yJ7_fill_53178 : MethodName := ⟨RJ7, "fill", "([II)V"⟩
abbrev cJ7_fill_eb02e : ByteArray := prog_41_method_110_code
def yJ7_fill_eb02e : MethodName := ⟨RJ7, "fill", "([BIIB)V"⟩
abbrev cJ7_copyOf_9075b : ByteArray := prog_41_method_121_code
def yJ7_copyOf_9075b : MethodName := ⟨RJ7, "copyOf", "([BI)[B"⟩
abbrev cJ7_checkLength_df160 : ByteArray := prog_41_method_131_code
def yJ7_checkLength_df160 : MethodName := ⟨RJ7, "checkLength", "(II)V"⟩
abbrev cJ7_copyOfRange_39247 : ByteArray := prog_41_method_132_code
def yJ7_copyOfRange_39247 : MethodName := ⟨RJ7, "copyOfRange", "([BII)[B"⟩
abbrev cJ7_copyOfRangeByte_39247 : ByteArray := prog_41_method_133_code
def yJ7_copyOfRangeByte_39247 : MethodName := ⟨RJ7, "copyOfRangeByte", "([BII)[B"⟩
def RJx4497a : String := "jdk/internal/math/DoubleToDecimal"
def TJx4497a : u_T := fun k => match k with
  | 0 => ("jdk/internal/math/DoubleToDecimal", "bytes", "[B", true)
  | _ => ("jdk/internal/math/DoubleToDecimal", "index", "I", false)
def tyJx4497a : Nat → FieldType := fun k => match k with
  | 0 => .array .byte
  | _ => .int
abbrev wsJx4497a0 : List Cond := u_ws RJx4497a TJx4497a 2
theorem nmJx4497a : ∀ a, a < 2 → ∀ b, b < 2 → a ≠ b → (TJx4497a a).2.1 ≠ (TJx4497a b).2.1 := by decide +kernel
theorem tyJx4497a_ok : ∀ k, k < 2 → parseFieldDescriptor (TJx4497a k).2.2.1 = some (tyJx4497a k) := by decide +kernel
abbrev cJx4497a_init_f633c : ByteArray := prog_43_method_1_code
def yJx4497a_init_f633c : MethodName := ⟨RJx4497a, "<init>", "(Z)V"⟩
abbrev cJx4497a_appendTo_00aa9 : ByteArray := prog_43_method_4_code
def yJx4497a_appendTo_00aa9 : MethodName := ⟨RJx4497a, "appendTo", "(DLjava/lang/Appendable;)Ljava/lang/Appendable;"⟩
abbrev cJx4497a_appendDecimalTo_00aa9 : ByteArray := prog_43_method_6_code
def yJx4497a_appendDecimalTo_00aa9 : MethodName := ⟨RJx4497a, "appendDecimalTo", "(DLjava/lang/Appendable;)Ljava/lang/Appendable;"⟩
abbrev cJx4497a_toDecimal_a02bb : ByteArray := prog_43_method_7_code
def yJx4497a_toDecimal_a02bb : MethodName := ⟨RJx4497a, "toDecimal", "(DLjdk/internal/math/FormattedFPDecimal;)I"⟩
abbrev cJx4497a_toDecimal_3416a : ByteArray := prog_43_method_8_code
def yJx4497a_toDecimal_3416a : MethodName := ⟨RJx4497a, "toDecimal", "(IJILjdk/internal/math/FormattedFPDecimal;)I"⟩
abbrev cJx4497a_rop_fb923 : ByteArray := prog_43_method_9_code
def yJx4497a_rop_fb923 : MethodName := ⟨RJx4497a, "rop", "(JJJ)J"⟩
abbrev cJx4497a_toChars_b7021 : ByteArray := prog_43_method_10_code
def yJx4497a_toChars_b7021 : MethodName := ⟨RJx4497a, "toChars", "(JILjdk/internal/math/FormattedFPDecimal;)I"⟩
abbrev cJx4497a_toChars1_7f61f : ByteArray := prog_43_method_11_code
def yJx4497a_toChars1_7f61f : MethodName := ⟨RJx4497a, "toChars1", "(IIII)I"⟩
abbrev cJx4497a_toChars2_7f61f : ByteArray := prog_43_method_12_code
def yJx4497a_toChars2_7f61f : MethodName := ⟨RJx4497a, "toChars2", "(IIII)I"⟩
abbrev cJx4497a_toChars3_7f61f : ByteArray := prog_43_method_13_code
def yJx4497a_toChars3_7f61f : MethodName := ⟨RJx4497a, "toChars3", "(IIII)I"⟩
abbrev cJx4497a_lowDigits_d00df : ByteArray := prog_43_method_14_code
def yJx4497a_lowDigits_d00df : MethodName := ⟨RJx4497a, "lowDigits", "(I)V"⟩
abbrev cJx4497a_append8Digits_d00df : ByteArray := prog_43_method_15_code
def yJx4497a_append8Digits_d00df : MethodName := ⟨RJx4497a, "append8Digits", "(I)V"⟩
abbrev cJx4497a_removeTrailingZeroes_da8c8 : ByteArray := prog_43_method_16_code
def yJx4497a_removeTrailingZeroes_da8c8 : MethodName := ⟨RJx4497a, "removeTrailingZeroes", "()V"⟩
abbrev cJx4497a_y_0f7a4 : ByteArray := prog_43_method_17_code
def yJx4497a_y_0f7a4 : MethodName := ⟨RJx4497a, "y", "(I)I"⟩
abbrev cJx4497a_exponent_d00df : ByteArray := prog_43_method_18_code
def yJx4497a_exponent_d00df : MethodName := ⟨RJx4497a, "exponent", "(I)V"⟩
abbrev cJx4497a_append_d00df : ByteArray := prog_43_method_19_code
def yJx4497a_append_d00df : MethodName := ⟨RJx4497a, "append", "(I)V"⟩
abbrev cJx4497a_appendDigit_d00df : ByteArray := prog_43_method_20_code
def yJx4497a_appendDigit_d00df : MethodName := ⟨RJx4497a, "appendDigit", "(I)V"⟩
def RJx40b00 : String := "jdk/internal/math/FloatToDecimal"
def TJx40b00 : u_T := fun k => match k with
  | 0 => ("jdk/internal/math/FloatToDecimal", "bytes", "[B", true)
  | _ => ("jdk/internal/math/FloatToDecimal", "index", "I", false)
def tyJx40b00 : Nat → FieldType := fun k => match k with
  | 0 => .array .byte
  | _ => .int
abbrev wsJx40b000 : List Cond := u_ws RJx40b00 TJx40b00 2
theorem nmJx40b00 : ∀ a, a < 2 → ∀ b, b < 2 → a ≠ b → (TJx40b00 a).2.1 ≠ (TJx40b00 b).2.1 := by decide +kernel
theorem tyJx40b00_ok : ∀ k, k < 2 → parseFieldDescriptor (TJx40b00 k).2.2.1 = some (tyJx40b00 k) := by decide +kernel
abbrev cJx40b00_init_da8c8 : ByteArray := prog_44_method_1_code
def yJx40b00_init_da8c8 : MethodName := ⟨RJx40b00, "<init>", "()V"⟩
abbrev cJx40b00_appendTo_8d9f2 : ByteArray := prog_44_method_3_code
def yJx40b00_appendTo_8d9f2 : MethodName := ⟨RJx40b00, "appendTo", "(FLjava/lang/Appendable;)Ljava/lang/Appendable;"⟩
abbrev cJx40b00_appendDecimalTo_8d9f2 : ByteArray := prog_44_method_5_code
def yJx40b00_appendDecimalTo_8d9f2 : MethodName := ⟨RJx40b00, "appendDecimalTo", "(FLjava/lang/Appendable;)Ljava/lang/Appendable;"⟩
abbrev cJx40b00_toDecimal_5c35a : ByteArray := prog_44_method_6_code
def yJx40b00_toDecimal_5c35a : MethodName := ⟨RJx40b00, "toDecimal", "(F)I"⟩
abbrev cJx40b00_toDecimal_cabcc : ByteArray := prog_44_method_7_code
def yJx40b00_toDecimal_cabcc : MethodName := ⟨RJx40b00, "toDecimal", "(III)I"⟩
abbrev cJx40b00_rop_74951 : ByteArray := prog_44_method_8_code
def yJx40b00_rop_74951 : MethodName := ⟨RJx40b00, "rop", "(JJ)I"⟩
abbrev cJx40b00_toChars_7cf53 : ByteArray := prog_44_method_9_code
def yJx40b00_toChars_7cf53 : MethodName := ⟨RJx40b00, "toChars", "(II)I"⟩
abbrev cJx40b00_toChars1_cabcc : ByteArray := prog_44_method_10_code
def yJx40b00_toChars1_cabcc : MethodName := ⟨RJx40b00, "toChars1", "(III)I"⟩
abbrev cJx40b00_toChars2_cabcc : ByteArray := prog_44_method_11_code
def yJx40b00_toChars2_cabcc : MethodName := ⟨RJx40b00, "toChars2", "(III)I"⟩
abbrev cJx40b00_toChars3_cabcc : ByteArray := prog_44_method_12_code
def yJx40b00_toChars3_cabcc : MethodName := ⟨RJx40b00, "toChars3", "(III)I"⟩
abbrev cJx40b00_append8Digits_d00df : ByteArray := prog_44_method_13_code
def yJx40b00_append8Digits_d00df : MethodName := ⟨RJx40b00, "append8Digits", "(I)V"⟩
abbrev cJx40b00_removeTrailingZeroes_da8c8 : ByteArray := prog_44_method_14_code
def yJx40b00_removeTrailingZeroes_da8c8 : MethodName := ⟨RJx40b00, "removeTrailingZeroes", "()V"⟩
abbrev cJx40b00_y_0f7a4 : ByteArray := prog_44_method_15_code
def yJx40b00_y_0f7a4 : MethodName := ⟨RJx40b00, "y", "(I)I"⟩
abbrev cJx40b00_exponent_d00df : ByteArray := prog_44_method_16_code
def yJx40b00_exponent_d00df : MethodName := ⟨RJx40b00, "exponent", "(I)V"⟩
abbrev cJx40b00_append_d00df : ByteArray := prog_44_method_17_code
def yJx40b00_append_d00df : MethodName := ⟨RJx40b00, "append", "(I)V"⟩
abbrev cJx40b00_appendDigit_d00df : ByteArray := prog_44_method_18_code
def yJx40b00_appendDigit_d00df : MethodName := ⟨RJx40b00, "appendDigit", "(I)V"⟩
def RJx5991d : String := "jdk/internal/math/FormattedFPDecimal"
def TJx5991d : u_T := fun k => match k with
  | _ => ("", "", "", false)
def tyJx5991d : Nat → FieldType := fun k => match k with
  | _ => .int
abbrev wsJx5991d0 : List Cond := u_ws RJx5991d TJx5991d 0
theorem nmJx5991d : ∀ a, a < 0 → ∀ b, b < 0 → a ≠ b → (TJx5991d a).2.1 ≠ (TJx5991d b).2.1 := by decide +kernel
theorem tyJx5991d_ok : ∀ k, k < 0 → parseFieldDescriptor (TJx5991d k).2.2.1 = some (tyJx5991d k) := by decide +kernel
abbrev cJx5991d_set_6c0ba : ByteArray := prog_45_method_3_code
def yJx5991d_set_6c0ba : MethodName := ⟨RJx5991d, "set", "(JII)V"⟩
def RJx25f51 : String := "jdk/internal/math/MathUtils"
def TJx25f51 : u_T := fun k => match k with
  | _ => ("", "", "", false)
def tyJx25f51 : Nat → FieldType := fun k => match k with
  | _ => .int
abbrev wsJx25f510 : List Cond := u_ws RJx25f51 TJx25f51 0
theorem nmJx25f51 : ∀ a, a < 0 → ∀ b, b < 0 → a ≠ b → (TJx25f51 a).2.1 ≠ (TJx25f51 b).2.1 := by decide +kernel
theorem tyJx25f51_ok : ∀ k, k < 0 → parseFieldDescriptor (TJx25f51 k).2.2.1 = some (tyJx25f51 k) := by decide +kernel
abbrev cJx25f51_pow10_3e8ac : ByteArray := prog_46_method_2_code
def yJx25f51_pow10_3e8ac : MethodName := ⟨RJx25f51, "pow10", "(I)J"⟩
abbrev cJx25f51_flog10pow2_0f7a4 : ByteArray := prog_46_method_3_code
def yJx25f51_flog10pow2_0f7a4 : MethodName := ⟨RJx25f51, "flog10pow2", "(I)I"⟩
abbrev cJx25f51_flog10threeQuartersPow2_0f7a4 : ByteArray := prog_46_method_4_code
def yJx25f51_flog10threeQuartersPow2_0f7a4 : MethodName := ⟨RJx25f51, "flog10threeQuartersPow2", "(I)I"⟩
abbrev cJx25f51_flog2pow10_0f7a4 : ByteArray := prog_46_method_5_code
def yJx25f51_flog2pow10_0f7a4 : MethodName := ⟨RJx25f51, "flog2pow10", "(I)I"⟩
abbrev cJx25f51_g1_3e8ac : ByteArray := prog_46_method_6_code
def yJx25f51_g1_3e8ac : MethodName := ⟨RJx25f51, "g1", "(I)J"⟩
abbrev cJx25f51_g0_3e8ac : ByteArray := prog_46_method_7_code
def yJx25f51_g0_3e8ac : MethodName := ⟨RJx25f51, "g0", "(I)J"⟩
def RJ8 : String := "jdk/internal/util/ArraysSupport"
def TJ8 : u_T := fun k => match k with
  | _ => ("", "", "", false)
def tyJ8 : Nat → FieldType := fun k => match k with
  | _ => .int
abbrev wsJ80 : List Cond := u_ws RJ8 TJ8 0
theorem nmJ8 : ∀ a, a < 0 → ∀ b, b < 0 → a ≠ b → (TJ8 a).2.1 ≠ (TJ8 b).2.1 := by decide +kernel
theorem tyJ8_ok : ∀ k, k < 0 → parseFieldDescriptor (TJ8 k).2.2.1 = some (tyJ8 k) := by decide +kernel
abbrev cJ8_newLength_cabcc : ByteArray := prog_47_method_27_code
def yJ8_newLength_cabcc : MethodName := ⟨RJ8, "newLength", "(III)I"⟩
abbrev cJ8_hugeLength_7cf53 : ByteArray := prog_47_method_28_code
def yJ8_hugeLength_7cf53 : MethodName := ⟨RJ8, "hugeLength", "(II)I"⟩
def RJ3 : String := "jdk/internal/util/Preconditions"
def TJ3 : u_T := fun k => match k with
  | _ => ("", "", "", false)
def tyJ3 : Nat → FieldType := fun k => match k with
  | _ => .int
abbrev wsJ30 : List Cond := u_ws RJ3 TJ3 0
theorem nmJ3 : ∀ a, a < 0 → ∀ b, b < 0 → a ≠ b → (TJ3 a).2.1 ≠ (TJ3 b).2.1 := by decide +kernel
theorem tyJ3_ok : ∀ k, k < 0 → parseFieldDescriptor (TJ3 k).2.2.1 = some (tyJ3 k) := by decide +kernel
abbrev cJ3_checkIndex_8e157 : ByteArray := prog_48_method_11_code
def yJ3_checkIndex_8e157 : MethodName := ⟨RJ3, "checkIndex", "(IILjava/util/function/BiFunction;)I"⟩
abbrev cJ3_checkFromToIndex_8c36e : ByteArray := prog_48_method_12_code
def yJ3_checkFromToIndex_8c36e : MethodName := ⟨RJ3, "checkFromToIndex", "(IIILjava/util/function/BiFunction;)I"⟩
abbrev cJ3_checkFromIndexSize_8c36e : ByteArray := prog_48_method_13_code
def yJ3_checkFromIndexSize_8c36e : MethodName := ⟨RJ3, "checkFromIndexSize", "(IIILjava/util/function/BiFunction;)I"⟩
def RL : String := "SwathSurveyLaw"
abbrev cL_cell : ByteArray := method_2_code
def yL_cell : MethodName := ⟨RL, "cell", "([II)I"⟩
abbrev cL_setFloor : ByteArray := method_3_code
def yL_setFloor : MethodName := ⟨RL, "setFloor", "(LSwathSurvey;III)I"⟩
abbrev cL_setWater : ByteArray := method_4_code
def yL_setWater : MethodName := ⟨RL, "setWater", "(LSwathSurvey;III)I"⟩
abbrev cL_setSlope : ByteArray := method_5_code
def yL_setSlope : MethodName := ⟨RL, "setSlope", "(LSwathSurvey;II)I"⟩
abbrev cL_waterAt : ByteArray := method_6_code
def yL_waterAt : MethodName := ⟨RL, "waterAt", "(LSwathSurvey;III)I"⟩
abbrev cL_setWeather : ByteArray := method_7_code
def yL_setWeather : MethodName := ⟨RL, "setWeather", "(LSwathSurvey;II)I"⟩
abbrev cL_addGauge : ByteArray := method_8_code
def yL_addGauge : MethodName := ⟨RL, "addGauge", "(LSwathSurvey;I)I"⟩
abbrev cL_fail : ByteArray := method_9_code
def yL_fail : MethodName := ⟨RL, "fail", "(LSwathSurvey;IIII)I"⟩
abbrev cL_mend : ByteArray := method_10_code
def yL_mend : MethodName := ⟨RL, "mend", "(LSwathSurvey;II)I"⟩
abbrev cL_tide : ByteArray := method_12_code
def yL_tide : MethodName := ⟨RL, "tide", "(LSwathSurvey;III)I"⟩
abbrev cL_run : ByteArray := method_13_code
def yL_run : MethodName := ⟨RL, "run", "(LSwathSurvey;CIIIII)I"⟩
abbrev cL_runAnew : ByteArray := method_14_code
def yL_runAnew : MethodName := ⟨RL, "runAnew", "(LSwathSurvey;III)I"⟩
abbrev cL_disturb : ByteArray := method_15_code
def yL_disturb : MethodName := ⟨RL, "disturb", "(LSwathSurvey;IIII)I"⟩
abbrev cL_soundings : ByteArray := method_16_code
def yL_soundings : MethodName := ⟨RL, "soundings", "(LSwathSurvey;I)I"⟩
abbrev cL_sounding : ByteArray := method_17_code
def yL_sounding : MethodName := ⟨RL, "sounding", "(LSwathSurvey;III)I"⟩
abbrev cL_reduced : ByteArray := method_18_code
def yL_reduced : MethodName := ⟨RL, "reduced", "(LSwathSurvey;III)I"⟩
abbrev cL_isSpike : ByteArray := method_19_code
def yL_isSpike : MethodName := ⟨RL, "isSpike", "(LSwathSurvey;III)I"⟩
abbrev cL_spikes : ByteArray := method_20_code
def yL_spikes : MethodName := ⟨RL, "spikes", "(LSwathSurvey;I)I"⟩
abbrev cL_lost : ByteArray := method_21_code
def yL_lost : MethodName := ⟨RL, "lost", "(LSwathSurvey;I)I"⟩
abbrev cL_depth : ByteArray := method_22_code
def yL_depth : MethodName := ⟨RL, "depth", "(LSwathSurvey;II)I"⟩
abbrev cL_depthAnew : ByteArray := method_23_code
def yL_depthAnew : MethodName := ⟨RL, "depthAnew", "(LSwathSurvey;II)I"⟩
abbrev cL_gap : ByteArray := method_24_code
def yL_gap : MethodName := ⟨RL, "gap", "(LSwathSurvey;I)I"⟩
abbrev cL_bestRow : ByteArray := method_25_code
def yL_bestRow : MethodName := ⟨RL, "bestRow", "(LSwathSurvey;)I"⟩
abbrev cL_dayOf : ByteArray := method_26_code
def yL_dayOf : MethodName := ⟨RL, "dayOf", "(LSwathSurvey;I)I"⟩
abbrev cL_worstCross : ByteArray := method_28_code
def yL_worstCross : MethodName := ⟨RL, "worstCross", "(LSwathSurvey;)I"⟩
abbrev cL_hours : ByteArray := method_29_code
def yL_hours : MethodName := ⟨RL, "hours", "(LSwathSurvey;I)I"⟩
abbrev cL_meanDepth : ByteArray := method_30_code
def yL_meanDepth : MethodName := ⟨RL, "meanDepth", "(LSwathSurvey;)D"⟩
abbrev cL_writeLine : ByteArray := method_31_code
def yL_writeLine : MethodName := ⟨RL, "writeLine", "(LSwathSurvey;I)I"⟩
abbrev cL_textAt : ByteArray := method_32_code
def yL_textAt : MethodName := ⟨RL, "textAt", "(LSwathSurvey;I)I"⟩
abbrev cL_acts : ByteArray := method_33_code
def yL_acts : MethodName := ⟨RL, "acts", "(LSwathSurvey;ILSwathSurveyLaw$Draw;)I"⟩
abbrev cL_told : ByteArray := method_34_code
def yL_told : MethodName := ⟨RL, "told", "(LSwathSurvey;)Ljava/lang/String;"⟩
abbrev cL_charted : ByteArray := method_35_code
def yL_charted : MethodName := ⟨RL, "charted", "(LSwathSurvey;)Z"⟩
abbrev cL_sounded : ByteArray := method_36_code
def yL_sounded : MethodName := ⟨RL, "sounded", "(LSwathSurvey;I)Z"⟩
abbrev cL_isLost : ByteArray := method_37_code
def yL_isLost : MethodName := ⟨RL, "isLost", "(LSwathSurvey;III)Z"⟩
abbrev cL_tided : ByteArray := method_38_code
def yL_tided : MethodName := ⟨RL, "tided", "(LSwathSurvey;III)Z"⟩
abbrev cL_hired : ByteArray := method_39_code
def yL_hired : MethodName := ⟨RL, "hired", "(LSwathSurvey;)Z"⟩
abbrev cL_law : ByteArray := code
def yL_law : MethodName := ⟨RL, "law", "([I)Z"⟩
abbrev vwCl : List vw_C := [(RJ0, TJ0, 4), (RJ4, TJ4, 4), (RJx00060, TJx00060, 6), (RJx7c733, TJx7c733, 6), (RX0, TX0, 1), (RX1, TX1, 2), (RX2, TX2, 2), (RX3, TX3, 10), (RX4, TX4, 2), (RX5, TX5, 4), (RX6, TX6, 6), (RJx4497a, TJx4497a, 2), (RJx40b00, TJx40b00, 2), (RX7, TX7, 1)]
