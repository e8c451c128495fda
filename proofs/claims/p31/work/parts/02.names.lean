/-! ===== BEGIN printed: names, fields, word lists, decode rows ===== -/
def RX0 : String := "Timesheets$Employee"
def TX0 : u_T := fun k => match k with
  | 0 => ("Timesheets$Employee", "wage", "I", false)
  | 1 => ("Timesheets$Employee", "weeksClosed", "I", false)
  | 2 => ("Timesheets$Employee", "earnings", "J", false)
  | 3 => ("Timesheets$Employee", "punches", "LTimesheets$Table;", true)
  | 4 => ("Timesheets$Employee", "entries", "LTimesheets$Table;", true)
  | _ => ("Timesheets$Employee", "breaks", "LTimesheets$Table;", true)
def tyX0 : Nat → FieldType := fun k => match k with
  | 0 => .int
  | 1 => .int
  | 2 => .long
  | 3 => .object "Timesheets$Table"
  | 4 => .object "Timesheets$Table"
  | _ => .object "Timesheets$Table"
abbrev wsX00 : List Cond := u_ws RX0 TX0 6
theorem nmX0 : ∀ a, a < 6 → ∀ b, b < 6 → a ≠ b → (TX0 a).2.1 ≠ (TX0 b).2.1 := by decide +kernel
theorem tyX0_ok : ∀ k, k < 6 → parseFieldDescriptor (TX0 k).2.2.1 = some (tyX0 k) := by decide +kernel
abbrev cX0_init : ByteArray := prog_2_method_1_code
def yX0_init : MethodName := ⟨RX0, "<init>", "(I)V"⟩
abbrev cX0_beginNextWeek : ByteArray := prog_2_method_2_code
def yX0_beginNextWeek : MethodName := ⟨RX0, "beginNextWeek", "(I)V"⟩
def RX1 : String := "Timesheets$Payroll"
def TX1 : u_T := fun k => match k with
  | 0 => ("Timesheets$Payroll", "timeline", "LTimesheets$Timeline;", true)
  | 1 => ("Timesheets$Payroll", "paid", "LTimesheets$Table;", true)
  | _ => ("Timesheets$Payroll", "parts", "LTimesheets$Table;", true)
def tyX1 : Nat → FieldType := fun k => match k with
  | 0 => .object "Timesheets$Timeline"
  | 1 => .object "Timesheets$Table"
  | _ => .object "Timesheets$Table"
abbrev wsX10 : List Cond := u_ws RX1 TX1 3
theorem nmX1 : ∀ a, a < 3 → ∀ b, b < 3 → a ≠ b → (TX1 a).2.1 ≠ (TX1 b).2.1 := by decide +kernel
theorem tyX1_ok : ∀ k, k < 3 → parseFieldDescriptor (TX1 k).2.2.1 = some (tyX1 k) := by decide +kernel
abbrev cX1_init : ByteArray := prog_3_method_1_code
def yX1_init : MethodName := ⟨RX1, "<init>", "()V"⟩
abbrev cX1_read : ByteArray := prog_3_method_2_code
def yX1_read : MethodName := ⟨RX1, "read", "(LTimesheets$Employee;)V"⟩
abbrev cX1_takeOffAutomaticBreaks : ByteArray := prog_3_method_3_code
def yX1_takeOffAutomaticBreaks : MethodName := ⟨RX1, "takeOffAutomaticBreaks", "(LTimesheets$Table;)V"⟩
abbrev cX1_isFull : ByteArray := prog_3_method_4_code
def yX1_isFull : MethodName := ⟨RX1, "isFull", "()Z"⟩
abbrev cX1_addPartsOfDay : ByteArray := prog_3_method_5_code
def yX1_addPartsOfDay : MethodName := ⟨RX1, "addPartsOfDay", "(IIZ)V"⟩
abbrev cX1_addParts : ByteArray := prog_3_method_6_code
def yX1_addParts : MethodName := ⟨RX1, "addParts", "(IIIIZ)V"⟩
abbrev cX1_untilLimit : ByteArray := prog_3_method_7_code
def yX1_untilLimit : MethodName := ⟨RX1, "untilLimit", "(II)I"⟩
abbrev cX1_categoryFor : ByteArray := prog_3_method_8_code
def yX1_categoryFor : MethodName := ⟨RX1, "categoryFor", "(IIZ)I"⟩
abbrev cX1_minutesOf : ByteArray := prog_3_method_10_code
def yX1_minutesOf : MethodName := ⟨RX1, "minutesOf", "(II)I"⟩
abbrev cX1_quartersOf : ByteArray := prog_3_method_11_code
def yX1_quartersOf : MethodName := ⟨RX1, "quartersOf", "(II)I"⟩
abbrev cX1_quartersOfWeek : ByteArray := prog_3_method_12_code
def yX1_quartersOfWeek : MethodName := ⟨RX1, "quartersOfWeek", "(I)I"⟩
abbrev cX1_basicPay : ByteArray := prog_3_method_13_code
def yX1_basicPay : MethodName := ⟨RX1, "basicPay", "(I)I"⟩
def RX2 : String := "Timesheets$Premiums"
def TX2 : u_T := fun k => match k with
  | _ => ("Timesheets$Premiums", "rows", "LTimesheets$Table;", true)
def tyX2 : Nat → FieldType := fun k => match k with
  | _ => .object "Timesheets$Table"
abbrev wsX20 : List Cond := u_ws RX2 TX2 1
theorem nmX2 : ∀ a, a < 1 → ∀ b, b < 1 → a ≠ b → (TX2 a).2.1 ≠ (TX2 b).2.1 := by decide +kernel
theorem tyX2_ok : ∀ k, k < 1 → parseFieldDescriptor (TX2 k).2.2.1 = some (tyX2 k) := by decide +kernel
abbrev cX2_init : ByteArray := prog_4_method_1_code
def yX2_init : MethodName := ⟨RX2, "<init>", "()V"⟩
abbrev cX2_add : ByteArray := prog_4_method_2_code
def yX2_add : MethodName := ⟨RX2, "add", "(IIII)I"⟩
abbrev cX2_payFor : ByteArray := prog_4_method_3_code
def yX2_payFor : MethodName := ⟨RX2, "payFor", "(LTimesheets$Table;)I"⟩
abbrev cX2_sumOver : ByteArray := prog_4_method_4_code
def yX2_sumOver : MethodName := ⟨RX2, "sumOver", "(II)I"⟩
abbrev cX2_nextChange : ByteArray := prog_4_method_5_code
def yX2_nextChange : MethodName := ⟨RX2, "nextChange", "(I)I"⟩
abbrev cX2_greatestRate : ByteArray := prog_4_method_6_code
def yX2_greatestRate : MethodName := ⟨RX2, "greatestRate", "(II)I"⟩
abbrev cX2_isBetween : ByteArray := prog_4_method_7_code
def yX2_isBetween : MethodName := ⟨RX2, "isBetween", "(III)Z"⟩
def RX3 : String := "Timesheets$Shifts"
def TX3 : u_T := fun k => match k with
  | 0 => ("Timesheets$Shifts", "spans", "LTimesheets$Table;", true)
  | _ => ("Timesheets$Shifts", "repaired", "I", false)
def tyX3 : Nat → FieldType := fun k => match k with
  | 0 => .object "Timesheets$Table"
  | _ => .int
abbrev wsX30 : List Cond := u_ws RX3 TX3 2
theorem nmX3 : ∀ a, a < 2 → ∀ b, b < 2 → a ≠ b → (TX3 a).2.1 ≠ (TX3 b).2.1 := by decide +kernel
theorem tyX3_ok : ∀ k, k < 2 → parseFieldDescriptor (TX3 k).2.2.1 = some (tyX3 k) := by decide +kernel
abbrev cX3_init : ByteArray := prog_5_method_1_code
def yX3_init : MethodName := ⟨RX3, "<init>", "()V"⟩
abbrev cX3_read : ByteArray := prog_5_method_2_code
def yX3_read : MethodName := ⟨RX3, "read", "(LTimesheets$Table;)V"⟩
abbrev cX3_addFromIn : ByteArray := prog_5_method_3_code
def yX3_addFromIn : MethodName := ⟨RX3, "addFromIn", "(LTimesheets$Table;I)V"⟩
abbrev cX3_addFromLoneOut : ByteArray := prog_5_method_4_code
def yX3_addFromLoneOut : MethodName := ⟨RX3, "addFromLoneOut", "(LTimesheets$Table;I)V"⟩
abbrev cX3_isIn : ByteArray := prog_5_method_5_code
def yX3_isIn : MethodName := ⟨RX3, "isIn", "(LTimesheets$Table;I)Z"⟩
def RX4 : String := "Timesheets$Table"
def TX4 : u_T := fun k => match k with
  | 0 => ("Timesheets$Table", "width", "I", true)
  | 1 => ("Timesheets$Table", "cells", "[I", true)
  | _ => ("Timesheets$Table", "rows", "I", false)
def tyX4 : Nat → FieldType := fun k => match k with
  | 0 => .int
  | 1 => .array .int
  | _ => .int
abbrev wsX40 : List Cond := u_ws RX4 TX4 3
theorem nmX4 : ∀ a, a < 3 → ∀ b, b < 3 → a ≠ b → (TX4 a).2.1 ≠ (TX4 b).2.1 := by decide +kernel
theorem tyX4_ok : ∀ k, k < 3 → parseFieldDescriptor (TX4 k).2.2.1 = some (tyX4 k) := by decide +kernel
abbrev cX4_init : ByteArray := prog_6_method_1_code
def yX4_init : MethodName := ⟨RX4, "<init>", "(II)V"⟩
abbrev cX4_size : ByteArray := prog_6_method_2_code
def yX4_size : MethodName := ⟨RX4, "size", "()I"⟩
abbrev cX4_get : ByteArray := prog_6_method_3_code
def yX4_get : MethodName := ⟨RX4, "get", "(II)I"⟩
abbrev cX4_set : ByteArray := prog_6_method_4_code
def yX4_set : MethodName := ⟨RX4, "set", "(III)V"⟩
abbrev cX4_insert : ByteArray := prog_6_method_5_code
def yX4_insert : MethodName := ⟨RX4, "insert", "(I)V"⟩
abbrev cX4_addSpan : ByteArray := prog_6_method_7_code
def yX4_addSpan : MethodName := ⟨RX4, "addSpan", "(II)V"⟩
abbrev cX4_clear : ByteArray := prog_6_method_8_code
def yX4_clear : MethodName := ⟨RX4, "clear", "()V"⟩
def RX5 : String := "Timesheets$Timeline"
def TX5 : u_T := fun k => match k with
  | 0 => ("Timesheets$Timeline", "shiftList", "LTimesheets$Shifts;", true)
  | 1 => ("Timesheets$Timeline", "events", "LTimesheets$Table;", true)
  | 2 => ("Timesheets$Timeline", "stretchList", "LTimesheets$Table;", true)
  | _ => ("Timesheets$Timeline", "coveredTwice", "I", false)
def tyX5 : Nat → FieldType := fun k => match k with
  | 0 => .object "Timesheets$Shifts"
  | 1 => .object "Timesheets$Table"
  | 2 => .object "Timesheets$Table"
  | _ => .int
abbrev wsX50 : List Cond := u_ws RX5 TX5 4
theorem nmX5 : ∀ a, a < 4 → ∀ b, b < 4 → a ≠ b → (TX5 a).2.1 ≠ (TX5 b).2.1 := by decide +kernel
theorem tyX5_ok : ∀ k, k < 4 → parseFieldDescriptor (TX5 k).2.2.1 = some (tyX5 k) := by decide +kernel
abbrev cX5_init : ByteArray := prog_7_method_1_code
def yX5_init : MethodName := ⟨RX5, "<init>", "()V"⟩
abbrev cX5_read : ByteArray := prog_7_method_2_code
def yX5_read : MethodName := ⟨RX5, "read", "(LTimesheets$Employee;)V"⟩
abbrev cX5_addEvents : ByteArray := prog_7_method_3_code
def yX5_addEvents : MethodName := ⟨RX5, "addEvents", "(LTimesheets$Table;II)V"⟩
abbrev cX5_addEvent : ByteArray := prog_7_method_4_code
def yX5_addEvent : MethodName := ⟨RX5, "addEvent", "(III)V"⟩
abbrev cX5_goThroughEvents : ByteArray := prog_7_method_5_code
def yX5_goThroughEvents : MethodName := ⟨RX5, "goThroughEvents", "()V"⟩
abbrev cX5_addWorked : ByteArray := prog_7_method_6_code
def yX5_addWorked : MethodName := ⟨RX5, "addWorked", "(II)V"⟩
def RX6 : String := "Timesheets"
def TX6 : u_T := fun k => match k with
  | 0 => ("Timesheets", "staff", "[LTimesheets$Employee;", true)
  | 1 => ("Timesheets", "hired", "I", false)
  | 2 => ("Timesheets", "premiums", "LTimesheets$Premiums;", true)
  | 3 => ("Timesheets", "payroll", "LTimesheets$Payroll;", true)
  | 4 => ("Timesheets", "timeline", "LTimesheets$Timeline;", true)
  | _ => ("Timesheets", "shiftList", "LTimesheets$Shifts;", true)
def tyX6 : Nat → FieldType := fun k => match k with
  | 0 => .array (.object "Timesheets$Employee")
  | 1 => .int
  | 2 => .object "Timesheets$Premiums"
  | 3 => .object "Timesheets$Payroll"
  | 4 => .object "Timesheets$Timeline"
  | _ => .object "Timesheets$Shifts"
abbrev wsX60 : List Cond := u_ws RX6 TX6 6
theorem nmX6 : ∀ a, a < 6 → ∀ b, b < 6 → a ≠ b → (TX6 a).2.1 ≠ (TX6 b).2.1 := by decide +kernel
theorem tyX6_ok : ∀ k, k < 6 → parseFieldDescriptor (TX6 k).2.2.1 = some (tyX6 k) := by decide +kernel
abbrev cX6_init : ByteArray := prog_1_method_1_code
def yX6_init : MethodName := ⟨RX6, "<init>", "()V"⟩
abbrev cX6_hire : ByteArray := prog_1_method_2_code
def yX6_hire : MethodName := ⟨RX6, "hire", "(I)I"⟩
abbrev cX6_enter : ByteArray := prog_1_method_6_code
def yX6_enter : MethodName := ⟨RX6, "enter", "(III)I"⟩
abbrev cX6_enterBreak : ByteArray := prog_1_method_8_code
def yX6_enterBreak : MethodName := ⟨RX6, "enterBreak", "(III)I"⟩
abbrev cX6_addPremium : ByteArray := prog_1_method_10_code
def yX6_addPremium : MethodName := ⟨RX6, "addPremium", "(IIII)I"⟩
abbrev cX6_closeWeek : ByteArray := prog_1_method_12_code
def yX6_closeWeek : MethodName := ⟨RX6, "closeWeek", "(I)I"⟩
abbrev cX6_closedWeeks : ByteArray := prog_1_method_14_code
def yX6_closedWeeks : MethodName := ⟨RX6, "closedWeeks", "(I)I"⟩
abbrev cX6_earned : ByteArray := prog_1_method_15_code
def yX6_earned : MethodName := ⟨RX6, "earned", "(I)J"⟩
abbrev cX6_shifts : ByteArray := prog_1_method_16_code
def yX6_shifts : MethodName := ⟨RX6, "shifts", "(I)I"⟩
abbrev cX6_repairedShifts : ByteArray := prog_1_method_19_code
def yX6_repairedShifts : MethodName := ⟨RX6, "repairedShifts", "(I)I"⟩
abbrev cX6_overlap : ByteArray := prog_1_method_21_code
def yX6_overlap : MethodName := ⟨RX6, "overlap", "(I)I"⟩
abbrev cX6_workedOn : ByteArray := prog_1_method_22_code
def yX6_workedOn : MethodName := ⟨RX6, "workedOn", "(II)I"⟩
abbrev cX6_stretches : ByteArray := prog_1_method_23_code
def yX6_stretches : MethodName := ⟨RX6, "stretches", "(I)I"⟩
abbrev cX6_longestStretch : ByteArray := prog_1_method_24_code
def yX6_longestStretch : MethodName := ⟨RX6, "longestStretch", "(I)I"⟩
abbrev cX6_minutes : ByteArray := prog_1_method_26_code
def yX6_minutes : MethodName := ⟨RX6, "minutes", "(III)I"⟩
abbrev cX6_quarters : ByteArray := prog_1_method_27_code
def yX6_quarters : MethodName := ⟨RX6, "quarters", "(III)I"⟩
abbrev cX6_premiumPay : ByteArray := prog_1_method_28_code
def yX6_premiumPay : MethodName := ⟨RX6, "premiumPay", "(I)I"⟩
abbrev cX6_pay : ByteArray := prog_1_method_29_code
def yX6_pay : MethodName := ⟨RX6, "pay", "(I)I"⟩
abbrev cX6_find : ByteArray := prog_1_method_30_code
def yX6_find : MethodName := ⟨RX6, "find", "(I)LTimesheets$Employee;"⟩
abbrev cX6_requireWithin : ByteArray := prog_1_method_31_code
def yX6_requireWithin : MethodName := ⟨RX6, "requireWithin", "(III)V"⟩
abbrev cX6_requireRoom : ByteArray := prog_1_method_32_code
def yX6_requireRoom : MethodName := ⟨RX6, "requireRoom", "(LTimesheets$Table;I)V"⟩
abbrev cX6_addByHand : ByteArray := prog_1_method_34_code
def yX6_addByHand : MethodName := ⟨RX6, "addByHand", "(LTimesheets$Table;III)I"⟩
abbrev cX6_minutesOnDay : ByteArray := prog_1_method_39_code
def yX6_minutesOnDay : MethodName := ⟨RX6, "minutesOnDay", "(LTimesheets$Table;I)I"⟩
abbrev cX6_longest : ByteArray := prog_1_method_40_code
def yX6_longest : MethodName := ⟨RX6, "longest", "(LTimesheets$Table;)I"⟩
def RX7 : String := "TimesheetsModel"
def TX7 : u_T := fun k => match k with
  | _ => ("", "", "", false)
def tyX7 : Nat → FieldType := fun k => match k with
  | _ => .int
abbrev wsX70 : List Cond := u_ws RX7 TX7 0
theorem nmX7 : ∀ a, a < 0 → ∀ b, b < 0 → a ≠ b → (TX7 a).2.1 ≠ (TX7 b).2.1 := by decide +kernel
theorem tyX7_ok : ∀ k, k < 0 → parseFieldDescriptor (TX7 k).2.2.1 = some (tyX7 k) := by decide +kernel
def RJx145de : String := "java/io/Serializable"
def TJx145de : u_T := fun k => match k with
  | _ => ("", "", "", false)
def tyJx145de : Nat → FieldType := fun k => match k with
  | _ => .int
abbrev wsJx145de0 : List Cond := u_ws RJx145de TJx145de 0
theorem nmJx145de : ∀ a, a < 0 → ∀ b, b < 0 → a ≠ b → (TJx145de a).2.1 ≠ (TJx145de b).2.1 := by decide +kernel
theorem tyJx145de_ok : ∀ k, k < 0 → parseFieldDescriptor (TJx145de k).2.2.1 = some (tyJx145de k) := by decide +kernel
def RJ9 : String := "java/lang/Math"
def TJ9 : u_T := fun k => match k with
  | _ => ("", "", "", false)
def tyJ9 : Nat → FieldType := fun k => match k with
  | _ => .int
abbrev wsJ90 : List Cond := u_ws RJ9 TJ9 0
theorem nmJ9 : ∀ a, a < 0 → ∀ b, b < 0 → a ≠ b → (TJ9 a).2.1 ≠ (TJ9 b).2.1 := by decide +kernel
theorem tyJ9_ok : ∀ k, k < 0 → parseFieldDescriptor (TJ9 k).2.2.1 = some (tyJ9 k) := by decide +kernel
abbrev cJ9_max_7cf53 : ByteArray := prog_14_method_65_code
def yJ9_max_7cf53 : MethodName := ⟨RJ9, "max", "(II)I"⟩
abbrev cJ9_min_7cf53 : ByteArray := prog_14_method_69_code
def yJ9_min_7cf53 : MethodName := ⟨RJ9, "min", "(II)I"⟩
def RJ0 : String := "java/lang/String"
def TJ0 : u_T := fun k => match k with
  | _ => ("", "", "", false)
def tyJ0 : Nat → FieldType := fun k => match k with
  | _ => .int
abbrev wsJ00 : List Cond := u_ws RJ0 TJ0 0
theorem nmJ0 : ∀ a, a < 0 → ∀ b, b < 0 → a ≠ b → (TJ0 a).2.1 ≠ (TJ0 b).2.1 := by decide +kernel
theorem tyJ0_ok : ∀ k, k < 0 → parseFieldDescriptor (TJ0 k).2.2.1 = some (tyJ0 k) := by decide +kernel
def RL : String := "TimesheetsLaw"
abbrev cL_cell : ByteArray := method_2_code
def yL_cell : MethodName := ⟨RL, "cell", "([II)I"⟩
abbrev cL_low : ByteArray := method_3_code
def yL_low : MethodName := ⟨RL, "low", "(II)I"⟩
abbrev cL_reads : ByteArray := method_4_code
def yL_reads : MethodName := ⟨RL, "reads", "(LTimesheets;[I[I)V"⟩
abbrev cL_weekOf : ByteArray := method_5_code
def yL_weekOf : MethodName := ⟨RL, "weekOf", "([I[II)I"⟩
abbrev cL_isPaid : ByteArray := method_6_code
def yL_isPaid : MethodName := ⟨RL, "isPaid", "(LTimesheets;[I[IIZ)Z"⟩
abbrev cL_isEmpty : ByteArray := method_7_code
def yL_isEmpty : MethodName := ⟨RL, "isEmpty", "(LTimesheets;I)Z"⟩
abbrev cL_law : ByteArray := code
def yL_law : MethodName := ⟨RL, "law", "([I)Z"⟩
def wsJ9_max_7cf53 : List Cond := .code yJ9_max_7cf53 cJ9_max_7cf53 2 (some .int) :: ([])
def wsJ9_min_7cf53 : List Cond := .code yJ9_min_7cf53 cJ9_min_7cf53 2 (some .int) :: ([])
theorem inJx145de : ∀ w ∈ wsJx145de0, w ∈ lw_tbl := by decide +kernel
abbrev vwCl : List vw_C := [(RX0, TX0, 6), (RX1, TX1, 3), (RX2, TX2, 1), (RX3, TX3, 2), (RX4, TX4, 3), (RX5, TX5, 4), (RX6, TX6, 6)]
/-! ===== END printed: names ===== -/

