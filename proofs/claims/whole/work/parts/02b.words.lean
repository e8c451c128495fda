/-! the words of the tables that are good, and each of them by name -/
def BG : List Cond := lw_tbl.filter goodWord
theorem BG_good : ∀ w ∈ BG, (w.onTables && w.keeps) = true ∨ ∃ ty, w = .arrayClass ty := fun w h => good_of_word (List.mem_filter.mp h).2
theorem BG_in : ∀ w ∈ BG, w ∈ lw_tbl := fun w h => (List.mem_filter.mp h).1
theorem bg_0 {w : Cond} (h : w ∈ k2_sels lw_privs) (g : goodWord w = true) : w ∈ BG := List.mem_filter.mpr ⟨List.mem_append_left _ h, g⟩
theorem bg_1 {w : Cond} (h : w ∈ tables_1_1) (g : goodWord w = true) : w ∈ BG := List.mem_filter.mpr ⟨List.mem_append_right _ (List.mem_append_left _ h), g⟩
theorem bg_2 {w : Cond} (h : w ∈ tables_1_2) (g : goodWord w = true) : w ∈ BG := List.mem_filter.mpr ⟨List.mem_append_right _ (List.mem_append_right _ (List.mem_append_left _ h)), g⟩
theorem bg_3 {w : Cond} (h : w ∈ tables_1_3) (g : goodWord w = true) : w ∈ BG := List.mem_filter.mpr ⟨List.mem_append_right _ (List.mem_append_right _ (List.mem_append_right _ (List.mem_append_left _ h))), g⟩
theorem bg_4 {w : Cond} (h : w ∈ tables_1_4) (g : goodWord w = true) : w ∈ BG := List.mem_filter.mpr ⟨List.mem_append_right _ (List.mem_append_right _ (List.mem_append_right _ (List.mem_append_right _ (List.mem_append_left _ h)))), g⟩
theorem bg_5 {w : Cond} (h : w ∈ tables_1_5) (g : goodWord w = true) : w ∈ BG := List.mem_filter.mpr ⟨List.mem_append_right _ (List.mem_append_right _ (List.mem_append_right _ (List.mem_append_right _ (List.mem_append_right _ h)))), g⟩
theorem kw_0 : Cond.classLink RL 8 RX6 ∈ BG := bg_1 (List.mem_of_getElem? (l := tables_1_1) (i := 17) rfl) rfl
theorem kw_1 : Cond.instantiable RX6 6 ∈ BG := bg_1 (List.mem_of_getElem? (l := tables_1_1) (i := 18) rfl) rfl
theorem kw_2 : Cond.initialized RX6 ∈ BG := bg_1 (List.mem_of_getElem? (l := tables_1_1) (i := 1) rfl) rfl
theorem kw_3 : Cond.classLink RL 106 RX7 ∈ BG := bg_3 (List.mem_of_getElem? (l := tables_1_3) (i := 218) rfl) rfl
theorem kw_4 : Cond.instantiable RX7 34 ∈ BG := bg_3 (List.mem_of_getElem? (l := tables_1_3) (i := 219) rfl) rfl
theorem kw_5 : Cond.initialized RX7 ∈ BG := bg_1 (List.mem_of_getElem? (l := tables_1_1) (i := 7) rfl) rfl
theorem kw_6 : Cond.arrayClass .long ∈ BG := bg_4 (List.mem_of_getElem? (l := tables_1_4) (i := 87) rfl) rfl
theorem kw_7 : Cond.methodLink RL 105 yX6_init ∈ BG := bg_1 (List.mem_of_getElem? (l := tables_1_1) (i := 19) rfl) rfl
theorem kw_8 : Cond.instanceMethod yX6_init ∈ BG := bg_1 (List.mem_of_getElem? (l := tables_1_1) (i := 20) rfl) rfl
theorem kw_9 : Cond.code yX6_init cX6_init 1 none ∈ BG := bg_1 (List.mem_of_getElem? (l := tables_1_1) (i := 21) rfl) rfl
theorem kw_10 : Cond.methodLink RX6 3 objectInit ∈ BG := bg_1 (List.mem_of_getElem? (l := tables_1_1) (i := 22) rfl) rfl
theorem kw_11 : Cond.instanceMethod objectInit ∈ BG := bg_1 (List.mem_of_getElem? (l := tables_1_1) (i := 23) rfl) rfl
theorem kw_12 : Cond.code objectInit ⟨#[0xb1]⟩ 1 none ∈ BG := bg_1 (List.mem_of_getElem? (l := tables_1_1) (i := 24) rfl) rfl
theorem kw_13 : Cond.classLink RX6 9 RX0 ∈ BG := bg_1 (List.mem_of_getElem? (l := tables_1_1) (i := 25) rfl) rfl
theorem kw_14 : Cond.fieldLink RX6 11 "Timesheets" "staff" "[LTimesheets$Employee;" ∈ BG := bg_1 (List.mem_of_getElem? (l := tables_1_1) (i := 118) rfl) rfl
theorem kw_15 : Cond.fieldLink RX6 15 "Timesheets" "hired" "I" ∈ BG := bg_1 (List.mem_of_getElem? (l := tables_1_1) (i := 119) rfl) rfl
theorem kw_16 : Cond.classLink RX6 19 RX2 ∈ BG := bg_1 (List.mem_of_getElem? (l := tables_1_1) (i := 27) rfl) rfl
theorem kw_17 : Cond.instantiable RX2 1 ∈ BG := bg_1 (List.mem_of_getElem? (l := tables_1_1) (i := 28) rfl) rfl
theorem kw_18 : Cond.initialized RX2 ∈ BG := bg_1 (List.mem_of_getElem? (l := tables_1_1) (i := 2) rfl) rfl
theorem kw_19 : Cond.fieldLink RX6 22 "Timesheets" "premiums" "LTimesheets$Premiums;" ∈ BG := bg_1 (List.mem_of_getElem? (l := tables_1_1) (i := 120) rfl) rfl
theorem kw_20 : Cond.classLink RX6 26 RX1 ∈ BG := bg_1 (List.mem_of_getElem? (l := tables_1_1) (i := 55) rfl) rfl
theorem kw_21 : Cond.instantiable RX1 3 ∈ BG := bg_1 (List.mem_of_getElem? (l := tables_1_1) (i := 56) rfl) rfl
theorem kw_22 : Cond.initialized RX1 ∈ BG := bg_1 (List.mem_of_getElem? (l := tables_1_1) (i := 4) rfl) rfl
theorem kw_23 : Cond.fieldLink RX6 29 "Timesheets" "payroll" "LTimesheets$Payroll;" ∈ BG := bg_1 (List.mem_of_getElem? (l := tables_1_1) (i := 121) rfl) rfl
theorem kw_24 : Cond.fieldLink RX6 37 "Timesheets" "timeline" "LTimesheets$Timeline;" ∈ BG := bg_1 (List.mem_of_getElem? (l := tables_1_1) (i := 122) rfl) rfl
theorem kw_25 : Cond.fieldLink RX6 44 "Timesheets" "shiftList" "LTimesheets$Shifts;" ∈ BG := bg_1 (List.mem_of_getElem? (l := tables_1_1) (i := 123) rfl) rfl
theorem kw_26 : Cond.methodLink RX6 21 yX2_init ∈ BG := bg_1 (List.mem_of_getElem? (l := tables_1_1) (i := 29) rfl) rfl
theorem kw_27 : Cond.instanceMethod yX2_init ∈ BG := bg_1 (List.mem_of_getElem? (l := tables_1_1) (i := 30) rfl) rfl
theorem kw_28 : Cond.code yX2_init cX2_init 1 none ∈ BG := bg_1 (List.mem_of_getElem? (l := tables_1_1) (i := 31) rfl) rfl
theorem kw_29 : Cond.methodLink RX2 3 objectInit ∈ BG := bg_1 (List.mem_of_getElem? (l := tables_1_1) (i := 32) rfl) rfl
theorem kw_30 : Cond.classLink RX2 9 RX4 ∈ BG := bg_1 (List.mem_of_getElem? (l := tables_1_1) (i := 33) rfl) rfl
theorem kw_31 : Cond.instantiable RX4 3 ∈ BG := bg_1 (List.mem_of_getElem? (l := tables_1_1) (i := 34) rfl) rfl
theorem kw_32 : Cond.initialized RX4 ∈ BG := bg_1 (List.mem_of_getElem? (l := tables_1_1) (i := 3) rfl) rfl
theorem kw_33 : Cond.fieldLink RX2 14 "Timesheets$Premiums" "rows" "LTimesheets$Table;" ∈ BG := bg_1 (List.mem_of_getElem? (l := tables_1_1) (i := 50) rfl) rfl
theorem kw_34 : Cond.methodLink RX2 11 yX4_init ∈ BG := bg_1 (List.mem_of_getElem? (l := tables_1_1) (i := 35) rfl) rfl
theorem kw_35 : Cond.instanceMethod yX4_init ∈ BG := bg_1 (List.mem_of_getElem? (l := tables_1_1) (i := 36) rfl) rfl
theorem kw_36 : Cond.code yX4_init cX4_init 3 none ∈ BG := bg_1 (List.mem_of_getElem? (l := tables_1_1) (i := 37) rfl) rfl
theorem kw_37 : Cond.methodLink RX4 3 objectInit ∈ BG := bg_1 (List.mem_of_getElem? (l := tables_1_1) (i := 38) rfl) rfl
theorem kw_38 : Cond.fieldLink RX4 9 "Timesheets$Table" "width" "I" ∈ BG := bg_1 (List.mem_of_getElem? (l := tables_1_1) (i := 39) rfl) rfl
theorem kw_39 : Cond.arrayClass .int ∈ BG := bg_1 (List.mem_of_getElem? (l := tables_1_1) (i := 49) rfl) rfl
theorem kw_40 : Cond.fieldLink RX4 15 "Timesheets$Table" "cells" "[I" ∈ BG := bg_1 (List.mem_of_getElem? (l := tables_1_1) (i := 40) rfl) rfl
theorem kw_41 : Cond.fieldLink RX4 19 "Timesheets$Table" "rows" "I" ∈ BG := bg_1 (List.mem_of_getElem? (l := tables_1_1) (i := 41) rfl) rfl
theorem kw_42 : Cond.methodLink RX6 28 yX1_init ∈ BG := bg_1 (List.mem_of_getElem? (l := tables_1_1) (i := 57) rfl) rfl
theorem kw_43 : Cond.instanceMethod yX1_init ∈ BG := bg_1 (List.mem_of_getElem? (l := tables_1_1) (i := 58) rfl) rfl
theorem kw_44 : Cond.code yX1_init cX1_init 1 none ∈ BG := bg_1 (List.mem_of_getElem? (l := tables_1_1) (i := 59) rfl) rfl
theorem kw_45 : Cond.methodLink RX1 3 objectInit ∈ BG := bg_1 (List.mem_of_getElem? (l := tables_1_1) (i := 60) rfl) rfl
theorem kw_46 : Cond.classLink RX1 9 RX5 ∈ BG := bg_1 (List.mem_of_getElem? (l := tables_1_1) (i := 61) rfl) rfl
theorem kw_47 : Cond.instantiable RX5 4 ∈ BG := bg_1 (List.mem_of_getElem? (l := tables_1_1) (i := 62) rfl) rfl
theorem kw_48 : Cond.initialized RX5 ∈ BG := bg_1 (List.mem_of_getElem? (l := tables_1_1) (i := 5) rfl) rfl
theorem kw_49 : Cond.fieldLink RX1 12 "Timesheets$Payroll" "timeline" "LTimesheets$Timeline;" ∈ BG := bg_1 (List.mem_of_getElem? (l := tables_1_1) (i := 106) rfl) rfl
theorem kw_50 : Cond.classLink RX1 18 RX4 ∈ BG := bg_1 (List.mem_of_getElem? (l := tables_1_1) (i := 104) rfl) rfl
theorem kw_51 : Cond.fieldLink RX1 23 "Timesheets$Payroll" "paid" "LTimesheets$Table;" ∈ BG := bg_1 (List.mem_of_getElem? (l := tables_1_1) (i := 108) rfl) rfl
theorem kw_52 : Cond.fieldLink RX1 27 "Timesheets$Payroll" "parts" "LTimesheets$Table;" ∈ BG := bg_1 (List.mem_of_getElem? (l := tables_1_1) (i := 109) rfl) rfl
theorem kw_53 : Cond.methodLink RX1 11 yX5_init ∈ BG := bg_1 (List.mem_of_getElem? (l := tables_1_1) (i := 63) rfl) rfl
theorem kw_54 : Cond.instanceMethod yX5_init ∈ BG := bg_1 (List.mem_of_getElem? (l := tables_1_1) (i := 64) rfl) rfl
theorem kw_55 : Cond.code yX5_init cX5_init 1 none ∈ BG := bg_1 (List.mem_of_getElem? (l := tables_1_1) (i := 65) rfl) rfl
theorem kw_56 : Cond.methodLink RX5 3 objectInit ∈ BG := bg_1 (List.mem_of_getElem? (l := tables_1_1) (i := 66) rfl) rfl
theorem kw_57 : Cond.classLink RX5 9 RX3 ∈ BG := bg_1 (List.mem_of_getElem? (l := tables_1_1) (i := 67) rfl) rfl
theorem kw_58 : Cond.instantiable RX3 2 ∈ BG := bg_1 (List.mem_of_getElem? (l := tables_1_1) (i := 68) rfl) rfl
theorem kw_59 : Cond.initialized RX3 ∈ BG := bg_1 (List.mem_of_getElem? (l := tables_1_1) (i := 6) rfl) rfl
theorem kw_60 : Cond.fieldLink RX5 12 "Timesheets$Timeline" "shiftList" "LTimesheets$Shifts;" ∈ BG := bg_1 (List.mem_of_getElem? (l := tables_1_1) (i := 87) rfl) rfl
theorem kw_61 : Cond.classLink RX5 18 RX4 ∈ BG := bg_1 (List.mem_of_getElem? (l := tables_1_1) (i := 85) rfl) rfl
theorem kw_62 : Cond.fieldLink RX5 23 "Timesheets$Timeline" "events" "LTimesheets$Table;" ∈ BG := bg_1 (List.mem_of_getElem? (l := tables_1_1) (i := 89) rfl) rfl
theorem kw_63 : Cond.fieldLink RX5 27 "Timesheets$Timeline" "stretchList" "LTimesheets$Table;" ∈ BG := bg_1 (List.mem_of_getElem? (l := tables_1_1) (i := 90) rfl) rfl
theorem kw_64 : Cond.fieldLink RX5 30 "Timesheets$Timeline" "coveredTwice" "I" ∈ BG := bg_1 (List.mem_of_getElem? (l := tables_1_1) (i := 93) rfl) rfl
theorem kw_65 : Cond.methodLink RX5 11 yX3_init ∈ BG := bg_1 (List.mem_of_getElem? (l := tables_1_1) (i := 69) rfl) rfl
theorem kw_66 : Cond.instanceMethod yX3_init ∈ BG := bg_1 (List.mem_of_getElem? (l := tables_1_1) (i := 70) rfl) rfl
theorem kw_67 : Cond.code yX3_init cX3_init 1 none ∈ BG := bg_1 (List.mem_of_getElem? (l := tables_1_1) (i := 71) rfl) rfl
theorem kw_68 : Cond.methodLink RX3 3 objectInit ∈ BG := bg_1 (List.mem_of_getElem? (l := tables_1_1) (i := 72) rfl) rfl
theorem kw_69 : Cond.classLink RX3 9 RX4 ∈ BG := bg_1 (List.mem_of_getElem? (l := tables_1_1) (i := 73) rfl) rfl
theorem kw_70 : Cond.fieldLink RX3 14 "Timesheets$Shifts" "spans" "LTimesheets$Table;" ∈ BG := bg_1 (List.mem_of_getElem? (l := tables_1_1) (i := 75) rfl) rfl
theorem kw_71 : Cond.fieldLink RX3 20 "Timesheets$Shifts" "repaired" "I" ∈ BG := bg_1 (List.mem_of_getElem? (l := tables_1_1) (i := 78) rfl) rfl
theorem kw_72 : Cond.methodLink RX3 11 yX4_init ∈ BG := bg_1 (List.mem_of_getElem? (l := tables_1_1) (i := 74) rfl) rfl
theorem kw_73 : Cond.methodLink RX5 20 yX4_init ∈ BG := bg_1 (List.mem_of_getElem? (l := tables_1_1) (i := 86) rfl) rfl
theorem kw_74 : Cond.methodLink RX1 20 yX4_init ∈ BG := bg_1 (List.mem_of_getElem? (l := tables_1_1) (i := 105) rfl) rfl
theorem kw_75 : Cond.methodLink RL 108 yX7_init ∈ BG := bg_3 (List.mem_of_getElem? (l := tables_1_3) (i := 220) rfl) rfl
theorem kw_76 : Cond.instanceMethod yX7_init ∈ BG := bg_3 (List.mem_of_getElem? (l := tables_1_3) (i := 221) rfl) rfl
theorem kw_77 : Cond.code yX7_init cX7_init 1 none ∈ BG := bg_3 (List.mem_of_getElem? (l := tables_1_3) (i := 222) rfl) rfl
theorem kw_78 : Cond.methodLink RX7 1 objectInit ∈ BG := bg_3 (List.mem_of_getElem? (l := tables_1_3) (i := 223) rfl) rfl
theorem kw_79 : Cond.fieldLink RX7 7 "TimesheetsModel" "wages" "[I" ∈ BG := bg_3 (List.mem_of_getElem? (l := tables_1_3) (i := 226) rfl) rfl
theorem kw_80 : Cond.fieldLink RX7 13 "TimesheetsModel" "closed" "[I" ∈ BG := bg_3 (List.mem_of_getElem? (l := tables_1_3) (i := 227) rfl) rfl
theorem kw_81 : Cond.fieldLink RX7 16 "TimesheetsModel" "gained" "[J" ∈ BG := bg_3 (List.mem_of_getElem? (l := tables_1_3) (i := 228) rfl) rfl
theorem kw_82 : Cond.fieldLink RX7 20 "TimesheetsModel" "punchMany" "[I" ∈ BG := bg_3 (List.mem_of_getElem? (l := tables_1_3) (i := 229) rfl) rfl
theorem kw_83 : Cond.fieldLink RX7 23 "TimesheetsModel" "punchTime" "[I" ∈ BG := bg_3 (List.mem_of_getElem? (l := tables_1_3) (i := 230) rfl) rfl
theorem kw_84 : Cond.arrayClass .boolean ∈ BG := bg_4 (List.mem_of_getElem? (l := tables_1_4) (i := 88) rfl) rfl
theorem kw_85 : Cond.fieldLink RX7 26 "TimesheetsModel" "isIn" "[Z" ∈ BG := bg_3 (List.mem_of_getElem? (l := tables_1_3) (i := 231) rfl) rfl
theorem kw_86 : Cond.fieldLink RX7 30 "TimesheetsModel" "entryMany" "[I" ∈ BG := bg_3 (List.mem_of_getElem? (l := tables_1_3) (i := 232) rfl) rfl
theorem kw_87 : Cond.fieldLink RX7 33 "TimesheetsModel" "entryFrom" "[I" ∈ BG := bg_3 (List.mem_of_getElem? (l := tables_1_3) (i := 233) rfl) rfl
theorem kw_88 : Cond.fieldLink RX7 36 "TimesheetsModel" "entryTo" "[I" ∈ BG := bg_3 (List.mem_of_getElem? (l := tables_1_3) (i := 234) rfl) rfl
theorem kw_89 : Cond.fieldLink RX7 39 "TimesheetsModel" "breakMany" "[I" ∈ BG := bg_3 (List.mem_of_getElem? (l := tables_1_3) (i := 235) rfl) rfl
theorem kw_90 : Cond.fieldLink RX7 42 "TimesheetsModel" "breakFrom" "[I" ∈ BG := bg_3 (List.mem_of_getElem? (l := tables_1_3) (i := 236) rfl) rfl
theorem kw_91 : Cond.fieldLink RX7 45 "TimesheetsModel" "breakTo" "[I" ∈ BG := bg_3 (List.mem_of_getElem? (l := tables_1_3) (i := 237) rfl) rfl
theorem kw_92 : Cond.fieldLink RX7 48 "TimesheetsModel" "rateDays" "[I" ∈ BG := bg_3 (List.mem_of_getElem? (l := tables_1_3) (i := 239) rfl) rfl
theorem kw_93 : Cond.fieldLink RX7 51 "TimesheetsModel" "rateFrom" "[I" ∈ BG := bg_4 (List.mem_of_getElem? (l := tables_1_4) (i := 0) rfl) rfl
theorem kw_94 : Cond.fieldLink RX7 54 "TimesheetsModel" "rateTo" "[I" ∈ BG := bg_4 (List.mem_of_getElem? (l := tables_1_4) (i := 1) rfl) rfl
theorem kw_95 : Cond.fieldLink RX7 57 "TimesheetsModel" "rates" "[I" ∈ BG := bg_4 (List.mem_of_getElem? (l := tables_1_4) (i := 2) rfl) rfl
theorem kw_96 : Cond.fieldLink RX7 60 "TimesheetsModel" "begins" "[I" ∈ BG := bg_4 (List.mem_of_getElem? (l := tables_1_4) (i := 5) rfl) rfl
theorem kw_97 : Cond.fieldLink RX7 63 "TimesheetsModel" "ends" "[I" ∈ BG := bg_4 (List.mem_of_getElem? (l := tables_1_4) (i := 6) rfl) rfl
theorem kw_98 : Cond.fieldLink RX7 66 "TimesheetsModel" "cover" "[I" ∈ BG := bg_4 (List.mem_of_getElem? (l := tables_1_4) (i := 7) rfl) rfl
theorem kw_99 : Cond.fieldLink RX7 69 "TimesheetsModel" "rest" "[I" ∈ BG := bg_4 (List.mem_of_getElem? (l := tables_1_4) (i := 8) rfl) rfl
theorem kw_100 : Cond.fieldLink RX7 72 "TimesheetsModel" "kind" "[I" ∈ BG := bg_4 (List.mem_of_getElem? (l := tables_1_4) (i := 9) rfl) rfl
theorem kw_101 : Cond.fieldLink RX7 75 "TimesheetsModel" "worked" "[I" ∈ BG := bg_4 (List.mem_of_getElem? (l := tables_1_4) (i := 10) rfl) rfl
theorem kw_102 : Cond.fieldLink RX7 78 "TimesheetsModel" "paid" "[I" ∈ BG := bg_4 (List.mem_of_getElem? (l := tables_1_4) (i := 11) rfl) rfl
theorem kw_103 : Cond.fieldLink RX7 81 "TimesheetsModel" "sums" "[I" ∈ BG := bg_4 (List.mem_of_getElem? (l := tables_1_4) (i := 12) rfl) rfl
theorem kw_104 : Cond.fieldLink RX7 84 "TimesheetsModel" "shares" "[I" ∈ BG := bg_4 (List.mem_of_getElem? (l := tables_1_4) (i := 13) rfl) rfl
theorem kw_105 : Cond.fieldLink RX7 87 "TimesheetsModel" "weekShares" "[I" ∈ BG := bg_4 (List.mem_of_getElem? (l := tables_1_4) (i := 14) rfl) rfl
theorem kw_106 : Cond.fieldLink RX7 90 "TimesheetsModel" "thrown" "I" ∈ BG := bg_3 (List.mem_of_getElem? (l := tables_1_3) (i := 224) rfl) rfl
theorem kw_107 : Cond.methodLink RL 109 yL_hire ∈ BG := bg_1 (List.mem_of_getElem? (l := tables_1_1) (i := 141) rfl) rfl
theorem kw_108 : Cond.static yL_hire ∈ BG := bg_1 (List.mem_of_getElem? (l := tables_1_1) (i := 142) rfl) rfl
theorem kw_109 : Cond.initialized RL ∈ BG := bg_1 (List.mem_of_getElem? (l := tables_1_1) (i := 0) rfl) rfl
theorem kw_110 : Cond.codeWith yL_hire cL_hire 4 (some .int) [(0, 9, 12, 13), (0, 9, 15, 15)] ∈ BG := bg_1 (List.mem_of_getElem? (l := tables_1_1) (i := 143) rfl) rfl
theorem kw_111 : Cond.classLink RL 13 "java/lang/IllegalArgumentException" ∈ BG := bg_1 (List.mem_of_getElem? (l := tables_1_1) (i := 144) rfl) rfl
theorem kw_112 : Cond.classLink RL 15 "java/lang/IllegalStateException" ∈ BG := bg_1 (List.mem_of_getElem? (l := tables_1_1) (i := 145) rfl) rfl
theorem kw_113 : Cond.methodLink RL 7 yX6_hire ∈ BG := bg_1 (List.mem_of_getElem? (l := tables_1_1) (i := 146) rfl) rfl
theorem kw_114 : Cond.instanceMethod yX6_hire ∈ BG := bg_1 (List.mem_of_getElem? (l := tables_1_1) (i := 147) rfl) rfl
theorem kw_115 : Cond.selects RX6 yX6_hire yX6_hire ∈ BG := bg_1 (List.mem_of_getElem? (l := tables_1_1) (i := 148) rfl) rfl
theorem kw_116 : Cond.code yX6_hire cX6_hire 3 (some .int) ∈ BG := bg_1 (List.mem_of_getElem? (l := tables_1_1) (i := 149) rfl) rfl
theorem kw_117 : Cond.classLink RX6 50 "java/lang/IllegalStateException" ∈ BG := bg_1 (List.mem_of_getElem? (l := tables_1_1) (i := 223) rfl) rfl
theorem kw_118 : Cond.initialized "java/lang/IllegalStateException" ∈ BG := bg_1 (List.mem_of_getElem? (l := tables_1_1) (i := 12) rfl) rfl
theorem kw_119 : Cond.constant RX6 45 (100000) ∈ BG := bg_1 (List.mem_of_getElem? (l := tables_1_1) (i := 150) rfl) rfl
theorem kw_120 : Cond.instantiable RX0 6 ∈ BG := bg_1 (List.mem_of_getElem? (l := tables_1_1) (i := 239) rfl) rfl
theorem kw_121 : Cond.initialized RX0 ∈ BG := bg_1 (List.mem_of_getElem? (l := tables_1_1) (i := 13) rfl) rfl
theorem kw_122 : Cond.methodLink RX6 46 yX6_requireWithin ∈ BG := bg_1 (List.mem_of_getElem? (l := tables_1_1) (i := 151) rfl) rfl
theorem kw_123 : Cond.static yX6_requireWithin ∈ BG := bg_1 (List.mem_of_getElem? (l := tables_1_1) (i := 152) rfl) rfl
theorem kw_124 : Cond.code yX6_requireWithin cX6_requireWithin 3 none ∈ BG := bg_1 (List.mem_of_getElem? (l := tables_1_1) (i := 153) rfl) rfl
theorem kw_125 : Cond.classLink RX6 200 "java/lang/IllegalArgumentException" ∈ BG := bg_1 (List.mem_of_getElem? (l := tables_1_1) (i := 154) rfl) rfl
theorem kw_126 : Cond.initialized "java/lang/IllegalArgumentException" ∈ BG := bg_1 (List.mem_of_getElem? (l := tables_1_1) (i := 11) rfl) rfl
theorem kw_127 : Cond.methodLink RX6 57 yX0_init ∈ BG := bg_2 (List.mem_of_getElem? (l := tables_1_2) (i := 0) rfl) rfl
theorem kw_128 : Cond.instanceMethod yX0_init ∈ BG := bg_2 (List.mem_of_getElem? (l := tables_1_2) (i := 1) rfl) rfl
theorem kw_129 : Cond.code yX0_init cX0_init 2 none ∈ BG := bg_2 (List.mem_of_getElem? (l := tables_1_2) (i := 2) rfl) rfl
theorem kw_130 : Cond.methodLink RX0 3 objectInit ∈ BG := bg_2 (List.mem_of_getElem? (l := tables_1_2) (i := 3) rfl) rfl
theorem kw_131 : Cond.fieldLink RX0 9 "Timesheets$Employee" "wage" "I" ∈ BG := bg_2 (List.mem_of_getElem? (l := tables_1_2) (i := 6) rfl) rfl
theorem kw_132 : Cond.fieldLink RX0 15 "Timesheets$Employee" "weeksClosed" "I" ∈ BG := bg_2 (List.mem_of_getElem? (l := tables_1_2) (i := 8) rfl) rfl
theorem kw_133 : Cond.fieldLink RX0 18 "Timesheets$Employee" "earnings" "J" ∈ BG := bg_2 (List.mem_of_getElem? (l := tables_1_2) (i := 10) rfl) rfl
theorem kw_134 : Cond.classLink RX0 22 RX4 ∈ BG := bg_2 (List.mem_of_getElem? (l := tables_1_2) (i := 4) rfl) rfl
theorem kw_135 : Cond.fieldLink RX0 27 "Timesheets$Employee" "punches" "LTimesheets$Table;" ∈ BG := bg_2 (List.mem_of_getElem? (l := tables_1_2) (i := 12) rfl) rfl
theorem kw_136 : Cond.fieldLink RX0 31 "Timesheets$Employee" "entries" "LTimesheets$Table;" ∈ BG := bg_2 (List.mem_of_getElem? (l := tables_1_2) (i := 15) rfl) rfl
theorem kw_137 : Cond.fieldLink RX0 34 "Timesheets$Employee" "breaks" "LTimesheets$Table;" ∈ BG := bg_2 (List.mem_of_getElem? (l := tables_1_2) (i := 18) rfl) rfl
theorem kw_138 : Cond.methodLink RX0 24 yX4_init ∈ BG := bg_2 (List.mem_of_getElem? (l := tables_1_2) (i := 5) rfl) rfl
theorem kw_139 : Cond.methodLink RL 114 yX7_hire ∈ BG := bg_4 (List.mem_of_getElem? (l := tables_1_4) (i := 93) rfl) rfl
theorem kw_140 : Cond.instanceMethod yX7_hire ∈ BG := bg_4 (List.mem_of_getElem? (l := tables_1_4) (i := 94) rfl) rfl
theorem kw_141 : Cond.selects RX7 yX7_hire yX7_hire ∈ BG := bg_4 (List.mem_of_getElem? (l := tables_1_4) (i := 95) rfl) rfl
theorem kw_142 : Cond.code yX7_hire cX7_hire 2 (some .int) ∈ BG := bg_4 (List.mem_of_getElem? (l := tables_1_4) (i := 96) rfl) rfl
theorem kw_143 : Cond.constant RX7 101 (100000) ∈ BG := bg_4 (List.mem_of_getElem? (l := tables_1_4) (i := 97) rfl) rfl
theorem kw_144 : Cond.fieldLink RX7 94 "TimesheetsModel" "many" "I" ∈ BG := bg_3 (List.mem_of_getElem? (l := tables_1_3) (i := 225) rfl) rfl
theorem kw_145 : Cond.methodLink RX7 97 yX7_in ∈ BG := bg_4 (List.mem_of_getElem? (l := tables_1_4) (i := 98) rfl) rfl
theorem kw_146 : Cond.static yX7_in ∈ BG := bg_4 (List.mem_of_getElem? (l := tables_1_4) (i := 99) rfl) rfl
theorem kw_147 : Cond.code yX7_in cX7_in 3 (some .boolean) ∈ BG := bg_4 (List.mem_of_getElem? (l := tables_1_4) (i := 100) rfl) rfl
theorem kw_148 : Cond.methodLink RL 115 yX7_thrown ∈ BG := bg_4 (List.mem_of_getElem? (l := tables_1_4) (i := 89) rfl) rfl
theorem kw_149 : Cond.instanceMethod yX7_thrown ∈ BG := bg_4 (List.mem_of_getElem? (l := tables_1_4) (i := 90) rfl) rfl
theorem kw_150 : Cond.selects RX7 yX7_thrown yX7_thrown ∈ BG := bg_4 (List.mem_of_getElem? (l := tables_1_4) (i := 91) rfl) rfl
theorem kw_151 : Cond.code yX7_thrown cX7_thrown 1 (some .int) ∈ BG := bg_4 (List.mem_of_getElem? (l := tables_1_4) (i := 92) rfl) rfl
theorem kw_152 : Cond.methodLink RL 119 yL_setWage ∈ BG := bg_2 (List.mem_of_getElem? (l := tables_1_2) (i := 34) rfl) rfl
theorem kw_153 : Cond.static yL_setWage ∈ BG := bg_2 (List.mem_of_getElem? (l := tables_1_2) (i := 35) rfl) rfl
theorem kw_154 : Cond.codeWith yL_setWage cL_setWage 5 (some .int) [(0, 10, 13, 21), (0, 10, 17, 13)] ∈ BG := bg_2 (List.mem_of_getElem? (l := tables_1_2) (i := 36) rfl) rfl
theorem kw_155 : Cond.classLink RL 21 "java/lang/IndexOutOfBoundsException" ∈ BG := bg_2 (List.mem_of_getElem? (l := tables_1_2) (i := 37) rfl) rfl
theorem kw_156 : Cond.methodLink RL 17 yX6_setWage ∈ BG := bg_2 (List.mem_of_getElem? (l := tables_1_2) (i := 38) rfl) rfl
theorem kw_157 : Cond.instanceMethod yX6_setWage ∈ BG := bg_2 (List.mem_of_getElem? (l := tables_1_2) (i := 39) rfl) rfl
theorem kw_158 : Cond.selects RX6 yX6_setWage yX6_setWage ∈ BG := bg_2 (List.mem_of_getElem? (l := tables_1_2) (i := 40) rfl) rfl
theorem kw_159 : Cond.code yX6_setWage cX6_setWage 5 (some .int) ∈ BG := bg_2 (List.mem_of_getElem? (l := tables_1_2) (i := 41) rfl) rfl
theorem kw_160 : Cond.methodLink RX6 60 yX6_find ∈ BG := bg_2 (List.mem_of_getElem? (l := tables_1_2) (i := 42) rfl) rfl
theorem kw_161 : Cond.instanceMethod yX6_find ∈ BG := bg_2 (List.mem_of_getElem? (l := tables_1_2) (i := 44) rfl) rfl
theorem kw_162 : Cond.selects RX6 yX6_find yX6_find ∈ BG := bg_0 (List.mem_of_getElem? (l := k2_sels lw_privs) (i := 1) rfl) rfl
theorem kw_163 : Cond.code yX6_find cX6_find 3 (some (.object "Timesheets$Employee")) ∈ BG := bg_2 (List.mem_of_getElem? (l := tables_1_2) (i := 45) rfl) rfl
theorem kw_164 : Cond.classLink RX6 195 "java/lang/IndexOutOfBoundsException" ∈ BG := bg_2 (List.mem_of_getElem? (l := tables_1_2) (i := 46) rfl) rfl
theorem kw_165 : Cond.initialized "java/lang/IndexOutOfBoundsException" ∈ BG := bg_1 (List.mem_of_getElem? (l := tables_1_1) (i := 14) rfl) rfl
theorem kw_166 : Cond.methodLink RL 122 yX7_setWage ∈ BG := bg_4 (List.mem_of_getElem? (l := tables_1_4) (i := 101) rfl) rfl
theorem kw_167 : Cond.instanceMethod yX7_setWage ∈ BG := bg_4 (List.mem_of_getElem? (l := tables_1_4) (i := 102) rfl) rfl
theorem kw_168 : Cond.selects RX7 yX7_setWage yX7_setWage ∈ BG := bg_4 (List.mem_of_getElem? (l := tables_1_4) (i := 103) rfl) rfl
theorem kw_169 : Cond.code yX7_setWage cX7_setWage 4 (some .int) ∈ BG := bg_4 (List.mem_of_getElem? (l := tables_1_4) (i := 104) rfl) rfl
theorem kw_170 : Cond.methodLink RX7 102 yX7_isOne ∈ BG := bg_4 (List.mem_of_getElem? (l := tables_1_4) (i := 105) rfl) rfl
theorem kw_171 : Cond.instanceMethod yX7_isOne ∈ BG := bg_4 (List.mem_of_getElem? (l := tables_1_4) (i := 107) rfl) rfl
theorem kw_172 : Cond.selects RX7 yX7_isOne yX7_isOne ∈ BG := bg_0 (List.mem_of_getElem? (l := k2_sels lw_privs) (i := 16) rfl) rfl
theorem kw_173 : Cond.code yX7_isOne cX7_isOne 2 (some .boolean) ∈ BG := bg_4 (List.mem_of_getElem? (l := tables_1_4) (i := 108) rfl) rfl
theorem kw_174 : Cond.methodLink RL 123 yL_punch ∈ BG := bg_2 (List.mem_of_getElem? (l := tables_1_2) (i := 62) rfl) rfl
theorem kw_175 : Cond.static yL_punch ∈ BG := bg_2 (List.mem_of_getElem? (l := tables_1_2) (i := 63) rfl) rfl
theorem kw_176 : Cond.codeWith yL_punch cL_punch 6 (some .int) [(0, 12, 15, 21), (0, 12, 19, 13), (0, 12, 23, 15)] ∈ BG := bg_2 (List.mem_of_getElem? (l := tables_1_2) (i := 64) rfl) rfl
theorem kw_177 : Cond.methodLink RL 23 yX6_punch ∈ BG := bg_2 (List.mem_of_getElem? (l := tables_1_2) (i := 65) rfl) rfl
theorem kw_178 : Cond.instanceMethod yX6_punch ∈ BG := bg_2 (List.mem_of_getElem? (l := tables_1_2) (i := 66) rfl) rfl
theorem kw_179 : Cond.selects RX6 yX6_punch yX6_punch ∈ BG := bg_2 (List.mem_of_getElem? (l := tables_1_2) (i := 67) rfl) rfl
theorem kw_180 : Cond.code yX6_punch cX6_punch 6 (some .int) ∈ BG := bg_2 (List.mem_of_getElem? (l := tables_1_2) (i := 68) rfl) rfl
theorem kw_181 : Cond.methodLink RX6 71 yX6_requireRoom ∈ BG := bg_2 (List.mem_of_getElem? (l := tables_1_2) (i := 69) rfl) rfl
theorem kw_182 : Cond.static yX6_requireRoom ∈ BG := bg_2 (List.mem_of_getElem? (l := tables_1_2) (i := 70) rfl) rfl
theorem kw_183 : Cond.code yX6_requireRoom cX6_requireRoom 2 none ∈ BG := bg_2 (List.mem_of_getElem? (l := tables_1_2) (i := 71) rfl) rfl
theorem kw_184 : Cond.methodLink RX6 93 yX4_size ∈ BG := bg_2 (List.mem_of_getElem? (l := tables_1_2) (i := 72) rfl) rfl
theorem kw_185 : Cond.instanceMethod yX4_size ∈ BG := bg_2 (List.mem_of_getElem? (l := tables_1_2) (i := 73) rfl) rfl
theorem kw_186 : Cond.selects RX4 yX4_size yX4_size ∈ BG := bg_2 (List.mem_of_getElem? (l := tables_1_2) (i := 74) rfl) rfl
theorem kw_187 : Cond.code yX4_size cX4_size 1 (some .int) ∈ BG := bg_2 (List.mem_of_getElem? (l := tables_1_2) (i := 75) rfl) rfl
theorem kw_188 : Cond.methodLink RX6 75 yX6_placeOfPunch ∈ BG := bg_2 (List.mem_of_getElem? (l := tables_1_2) (i := 77) rfl) rfl
theorem kw_189 : Cond.static yX6_placeOfPunch ∈ BG := bg_2 (List.mem_of_getElem? (l := tables_1_2) (i := 78) rfl) rfl
theorem kw_190 : Cond.code yX6_placeOfPunch cX6_placeOfPunch 4 (some .int) ∈ BG := bg_2 (List.mem_of_getElem? (l := tables_1_2) (i := 79) rfl) rfl
theorem kw_191 : Cond.methodLink RX6 102 yX4_get ∈ BG := bg_2 (List.mem_of_getElem? (l := tables_1_2) (i := 80) rfl) rfl
theorem kw_192 : Cond.instanceMethod yX4_get ∈ BG := bg_2 (List.mem_of_getElem? (l := tables_1_2) (i := 81) rfl) rfl
theorem kw_193 : Cond.selects RX4 yX4_get yX4_get ∈ BG := bg_2 (List.mem_of_getElem? (l := tables_1_2) (i := 82) rfl) rfl
theorem kw_194 : Cond.code yX4_get cX4_get 4 (some .int) ∈ BG := bg_2 (List.mem_of_getElem? (l := tables_1_2) (i := 83) rfl) rfl
theorem kw_195 : Cond.methodLink RX6 79 yX6_isPunchAt ∈ BG := bg_2 (List.mem_of_getElem? (l := tables_1_2) (i := 84) rfl) rfl
theorem kw_196 : Cond.static yX6_isPunchAt ∈ BG := bg_2 (List.mem_of_getElem? (l := tables_1_2) (i := 85) rfl) rfl
theorem kw_197 : Cond.code yX6_isPunchAt cX6_isPunchAt 3 (some .boolean) ∈ BG := bg_2 (List.mem_of_getElem? (l := tables_1_2) (i := 86) rfl) rfl
theorem kw_198 : Cond.methodLink RX6 85 yX4_insert ∈ BG := bg_2 (List.mem_of_getElem? (l := tables_1_2) (i := 88) rfl) rfl
theorem kw_199 : Cond.instanceMethod yX4_insert ∈ BG := bg_2 (List.mem_of_getElem? (l := tables_1_2) (i := 89) rfl) rfl
theorem kw_200 : Cond.selects RX4 yX4_insert yX4_insert ∈ BG := bg_2 (List.mem_of_getElem? (l := tables_1_2) (i := 90) rfl) rfl
theorem kw_201 : Cond.code yX4_insert cX4_insert 3 none ∈ BG := bg_2 (List.mem_of_getElem? (l := tables_1_2) (i := 91) rfl) rfl
theorem kw_202 : Cond.methodLink RX6 90 yX4_set ∈ BG := bg_2 (List.mem_of_getElem? (l := tables_1_2) (i := 92) rfl) rfl
theorem kw_203 : Cond.instanceMethod yX4_set ∈ BG := bg_2 (List.mem_of_getElem? (l := tables_1_2) (i := 93) rfl) rfl
theorem kw_204 : Cond.selects RX4 yX4_set yX4_set ∈ BG := bg_2 (List.mem_of_getElem? (l := tables_1_2) (i := 94) rfl) rfl
theorem kw_205 : Cond.code yX4_set cX4_set 5 none ∈ BG := bg_2 (List.mem_of_getElem? (l := tables_1_2) (i := 95) rfl) rfl
theorem kw_206 : Cond.methodLink RL 126 yX7_punch ∈ BG := bg_4 (List.mem_of_getElem? (l := tables_1_4) (i := 109) rfl) rfl
theorem kw_207 : Cond.instanceMethod yX7_punch ∈ BG := bg_4 (List.mem_of_getElem? (l := tables_1_4) (i := 110) rfl) rfl
theorem kw_208 : Cond.selects RX7 yX7_punch yX7_punch ∈ BG := bg_4 (List.mem_of_getElem? (l := tables_1_4) (i := 111) rfl) rfl
theorem kw_209 : Cond.code yX7_punch cX7_punch 6 (some .int) ∈ BG := bg_4 (List.mem_of_getElem? (l := tables_1_4) (i := 112) rfl) rfl
theorem kw_210 : Cond.methodLink RX7 110 yX7_hasPunch ∈ BG := bg_4 (List.mem_of_getElem? (l := tables_1_4) (i := 113) rfl) rfl
theorem kw_211 : Cond.instanceMethod yX7_hasPunch ∈ BG := bg_4 (List.mem_of_getElem? (l := tables_1_4) (i := 115) rfl) rfl
theorem kw_212 : Cond.selects RX7 yX7_hasPunch yX7_hasPunch ∈ BG := bg_0 (List.mem_of_getElem? (l := k2_sels lw_privs) (i := 17) rfl) rfl
theorem kw_213 : Cond.code yX7_hasPunch cX7_hasPunch 4 (some .boolean) ∈ BG := bg_4 (List.mem_of_getElem? (l := tables_1_4) (i := 116) rfl) rfl
theorem kw_214 : Cond.methodLink RX7 106 yX7_placeOf ∈ BG := bg_4 (List.mem_of_getElem? (l := tables_1_4) (i := 117) rfl) rfl
theorem kw_215 : Cond.instanceMethod yX7_placeOf ∈ BG := bg_4 (List.mem_of_getElem? (l := tables_1_4) (i := 119) rfl) rfl
theorem kw_216 : Cond.selects RX7 yX7_placeOf yX7_placeOf ∈ BG := bg_0 (List.mem_of_getElem? (l := k2_sels lw_privs) (i := 18) rfl) rfl
theorem kw_217 : Cond.code yX7_placeOf cX7_placeOf 4 (some .int) ∈ BG := bg_4 (List.mem_of_getElem? (l := tables_1_4) (i := 120) rfl) rfl
theorem kw_218 : Cond.methodLink RL 127 yL_removePunch ∈ BG := bg_2 (List.mem_of_getElem? (l := tables_1_2) (i := 96) rfl) rfl
theorem kw_219 : Cond.static yL_removePunch ∈ BG := bg_2 (List.mem_of_getElem? (l := tables_1_2) (i := 97) rfl) rfl
theorem kw_220 : Cond.codeWith yL_removePunch cL_removePunch 5 (some .int) [(0, 17, 20, 21), (0, 17, 24, 31)] ∈ BG := bg_2 (List.mem_of_getElem? (l := tables_1_2) (i := 98) rfl) rfl
theorem kw_221 : Cond.classLink RL 31 "java/util/NoSuchElementException" ∈ BG := bg_2 (List.mem_of_getElem? (l := tables_1_2) (i := 99) rfl) rfl
theorem kw_222 : Cond.methodLink RL 27 yX6_removePunch ∈ BG := bg_2 (List.mem_of_getElem? (l := tables_1_2) (i := 100) rfl) rfl
theorem kw_223 : Cond.instanceMethod yX6_removePunch ∈ BG := bg_2 (List.mem_of_getElem? (l := tables_1_2) (i := 101) rfl) rfl
theorem kw_224 : Cond.selects RX6 yX6_removePunch yX6_removePunch ∈ BG := bg_2 (List.mem_of_getElem? (l := tables_1_2) (i := 102) rfl) rfl
theorem kw_225 : Cond.code yX6_removePunch cX6_removePunch 6 (some .boolean) ∈ BG := bg_2 (List.mem_of_getElem? (l := tables_1_2) (i := 103) rfl) rfl
theorem kw_226 : Cond.classLink RX6 97 "java/util/NoSuchElementException" ∈ BG := bg_2 (List.mem_of_getElem? (l := tables_1_2) (i := 104) rfl) rfl
theorem kw_227 : Cond.initialized "java/util/NoSuchElementException" ∈ BG := bg_1 (List.mem_of_getElem? (l := tables_1_1) (i := 15) rfl) rfl
theorem kw_228 : Cond.methodLink RX6 106 yX4_remove ∈ BG := bg_2 (List.mem_of_getElem? (l := tables_1_2) (i := 120) rfl) rfl
theorem kw_229 : Cond.instanceMethod yX4_remove ∈ BG := bg_2 (List.mem_of_getElem? (l := tables_1_2) (i := 121) rfl) rfl
theorem kw_230 : Cond.selects RX4 yX4_remove yX4_remove ∈ BG := bg_2 (List.mem_of_getElem? (l := tables_1_2) (i := 122) rfl) rfl
theorem kw_231 : Cond.code yX4_remove cX4_remove 3 none ∈ BG := bg_2 (List.mem_of_getElem? (l := tables_1_2) (i := 123) rfl) rfl
theorem kw_232 : Cond.methodLink RL 129 yX7_removePunch ∈ BG := bg_4 (List.mem_of_getElem? (l := tables_1_4) (i := 121) rfl) rfl
theorem kw_233 : Cond.instanceMethod yX7_removePunch ∈ BG := bg_4 (List.mem_of_getElem? (l := tables_1_4) (i := 122) rfl) rfl
theorem kw_234 : Cond.selects RX7 yX7_removePunch yX7_removePunch ∈ BG := bg_4 (List.mem_of_getElem? (l := tables_1_4) (i := 123) rfl) rfl
theorem kw_235 : Cond.code yX7_removePunch cX7_removePunch 6 (some .boolean) ∈ BG := bg_4 (List.mem_of_getElem? (l := tables_1_4) (i := 124) rfl) rfl
theorem kw_236 : Cond.methodLink RL 130 yL_enter ∈ BG := bg_2 (List.mem_of_getElem? (l := tables_1_2) (i := 124) rfl) rfl
theorem kw_237 : Cond.static yL_enter ∈ BG := bg_2 (List.mem_of_getElem? (l := tables_1_2) (i := 125) rfl) rfl
theorem kw_238 : Cond.codeWith yL_enter cL_enter 6 (some .int) [(0, 12, 15, 21), (0, 12, 19, 13), (0, 12, 23, 15)] ∈ BG := bg_2 (List.mem_of_getElem? (l := tables_1_2) (i := 126) rfl) rfl
theorem kw_239 : Cond.methodLink RL 33 yX6_enter ∈ BG := bg_2 (List.mem_of_getElem? (l := tables_1_2) (i := 127) rfl) rfl
theorem kw_240 : Cond.instanceMethod yX6_enter ∈ BG := bg_2 (List.mem_of_getElem? (l := tables_1_2) (i := 128) rfl) rfl
theorem kw_241 : Cond.selects RX6 yX6_enter yX6_enter ∈ BG := bg_2 (List.mem_of_getElem? (l := tables_1_2) (i := 129) rfl) rfl
theorem kw_242 : Cond.code yX6_enter cX6_enter 4 (some .int) ∈ BG := bg_2 (List.mem_of_getElem? (l := tables_1_2) (i := 130) rfl) rfl
theorem kw_243 : Cond.methodLink RX6 112 yX6_addByHand ∈ BG := bg_2 (List.mem_of_getElem? (l := tables_1_2) (i := 131) rfl) rfl
theorem kw_244 : Cond.static yX6_addByHand ∈ BG := bg_2 (List.mem_of_getElem? (l := tables_1_2) (i := 132) rfl) rfl
theorem kw_245 : Cond.code yX6_addByHand cX6_addByHand 4 (some .int) ∈ BG := bg_2 (List.mem_of_getElem? (l := tables_1_2) (i := 133) rfl) rfl
theorem kw_246 : Cond.methodLink RX6 209 yX4_addSpan ∈ BG := bg_2 (List.mem_of_getElem? (l := tables_1_2) (i := 134) rfl) rfl
theorem kw_247 : Cond.instanceMethod yX4_addSpan ∈ BG := bg_2 (List.mem_of_getElem? (l := tables_1_2) (i := 135) rfl) rfl
theorem kw_248 : Cond.selects RX4 yX4_addSpan yX4_addSpan ∈ BG := bg_2 (List.mem_of_getElem? (l := tables_1_2) (i := 136) rfl) rfl
theorem kw_249 : Cond.code yX4_addSpan cX4_addSpan 4 none ∈ BG := bg_2 (List.mem_of_getElem? (l := tables_1_2) (i := 137) rfl) rfl
theorem kw_250 : Cond.methodLink RX4 22 yX4_insert ∈ BG := bg_2 (List.mem_of_getElem? (l := tables_1_2) (i := 138) rfl) rfl
theorem kw_251 : Cond.methodLink RX4 26 yX4_set ∈ BG := bg_2 (List.mem_of_getElem? (l := tables_1_2) (i := 139) rfl) rfl
theorem kw_252 : Cond.methodLink RL 133 yX7_enter ∈ BG := bg_4 (List.mem_of_getElem? (l := tables_1_4) (i := 125) rfl) rfl
theorem kw_253 : Cond.instanceMethod yX7_enter ∈ BG := bg_4 (List.mem_of_getElem? (l := tables_1_4) (i := 126) rfl) rfl
theorem kw_254 : Cond.selects RX7 yX7_enter yX7_enter ∈ BG := bg_4 (List.mem_of_getElem? (l := tables_1_4) (i := 127) rfl) rfl
theorem kw_255 : Cond.code yX7_enter cX7_enter 4 (some .int) ∈ BG := bg_4 (List.mem_of_getElem? (l := tables_1_4) (i := 128) rfl) rfl
theorem kw_256 : Cond.methodLink RX7 114 yX7_puts ∈ BG := bg_4 (List.mem_of_getElem? (l := tables_1_4) (i := 129) rfl) rfl
theorem kw_257 : Cond.instanceMethod yX7_puts ∈ BG := bg_4 (List.mem_of_getElem? (l := tables_1_4) (i := 131) rfl) rfl
theorem kw_258 : Cond.selects RX7 yX7_puts yX7_puts ∈ BG := bg_0 (List.mem_of_getElem? (l := k2_sels lw_privs) (i := 19) rfl) rfl
theorem kw_259 : Cond.code yX7_puts cX7_puts 7 (some .int) ∈ BG := bg_4 (List.mem_of_getElem? (l := tables_1_4) (i := 132) rfl) rfl
theorem kw_260 : Cond.methodLink RL 134 yL_removeEntry ∈ BG := bg_2 (List.mem_of_getElem? (l := tables_1_2) (i := 140) rfl) rfl
theorem kw_261 : Cond.static yL_removeEntry ∈ BG := bg_2 (List.mem_of_getElem? (l := tables_1_2) (i := 141) rfl) rfl
theorem kw_262 : Cond.codeWith yL_removeEntry cL_removeEntry 5 (some .int) [(0, 10, 13, 21)] ∈ BG := bg_2 (List.mem_of_getElem? (l := tables_1_2) (i := 142) rfl) rfl
theorem kw_263 : Cond.methodLink RL 37 yX6_removeEntry ∈ BG := bg_2 (List.mem_of_getElem? (l := tables_1_2) (i := 143) rfl) rfl
theorem kw_264 : Cond.instanceMethod yX6_removeEntry ∈ BG := bg_2 (List.mem_of_getElem? (l := tables_1_2) (i := 144) rfl) rfl
theorem kw_265 : Cond.selects RX6 yX6_removeEntry yX6_removeEntry ∈ BG := bg_2 (List.mem_of_getElem? (l := tables_1_2) (i := 145) rfl) rfl
theorem kw_266 : Cond.code yX6_removeEntry cX6_removeEntry 3 (some .int) ∈ BG := bg_2 (List.mem_of_getElem? (l := tables_1_2) (i := 146) rfl) rfl
theorem kw_267 : Cond.methodLink RX6 116 yX6_removeNumbered ∈ BG := bg_2 (List.mem_of_getElem? (l := tables_1_2) (i := 147) rfl) rfl
theorem kw_268 : Cond.static yX6_removeNumbered ∈ BG := bg_2 (List.mem_of_getElem? (l := tables_1_2) (i := 148) rfl) rfl
theorem kw_269 : Cond.code yX6_removeNumbered cX6_removeNumbered 2 (some .int) ∈ BG := bg_2 (List.mem_of_getElem? (l := tables_1_2) (i := 149) rfl) rfl
theorem kw_270 : Cond.methodLink RX6 164 yX6_requireNumber ∈ BG := bg_2 (List.mem_of_getElem? (l := tables_1_2) (i := 150) rfl) rfl
theorem kw_271 : Cond.static yX6_requireNumber ∈ BG := bg_2 (List.mem_of_getElem? (l := tables_1_2) (i := 151) rfl) rfl
theorem kw_272 : Cond.code yX6_requireNumber cX6_requireNumber 2 none ∈ BG := bg_2 (List.mem_of_getElem? (l := tables_1_2) (i := 152) rfl) rfl
theorem kw_273 : Cond.methodLink RL 136 yX7_removeEntry ∈ BG := bg_4 (List.mem_of_getElem? (l := tables_1_4) (i := 133) rfl) rfl
theorem kw_274 : Cond.instanceMethod yX7_removeEntry ∈ BG := bg_4 (List.mem_of_getElem? (l := tables_1_4) (i := 134) rfl) rfl
theorem kw_275 : Cond.selects RX7 yX7_removeEntry yX7_removeEntry ∈ BG := bg_4 (List.mem_of_getElem? (l := tables_1_4) (i := 135) rfl) rfl
theorem kw_276 : Cond.code yX7_removeEntry cX7_removeEntry 3 (some .int) ∈ BG := bg_4 (List.mem_of_getElem? (l := tables_1_4) (i := 136) rfl) rfl
theorem kw_277 : Cond.methodLink RX7 118 yX7_takes ∈ BG := bg_4 (List.mem_of_getElem? (l := tables_1_4) (i := 137) rfl) rfl
theorem kw_278 : Cond.instanceMethod yX7_takes ∈ BG := bg_4 (List.mem_of_getElem? (l := tables_1_4) (i := 139) rfl) rfl
theorem kw_279 : Cond.selects RX7 yX7_takes yX7_takes ∈ BG := bg_0 (List.mem_of_getElem? (l := k2_sels lw_privs) (i := 20) rfl) rfl
theorem kw_280 : Cond.code yX7_takes cX7_takes 7 (some .int) ∈ BG := bg_4 (List.mem_of_getElem? (l := tables_1_4) (i := 140) rfl) rfl
theorem kw_281 : Cond.methodLink RL 137 yL_enterBreak ∈ BG := bg_2 (List.mem_of_getElem? (l := tables_1_2) (i := 154) rfl) rfl
theorem kw_282 : Cond.static yL_enterBreak ∈ BG := bg_2 (List.mem_of_getElem? (l := tables_1_2) (i := 155) rfl) rfl
theorem kw_283 : Cond.codeWith yL_enterBreak cL_enterBreak 6 (some .int) [(0, 12, 15, 21), (0, 12, 19, 13), (0, 12, 23, 15)] ∈ BG := bg_2 (List.mem_of_getElem? (l := tables_1_2) (i := 156) rfl) rfl
theorem kw_284 : Cond.methodLink RL 40 yX6_enterBreak ∈ BG := bg_2 (List.mem_of_getElem? (l := tables_1_2) (i := 157) rfl) rfl
theorem kw_285 : Cond.instanceMethod yX6_enterBreak ∈ BG := bg_2 (List.mem_of_getElem? (l := tables_1_2) (i := 158) rfl) rfl
theorem kw_286 : Cond.selects RX6 yX6_enterBreak yX6_enterBreak ∈ BG := bg_2 (List.mem_of_getElem? (l := tables_1_2) (i := 159) rfl) rfl
theorem kw_287 : Cond.code yX6_enterBreak cX6_enterBreak 4 (some .int) ∈ BG := bg_2 (List.mem_of_getElem? (l := tables_1_2) (i := 160) rfl) rfl
theorem kw_288 : Cond.methodLink RL 139 yX7_enterBreak ∈ BG := bg_4 (List.mem_of_getElem? (l := tables_1_4) (i := 141) rfl) rfl
theorem kw_289 : Cond.instanceMethod yX7_enterBreak ∈ BG := bg_4 (List.mem_of_getElem? (l := tables_1_4) (i := 142) rfl) rfl
theorem kw_290 : Cond.selects RX7 yX7_enterBreak yX7_enterBreak ∈ BG := bg_4 (List.mem_of_getElem? (l := tables_1_4) (i := 143) rfl) rfl
theorem kw_291 : Cond.code yX7_enterBreak cX7_enterBreak 4 (some .int) ∈ BG := bg_4 (List.mem_of_getElem? (l := tables_1_4) (i := 144) rfl) rfl
theorem kw_292 : Cond.methodLink RL 140 yL_removeBreak ∈ BG := bg_2 (List.mem_of_getElem? (l := tables_1_2) (i := 161) rfl) rfl
theorem kw_293 : Cond.static yL_removeBreak ∈ BG := bg_2 (List.mem_of_getElem? (l := tables_1_2) (i := 162) rfl) rfl
theorem kw_294 : Cond.codeWith yL_removeBreak cL_removeBreak 5 (some .int) [(0, 10, 13, 21)] ∈ BG := bg_2 (List.mem_of_getElem? (l := tables_1_2) (i := 163) rfl) rfl
theorem kw_295 : Cond.methodLink RL 43 yX6_removeBreak ∈ BG := bg_2 (List.mem_of_getElem? (l := tables_1_2) (i := 164) rfl) rfl
theorem kw_296 : Cond.instanceMethod yX6_removeBreak ∈ BG := bg_2 (List.mem_of_getElem? (l := tables_1_2) (i := 165) rfl) rfl
theorem kw_297 : Cond.selects RX6 yX6_removeBreak yX6_removeBreak ∈ BG := bg_2 (List.mem_of_getElem? (l := tables_1_2) (i := 166) rfl) rfl
theorem kw_298 : Cond.code yX6_removeBreak cX6_removeBreak 3 (some .int) ∈ BG := bg_2 (List.mem_of_getElem? (l := tables_1_2) (i := 167) rfl) rfl
theorem kw_299 : Cond.methodLink RL 142 yX7_removeBreak ∈ BG := bg_4 (List.mem_of_getElem? (l := tables_1_4) (i := 145) rfl) rfl
theorem kw_300 : Cond.instanceMethod yX7_removeBreak ∈ BG := bg_4 (List.mem_of_getElem? (l := tables_1_4) (i := 146) rfl) rfl
theorem kw_301 : Cond.selects RX7 yX7_removeBreak yX7_removeBreak ∈ BG := bg_4 (List.mem_of_getElem? (l := tables_1_4) (i := 147) rfl) rfl
theorem kw_302 : Cond.code yX7_removeBreak cX7_removeBreak 3 (some .int) ∈ BG := bg_4 (List.mem_of_getElem? (l := tables_1_4) (i := 148) rfl) rfl
theorem kw_303 : Cond.methodLink RL 143 yL_addPremium ∈ BG := bg_2 (List.mem_of_getElem? (l := tables_1_2) (i := 168) rfl) rfl
theorem kw_304 : Cond.static yL_addPremium ∈ BG := bg_2 (List.mem_of_getElem? (l := tables_1_2) (i := 169) rfl) rfl
theorem kw_305 : Cond.codeWith yL_addPremium cL_addPremium 7 (some .int) [(0, 14, 17, 13), (0, 14, 21, 15)] ∈ BG := bg_2 (List.mem_of_getElem? (l := tables_1_2) (i := 170) rfl) rfl
theorem kw_306 : Cond.methodLink RL 46 yX6_addPremium ∈ BG := bg_2 (List.mem_of_getElem? (l := tables_1_2) (i := 171) rfl) rfl
theorem kw_307 : Cond.instanceMethod yX6_addPremium ∈ BG := bg_2 (List.mem_of_getElem? (l := tables_1_2) (i := 172) rfl) rfl
theorem kw_308 : Cond.selects RX6 yX6_addPremium yX6_addPremium ∈ BG := bg_2 (List.mem_of_getElem? (l := tables_1_2) (i := 173) rfl) rfl
theorem kw_309 : Cond.code yX6_addPremium cX6_addPremium 5 (some .int) ∈ BG := bg_2 (List.mem_of_getElem? (l := tables_1_2) (i := 174) rfl) rfl
theorem kw_310 : Cond.methodLink RX6 125 yX2_add ∈ BG := bg_2 (List.mem_of_getElem? (l := tables_1_2) (i := 175) rfl) rfl
theorem kw_311 : Cond.instanceMethod yX2_add ∈ BG := bg_2 (List.mem_of_getElem? (l := tables_1_2) (i := 176) rfl) rfl
theorem kw_312 : Cond.selects RX2 yX2_add yX2_add ∈ BG := bg_2 (List.mem_of_getElem? (l := tables_1_2) (i := 177) rfl) rfl
theorem kw_313 : Cond.code yX2_add cX2_add 6 (some .int) ∈ BG := bg_2 (List.mem_of_getElem? (l := tables_1_2) (i := 178) rfl) rfl
theorem kw_314 : Cond.methodLink RX2 20 yX4_size ∈ BG := bg_2 (List.mem_of_getElem? (l := tables_1_2) (i := 179) rfl) rfl
theorem kw_315 : Cond.methodLink RX2 24 yX4_insert ∈ BG := bg_2 (List.mem_of_getElem? (l := tables_1_2) (i := 180) rfl) rfl
theorem kw_316 : Cond.methodLink RX2 28 yX4_set ∈ BG := bg_2 (List.mem_of_getElem? (l := tables_1_2) (i := 181) rfl) rfl
theorem kw_317 : Cond.methodLink RL 146 yX7_addPremium ∈ BG := bg_4 (List.mem_of_getElem? (l := tables_1_4) (i := 149) rfl) rfl
theorem kw_318 : Cond.instanceMethod yX7_addPremium ∈ BG := bg_4 (List.mem_of_getElem? (l := tables_1_4) (i := 150) rfl) rfl
theorem kw_319 : Cond.selects RX7 yX7_addPremium yX7_addPremium ∈ BG := bg_4 (List.mem_of_getElem? (l := tables_1_4) (i := 151) rfl) rfl
theorem kw_320 : Cond.code yX7_addPremium cX7_addPremium 6 (some .int) ∈ BG := bg_4 (List.mem_of_getElem? (l := tables_1_4) (i := 152) rfl) rfl
theorem kw_321 : Cond.fieldLink RX7 122 "TimesheetsModel" "rateMany" "I" ∈ BG := bg_3 (List.mem_of_getElem? (l := tables_1_3) (i := 238) rfl) rfl
theorem kw_322 : Cond.methodLink RL 147 yL_removePremium ∈ BG := bg_2 (List.mem_of_getElem? (l := tables_1_2) (i := 182) rfl) rfl
theorem kw_323 : Cond.static yL_removePremium ∈ BG := bg_2 (List.mem_of_getElem? (l := tables_1_2) (i := 183) rfl) rfl
theorem kw_324 : Cond.codeWith yL_removePremium cL_removePremium 4 (some .int) [(0, 9, 12, 21)] ∈ BG := bg_2 (List.mem_of_getElem? (l := tables_1_2) (i := 184) rfl) rfl
theorem kw_325 : Cond.methodLink RL 50 yX6_removePremium ∈ BG := bg_2 (List.mem_of_getElem? (l := tables_1_2) (i := 185) rfl) rfl
theorem kw_326 : Cond.instanceMethod yX6_removePremium ∈ BG := bg_2 (List.mem_of_getElem? (l := tables_1_2) (i := 186) rfl) rfl
theorem kw_327 : Cond.selects RX6 yX6_removePremium yX6_removePremium ∈ BG := bg_2 (List.mem_of_getElem? (l := tables_1_2) (i := 187) rfl) rfl
theorem kw_328 : Cond.code yX6_removePremium cX6_removePremium 2 (some .int) ∈ BG := bg_2 (List.mem_of_getElem? (l := tables_1_2) (i := 188) rfl) rfl
theorem kw_329 : Cond.methodLink RL 149 yX7_removePremium ∈ BG := bg_4 (List.mem_of_getElem? (l := tables_1_4) (i := 153) rfl) rfl
theorem kw_330 : Cond.instanceMethod yX7_removePremium ∈ BG := bg_4 (List.mem_of_getElem? (l := tables_1_4) (i := 154) rfl) rfl
theorem kw_331 : Cond.selects RX7 yX7_removePremium yX7_removePremium ∈ BG := bg_4 (List.mem_of_getElem? (l := tables_1_4) (i := 155) rfl) rfl
theorem kw_332 : Cond.code yX7_removePremium cX7_removePremium 3 (some .int) ∈ BG := bg_4 (List.mem_of_getElem? (l := tables_1_4) (i := 156) rfl) rfl
theorem kw_333 : Cond.methodLink RL 150 yL_closeWeek ∈ BG := bg_2 (List.mem_of_getElem? (l := tables_1_2) (i := 189) rfl) rfl
theorem kw_334 : Cond.static yL_closeWeek ∈ BG := bg_2 (List.mem_of_getElem? (l := tables_1_2) (i := 190) rfl) rfl
theorem kw_335 : Cond.codeWith yL_closeWeek cL_closeWeek 4 (some .int) [(0, 9, 12, 21), (0, 9, 15, 15)] ∈ BG := bg_2 (List.mem_of_getElem? (l := tables_1_2) (i := 191) rfl) rfl
theorem kw_336 : Cond.methodLink RL 53 yX6_closeWeek ∈ BG := bg_2 (List.mem_of_getElem? (l := tables_1_2) (i := 192) rfl) rfl
theorem kw_337 : Cond.instanceMethod yX6_closeWeek ∈ BG := bg_2 (List.mem_of_getElem? (l := tables_1_2) (i := 193) rfl) rfl
theorem kw_338 : Cond.selects RX6 yX6_closeWeek yX6_closeWeek ∈ BG := bg_2 (List.mem_of_getElem? (l := tables_1_2) (i := 194) rfl) rfl
theorem kw_339 : Cond.code yX6_closeWeek cX6_closeWeek 4 (some .int) ∈ BG := bg_2 (List.mem_of_getElem? (l := tables_1_2) (i := 195) rfl) rfl
theorem kw_340 : Cond.methodLink RX6 131 yX1_read ∈ BG := bg_2 (List.mem_of_getElem? (l := tables_1_2) (i := 197) rfl) rfl
theorem kw_341 : Cond.instanceMethod yX1_read ∈ BG := bg_2 (List.mem_of_getElem? (l := tables_1_2) (i := 198) rfl) rfl
theorem kw_342 : Cond.selects RX1 yX1_read yX1_read ∈ BG := bg_2 (List.mem_of_getElem? (l := tables_1_2) (i := 199) rfl) rfl
theorem kw_343 : Cond.code yX1_read cX1_read 5 none ∈ BG := bg_2 (List.mem_of_getElem? (l := tables_1_2) (i := 200) rfl) rfl
theorem kw_344 : Cond.methodLink RX1 30 yX5_read ∈ BG := bg_2 (List.mem_of_getElem? (l := tables_1_2) (i := 201) rfl) rfl
theorem kw_345 : Cond.instanceMethod yX5_read ∈ BG := bg_2 (List.mem_of_getElem? (l := tables_1_2) (i := 202) rfl) rfl
theorem kw_346 : Cond.selects RX5 yX5_read yX5_read ∈ BG := bg_2 (List.mem_of_getElem? (l := tables_1_2) (i := 203) rfl) rfl
theorem kw_347 : Cond.code yX5_read cX5_read 2 none ∈ BG := bg_2 (List.mem_of_getElem? (l := tables_1_2) (i := 204) rfl) rfl
theorem kw_348 : Cond.methodLink RX5 39 yX3_read ∈ BG := bg_2 (List.mem_of_getElem? (l := tables_1_2) (i := 205) rfl) rfl
theorem kw_349 : Cond.instanceMethod yX3_read ∈ BG := bg_2 (List.mem_of_getElem? (l := tables_1_2) (i := 206) rfl) rfl
theorem kw_350 : Cond.selects RX3 yX3_read yX3_read ∈ BG := bg_2 (List.mem_of_getElem? (l := tables_1_2) (i := 207) rfl) rfl
theorem kw_351 : Cond.code yX3_read cX3_read 3 none ∈ BG := bg_2 (List.mem_of_getElem? (l := tables_1_2) (i := 208) rfl) rfl
theorem kw_352 : Cond.methodLink RX3 24 yX4_clear ∈ BG := bg_2 (List.mem_of_getElem? (l := tables_1_2) (i := 209) rfl) rfl
theorem kw_353 : Cond.instanceMethod yX4_clear ∈ BG := bg_2 (List.mem_of_getElem? (l := tables_1_2) (i := 210) rfl) rfl
theorem kw_354 : Cond.selects RX4 yX4_clear yX4_clear ∈ BG := bg_2 (List.mem_of_getElem? (l := tables_1_2) (i := 211) rfl) rfl
theorem kw_355 : Cond.code yX4_clear cX4_clear 1 none ∈ BG := bg_2 (List.mem_of_getElem? (l := tables_1_2) (i := 212) rfl) rfl
theorem kw_356 : Cond.methodLink RX3 27 yX4_size ∈ BG := bg_2 (List.mem_of_getElem? (l := tables_1_2) (i := 213) rfl) rfl
theorem kw_357 : Cond.methodLink RX3 31 yX3_isIn ∈ BG := bg_2 (List.mem_of_getElem? (l := tables_1_2) (i := 214) rfl) rfl
theorem kw_358 : Cond.static yX3_isIn ∈ BG := bg_2 (List.mem_of_getElem? (l := tables_1_2) (i := 215) rfl) rfl
theorem kw_359 : Cond.code yX3_isIn cX3_isIn 2 (some .boolean) ∈ BG := bg_2 (List.mem_of_getElem? (l := tables_1_2) (i := 216) rfl) rfl
theorem kw_360 : Cond.methodLink RX3 42 yX4_get ∈ BG := bg_2 (List.mem_of_getElem? (l := tables_1_2) (i := 217) rfl) rfl
theorem kw_361 : Cond.methodLink RX3 35 yX3_addFromIn ∈ BG := bg_2 (List.mem_of_getElem? (l := tables_1_2) (i := 218) rfl) rfl
theorem kw_362 : Cond.instanceMethod yX3_addFromIn ∈ BG := bg_2 (List.mem_of_getElem? (l := tables_1_2) (i := 220) rfl) rfl
theorem kw_363 : Cond.selects RX3 yX3_addFromIn yX3_addFromIn ∈ BG := bg_0 (List.mem_of_getElem? (l := k2_sels lw_privs) (i := 2) rfl) rfl
theorem kw_364 : Cond.code yX3_addFromIn cX3_addFromIn 6 none ∈ BG := bg_2 (List.mem_of_getElem? (l := tables_1_2) (i := 221) rfl) rfl
theorem kw_365 : Cond.methodLink RX3 46 Lib.Math.min.name ∈ BG := bg_2 (List.mem_of_getElem? (l := tables_1_2) (i := 222) rfl) rfl
theorem kw_366 : Cond.static Lib.Math.min.name ∈ BG := bg_2 (List.mem_of_getElem? (l := tables_1_2) (i := 223) rfl) rfl
theorem kw_367 : Cond.initialized "java/lang/Math" ∈ BG := bg_1 (List.mem_of_getElem? (l := tables_1_1) (i := 16) rfl) rfl
theorem kw_368 : Cond.code Lib.Math.min.name Lib.Math.min.code 2 (some .int) ∈ BG := bg_2 (List.mem_of_getElem? (l := tables_1_2) (i := 224) rfl) rfl
theorem kw_369 : Cond.methodLink RX3 51 yX4_addSpan ∈ BG := bg_2 (List.mem_of_getElem? (l := tables_1_2) (i := 225) rfl) rfl
theorem kw_370 : Cond.methodLink RX3 39 yX3_addFromLoneOut ∈ BG := bg_2 (List.mem_of_getElem? (l := tables_1_2) (i := 226) rfl) rfl
theorem kw_371 : Cond.instanceMethod yX3_addFromLoneOut ∈ BG := bg_2 (List.mem_of_getElem? (l := tables_1_2) (i := 228) rfl) rfl
theorem kw_372 : Cond.selects RX3 yX3_addFromLoneOut yX3_addFromLoneOut ∈ BG := bg_0 (List.mem_of_getElem? (l := k2_sels lw_privs) (i := 3) rfl) rfl
theorem kw_373 : Cond.code yX3_addFromLoneOut cX3_addFromLoneOut 5 none ∈ BG := bg_2 (List.mem_of_getElem? (l := tables_1_2) (i := 229) rfl) rfl
theorem kw_374 : Cond.methodLink RX3 54 Lib.Math.max.name ∈ BG := bg_2 (List.mem_of_getElem? (l := tables_1_2) (i := 230) rfl) rfl
theorem kw_375 : Cond.static Lib.Math.max.name ∈ BG := bg_2 (List.mem_of_getElem? (l := tables_1_2) (i := 231) rfl) rfl
theorem kw_376 : Cond.code Lib.Math.max.name Lib.Math.max.code 2 (some .int) ∈ BG := bg_2 (List.mem_of_getElem? (l := tables_1_2) (i := 232) rfl) rfl
theorem kw_377 : Cond.methodLink RX5 43 yX4_clear ∈ BG := bg_2 (List.mem_of_getElem? (l := tables_1_2) (i := 233) rfl) rfl
theorem kw_378 : Cond.methodLink RX5 49 yX5_addEvents ∈ BG := bg_2 (List.mem_of_getElem? (l := tables_1_2) (i := 234) rfl) rfl
theorem kw_379 : Cond.instanceMethod yX5_addEvents ∈ BG := bg_2 (List.mem_of_getElem? (l := tables_1_2) (i := 236) rfl) rfl
theorem kw_380 : Cond.selects RX5 yX5_addEvents yX5_addEvents ∈ BG := bg_0 (List.mem_of_getElem? (l := k2_sels lw_privs) (i := 4) rfl) rfl
theorem kw_381 : Cond.code yX5_addEvents cX5_addEvents 5 none ∈ BG := bg_2 (List.mem_of_getElem? (l := tables_1_2) (i := 237) rfl) rfl
theorem kw_382 : Cond.methodLink RX5 62 yX4_size ∈ BG := bg_2 (List.mem_of_getElem? (l := tables_1_2) (i := 238) rfl) rfl
theorem kw_383 : Cond.methodLink RX5 66 yX4_get ∈ BG := bg_2 (List.mem_of_getElem? (l := tables_1_2) (i := 239) rfl) rfl
theorem kw_384 : Cond.methodLink RX5 70 yX5_addEvent ∈ BG := bg_3 (List.mem_of_getElem? (l := tables_1_3) (i := 0) rfl) rfl
theorem kw_385 : Cond.instanceMethod yX5_addEvent ∈ BG := bg_3 (List.mem_of_getElem? (l := tables_1_3) (i := 2) rfl) rfl
theorem kw_386 : Cond.selects RX5 yX5_addEvent yX5_addEvent ∈ BG := bg_0 (List.mem_of_getElem? (l := k2_sels lw_privs) (i := 5) rfl) rfl
theorem kw_387 : Cond.code yX5_addEvent cX5_addEvent 6 none ∈ BG := bg_3 (List.mem_of_getElem? (l := tables_1_3) (i := 3) rfl) rfl
theorem kw_388 : Cond.methodLink RX5 74 yX4_insert ∈ BG := bg_3 (List.mem_of_getElem? (l := tables_1_3) (i := 4) rfl) rfl
theorem kw_389 : Cond.methodLink RX5 78 yX4_set ∈ BG := bg_3 (List.mem_of_getElem? (l := tables_1_3) (i := 5) rfl) rfl
theorem kw_390 : Cond.methodLink RX5 59 yX5_goThroughEvents ∈ BG := bg_3 (List.mem_of_getElem? (l := tables_1_3) (i := 6) rfl) rfl
theorem kw_391 : Cond.instanceMethod yX5_goThroughEvents ∈ BG := bg_3 (List.mem_of_getElem? (l := tables_1_3) (i := 8) rfl) rfl
theorem kw_392 : Cond.selects RX5 yX5_goThroughEvents yX5_goThroughEvents ∈ BG := bg_0 (List.mem_of_getElem? (l := k2_sels lw_privs) (i := 6) rfl) rfl
theorem kw_393 : Cond.code yX5_goThroughEvents cX5_goThroughEvents 6 none ∈ BG := bg_3 (List.mem_of_getElem? (l := tables_1_3) (i := 9) rfl) rfl
theorem kw_394 : Cond.methodLink RX5 81 yX5_addWorked ∈ BG := bg_3 (List.mem_of_getElem? (l := tables_1_3) (i := 10) rfl) rfl
theorem kw_395 : Cond.instanceMethod yX5_addWorked ∈ BG := bg_3 (List.mem_of_getElem? (l := tables_1_3) (i := 12) rfl) rfl
theorem kw_396 : Cond.selects RX5 yX5_addWorked yX5_addWorked ∈ BG := bg_0 (List.mem_of_getElem? (l := k2_sels lw_privs) (i := 7) rfl) rfl
theorem kw_397 : Cond.code yX5_addWorked cX5_addWorked 4 none ∈ BG := bg_3 (List.mem_of_getElem? (l := tables_1_3) (i := 13) rfl) rfl
theorem kw_398 : Cond.methodLink RX5 84 yX4_addSpan ∈ BG := bg_3 (List.mem_of_getElem? (l := tables_1_3) (i := 14) rfl) rfl
theorem kw_399 : Cond.methodLink RX1 37 yX1_takeOffAutomaticBreaks ∈ BG := bg_3 (List.mem_of_getElem? (l := tables_1_3) (i := 15) rfl) rfl
theorem kw_400 : Cond.instanceMethod yX1_takeOffAutomaticBreaks ∈ BG := bg_3 (List.mem_of_getElem? (l := tables_1_3) (i := 17) rfl) rfl
theorem kw_401 : Cond.selects RX1 yX1_takeOffAutomaticBreaks yX1_takeOffAutomaticBreaks ∈ BG := bg_0 (List.mem_of_getElem? (l := k2_sels lw_privs) (i := 8) rfl) rfl
theorem kw_402 : Cond.code yX1_takeOffAutomaticBreaks cX1_takeOffAutomaticBreaks 5 none ∈ BG := bg_3 (List.mem_of_getElem? (l := tables_1_3) (i := 18) rfl) rfl
theorem kw_403 : Cond.methodLink RX1 64 Lib.Math.min.name ∈ BG := bg_3 (List.mem_of_getElem? (l := tables_1_3) (i := 22) rfl) rfl
theorem kw_404 : Cond.methodLink RX1 41 yX4_clear ∈ BG := bg_3 (List.mem_of_getElem? (l := tables_1_3) (i := 19) rfl) rfl
theorem kw_405 : Cond.methodLink RX1 56 yX4_size ∈ BG := bg_3 (List.mem_of_getElem? (l := tables_1_3) (i := 20) rfl) rfl
theorem kw_406 : Cond.methodLink RX1 60 yX4_get ∈ BG := bg_3 (List.mem_of_getElem? (l := tables_1_3) (i := 21) rfl) rfl
theorem kw_407 : Cond.methodLink RX1 69 yX4_addSpan ∈ BG := bg_3 (List.mem_of_getElem? (l := tables_1_3) (i := 23) rfl) rfl
theorem kw_408 : Cond.methodLink RX1 44 yX1_isFull ∈ BG := bg_3 (List.mem_of_getElem? (l := tables_1_3) (i := 24) rfl) rfl
theorem kw_409 : Cond.instanceMethod yX1_isFull ∈ BG := bg_3 (List.mem_of_getElem? (l := tables_1_3) (i := 26) rfl) rfl
theorem kw_410 : Cond.selects RX1 yX1_isFull yX1_isFull ∈ BG := bg_0 (List.mem_of_getElem? (l := k2_sels lw_privs) (i := 9) rfl) rfl
theorem kw_411 : Cond.code yX1_isFull cX1_isFull 3 (some .boolean) ∈ BG := bg_3 (List.mem_of_getElem? (l := tables_1_3) (i := 27) rfl) rfl
theorem kw_412 : Cond.static yX6_minutesOnDay ∈ BG := bg_3 (List.mem_of_getElem? (l := tables_1_3) (i := 29) rfl) rfl
theorem kw_413 : Cond.code yX6_minutesOnDay cX6_minutesOnDay 6 (some .int) ∈ BG := bg_3 (List.mem_of_getElem? (l := tables_1_3) (i := 30) rfl) rfl
theorem kw_414 : Cond.methodLink RX6 213 Lib.Math.max.name ∈ BG := bg_3 (List.mem_of_getElem? (l := tables_1_3) (i := 31) rfl) rfl
theorem kw_415 : Cond.methodLink RX6 218 Lib.Math.min.name ∈ BG := bg_3 (List.mem_of_getElem? (l := tables_1_3) (i := 32) rfl) rfl
theorem kw_416 : Cond.methodLink RX1 48 yX1_addPartsOfDay ∈ BG := bg_3 (List.mem_of_getElem? (l := tables_1_3) (i := 33) rfl) rfl
theorem kw_417 : Cond.instanceMethod yX1_addPartsOfDay ∈ BG := bg_3 (List.mem_of_getElem? (l := tables_1_3) (i := 35) rfl) rfl
theorem kw_418 : Cond.selects RX1 yX1_addPartsOfDay yX1_addPartsOfDay ∈ BG := bg_0 (List.mem_of_getElem? (l := k2_sels lw_privs) (i := 10) rfl) rfl
theorem kw_419 : Cond.code yX1_addPartsOfDay cX1_addPartsOfDay 8 none ∈ BG := bg_3 (List.mem_of_getElem? (l := tables_1_3) (i := 36) rfl) rfl
theorem kw_420 : Cond.methodLink RX1 72 Lib.Math.max.name ∈ BG := bg_3 (List.mem_of_getElem? (l := tables_1_3) (i := 37) rfl) rfl
theorem kw_421 : Cond.methodLink RX1 75 yX1_addParts ∈ BG := bg_3 (List.mem_of_getElem? (l := tables_1_3) (i := 38) rfl) rfl
theorem kw_422 : Cond.instanceMethod yX1_addParts ∈ BG := bg_3 (List.mem_of_getElem? (l := tables_1_3) (i := 40) rfl) rfl
theorem kw_423 : Cond.selects RX1 yX1_addParts yX1_addParts ∈ BG := bg_0 (List.mem_of_getElem? (l := k2_sels lw_privs) (i := 11) rfl) rfl
theorem kw_424 : Cond.code yX1_addParts cX1_addParts 12 none ∈ BG := bg_3 (List.mem_of_getElem? (l := tables_1_3) (i := 41) rfl) rfl
theorem kw_425 : Cond.methodLink RX1 79 yX1_untilLimit ∈ BG := bg_3 (List.mem_of_getElem? (l := tables_1_3) (i := 42) rfl) rfl
theorem kw_426 : Cond.static yX1_untilLimit ∈ BG := bg_3 (List.mem_of_getElem? (l := tables_1_3) (i := 43) rfl) rfl
theorem kw_427 : Cond.code yX1_untilLimit cX1_untilLimit 3 (some .int) ∈ BG := bg_3 (List.mem_of_getElem? (l := tables_1_3) (i := 44) rfl) rfl
theorem kw_428 : Cond.methodLink RX1 82 yX1_categoryFor ∈ BG := bg_3 (List.mem_of_getElem? (l := tables_1_3) (i := 45) rfl) rfl
theorem kw_429 : Cond.static yX1_categoryFor ∈ BG := bg_3 (List.mem_of_getElem? (l := tables_1_3) (i := 46) rfl) rfl
theorem kw_430 : Cond.code yX1_categoryFor cX1_categoryFor 3 (some .int) ∈ BG := bg_3 (List.mem_of_getElem? (l := tables_1_3) (i := 47) rfl) rfl
theorem kw_431 : Cond.methodLink RX1 86 yX4_set ∈ BG := bg_3 (List.mem_of_getElem? (l := tables_1_3) (i := 48) rfl) rfl
theorem kw_432 : Cond.methodLink RX6 135 yX1_basicPay ∈ BG := bg_3 (List.mem_of_getElem? (l := tables_1_3) (i := 49) rfl) rfl
theorem kw_433 : Cond.instanceMethod yX1_basicPay ∈ BG := bg_3 (List.mem_of_getElem? (l := tables_1_3) (i := 50) rfl) rfl
theorem kw_434 : Cond.selects RX1 yX1_basicPay yX1_basicPay ∈ BG := bg_3 (List.mem_of_getElem? (l := tables_1_3) (i := 51) rfl) rfl
theorem kw_435 : Cond.code yX1_basicPay cX1_basicPay 3 (some .int) ∈ BG := bg_3 (List.mem_of_getElem? (l := tables_1_3) (i := 52) rfl) rfl
theorem kw_436 : Cond.methodLink RX1 93 yX1_quartersOfWeek ∈ BG := bg_3 (List.mem_of_getElem? (l := tables_1_3) (i := 53) rfl) rfl
theorem kw_437 : Cond.instanceMethod yX1_quartersOfWeek ∈ BG := bg_3 (List.mem_of_getElem? (l := tables_1_3) (i := 55) rfl) rfl
theorem kw_438 : Cond.selects RX1 yX1_quartersOfWeek yX1_quartersOfWeek ∈ BG := bg_0 (List.mem_of_getElem? (l := k2_sels lw_privs) (i := 12) rfl) rfl
theorem kw_439 : Cond.code yX1_quartersOfWeek cX1_quartersOfWeek 4 (some .int) ∈ BG := bg_3 (List.mem_of_getElem? (l := tables_1_3) (i := 56) rfl) rfl
theorem kw_440 : Cond.methodLink RX1 90 yX1_minutesOf ∈ BG := bg_3 (List.mem_of_getElem? (l := tables_1_3) (i := 57) rfl) rfl
theorem kw_441 : Cond.instanceMethod yX1_minutesOf ∈ BG := bg_3 (List.mem_of_getElem? (l := tables_1_3) (i := 58) rfl) rfl
theorem kw_442 : Cond.selects RX1 yX1_minutesOf yX1_minutesOf ∈ BG := bg_3 (List.mem_of_getElem? (l := tables_1_3) (i := 59) rfl) rfl
theorem kw_443 : Cond.code yX1_minutesOf cX1_minutesOf 5 (some .int) ∈ BG := bg_3 (List.mem_of_getElem? (l := tables_1_3) (i := 60) rfl) rfl
theorem kw_444 : Cond.methodLink RX6 142 yX2_payFor ∈ BG := bg_3 (List.mem_of_getElem? (l := tables_1_3) (i := 61) rfl) rfl
theorem kw_445 : Cond.instanceMethod yX2_payFor ∈ BG := bg_3 (List.mem_of_getElem? (l := tables_1_3) (i := 62) rfl) rfl
theorem kw_446 : Cond.selects RX2 yX2_payFor yX2_payFor ∈ BG := bg_3 (List.mem_of_getElem? (l := tables_1_3) (i := 63) rfl) rfl
theorem kw_447 : Cond.code yX2_payFor cX2_payFor 4 (some .int) ∈ BG := bg_3 (List.mem_of_getElem? (l := tables_1_3) (i := 64) rfl) rfl
theorem kw_448 : Cond.methodLink RX2 32 yX4_get ∈ BG := bg_3 (List.mem_of_getElem? (l := tables_1_3) (i := 65) rfl) rfl
theorem kw_449 : Cond.methodLink RX2 36 yX2_sumOver ∈ BG := bg_3 (List.mem_of_getElem? (l := tables_1_3) (i := 66) rfl) rfl
theorem kw_450 : Cond.instanceMethod yX2_sumOver ∈ BG := bg_3 (List.mem_of_getElem? (l := tables_1_3) (i := 68) rfl) rfl
theorem kw_451 : Cond.selects RX2 yX2_sumOver yX2_sumOver ∈ BG := bg_0 (List.mem_of_getElem? (l := k2_sels lw_privs) (i := 13) rfl) rfl
theorem kw_452 : Cond.code yX2_sumOver cX2_sumOver 8 (some .int) ∈ BG := bg_3 (List.mem_of_getElem? (l := tables_1_3) (i := 69) rfl) rfl
theorem kw_453 : Cond.methodLink RX2 43 Lib.Math.min.name ∈ BG := bg_3 (List.mem_of_getElem? (l := tables_1_3) (i := 74) rfl) rfl
theorem kw_454 : Cond.methodLink RX2 39 yX2_nextChange ∈ BG := bg_3 (List.mem_of_getElem? (l := tables_1_3) (i := 70) rfl) rfl
theorem kw_455 : Cond.instanceMethod yX2_nextChange ∈ BG := bg_3 (List.mem_of_getElem? (l := tables_1_3) (i := 72) rfl) rfl
theorem kw_456 : Cond.selects RX2 yX2_nextChange yX2_nextChange ∈ BG := bg_0 (List.mem_of_getElem? (l := k2_sels lw_privs) (i := 14) rfl) rfl
theorem kw_457 : Cond.code yX2_nextChange cX2_nextChange 6 (some .int) ∈ BG := bg_3 (List.mem_of_getElem? (l := tables_1_3) (i := 73) rfl) rfl
theorem kw_458 : Cond.methodLink RX2 48 yX2_greatestRate ∈ BG := bg_3 (List.mem_of_getElem? (l := tables_1_3) (i := 75) rfl) rfl
theorem kw_459 : Cond.instanceMethod yX2_greatestRate ∈ BG := bg_3 (List.mem_of_getElem? (l := tables_1_3) (i := 77) rfl) rfl
theorem kw_460 : Cond.selects RX2 yX2_greatestRate yX2_greatestRate ∈ BG := bg_0 (List.mem_of_getElem? (l := k2_sels lw_privs) (i := 15) rfl) rfl
theorem kw_461 : Cond.code yX2_greatestRate cX2_greatestRate 6 (some .int) ∈ BG := bg_3 (List.mem_of_getElem? (l := tables_1_3) (i := 78) rfl) rfl
theorem kw_462 : Cond.methodLink RX2 55 Lib.Math.max.name ∈ BG := bg_3 (List.mem_of_getElem? (l := tables_1_3) (i := 82) rfl) rfl
theorem kw_463 : Cond.methodLink RX2 51 yX2_isBetween ∈ BG := bg_3 (List.mem_of_getElem? (l := tables_1_3) (i := 79) rfl) rfl
theorem kw_464 : Cond.static yX2_isBetween ∈ BG := bg_3 (List.mem_of_getElem? (l := tables_1_3) (i := 80) rfl) rfl
theorem kw_465 : Cond.code yX2_isBetween cX2_isBetween 3 (some .boolean) ∈ BG := bg_3 (List.mem_of_getElem? (l := tables_1_3) (i := 81) rfl) rfl
theorem kw_466 : Cond.methodLink RX6 146 yX0_beginNextWeek ∈ BG := bg_3 (List.mem_of_getElem? (l := tables_1_3) (i := 83) rfl) rfl
theorem kw_467 : Cond.instanceMethod yX0_beginNextWeek ∈ BG := bg_3 (List.mem_of_getElem? (l := tables_1_3) (i := 84) rfl) rfl
theorem kw_468 : Cond.selects RX0 yX0_beginNextWeek yX0_beginNextWeek ∈ BG := bg_3 (List.mem_of_getElem? (l := tables_1_3) (i := 85) rfl) rfl
theorem kw_469 : Cond.code yX0_beginNextWeek cX0_beginNextWeek 2 none ∈ BG := bg_3 (List.mem_of_getElem? (l := tables_1_3) (i := 86) rfl) rfl
theorem kw_470 : Cond.methodLink RX0 37 yX4_clear ∈ BG := bg_3 (List.mem_of_getElem? (l := tables_1_3) (i := 87) rfl) rfl
theorem kw_471 : Cond.methodLink RL 152 yX7_closeWeek ∈ BG := bg_4 (List.mem_of_getElem? (l := tables_1_4) (i := 157) rfl) rfl
theorem kw_472 : Cond.instanceMethod yX7_closeWeek ∈ BG := bg_4 (List.mem_of_getElem? (l := tables_1_4) (i := 158) rfl) rfl
theorem kw_473 : Cond.selects RX7 yX7_closeWeek yX7_closeWeek ∈ BG := bg_4 (List.mem_of_getElem? (l := tables_1_4) (i := 159) rfl) rfl
theorem kw_474 : Cond.code yX7_closeWeek cX7_closeWeek 3 (some .int) ∈ BG := bg_4 (List.mem_of_getElem? (l := tables_1_4) (i := 160) rfl) rfl
theorem kw_475 : Cond.methodLink RX7 174 yX7_payOf ∈ BG := bg_4 (List.mem_of_getElem? (l := tables_1_4) (i := 161) rfl) rfl
theorem kw_476 : Cond.instanceMethod yX7_payOf ∈ BG := bg_4 (List.mem_of_getElem? (l := tables_1_4) (i := 163) rfl) rfl
theorem kw_477 : Cond.selects RX7 yX7_payOf yX7_payOf ∈ BG := bg_0 (List.mem_of_getElem? (l := k2_sels lw_privs) (i := 21) rfl) rfl
theorem kw_478 : Cond.code yX7_payOf cX7_payOf 3 (some .int) ∈ BG := bg_4 (List.mem_of_getElem? (l := tables_1_4) (i := 164) rfl) rfl
theorem kw_479 : Cond.methodLink RX7 167 yX7_lays ∈ BG := bg_4 (List.mem_of_getElem? (l := tables_1_4) (i := 165) rfl) rfl
theorem kw_480 : Cond.instanceMethod yX7_lays ∈ BG := bg_4 (List.mem_of_getElem? (l := tables_1_4) (i := 167) rfl) rfl
theorem kw_481 : Cond.selects RX7 yX7_lays yX7_lays ∈ BG := bg_0 (List.mem_of_getElem? (l := k2_sels lw_privs) (i := 22) rfl) rfl
theorem kw_482 : Cond.code yX7_lays cX7_lays 3 none ∈ BG := bg_4 (List.mem_of_getElem? (l := tables_1_4) (i := 168) rfl) rfl
theorem kw_483 : Cond.fieldLink RX7 125 "TimesheetsModel" "shiftMany" "I" ∈ BG := bg_4 (List.mem_of_getElem? (l := tables_1_4) (i := 3) rfl) rfl
theorem kw_484 : Cond.methodLink RX7 135 yX7_findsShifts ∈ BG := bg_4 (List.mem_of_getElem? (l := tables_1_4) (i := 169) rfl) rfl
theorem kw_485 : Cond.instanceMethod yX7_findsShifts ∈ BG := bg_4 (List.mem_of_getElem? (l := tables_1_4) (i := 171) rfl) rfl
theorem kw_486 : Cond.selects RX7 yX7_findsShifts yX7_findsShifts ∈ BG := bg_0 (List.mem_of_getElem? (l := k2_sels lw_privs) (i := 23) rfl) rfl
theorem kw_487 : Cond.code yX7_findsShifts cX7_findsShifts 9 none ∈ BG := bg_4 (List.mem_of_getElem? (l := tables_1_4) (i := 172) rfl) rfl
theorem kw_488 : Cond.fieldLink RX7 128 "TimesheetsModel" "repairs" "I" ∈ BG := bg_4 (List.mem_of_getElem? (l := tables_1_4) (i := 4) rfl) rfl
theorem kw_489 : Cond.methodLink RX7 131 yX7_makes ∈ BG := bg_4 (List.mem_of_getElem? (l := tables_1_4) (i := 173) rfl) rfl
theorem kw_490 : Cond.instanceMethod yX7_makes ∈ BG := bg_4 (List.mem_of_getElem? (l := tables_1_4) (i := 175) rfl) rfl
theorem kw_491 : Cond.selects RX7 yX7_makes yX7_makes ∈ BG := bg_0 (List.mem_of_getElem? (l := k2_sels lw_privs) (i := 24) rfl) rfl
theorem kw_492 : Cond.code yX7_makes cX7_makes 4 none ∈ BG := bg_4 (List.mem_of_getElem? (l := tables_1_4) (i := 176) rfl) rfl
theorem kw_493 : Cond.methodLink RX7 139 yX7_marks ∈ BG := bg_4 (List.mem_of_getElem? (l := tables_1_4) (i := 177) rfl) rfl
theorem kw_494 : Cond.instanceMethod yX7_marks ∈ BG := bg_4 (List.mem_of_getElem? (l := tables_1_4) (i := 179) rfl) rfl
theorem kw_495 : Cond.selects RX7 yX7_marks yX7_marks ∈ BG := bg_0 (List.mem_of_getElem? (l := k2_sels lw_privs) (i := 25) rfl) rfl
theorem kw_496 : Cond.code yX7_marks cX7_marks 4 none ∈ BG := bg_4 (List.mem_of_getElem? (l := tables_1_4) (i := 180) rfl) rfl
theorem kw_497 : Cond.methodLink RX7 143 yX7_findsPaid ∈ BG := bg_4 (List.mem_of_getElem? (l := tables_1_4) (i := 181) rfl) rfl
theorem kw_498 : Cond.instanceMethod yX7_findsPaid ∈ BG := bg_4 (List.mem_of_getElem? (l := tables_1_4) (i := 183) rfl) rfl
theorem kw_499 : Cond.selects RX7 yX7_findsPaid yX7_findsPaid ∈ BG := bg_0 (List.mem_of_getElem? (l := k2_sels lw_privs) (i := 26) rfl) rfl
theorem kw_500 : Cond.code yX7_findsPaid cX7_findsPaid 5 none ∈ BG := bg_4 (List.mem_of_getElem? (l := tables_1_4) (i := 184) rfl) rfl
theorem kw_501 : Cond.fieldLink RX7 152 "TimesheetsModel" "doubled" "I" ∈ BG := bg_4 (List.mem_of_getElem? (l := tables_1_4) (i := 15) rfl) rfl
theorem kw_502 : Cond.fieldLink RX7 155 "TimesheetsModel" "runs" "I" ∈ BG := bg_4 (List.mem_of_getElem? (l := tables_1_4) (i := 16) rfl) rfl
theorem kw_503 : Cond.fieldLink RX7 158 "TimesheetsModel" "longest" "I" ∈ BG := bg_4 (List.mem_of_getElem? (l := tables_1_4) (i := 17) rfl) rfl
theorem kw_504 : Cond.methodLink RX7 146 yX7_findsKinds ∈ BG := bg_4 (List.mem_of_getElem? (l := tables_1_4) (i := 185) rfl) rfl
theorem kw_505 : Cond.instanceMethod yX7_findsKinds ∈ BG := bg_4 (List.mem_of_getElem? (l := tables_1_4) (i := 187) rfl) rfl
theorem kw_506 : Cond.selects RX7 yX7_findsKinds yX7_findsKinds ∈ BG := bg_0 (List.mem_of_getElem? (l := k2_sels lw_privs) (i := 27) rfl) rfl
theorem kw_507 : Cond.code yX7_findsKinds cX7_findsKinds 7 none ∈ BG := bg_4 (List.mem_of_getElem? (l := tables_1_4) (i := 188) rfl) rfl
theorem kw_508 : Cond.methodLink RX7 149 yX7_findsShares ∈ BG := bg_4 (List.mem_of_getElem? (l := tables_1_4) (i := 189) rfl) rfl
theorem kw_509 : Cond.instanceMethod yX7_findsShares ∈ BG := bg_4 (List.mem_of_getElem? (l := tables_1_4) (i := 191) rfl) rfl
theorem kw_510 : Cond.selects RX7 yX7_findsShares yX7_findsShares ∈ BG := bg_0 (List.mem_of_getElem? (l := k2_sels lw_privs) (i := 28) rfl) rfl
theorem kw_511 : Cond.code yX7_findsShares cX7_findsShares 5 none ∈ BG := bg_4 (List.mem_of_getElem? (l := tables_1_4) (i := 192) rfl) rfl
theorem kw_512 : Cond.methodLink RX7 161 yX7_ahead ∈ BG := bg_4 (List.mem_of_getElem? (l := tables_1_4) (i := 193) rfl) rfl
theorem kw_513 : Cond.instanceMethod yX7_ahead ∈ BG := bg_4 (List.mem_of_getElem? (l := tables_1_4) (i := 195) rfl) rfl
theorem kw_514 : Cond.selects RX7 yX7_ahead yX7_ahead ∈ BG := bg_0 (List.mem_of_getElem? (l := k2_sels lw_privs) (i := 29) rfl) rfl
theorem kw_515 : Cond.code yX7_ahead cX7_ahead 7 (some .int) ∈ BG := bg_4 (List.mem_of_getElem? (l := tables_1_4) (i := 196) rfl) rfl
theorem kw_516 : Cond.methodLink RX7 170 yX7_extra ∈ BG := bg_4 (List.mem_of_getElem? (l := tables_1_4) (i := 197) rfl) rfl
theorem kw_517 : Cond.instanceMethod yX7_extra ∈ BG := bg_4 (List.mem_of_getElem? (l := tables_1_4) (i := 199) rfl) rfl
theorem kw_518 : Cond.selects RX7 yX7_extra yX7_extra ∈ BG := bg_0 (List.mem_of_getElem? (l := k2_sels lw_privs) (i := 30) rfl) rfl
theorem kw_519 : Cond.code yX7_extra cX7_extra 5 (some .int) ∈ BG := bg_4 (List.mem_of_getElem? (l := tables_1_4) (i := 200) rfl) rfl
theorem kw_520 : Cond.methodLink RX7 164 yX7_applies ∈ BG := bg_4 (List.mem_of_getElem? (l := tables_1_4) (i := 201) rfl) rfl
theorem kw_521 : Cond.instanceMethod yX7_applies ∈ BG := bg_4 (List.mem_of_getElem? (l := tables_1_4) (i := 203) rfl) rfl
theorem kw_522 : Cond.selects RX7 yX7_applies yX7_applies ∈ BG := bg_0 (List.mem_of_getElem? (l := k2_sels lw_privs) (i := 31) rfl) rfl
theorem kw_523 : Cond.code yX7_applies cX7_applies 7 (some .boolean) ∈ BG := bg_4 (List.mem_of_getElem? (l := tables_1_4) (i := 204) rfl) rfl
theorem kw_524 : Cond.methodLink RL 153 yX6_employees ∈ BG := bg_1 (List.mem_of_getElem? (l := tables_1_1) (i := 137) rfl) rfl
theorem kw_525 : Cond.instanceMethod yX6_employees ∈ BG := bg_1 (List.mem_of_getElem? (l := tables_1_1) (i := 138) rfl) rfl
theorem kw_526 : Cond.selects RX6 yX6_employees yX6_employees ∈ BG := bg_1 (List.mem_of_getElem? (l := tables_1_1) (i := 139) rfl) rfl
theorem kw_527 : Cond.code yX6_employees cX6_employees 1 (some .int) ∈ BG := bg_1 (List.mem_of_getElem? (l := tables_1_1) (i := 140) rfl) rfl
theorem kw_528 : Cond.methodLink RL 156 yX7_employees ∈ BG := bg_4 (List.mem_of_getElem? (l := tables_1_4) (i := 205) rfl) rfl
theorem kw_529 : Cond.instanceMethod yX7_employees ∈ BG := bg_4 (List.mem_of_getElem? (l := tables_1_4) (i := 206) rfl) rfl
theorem kw_530 : Cond.selects RX7 yX7_employees yX7_employees ∈ BG := bg_4 (List.mem_of_getElem? (l := tables_1_4) (i := 207) rfl) rfl
theorem kw_531 : Cond.code yX7_employees cX7_employees 1 (some .int) ∈ BG := bg_4 (List.mem_of_getElem? (l := tables_1_4) (i := 208) rfl) rfl
theorem kw_532 : Cond.methodLink RL 157 yL_closedWeeks ∈ BG := bg_3 (List.mem_of_getElem? (l := tables_1_3) (i := 88) rfl) rfl
theorem kw_533 : Cond.static yL_closedWeeks ∈ BG := bg_3 (List.mem_of_getElem? (l := tables_1_3) (i := 89) rfl) rfl
theorem kw_534 : Cond.codeWith yL_closedWeeks cL_closedWeeks 4 (some .int) [(0, 9, 12, 21)] ∈ BG := bg_3 (List.mem_of_getElem? (l := tables_1_3) (i := 90) rfl) rfl
theorem kw_535 : Cond.methodLink RL 56 yX6_closedWeeks ∈ BG := bg_3 (List.mem_of_getElem? (l := tables_1_3) (i := 91) rfl) rfl
theorem kw_536 : Cond.instanceMethod yX6_closedWeeks ∈ BG := bg_3 (List.mem_of_getElem? (l := tables_1_3) (i := 92) rfl) rfl
theorem kw_537 : Cond.selects RX6 yX6_closedWeeks yX6_closedWeeks ∈ BG := bg_3 (List.mem_of_getElem? (l := tables_1_3) (i := 93) rfl) rfl
theorem kw_538 : Cond.code yX6_closedWeeks cX6_closedWeeks 2 (some .int) ∈ BG := bg_3 (List.mem_of_getElem? (l := tables_1_3) (i := 94) rfl) rfl
theorem kw_539 : Cond.methodLink RL 159 yX7_closedWeeks ∈ BG := bg_4 (List.mem_of_getElem? (l := tables_1_4) (i := 209) rfl) rfl
theorem kw_540 : Cond.instanceMethod yX7_closedWeeks ∈ BG := bg_4 (List.mem_of_getElem? (l := tables_1_4) (i := 210) rfl) rfl
theorem kw_541 : Cond.selects RX7 yX7_closedWeeks yX7_closedWeeks ∈ BG := bg_4 (List.mem_of_getElem? (l := tables_1_4) (i := 211) rfl) rfl
theorem kw_542 : Cond.code yX7_closedWeeks cX7_closedWeeks 2 (some .int) ∈ BG := bg_4 (List.mem_of_getElem? (l := tables_1_4) (i := 212) rfl) rfl
theorem kw_543 : Cond.methodLink RX7 178 yX7_fails ∈ BG := bg_4 (List.mem_of_getElem? (l := tables_1_4) (i := 213) rfl) rfl
theorem kw_544 : Cond.instanceMethod yX7_fails ∈ BG := bg_4 (List.mem_of_getElem? (l := tables_1_4) (i := 215) rfl) rfl
theorem kw_545 : Cond.selects RX7 yX7_fails yX7_fails ∈ BG := bg_0 (List.mem_of_getElem? (l := k2_sels lw_privs) (i := 32) rfl) rfl
theorem kw_546 : Cond.code yX7_fails cX7_fails 2 (some .int) ∈ BG := bg_4 (List.mem_of_getElem? (l := tables_1_4) (i := 216) rfl) rfl
theorem kw_547 : Cond.methodLink RL 160 yL_earned ∈ BG := bg_3 (List.mem_of_getElem? (l := tables_1_3) (i := 95) rfl) rfl
theorem kw_548 : Cond.static yL_earned ∈ BG := bg_3 (List.mem_of_getElem? (l := tables_1_3) (i := 96) rfl) rfl
theorem kw_549 : Cond.codeWith yL_earned cL_earned 4 (some .int) [(0, 8, 11, 21)] ∈ BG := bg_3 (List.mem_of_getElem? (l := tables_1_3) (i := 97) rfl) rfl
theorem kw_550 : Cond.methodLink RL 59 yX6_earned ∈ BG := bg_3 (List.mem_of_getElem? (l := tables_1_3) (i := 98) rfl) rfl
theorem kw_551 : Cond.instanceMethod yX6_earned ∈ BG := bg_3 (List.mem_of_getElem? (l := tables_1_3) (i := 99) rfl) rfl
theorem kw_552 : Cond.selects RX6 yX6_earned yX6_earned ∈ BG := bg_3 (List.mem_of_getElem? (l := tables_1_3) (i := 100) rfl) rfl
theorem kw_553 : Cond.code yX6_earned cX6_earned 2 (some .long) ∈ BG := bg_3 (List.mem_of_getElem? (l := tables_1_3) (i := 101) rfl) rfl
theorem kw_554 : Cond.methodLink RL 162 yX7_earned ∈ BG := bg_4 (List.mem_of_getElem? (l := tables_1_4) (i := 217) rfl) rfl
theorem kw_555 : Cond.instanceMethod yX7_earned ∈ BG := bg_4 (List.mem_of_getElem? (l := tables_1_4) (i := 218) rfl) rfl
theorem kw_556 : Cond.selects RX7 yX7_earned yX7_earned ∈ BG := bg_4 (List.mem_of_getElem? (l := tables_1_4) (i := 219) rfl) rfl
theorem kw_557 : Cond.code yX7_earned cX7_earned 2 (some .long) ∈ BG := bg_4 (List.mem_of_getElem? (l := tables_1_4) (i := 220) rfl) rfl
theorem kw_558 : Cond.methodLink RL 163 yL_shifts ∈ BG := bg_3 (List.mem_of_getElem? (l := tables_1_3) (i := 102) rfl) rfl
theorem kw_559 : Cond.static yL_shifts ∈ BG := bg_3 (List.mem_of_getElem? (l := tables_1_3) (i := 103) rfl) rfl
theorem kw_560 : Cond.codeWith yL_shifts cL_shifts 4 (some .int) [(0, 9, 12, 21)] ∈ BG := bg_3 (List.mem_of_getElem? (l := tables_1_3) (i := 104) rfl) rfl
theorem kw_561 : Cond.methodLink RL 63 yX6_shifts ∈ BG := bg_3 (List.mem_of_getElem? (l := tables_1_3) (i := 105) rfl) rfl
theorem kw_562 : Cond.instanceMethod yX6_shifts ∈ BG := bg_3 (List.mem_of_getElem? (l := tables_1_3) (i := 106) rfl) rfl
theorem kw_563 : Cond.selects RX6 yX6_shifts yX6_shifts ∈ BG := bg_3 (List.mem_of_getElem? (l := tables_1_3) (i := 107) rfl) rfl
theorem kw_564 : Cond.code yX6_shifts cX6_shifts 2 (some .int) ∈ BG := bg_3 (List.mem_of_getElem? (l := tables_1_3) (i := 108) rfl) rfl
theorem kw_565 : Cond.methodLink RX6 156 yX3_read ∈ BG := bg_3 (List.mem_of_getElem? (l := tables_1_3) (i := 109) rfl) rfl
theorem kw_566 : Cond.methodLink RL 165 yX7_shifts ∈ BG := bg_4 (List.mem_of_getElem? (l := tables_1_4) (i := 221) rfl) rfl
theorem kw_567 : Cond.instanceMethod yX7_shifts ∈ BG := bg_4 (List.mem_of_getElem? (l := tables_1_4) (i := 222) rfl) rfl
theorem kw_568 : Cond.selects RX7 yX7_shifts yX7_shifts ∈ BG := bg_4 (List.mem_of_getElem? (l := tables_1_4) (i := 223) rfl) rfl
theorem kw_569 : Cond.code yX7_shifts cX7_shifts 2 (some .int) ∈ BG := bg_4 (List.mem_of_getElem? (l := tables_1_4) (i := 224) rfl) rfl
theorem kw_570 : Cond.methodLink RX7 181 yX7_looks ∈ BG := bg_4 (List.mem_of_getElem? (l := tables_1_4) (i := 225) rfl) rfl
theorem kw_571 : Cond.instanceMethod yX7_looks ∈ BG := bg_4 (List.mem_of_getElem? (l := tables_1_4) (i := 227) rfl) rfl
theorem kw_572 : Cond.selects RX7 yX7_looks yX7_looks ∈ BG := bg_0 (List.mem_of_getElem? (l := k2_sels lw_privs) (i := 33) rfl) rfl
theorem kw_573 : Cond.code yX7_looks cX7_looks 2 (some .boolean) ∈ BG := bg_4 (List.mem_of_getElem? (l := tables_1_4) (i := 228) rfl) rfl
theorem kw_574 : Cond.methodLink RL 166 yL_shiftBegin ∈ BG := bg_3 (List.mem_of_getElem? (l := tables_1_3) (i := 110) rfl) rfl
theorem kw_575 : Cond.static yL_shiftBegin ∈ BG := bg_3 (List.mem_of_getElem? (l := tables_1_3) (i := 111) rfl) rfl
theorem kw_576 : Cond.codeWith yL_shiftBegin cL_shiftBegin 5 (some .int) [(0, 10, 13, 21)] ∈ BG := bg_3 (List.mem_of_getElem? (l := tables_1_3) (i := 112) rfl) rfl
theorem kw_577 : Cond.methodLink RL 66 yX6_shiftBegin ∈ BG := bg_3 (List.mem_of_getElem? (l := tables_1_3) (i := 113) rfl) rfl
theorem kw_578 : Cond.instanceMethod yX6_shiftBegin ∈ BG := bg_3 (List.mem_of_getElem? (l := tables_1_3) (i := 114) rfl) rfl
theorem kw_579 : Cond.selects RX6 yX6_shiftBegin yX6_shiftBegin ∈ BG := bg_3 (List.mem_of_getElem? (l := tables_1_3) (i := 115) rfl) rfl
theorem kw_580 : Cond.code yX6_shiftBegin cX6_shiftBegin 3 (some .int) ∈ BG := bg_3 (List.mem_of_getElem? (l := tables_1_3) (i := 116) rfl) rfl
theorem kw_581 : Cond.methodLink RL 168 yX7_shiftBegin ∈ BG := bg_4 (List.mem_of_getElem? (l := tables_1_4) (i := 229) rfl) rfl
theorem kw_582 : Cond.instanceMethod yX7_shiftBegin ∈ BG := bg_4 (List.mem_of_getElem? (l := tables_1_4) (i := 230) rfl) rfl
theorem kw_583 : Cond.selects RX7 yX7_shiftBegin yX7_shiftBegin ∈ BG := bg_4 (List.mem_of_getElem? (l := tables_1_4) (i := 231) rfl) rfl
theorem kw_584 : Cond.code yX7_shiftBegin cX7_shiftBegin 4 (some .int) ∈ BG := bg_4 (List.mem_of_getElem? (l := tables_1_4) (i := 232) rfl) rfl
theorem kw_585 : Cond.methodLink RL 169 yL_shiftEnd ∈ BG := bg_3 (List.mem_of_getElem? (l := tables_1_3) (i := 117) rfl) rfl
theorem kw_586 : Cond.static yL_shiftEnd ∈ BG := bg_3 (List.mem_of_getElem? (l := tables_1_3) (i := 118) rfl) rfl
theorem kw_587 : Cond.codeWith yL_shiftEnd cL_shiftEnd 5 (some .int) [(0, 10, 13, 21)] ∈ BG := bg_3 (List.mem_of_getElem? (l := tables_1_3) (i := 119) rfl) rfl
theorem kw_588 : Cond.methodLink RL 69 yX6_shiftEnd ∈ BG := bg_3 (List.mem_of_getElem? (l := tables_1_3) (i := 120) rfl) rfl
theorem kw_589 : Cond.instanceMethod yX6_shiftEnd ∈ BG := bg_3 (List.mem_of_getElem? (l := tables_1_3) (i := 121) rfl) rfl
theorem kw_590 : Cond.selects RX6 yX6_shiftEnd yX6_shiftEnd ∈ BG := bg_3 (List.mem_of_getElem? (l := tables_1_3) (i := 122) rfl) rfl
theorem kw_591 : Cond.code yX6_shiftEnd cX6_shiftEnd 3 (some .int) ∈ BG := bg_3 (List.mem_of_getElem? (l := tables_1_3) (i := 123) rfl) rfl
theorem kw_592 : Cond.methodLink RL 171 yX7_shiftEnd ∈ BG := bg_4 (List.mem_of_getElem? (l := tables_1_4) (i := 233) rfl) rfl
theorem kw_593 : Cond.instanceMethod yX7_shiftEnd ∈ BG := bg_4 (List.mem_of_getElem? (l := tables_1_4) (i := 234) rfl) rfl
theorem kw_594 : Cond.selects RX7 yX7_shiftEnd yX7_shiftEnd ∈ BG := bg_4 (List.mem_of_getElem? (l := tables_1_4) (i := 235) rfl) rfl
theorem kw_595 : Cond.code yX7_shiftEnd cX7_shiftEnd 4 (some .int) ∈ BG := bg_4 (List.mem_of_getElem? (l := tables_1_4) (i := 236) rfl) rfl
theorem kw_596 : Cond.methodLink RL 172 yL_repairedShifts ∈ BG := bg_3 (List.mem_of_getElem? (l := tables_1_3) (i := 124) rfl) rfl
theorem kw_597 : Cond.static yL_repairedShifts ∈ BG := bg_3 (List.mem_of_getElem? (l := tables_1_3) (i := 125) rfl) rfl
theorem kw_598 : Cond.codeWith yL_repairedShifts cL_repairedShifts 4 (some .int) [(0, 9, 12, 21)] ∈ BG := bg_3 (List.mem_of_getElem? (l := tables_1_3) (i := 126) rfl) rfl
theorem kw_599 : Cond.methodLink RL 72 yX6_repairedShifts ∈ BG := bg_3 (List.mem_of_getElem? (l := tables_1_3) (i := 127) rfl) rfl
theorem kw_600 : Cond.instanceMethod yX6_repairedShifts ∈ BG := bg_3 (List.mem_of_getElem? (l := tables_1_3) (i := 128) rfl) rfl
theorem kw_601 : Cond.selects RX6 yX6_repairedShifts yX6_repairedShifts ∈ BG := bg_3 (List.mem_of_getElem? (l := tables_1_3) (i := 129) rfl) rfl
theorem kw_602 : Cond.code yX6_repairedShifts cX6_repairedShifts 2 (some .int) ∈ BG := bg_3 (List.mem_of_getElem? (l := tables_1_3) (i := 130) rfl) rfl
theorem kw_603 : Cond.methodLink RL 174 yX7_repairedShifts ∈ BG := bg_4 (List.mem_of_getElem? (l := tables_1_4) (i := 237) rfl) rfl
theorem kw_604 : Cond.instanceMethod yX7_repairedShifts ∈ BG := bg_4 (List.mem_of_getElem? (l := tables_1_4) (i := 238) rfl) rfl
theorem kw_605 : Cond.selects RX7 yX7_repairedShifts yX7_repairedShifts ∈ BG := bg_4 (List.mem_of_getElem? (l := tables_1_4) (i := 239) rfl) rfl
theorem kw_606 : Cond.code yX7_repairedShifts cX7_repairedShifts 2 (some .int) ∈ BG := bg_5 (List.mem_of_getElem? (l := tables_1_5) (i := 0) rfl) rfl
theorem kw_607 : Cond.methodLink RL 175 yL_coverage ∈ BG := bg_3 (List.mem_of_getElem? (l := tables_1_3) (i := 131) rfl) rfl
theorem kw_608 : Cond.static yL_coverage ∈ BG := bg_3 (List.mem_of_getElem? (l := tables_1_3) (i := 132) rfl) rfl
theorem kw_609 : Cond.codeWith yL_coverage cL_coverage 5 (some .int) [(0, 10, 13, 21), (0, 10, 17, 13)] ∈ BG := bg_3 (List.mem_of_getElem? (l := tables_1_3) (i := 133) rfl) rfl
theorem kw_610 : Cond.methodLink RL 75 yX6_coverage ∈ BG := bg_3 (List.mem_of_getElem? (l := tables_1_3) (i := 134) rfl) rfl
theorem kw_611 : Cond.instanceMethod yX6_coverage ∈ BG := bg_3 (List.mem_of_getElem? (l := tables_1_3) (i := 135) rfl) rfl
theorem kw_612 : Cond.selects RX6 yX6_coverage yX6_coverage ∈ BG := bg_3 (List.mem_of_getElem? (l := tables_1_3) (i := 136) rfl) rfl
theorem kw_613 : Cond.code yX6_coverage cX6_coverage 4 (some .int) ∈ BG := bg_3 (List.mem_of_getElem? (l := tables_1_3) (i := 137) rfl) rfl
theorem kw_614 : Cond.methodLink RX6 170 yX6_countContaining ∈ BG := bg_3 (List.mem_of_getElem? (l := tables_1_3) (i := 138) rfl) rfl
theorem kw_615 : Cond.static yX6_countContaining ∈ BG := bg_3 (List.mem_of_getElem? (l := tables_1_3) (i := 139) rfl) rfl
theorem kw_616 : Cond.code yX6_countContaining cX6_countContaining 4 (some .int) ∈ BG := bg_3 (List.mem_of_getElem? (l := tables_1_3) (i := 140) rfl) rfl
theorem kw_617 : Cond.methodLink RL 177 yX7_coverage ∈ BG := bg_5 (List.mem_of_getElem? (l := tables_1_5) (i := 1) rfl) rfl
theorem kw_618 : Cond.instanceMethod yX7_coverage ∈ BG := bg_5 (List.mem_of_getElem? (l := tables_1_5) (i := 2) rfl) rfl
theorem kw_619 : Cond.selects RX7 yX7_coverage yX7_coverage ∈ BG := bg_5 (List.mem_of_getElem? (l := tables_1_5) (i := 3) rfl) rfl
theorem kw_620 : Cond.code yX7_coverage cX7_coverage 4 (some .int) ∈ BG := bg_5 (List.mem_of_getElem? (l := tables_1_5) (i := 4) rfl) rfl
theorem kw_621 : Cond.methodLink RL 178 yL_overlap ∈ BG := bg_3 (List.mem_of_getElem? (l := tables_1_3) (i := 141) rfl) rfl
theorem kw_622 : Cond.static yL_overlap ∈ BG := bg_3 (List.mem_of_getElem? (l := tables_1_3) (i := 142) rfl) rfl
theorem kw_623 : Cond.codeWith yL_overlap cL_overlap 4 (some .int) [(0, 9, 12, 21)] ∈ BG := bg_3 (List.mem_of_getElem? (l := tables_1_3) (i := 143) rfl) rfl
theorem kw_624 : Cond.methodLink RL 78 yX6_overlap ∈ BG := bg_3 (List.mem_of_getElem? (l := tables_1_3) (i := 144) rfl) rfl
theorem kw_625 : Cond.instanceMethod yX6_overlap ∈ BG := bg_3 (List.mem_of_getElem? (l := tables_1_3) (i := 145) rfl) rfl
theorem kw_626 : Cond.selects RX6 yX6_overlap yX6_overlap ∈ BG := bg_3 (List.mem_of_getElem? (l := tables_1_3) (i := 146) rfl) rfl
theorem kw_627 : Cond.code yX6_overlap cX6_overlap 2 (some .int) ∈ BG := bg_3 (List.mem_of_getElem? (l := tables_1_3) (i := 147) rfl) rfl
theorem kw_628 : Cond.methodLink RX6 173 yX5_read ∈ BG := bg_3 (List.mem_of_getElem? (l := tables_1_3) (i := 148) rfl) rfl
theorem kw_629 : Cond.methodLink RL 180 yX7_overlap ∈ BG := bg_5 (List.mem_of_getElem? (l := tables_1_5) (i := 5) rfl) rfl
theorem kw_630 : Cond.instanceMethod yX7_overlap ∈ BG := bg_5 (List.mem_of_getElem? (l := tables_1_5) (i := 6) rfl) rfl
theorem kw_631 : Cond.selects RX7 yX7_overlap yX7_overlap ∈ BG := bg_5 (List.mem_of_getElem? (l := tables_1_5) (i := 7) rfl) rfl
theorem kw_632 : Cond.code yX7_overlap cX7_overlap 2 (some .int) ∈ BG := bg_5 (List.mem_of_getElem? (l := tables_1_5) (i := 8) rfl) rfl
theorem kw_633 : Cond.methodLink RL 181 yL_workedOn ∈ BG := bg_3 (List.mem_of_getElem? (l := tables_1_3) (i := 149) rfl) rfl
theorem kw_634 : Cond.static yL_workedOn ∈ BG := bg_3 (List.mem_of_getElem? (l := tables_1_3) (i := 150) rfl) rfl
theorem kw_635 : Cond.codeWith yL_workedOn cL_workedOn 5 (some .int) [(0, 10, 13, 21), (0, 10, 17, 13)] ∈ BG := bg_3 (List.mem_of_getElem? (l := tables_1_3) (i := 151) rfl) rfl
theorem kw_636 : Cond.methodLink RL 81 yX6_workedOn ∈ BG := bg_3 (List.mem_of_getElem? (l := tables_1_3) (i := 152) rfl) rfl
theorem kw_637 : Cond.instanceMethod yX6_workedOn ∈ BG := bg_3 (List.mem_of_getElem? (l := tables_1_3) (i := 153) rfl) rfl
theorem kw_638 : Cond.selects RX6 yX6_workedOn yX6_workedOn ∈ BG := bg_3 (List.mem_of_getElem? (l := tables_1_3) (i := 154) rfl) rfl
theorem kw_639 : Cond.code yX6_workedOn cX6_workedOn 4 (some .int) ∈ BG := bg_3 (List.mem_of_getElem? (l := tables_1_3) (i := 155) rfl) rfl
theorem kw_640 : Cond.methodLink RX6 180 yX6_minutesOnDay ∈ BG := bg_3 (List.mem_of_getElem? (l := tables_1_3) (i := 156) rfl) rfl
theorem kw_641 : Cond.methodLink RL 183 yX7_workedOn ∈ BG := bg_5 (List.mem_of_getElem? (l := tables_1_5) (i := 9) rfl) rfl
theorem kw_642 : Cond.instanceMethod yX7_workedOn ∈ BG := bg_5 (List.mem_of_getElem? (l := tables_1_5) (i := 10) rfl) rfl
theorem kw_643 : Cond.selects RX7 yX7_workedOn yX7_workedOn ∈ BG := bg_5 (List.mem_of_getElem? (l := tables_1_5) (i := 11) rfl) rfl
theorem kw_644 : Cond.code yX7_workedOn cX7_workedOn 4 (some .int) ∈ BG := bg_5 (List.mem_of_getElem? (l := tables_1_5) (i := 12) rfl) rfl
theorem kw_645 : Cond.methodLink RL 184 yL_stretches ∈ BG := bg_3 (List.mem_of_getElem? (l := tables_1_3) (i := 157) rfl) rfl
theorem kw_646 : Cond.static yL_stretches ∈ BG := bg_3 (List.mem_of_getElem? (l := tables_1_3) (i := 158) rfl) rfl
theorem kw_647 : Cond.codeWith yL_stretches cL_stretches 4 (some .int) [(0, 9, 12, 21)] ∈ BG := bg_3 (List.mem_of_getElem? (l := tables_1_3) (i := 159) rfl) rfl
theorem kw_648 : Cond.methodLink RL 84 yX6_stretches ∈ BG := bg_3 (List.mem_of_getElem? (l := tables_1_3) (i := 160) rfl) rfl
theorem kw_649 : Cond.instanceMethod yX6_stretches ∈ BG := bg_3 (List.mem_of_getElem? (l := tables_1_3) (i := 161) rfl) rfl
theorem kw_650 : Cond.selects RX6 yX6_stretches yX6_stretches ∈ BG := bg_3 (List.mem_of_getElem? (l := tables_1_3) (i := 162) rfl) rfl
theorem kw_651 : Cond.code yX6_stretches cX6_stretches 2 (some .int) ∈ BG := bg_3 (List.mem_of_getElem? (l := tables_1_3) (i := 163) rfl) rfl
theorem kw_652 : Cond.methodLink RL 186 yX7_stretches ∈ BG := bg_5 (List.mem_of_getElem? (l := tables_1_5) (i := 13) rfl) rfl
theorem kw_653 : Cond.instanceMethod yX7_stretches ∈ BG := bg_5 (List.mem_of_getElem? (l := tables_1_5) (i := 14) rfl) rfl
theorem kw_654 : Cond.selects RX7 yX7_stretches yX7_stretches ∈ BG := bg_5 (List.mem_of_getElem? (l := tables_1_5) (i := 15) rfl) rfl
theorem kw_655 : Cond.code yX7_stretches cX7_stretches 2 (some .int) ∈ BG := bg_5 (List.mem_of_getElem? (l := tables_1_5) (i := 16) rfl) rfl
theorem kw_656 : Cond.methodLink RL 187 yL_longestStretch ∈ BG := bg_3 (List.mem_of_getElem? (l := tables_1_3) (i := 164) rfl) rfl
theorem kw_657 : Cond.static yL_longestStretch ∈ BG := bg_3 (List.mem_of_getElem? (l := tables_1_3) (i := 165) rfl) rfl
theorem kw_658 : Cond.codeWith yL_longestStretch cL_longestStretch 4 (some .int) [(0, 9, 12, 21)] ∈ BG := bg_3 (List.mem_of_getElem? (l := tables_1_3) (i := 166) rfl) rfl
theorem kw_659 : Cond.methodLink RL 87 yX6_longestStretch ∈ BG := bg_3 (List.mem_of_getElem? (l := tables_1_3) (i := 167) rfl) rfl
theorem kw_660 : Cond.instanceMethod yX6_longestStretch ∈ BG := bg_3 (List.mem_of_getElem? (l := tables_1_3) (i := 168) rfl) rfl
theorem kw_661 : Cond.selects RX6 yX6_longestStretch yX6_longestStretch ∈ BG := bg_3 (List.mem_of_getElem? (l := tables_1_3) (i := 169) rfl) rfl
theorem kw_662 : Cond.code yX6_longestStretch cX6_longestStretch 2 (some .int) ∈ BG := bg_3 (List.mem_of_getElem? (l := tables_1_3) (i := 170) rfl) rfl
theorem kw_663 : Cond.methodLink RX6 183 yX6_longest ∈ BG := bg_3 (List.mem_of_getElem? (l := tables_1_3) (i := 171) rfl) rfl
theorem kw_664 : Cond.static yX6_longest ∈ BG := bg_3 (List.mem_of_getElem? (l := tables_1_3) (i := 172) rfl) rfl
theorem kw_665 : Cond.code yX6_longest cX6_longest 3 (some .int) ∈ BG := bg_3 (List.mem_of_getElem? (l := tables_1_3) (i := 173) rfl) rfl
theorem kw_666 : Cond.methodLink RL 189 yX7_longestStretch ∈ BG := bg_5 (List.mem_of_getElem? (l := tables_1_5) (i := 17) rfl) rfl
theorem kw_667 : Cond.instanceMethod yX7_longestStretch ∈ BG := bg_5 (List.mem_of_getElem? (l := tables_1_5) (i := 18) rfl) rfl
theorem kw_668 : Cond.selects RX7 yX7_longestStretch yX7_longestStretch ∈ BG := bg_5 (List.mem_of_getElem? (l := tables_1_5) (i := 19) rfl) rfl
theorem kw_669 : Cond.code yX7_longestStretch cX7_longestStretch 2 (some .int) ∈ BG := bg_5 (List.mem_of_getElem? (l := tables_1_5) (i := 20) rfl) rfl
theorem kw_670 : Cond.methodLink RL 190 yL_category ∈ BG := bg_3 (List.mem_of_getElem? (l := tables_1_3) (i := 174) rfl) rfl
theorem kw_671 : Cond.static yL_category ∈ BG := bg_3 (List.mem_of_getElem? (l := tables_1_3) (i := 175) rfl) rfl
theorem kw_672 : Cond.codeWith yL_category cL_category 5 (some .int) [(0, 10, 13, 21), (0, 10, 17, 13)] ∈ BG := bg_3 (List.mem_of_getElem? (l := tables_1_3) (i := 176) rfl) rfl
theorem kw_673 : Cond.methodLink RL 90 yX6_category ∈ BG := bg_3 (List.mem_of_getElem? (l := tables_1_3) (i := 177) rfl) rfl
theorem kw_674 : Cond.instanceMethod yX6_category ∈ BG := bg_3 (List.mem_of_getElem? (l := tables_1_3) (i := 178) rfl) rfl
theorem kw_675 : Cond.selects RX6 yX6_category yX6_category ∈ BG := bg_3 (List.mem_of_getElem? (l := tables_1_3) (i := 179) rfl) rfl
theorem kw_676 : Cond.code yX6_category cX6_category 4 (some .int) ∈ BG := bg_3 (List.mem_of_getElem? (l := tables_1_3) (i := 180) rfl) rfl
theorem kw_677 : Cond.methodLink RX6 186 yX1_categoryAt ∈ BG := bg_3 (List.mem_of_getElem? (l := tables_1_3) (i := 181) rfl) rfl
theorem kw_678 : Cond.instanceMethod yX1_categoryAt ∈ BG := bg_3 (List.mem_of_getElem? (l := tables_1_3) (i := 182) rfl) rfl
theorem kw_679 : Cond.selects RX1 yX1_categoryAt yX1_categoryAt ∈ BG := bg_3 (List.mem_of_getElem? (l := tables_1_3) (i := 183) rfl) rfl
theorem kw_680 : Cond.code yX1_categoryAt cX1_categoryAt 4 (some .int) ∈ BG := bg_3 (List.mem_of_getElem? (l := tables_1_3) (i := 184) rfl) rfl
theorem kw_681 : Cond.methodLink RL 192 yX7_category ∈ BG := bg_5 (List.mem_of_getElem? (l := tables_1_5) (i := 21) rfl) rfl
theorem kw_682 : Cond.instanceMethod yX7_category ∈ BG := bg_5 (List.mem_of_getElem? (l := tables_1_5) (i := 22) rfl) rfl
theorem kw_683 : Cond.selects RX7 yX7_category yX7_category ∈ BG := bg_5 (List.mem_of_getElem? (l := tables_1_5) (i := 23) rfl) rfl
theorem kw_684 : Cond.code yX7_category cX7_category 4 (some .int) ∈ BG := bg_5 (List.mem_of_getElem? (l := tables_1_5) (i := 24) rfl) rfl
theorem kw_685 : Cond.methodLink RL 193 yL_minutes ∈ BG := bg_3 (List.mem_of_getElem? (l := tables_1_3) (i := 185) rfl) rfl
theorem kw_686 : Cond.static yL_minutes ∈ BG := bg_3 (List.mem_of_getElem? (l := tables_1_3) (i := 186) rfl) rfl
theorem kw_687 : Cond.codeWith yL_minutes cL_minutes 6 (some .int) [(0, 12, 15, 21), (0, 12, 19, 13)] ∈ BG := bg_3 (List.mem_of_getElem? (l := tables_1_3) (i := 187) rfl) rfl
theorem kw_688 : Cond.methodLink RL 93 yX6_minutes ∈ BG := bg_3 (List.mem_of_getElem? (l := tables_1_3) (i := 188) rfl) rfl
theorem kw_689 : Cond.instanceMethod yX6_minutes ∈ BG := bg_3 (List.mem_of_getElem? (l := tables_1_3) (i := 189) rfl) rfl
theorem kw_690 : Cond.selects RX6 yX6_minutes yX6_minutes ∈ BG := bg_3 (List.mem_of_getElem? (l := tables_1_3) (i := 190) rfl) rfl
theorem kw_691 : Cond.code yX6_minutes cX6_minutes 5 (some .int) ∈ BG := bg_3 (List.mem_of_getElem? (l := tables_1_3) (i := 191) rfl) rfl
theorem kw_692 : Cond.methodLink RX6 189 yX1_minutesOf ∈ BG := bg_3 (List.mem_of_getElem? (l := tables_1_3) (i := 192) rfl) rfl
theorem kw_693 : Cond.methodLink RL 195 yX7_minutes ∈ BG := bg_5 (List.mem_of_getElem? (l := tables_1_5) (i := 25) rfl) rfl
theorem kw_694 : Cond.instanceMethod yX7_minutes ∈ BG := bg_5 (List.mem_of_getElem? (l := tables_1_5) (i := 26) rfl) rfl
theorem kw_695 : Cond.selects RX7 yX7_minutes yX7_minutes ∈ BG := bg_5 (List.mem_of_getElem? (l := tables_1_5) (i := 27) rfl) rfl
theorem kw_696 : Cond.code yX7_minutes cX7_minutes 4 (some .int) ∈ BG := bg_5 (List.mem_of_getElem? (l := tables_1_5) (i := 28) rfl) rfl
theorem kw_697 : Cond.methodLink RX7 184 yX7_told ∈ BG := bg_5 (List.mem_of_getElem? (l := tables_1_5) (i := 29) rfl) rfl
theorem kw_698 : Cond.instanceMethod yX7_told ∈ BG := bg_5 (List.mem_of_getElem? (l := tables_1_5) (i := 31) rfl) rfl
theorem kw_699 : Cond.selects RX7 yX7_told yX7_told ∈ BG := bg_0 (List.mem_of_getElem? (l := k2_sels lw_privs) (i := 34) rfl) rfl
theorem kw_700 : Cond.code yX7_told cX7_told 6 (some .int) ∈ BG := bg_5 (List.mem_of_getElem? (l := tables_1_5) (i := 32) rfl) rfl
theorem kw_701 : Cond.methodLink RL 196 yL_quarters ∈ BG := bg_3 (List.mem_of_getElem? (l := tables_1_3) (i := 193) rfl) rfl
theorem kw_702 : Cond.static yL_quarters ∈ BG := bg_3 (List.mem_of_getElem? (l := tables_1_3) (i := 194) rfl) rfl
theorem kw_703 : Cond.codeWith yL_quarters cL_quarters 6 (some .int) [(0, 12, 15, 21), (0, 12, 19, 13)] ∈ BG := bg_3 (List.mem_of_getElem? (l := tables_1_3) (i := 195) rfl) rfl
theorem kw_704 : Cond.methodLink RL 96 yX6_quarters ∈ BG := bg_3 (List.mem_of_getElem? (l := tables_1_3) (i := 196) rfl) rfl
theorem kw_705 : Cond.instanceMethod yX6_quarters ∈ BG := bg_3 (List.mem_of_getElem? (l := tables_1_3) (i := 197) rfl) rfl
theorem kw_706 : Cond.selects RX6 yX6_quarters yX6_quarters ∈ BG := bg_3 (List.mem_of_getElem? (l := tables_1_3) (i := 198) rfl) rfl
theorem kw_707 : Cond.code yX6_quarters cX6_quarters 5 (some .int) ∈ BG := bg_3 (List.mem_of_getElem? (l := tables_1_3) (i := 199) rfl) rfl
theorem kw_708 : Cond.methodLink RX6 192 yX1_quartersOf ∈ BG := bg_3 (List.mem_of_getElem? (l := tables_1_3) (i := 200) rfl) rfl
theorem kw_709 : Cond.instanceMethod yX1_quartersOf ∈ BG := bg_3 (List.mem_of_getElem? (l := tables_1_3) (i := 201) rfl) rfl
theorem kw_710 : Cond.selects RX1 yX1_quartersOf yX1_quartersOf ∈ BG := bg_3 (List.mem_of_getElem? (l := tables_1_3) (i := 202) rfl) rfl
theorem kw_711 : Cond.code yX1_quartersOf cX1_quartersOf 9 (some .int) ∈ BG := bg_3 (List.mem_of_getElem? (l := tables_1_3) (i := 203) rfl) rfl
theorem kw_712 : Cond.methodLink RL 198 yX7_quarters ∈ BG := bg_5 (List.mem_of_getElem? (l := tables_1_5) (i := 33) rfl) rfl
theorem kw_713 : Cond.instanceMethod yX7_quarters ∈ BG := bg_5 (List.mem_of_getElem? (l := tables_1_5) (i := 34) rfl) rfl
theorem kw_714 : Cond.selects RX7 yX7_quarters yX7_quarters ∈ BG := bg_5 (List.mem_of_getElem? (l := tables_1_5) (i := 35) rfl) rfl
theorem kw_715 : Cond.code yX7_quarters cX7_quarters 4 (some .int) ∈ BG := bg_5 (List.mem_of_getElem? (l := tables_1_5) (i := 36) rfl) rfl
theorem kw_716 : Cond.methodLink RL 199 yL_premiumPay ∈ BG := bg_3 (List.mem_of_getElem? (l := tables_1_3) (i := 204) rfl) rfl
theorem kw_717 : Cond.static yL_premiumPay ∈ BG := bg_3 (List.mem_of_getElem? (l := tables_1_3) (i := 205) rfl) rfl
theorem kw_718 : Cond.codeWith yL_premiumPay cL_premiumPay 4 (some .int) [(0, 9, 12, 21)] ∈ BG := bg_3 (List.mem_of_getElem? (l := tables_1_3) (i := 206) rfl) rfl
theorem kw_719 : Cond.methodLink RL 99 yX6_premiumPay ∈ BG := bg_3 (List.mem_of_getElem? (l := tables_1_3) (i := 207) rfl) rfl
theorem kw_720 : Cond.instanceMethod yX6_premiumPay ∈ BG := bg_3 (List.mem_of_getElem? (l := tables_1_3) (i := 208) rfl) rfl
theorem kw_721 : Cond.selects RX6 yX6_premiumPay yX6_premiumPay ∈ BG := bg_3 (List.mem_of_getElem? (l := tables_1_3) (i := 209) rfl) rfl
theorem kw_722 : Cond.code yX6_premiumPay cX6_premiumPay 2 (some .int) ∈ BG := bg_3 (List.mem_of_getElem? (l := tables_1_3) (i := 210) rfl) rfl
theorem kw_723 : Cond.methodLink RL 201 yX7_premiumPay ∈ BG := bg_5 (List.mem_of_getElem? (l := tables_1_5) (i := 37) rfl) rfl
theorem kw_724 : Cond.instanceMethod yX7_premiumPay ∈ BG := bg_5 (List.mem_of_getElem? (l := tables_1_5) (i := 38) rfl) rfl
theorem kw_725 : Cond.selects RX7 yX7_premiumPay yX7_premiumPay ∈ BG := bg_5 (List.mem_of_getElem? (l := tables_1_5) (i := 39) rfl) rfl
theorem kw_726 : Cond.code yX7_premiumPay cX7_premiumPay 2 (some .int) ∈ BG := bg_5 (List.mem_of_getElem? (l := tables_1_5) (i := 40) rfl) rfl
theorem kw_727 : Cond.methodLink RL 202 yL_pay ∈ BG := bg_3 (List.mem_of_getElem? (l := tables_1_3) (i := 211) rfl) rfl
theorem kw_728 : Cond.static yL_pay ∈ BG := bg_3 (List.mem_of_getElem? (l := tables_1_3) (i := 212) rfl) rfl
theorem kw_729 : Cond.codeWith yL_pay cL_pay 4 (some .int) [(0, 9, 12, 21)] ∈ BG := bg_3 (List.mem_of_getElem? (l := tables_1_3) (i := 213) rfl) rfl
theorem kw_730 : Cond.methodLink RL 102 yX6_pay ∈ BG := bg_3 (List.mem_of_getElem? (l := tables_1_3) (i := 214) rfl) rfl
theorem kw_731 : Cond.instanceMethod yX6_pay ∈ BG := bg_3 (List.mem_of_getElem? (l := tables_1_3) (i := 215) rfl) rfl
theorem kw_732 : Cond.selects RX6 yX6_pay yX6_pay ∈ BG := bg_3 (List.mem_of_getElem? (l := tables_1_3) (i := 216) rfl) rfl
theorem kw_733 : Cond.code yX6_pay cX6_pay 3 (some .int) ∈ BG := bg_3 (List.mem_of_getElem? (l := tables_1_3) (i := 217) rfl) rfl
theorem kw_734 : Cond.methodLink RL 204 yX7_pay ∈ BG := bg_5 (List.mem_of_getElem? (l := tables_1_5) (i := 41) rfl) rfl
theorem kw_735 : Cond.instanceMethod yX7_pay ∈ BG := bg_5 (List.mem_of_getElem? (l := tables_1_5) (i := 42) rfl) rfl
theorem kw_736 : Cond.selects RX7 yX7_pay yX7_pay ∈ BG := bg_5 (List.mem_of_getElem? (l := tables_1_5) (i := 43) rfl) rfl
theorem kw_737 : Cond.code yX7_pay cX7_pay 2 (some .int) ∈ BG := bg_5 (List.mem_of_getElem? (l := tables_1_5) (i := 44) rfl) rfl
theorem in_X0 : ∀ w ∈ u_ws RX0 TX0 6, w ∈ BG := by
  show ∀ w ∈ [Cond.lays "Timesheets$Employee" "Timesheets$Employee" "wage" "I", Cond.lays "Timesheets$Employee" "Timesheets$Employee" "weeksClosed" "I", Cond.lays "Timesheets$Employee" "Timesheets$Employee" "earnings" "J", Cond.laysFinal "Timesheets$Employee" "Timesheets$Employee" "punches" "LTimesheets$Table;", Cond.laysFinal "Timesheets$Employee" "Timesheets$Employee" "entries" "LTimesheets$Table;", Cond.laysFinal "Timesheets$Employee" "Timesheets$Employee" "breaks" "LTimesheets$Table;"], w ∈ BG
  exact List.forall_mem_cons.mpr ⟨bg_2 (List.mem_of_getElem? (l := tables_1_2) (i := 21) rfl) rfl, List.forall_mem_cons.mpr ⟨bg_2 (List.mem_of_getElem? (l := tables_1_2) (i := 23) rfl) rfl, List.forall_mem_cons.mpr ⟨bg_2 (List.mem_of_getElem? (l := tables_1_2) (i := 25) rfl) rfl, List.forall_mem_cons.mpr ⟨bg_2 (List.mem_of_getElem? (l := tables_1_2) (i := 27) rfl) rfl, List.forall_mem_cons.mpr ⟨bg_2 (List.mem_of_getElem? (l := tables_1_2) (i := 29) rfl) rfl, List.forall_mem_cons.mpr ⟨bg_2 (List.mem_of_getElem? (l := tables_1_2) (i := 31) rfl) rfl, (fun _ h => absurd h List.not_mem_nil)⟩⟩⟩⟩⟩⟩
theorem in_X1 : ∀ w ∈ u_ws RX1 TX1 3, w ∈ BG := by
  show ∀ w ∈ [Cond.laysFinal "Timesheets$Payroll" "Timesheets$Payroll" "timeline" "LTimesheets$Timeline;", Cond.laysFinal "Timesheets$Payroll" "Timesheets$Payroll" "paid" "LTimesheets$Table;", Cond.laysFinal "Timesheets$Payroll" "Timesheets$Payroll" "parts" "LTimesheets$Table;"], w ∈ BG
  exact List.forall_mem_cons.mpr ⟨bg_1 (List.mem_of_getElem? (l := tables_1_1) (i := 111) rfl) rfl, List.forall_mem_cons.mpr ⟨bg_1 (List.mem_of_getElem? (l := tables_1_1) (i := 113) rfl) rfl, List.forall_mem_cons.mpr ⟨bg_1 (List.mem_of_getElem? (l := tables_1_1) (i := 115) rfl) rfl, (fun _ h => absurd h List.not_mem_nil)⟩⟩⟩
theorem in_X2 : ∀ w ∈ u_ws RX2 TX2 1, w ∈ BG := by
  show ∀ w ∈ [Cond.laysFinal "Timesheets$Premiums" "Timesheets$Premiums" "rows" "LTimesheets$Table;"], w ∈ BG
  exact List.forall_mem_cons.mpr ⟨bg_1 (List.mem_of_getElem? (l := tables_1_1) (i := 52) rfl) rfl, (fun _ h => absurd h List.not_mem_nil)⟩
theorem in_X3 : ∀ w ∈ u_ws RX3 TX3 2, w ∈ BG := by
  show ∀ w ∈ [Cond.laysFinal "Timesheets$Shifts" "Timesheets$Shifts" "spans" "LTimesheets$Table;", Cond.lays "Timesheets$Shifts" "Timesheets$Shifts" "repaired" "I"], w ∈ BG
  exact List.forall_mem_cons.mpr ⟨bg_1 (List.mem_of_getElem? (l := tables_1_1) (i := 80) rfl) rfl, List.forall_mem_cons.mpr ⟨bg_1 (List.mem_of_getElem? (l := tables_1_1) (i := 82) rfl) rfl, (fun _ h => absurd h List.not_mem_nil)⟩⟩
theorem in_X4 : ∀ w ∈ u_ws RX4 TX4 3, w ∈ BG := by
  show ∀ w ∈ [Cond.laysFinal "Timesheets$Table" "Timesheets$Table" "width" "I", Cond.laysFinal "Timesheets$Table" "Timesheets$Table" "cells" "[I", Cond.lays "Timesheets$Table" "Timesheets$Table" "rows" "I"], w ∈ BG
  exact List.forall_mem_cons.mpr ⟨bg_1 (List.mem_of_getElem? (l := tables_1_1) (i := 42) rfl) rfl, List.forall_mem_cons.mpr ⟨bg_1 (List.mem_of_getElem? (l := tables_1_1) (i := 44) rfl) rfl, List.forall_mem_cons.mpr ⟨bg_1 (List.mem_of_getElem? (l := tables_1_1) (i := 46) rfl) rfl, (fun _ h => absurd h List.not_mem_nil)⟩⟩⟩
theorem in_X5 : ∀ w ∈ u_ws RX5 TX5 4, w ∈ BG := by
  show ∀ w ∈ [Cond.laysFinal "Timesheets$Timeline" "Timesheets$Timeline" "shiftList" "LTimesheets$Shifts;", Cond.laysFinal "Timesheets$Timeline" "Timesheets$Timeline" "events" "LTimesheets$Table;", Cond.laysFinal "Timesheets$Timeline" "Timesheets$Timeline" "stretchList" "LTimesheets$Table;", Cond.lays "Timesheets$Timeline" "Timesheets$Timeline" "coveredTwice" "I"], w ∈ BG
  exact List.forall_mem_cons.mpr ⟨bg_1 (List.mem_of_getElem? (l := tables_1_1) (i := 95) rfl) rfl, List.forall_mem_cons.mpr ⟨bg_1 (List.mem_of_getElem? (l := tables_1_1) (i := 97) rfl) rfl, List.forall_mem_cons.mpr ⟨bg_1 (List.mem_of_getElem? (l := tables_1_1) (i := 99) rfl) rfl, List.forall_mem_cons.mpr ⟨bg_1 (List.mem_of_getElem? (l := tables_1_1) (i := 101) rfl) rfl, (fun _ h => absurd h List.not_mem_nil)⟩⟩⟩⟩
theorem in_X6 : ∀ w ∈ u_ws RX6 TX6 6, w ∈ BG := by
  show ∀ w ∈ [Cond.laysFinal "Timesheets" "Timesheets" "staff" "[LTimesheets$Employee;", Cond.lays "Timesheets" "Timesheets" "hired" "I", Cond.laysFinal "Timesheets" "Timesheets" "premiums" "LTimesheets$Premiums;", Cond.laysFinal "Timesheets" "Timesheets" "payroll" "LTimesheets$Payroll;", Cond.laysFinal "Timesheets" "Timesheets" "timeline" "LTimesheets$Timeline;", Cond.laysFinal "Timesheets" "Timesheets" "shiftList" "LTimesheets$Shifts;"], w ∈ BG
  exact List.forall_mem_cons.mpr ⟨bg_1 (List.mem_of_getElem? (l := tables_1_1) (i := 124) rfl) rfl, List.forall_mem_cons.mpr ⟨bg_1 (List.mem_of_getElem? (l := tables_1_1) (i := 126) rfl) rfl, List.forall_mem_cons.mpr ⟨bg_1 (List.mem_of_getElem? (l := tables_1_1) (i := 128) rfl) rfl, List.forall_mem_cons.mpr ⟨bg_1 (List.mem_of_getElem? (l := tables_1_1) (i := 130) rfl) rfl, List.forall_mem_cons.mpr ⟨bg_1 (List.mem_of_getElem? (l := tables_1_1) (i := 132) rfl) rfl, List.forall_mem_cons.mpr ⟨bg_1 (List.mem_of_getElem? (l := tables_1_1) (i := 134) rfl) rfl, (fun _ h => absurd h List.not_mem_nil)⟩⟩⟩⟩⟩⟩
theorem in_X7 : ∀ w ∈ u_ws RX7 TX7 34, w ∈ BG := by
  show ∀ w ∈ [Cond.lays "TimesheetsModel" "TimesheetsModel" "thrown" "I", Cond.lays "TimesheetsModel" "TimesheetsModel" "many" "I", Cond.laysFinal "TimesheetsModel" "TimesheetsModel" "wages" "[I", Cond.laysFinal "TimesheetsModel" "TimesheetsModel" "closed" "[I", Cond.laysFinal "TimesheetsModel" "TimesheetsModel" "gained" "[J", Cond.laysFinal "TimesheetsModel" "TimesheetsModel" "punchMany" "[I", Cond.laysFinal "TimesheetsModel" "TimesheetsModel" "punchTime" "[I", Cond.laysFinal "TimesheetsModel" "TimesheetsModel" "isIn" "[Z", Cond.laysFinal "TimesheetsModel" "TimesheetsModel" "entryMany" "[I", Cond.laysFinal "TimesheetsModel" "TimesheetsModel" "entryFrom" "[I", Cond.laysFinal "TimesheetsModel" "TimesheetsModel" "entryTo" "[I", Cond.laysFinal "TimesheetsModel" "TimesheetsModel" "breakMany" "[I", Cond.laysFinal "TimesheetsModel" "TimesheetsModel" "breakFrom" "[I", Cond.laysFinal "TimesheetsModel" "TimesheetsModel" "breakTo" "[I", Cond.lays "TimesheetsModel" "TimesheetsModel" "rateMany" "I", Cond.laysFinal "TimesheetsModel" "TimesheetsModel" "rateDays" "[I", Cond.laysFinal "TimesheetsModel" "TimesheetsModel" "rateFrom" "[I", Cond.laysFinal "TimesheetsModel" "TimesheetsModel" "rateTo" "[I", Cond.laysFinal "TimesheetsModel" "TimesheetsModel" "rates" "[I", Cond.lays "TimesheetsModel" "TimesheetsModel" "shiftMany" "I", Cond.lays "TimesheetsModel" "TimesheetsModel" "repairs" "I", Cond.laysFinal "TimesheetsModel" "TimesheetsModel" "begins" "[I", Cond.laysFinal "TimesheetsModel" "TimesheetsModel" "ends" "[I", Cond.laysFinal "TimesheetsModel" "TimesheetsModel" "cover" "[I", Cond.laysFinal "TimesheetsModel" "TimesheetsModel" "rest" "[I", Cond.laysFinal "TimesheetsModel" "TimesheetsModel" "kind" "[I", Cond.laysFinal "TimesheetsModel" "TimesheetsModel" "worked" "[I", Cond.laysFinal "TimesheetsModel" "TimesheetsModel" "paid" "[I", Cond.laysFinal "TimesheetsModel" "TimesheetsModel" "sums" "[I", Cond.laysFinal "TimesheetsModel" "TimesheetsModel" "shares" "[I", Cond.laysFinal "TimesheetsModel" "TimesheetsModel" "weekShares" "[I", Cond.lays "TimesheetsModel" "TimesheetsModel" "doubled" "I", Cond.lays "TimesheetsModel" "TimesheetsModel" "runs" "I", Cond.lays "TimesheetsModel" "TimesheetsModel" "longest" "I"], w ∈ BG
  exact List.forall_mem_cons.mpr ⟨bg_4 (List.mem_of_getElem? (l := tables_1_4) (i := 18) rfl) rfl, List.forall_mem_cons.mpr ⟨bg_4 (List.mem_of_getElem? (l := tables_1_4) (i := 20) rfl) rfl, List.forall_mem_cons.mpr ⟨bg_4 (List.mem_of_getElem? (l := tables_1_4) (i := 22) rfl) rfl, List.forall_mem_cons.mpr ⟨bg_4 (List.mem_of_getElem? (l := tables_1_4) (i := 24) rfl) rfl, List.forall_mem_cons.mpr ⟨bg_4 (List.mem_of_getElem? (l := tables_1_4) (i := 26) rfl) rfl, List.forall_mem_cons.mpr ⟨bg_4 (List.mem_of_getElem? (l := tables_1_4) (i := 28) rfl) rfl, List.forall_mem_cons.mpr ⟨bg_4 (List.mem_of_getElem? (l := tables_1_4) (i := 30) rfl) rfl, List.forall_mem_cons.mpr ⟨bg_4 (List.mem_of_getElem? (l := tables_1_4) (i := 32) rfl) rfl, List.forall_mem_cons.mpr ⟨bg_4 (List.mem_of_getElem? (l := tables_1_4) (i := 34) rfl) rfl, List.forall_mem_cons.mpr ⟨bg_4 (List.mem_of_getElem? (l := tables_1_4) (i := 36) rfl) rfl, List.forall_mem_cons.mpr ⟨bg_4 (List.mem_of_getElem? (l := tables_1_4) (i := 38) rfl) rfl, List.forall_mem_cons.mpr ⟨bg_4 (List.mem_of_getElem? (l := tables_1_4) (i := 40) rfl) rfl, List.forall_mem_cons.mpr ⟨bg_4 (List.mem_of_getElem? (l := tables_1_4) (i := 42) rfl) rfl, List.forall_mem_cons.mpr ⟨bg_4 (List.mem_of_getElem? (l := tables_1_4) (i := 44) rfl) rfl, List.forall_mem_cons.mpr ⟨bg_4 (List.mem_of_getElem? (l := tables_1_4) (i := 46) rfl) rfl, List.forall_mem_cons.mpr ⟨bg_4 (List.mem_of_getElem? (l := tables_1_4) (i := 48) rfl) rfl, List.forall_mem_cons.mpr ⟨bg_4 (List.mem_of_getElem? (l := tables_1_4) (i := 50) rfl) rfl, List.forall_mem_cons.mpr ⟨bg_4 (List.mem_of_getElem? (l := tables_1_4) (i := 52) rfl) rfl, List.forall_mem_cons.mpr ⟨bg_4 (List.mem_of_getElem? (l := tables_1_4) (i := 54) rfl) rfl, List.forall_mem_cons.mpr ⟨bg_4 (List.mem_of_getElem? (l := tables_1_4) (i := 56) rfl) rfl, List.forall_mem_cons.mpr ⟨bg_4 (List.mem_of_getElem? (l := tables_1_4) (i := 58) rfl) rfl, List.forall_mem_cons.mpr ⟨bg_4 (List.mem_of_getElem? (l := tables_1_4) (i := 60) rfl) rfl, List.forall_mem_cons.mpr ⟨bg_4 (List.mem_of_getElem? (l := tables_1_4) (i := 62) rfl) rfl, List.forall_mem_cons.mpr ⟨bg_4 (List.mem_of_getElem? (l := tables_1_4) (i := 64) rfl) rfl, List.forall_mem_cons.mpr ⟨bg_4 (List.mem_of_getElem? (l := tables_1_4) (i := 66) rfl) rfl, List.forall_mem_cons.mpr ⟨bg_4 (List.mem_of_getElem? (l := tables_1_4) (i := 68) rfl) rfl, List.forall_mem_cons.mpr ⟨bg_4 (List.mem_of_getElem? (l := tables_1_4) (i := 70) rfl) rfl, List.forall_mem_cons.mpr ⟨bg_4 (List.mem_of_getElem? (l := tables_1_4) (i := 72) rfl) rfl, List.forall_mem_cons.mpr ⟨bg_4 (List.mem_of_getElem? (l := tables_1_4) (i := 74) rfl) rfl, List.forall_mem_cons.mpr ⟨bg_4 (List.mem_of_getElem? (l := tables_1_4) (i := 76) rfl) rfl, List.forall_mem_cons.mpr ⟨bg_4 (List.mem_of_getElem? (l := tables_1_4) (i := 78) rfl) rfl, List.forall_mem_cons.mpr ⟨bg_4 (List.mem_of_getElem? (l := tables_1_4) (i := 80) rfl) rfl, List.forall_mem_cons.mpr ⟨bg_4 (List.mem_of_getElem? (l := tables_1_4) (i := 82) rfl) rfl, List.forall_mem_cons.mpr ⟨bg_4 (List.mem_of_getElem? (l := tables_1_4) (i := 84) rfl) rfl, (fun _ h => absurd h List.not_mem_nil)⟩⟩⟩⟩⟩⟩⟩⟩⟩⟩⟩⟩⟩⟩⟩⟩⟩⟩⟩⟩⟩⟩⟩⟩⟩⟩⟩⟩⟩⟩⟩⟩⟩⟩
