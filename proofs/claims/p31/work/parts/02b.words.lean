/-! the words of the tables that are good, and each of them by name -/
def BG : List Cond := lw_tbl.filter goodWord
theorem BG_good : ∀ w ∈ BG, (w.onTables && w.keeps) = true ∨ ∃ ty, w = .arrayClass ty := fun w h => good_of_word (List.mem_filter.mp h).2
theorem BG_in : ∀ w ∈ BG, w ∈ lw_tbl := fun w h => (List.mem_filter.mp h).1
theorem bg_0 {w : Cond} (h : w ∈ k2_sels lw_privs) (g : goodWord w = true) : w ∈ BG := List.mem_filter.mpr ⟨List.mem_append_left _ h, g⟩
theorem bg_1 {w : Cond} (h : w ∈ tables_1_1) (g : goodWord w = true) : w ∈ BG := List.mem_filter.mpr ⟨List.mem_append_right _ (List.mem_append_left _ h), g⟩
theorem bg_2 {w : Cond} (h : w ∈ tables_1_2) (g : goodWord w = true) : w ∈ BG := List.mem_filter.mpr ⟨List.mem_append_right _ (List.mem_append_right _ (List.mem_append_left _ h)), g⟩
theorem bg_3 {w : Cond} (h : w ∈ tables_1_3) (g : goodWord w = true) : w ∈ BG := List.mem_filter.mpr ⟨List.mem_append_right _ (List.mem_append_right _ (List.mem_append_right _ h)), g⟩
theorem kw_0 : Cond.classLink RL 9 RX6 ∈ BG := bg_1 (List.mem_of_getElem? (l := tables_1_1) (i := 15) rfl) rfl
theorem kw_1 : Cond.instantiable RX6 6 ∈ BG := bg_1 (List.mem_of_getElem? (l := tables_1_1) (i := 16) rfl) rfl
theorem kw_2 : Cond.initialized RX6 ∈ BG := bg_1 (List.mem_of_getElem? (l := tables_1_1) (i := 1) rfl) rfl
theorem kw_3 : Cond.arrayClass .int ∈ BG := bg_1 (List.mem_of_getElem? (l := tables_1_1) (i := 47) rfl) rfl
theorem kw_4 : Cond.methodLink RL 53 yX6_init ∈ BG := bg_1 (List.mem_of_getElem? (l := tables_1_1) (i := 17) rfl) rfl
theorem kw_5 : Cond.instanceMethod yX6_init ∈ BG := bg_1 (List.mem_of_getElem? (l := tables_1_1) (i := 18) rfl) rfl
theorem kw_6 : Cond.code yX6_init cX6_init 1 none ∈ BG := bg_1 (List.mem_of_getElem? (l := tables_1_1) (i := 19) rfl) rfl
theorem kw_7 : Cond.methodLink RX6 3 objectInit ∈ BG := bg_1 (List.mem_of_getElem? (l := tables_1_1) (i := 20) rfl) rfl
theorem kw_8 : Cond.instanceMethod objectInit ∈ BG := bg_1 (List.mem_of_getElem? (l := tables_1_1) (i := 21) rfl) rfl
theorem kw_9 : Cond.code objectInit ⟨#[0xb1]⟩ 1 none ∈ BG := bg_1 (List.mem_of_getElem? (l := tables_1_1) (i := 22) rfl) rfl
theorem kw_10 : Cond.classLink RX6 9 RX0 ∈ BG := bg_1 (List.mem_of_getElem? (l := tables_1_1) (i := 23) rfl) rfl
theorem kw_11 : Cond.fieldLink RX6 11 "Timesheets" "staff" "[LTimesheets$Employee;" ∈ BG := bg_1 (List.mem_of_getElem? (l := tables_1_1) (i := 116) rfl) rfl
theorem kw_12 : Cond.fieldLink RX6 15 "Timesheets" "hired" "I" ∈ BG := bg_1 (List.mem_of_getElem? (l := tables_1_1) (i := 117) rfl) rfl
theorem kw_13 : Cond.classLink RX6 19 RX2 ∈ BG := bg_1 (List.mem_of_getElem? (l := tables_1_1) (i := 25) rfl) rfl
theorem kw_14 : Cond.instantiable RX2 1 ∈ BG := bg_1 (List.mem_of_getElem? (l := tables_1_1) (i := 26) rfl) rfl
theorem kw_15 : Cond.initialized RX2 ∈ BG := bg_1 (List.mem_of_getElem? (l := tables_1_1) (i := 2) rfl) rfl
theorem kw_16 : Cond.fieldLink RX6 22 "Timesheets" "premiums" "LTimesheets$Premiums;" ∈ BG := bg_1 (List.mem_of_getElem? (l := tables_1_1) (i := 118) rfl) rfl
theorem kw_17 : Cond.classLink RX6 26 RX1 ∈ BG := bg_1 (List.mem_of_getElem? (l := tables_1_1) (i := 53) rfl) rfl
theorem kw_18 : Cond.instantiable RX1 3 ∈ BG := bg_1 (List.mem_of_getElem? (l := tables_1_1) (i := 54) rfl) rfl
theorem kw_19 : Cond.initialized RX1 ∈ BG := bg_1 (List.mem_of_getElem? (l := tables_1_1) (i := 4) rfl) rfl
theorem kw_20 : Cond.fieldLink RX6 29 "Timesheets" "payroll" "LTimesheets$Payroll;" ∈ BG := bg_1 (List.mem_of_getElem? (l := tables_1_1) (i := 119) rfl) rfl
theorem kw_21 : Cond.fieldLink RX6 37 "Timesheets" "timeline" "LTimesheets$Timeline;" ∈ BG := bg_1 (List.mem_of_getElem? (l := tables_1_1) (i := 120) rfl) rfl
theorem kw_22 : Cond.fieldLink RX6 44 "Timesheets" "shiftList" "LTimesheets$Shifts;" ∈ BG := bg_1 (List.mem_of_getElem? (l := tables_1_1) (i := 121) rfl) rfl
theorem kw_23 : Cond.methodLink RX6 21 yX2_init ∈ BG := bg_1 (List.mem_of_getElem? (l := tables_1_1) (i := 27) rfl) rfl
theorem kw_24 : Cond.instanceMethod yX2_init ∈ BG := bg_1 (List.mem_of_getElem? (l := tables_1_1) (i := 28) rfl) rfl
theorem kw_25 : Cond.code yX2_init cX2_init 1 none ∈ BG := bg_1 (List.mem_of_getElem? (l := tables_1_1) (i := 29) rfl) rfl
theorem kw_26 : Cond.methodLink RX2 3 objectInit ∈ BG := bg_1 (List.mem_of_getElem? (l := tables_1_1) (i := 30) rfl) rfl
theorem kw_27 : Cond.classLink RX2 9 RX4 ∈ BG := bg_1 (List.mem_of_getElem? (l := tables_1_1) (i := 31) rfl) rfl
theorem kw_28 : Cond.instantiable RX4 3 ∈ BG := bg_1 (List.mem_of_getElem? (l := tables_1_1) (i := 32) rfl) rfl
theorem kw_29 : Cond.initialized RX4 ∈ BG := bg_1 (List.mem_of_getElem? (l := tables_1_1) (i := 3) rfl) rfl
theorem kw_30 : Cond.fieldLink RX2 14 "Timesheets$Premiums" "rows" "LTimesheets$Table;" ∈ BG := bg_1 (List.mem_of_getElem? (l := tables_1_1) (i := 48) rfl) rfl
theorem kw_31 : Cond.methodLink RX2 11 yX4_init ∈ BG := bg_1 (List.mem_of_getElem? (l := tables_1_1) (i := 33) rfl) rfl
theorem kw_32 : Cond.instanceMethod yX4_init ∈ BG := bg_1 (List.mem_of_getElem? (l := tables_1_1) (i := 34) rfl) rfl
theorem kw_33 : Cond.code yX4_init cX4_init 3 none ∈ BG := bg_1 (List.mem_of_getElem? (l := tables_1_1) (i := 35) rfl) rfl
theorem kw_34 : Cond.methodLink RX4 3 objectInit ∈ BG := bg_1 (List.mem_of_getElem? (l := tables_1_1) (i := 36) rfl) rfl
theorem kw_35 : Cond.fieldLink RX4 9 "Timesheets$Table" "width" "I" ∈ BG := bg_1 (List.mem_of_getElem? (l := tables_1_1) (i := 37) rfl) rfl
theorem kw_36 : Cond.fieldLink RX4 15 "Timesheets$Table" "cells" "[I" ∈ BG := bg_1 (List.mem_of_getElem? (l := tables_1_1) (i := 38) rfl) rfl
theorem kw_37 : Cond.fieldLink RX4 19 "Timesheets$Table" "rows" "I" ∈ BG := bg_1 (List.mem_of_getElem? (l := tables_1_1) (i := 39) rfl) rfl
theorem kw_38 : Cond.methodLink RX6 28 yX1_init ∈ BG := bg_1 (List.mem_of_getElem? (l := tables_1_1) (i := 55) rfl) rfl
theorem kw_39 : Cond.instanceMethod yX1_init ∈ BG := bg_1 (List.mem_of_getElem? (l := tables_1_1) (i := 56) rfl) rfl
theorem kw_40 : Cond.code yX1_init cX1_init 1 none ∈ BG := bg_1 (List.mem_of_getElem? (l := tables_1_1) (i := 57) rfl) rfl
theorem kw_41 : Cond.methodLink RX1 3 objectInit ∈ BG := bg_1 (List.mem_of_getElem? (l := tables_1_1) (i := 58) rfl) rfl
theorem kw_42 : Cond.classLink RX1 9 RX5 ∈ BG := bg_1 (List.mem_of_getElem? (l := tables_1_1) (i := 59) rfl) rfl
theorem kw_43 : Cond.instantiable RX5 4 ∈ BG := bg_1 (List.mem_of_getElem? (l := tables_1_1) (i := 60) rfl) rfl
theorem kw_44 : Cond.initialized RX5 ∈ BG := bg_1 (List.mem_of_getElem? (l := tables_1_1) (i := 5) rfl) rfl
theorem kw_45 : Cond.fieldLink RX1 12 "Timesheets$Payroll" "timeline" "LTimesheets$Timeline;" ∈ BG := bg_1 (List.mem_of_getElem? (l := tables_1_1) (i := 104) rfl) rfl
theorem kw_46 : Cond.classLink RX1 18 RX4 ∈ BG := bg_1 (List.mem_of_getElem? (l := tables_1_1) (i := 102) rfl) rfl
theorem kw_47 : Cond.fieldLink RX1 23 "Timesheets$Payroll" "paid" "LTimesheets$Table;" ∈ BG := bg_1 (List.mem_of_getElem? (l := tables_1_1) (i := 106) rfl) rfl
theorem kw_48 : Cond.fieldLink RX1 27 "Timesheets$Payroll" "parts" "LTimesheets$Table;" ∈ BG := bg_1 (List.mem_of_getElem? (l := tables_1_1) (i := 107) rfl) rfl
theorem kw_49 : Cond.methodLink RX1 11 yX5_init ∈ BG := bg_1 (List.mem_of_getElem? (l := tables_1_1) (i := 61) rfl) rfl
theorem kw_50 : Cond.instanceMethod yX5_init ∈ BG := bg_1 (List.mem_of_getElem? (l := tables_1_1) (i := 62) rfl) rfl
theorem kw_51 : Cond.code yX5_init cX5_init 1 none ∈ BG := bg_1 (List.mem_of_getElem? (l := tables_1_1) (i := 63) rfl) rfl
theorem kw_52 : Cond.methodLink RX5 3 objectInit ∈ BG := bg_1 (List.mem_of_getElem? (l := tables_1_1) (i := 64) rfl) rfl
theorem kw_53 : Cond.classLink RX5 9 RX3 ∈ BG := bg_1 (List.mem_of_getElem? (l := tables_1_1) (i := 65) rfl) rfl
theorem kw_54 : Cond.instantiable RX3 2 ∈ BG := bg_1 (List.mem_of_getElem? (l := tables_1_1) (i := 66) rfl) rfl
theorem kw_55 : Cond.initialized RX3 ∈ BG := bg_1 (List.mem_of_getElem? (l := tables_1_1) (i := 6) rfl) rfl
theorem kw_56 : Cond.fieldLink RX5 12 "Timesheets$Timeline" "shiftList" "LTimesheets$Shifts;" ∈ BG := bg_1 (List.mem_of_getElem? (l := tables_1_1) (i := 85) rfl) rfl
theorem kw_57 : Cond.classLink RX5 18 RX4 ∈ BG := bg_1 (List.mem_of_getElem? (l := tables_1_1) (i := 83) rfl) rfl
theorem kw_58 : Cond.fieldLink RX5 23 "Timesheets$Timeline" "events" "LTimesheets$Table;" ∈ BG := bg_1 (List.mem_of_getElem? (l := tables_1_1) (i := 87) rfl) rfl
theorem kw_59 : Cond.fieldLink RX5 27 "Timesheets$Timeline" "stretchList" "LTimesheets$Table;" ∈ BG := bg_1 (List.mem_of_getElem? (l := tables_1_1) (i := 88) rfl) rfl
theorem kw_60 : Cond.fieldLink RX5 30 "Timesheets$Timeline" "coveredTwice" "I" ∈ BG := bg_1 (List.mem_of_getElem? (l := tables_1_1) (i := 91) rfl) rfl
theorem kw_61 : Cond.methodLink RX5 11 yX3_init ∈ BG := bg_1 (List.mem_of_getElem? (l := tables_1_1) (i := 67) rfl) rfl
theorem kw_62 : Cond.instanceMethod yX3_init ∈ BG := bg_1 (List.mem_of_getElem? (l := tables_1_1) (i := 68) rfl) rfl
theorem kw_63 : Cond.code yX3_init cX3_init 1 none ∈ BG := bg_1 (List.mem_of_getElem? (l := tables_1_1) (i := 69) rfl) rfl
theorem kw_64 : Cond.methodLink RX3 3 objectInit ∈ BG := bg_1 (List.mem_of_getElem? (l := tables_1_1) (i := 70) rfl) rfl
theorem kw_65 : Cond.classLink RX3 9 RX4 ∈ BG := bg_1 (List.mem_of_getElem? (l := tables_1_1) (i := 71) rfl) rfl
theorem kw_66 : Cond.fieldLink RX3 14 "Timesheets$Shifts" "spans" "LTimesheets$Table;" ∈ BG := bg_1 (List.mem_of_getElem? (l := tables_1_1) (i := 73) rfl) rfl
theorem kw_67 : Cond.fieldLink RX3 20 "Timesheets$Shifts" "repaired" "I" ∈ BG := bg_1 (List.mem_of_getElem? (l := tables_1_1) (i := 76) rfl) rfl
theorem kw_68 : Cond.methodLink RX3 11 yX4_init ∈ BG := bg_1 (List.mem_of_getElem? (l := tables_1_1) (i := 72) rfl) rfl
theorem kw_69 : Cond.methodLink RX5 20 yX4_init ∈ BG := bg_1 (List.mem_of_getElem? (l := tables_1_1) (i := 84) rfl) rfl
theorem kw_70 : Cond.methodLink RX1 20 yX4_init ∈ BG := bg_1 (List.mem_of_getElem? (l := tables_1_1) (i := 103) rfl) rfl
theorem kw_71 : Cond.methodLink RL 54 yL_cell ∈ BG := bg_2 (List.mem_of_getElem? (l := tables_1_2) (i := 236) rfl) rfl
theorem kw_72 : Cond.static yL_cell ∈ BG := bg_2 (List.mem_of_getElem? (l := tables_1_2) (i := 237) rfl) rfl
theorem kw_73 : Cond.initialized RL ∈ BG := bg_1 (List.mem_of_getElem? (l := tables_1_1) (i := 0) rfl) rfl
theorem kw_74 : Cond.code yL_cell cL_cell 2 (some .int) ∈ BG := bg_2 (List.mem_of_getElem? (l := tables_1_2) (i := 238) rfl) rfl
theorem kw_75 : Cond.methodLink RL 58 yL_low ∈ BG := bg_2 (List.mem_of_getElem? (l := tables_1_2) (i := 239) rfl) rfl
theorem kw_76 : Cond.static yL_low ∈ BG := bg_3 (List.mem_of_getElem? (l := tables_1_3) (i := 0) rfl) rfl
theorem kw_77 : Cond.code yL_low cL_low 2 (some .int) ∈ BG := bg_3 (List.mem_of_getElem? (l := tables_1_3) (i := 1) rfl) rfl
theorem kw_78 : Cond.constant RL 7 (2147483647) ∈ BG := bg_3 (List.mem_of_getElem? (l := tables_1_3) (i := 2) rfl) rfl
theorem kw_79 : Cond.methodLink RL 61 yX6_hire ∈ BG := bg_1 (List.mem_of_getElem? (l := tables_1_1) (i := 135) rfl) rfl
theorem kw_80 : Cond.instanceMethod yX6_hire ∈ BG := bg_1 (List.mem_of_getElem? (l := tables_1_1) (i := 136) rfl) rfl
theorem kw_81 : Cond.selects RX6 yX6_hire yX6_hire ∈ BG := bg_1 (List.mem_of_getElem? (l := tables_1_1) (i := 137) rfl) rfl
theorem kw_82 : Cond.code yX6_hire cX6_hire 3 (some .int) ∈ BG := bg_1 (List.mem_of_getElem? (l := tables_1_1) (i := 138) rfl) rfl
theorem kw_83 : Cond.classLink RX6 50 "java/lang/IllegalStateException" ∈ BG := bg_1 (List.mem_of_getElem? (l := tables_1_1) (i := 211) rfl) rfl
theorem kw_84 : Cond.initialized "java/lang/IllegalStateException" ∈ BG := bg_1 (List.mem_of_getElem? (l := tables_1_1) (i := 11) rfl) rfl
theorem kw_85 : Cond.constant RX6 45 (100000) ∈ BG := bg_1 (List.mem_of_getElem? (l := tables_1_1) (i := 139) rfl) rfl
theorem kw_86 : Cond.instantiable RX0 6 ∈ BG := bg_1 (List.mem_of_getElem? (l := tables_1_1) (i := 227) rfl) rfl
theorem kw_87 : Cond.initialized RX0 ∈ BG := bg_1 (List.mem_of_getElem? (l := tables_1_1) (i := 12) rfl) rfl
theorem kw_88 : Cond.methodLink RX6 46 yX6_requireWithin ∈ BG := bg_1 (List.mem_of_getElem? (l := tables_1_1) (i := 140) rfl) rfl
theorem kw_89 : Cond.static yX6_requireWithin ∈ BG := bg_1 (List.mem_of_getElem? (l := tables_1_1) (i := 141) rfl) rfl
theorem kw_90 : Cond.code yX6_requireWithin cX6_requireWithin 3 none ∈ BG := bg_1 (List.mem_of_getElem? (l := tables_1_1) (i := 142) rfl) rfl
theorem kw_91 : Cond.classLink RX6 200 "java/lang/IllegalArgumentException" ∈ BG := bg_1 (List.mem_of_getElem? (l := tables_1_1) (i := 143) rfl) rfl
theorem kw_92 : Cond.initialized "java/lang/IllegalArgumentException" ∈ BG := bg_1 (List.mem_of_getElem? (l := tables_1_1) (i := 10) rfl) rfl
theorem kw_93 : Cond.methodLink RX6 57 yX0_init ∈ BG := bg_1 (List.mem_of_getElem? (l := tables_1_1) (i := 228) rfl) rfl
theorem kw_94 : Cond.instanceMethod yX0_init ∈ BG := bg_1 (List.mem_of_getElem? (l := tables_1_1) (i := 229) rfl) rfl
theorem kw_95 : Cond.code yX0_init cX0_init 2 none ∈ BG := bg_1 (List.mem_of_getElem? (l := tables_1_1) (i := 230) rfl) rfl
theorem kw_96 : Cond.methodLink RX0 3 objectInit ∈ BG := bg_1 (List.mem_of_getElem? (l := tables_1_1) (i := 231) rfl) rfl
theorem kw_97 : Cond.fieldLink RX0 9 "Timesheets$Employee" "wage" "I" ∈ BG := bg_1 (List.mem_of_getElem? (l := tables_1_1) (i := 234) rfl) rfl
theorem kw_98 : Cond.fieldLink RX0 15 "Timesheets$Employee" "weeksClosed" "I" ∈ BG := bg_1 (List.mem_of_getElem? (l := tables_1_1) (i := 236) rfl) rfl
theorem kw_99 : Cond.fieldLink RX0 18 "Timesheets$Employee" "earnings" "J" ∈ BG := bg_1 (List.mem_of_getElem? (l := tables_1_1) (i := 238) rfl) rfl
theorem kw_100 : Cond.classLink RX0 22 RX4 ∈ BG := bg_1 (List.mem_of_getElem? (l := tables_1_1) (i := 232) rfl) rfl
theorem kw_101 : Cond.fieldLink RX0 27 "Timesheets$Employee" "punches" "LTimesheets$Table;" ∈ BG := bg_2 (List.mem_of_getElem? (l := tables_1_2) (i := 0) rfl) rfl
theorem kw_102 : Cond.fieldLink RX0 31 "Timesheets$Employee" "entries" "LTimesheets$Table;" ∈ BG := bg_2 (List.mem_of_getElem? (l := tables_1_2) (i := 3) rfl) rfl
theorem kw_103 : Cond.fieldLink RX0 34 "Timesheets$Employee" "breaks" "LTimesheets$Table;" ∈ BG := bg_2 (List.mem_of_getElem? (l := tables_1_2) (i := 6) rfl) rfl
theorem kw_104 : Cond.methodLink RX0 24 yX4_init ∈ BG := bg_1 (List.mem_of_getElem? (l := tables_1_1) (i := 233) rfl) rfl
theorem kw_105 : Cond.methodLink RL 64 yX6_addPremium ∈ BG := bg_2 (List.mem_of_getElem? (l := tables_1_2) (i := 73) rfl) rfl
theorem kw_106 : Cond.instanceMethod yX6_addPremium ∈ BG := bg_2 (List.mem_of_getElem? (l := tables_1_2) (i := 74) rfl) rfl
theorem kw_107 : Cond.selects RX6 yX6_addPremium yX6_addPremium ∈ BG := bg_2 (List.mem_of_getElem? (l := tables_1_2) (i := 75) rfl) rfl
theorem kw_108 : Cond.code yX6_addPremium cX6_addPremium 5 (some .int) ∈ BG := bg_2 (List.mem_of_getElem? (l := tables_1_2) (i := 76) rfl) rfl
theorem kw_109 : Cond.methodLink RX6 71 yX6_requireRoom ∈ BG := bg_2 (List.mem_of_getElem? (l := tables_1_2) (i := 49) rfl) rfl
theorem kw_110 : Cond.static yX6_requireRoom ∈ BG := bg_2 (List.mem_of_getElem? (l := tables_1_2) (i := 50) rfl) rfl
theorem kw_111 : Cond.code yX6_requireRoom cX6_requireRoom 2 none ∈ BG := bg_2 (List.mem_of_getElem? (l := tables_1_2) (i := 51) rfl) rfl
theorem kw_112 : Cond.methodLink RX6 93 yX4_size ∈ BG := bg_2 (List.mem_of_getElem? (l := tables_1_2) (i := 52) rfl) rfl
theorem kw_113 : Cond.instanceMethod yX4_size ∈ BG := bg_2 (List.mem_of_getElem? (l := tables_1_2) (i := 53) rfl) rfl
theorem kw_114 : Cond.selects RX4 yX4_size yX4_size ∈ BG := bg_2 (List.mem_of_getElem? (l := tables_1_2) (i := 54) rfl) rfl
theorem kw_115 : Cond.code yX4_size cX4_size 1 (some .int) ∈ BG := bg_2 (List.mem_of_getElem? (l := tables_1_2) (i := 55) rfl) rfl
theorem kw_116 : Cond.methodLink RX6 125 yX2_add ∈ BG := bg_2 (List.mem_of_getElem? (l := tables_1_2) (i := 77) rfl) rfl
theorem kw_117 : Cond.instanceMethod yX2_add ∈ BG := bg_2 (List.mem_of_getElem? (l := tables_1_2) (i := 78) rfl) rfl
theorem kw_118 : Cond.selects RX2 yX2_add yX2_add ∈ BG := bg_2 (List.mem_of_getElem? (l := tables_1_2) (i := 79) rfl) rfl
theorem kw_119 : Cond.code yX2_add cX2_add 6 (some .int) ∈ BG := bg_2 (List.mem_of_getElem? (l := tables_1_2) (i := 80) rfl) rfl
theorem kw_120 : Cond.methodLink RX2 20 yX4_size ∈ BG := bg_2 (List.mem_of_getElem? (l := tables_1_2) (i := 81) rfl) rfl
theorem kw_121 : Cond.methodLink RX2 24 yX4_insert ∈ BG := bg_2 (List.mem_of_getElem? (l := tables_1_2) (i := 82) rfl) rfl
theorem kw_122 : Cond.instanceMethod yX4_insert ∈ BG := bg_2 (List.mem_of_getElem? (l := tables_1_2) (i := 62) rfl) rfl
theorem kw_123 : Cond.selects RX4 yX4_insert yX4_insert ∈ BG := bg_2 (List.mem_of_getElem? (l := tables_1_2) (i := 63) rfl) rfl
theorem kw_124 : Cond.code yX4_insert cX4_insert 3 none ∈ BG := bg_2 (List.mem_of_getElem? (l := tables_1_2) (i := 64) rfl) rfl
theorem kw_125 : Cond.methodLink RX2 28 yX4_set ∈ BG := bg_2 (List.mem_of_getElem? (l := tables_1_2) (i := 83) rfl) rfl
theorem kw_126 : Cond.instanceMethod yX4_set ∈ BG := bg_2 (List.mem_of_getElem? (l := tables_1_2) (i := 66) rfl) rfl
theorem kw_127 : Cond.selects RX4 yX4_set yX4_set ∈ BG := bg_2 (List.mem_of_getElem? (l := tables_1_2) (i := 67) rfl) rfl
theorem kw_128 : Cond.code yX4_set cX4_set 5 none ∈ BG := bg_2 (List.mem_of_getElem? (l := tables_1_2) (i := 68) rfl) rfl
theorem kw_129 : Cond.methodLink RL 68 yX6_enter ∈ BG := bg_2 (List.mem_of_getElem? (l := tables_1_2) (i := 22) rfl) rfl
theorem kw_130 : Cond.instanceMethod yX6_enter ∈ BG := bg_2 (List.mem_of_getElem? (l := tables_1_2) (i := 23) rfl) rfl
theorem kw_131 : Cond.selects RX6 yX6_enter yX6_enter ∈ BG := bg_2 (List.mem_of_getElem? (l := tables_1_2) (i := 24) rfl) rfl
theorem kw_132 : Cond.code yX6_enter cX6_enter 4 (some .int) ∈ BG := bg_2 (List.mem_of_getElem? (l := tables_1_2) (i := 25) rfl) rfl
theorem kw_133 : Cond.methodLink RX6 60 yX6_find ∈ BG := bg_2 (List.mem_of_getElem? (l := tables_1_2) (i := 26) rfl) rfl
theorem kw_134 : Cond.instanceMethod yX6_find ∈ BG := bg_2 (List.mem_of_getElem? (l := tables_1_2) (i := 28) rfl) rfl
theorem kw_135 : Cond.selects RX6 yX6_find yX6_find ∈ BG := bg_0 (List.mem_of_getElem? (l := k2_sels lw_privs) (i := 1) rfl) rfl
theorem kw_136 : Cond.code yX6_find cX6_find 3 (some (.object "Timesheets$Employee")) ∈ BG := bg_2 (List.mem_of_getElem? (l := tables_1_2) (i := 29) rfl) rfl
theorem kw_137 : Cond.classLink RX6 195 "java/lang/IndexOutOfBoundsException" ∈ BG := bg_2 (List.mem_of_getElem? (l := tables_1_2) (i := 30) rfl) rfl
theorem kw_138 : Cond.initialized "java/lang/IndexOutOfBoundsException" ∈ BG := bg_1 (List.mem_of_getElem? (l := tables_1_1) (i := 13) rfl) rfl
theorem kw_139 : Cond.methodLink RX6 112 yX6_addByHand ∈ BG := bg_2 (List.mem_of_getElem? (l := tables_1_2) (i := 46) rfl) rfl
theorem kw_140 : Cond.static yX6_addByHand ∈ BG := bg_2 (List.mem_of_getElem? (l := tables_1_2) (i := 47) rfl) rfl
theorem kw_141 : Cond.code yX6_addByHand cX6_addByHand 4 (some .int) ∈ BG := bg_2 (List.mem_of_getElem? (l := tables_1_2) (i := 48) rfl) rfl
theorem kw_142 : Cond.methodLink RX6 209 yX4_addSpan ∈ BG := bg_2 (List.mem_of_getElem? (l := tables_1_2) (i := 57) rfl) rfl
theorem kw_143 : Cond.instanceMethod yX4_addSpan ∈ BG := bg_2 (List.mem_of_getElem? (l := tables_1_2) (i := 58) rfl) rfl
theorem kw_144 : Cond.selects RX4 yX4_addSpan yX4_addSpan ∈ BG := bg_2 (List.mem_of_getElem? (l := tables_1_2) (i := 59) rfl) rfl
theorem kw_145 : Cond.code yX4_addSpan cX4_addSpan 4 none ∈ BG := bg_2 (List.mem_of_getElem? (l := tables_1_2) (i := 60) rfl) rfl
theorem kw_146 : Cond.methodLink RX4 22 yX4_insert ∈ BG := bg_2 (List.mem_of_getElem? (l := tables_1_2) (i := 61) rfl) rfl
theorem kw_147 : Cond.methodLink RX4 26 yX4_set ∈ BG := bg_2 (List.mem_of_getElem? (l := tables_1_2) (i := 65) rfl) rfl
theorem kw_148 : Cond.methodLink RL 71 yX6_enterBreak ∈ BG := bg_2 (List.mem_of_getElem? (l := tables_1_2) (i := 69) rfl) rfl
theorem kw_149 : Cond.instanceMethod yX6_enterBreak ∈ BG := bg_2 (List.mem_of_getElem? (l := tables_1_2) (i := 70) rfl) rfl
theorem kw_150 : Cond.selects RX6 yX6_enterBreak yX6_enterBreak ∈ BG := bg_2 (List.mem_of_getElem? (l := tables_1_2) (i := 71) rfl) rfl
theorem kw_151 : Cond.code yX6_enterBreak cX6_enterBreak 4 (some .int) ∈ BG := bg_2 (List.mem_of_getElem? (l := tables_1_2) (i := 72) rfl) rfl
theorem kw_152 : Cond.methodLink RL 74 yL_isPaid ∈ BG := bg_3 (List.mem_of_getElem? (l := tables_1_3) (i := 3) rfl) rfl
theorem kw_153 : Cond.static yL_isPaid ∈ BG := bg_3 (List.mem_of_getElem? (l := tables_1_3) (i := 4) rfl) rfl
theorem kw_154 : Cond.code yL_isPaid cL_isPaid 14 (some .boolean) ∈ BG := bg_3 (List.mem_of_getElem? (l := tables_1_3) (i := 5) rfl) rfl
theorem kw_155 : Cond.methodLink RL 17 yL_reads ∈ BG := bg_3 (List.mem_of_getElem? (l := tables_1_3) (i := 6) rfl) rfl
theorem kw_156 : Cond.static yL_reads ∈ BG := bg_3 (List.mem_of_getElem? (l := tables_1_3) (i := 7) rfl) rfl
theorem kw_157 : Cond.code yL_reads cL_reads 4 none ∈ BG := bg_3 (List.mem_of_getElem? (l := tables_1_3) (i := 8) rfl) rfl
theorem kw_158 : Cond.methodLink RL 8 yX6_minutes ∈ BG := bg_3 (List.mem_of_getElem? (l := tables_1_3) (i := 9) rfl) rfl
theorem kw_159 : Cond.instanceMethod yX6_minutes ∈ BG := bg_3 (List.mem_of_getElem? (l := tables_1_3) (i := 10) rfl) rfl
theorem kw_160 : Cond.selects RX6 yX6_minutes yX6_minutes ∈ BG := bg_3 (List.mem_of_getElem? (l := tables_1_3) (i := 11) rfl) rfl
theorem kw_161 : Cond.code yX6_minutes cX6_minutes 5 (some .int) ∈ BG := bg_3 (List.mem_of_getElem? (l := tables_1_3) (i := 12) rfl) rfl
theorem kw_162 : Cond.methodLink RX6 131 yX1_read ∈ BG := bg_2 (List.mem_of_getElem? (l := tables_1_2) (i := 89) rfl) rfl
theorem kw_163 : Cond.instanceMethod yX1_read ∈ BG := bg_2 (List.mem_of_getElem? (l := tables_1_2) (i := 90) rfl) rfl
theorem kw_164 : Cond.selects RX1 yX1_read yX1_read ∈ BG := bg_2 (List.mem_of_getElem? (l := tables_1_2) (i := 91) rfl) rfl
theorem kw_165 : Cond.code yX1_read cX1_read 5 none ∈ BG := bg_2 (List.mem_of_getElem? (l := tables_1_2) (i := 92) rfl) rfl
theorem kw_166 : Cond.methodLink RX1 30 yX5_read ∈ BG := bg_2 (List.mem_of_getElem? (l := tables_1_2) (i := 93) rfl) rfl
theorem kw_167 : Cond.instanceMethod yX5_read ∈ BG := bg_2 (List.mem_of_getElem? (l := tables_1_2) (i := 94) rfl) rfl
theorem kw_168 : Cond.selects RX5 yX5_read yX5_read ∈ BG := bg_2 (List.mem_of_getElem? (l := tables_1_2) (i := 95) rfl) rfl
theorem kw_169 : Cond.code yX5_read cX5_read 2 none ∈ BG := bg_2 (List.mem_of_getElem? (l := tables_1_2) (i := 96) rfl) rfl
theorem kw_170 : Cond.methodLink RX5 39 yX3_read ∈ BG := bg_2 (List.mem_of_getElem? (l := tables_1_2) (i := 97) rfl) rfl
theorem kw_171 : Cond.instanceMethod yX3_read ∈ BG := bg_2 (List.mem_of_getElem? (l := tables_1_2) (i := 98) rfl) rfl
theorem kw_172 : Cond.selects RX3 yX3_read yX3_read ∈ BG := bg_2 (List.mem_of_getElem? (l := tables_1_2) (i := 99) rfl) rfl
theorem kw_173 : Cond.code yX3_read cX3_read 3 none ∈ BG := bg_2 (List.mem_of_getElem? (l := tables_1_2) (i := 100) rfl) rfl
theorem kw_174 : Cond.methodLink RX3 24 yX4_clear ∈ BG := bg_2 (List.mem_of_getElem? (l := tables_1_2) (i := 101) rfl) rfl
theorem kw_175 : Cond.instanceMethod yX4_clear ∈ BG := bg_2 (List.mem_of_getElem? (l := tables_1_2) (i := 102) rfl) rfl
theorem kw_176 : Cond.selects RX4 yX4_clear yX4_clear ∈ BG := bg_2 (List.mem_of_getElem? (l := tables_1_2) (i := 103) rfl) rfl
theorem kw_177 : Cond.code yX4_clear cX4_clear 1 none ∈ BG := bg_2 (List.mem_of_getElem? (l := tables_1_2) (i := 104) rfl) rfl
theorem kw_178 : Cond.methodLink RX3 27 yX4_size ∈ BG := bg_2 (List.mem_of_getElem? (l := tables_1_2) (i := 105) rfl) rfl
theorem kw_179 : Cond.methodLink RX3 31 yX3_isIn ∈ BG := bg_2 (List.mem_of_getElem? (l := tables_1_2) (i := 106) rfl) rfl
theorem kw_180 : Cond.static yX3_isIn ∈ BG := bg_2 (List.mem_of_getElem? (l := tables_1_2) (i := 107) rfl) rfl
theorem kw_181 : Cond.code yX3_isIn cX3_isIn 2 (some .boolean) ∈ BG := bg_2 (List.mem_of_getElem? (l := tables_1_2) (i := 108) rfl) rfl
theorem kw_182 : Cond.methodLink RX3 42 yX4_get ∈ BG := bg_2 (List.mem_of_getElem? (l := tables_1_2) (i := 109) rfl) rfl
theorem kw_183 : Cond.instanceMethod yX4_get ∈ BG := bg_2 (List.mem_of_getElem? (l := tables_1_2) (i := 110) rfl) rfl
theorem kw_184 : Cond.selects RX4 yX4_get yX4_get ∈ BG := bg_2 (List.mem_of_getElem? (l := tables_1_2) (i := 111) rfl) rfl
theorem kw_185 : Cond.code yX4_get cX4_get 4 (some .int) ∈ BG := bg_2 (List.mem_of_getElem? (l := tables_1_2) (i := 112) rfl) rfl
theorem kw_186 : Cond.methodLink RX3 35 yX3_addFromIn ∈ BG := bg_2 (List.mem_of_getElem? (l := tables_1_2) (i := 113) rfl) rfl
theorem kw_187 : Cond.instanceMethod yX3_addFromIn ∈ BG := bg_2 (List.mem_of_getElem? (l := tables_1_2) (i := 115) rfl) rfl
theorem kw_188 : Cond.selects RX3 yX3_addFromIn yX3_addFromIn ∈ BG := bg_0 (List.mem_of_getElem? (l := k2_sels lw_privs) (i := 2) rfl) rfl
theorem kw_189 : Cond.code yX3_addFromIn cX3_addFromIn 6 none ∈ BG := bg_2 (List.mem_of_getElem? (l := tables_1_2) (i := 116) rfl) rfl
theorem kw_190 : Cond.methodLink RX3 46 Lib.Math.min.name ∈ BG := bg_2 (List.mem_of_getElem? (l := tables_1_2) (i := 117) rfl) rfl
theorem kw_191 : Cond.static Lib.Math.min.name ∈ BG := bg_2 (List.mem_of_getElem? (l := tables_1_2) (i := 118) rfl) rfl
theorem kw_192 : Cond.initialized "java/lang/Math" ∈ BG := bg_1 (List.mem_of_getElem? (l := tables_1_1) (i := 14) rfl) rfl
theorem kw_193 : Cond.code Lib.Math.min.name Lib.Math.min.code 2 (some .int) ∈ BG := bg_2 (List.mem_of_getElem? (l := tables_1_2) (i := 119) rfl) rfl
theorem kw_194 : Cond.methodLink RX3 51 yX4_addSpan ∈ BG := bg_2 (List.mem_of_getElem? (l := tables_1_2) (i := 120) rfl) rfl
theorem kw_195 : Cond.methodLink RX3 39 yX3_addFromLoneOut ∈ BG := bg_2 (List.mem_of_getElem? (l := tables_1_2) (i := 121) rfl) rfl
theorem kw_196 : Cond.instanceMethod yX3_addFromLoneOut ∈ BG := bg_2 (List.mem_of_getElem? (l := tables_1_2) (i := 123) rfl) rfl
theorem kw_197 : Cond.selects RX3 yX3_addFromLoneOut yX3_addFromLoneOut ∈ BG := bg_0 (List.mem_of_getElem? (l := k2_sels lw_privs) (i := 3) rfl) rfl
theorem kw_198 : Cond.code yX3_addFromLoneOut cX3_addFromLoneOut 5 none ∈ BG := bg_2 (List.mem_of_getElem? (l := tables_1_2) (i := 124) rfl) rfl
theorem kw_199 : Cond.methodLink RX3 54 Lib.Math.max.name ∈ BG := bg_2 (List.mem_of_getElem? (l := tables_1_2) (i := 125) rfl) rfl
theorem kw_200 : Cond.static Lib.Math.max.name ∈ BG := bg_2 (List.mem_of_getElem? (l := tables_1_2) (i := 126) rfl) rfl
theorem kw_201 : Cond.code Lib.Math.max.name Lib.Math.max.code 2 (some .int) ∈ BG := bg_2 (List.mem_of_getElem? (l := tables_1_2) (i := 127) rfl) rfl
theorem kw_202 : Cond.methodLink RX5 43 yX4_clear ∈ BG := bg_2 (List.mem_of_getElem? (l := tables_1_2) (i := 128) rfl) rfl
theorem kw_203 : Cond.methodLink RX5 49 yX5_addEvents ∈ BG := bg_2 (List.mem_of_getElem? (l := tables_1_2) (i := 129) rfl) rfl
theorem kw_204 : Cond.instanceMethod yX5_addEvents ∈ BG := bg_2 (List.mem_of_getElem? (l := tables_1_2) (i := 131) rfl) rfl
theorem kw_205 : Cond.selects RX5 yX5_addEvents yX5_addEvents ∈ BG := bg_0 (List.mem_of_getElem? (l := k2_sels lw_privs) (i := 4) rfl) rfl
theorem kw_206 : Cond.code yX5_addEvents cX5_addEvents 5 none ∈ BG := bg_2 (List.mem_of_getElem? (l := tables_1_2) (i := 132) rfl) rfl
theorem kw_207 : Cond.methodLink RX5 62 yX4_size ∈ BG := bg_2 (List.mem_of_getElem? (l := tables_1_2) (i := 133) rfl) rfl
theorem kw_208 : Cond.methodLink RX5 66 yX4_get ∈ BG := bg_2 (List.mem_of_getElem? (l := tables_1_2) (i := 134) rfl) rfl
theorem kw_209 : Cond.methodLink RX5 70 yX5_addEvent ∈ BG := bg_2 (List.mem_of_getElem? (l := tables_1_2) (i := 135) rfl) rfl
theorem kw_210 : Cond.instanceMethod yX5_addEvent ∈ BG := bg_2 (List.mem_of_getElem? (l := tables_1_2) (i := 137) rfl) rfl
theorem kw_211 : Cond.selects RX5 yX5_addEvent yX5_addEvent ∈ BG := bg_0 (List.mem_of_getElem? (l := k2_sels lw_privs) (i := 5) rfl) rfl
theorem kw_212 : Cond.code yX5_addEvent cX5_addEvent 6 none ∈ BG := bg_2 (List.mem_of_getElem? (l := tables_1_2) (i := 138) rfl) rfl
theorem kw_213 : Cond.methodLink RX5 74 yX4_insert ∈ BG := bg_2 (List.mem_of_getElem? (l := tables_1_2) (i := 139) rfl) rfl
theorem kw_214 : Cond.methodLink RX5 78 yX4_set ∈ BG := bg_2 (List.mem_of_getElem? (l := tables_1_2) (i := 140) rfl) rfl
theorem kw_215 : Cond.methodLink RX5 59 yX5_goThroughEvents ∈ BG := bg_2 (List.mem_of_getElem? (l := tables_1_2) (i := 141) rfl) rfl
theorem kw_216 : Cond.instanceMethod yX5_goThroughEvents ∈ BG := bg_2 (List.mem_of_getElem? (l := tables_1_2) (i := 143) rfl) rfl
theorem kw_217 : Cond.selects RX5 yX5_goThroughEvents yX5_goThroughEvents ∈ BG := bg_0 (List.mem_of_getElem? (l := k2_sels lw_privs) (i := 6) rfl) rfl
theorem kw_218 : Cond.code yX5_goThroughEvents cX5_goThroughEvents 6 none ∈ BG := bg_2 (List.mem_of_getElem? (l := tables_1_2) (i := 144) rfl) rfl
theorem kw_219 : Cond.methodLink RX5 81 yX5_addWorked ∈ BG := bg_2 (List.mem_of_getElem? (l := tables_1_2) (i := 145) rfl) rfl
theorem kw_220 : Cond.instanceMethod yX5_addWorked ∈ BG := bg_2 (List.mem_of_getElem? (l := tables_1_2) (i := 147) rfl) rfl
theorem kw_221 : Cond.selects RX5 yX5_addWorked yX5_addWorked ∈ BG := bg_0 (List.mem_of_getElem? (l := k2_sels lw_privs) (i := 7) rfl) rfl
theorem kw_222 : Cond.code yX5_addWorked cX5_addWorked 4 none ∈ BG := bg_2 (List.mem_of_getElem? (l := tables_1_2) (i := 148) rfl) rfl
theorem kw_223 : Cond.methodLink RX5 84 yX4_addSpan ∈ BG := bg_2 (List.mem_of_getElem? (l := tables_1_2) (i := 149) rfl) rfl
theorem kw_224 : Cond.methodLink RX1 37 yX1_takeOffAutomaticBreaks ∈ BG := bg_2 (List.mem_of_getElem? (l := tables_1_2) (i := 150) rfl) rfl
theorem kw_225 : Cond.instanceMethod yX1_takeOffAutomaticBreaks ∈ BG := bg_2 (List.mem_of_getElem? (l := tables_1_2) (i := 152) rfl) rfl
theorem kw_226 : Cond.selects RX1 yX1_takeOffAutomaticBreaks yX1_takeOffAutomaticBreaks ∈ BG := bg_0 (List.mem_of_getElem? (l := k2_sels lw_privs) (i := 8) rfl) rfl
theorem kw_227 : Cond.code yX1_takeOffAutomaticBreaks cX1_takeOffAutomaticBreaks 5 none ∈ BG := bg_2 (List.mem_of_getElem? (l := tables_1_2) (i := 153) rfl) rfl
theorem kw_228 : Cond.methodLink RX1 64 Lib.Math.min.name ∈ BG := bg_2 (List.mem_of_getElem? (l := tables_1_2) (i := 157) rfl) rfl
theorem kw_229 : Cond.methodLink RX1 41 yX4_clear ∈ BG := bg_2 (List.mem_of_getElem? (l := tables_1_2) (i := 154) rfl) rfl
theorem kw_230 : Cond.methodLink RX1 56 yX4_size ∈ BG := bg_2 (List.mem_of_getElem? (l := tables_1_2) (i := 155) rfl) rfl
theorem kw_231 : Cond.methodLink RX1 60 yX4_get ∈ BG := bg_2 (List.mem_of_getElem? (l := tables_1_2) (i := 156) rfl) rfl
theorem kw_232 : Cond.methodLink RX1 69 yX4_addSpan ∈ BG := bg_2 (List.mem_of_getElem? (l := tables_1_2) (i := 158) rfl) rfl
theorem kw_233 : Cond.methodLink RX1 44 yX1_isFull ∈ BG := bg_2 (List.mem_of_getElem? (l := tables_1_2) (i := 159) rfl) rfl
theorem kw_234 : Cond.instanceMethod yX1_isFull ∈ BG := bg_2 (List.mem_of_getElem? (l := tables_1_2) (i := 161) rfl) rfl
theorem kw_235 : Cond.selects RX1 yX1_isFull yX1_isFull ∈ BG := bg_0 (List.mem_of_getElem? (l := k2_sels lw_privs) (i := 9) rfl) rfl
theorem kw_236 : Cond.code yX1_isFull cX1_isFull 3 (some .boolean) ∈ BG := bg_2 (List.mem_of_getElem? (l := tables_1_2) (i := 162) rfl) rfl
theorem kw_237 : Cond.static yX6_minutesOnDay ∈ BG := bg_2 (List.mem_of_getElem? (l := tables_1_2) (i := 164) rfl) rfl
theorem kw_238 : Cond.code yX6_minutesOnDay cX6_minutesOnDay 6 (some .int) ∈ BG := bg_2 (List.mem_of_getElem? (l := tables_1_2) (i := 165) rfl) rfl
theorem kw_239 : Cond.methodLink RX6 213 Lib.Math.max.name ∈ BG := bg_2 (List.mem_of_getElem? (l := tables_1_2) (i := 167) rfl) rfl
theorem kw_240 : Cond.methodLink RX6 218 Lib.Math.min.name ∈ BG := bg_2 (List.mem_of_getElem? (l := tables_1_2) (i := 168) rfl) rfl
theorem kw_241 : Cond.methodLink RX6 102 yX4_get ∈ BG := bg_2 (List.mem_of_getElem? (l := tables_1_2) (i := 166) rfl) rfl
theorem kw_242 : Cond.methodLink RX1 48 yX1_addPartsOfDay ∈ BG := bg_2 (List.mem_of_getElem? (l := tables_1_2) (i := 169) rfl) rfl
theorem kw_243 : Cond.instanceMethod yX1_addPartsOfDay ∈ BG := bg_2 (List.mem_of_getElem? (l := tables_1_2) (i := 171) rfl) rfl
theorem kw_244 : Cond.selects RX1 yX1_addPartsOfDay yX1_addPartsOfDay ∈ BG := bg_0 (List.mem_of_getElem? (l := k2_sels lw_privs) (i := 10) rfl) rfl
theorem kw_245 : Cond.code yX1_addPartsOfDay cX1_addPartsOfDay 8 none ∈ BG := bg_2 (List.mem_of_getElem? (l := tables_1_2) (i := 172) rfl) rfl
theorem kw_246 : Cond.methodLink RX1 72 Lib.Math.max.name ∈ BG := bg_2 (List.mem_of_getElem? (l := tables_1_2) (i := 173) rfl) rfl
theorem kw_247 : Cond.methodLink RX1 75 yX1_addParts ∈ BG := bg_2 (List.mem_of_getElem? (l := tables_1_2) (i := 174) rfl) rfl
theorem kw_248 : Cond.instanceMethod yX1_addParts ∈ BG := bg_2 (List.mem_of_getElem? (l := tables_1_2) (i := 176) rfl) rfl
theorem kw_249 : Cond.selects RX1 yX1_addParts yX1_addParts ∈ BG := bg_0 (List.mem_of_getElem? (l := k2_sels lw_privs) (i := 11) rfl) rfl
theorem kw_250 : Cond.code yX1_addParts cX1_addParts 12 none ∈ BG := bg_2 (List.mem_of_getElem? (l := tables_1_2) (i := 177) rfl) rfl
theorem kw_251 : Cond.methodLink RX1 79 yX1_untilLimit ∈ BG := bg_2 (List.mem_of_getElem? (l := tables_1_2) (i := 178) rfl) rfl
theorem kw_252 : Cond.static yX1_untilLimit ∈ BG := bg_2 (List.mem_of_getElem? (l := tables_1_2) (i := 179) rfl) rfl
theorem kw_253 : Cond.code yX1_untilLimit cX1_untilLimit 3 (some .int) ∈ BG := bg_2 (List.mem_of_getElem? (l := tables_1_2) (i := 180) rfl) rfl
theorem kw_254 : Cond.methodLink RX1 82 yX1_categoryFor ∈ BG := bg_2 (List.mem_of_getElem? (l := tables_1_2) (i := 181) rfl) rfl
theorem kw_255 : Cond.static yX1_categoryFor ∈ BG := bg_2 (List.mem_of_getElem? (l := tables_1_2) (i := 182) rfl) rfl
theorem kw_256 : Cond.code yX1_categoryFor cX1_categoryFor 3 (some .int) ∈ BG := bg_2 (List.mem_of_getElem? (l := tables_1_2) (i := 183) rfl) rfl
theorem kw_257 : Cond.methodLink RX1 86 yX4_set ∈ BG := bg_2 (List.mem_of_getElem? (l := tables_1_2) (i := 184) rfl) rfl
theorem kw_258 : Cond.methodLink RX6 189 yX1_minutesOf ∈ BG := bg_3 (List.mem_of_getElem? (l := tables_1_3) (i := 13) rfl) rfl
theorem kw_259 : Cond.instanceMethod yX1_minutesOf ∈ BG := bg_2 (List.mem_of_getElem? (l := tables_1_2) (i := 194) rfl) rfl
theorem kw_260 : Cond.selects RX1 yX1_minutesOf yX1_minutesOf ∈ BG := bg_2 (List.mem_of_getElem? (l := tables_1_2) (i := 195) rfl) rfl
theorem kw_261 : Cond.code yX1_minutesOf cX1_minutesOf 5 (some .int) ∈ BG := bg_2 (List.mem_of_getElem? (l := tables_1_2) (i := 196) rfl) rfl
theorem kw_262 : Cond.methodLink RL 14 yX6_quarters ∈ BG := bg_3 (List.mem_of_getElem? (l := tables_1_3) (i := 14) rfl) rfl
theorem kw_263 : Cond.instanceMethod yX6_quarters ∈ BG := bg_3 (List.mem_of_getElem? (l := tables_1_3) (i := 15) rfl) rfl
theorem kw_264 : Cond.selects RX6 yX6_quarters yX6_quarters ∈ BG := bg_3 (List.mem_of_getElem? (l := tables_1_3) (i := 16) rfl) rfl
theorem kw_265 : Cond.code yX6_quarters cX6_quarters 5 (some .int) ∈ BG := bg_3 (List.mem_of_getElem? (l := tables_1_3) (i := 17) rfl) rfl
theorem kw_266 : Cond.methodLink RX6 192 yX1_quartersOf ∈ BG := bg_3 (List.mem_of_getElem? (l := tables_1_3) (i := 18) rfl) rfl
theorem kw_267 : Cond.instanceMethod yX1_quartersOf ∈ BG := bg_3 (List.mem_of_getElem? (l := tables_1_3) (i := 19) rfl) rfl
theorem kw_268 : Cond.selects RX1 yX1_quartersOf yX1_quartersOf ∈ BG := bg_3 (List.mem_of_getElem? (l := tables_1_3) (i := 20) rfl) rfl
theorem kw_269 : Cond.code yX1_quartersOf cX1_quartersOf 9 (some .int) ∈ BG := bg_3 (List.mem_of_getElem? (l := tables_1_3) (i := 21) rfl) rfl
theorem kw_270 : Cond.methodLink RX1 90 yX1_minutesOf ∈ BG := bg_2 (List.mem_of_getElem? (l := tables_1_2) (i := 193) rfl) rfl
theorem kw_271 : Cond.methodLink RX1 93 yX1_quartersOfWeek ∈ BG := bg_2 (List.mem_of_getElem? (l := tables_1_2) (i := 189) rfl) rfl
theorem kw_272 : Cond.instanceMethod yX1_quartersOfWeek ∈ BG := bg_2 (List.mem_of_getElem? (l := tables_1_2) (i := 191) rfl) rfl
theorem kw_273 : Cond.selects RX1 yX1_quartersOfWeek yX1_quartersOfWeek ∈ BG := bg_0 (List.mem_of_getElem? (l := k2_sels lw_privs) (i := 12) rfl) rfl
theorem kw_274 : Cond.code yX1_quartersOfWeek cX1_quartersOfWeek 4 (some .int) ∈ BG := bg_2 (List.mem_of_getElem? (l := tables_1_2) (i := 192) rfl) rfl
theorem kw_275 : Cond.methodLink RL 23 yL_weekOf ∈ BG := bg_3 (List.mem_of_getElem? (l := tables_1_3) (i := 22) rfl) rfl
theorem kw_276 : Cond.static yL_weekOf ∈ BG := bg_3 (List.mem_of_getElem? (l := tables_1_3) (i := 23) rfl) rfl
theorem kw_277 : Cond.code yL_weekOf cL_weekOf 10 (some .int) ∈ BG := bg_3 (List.mem_of_getElem? (l := tables_1_3) (i := 24) rfl) rfl
theorem kw_278 : Cond.methodLink RL 27 yX6_premiumPay ∈ BG := bg_3 (List.mem_of_getElem? (l := tables_1_3) (i := 25) rfl) rfl
theorem kw_279 : Cond.instanceMethod yX6_premiumPay ∈ BG := bg_3 (List.mem_of_getElem? (l := tables_1_3) (i := 26) rfl) rfl
theorem kw_280 : Cond.selects RX6 yX6_premiumPay yX6_premiumPay ∈ BG := bg_3 (List.mem_of_getElem? (l := tables_1_3) (i := 27) rfl) rfl
theorem kw_281 : Cond.code yX6_premiumPay cX6_premiumPay 2 (some .int) ∈ BG := bg_3 (List.mem_of_getElem? (l := tables_1_3) (i := 28) rfl) rfl
theorem kw_282 : Cond.methodLink RX6 142 yX2_payFor ∈ BG := bg_2 (List.mem_of_getElem? (l := tables_1_2) (i := 197) rfl) rfl
theorem kw_283 : Cond.instanceMethod yX2_payFor ∈ BG := bg_2 (List.mem_of_getElem? (l := tables_1_2) (i := 198) rfl) rfl
theorem kw_284 : Cond.selects RX2 yX2_payFor yX2_payFor ∈ BG := bg_2 (List.mem_of_getElem? (l := tables_1_2) (i := 199) rfl) rfl
theorem kw_285 : Cond.code yX2_payFor cX2_payFor 4 (some .int) ∈ BG := bg_2 (List.mem_of_getElem? (l := tables_1_2) (i := 200) rfl) rfl
theorem kw_286 : Cond.methodLink RX2 32 yX4_get ∈ BG := bg_2 (List.mem_of_getElem? (l := tables_1_2) (i := 201) rfl) rfl
theorem kw_287 : Cond.methodLink RX2 36 yX2_sumOver ∈ BG := bg_2 (List.mem_of_getElem? (l := tables_1_2) (i := 202) rfl) rfl
theorem kw_288 : Cond.instanceMethod yX2_sumOver ∈ BG := bg_2 (List.mem_of_getElem? (l := tables_1_2) (i := 204) rfl) rfl
theorem kw_289 : Cond.selects RX2 yX2_sumOver yX2_sumOver ∈ BG := bg_0 (List.mem_of_getElem? (l := k2_sels lw_privs) (i := 13) rfl) rfl
theorem kw_290 : Cond.code yX2_sumOver cX2_sumOver 8 (some .int) ∈ BG := bg_2 (List.mem_of_getElem? (l := tables_1_2) (i := 205) rfl) rfl
theorem kw_291 : Cond.methodLink RX2 43 Lib.Math.min.name ∈ BG := bg_2 (List.mem_of_getElem? (l := tables_1_2) (i := 210) rfl) rfl
theorem kw_292 : Cond.methodLink RX2 39 yX2_nextChange ∈ BG := bg_2 (List.mem_of_getElem? (l := tables_1_2) (i := 206) rfl) rfl
theorem kw_293 : Cond.instanceMethod yX2_nextChange ∈ BG := bg_2 (List.mem_of_getElem? (l := tables_1_2) (i := 208) rfl) rfl
theorem kw_294 : Cond.selects RX2 yX2_nextChange yX2_nextChange ∈ BG := bg_0 (List.mem_of_getElem? (l := k2_sels lw_privs) (i := 14) rfl) rfl
theorem kw_295 : Cond.code yX2_nextChange cX2_nextChange 6 (some .int) ∈ BG := bg_2 (List.mem_of_getElem? (l := tables_1_2) (i := 209) rfl) rfl
theorem kw_296 : Cond.methodLink RX2 48 yX2_greatestRate ∈ BG := bg_2 (List.mem_of_getElem? (l := tables_1_2) (i := 211) rfl) rfl
theorem kw_297 : Cond.instanceMethod yX2_greatestRate ∈ BG := bg_2 (List.mem_of_getElem? (l := tables_1_2) (i := 213) rfl) rfl
theorem kw_298 : Cond.selects RX2 yX2_greatestRate yX2_greatestRate ∈ BG := bg_0 (List.mem_of_getElem? (l := k2_sels lw_privs) (i := 15) rfl) rfl
theorem kw_299 : Cond.code yX2_greatestRate cX2_greatestRate 6 (some .int) ∈ BG := bg_2 (List.mem_of_getElem? (l := tables_1_2) (i := 214) rfl) rfl
theorem kw_300 : Cond.methodLink RX2 55 Lib.Math.max.name ∈ BG := bg_2 (List.mem_of_getElem? (l := tables_1_2) (i := 218) rfl) rfl
theorem kw_301 : Cond.methodLink RX2 51 yX2_isBetween ∈ BG := bg_2 (List.mem_of_getElem? (l := tables_1_2) (i := 215) rfl) rfl
theorem kw_302 : Cond.static yX2_isBetween ∈ BG := bg_2 (List.mem_of_getElem? (l := tables_1_2) (i := 216) rfl) rfl
theorem kw_303 : Cond.code yX2_isBetween cX2_isBetween 3 (some .boolean) ∈ BG := bg_2 (List.mem_of_getElem? (l := tables_1_2) (i := 217) rfl) rfl
theorem kw_304 : Cond.methodLink RL 31 yX6_pay ∈ BG := bg_2 (List.mem_of_getElem? (l := tables_1_2) (i := 232) rfl) rfl
theorem kw_305 : Cond.instanceMethod yX6_pay ∈ BG := bg_2 (List.mem_of_getElem? (l := tables_1_2) (i := 233) rfl) rfl
theorem kw_306 : Cond.selects RX6 yX6_pay yX6_pay ∈ BG := bg_2 (List.mem_of_getElem? (l := tables_1_2) (i := 234) rfl) rfl
theorem kw_307 : Cond.code yX6_pay cX6_pay 3 (some .int) ∈ BG := bg_2 (List.mem_of_getElem? (l := tables_1_2) (i := 235) rfl) rfl
theorem kw_308 : Cond.methodLink RX6 135 yX1_basicPay ∈ BG := bg_2 (List.mem_of_getElem? (l := tables_1_2) (i := 185) rfl) rfl
theorem kw_309 : Cond.instanceMethod yX1_basicPay ∈ BG := bg_2 (List.mem_of_getElem? (l := tables_1_2) (i := 186) rfl) rfl
theorem kw_310 : Cond.selects RX1 yX1_basicPay yX1_basicPay ∈ BG := bg_2 (List.mem_of_getElem? (l := tables_1_2) (i := 187) rfl) rfl
theorem kw_311 : Cond.code yX1_basicPay cX1_basicPay 3 (some .int) ∈ BG := bg_2 (List.mem_of_getElem? (l := tables_1_2) (i := 188) rfl) rfl
theorem kw_312 : Cond.methodLink RL 34 yX6_workedOn ∈ BG := bg_3 (List.mem_of_getElem? (l := tables_1_3) (i := 29) rfl) rfl
theorem kw_313 : Cond.instanceMethod yX6_workedOn ∈ BG := bg_3 (List.mem_of_getElem? (l := tables_1_3) (i := 30) rfl) rfl
theorem kw_314 : Cond.selects RX6 yX6_workedOn yX6_workedOn ∈ BG := bg_3 (List.mem_of_getElem? (l := tables_1_3) (i := 31) rfl) rfl
theorem kw_315 : Cond.code yX6_workedOn cX6_workedOn 4 (some .int) ∈ BG := bg_3 (List.mem_of_getElem? (l := tables_1_3) (i := 32) rfl) rfl
theorem kw_316 : Cond.methodLink RX6 173 yX5_read ∈ BG := bg_3 (List.mem_of_getElem? (l := tables_1_3) (i := 33) rfl) rfl
theorem kw_317 : Cond.methodLink RX6 180 yX6_minutesOnDay ∈ BG := bg_3 (List.mem_of_getElem? (l := tables_1_3) (i := 34) rfl) rfl
theorem kw_318 : Cond.methodLink RL 78 yX6_closeWeek ∈ BG := bg_2 (List.mem_of_getElem? (l := tables_1_2) (i := 84) rfl) rfl
theorem kw_319 : Cond.instanceMethod yX6_closeWeek ∈ BG := bg_2 (List.mem_of_getElem? (l := tables_1_2) (i := 85) rfl) rfl
theorem kw_320 : Cond.selects RX6 yX6_closeWeek yX6_closeWeek ∈ BG := bg_2 (List.mem_of_getElem? (l := tables_1_2) (i := 86) rfl) rfl
theorem kw_321 : Cond.code yX6_closeWeek cX6_closeWeek 4 (some .int) ∈ BG := bg_2 (List.mem_of_getElem? (l := tables_1_2) (i := 87) rfl) rfl
theorem kw_322 : Cond.methodLink RX6 146 yX0_beginNextWeek ∈ BG := bg_2 (List.mem_of_getElem? (l := tables_1_2) (i := 219) rfl) rfl
theorem kw_323 : Cond.instanceMethod yX0_beginNextWeek ∈ BG := bg_2 (List.mem_of_getElem? (l := tables_1_2) (i := 220) rfl) rfl
theorem kw_324 : Cond.selects RX0 yX0_beginNextWeek yX0_beginNextWeek ∈ BG := bg_2 (List.mem_of_getElem? (l := tables_1_2) (i := 221) rfl) rfl
theorem kw_325 : Cond.code yX0_beginNextWeek cX0_beginNextWeek 2 none ∈ BG := bg_2 (List.mem_of_getElem? (l := tables_1_2) (i := 222) rfl) rfl
theorem kw_326 : Cond.methodLink RX0 37 yX4_clear ∈ BG := bg_2 (List.mem_of_getElem? (l := tables_1_2) (i := 223) rfl) rfl
theorem kw_327 : Cond.methodLink RL 81 yX6_earned ∈ BG := bg_2 (List.mem_of_getElem? (l := tables_1_2) (i := 228) rfl) rfl
theorem kw_328 : Cond.instanceMethod yX6_earned ∈ BG := bg_2 (List.mem_of_getElem? (l := tables_1_2) (i := 229) rfl) rfl
theorem kw_329 : Cond.selects RX6 yX6_earned yX6_earned ∈ BG := bg_2 (List.mem_of_getElem? (l := tables_1_2) (i := 230) rfl) rfl
theorem kw_330 : Cond.code yX6_earned cX6_earned 2 (some .long) ∈ BG := bg_2 (List.mem_of_getElem? (l := tables_1_2) (i := 231) rfl) rfl
theorem kw_331 : Cond.methodLink RL 85 yX6_closedWeeks ∈ BG := bg_2 (List.mem_of_getElem? (l := tables_1_2) (i := 224) rfl) rfl
theorem kw_332 : Cond.instanceMethod yX6_closedWeeks ∈ BG := bg_2 (List.mem_of_getElem? (l := tables_1_2) (i := 225) rfl) rfl
theorem kw_333 : Cond.selects RX6 yX6_closedWeeks yX6_closedWeeks ∈ BG := bg_2 (List.mem_of_getElem? (l := tables_1_2) (i := 226) rfl) rfl
theorem kw_334 : Cond.code yX6_closedWeeks cX6_closedWeeks 2 (some .int) ∈ BG := bg_2 (List.mem_of_getElem? (l := tables_1_2) (i := 227) rfl) rfl
theorem kw_335 : Cond.methodLink RL 88 yL_isEmpty ∈ BG := bg_3 (List.mem_of_getElem? (l := tables_1_3) (i := 35) rfl) rfl
theorem kw_336 : Cond.static yL_isEmpty ∈ BG := bg_3 (List.mem_of_getElem? (l := tables_1_3) (i := 36) rfl) rfl
theorem kw_337 : Cond.code yL_isEmpty cL_isEmpty 2 (some .boolean) ∈ BG := bg_3 (List.mem_of_getElem? (l := tables_1_3) (i := 37) rfl) rfl
theorem kw_338 : Cond.methodLink RL 38 yX6_shifts ∈ BG := bg_3 (List.mem_of_getElem? (l := tables_1_3) (i := 38) rfl) rfl
theorem kw_339 : Cond.instanceMethod yX6_shifts ∈ BG := bg_3 (List.mem_of_getElem? (l := tables_1_3) (i := 39) rfl) rfl
theorem kw_340 : Cond.selects RX6 yX6_shifts yX6_shifts ∈ BG := bg_3 (List.mem_of_getElem? (l := tables_1_3) (i := 40) rfl) rfl
theorem kw_341 : Cond.code yX6_shifts cX6_shifts 2 (some .int) ∈ BG := bg_3 (List.mem_of_getElem? (l := tables_1_3) (i := 41) rfl) rfl
theorem kw_342 : Cond.methodLink RX6 156 yX3_read ∈ BG := bg_3 (List.mem_of_getElem? (l := tables_1_3) (i := 42) rfl) rfl
theorem kw_343 : Cond.methodLink RL 41 yX6_stretches ∈ BG := bg_3 (List.mem_of_getElem? (l := tables_1_3) (i := 43) rfl) rfl
theorem kw_344 : Cond.instanceMethod yX6_stretches ∈ BG := bg_3 (List.mem_of_getElem? (l := tables_1_3) (i := 44) rfl) rfl
theorem kw_345 : Cond.selects RX6 yX6_stretches yX6_stretches ∈ BG := bg_3 (List.mem_of_getElem? (l := tables_1_3) (i := 45) rfl) rfl
theorem kw_346 : Cond.code yX6_stretches cX6_stretches 2 (some .int) ∈ BG := bg_3 (List.mem_of_getElem? (l := tables_1_3) (i := 46) rfl) rfl
theorem kw_347 : Cond.methodLink RL 44 yX6_overlap ∈ BG := bg_3 (List.mem_of_getElem? (l := tables_1_3) (i := 47) rfl) rfl
theorem kw_348 : Cond.instanceMethod yX6_overlap ∈ BG := bg_3 (List.mem_of_getElem? (l := tables_1_3) (i := 48) rfl) rfl
theorem kw_349 : Cond.selects RX6 yX6_overlap yX6_overlap ∈ BG := bg_3 (List.mem_of_getElem? (l := tables_1_3) (i := 49) rfl) rfl
theorem kw_350 : Cond.code yX6_overlap cX6_overlap 2 (some .int) ∈ BG := bg_3 (List.mem_of_getElem? (l := tables_1_3) (i := 50) rfl) rfl
theorem kw_351 : Cond.methodLink RL 47 yX6_longestStretch ∈ BG := bg_3 (List.mem_of_getElem? (l := tables_1_3) (i := 51) rfl) rfl
theorem kw_352 : Cond.instanceMethod yX6_longestStretch ∈ BG := bg_3 (List.mem_of_getElem? (l := tables_1_3) (i := 52) rfl) rfl
theorem kw_353 : Cond.selects RX6 yX6_longestStretch yX6_longestStretch ∈ BG := bg_3 (List.mem_of_getElem? (l := tables_1_3) (i := 53) rfl) rfl
theorem kw_354 : Cond.code yX6_longestStretch cX6_longestStretch 2 (some .int) ∈ BG := bg_3 (List.mem_of_getElem? (l := tables_1_3) (i := 54) rfl) rfl
theorem kw_355 : Cond.methodLink RX6 183 yX6_longest ∈ BG := bg_3 (List.mem_of_getElem? (l := tables_1_3) (i := 55) rfl) rfl
theorem kw_356 : Cond.static yX6_longest ∈ BG := bg_3 (List.mem_of_getElem? (l := tables_1_3) (i := 56) rfl) rfl
theorem kw_357 : Cond.code yX6_longest cX6_longest 3 (some .int) ∈ BG := bg_3 (List.mem_of_getElem? (l := tables_1_3) (i := 57) rfl) rfl
theorem kw_358 : Cond.methodLink RL 50 yX6_repairedShifts ∈ BG := bg_3 (List.mem_of_getElem? (l := tables_1_3) (i := 58) rfl) rfl
theorem kw_359 : Cond.instanceMethod yX6_repairedShifts ∈ BG := bg_3 (List.mem_of_getElem? (l := tables_1_3) (i := 59) rfl) rfl
theorem kw_360 : Cond.selects RX6 yX6_repairedShifts yX6_repairedShifts ∈ BG := bg_3 (List.mem_of_getElem? (l := tables_1_3) (i := 60) rfl) rfl
theorem kw_361 : Cond.code yX6_repairedShifts cX6_repairedShifts 2 (some .int) ∈ BG := bg_3 (List.mem_of_getElem? (l := tables_1_3) (i := 61) rfl) rfl
theorem in_X0 : ∀ w ∈ u_ws RX0 TX0 6, w ∈ BG := by
  show ∀ w ∈ [Cond.lays "Timesheets$Employee" "Timesheets$Employee" "wage" "I", Cond.lays "Timesheets$Employee" "Timesheets$Employee" "weeksClosed" "I", Cond.lays "Timesheets$Employee" "Timesheets$Employee" "earnings" "J", Cond.laysFinal "Timesheets$Employee" "Timesheets$Employee" "punches" "LTimesheets$Table;", Cond.laysFinal "Timesheets$Employee" "Timesheets$Employee" "entries" "LTimesheets$Table;", Cond.laysFinal "Timesheets$Employee" "Timesheets$Employee" "breaks" "LTimesheets$Table;"], w ∈ BG
  exact List.forall_mem_cons.mpr ⟨bg_2 (List.mem_of_getElem? (l := tables_1_2) (i := 9) rfl) rfl, List.forall_mem_cons.mpr ⟨bg_2 (List.mem_of_getElem? (l := tables_1_2) (i := 11) rfl) rfl, List.forall_mem_cons.mpr ⟨bg_2 (List.mem_of_getElem? (l := tables_1_2) (i := 13) rfl) rfl, List.forall_mem_cons.mpr ⟨bg_2 (List.mem_of_getElem? (l := tables_1_2) (i := 15) rfl) rfl, List.forall_mem_cons.mpr ⟨bg_2 (List.mem_of_getElem? (l := tables_1_2) (i := 17) rfl) rfl, List.forall_mem_cons.mpr ⟨bg_2 (List.mem_of_getElem? (l := tables_1_2) (i := 19) rfl) rfl, (fun _ h => absurd h List.not_mem_nil)⟩⟩⟩⟩⟩⟩
theorem in_X1 : ∀ w ∈ u_ws RX1 TX1 3, w ∈ BG := by
  show ∀ w ∈ [Cond.laysFinal "Timesheets$Payroll" "Timesheets$Payroll" "timeline" "LTimesheets$Timeline;", Cond.laysFinal "Timesheets$Payroll" "Timesheets$Payroll" "paid" "LTimesheets$Table;", Cond.laysFinal "Timesheets$Payroll" "Timesheets$Payroll" "parts" "LTimesheets$Table;"], w ∈ BG
  exact List.forall_mem_cons.mpr ⟨bg_1 (List.mem_of_getElem? (l := tables_1_1) (i := 109) rfl) rfl, List.forall_mem_cons.mpr ⟨bg_1 (List.mem_of_getElem? (l := tables_1_1) (i := 111) rfl) rfl, List.forall_mem_cons.mpr ⟨bg_1 (List.mem_of_getElem? (l := tables_1_1) (i := 113) rfl) rfl, (fun _ h => absurd h List.not_mem_nil)⟩⟩⟩
theorem in_X2 : ∀ w ∈ u_ws RX2 TX2 1, w ∈ BG := by
  show ∀ w ∈ [Cond.laysFinal "Timesheets$Premiums" "Timesheets$Premiums" "rows" "LTimesheets$Table;"], w ∈ BG
  exact List.forall_mem_cons.mpr ⟨bg_1 (List.mem_of_getElem? (l := tables_1_1) (i := 50) rfl) rfl, (fun _ h => absurd h List.not_mem_nil)⟩
theorem in_X3 : ∀ w ∈ u_ws RX3 TX3 2, w ∈ BG := by
  show ∀ w ∈ [Cond.laysFinal "Timesheets$Shifts" "Timesheets$Shifts" "spans" "LTimesheets$Table;", Cond.lays "Timesheets$Shifts" "Timesheets$Shifts" "repaired" "I"], w ∈ BG
  exact List.forall_mem_cons.mpr ⟨bg_1 (List.mem_of_getElem? (l := tables_1_1) (i := 78) rfl) rfl, List.forall_mem_cons.mpr ⟨bg_1 (List.mem_of_getElem? (l := tables_1_1) (i := 80) rfl) rfl, (fun _ h => absurd h List.not_mem_nil)⟩⟩
theorem in_X4 : ∀ w ∈ u_ws RX4 TX4 3, w ∈ BG := by
  show ∀ w ∈ [Cond.laysFinal "Timesheets$Table" "Timesheets$Table" "width" "I", Cond.laysFinal "Timesheets$Table" "Timesheets$Table" "cells" "[I", Cond.lays "Timesheets$Table" "Timesheets$Table" "rows" "I"], w ∈ BG
  exact List.forall_mem_cons.mpr ⟨bg_1 (List.mem_of_getElem? (l := tables_1_1) (i := 40) rfl) rfl, List.forall_mem_cons.mpr ⟨bg_1 (List.mem_of_getElem? (l := tables_1_1) (i := 42) rfl) rfl, List.forall_mem_cons.mpr ⟨bg_1 (List.mem_of_getElem? (l := tables_1_1) (i := 44) rfl) rfl, (fun _ h => absurd h List.not_mem_nil)⟩⟩⟩
theorem in_X5 : ∀ w ∈ u_ws RX5 TX5 4, w ∈ BG := by
  show ∀ w ∈ [Cond.laysFinal "Timesheets$Timeline" "Timesheets$Timeline" "shiftList" "LTimesheets$Shifts;", Cond.laysFinal "Timesheets$Timeline" "Timesheets$Timeline" "events" "LTimesheets$Table;", Cond.laysFinal "Timesheets$Timeline" "Timesheets$Timeline" "stretchList" "LTimesheets$Table;", Cond.lays "Timesheets$Timeline" "Timesheets$Timeline" "coveredTwice" "I"], w ∈ BG
  exact List.forall_mem_cons.mpr ⟨bg_1 (List.mem_of_getElem? (l := tables_1_1) (i := 93) rfl) rfl, List.forall_mem_cons.mpr ⟨bg_1 (List.mem_of_getElem? (l := tables_1_1) (i := 95) rfl) rfl, List.forall_mem_cons.mpr ⟨bg_1 (List.mem_of_getElem? (l := tables_1_1) (i := 97) rfl) rfl, List.forall_mem_cons.mpr ⟨bg_1 (List.mem_of_getElem? (l := tables_1_1) (i := 99) rfl) rfl, (fun _ h => absurd h List.not_mem_nil)⟩⟩⟩⟩
theorem in_X6 : ∀ w ∈ u_ws RX6 TX6 6, w ∈ BG := by
  show ∀ w ∈ [Cond.laysFinal "Timesheets" "Timesheets" "staff" "[LTimesheets$Employee;", Cond.lays "Timesheets" "Timesheets" "hired" "I", Cond.laysFinal "Timesheets" "Timesheets" "premiums" "LTimesheets$Premiums;", Cond.laysFinal "Timesheets" "Timesheets" "payroll" "LTimesheets$Payroll;", Cond.laysFinal "Timesheets" "Timesheets" "timeline" "LTimesheets$Timeline;", Cond.laysFinal "Timesheets" "Timesheets" "shiftList" "LTimesheets$Shifts;"], w ∈ BG
  exact List.forall_mem_cons.mpr ⟨bg_1 (List.mem_of_getElem? (l := tables_1_1) (i := 122) rfl) rfl, List.forall_mem_cons.mpr ⟨bg_1 (List.mem_of_getElem? (l := tables_1_1) (i := 124) rfl) rfl, List.forall_mem_cons.mpr ⟨bg_1 (List.mem_of_getElem? (l := tables_1_1) (i := 126) rfl) rfl, List.forall_mem_cons.mpr ⟨bg_1 (List.mem_of_getElem? (l := tables_1_1) (i := 128) rfl) rfl, List.forall_mem_cons.mpr ⟨bg_1 (List.mem_of_getElem? (l := tables_1_1) (i := 130) rfl) rfl, List.forall_mem_cons.mpr ⟨bg_1 (List.mem_of_getElem? (l := tables_1_1) (i := 132) rfl) rfl, (fun _ h => absurd h List.not_mem_nil)⟩⟩⟩⟩⟩⟩
