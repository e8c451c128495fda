/-! links, by name -/
theorem tb_in_1 {w : Cond} (h : w ∈ tables_1_1) : w ∈ lw_tbl := List.mem_append_right _ (List.mem_append_left _ h)
theorem tb_in_2 {w : Cond} (h : w ∈ tables_1_2) : w ∈ lw_tbl := List.mem_append_right _ (List.mem_append_right _ (List.mem_append_left _ h))
theorem tb_in_3 {w : Cond} (h : w ∈ tables_1_3) : w ∈ lw_tbl := List.mem_append_right _ (List.mem_append_right _ (List.mem_append_right _ h))
theorem fn_X1_34 : Cond.fieldLinkNest RX1 34 "Timesheets$Timeline" "stretchList" "LTimesheets$Table;" "Timesheets" ∈ lw_tbl := tb_in_1 (List.mem_of_getElem? (l := tables_1_1) (i := 89) rfl)
theorem fn_X5_34 : Cond.fieldLinkNest RX5 34 "Timesheets$Employee" "punches" "LTimesheets$Table;" "Timesheets" ∈ lw_tbl := tb_in_2 (List.mem_of_getElem? (l := tables_1_2) (i := 1) rfl)
theorem fn_X5_46 : Cond.fieldLinkNest RX5 46 "Timesheets$Shifts" "spans" "LTimesheets$Table;" "Timesheets" ∈ lw_tbl := tb_in_1 (List.mem_of_getElem? (l := tables_1_1) (i := 74) rfl)
theorem fn_X5_53 : Cond.fieldLinkNest RX5 53 "Timesheets$Employee" "entries" "LTimesheets$Table;" "Timesheets" ∈ lw_tbl := tb_in_2 (List.mem_of_getElem? (l := tables_1_2) (i := 4) rfl)
theorem fn_X5_56 : Cond.fieldLinkNest RX5 56 "Timesheets$Employee" "breaks" "LTimesheets$Table;" "Timesheets" ∈ lw_tbl := tb_in_2 (List.mem_of_getElem? (l := tables_1_2) (i := 7) rfl)
theorem fn_X6_33 : Cond.fieldLinkNest RX6 33 "Timesheets$Payroll" "timeline" "LTimesheets$Timeline;" "Timesheets" ∈ lw_tbl := tb_in_1 (List.mem_of_getElem? (l := tables_1_1) (i := 105) rfl)
theorem fn_X6_38 : Cond.fieldLinkNest RX6 38 "Timesheets$Timeline" "shiftList" "LTimesheets$Shifts;" "Timesheets" ∈ lw_tbl := tb_in_1 (List.mem_of_getElem? (l := tables_1_1) (i := 86) rfl)
theorem fn_X6_64 : Cond.fieldLinkNest RX6 64 "Timesheets$Employee" "wage" "I" "Timesheets" ∈ lw_tbl := tb_in_1 (List.mem_of_getElem? (l := tables_1_1) (i := 235) rfl)
theorem fn_X6_67 : Cond.fieldLinkNest RX6 67 "Timesheets$Employee" "punches" "LTimesheets$Table;" "Timesheets" ∈ lw_tbl := tb_in_2 (List.mem_of_getElem? (l := tables_1_2) (i := 2) rfl)
theorem fn_X6_109 : Cond.fieldLinkNest RX6 109 "Timesheets$Employee" "entries" "LTimesheets$Table;" "Timesheets" ∈ lw_tbl := tb_in_2 (List.mem_of_getElem? (l := tables_1_2) (i := 5) rfl)
theorem fn_X6_119 : Cond.fieldLinkNest RX6 119 "Timesheets$Employee" "breaks" "LTimesheets$Table;" "Timesheets" ∈ lw_tbl := tb_in_2 (List.mem_of_getElem? (l := tables_1_2) (i := 8) rfl)
theorem fn_X6_122 : Cond.fieldLinkNest RX6 122 "Timesheets$Premiums" "rows" "LTimesheets$Table;" "Timesheets" ∈ lw_tbl := tb_in_1 (List.mem_of_getElem? (l := tables_1_1) (i := 49) rfl)
theorem fn_X6_139 : Cond.fieldLinkNest RX6 139 "Timesheets$Payroll" "parts" "LTimesheets$Table;" "Timesheets" ∈ lw_tbl := tb_in_1 (List.mem_of_getElem? (l := tables_1_1) (i := 108) rfl)
theorem fn_X6_149 : Cond.fieldLinkNest RX6 149 "Timesheets$Employee" "weeksClosed" "I" "Timesheets" ∈ lw_tbl := tb_in_1 (List.mem_of_getElem? (l := tables_1_1) (i := 237) rfl)
theorem fn_X6_152 : Cond.fieldLinkNest RX6 152 "Timesheets$Employee" "earnings" "J" "Timesheets" ∈ lw_tbl := tb_in_1 (List.mem_of_getElem? (l := tables_1_1) (i := 239) rfl)
theorem fn_X6_161 : Cond.fieldLinkNest RX6 161 "Timesheets$Shifts" "spans" "LTimesheets$Table;" "Timesheets" ∈ lw_tbl := tb_in_1 (List.mem_of_getElem? (l := tables_1_1) (i := 75) rfl)
theorem fn_X6_167 : Cond.fieldLinkNest RX6 167 "Timesheets$Shifts" "repaired" "I" "Timesheets" ∈ lw_tbl := tb_in_1 (List.mem_of_getElem? (l := tables_1_1) (i := 77) rfl)
theorem fn_X6_174 : Cond.fieldLinkNest RX6 174 "Timesheets$Timeline" "coveredTwice" "I" "Timesheets" ∈ lw_tbl := tb_in_1 (List.mem_of_getElem? (l := tables_1_1) (i := 92) rfl)
theorem fn_X6_177 : Cond.fieldLinkNest RX6 177 "Timesheets$Timeline" "stretchList" "LTimesheets$Table;" "Timesheets" ∈ lw_tbl := tb_in_1 (List.mem_of_getElem? (l := tables_1_1) (i := 90) rfl)
theorem vl_L_8 : VL RL 8 yX6_minutes cX6_minutes 5 (some .int) := ⟨kw_158, kw_159, kw_160, kw_2, kw_161, by decide +kernel, by decide +kernel⟩
theorem vl_L_14 : VL RL 14 yX6_quarters cX6_quarters 5 (some .int) := ⟨kw_262, kw_263, kw_264, kw_2, kw_265, by decide +kernel, by decide +kernel⟩
theorem sl_L_17 : SL RL 17 yL_reads cL_reads 4 none := ⟨kw_155, kw_156, kw_73, kw_157, by decide +kernel, by decide +kernel, rfl⟩
theorem sl_L_23 : SL RL 23 yL_weekOf cL_weekOf 10 (some .int) := ⟨kw_275, kw_276, kw_73, kw_277, by decide +kernel, by decide +kernel, rfl⟩
theorem vl_L_27 : VL RL 27 yX6_premiumPay cX6_premiumPay 2 (some .int) := ⟨kw_278, kw_279, kw_280, kw_2, kw_281, by decide +kernel, by decide +kernel⟩
theorem vl_L_31 : VL RL 31 yX6_pay cX6_pay 3 (some .int) := ⟨kw_304, kw_305, kw_306, kw_2, kw_307, by decide +kernel, by decide +kernel⟩
theorem vl_L_34 : VL RL 34 yX6_workedOn cX6_workedOn 4 (some .int) := ⟨kw_312, kw_313, kw_314, kw_2, kw_315, by decide +kernel, by decide +kernel⟩
theorem vl_L_38 : VL RL 38 yX6_shifts cX6_shifts 2 (some .int) := ⟨kw_338, kw_339, kw_340, kw_2, kw_341, by decide +kernel, by decide +kernel⟩
theorem vl_L_41 : VL RL 41 yX6_stretches cX6_stretches 2 (some .int) := ⟨kw_343, kw_344, kw_345, kw_2, kw_346, by decide +kernel, by decide +kernel⟩
theorem vl_L_44 : VL RL 44 yX6_overlap cX6_overlap 2 (some .int) := ⟨kw_347, kw_348, kw_349, kw_2, kw_350, by decide +kernel, by decide +kernel⟩
theorem vl_L_47 : VL RL 47 yX6_longestStretch cX6_longestStretch 2 (some .int) := ⟨kw_351, kw_352, kw_353, kw_2, kw_354, by decide +kernel, by decide +kernel⟩
theorem vl_L_50 : VL RL 50 yX6_repairedShifts cX6_repairedShifts 2 (some .int) := ⟨kw_358, kw_359, kw_360, kw_2, kw_361, by decide +kernel, by decide +kernel⟩
theorem sl_L_54 : SL RL 54 yL_cell cL_cell 2 (some .int) := ⟨kw_71, kw_72, kw_73, kw_74, by decide +kernel, by decide +kernel, rfl⟩
theorem sl_L_58 : SL RL 58 yL_low cL_low 2 (some .int) := ⟨kw_75, kw_76, kw_73, kw_77, by decide +kernel, by decide +kernel, rfl⟩
theorem vl_L_61 : VL RL 61 yX6_hire cX6_hire 3 (some .int) := ⟨kw_79, kw_80, kw_81, kw_2, kw_82, by decide +kernel, by decide +kernel⟩
theorem vl_L_64 : VL RL 64 yX6_addPremium cX6_addPremium 5 (some .int) := ⟨kw_105, kw_106, kw_107, kw_2, kw_108, by decide +kernel, by decide +kernel⟩
theorem vl_L_68 : VL RL 68 yX6_enter cX6_enter 4 (some .int) := ⟨kw_129, kw_130, kw_131, kw_2, kw_132, by decide +kernel, by decide +kernel⟩
theorem vl_L_71 : VL RL 71 yX6_enterBreak cX6_enterBreak 4 (some .int) := ⟨kw_148, kw_149, kw_150, kw_2, kw_151, by decide +kernel, by decide +kernel⟩
theorem sl_L_74 : SL RL 74 yL_isPaid cL_isPaid 14 (some .boolean) := ⟨kw_152, kw_153, kw_73, kw_154, by decide +kernel, by decide +kernel, rfl⟩
theorem vl_L_78 : VL RL 78 yX6_closeWeek cX6_closeWeek 4 (some .int) := ⟨kw_318, kw_319, kw_320, kw_2, kw_321, by decide +kernel, by decide +kernel⟩
theorem vl_L_81 : VL RL 81 yX6_earned cX6_earned 2 (some .long) := ⟨kw_327, kw_328, kw_329, kw_2, kw_330, by decide +kernel, by decide +kernel⟩
theorem vl_L_85 : VL RL 85 yX6_closedWeeks cX6_closedWeeks 2 (some .int) := ⟨kw_331, kw_332, kw_333, kw_2, kw_334, by decide +kernel, by decide +kernel⟩
theorem sl_L_88 : SL RL 88 yL_isEmpty cL_isEmpty 2 (some .boolean) := ⟨kw_335, kw_336, kw_73, kw_337, by decide +kernel, by decide +kernel, rfl⟩
theorem vl_X0_37 : VL RX0 37 yX4_clear cX4_clear 1 none := ⟨kw_326, kw_175, kw_176, kw_29, kw_177, by decide +kernel, by decide +kernel⟩
theorem vl_X1_30 : VL RX1 30 yX5_read cX5_read 2 none := ⟨kw_166, kw_167, kw_168, kw_44, kw_169, by decide +kernel, by decide +kernel⟩
theorem vl_X1_37 : VL RX1 37 yX1_takeOffAutomaticBreaks cX1_takeOffAutomaticBreaks 5 none := ⟨kw_224, kw_225, kw_226, kw_19, kw_227, by decide +kernel, by decide +kernel⟩
theorem vl_X1_41 : VL RX1 41 yX4_clear cX4_clear 1 none := ⟨kw_229, kw_175, kw_176, kw_29, kw_177, by decide +kernel, by decide +kernel⟩
theorem vl_X1_44 : VL RX1 44 yX1_isFull cX1_isFull 3 (some .boolean) := ⟨kw_233, kw_234, kw_235, kw_19, kw_236, by decide +kernel, by decide +kernel⟩
theorem vl_X1_48 : VL RX1 48 yX1_addPartsOfDay cX1_addPartsOfDay 8 none := ⟨kw_242, kw_243, kw_244, kw_19, kw_245, by decide +kernel, by decide +kernel⟩
theorem mn_X1_52 : Cond.methodLinkNest RX1 52 yX6_minutesOnDay "Timesheets" ∈ lw_tbl := tb_in_2 (List.mem_of_getElem? (l := tables_1_2) (i := 163) rfl)
theorem vl_X1_56 : VL RX1 56 yX4_size cX4_size 1 (some .int) := ⟨kw_230, kw_113, kw_114, kw_29, kw_115, by decide +kernel, by decide +kernel⟩
theorem vl_X1_60 : VL RX1 60 yX4_get cX4_get 4 (some .int) := ⟨kw_231, kw_183, kw_184, kw_29, kw_185, by decide +kernel, by decide +kernel⟩
theorem vl_X1_69 : VL RX1 69 yX4_addSpan cX4_addSpan 4 none := ⟨kw_232, kw_143, kw_144, kw_29, kw_145, by decide +kernel, by decide +kernel⟩
theorem vl_X1_75 : VL RX1 75 yX1_addParts cX1_addParts 12 none := ⟨kw_247, kw_248, kw_249, kw_19, kw_250, by decide +kernel, by decide +kernel⟩
theorem sl_X1_79 : SL RX1 79 yX1_untilLimit cX1_untilLimit 3 (some .int) := ⟨kw_251, kw_252, kw_19, kw_253, by decide +kernel, by decide +kernel, rfl⟩
theorem sl_X1_82 : SL RX1 82 yX1_categoryFor cX1_categoryFor 3 (some .int) := ⟨kw_254, kw_255, kw_19, kw_256, by decide +kernel, by decide +kernel, rfl⟩
theorem vl_X1_86 : VL RX1 86 yX4_set cX4_set 5 none := ⟨kw_257, kw_126, kw_127, kw_29, kw_128, by decide +kernel, by decide +kernel⟩
theorem vl_X1_90 : VL RX1 90 yX1_minutesOf cX1_minutesOf 5 (some .int) := ⟨kw_270, kw_259, kw_260, kw_19, kw_261, by decide +kernel, by decide +kernel⟩
theorem vl_X1_93 : VL RX1 93 yX1_quartersOfWeek cX1_quartersOfWeek 4 (some .int) := ⟨kw_271, kw_272, kw_273, kw_19, kw_274, by decide +kernel, by decide +kernel⟩
theorem vl_X2_20 : VL RX2 20 yX4_size cX4_size 1 (some .int) := ⟨kw_120, kw_113, kw_114, kw_29, kw_115, by decide +kernel, by decide +kernel⟩
theorem vl_X2_24 : VL RX2 24 yX4_insert cX4_insert 3 none := ⟨kw_121, kw_122, kw_123, kw_29, kw_124, by decide +kernel, by decide +kernel⟩
theorem vl_X2_28 : VL RX2 28 yX4_set cX4_set 5 none := ⟨kw_125, kw_126, kw_127, kw_29, kw_128, by decide +kernel, by decide +kernel⟩
theorem vl_X2_32 : VL RX2 32 yX4_get cX4_get 4 (some .int) := ⟨kw_286, kw_183, kw_184, kw_29, kw_185, by decide +kernel, by decide +kernel⟩
theorem vl_X2_36 : VL RX2 36 yX2_sumOver cX2_sumOver 8 (some .int) := ⟨kw_287, kw_288, kw_289, kw_15, kw_290, by decide +kernel, by decide +kernel⟩
theorem vl_X2_39 : VL RX2 39 yX2_nextChange cX2_nextChange 6 (some .int) := ⟨kw_292, kw_293, kw_294, kw_15, kw_295, by decide +kernel, by decide +kernel⟩
theorem vl_X2_48 : VL RX2 48 yX2_greatestRate cX2_greatestRate 6 (some .int) := ⟨kw_296, kw_297, kw_298, kw_15, kw_299, by decide +kernel, by decide +kernel⟩
theorem sl_X2_51 : SL RX2 51 yX2_isBetween cX2_isBetween 3 (some .boolean) := ⟨kw_301, kw_302, kw_15, kw_303, by decide +kernel, by decide +kernel, rfl⟩
theorem vl_X3_24 : VL RX3 24 yX4_clear cX4_clear 1 none := ⟨kw_174, kw_175, kw_176, kw_29, kw_177, by decide +kernel, by decide +kernel⟩
theorem vl_X3_27 : VL RX3 27 yX4_size cX4_size 1 (some .int) := ⟨kw_178, kw_113, kw_114, kw_29, kw_115, by decide +kernel, by decide +kernel⟩
theorem sl_X3_31 : SL RX3 31 yX3_isIn cX3_isIn 2 (some .boolean) := ⟨kw_179, kw_180, kw_55, kw_181, by decide +kernel, by decide +kernel, rfl⟩
theorem vl_X3_35 : VL RX3 35 yX3_addFromIn cX3_addFromIn 6 none := ⟨kw_186, kw_187, kw_188, kw_55, kw_189, by decide +kernel, by decide +kernel⟩
theorem vl_X3_39 : VL RX3 39 yX3_addFromLoneOut cX3_addFromLoneOut 5 none := ⟨kw_195, kw_196, kw_197, kw_55, kw_198, by decide +kernel, by decide +kernel⟩
theorem vl_X3_42 : VL RX3 42 yX4_get cX4_get 4 (some .int) := ⟨kw_182, kw_183, kw_184, kw_29, kw_185, by decide +kernel, by decide +kernel⟩
theorem vl_X3_51 : VL RX3 51 yX4_addSpan cX4_addSpan 4 none := ⟨kw_194, kw_143, kw_144, kw_29, kw_145, by decide +kernel, by decide +kernel⟩
theorem vl_X4_22 : VL RX4 22 yX4_insert cX4_insert 3 none := ⟨kw_146, kw_122, kw_123, kw_29, kw_124, by decide +kernel, by decide +kernel⟩
theorem vl_X4_26 : VL RX4 26 yX4_set cX4_set 5 none := ⟨kw_147, kw_126, kw_127, kw_29, kw_128, by decide +kernel, by decide +kernel⟩
theorem vl_X5_39 : VL RX5 39 yX3_read cX3_read 3 none := ⟨kw_170, kw_171, kw_172, kw_55, kw_173, by decide +kernel, by decide +kernel⟩
theorem vl_X5_43 : VL RX5 43 yX4_clear cX4_clear 1 none := ⟨kw_202, kw_175, kw_176, kw_29, kw_177, by decide +kernel, by decide +kernel⟩
theorem vl_X5_49 : VL RX5 49 yX5_addEvents cX5_addEvents 5 none := ⟨kw_203, kw_204, kw_205, kw_44, kw_206, by decide +kernel, by decide +kernel⟩
theorem vl_X5_59 : VL RX5 59 yX5_goThroughEvents cX5_goThroughEvents 6 none := ⟨kw_215, kw_216, kw_217, kw_44, kw_218, by decide +kernel, by decide +kernel⟩
theorem vl_X5_62 : VL RX5 62 yX4_size cX4_size 1 (some .int) := ⟨kw_207, kw_113, kw_114, kw_29, kw_115, by decide +kernel, by decide +kernel⟩
theorem vl_X5_66 : VL RX5 66 yX4_get cX4_get 4 (some .int) := ⟨kw_208, kw_183, kw_184, kw_29, kw_185, by decide +kernel, by decide +kernel⟩
theorem vl_X5_70 : VL RX5 70 yX5_addEvent cX5_addEvent 6 none := ⟨kw_209, kw_210, kw_211, kw_44, kw_212, by decide +kernel, by decide +kernel⟩
theorem vl_X5_74 : VL RX5 74 yX4_insert cX4_insert 3 none := ⟨kw_213, kw_122, kw_123, kw_29, kw_124, by decide +kernel, by decide +kernel⟩
theorem vl_X5_78 : VL RX5 78 yX4_set cX4_set 5 none := ⟨kw_214, kw_126, kw_127, kw_29, kw_128, by decide +kernel, by decide +kernel⟩
theorem vl_X5_81 : VL RX5 81 yX5_addWorked cX5_addWorked 4 none := ⟨kw_219, kw_220, kw_221, kw_44, kw_222, by decide +kernel, by decide +kernel⟩
theorem vl_X5_84 : VL RX5 84 yX4_addSpan cX4_addSpan 4 none := ⟨kw_223, kw_143, kw_144, kw_29, kw_145, by decide +kernel, by decide +kernel⟩
theorem sl_X6_46 : SL RX6 46 yX6_requireWithin cX6_requireWithin 3 none := ⟨kw_88, kw_89, kw_2, kw_90, by decide +kernel, by decide +kernel, rfl⟩
theorem vl_X6_60 : VL RX6 60 yX6_find cX6_find 3 (some (.object "Timesheets$Employee")) := ⟨kw_133, kw_134, kw_135, kw_2, kw_136, by decide +kernel, by decide +kernel⟩
theorem sl_X6_71 : SL RX6 71 yX6_requireRoom cX6_requireRoom 2 none := ⟨kw_109, kw_110, kw_2, kw_111, by decide +kernel, by decide +kernel, rfl⟩
theorem vl_X6_93 : VL RX6 93 yX4_size cX4_size 1 (some .int) := ⟨kw_112, kw_113, kw_114, kw_29, kw_115, by decide +kernel, by decide +kernel⟩
theorem vl_X6_102 : VL RX6 102 yX4_get cX4_get 4 (some .int) := ⟨kw_241, kw_183, kw_184, kw_29, kw_185, by decide +kernel, by decide +kernel⟩
theorem sl_X6_112 : SL RX6 112 yX6_addByHand cX6_addByHand 4 (some .int) := ⟨kw_139, kw_140, kw_2, kw_141, by decide +kernel, by decide +kernel, rfl⟩
theorem vl_X6_125 : VL RX6 125 yX2_add cX2_add 6 (some .int) := ⟨kw_116, kw_117, kw_118, kw_15, kw_119, by decide +kernel, by decide +kernel⟩
theorem vl_X6_131 : VL RX6 131 yX1_read cX1_read 5 none := ⟨kw_162, kw_163, kw_164, kw_19, kw_165, by decide +kernel, by decide +kernel⟩
theorem vl_X6_135 : VL RX6 135 yX1_basicPay cX1_basicPay 3 (some .int) := ⟨kw_308, kw_309, kw_310, kw_19, kw_311, by decide +kernel, by decide +kernel⟩
theorem vl_X6_142 : VL RX6 142 yX2_payFor cX2_payFor 4 (some .int) := ⟨kw_282, kw_283, kw_284, kw_15, kw_285, by decide +kernel, by decide +kernel⟩
theorem vl_X6_146 : VL RX6 146 yX0_beginNextWeek cX0_beginNextWeek 2 none := ⟨kw_322, kw_323, kw_324, kw_87, kw_325, by decide +kernel, by decide +kernel⟩
theorem vl_X6_156 : VL RX6 156 yX3_read cX3_read 3 none := ⟨kw_342, kw_171, kw_172, kw_55, kw_173, by decide +kernel, by decide +kernel⟩
theorem vl_X6_173 : VL RX6 173 yX5_read cX5_read 2 none := ⟨kw_316, kw_167, kw_168, kw_44, kw_169, by decide +kernel, by decide +kernel⟩
theorem sl_X6_180 : SL RX6 180 yX6_minutesOnDay cX6_minutesOnDay 6 (some .int) := ⟨kw_317, kw_237, kw_2, kw_238, by decide +kernel, by decide +kernel, rfl⟩
theorem sl_X6_183 : SL RX6 183 yX6_longest cX6_longest 3 (some .int) := ⟨kw_355, kw_356, kw_2, kw_357, by decide +kernel, by decide +kernel, rfl⟩
theorem vl_X6_189 : VL RX6 189 yX1_minutesOf cX1_minutesOf 5 (some .int) := ⟨kw_258, kw_259, kw_260, kw_19, kw_261, by decide +kernel, by decide +kernel⟩
theorem vl_X6_192 : VL RX6 192 yX1_quartersOf cX1_quartersOf 9 (some .int) := ⟨kw_266, kw_267, kw_268, kw_19, kw_269, by decide +kernel, by decide +kernel⟩
theorem vl_X6_209 : VL RX6 209 yX4_addSpan cX4_addSpan 4 none := ⟨kw_142, kw_143, kw_144, kw_29, kw_145, by decide +kernel, by decide +kernel⟩
theorem pd_yL_cell : (parseMethodDescriptor yL_cell.desc).map (fun d => d.parameters.length) = some 2 := by decide +kernel
theorem pd_yL_isEmpty : (parseMethodDescriptor yL_isEmpty.desc).map (fun d => d.parameters.length) = some 2 := by decide +kernel
theorem pd_yL_isPaid : (parseMethodDescriptor yL_isPaid.desc).map (fun d => d.parameters.length) = some 5 := by decide +kernel
theorem pd_yL_low : (parseMethodDescriptor yL_low.desc).map (fun d => d.parameters.length) = some 2 := by decide +kernel
theorem pd_yL_reads : (parseMethodDescriptor yL_reads.desc).map (fun d => d.parameters.length) = some 3 := by decide +kernel
theorem pd_yL_weekOf : (parseMethodDescriptor yL_weekOf.desc).map (fun d => d.parameters.length) = some 3 := by decide +kernel
theorem pd_yX0_beginNextWeek : (parseMethodDescriptor yX0_beginNextWeek.desc).map (fun d => d.parameters.length) = some 1 := by decide +kernel
theorem pd_yX1_addParts : (parseMethodDescriptor yX1_addParts.desc).map (fun d => d.parameters.length) = some 5 := by decide +kernel
theorem pd_yX1_addPartsOfDay : (parseMethodDescriptor yX1_addPartsOfDay.desc).map (fun d => d.parameters.length) = some 3 := by decide +kernel
theorem pd_yX1_basicPay : (parseMethodDescriptor yX1_basicPay.desc).map (fun d => d.parameters.length) = some 1 := by decide +kernel
theorem pd_yX1_categoryFor : (parseMethodDescriptor yX1_categoryFor.desc).map (fun d => d.parameters.length) = some 3 := by decide +kernel
theorem pd_yX1_isFull : (parseMethodDescriptor yX1_isFull.desc).map (fun d => d.parameters.length) = some 0 := by decide +kernel
theorem pd_yX1_minutesOf : (parseMethodDescriptor yX1_minutesOf.desc).map (fun d => d.parameters.length) = some 2 := by decide +kernel
theorem pd_yX1_quartersOf : (parseMethodDescriptor yX1_quartersOf.desc).map (fun d => d.parameters.length) = some 2 := by decide +kernel
theorem pd_yX1_quartersOfWeek : (parseMethodDescriptor yX1_quartersOfWeek.desc).map (fun d => d.parameters.length) = some 1 := by decide +kernel
theorem pd_yX1_read : (parseMethodDescriptor yX1_read.desc).map (fun d => d.parameters.length) = some 1 := by decide +kernel
theorem pd_yX1_takeOffAutomaticBreaks : (parseMethodDescriptor yX1_takeOffAutomaticBreaks.desc).map (fun d => d.parameters.length) = some 1 := by decide +kernel
theorem pd_yX1_untilLimit : (parseMethodDescriptor yX1_untilLimit.desc).map (fun d => d.parameters.length) = some 2 := by decide +kernel
theorem pd_yX2_add : (parseMethodDescriptor yX2_add.desc).map (fun d => d.parameters.length) = some 4 := by decide +kernel
theorem pd_yX2_greatestRate : (parseMethodDescriptor yX2_greatestRate.desc).map (fun d => d.parameters.length) = some 2 := by decide +kernel
theorem pd_yX2_isBetween : (parseMethodDescriptor yX2_isBetween.desc).map (fun d => d.parameters.length) = some 3 := by decide +kernel
theorem pd_yX2_nextChange : (parseMethodDescriptor yX2_nextChange.desc).map (fun d => d.parameters.length) = some 1 := by decide +kernel
theorem pd_yX2_payFor : (parseMethodDescriptor yX2_payFor.desc).map (fun d => d.parameters.length) = some 1 := by decide +kernel
theorem pd_yX2_sumOver : (parseMethodDescriptor yX2_sumOver.desc).map (fun d => d.parameters.length) = some 2 := by decide +kernel
theorem pd_yX3_addFromIn : (parseMethodDescriptor yX3_addFromIn.desc).map (fun d => d.parameters.length) = some 2 := by decide +kernel
theorem pd_yX3_addFromLoneOut : (parseMethodDescriptor yX3_addFromLoneOut.desc).map (fun d => d.parameters.length) = some 2 := by decide +kernel
theorem pd_yX3_isIn : (parseMethodDescriptor yX3_isIn.desc).map (fun d => d.parameters.length) = some 2 := by decide +kernel
theorem pd_yX3_read : (parseMethodDescriptor yX3_read.desc).map (fun d => d.parameters.length) = some 1 := by decide +kernel
theorem pd_yX4_addSpan : (parseMethodDescriptor yX4_addSpan.desc).map (fun d => d.parameters.length) = some 2 := by decide +kernel
theorem pd_yX4_clear : (parseMethodDescriptor yX4_clear.desc).map (fun d => d.parameters.length) = some 0 := by decide +kernel
theorem pd_yX4_get : (parseMethodDescriptor yX4_get.desc).map (fun d => d.parameters.length) = some 2 := by decide +kernel
theorem pd_yX4_insert : (parseMethodDescriptor yX4_insert.desc).map (fun d => d.parameters.length) = some 1 := by decide +kernel
theorem pd_yX4_set : (parseMethodDescriptor yX4_set.desc).map (fun d => d.parameters.length) = some 3 := by decide +kernel
theorem pd_yX4_size : (parseMethodDescriptor yX4_size.desc).map (fun d => d.parameters.length) = some 0 := by decide +kernel
theorem pd_yX5_addEvent : (parseMethodDescriptor yX5_addEvent.desc).map (fun d => d.parameters.length) = some 3 := by decide +kernel
theorem pd_yX5_addEvents : (parseMethodDescriptor yX5_addEvents.desc).map (fun d => d.parameters.length) = some 3 := by decide +kernel
theorem pd_yX5_addWorked : (parseMethodDescriptor yX5_addWorked.desc).map (fun d => d.parameters.length) = some 2 := by decide +kernel
theorem pd_yX5_goThroughEvents : (parseMethodDescriptor yX5_goThroughEvents.desc).map (fun d => d.parameters.length) = some 0 := by decide +kernel
theorem pd_yX5_read : (parseMethodDescriptor yX5_read.desc).map (fun d => d.parameters.length) = some 1 := by decide +kernel
theorem pd_yX6_addByHand : (parseMethodDescriptor yX6_addByHand.desc).map (fun d => d.parameters.length) = some 4 := by decide +kernel
theorem pd_yX6_addPremium : (parseMethodDescriptor yX6_addPremium.desc).map (fun d => d.parameters.length) = some 4 := by decide +kernel
theorem pd_yX6_closeWeek : (parseMethodDescriptor yX6_closeWeek.desc).map (fun d => d.parameters.length) = some 1 := by decide +kernel
theorem pd_yX6_closedWeeks : (parseMethodDescriptor yX6_closedWeeks.desc).map (fun d => d.parameters.length) = some 1 := by decide +kernel
theorem pd_yX6_earned : (parseMethodDescriptor yX6_earned.desc).map (fun d => d.parameters.length) = some 1 := by decide +kernel
theorem pd_yX6_enter : (parseMethodDescriptor yX6_enter.desc).map (fun d => d.parameters.length) = some 3 := by decide +kernel
theorem pd_yX6_enterBreak : (parseMethodDescriptor yX6_enterBreak.desc).map (fun d => d.parameters.length) = some 3 := by decide +kernel
theorem pd_yX6_find : (parseMethodDescriptor yX6_find.desc).map (fun d => d.parameters.length) = some 1 := by decide +kernel
theorem pd_yX6_hire : (parseMethodDescriptor yX6_hire.desc).map (fun d => d.parameters.length) = some 1 := by decide +kernel
theorem pd_yX6_longest : (parseMethodDescriptor yX6_longest.desc).map (fun d => d.parameters.length) = some 1 := by decide +kernel
theorem pd_yX6_longestStretch : (parseMethodDescriptor yX6_longestStretch.desc).map (fun d => d.parameters.length) = some 1 := by decide +kernel
theorem pd_yX6_minutes : (parseMethodDescriptor yX6_minutes.desc).map (fun d => d.parameters.length) = some 3 := by decide +kernel
theorem pd_yX6_minutesOnDay : (parseMethodDescriptor yX6_minutesOnDay.desc).map (fun d => d.parameters.length) = some 2 := by decide +kernel
theorem pd_yX6_overlap : (parseMethodDescriptor yX6_overlap.desc).map (fun d => d.parameters.length) = some 1 := by decide +kernel
theorem pd_yX6_pay : (parseMethodDescriptor yX6_pay.desc).map (fun d => d.parameters.length) = some 1 := by decide +kernel
theorem pd_yX6_premiumPay : (parseMethodDescriptor yX6_premiumPay.desc).map (fun d => d.parameters.length) = some 1 := by decide +kernel
theorem pd_yX6_quarters : (parseMethodDescriptor yX6_quarters.desc).map (fun d => d.parameters.length) = some 3 := by decide +kernel
theorem pd_yX6_repairedShifts : (parseMethodDescriptor yX6_repairedShifts.desc).map (fun d => d.parameters.length) = some 1 := by decide +kernel
theorem pd_yX6_requireRoom : (parseMethodDescriptor yX6_requireRoom.desc).map (fun d => d.parameters.length) = some 2 := by decide +kernel
theorem pd_yX6_requireWithin : (parseMethodDescriptor yX6_requireWithin.desc).map (fun d => d.parameters.length) = some 3 := by decide +kernel
theorem pd_yX6_shifts : (parseMethodDescriptor yX6_shifts.desc).map (fun d => d.parameters.length) = some 1 := by decide +kernel
theorem pd_yX6_stretches : (parseMethodDescriptor yX6_stretches.desc).map (fun d => d.parameters.length) = some 1 := by decide +kernel
theorem pd_yX6_workedOn : (parseMethodDescriptor yX6_workedOn.desc).map (fun d => d.parameters.length) = some 2 := by decide +kernel
